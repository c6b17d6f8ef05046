theorem nI_lti {a b : Nat} (ha : a < 2147483648) (hb : b < 2147483648) : (nI a < nI b) = (a < b) := by rw [lt_ti, nI_ti ha, nI_ti hb]; exact propext ⟨by omega, by omega⟩
theorem nI_lei {a b : Nat} (ha : a < 2147483648) (hb : b < 2147483648) : (nI a ≤ nI b) = (a ≤ b) := by rw [le_ti, nI_ti ha, nI_ti hb]; exact propext ⟨by omega, by omega⟩
theorem nI_eqi {a b : Nat} (ha : a < 2147483648) (hb : b < 2147483648) : (nI a = nI b) = (a = b) := by
  refine propext ⟨fun z => ?_, fun z => by rw [z]⟩
  have := congrArg Int32.toInt z
  rw [nI_ti ha, nI_ti hb] at this
  omega
theorem jmax {a b : Int} (ha : a.natAbs ≤ 2000000000000000) (hb : b.natAbs ≤ 2000000000000000) : (if (jI a).toInt < (jI b).toInt then jI b else jI a) = jI (if a < b then b else a) := by
  rw [jI_ti (by omega) (by omega), jI_ti (by omega) (by omega)]
  split <;> rfl
theorem sub10 {k : Nat} (h : k ≤ 10) : ((10 : Int32) - nI k).toInt64 = jI (10 - (k : Int)) := by
  rw [il_10, nI_iI, iI_sub, iI_l (by omega) (by omega)]
theorem il_100 : (100 : Int32) = iI 100 := rfl
theorem sub100 {k : Nat} (h : k ≤ 100) : ((100 : Int32) - nI k).toInt64 = jI (100 - (k : Int)) := by
  rw [il_100, nI_iI, iI_sub, iI_l (by omega) (by omega)]
theorem jl_never : (-1000000000000000 : Int64) = jI (-1000000000000000) := rfl
theorem jl_10 : (10 : Int64) = jI 10 := rfl
/-- longs at a hold V -/
def hV (a : Nat) (σ : wS) (cj : Nat → Nat → Int64) (V : Nat → Int) : Prop := ∀ s, isS σ s = true → cj a s = jI (V s)
theorem hV_fr {a : Nat} {σ : wS} {cj cj' : Nat → Nat → Int64} {V : Nat → Int} (h : cj' a = cj a) (r : hV a σ cj V) : hV a σ cj' V := by unfold hV; rw [h]; exact r
theorem hB_fr {σ : wS} {ci : Nat → Nat → Int32} {cj cj' : Nat → Nat → Int64} (h6 : cj' 66 = cj 66) (h7 : cj' 67 = cj 67) (r : hB σ ci cj) : hB σ ci cj' := by unfold hB; rw [h6, h7]; exact r
theorem mx2_bd {σ : wS} {s M : Nat} (hs : isS σ s = true) {V : Nat → Int} (hM : M ≤ 10000000000) (hV : bV σ V M) : (mx2 s V).natAbs ≤ 1000000000000000 := by
  have hlt := isS_lt hs
  unfold mx2
  split
  · have := hV (s - 25) (isS_sub hs (j := 2) (by decide) (by rw [frI_2]; omega)).1
    omega
  · omega
theorem mx1_bd {σ : wS} {s M : Nat} (hs : isS σ s = true) {V : Nat → Int} (hM : M ≤ 10000000000) (hV : bV σ V M) : (mx1 s V).natAbs ≤ 1000000000000000 := by
  have hlt := isS_lt hs
  have h2 := mx2_bd hs hM hV
  unfold mx1
  split
  · have := hV (s - 5) (isS_sub hs (j := 1) (by decide) (by rw [frI_1]; omega)).1
    split <;> omega
  · omega
theorem mx0_bd {σ : wS} {s M : Nat} (hs : isS σ s = true) {V : Nat → Int} (hM : M ≤ 10000000000) (hV : bV σ V M) : (mx0 s V).natAbs ≤ 1000000000000000 := by
  have hlt := isS_lt hs
  have h2 := mx1_bd hs hM hV
  unfold mx0
  split
  · have := hV (s - 1) (isS_sub hs (j := 0) (by decide) (by rw [frI_0]; omega)).1
    split <;> omega
  · omega
theorem mxz_bd {σ : wS} {s M : Nat} (hs : isS σ s = true) {V : Nat → Int} (hM : M ≤ 10000000000) (hV : bV σ V M) (j : Nat) : (mxz s V j).natAbs ≤ 1000000000000000 := by
  unfold mxz
  split
  · exact mx0_bd hs hM hV
  · split
    · exact mx1_bd hs hM hV
    · exact mx2_bd hs hM hV
section SUMS
variable {d : Nat} {ci : Nat → Nat → Int32} {cj0 : Nat → Nat → Int64} {g : am_G} {Q : Option Value → am_H → Prop} {w : Nat} {σ : wS} {V : Nat → Int} {M : Nat}
/-- lookAtBoxes -/
theorem c_92 (HH : ho g) {s : Nat} (hs : isS σ s = true) (hM : M ≤ 10000000000) (hb : bV σ V M) (hv : hV 61 σ cj0 V) (k : ∀ cj', (∀ x, x ≠ 68 → cj' x = cj0 x) → (∀ j, j < 3 → cj' 68 j = jI (mxz s V j)) → Q none (ci, cj', g)) : X (d + 1) 92 (am_bk 92 0) [.ref 60, .int (nI s), .null, .null, .null] [] (ci, cj0, g) Q := by
  have hlt := isS_lt hs
  have a2 := mx2_bd hs hM hb
  have a1 := mx1_bd hs hM hb
  have b4 : ∀ cj1 : Nat → Nat → Int64, (∀ x, x ≠ 68 → cj1 x = cj0 x) → cj1 68 2 = jI (mx2 s V) → cj1 68 1 = jI (mx1 s V) → X (d + 1) 92 (am_bk 92 4) [.ref 60, .int (nI s), .long (jI (mx0 s V)), .null, .int (nI (s % 25))] [] (ci, cj1, g) Q := by
    intro cj1 f e2 e1
    simp only [bk_92_4, bq_92_4, G_20, G_28, X_push, X_goto, X_fall, X_ifeq, X_ifne, X_iflt, X_ifge, X_ifgt, X_ifle, X_iceq, X_icne, X_iclt, X_icge, X_icgt, X_icle, X_ifnull, X_ifnonnull, X_switch, X_ireturn, X_lreturn, X_areturn, X_return, X_zreturn, X_iload, X_lload, X_aload, X_istore, X_astore, X_lstore, X_iinc, X_iadd, X_isub, X_imul, X_idiv, X_irem, X_iand, X_ior, X_ishl, X_ishr, X_iushr, X_ladd, X_lsub, X_lmul, X_ldiv, X_land, X_lor, X_lshl, X_lcmp, X_ineg, X_i2l, X_l2i, X_i2b, X_i2s, X_i2c, X_dupr, X_dupi, X_dup_x1, X_dup2, X_popi, X_popr, X_iaload, X_baload, X_laload, X_aaload, X_iastore, X_bastore, X_lastore, X_aastore, X_arraylength, am_wt_0, am_wt_int, am_wt_long, am_wt_ref, List.getElem?_cons_zero, List.getElem?_cons_succ, am_s1, am_s2, am_kill, List.set_cons_zero, List.set_cons_succ, List.length_cons, List.length_nil, Int.reduceToNat, Nat.reduceAdd, Nat.reduceLeDiff, Nat.reduceLT, Option.toList_some, Option.toList_none, List.cons_append, List.nil_append, true_and, and_true, true_or, or_true, false_or, or_false, and_self, false_and, not_false_eq_true, not_true_eq_false, ho_k HH, ho_r0 HH, ho_r1 HH, ho_r2 HH, ho_r3 HH, ho_r4 HH, ho_r6 HH, ho_r7 HH, ho_r8 HH, ho_a1 HH, ho_n1 HH, ho_a2 HH, ho_n2 HH, ho_a3 HH, ho_n3 HH, ho_a4 HH, ho_n4 HH, ho_a5 HH, ho_n5 HH, ho_a6 HH, ho_n6 HH, ho_a7 HH, ho_n7 HH, ho_a8 HH, ho_n8 HH, tn_0, tn_1, tn_2, tn_3, tn_4, tn_5, tn_6, tn_7, tn_8, in_0_1, in_0_2, in_1_2, in_0_3, in_1_3, in_2_3, in_0_4, in_1_4, in_2_4, in_3_4, in_0_5, in_1_5, in_2_5, in_3_5, in_4_5, in_0_6, in_1_6, in_2_6, in_3_6, in_4_6, in_5_6, in_0_8, in_1_8, in_2_8, in_3_8, in_4_8, in_5_8, in_6_8, in_7_8]
    refine k _ (fun x hx => ?_) ?_
    · rw [u2_a _ _ hx]; exact f x hx
    · apply three
      · rw [u2_s]; rfl
      · rw [u2_i _ _ (by decide)]; exact e1
      · rw [u2_i _ _ (by decide)]; exact e2
  have b3 : ∀ cj1 : Nat → Nat → Int64, (∀ x, x ≠ 68 → cj1 x = cj0 x) → cj1 68 2 = jI (mx2 s V) → X (d + 1) 92 (am_bk 92 3) [.ref 60, .int (nI s), .long (jI (mx1 s V)), .null, .int (nI (s % 25))] [] (ci, cj1, g) Q := by
    intro cj1 f e2
    have q1 : (∀ x, x ≠ 68 → am_u2 cj1 68 1 (jI (mx1 s V)) x = cj0 x) := fun x hx => by rw [u2_a _ _ hx]; exact f x hx
    have q2 : am_u2 cj1 68 1 (jI (mx1 s V)) 68 2 = jI (mx2 s V) := by rw [u2_i _ _ (by decide)]; exact e2
    have q3 : am_u2 cj1 68 1 (jI (mx1 s V)) 68 1 = jI (mx1 s V) := u2_s _ _ _ _
    have b := b4 _ q1 q2 q3
    by_cases c : 0 < s % 25 % 5
    · have e := hb (s - 1) (isS_sub hs (j := 0) (by decide) (by rw [frI_0]; omega)).1
      have e3 : mx0 s V = if mx1 s V < V (s - 1) then V (s - 1) else mx1 s V := by unfold mx0; rw [if_pos c]
      have e4 : cj1 61 (s - 1) = jI (V (s - 1)) := by rw [f 61 (by decide)]; exact hv _ (isS_sub hs (j := 0) (by decide) (by rw [frI_0]; omega)).1
      rw [e3] at b
      have c' : ¬ nI (s % 25 % 5) ≤ 0 := by rw [lit_0, nI_lei (by omega) (by omega)]; omega
      simp only [bk_92_3, bq_92_3, G_20, G_28, X_push, X_goto, X_fall, X_ifeq, X_ifne, X_iflt, X_ifge, X_ifgt, X_ifle, X_iceq, X_icne, X_iclt, X_icge, X_icgt, X_icle, X_ifnull, X_ifnonnull, X_switch, X_ireturn, X_lreturn, X_areturn, X_return, X_zreturn, X_iload, X_lload, X_aload, X_istore, X_astore, X_lstore, X_iinc, X_iadd, X_isub, X_imul, X_idiv, X_irem, X_iand, X_ior, X_ishl, X_ishr, X_iushr, X_ladd, X_lsub, X_lmul, X_ldiv, X_land, X_lor, X_lshl, X_lcmp, X_ineg, X_i2l, X_l2i, X_i2b, X_i2s, X_i2c, X_dupr, X_dupi, X_dup_x1, X_dup2, X_popi, X_popr, X_iaload, X_baload, X_laload, X_aaload, X_iastore, X_bastore, X_lastore, X_aastore, X_arraylength, am_wt_0, am_wt_int, am_wt_long, am_wt_ref, List.getElem?_cons_zero, List.getElem?_cons_succ, am_s1, am_s2, am_kill, List.set_cons_zero, List.set_cons_succ, List.length_cons, List.length_nil, Int.reduceToNat, Nat.reduceAdd, Nat.reduceLeDiff, Nat.reduceLT, Option.toList_some, Option.toList_none, List.cons_append, List.nil_append, true_and, and_true, true_or, or_true, false_or, or_false, and_self, false_and, not_false_eq_true, not_true_eq_false, ho_k HH, ho_r0 HH, ho_r1 HH, ho_r2 HH, ho_r3 HH, ho_r4 HH, ho_r6 HH, ho_r7 HH, ho_r8 HH, ho_a1 HH, ho_n1 HH, ho_a2 HH, ho_n2 HH, ho_a3 HH, ho_n3 HH, ho_a4 HH, ho_n4 HH, ho_a5 HH, ho_n5 HH, ho_a6 HH, ho_n6 HH, ho_a7 HH, ho_n7 HH, ho_a8 HH, ho_n8 HH, tn_0, tn_1, tn_2, tn_3, tn_4, tn_5, tn_6, tn_7, tn_8, in_0_1, in_0_2, in_1_2, in_0_3, in_1_3, in_2_3, in_0_4, in_1_4, in_2_4, in_3_4, in_0_5, in_1_5, in_2_5, in_3_5, in_4_5, in_0_6, in_1_6, in_2_6, in_3_6, in_4_6, in_5_6, in_0_8, in_1_8, in_2_8, in_3_8, in_4_8, in_5_8, in_6_8, in_7_8, lit_5, pk_rem (show s % 25 < 2 ^ 31 by omega) (show 0 < 5 by decide) (show 5 < 2 ^ 31 by decide), nz_nI (show 0 < 5 by decide) (show 5 < 2 ^ 31 by decide), c', if_false, (show nI s - (1 : Int32) = nI (s - 1) from pk_sub (show 1 ≤ s by omega)), in_nI (show s - 1 < 125 by omega) (show 125 < 2 ^ 31 by decide), tn_nI (show s - 1 < 2 ^ 31 by omega), u2_a _ _ (show 61 ≠ 68 by decide), e4, C_236, c_236, jmax (show (mx1 s V).natAbs ≤ 2000000000000000 by omega) (show (V (s - 1)).natAbs ≤ 2000000000000000 by omega)]
      exact b
    · have e3 : mx0 s V = mx1 s V := by unfold mx0; rw [if_neg c]
      have c' : nI (s % 25 % 5) ≤ 0 := by rw [lit_0, nI_lei (by omega) (by omega)]; omega
      rw [e3] at b
      simp only [bk_92_3, bq_92_3, G_20, G_28, X_push, X_goto, X_fall, X_ifeq, X_ifne, X_iflt, X_ifge, X_ifgt, X_ifle, X_iceq, X_icne, X_iclt, X_icge, X_icgt, X_icle, X_ifnull, X_ifnonnull, X_switch, X_ireturn, X_lreturn, X_areturn, X_return, X_zreturn, X_iload, X_lload, X_aload, X_istore, X_astore, X_lstore, X_iinc, X_iadd, X_isub, X_imul, X_idiv, X_irem, X_iand, X_ior, X_ishl, X_ishr, X_iushr, X_ladd, X_lsub, X_lmul, X_ldiv, X_land, X_lor, X_lshl, X_lcmp, X_ineg, X_i2l, X_l2i, X_i2b, X_i2s, X_i2c, X_dupr, X_dupi, X_dup_x1, X_dup2, X_popi, X_popr, X_iaload, X_baload, X_laload, X_aaload, X_iastore, X_bastore, X_lastore, X_aastore, X_arraylength, am_wt_0, am_wt_int, am_wt_long, am_wt_ref, List.getElem?_cons_zero, List.getElem?_cons_succ, am_s1, am_s2, am_kill, List.set_cons_zero, List.set_cons_succ, List.length_cons, List.length_nil, Int.reduceToNat, Nat.reduceAdd, Nat.reduceLeDiff, Nat.reduceLT, Option.toList_some, Option.toList_none, List.cons_append, List.nil_append, true_and, and_true, true_or, or_true, false_or, or_false, and_self, false_and, not_false_eq_true, not_true_eq_false, ho_k HH, ho_r0 HH, ho_r1 HH, ho_r2 HH, ho_r3 HH, ho_r4 HH, ho_r6 HH, ho_r7 HH, ho_r8 HH, ho_a1 HH, ho_n1 HH, ho_a2 HH, ho_n2 HH, ho_a3 HH, ho_n3 HH, ho_a4 HH, ho_n4 HH, ho_a5 HH, ho_n5 HH, ho_a6 HH, ho_n6 HH, ho_a7 HH, ho_n7 HH, ho_a8 HH, ho_n8 HH, tn_0, tn_1, tn_2, tn_3, tn_4, tn_5, tn_6, tn_7, tn_8, in_0_1, in_0_2, in_1_2, in_0_3, in_1_3, in_2_3, in_0_4, in_1_4, in_2_4, in_3_4, in_0_5, in_1_5, in_2_5, in_3_5, in_4_5, in_0_6, in_1_6, in_2_6, in_3_6, in_4_6, in_5_6, in_0_8, in_1_8, in_2_8, in_3_8, in_4_8, in_5_8, in_6_8, in_7_8, lit_5, pk_rem (show s % 25 < 2 ^ 31 by omega) (show 0 < 5 by decide) (show 5 < 2 ^ 31 by decide), nz_nI (show 0 < 5 by decide) (show 5 < 2 ^ 31 by decide), c', if_true]
      exact b
  have b2 : X (d + 1) 92 (am_bk 92 2) [.ref 60, .int (nI s), .null, .null, .null] [.long (jI (mx2 s V))] (ci, cj0, g) Q := by
    have q1 : (∀ x, x ≠ 68 → am_u2 cj0 68 2 (jI (mx2 s V)) x = cj0 x) := fun x hx => by rw [u2_a _ _ hx]
    have b := b3 _ q1 (u2_s _ _ _ _)
    by_cases c : 5 ≤ s % 25
    · have e := hb (s - 5) (isS_sub hs (j := 1) (by decide) (by rw [frI_1]; omega)).1
      have e3 : mx1 s V = if mx2 s V < V (s - 5) then V (s - 5) else mx2 s V := by unfold mx1; rw [if_pos c]
      have e4 : cj0 61 (s - 5) = jI (V (s - 5)) := hv _ (isS_sub hs (j := 1) (by decide) (by rw [frI_1]; omega)).1
      rw [e3] at b
      have c' : ¬ nI (s % 25) < nI 5 := by rw [nI_lti (by omega) (by omega)]; omega
      simp only [bk_92_2, bq_92_2, G_20, G_28, X_push, X_goto, X_fall, X_ifeq, X_ifne, X_iflt, X_ifge, X_ifgt, X_ifle, X_iceq, X_icne, X_iclt, X_icge, X_icgt, X_icle, X_ifnull, X_ifnonnull, X_switch, X_ireturn, X_lreturn, X_areturn, X_return, X_zreturn, X_iload, X_lload, X_aload, X_istore, X_astore, X_lstore, X_iinc, X_iadd, X_isub, X_imul, X_idiv, X_irem, X_iand, X_ior, X_ishl, X_ishr, X_iushr, X_ladd, X_lsub, X_lmul, X_ldiv, X_land, X_lor, X_lshl, X_lcmp, X_ineg, X_i2l, X_l2i, X_i2b, X_i2s, X_i2c, X_dupr, X_dupi, X_dup_x1, X_dup2, X_popi, X_popr, X_iaload, X_baload, X_laload, X_aaload, X_iastore, X_bastore, X_lastore, X_aastore, X_arraylength, am_wt_0, am_wt_int, am_wt_long, am_wt_ref, List.getElem?_cons_zero, List.getElem?_cons_succ, am_s1, am_s2, am_kill, List.set_cons_zero, List.set_cons_succ, List.length_cons, List.length_nil, Int.reduceToNat, Nat.reduceAdd, Nat.reduceLeDiff, Nat.reduceLT, Option.toList_some, Option.toList_none, List.cons_append, List.nil_append, true_and, and_true, true_or, or_true, false_or, or_false, and_self, false_and, not_false_eq_true, not_true_eq_false, ho_k HH, ho_r0 HH, ho_r1 HH, ho_r2 HH, ho_r3 HH, ho_r4 HH, ho_r6 HH, ho_r7 HH, ho_r8 HH, ho_a1 HH, ho_n1 HH, ho_a2 HH, ho_n2 HH, ho_a3 HH, ho_n3 HH, ho_a4 HH, ho_n4 HH, ho_a5 HH, ho_n5 HH, ho_a6 HH, ho_n6 HH, ho_a7 HH, ho_n7 HH, ho_a8 HH, ho_n8 HH, tn_0, tn_1, tn_2, tn_3, tn_4, tn_5, tn_6, tn_7, tn_8, in_0_1, in_0_2, in_1_2, in_0_3, in_1_3, in_2_3, in_0_4, in_1_4, in_2_4, in_3_4, in_0_5, in_1_5, in_2_5, in_3_5, in_4_5, in_0_6, in_1_6, in_2_6, in_3_6, in_4_6, in_5_6, in_0_8, in_1_8, in_2_8, in_3_8, in_4_8, in_5_8, in_6_8, in_7_8, lit_25, lit_5, pk_rem (show s < 2 ^ 31 by omega) (show 0 < 25 by decide) (show 25 < 2 ^ 31 by decide), nz_nI (show 0 < 25 by decide) (show 25 < 2 ^ 31 by decide), c', if_false, pk_sub (show 5 ≤ s by omega), in_nI (show s - 5 < 125 by omega) (show 125 < 2 ^ 31 by decide), tn_nI (show s - 5 < 2 ^ 31 by omega), u2_a _ _ (show 61 ≠ 68 by decide), e4, C_236, c_236, jmax (show (mx2 s V).natAbs ≤ 2000000000000000 by omega) (show (V (s - 5)).natAbs ≤ 2000000000000000 by omega)]
      exact b
    · have e3 : mx1 s V = mx2 s V := by unfold mx1; rw [if_neg c]
      have c' : nI (s % 25) < nI 5 := by rw [nI_lti (by omega) (by omega)]; omega
      rw [e3] at b
      simp only [bk_92_2, bq_92_2, G_20, G_28, X_push, X_goto, X_fall, X_ifeq, X_ifne, X_iflt, X_ifge, X_ifgt, X_ifle, X_iceq, X_icne, X_iclt, X_icge, X_icgt, X_icle, X_ifnull, X_ifnonnull, X_switch, X_ireturn, X_lreturn, X_areturn, X_return, X_zreturn, X_iload, X_lload, X_aload, X_istore, X_astore, X_lstore, X_iinc, X_iadd, X_isub, X_imul, X_idiv, X_irem, X_iand, X_ior, X_ishl, X_ishr, X_iushr, X_ladd, X_lsub, X_lmul, X_ldiv, X_land, X_lor, X_lshl, X_lcmp, X_ineg, X_i2l, X_l2i, X_i2b, X_i2s, X_i2c, X_dupr, X_dupi, X_dup_x1, X_dup2, X_popi, X_popr, X_iaload, X_baload, X_laload, X_aaload, X_iastore, X_bastore, X_lastore, X_aastore, X_arraylength, am_wt_0, am_wt_int, am_wt_long, am_wt_ref, List.getElem?_cons_zero, List.getElem?_cons_succ, am_s1, am_s2, am_kill, List.set_cons_zero, List.set_cons_succ, List.length_cons, List.length_nil, Int.reduceToNat, Nat.reduceAdd, Nat.reduceLeDiff, Nat.reduceLT, Option.toList_some, Option.toList_none, List.cons_append, List.nil_append, true_and, and_true, true_or, or_true, false_or, or_false, and_self, false_and, not_false_eq_true, not_true_eq_false, ho_k HH, ho_r0 HH, ho_r1 HH, ho_r2 HH, ho_r3 HH, ho_r4 HH, ho_r6 HH, ho_r7 HH, ho_r8 HH, ho_a1 HH, ho_n1 HH, ho_a2 HH, ho_n2 HH, ho_a3 HH, ho_n3 HH, ho_a4 HH, ho_n4 HH, ho_a5 HH, ho_n5 HH, ho_a6 HH, ho_n6 HH, ho_a7 HH, ho_n7 HH, ho_a8 HH, ho_n8 HH, tn_0, tn_1, tn_2, tn_3, tn_4, tn_5, tn_6, tn_7, tn_8, in_0_1, in_0_2, in_1_2, in_0_3, in_1_3, in_2_3, in_0_4, in_1_4, in_2_4, in_3_4, in_0_5, in_1_5, in_2_5, in_3_5, in_4_5, in_0_6, in_1_6, in_2_6, in_3_6, in_4_6, in_5_6, in_0_8, in_1_8, in_2_8, in_3_8, in_4_8, in_5_8, in_6_8, in_7_8, lit_25, lit_5, pk_rem (show s < 2 ^ 31 by omega) (show 0 < 25 by decide) (show 25 < 2 ^ 31 by decide), nz_nI (show 0 < 25 by decide) (show 25 < 2 ^ 31 by decide), c', if_true]
      exact b
  by_cases c : 25 ≤ s
  · have e3 : mx2 s V = V (s - 25) := by unfold mx2; rw [if_pos c]
    have e4 : cj0 61 (s - 25) = jI (V (s - 25)) := hv _ (isS_sub hs (j := 2) (by decide) (by rw [frI_2]; omega)).1
    rw [e3] at b2
    have c' : ¬ nI s < nI 25 := by rw [nI_lti (by omega) (by omega)]; omega
    simp only [bk_92_0, bq_92_0, G_20, G_28, X_push, X_goto, X_fall, X_ifeq, X_ifne, X_iflt, X_ifge, X_ifgt, X_ifle, X_iceq, X_icne, X_iclt, X_icge, X_icgt, X_icle, X_ifnull, X_ifnonnull, X_switch, X_ireturn, X_lreturn, X_areturn, X_return, X_zreturn, X_iload, X_lload, X_aload, X_istore, X_astore, X_lstore, X_iinc, X_iadd, X_isub, X_imul, X_idiv, X_irem, X_iand, X_ior, X_ishl, X_ishr, X_iushr, X_ladd, X_lsub, X_lmul, X_ldiv, X_land, X_lor, X_lshl, X_lcmp, X_ineg, X_i2l, X_l2i, X_i2b, X_i2s, X_i2c, X_dupr, X_dupi, X_dup_x1, X_dup2, X_popi, X_popr, X_iaload, X_baload, X_laload, X_aaload, X_iastore, X_bastore, X_lastore, X_aastore, X_arraylength, am_wt_0, am_wt_int, am_wt_long, am_wt_ref, List.getElem?_cons_zero, List.getElem?_cons_succ, am_s1, am_s2, am_kill, List.set_cons_zero, List.set_cons_succ, List.length_cons, List.length_nil, Int.reduceToNat, Nat.reduceAdd, Nat.reduceLeDiff, Nat.reduceLT, Option.toList_some, Option.toList_none, List.cons_append, List.nil_append, true_and, and_true, true_or, or_true, false_or, or_false, and_self, false_and, not_false_eq_true, not_true_eq_false, ho_k HH, ho_r0 HH, ho_r1 HH, ho_r2 HH, ho_r3 HH, ho_r4 HH, ho_r6 HH, ho_r7 HH, ho_r8 HH, ho_a1 HH, ho_n1 HH, ho_a2 HH, ho_n2 HH, ho_a3 HH, ho_n3 HH, ho_a4 HH, ho_n4 HH, ho_a5 HH, ho_n5 HH, ho_a6 HH, ho_n6 HH, ho_a7 HH, ho_n7 HH, ho_a8 HH, ho_n8 HH, lit_25, c', if_false, pk_sub c, in_nI (show s - 25 < 125 by omega) (show 125 < 2 ^ 31 by decide), tn_nI (show s - 25 < 2 ^ 31 by omega), e4]
    exact b2
  · have e3 : mx2 s V = -1000000000000000 := by unfold mx2; rw [if_neg c]
    rw [e3] at b2
    have c' : nI s < nI 25 := by rw [nI_lti (by omega) (by omega)]; omega
    simp only [bk_92_0, bq_92_0, bk_92_1, bq_92_1, G_20, G_28, X_push, X_goto, X_fall, X_ifeq, X_ifne, X_iflt, X_ifge, X_ifgt, X_ifle, X_iceq, X_icne, X_iclt, X_icge, X_icgt, X_icle, X_ifnull, X_ifnonnull, X_switch, X_ireturn, X_lreturn, X_areturn, X_return, X_zreturn, X_iload, X_lload, X_aload, X_istore, X_astore, X_lstore, X_iinc, X_iadd, X_isub, X_imul, X_idiv, X_irem, X_iand, X_ior, X_ishl, X_ishr, X_iushr, X_ladd, X_lsub, X_lmul, X_ldiv, X_land, X_lor, X_lshl, X_lcmp, X_ineg, X_i2l, X_l2i, X_i2b, X_i2s, X_i2c, X_dupr, X_dupi, X_dup_x1, X_dup2, X_popi, X_popr, X_iaload, X_baload, X_laload, X_aaload, X_iastore, X_bastore, X_lastore, X_aastore, X_arraylength, am_wt_0, am_wt_int, am_wt_long, am_wt_ref, List.getElem?_cons_zero, List.getElem?_cons_succ, am_s1, am_s2, am_kill, List.set_cons_zero, List.set_cons_succ, List.length_cons, List.length_nil, Int.reduceToNat, Nat.reduceAdd, Nat.reduceLeDiff, Nat.reduceLT, Option.toList_some, Option.toList_none, List.cons_append, List.nil_append, true_and, and_true, true_or, or_true, false_or, or_false, and_self, false_and, not_false_eq_true, not_true_eq_false, ho_k HH, ho_r0 HH, ho_r1 HH, ho_r2 HH, ho_r3 HH, ho_r4 HH, ho_r6 HH, ho_r7 HH, ho_r8 HH, ho_a1 HH, ho_n1 HH, ho_a2 HH, ho_n2 HH, ho_a3 HH, ho_n3 HH, ho_a4 HH, ho_n4 HH, ho_a5 HH, ho_n5 HH, ho_a6 HH, ho_n6 HH, ho_a7 HH, ho_n7 HH, ho_a8 HH, ho_n8 HH, lit_25, c', if_true, jl_never]
    exact b2
/-- sumBest: the loop over sorts -/
theorem l_91b (H : wo g w) (HH : ho g) (O : wOK σ) (hw : wR ci w σ) {s i : Nat} (hs : isS σ s = true) (hM : M ≤ 10000000000) (hb : bV σ V M) {cj : Nat → Nat → Int64} (B : hB σ ci cj) (hm : ∀ j, j < 3 → cj 68 j = jI (mxz s V j)) {R : Int}
  (k : ∀ t12 t13 t14 t15 : Value, X (d + 2) 91 (am_bk 91 5) [.ref 60, .ref w, .long (jI R), .null, .int (nI (sCn σ)), .int (nI i), .int (nI s), .long (jI (V s)), .null, .long (jI (R * V s + zsum (fun k => (sCo σ k : Int) * out σ k (pB σ V k s) s V) (sCn σ))), .null, .int (nI (sCn σ)), t12, t13, t14, t15] [] (ci, cj, g) Q) :
  ∀ n, n ≤ sCn σ → ∀ t12 t13 t14 t15 : Value, X (d + 2) 91 (am_bk 91 2) [.ref 60, .ref w, .long (jI R), .null, .int (nI (sCn σ)), .int (nI i), .int (nI s), .long (jI (V s)), .null, .long (jI (R * V s + zsum (fun k => (sCo σ k : Int) * out σ k (pB σ V k s) s V) n)), .null, .int (nI n), t12, t13, t14, t15] [] (ci, cj, g) Q := by
  have hc := O.2.1
  refine up_ind ?_ ?_
  · intro t12 t13 t14 t15
    rw [bk_91_2]
    simp only [bq_91_2, X_push, X_goto, X_fall, X_ifeq, X_ifne, X_iflt, X_ifge, X_ifgt, X_ifle, X_iceq, X_icne, X_iclt, X_icge, X_icgt, X_icle, X_ifnull, X_ifnonnull, X_switch, X_ireturn, X_lreturn, X_areturn, X_return, X_zreturn, X_iload, X_lload, X_aload, X_istore, X_astore, X_lstore, X_iinc, X_iadd, X_isub, X_imul, X_idiv, X_irem, X_iand, X_ior, X_ishl, X_ishr, X_iushr, X_ladd, X_lsub, X_lmul, X_ldiv, X_land, X_lor, X_lshl, X_lcmp, X_ineg, X_i2l, X_l2i, X_i2b, X_i2s, X_i2c, X_dupr, X_dupi, X_dup_x1, X_dup2, X_popi, X_popr, X_iaload, X_baload, X_laload, X_aaload, X_iastore, X_bastore, X_lastore, X_aastore, X_arraylength, am_wt_0, am_wt_int, am_wt_long, am_wt_ref, List.getElem?_cons_zero, List.getElem?_cons_succ, am_s1, am_s2, am_kill, List.set_cons_zero, List.set_cons_succ, List.length_cons, List.length_nil, Int.reduceToNat, Nat.reduceAdd, Nat.reduceLeDiff, Nat.reduceLT, Option.toList_some, Option.toList_none, List.cons_append, List.nil_append, true_and, and_true, true_or, or_true, false_or, or_false, and_self, false_and, not_false_eq_true, not_true_eq_false, Int32.le_refl, if_true]
    exact k _ _ _ _
  · intro n hn ih t12 t13 t14 t15
    have h1 : ¬ nI (sCn σ) ≤ nI n := nI_ge hn (by omega)
    obtain ⟨hz, hco, -⟩ := O.2.2.1 n hn
    have l1 := lost_bd O hn
    have l2 := gain_bd O hn
    have l3 := hb s hs
    have l4 := mxz_bd hs hM hb (sSz σ n)
    have pm := pz_max O hn hs hM hb
    rw [(pz_ok O hn).2] at pm
    have pm' : out σ n (pB σ V n s) s V = _ := pm
    have e : R * V s + zsum (fun k => (sCo σ k : Int) * out σ k (pB σ V k s) s V) (n + 1) = R * V s + zsum (fun k => (sCo σ k : Int) * out σ k (pB σ V k s) s V) n + (sCo σ n : Int) * out σ n (pB σ V n s) s V := (Int.add_assoc _ _ _).symm
    rw [e, pm'] at ih
    rw [bk_91_2]
    by_cases c : lost σ n + V s < gain σ n + mxz s V (sSz σ n)
    · rw [if_pos c] at ih
      have c' : ¬ (gain σ n + mxz s V (sSz σ n) ≤ lost σ n + V s) := by omega
      simp only [bq_91_2, bk_91_3, bq_91_3, bk_91_4, bq_91_4, G_16, G_25, G_24, G_20, G_26, G_27, G_28, G_11, G_12, G_23, X_push, X_goto, X_fall, X_ifeq, X_ifne, X_iflt, X_ifge, X_ifgt, X_ifle, X_iceq, X_icne, X_iclt, X_icge, X_icgt, X_icle, X_ifnull, X_ifnonnull, X_switch, X_ireturn, X_lreturn, X_areturn, X_return, X_zreturn, X_iload, X_lload, X_aload, X_istore, X_astore, X_lstore, X_iinc, X_iadd, X_isub, X_imul, X_idiv, X_irem, X_iand, X_ior, X_ishl, X_ishr, X_iushr, X_ladd, X_lsub, X_lmul, X_ldiv, X_land, X_lor, X_lshl, X_lcmp, X_ineg, X_i2l, X_l2i, X_i2b, X_i2s, X_i2c, X_dupr, X_dupi, X_dup_x1, X_dup2, X_popi, X_popr, X_iaload, X_baload, X_laload, X_aaload, X_iastore, X_bastore, X_lastore, X_aastore, X_arraylength, am_wt_0, am_wt_int, am_wt_long, am_wt_ref, List.getElem?_cons_zero, List.getElem?_cons_succ, am_s1, am_s2, am_kill, List.set_cons_zero, List.set_cons_succ, List.length_cons, List.length_nil, Int.reduceToNat, Nat.reduceAdd, Nat.reduceLeDiff, Nat.reduceLT, Option.toList_some, Option.toList_none, List.cons_append, List.nil_append, true_and, and_true, true_or, or_true, false_or, or_false, and_self, false_and, not_false_eq_true, not_true_eq_false, wo_k H, wo_r0 H, wo_r1 H, wo_r2 H, wo_r3 H, wo_r4 H, wo_r5 H, wo_r6 H, wo_r7 H, wo_a1 H, wo_n1 H, wo_a2 H, wo_n2 H, wo_a3 H, wo_n3 H, wo_a4 H, wo_n4 H, wo_a5 H, wo_n5 H, wo_a6 H, wo_n6 H, wo_a7 H, wo_n7 H, wo_a8 H, wo_n8 H, ho_k HH, ho_r0 HH, ho_r1 HH, ho_r2 HH, ho_r3 HH, ho_r4 HH, ho_r6 HH, ho_r7 HH, ho_r8 HH, ho_a1 HH, ho_n1 HH, ho_a2 HH, ho_n2 HH, ho_a3 HH, ho_n3 HH, ho_a4 HH, ho_n4 HH, ho_a5 HH, ho_n5 HH, ho_a6 HH, ho_n6 HH, ho_a7 HH, ho_n7 HH, ho_a8 HH, ho_n8 HH, h1, if_false, in_nI (show n < 6 by omega) (show 6 < 2 ^ 31 by decide), tn_nI (show n < 2 ^ 31 by omega), (B.2.2 n hn).1, (B.2.2 n hn).2, hw.2.2.2.1 n hn, hw.2.2.2.2.1 n hn, in_nI (show sSz σ n < 3 by omega) (show 3 < 2 ^ 31 by decide), tn_nI (show sSz σ n < 2 ^ 31 by omega), hm _ (show sSz σ n < 3 by omega), jI_add, nI_j (show sCo σ n < 2147483648 by omega), cmp_le, jI_ti (show -9223372036854775808 ≤ lost σ n + V s by omega) (show lost σ n + V s < 9223372036854775808 by omega), jI_ti (show -9223372036854775808 ≤ gain σ n + mxz s V (sSz σ n) by omega) (show gain σ n + mxz s V (sSz σ n) < 9223372036854775808 by omega), c', jI_mul, oi_1, nI_add]
      exact ih _ _ _ _
    · rw [if_neg c] at ih
      have c' : (gain σ n + mxz s V (sSz σ n) ≤ lost σ n + V s) := by omega
      simp only [bq_91_2, bk_91_3, bq_91_3, bk_91_4, bq_91_4, G_16, G_25, G_24, G_20, G_26, G_27, G_28, G_11, G_12, G_23, X_push, X_goto, X_fall, X_ifeq, X_ifne, X_iflt, X_ifge, X_ifgt, X_ifle, X_iceq, X_icne, X_iclt, X_icge, X_icgt, X_icle, X_ifnull, X_ifnonnull, X_switch, X_ireturn, X_lreturn, X_areturn, X_return, X_zreturn, X_iload, X_lload, X_aload, X_istore, X_astore, X_lstore, X_iinc, X_iadd, X_isub, X_imul, X_idiv, X_irem, X_iand, X_ior, X_ishl, X_ishr, X_iushr, X_ladd, X_lsub, X_lmul, X_ldiv, X_land, X_lor, X_lshl, X_lcmp, X_ineg, X_i2l, X_l2i, X_i2b, X_i2s, X_i2c, X_dupr, X_dupi, X_dup_x1, X_dup2, X_popi, X_popr, X_iaload, X_baload, X_laload, X_aaload, X_iastore, X_bastore, X_lastore, X_aastore, X_arraylength, am_wt_0, am_wt_int, am_wt_long, am_wt_ref, List.getElem?_cons_zero, List.getElem?_cons_succ, am_s1, am_s2, am_kill, List.set_cons_zero, List.set_cons_succ, List.length_cons, List.length_nil, Int.reduceToNat, Nat.reduceAdd, Nat.reduceLeDiff, Nat.reduceLT, Option.toList_some, Option.toList_none, List.cons_append, List.nil_append, true_and, and_true, true_or, or_true, false_or, or_false, and_self, false_and, not_false_eq_true, not_true_eq_false, wo_k H, wo_r0 H, wo_r1 H, wo_r2 H, wo_r3 H, wo_r4 H, wo_r5 H, wo_r6 H, wo_r7 H, wo_a1 H, wo_n1 H, wo_a2 H, wo_n2 H, wo_a3 H, wo_n3 H, wo_a4 H, wo_n4 H, wo_a5 H, wo_n5 H, wo_a6 H, wo_n6 H, wo_a7 H, wo_n7 H, wo_a8 H, wo_n8 H, ho_k HH, ho_r0 HH, ho_r1 HH, ho_r2 HH, ho_r3 HH, ho_r4 HH, ho_r6 HH, ho_r7 HH, ho_r8 HH, ho_a1 HH, ho_n1 HH, ho_a2 HH, ho_n2 HH, ho_a3 HH, ho_n3 HH, ho_a4 HH, ho_n4 HH, ho_a5 HH, ho_n5 HH, ho_a6 HH, ho_n6 HH, ho_a7 HH, ho_n7 HH, ho_a8 HH, ho_n8 HH, h1, if_false, if_true, in_nI (show n < 6 by omega) (show 6 < 2 ^ 31 by decide), tn_nI (show n < 2 ^ 31 by omega), (B.2.2 n hn).1, (B.2.2 n hn).2, hw.2.2.2.1 n hn, hw.2.2.2.2.1 n hn, in_nI (show sSz σ n < 3 by omega) (show 3 < 2 ^ 31 by decide), tn_nI (show sSz σ n < 2 ^ 31 by omega), hm _ (show sSz σ n < 3 by omega), jI_add, nI_j (show sCo σ n < 2147483648 by omega), cmp_le, jI_ti (show -9223372036854775808 ≤ lost σ n + V s by omega) (show lost σ n + V s < 9223372036854775808 by omega), jI_ti (show -9223372036854775808 ≤ gain σ n + mxz s V (sSz σ n) by omega) (show gain σ n + mxz s V (sSz σ n) < 9223372036854775808 by omega), c', jI_mul, oi_1, nI_add]
      exact ih _ _ _ _
def iS (σ : wS) (cj0 : Nat → Nat → Int64) (P : Nat → Nat → Int) (V : Nat → Int) (s : Nat) (cj : Nat → Nat → Int64) : Prop := (∀ x, x ≠ 64 → x ≠ 68 → cj x = cj0 x) ∧ (∀ t, t < s → isS σ t = true → cj 64 t = jI (sumP σ P V t))
/-- sumBest -/
theorem c_91 (H : wo g w) (HH : ho g) (O : wOK σ) (hw : wR ci w σ) (hM : M ≤ 10000000000) (hb : bV σ V M) (B : hB σ ci cj0) (hv : hV 61 σ cj0 V) (k : ∀ cj', (∀ x, x ≠ 64 → x ≠ 68 → cj' x = cj0 x) → hV 64 σ cj' (sumP σ (pB σ V) V) → Q none (ci, cj', g)) : X (d + 2) 91 (am_bk 91 0) [.ref 60, .ref w, .null, .null, .null, .null, .null, .null, .null, .null, .null, .null, .null, .null, .null, .null] [] (ci, cj0, g) Q := by
  have hc := O.2.1
  have hcs := O.2.2.2.1
  have key : ∀ cj, iS σ cj0 (pB σ V) V 0 cj → ∀ t6 t7 t8 t9 t10 t11 t12 t13 t14 t15 : Value, X (d + 2) 91 (am_bk 91 1) [.ref 60, .ref w, .long (jI (100 - (csum (sCo σ) (sCn σ) : Int))), .null, .int (nI (sCn σ)), .int (nI 0), t6, t7, t8, t9, t10, t11, t12, t13, t14, t15] [] (ci, cj, g) Q := by
    refine st_ind (σ := σ) (M := fun c s => ∀ cj, iS σ cj0 (pB σ V) V s cj → ∀ t6 t7 t8 t9 t10 t11 t12 t13 t14 t15 : Value, X (d + 2) 91 (am_bk 91 1) [.ref 60, .ref w, .long (jI (100 - (csum (sCo σ) (sCn σ) : Int))), .null, .int (nI (sCn σ)), .int (nI c), t6, t7, t8, t9, t10, t11, t12, t13, t14, t15] [] (ci, cj, g) Q) ?_ ?_ ?_
    · intro cj I t6 t7 t8 t9 t10 t11 t12 t13 t14 t15
      rw [bk_91_1]
      simp only [bq_91_1, bk_91_6, bq_91_6, G_16, G_25, G_24, G_20, G_26, G_27, G_28, G_11, G_12, G_23, X_push, X_goto, X_fall, X_ifeq, X_ifne, X_iflt, X_ifge, X_ifgt, X_ifle, X_iceq, X_icne, X_iclt, X_icge, X_icgt, X_icle, X_ifnull, X_ifnonnull, X_switch, X_ireturn, X_lreturn, X_areturn, X_return, X_zreturn, X_iload, X_lload, X_aload, X_istore, X_astore, X_lstore, X_iinc, X_iadd, X_isub, X_imul, X_idiv, X_irem, X_iand, X_ior, X_ishl, X_ishr, X_iushr, X_ladd, X_lsub, X_lmul, X_ldiv, X_land, X_lor, X_lshl, X_lcmp, X_ineg, X_i2l, X_l2i, X_i2b, X_i2s, X_i2c, X_dupr, X_dupi, X_dup_x1, X_dup2, X_popi, X_popr, X_iaload, X_baload, X_laload, X_aaload, X_iastore, X_bastore, X_lastore, X_aastore, X_arraylength, am_wt_0, am_wt_int, am_wt_long, am_wt_ref, List.getElem?_cons_zero, List.getElem?_cons_succ, am_s1, am_s2, am_kill, List.set_cons_zero, List.set_cons_succ, List.length_cons, List.length_nil, Int.reduceToNat, Nat.reduceAdd, Nat.reduceLeDiff, Nat.reduceLT, Option.toList_some, Option.toList_none, List.cons_append, List.nil_append, true_and, and_true, true_or, or_true, false_or, or_false, and_self, false_and, not_false_eq_true, not_true_eq_false, ho_k HH, ho_r0 HH, ho_r1 HH, ho_r2 HH, ho_r3 HH, ho_r4 HH, ho_r6 HH, ho_r7 HH, ho_r8 HH, ho_a1 HH, ho_n1 HH, ho_a2 HH, ho_n2 HH, ho_a3 HH, ho_n3 HH, ho_a4 HH, ho_n4 HH, ho_a5 HH, ho_n5 HH, ho_a6 HH, ho_n6 HH, ho_a7 HH, ho_n7 HH, ho_a8 HH, ho_n8 HH, B.1, Int32.le_refl, if_true]
      exact k cj I.1 (fun s hs => I.2 s (isS_lt hs) hs)
    · intro s hs hlt ih cj I t6 t7 t8 t9 t10 t11 t12 t13 t14 t15
      have h125 := isS_lt hs
      have h2 := cnt_le σ 125
      have h3 := cnt_le σ s
      have h1 : ¬ nI (cnt σ 125) ≤ nI (cnt σ s) := nI_ge hlt (by omega)
      rw [bk_91_1]
      simp only [bq_91_1, G_16, G_25, G_24, G_20, G_26, G_27, G_28, G_11, G_12, G_23, X_push, X_goto, X_fall, X_ifeq, X_ifne, X_iflt, X_ifge, X_ifgt, X_ifle, X_iceq, X_icne, X_iclt, X_icge, X_icgt, X_icle, X_ifnull, X_ifnonnull, X_switch, X_ireturn, X_lreturn, X_areturn, X_return, X_zreturn, X_iload, X_lload, X_aload, X_istore, X_astore, X_lstore, X_iinc, X_iadd, X_isub, X_imul, X_idiv, X_irem, X_iand, X_ior, X_ishl, X_ishr, X_iushr, X_ladd, X_lsub, X_lmul, X_ldiv, X_land, X_lor, X_lshl, X_lcmp, X_ineg, X_i2l, X_l2i, X_i2b, X_i2s, X_i2c, X_dupr, X_dupi, X_dup_x1, X_dup2, X_popi, X_popr, X_iaload, X_baload, X_laload, X_aaload, X_iastore, X_bastore, X_lastore, X_aastore, X_arraylength, am_wt_0, am_wt_int, am_wt_long, am_wt_ref, List.getElem?_cons_zero, List.getElem?_cons_succ, am_s1, am_s2, am_kill, List.set_cons_zero, List.set_cons_succ, List.length_cons, List.length_nil, Int.reduceToNat, Nat.reduceAdd, Nat.reduceLeDiff, Nat.reduceLT, Option.toList_some, Option.toList_none, List.cons_append, List.nil_append, true_and, and_true, true_or, or_true, false_or, or_false, and_self, false_and, not_false_eq_true, not_true_eq_false, ho_k HH, ho_r0 HH, ho_r1 HH, ho_r2 HH, ho_r3 HH, ho_r4 HH, ho_r6 HH, ho_r7 HH, ho_r8 HH, ho_a1 HH, ho_n1 HH, ho_a2 HH, ho_n2 HH, ho_a3 HH, ho_n3 HH, ho_a4 HH, ho_n4 HH, ho_a5 HH, ho_n5 HH, ho_a6 HH, ho_n6 HH, ho_a7 HH, ho_n7 HH, ho_a8 HH, ho_n8 HH, B.1, h1, if_false, in_nI (show cnt σ s < 125 by omega) (show 125 < 2 ^ 31 by decide), tn_nI (show cnt σ s < 2 ^ 31 by omega), B.2.1 s hs, in_nI (show s < 125 by omega) (show 125 < 2 ^ 31 by decide), tn_nI (show s < 2 ^ 31 by omega), C_92]
      refine c_92 HH hs hM hb (hV_fr (I.1 61 (by decide) (by decide)) hv) ?_
      intro cj1 f1 hm
      have hv1 : cj 61 s = jI (V s) := by rw [I.1 61 (by decide) (by decide)]; exact hv s hs
      simp only [G_16, G_25, G_24, G_20, G_26, G_27, G_28, G_11, G_12, G_23, X_push, X_goto, X_fall, X_ifeq, X_ifne, X_iflt, X_ifge, X_ifgt, X_ifle, X_iceq, X_icne, X_iclt, X_icge, X_icgt, X_icle, X_ifnull, X_ifnonnull, X_switch, X_ireturn, X_lreturn, X_areturn, X_return, X_zreturn, X_iload, X_lload, X_aload, X_istore, X_astore, X_lstore, X_iinc, X_iadd, X_isub, X_imul, X_idiv, X_irem, X_iand, X_ior, X_ishl, X_ishr, X_iushr, X_ladd, X_lsub, X_lmul, X_ldiv, X_land, X_lor, X_lshl, X_lcmp, X_ineg, X_i2l, X_l2i, X_i2b, X_i2s, X_i2c, X_dupr, X_dupi, X_dup_x1, X_dup2, X_popi, X_popr, X_iaload, X_baload, X_laload, X_aaload, X_iastore, X_bastore, X_lastore, X_aastore, X_arraylength, am_wt_0, am_wt_int, am_wt_long, am_wt_ref, List.getElem?_cons_zero, List.getElem?_cons_succ, am_s1, am_s2, am_kill, List.set_cons_zero, List.set_cons_succ, List.length_cons, List.length_nil, Int.reduceToNat, Nat.reduceAdd, Nat.reduceLeDiff, Nat.reduceLT, Option.toList_some, Option.toList_none, List.cons_append, List.nil_append, true_and, and_true, true_or, or_true, false_or, or_false, and_self, false_and, not_false_eq_true, not_true_eq_false, hv1, jI_mul]
      have B1 : hB σ ci cj1 := hB_fr (by rw [f1 66 (by decide), I.1 66 (by decide) (by decide)]) (by rw [f1 67 (by decide), I.1 67 (by decide) (by decide)]) B
      have z := l_91b (d := d) (i := cnt σ s) (R := 100 - (csum (sCo σ) (sCn σ) : Int)) (Q := Q) H HH O hw hs hM hb B1 hm ?_ 0 (by omega) t12 t13 t14 t15
      · rw [show zsum (fun k => (sCo σ k : Int) * out σ k (pB σ V k s) s V) 0 = 0 from rfl, Int.add_zero] at z
        exact z
      · intro t12 t13 t14 t15
        simp only [bk_91_5, bq_91_5, G_16, G_25, G_24, G_20, G_26, G_27, G_28, G_11, G_12, G_23, X_push, X_goto, X_fall, X_ifeq, X_ifne, X_iflt, X_ifge, X_ifgt, X_ifle, X_iceq, X_icne, X_iclt, X_icge, X_icgt, X_icle, X_ifnull, X_ifnonnull, X_switch, X_ireturn, X_lreturn, X_areturn, X_return, X_zreturn, X_iload, X_lload, X_aload, X_istore, X_astore, X_lstore, X_iinc, X_iadd, X_isub, X_imul, X_idiv, X_irem, X_iand, X_ior, X_ishl, X_ishr, X_iushr, X_ladd, X_lsub, X_lmul, X_ldiv, X_land, X_lor, X_lshl, X_lcmp, X_ineg, X_i2l, X_l2i, X_i2b, X_i2s, X_i2c, X_dupr, X_dupi, X_dup_x1, X_dup2, X_popi, X_popr, X_iaload, X_baload, X_laload, X_aaload, X_iastore, X_bastore, X_lastore, X_aastore, X_arraylength, am_wt_0, am_wt_int, am_wt_long, am_wt_ref, List.getElem?_cons_zero, List.getElem?_cons_succ, am_s1, am_s2, am_kill, List.set_cons_zero, List.set_cons_succ, List.length_cons, List.length_nil, Int.reduceToNat, Nat.reduceAdd, Nat.reduceLeDiff, Nat.reduceLT, Option.toList_some, Option.toList_none, List.cons_append, List.nil_append, true_and, and_true, true_or, or_true, false_or, or_false, and_self, false_and, not_false_eq_true, not_true_eq_false, ho_k HH, ho_r0 HH, ho_r1 HH, ho_r2 HH, ho_r3 HH, ho_r4 HH, ho_r6 HH, ho_r7 HH, ho_r8 HH, ho_a1 HH, ho_n1 HH, ho_a2 HH, ho_n2 HH, ho_a3 HH, ho_n3 HH, ho_a4 HH, ho_n4 HH, ho_a5 HH, ho_n5 HH, ho_a6 HH, ho_n6 HH, ho_a7 HH, ho_n7 HH, ho_a8 HH, ho_n8 HH, in_nI (show s < 125 by omega) (show 125 < 2 ^ 31 by decide), tn_nI (show s < 2 ^ 31 by omega), oi_1, nI_add]
        refine ih _ ⟨fun x a b => ?_, fun t ht hv => ?_⟩ _ _ _ _ _ _ _ _ _ _
        · rw [u2_a _ _ a, f1 x b]; exact I.1 x a b
        · by_cases e : t = s
          · subst e; rw [u2_s]; rfl
          · rw [u2_i _ _ e, f1 64 (by decide)]; exact I.2 t (by omega) hv
    · intro s c hs hn ih cj I
      refine ih cj ⟨I.1, fun t ht hv => I.2 t ?_ hv⟩
      have : t ≠ s := fun e => hn (e ▸ hv)
      omega
  simp only [bk_91_0, bq_91_0, G_16, G_25, G_24, G_20, G_26, G_27, G_28, G_11, G_12, G_23, X_push, X_goto, X_fall, X_ifeq, X_ifne, X_iflt, X_ifge, X_ifgt, X_ifle, X_iceq, X_icne, X_iclt, X_icge, X_icgt, X_icle, X_ifnull, X_ifnonnull, X_switch, X_ireturn, X_lreturn, X_areturn, X_return, X_zreturn, X_iload, X_lload, X_aload, X_istore, X_astore, X_lstore, X_iinc, X_iadd, X_isub, X_imul, X_idiv, X_irem, X_iand, X_ior, X_ishl, X_ishr, X_iushr, X_ladd, X_lsub, X_lmul, X_ldiv, X_land, X_lor, X_lshl, X_lcmp, X_ineg, X_i2l, X_l2i, X_i2b, X_i2s, X_i2c, X_dupr, X_dupi, X_dup_x1, X_dup2, X_popi, X_popr, X_iaload, X_baload, X_laload, X_aaload, X_iastore, X_bastore, X_lastore, X_aastore, X_arraylength, am_wt_0, am_wt_int, am_wt_long, am_wt_ref, List.getElem?_cons_zero, List.getElem?_cons_succ, am_s1, am_s2, am_kill, List.set_cons_zero, List.set_cons_succ, List.length_cons, List.length_nil, Int.reduceToNat, Nat.reduceAdd, Nat.reduceLeDiff, Nat.reduceLT, Option.toList_some, Option.toList_none, List.cons_append, List.nil_append, true_and, and_true, true_or, or_true, false_or, or_false, and_self, false_and, not_false_eq_true, not_true_eq_false, wo_k H, wo_r0 H, wo_r1 H, wo_r2 H, wo_r3 H, wo_r4 H, wo_r5 H, wo_r6 H, wo_r7 H, wo_a1 H, wo_n1 H, wo_a2 H, wo_n2 H, wo_a3 H, wo_n3 H, wo_a4 H, wo_n4 H, wo_a5 H, wo_n5 H, wo_a6 H, wo_n6 H, wo_a7 H, wo_n7 H, wo_a8 H, wo_n8 H, ho_k HH, ho_r0 HH, ho_r1 HH, ho_r2 HH, ho_r3 HH, ho_r4 HH, ho_r6 HH, ho_r7 HH, ho_r8 HH, ho_a1 HH, ho_n1 HH, ho_a2 HH, ho_n2 HH, ho_a3 HH, ho_n3 HH, ho_a4 HH, ho_n4 HH, ho_a5 HH, ho_n5 HH, ho_a6 HH, ho_n6 HH, ho_a7 HH, ho_n7 HH, ho_a8 HH, ho_n8 HH, C_74, c_74 H O hw, sub100 hcs, hw.2.2.2.2.2.2.2.2.1]
  exact key cj0 ⟨fun x _ _ => rfl, fun t ht => absurd ht (by omega)⟩ _ _ _ _ _ _ _ _ _ _
end SUMS
