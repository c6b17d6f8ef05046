/-! ROWS -/
theorem noRow_5 {F : Nat → Prop} {ci : Nat → Nat → Int32} {cj : Nat → Nat → Int64} {g : am_G} {T : tS} (R : cR F ci cj g T) {s : Int32} (h : noRow T s = 5) : ∃ i : Nat, i < 8 ∧ s = nI i ∧ hK (tH T) i = 1 ∧ rowH g T s = gr g 71 i ∧ gk g (gr g 71 i) = 5 ∧ F (gr g 71 i) ∧ 73 ≤ gr g 71 i ∧ ci (gr g 71 i) 0 = nI (rS (tH T) i) ∧ F (gr g (gr g 71 i) 1) ∧ 73 ≤ gr g (gr g 71 i) 1 ∧ gk g (gr g (gr g 71 i) 1) = 21 ∧ gn g (gr g (gr g 71 i) 1) = rN (tH T) i ∧ (∀ t, t < rN (tH T) i → cj (gr g (gr g 71 i) 1) t = rE (tH T) i t) ∧ rS (tH T) i ≤ 4 ∧ rN (tH T) i ≤ 40 := by
  have h7 : rg s 0 7 = true := by
    cases e : rg s 0 7
    · exfalso
      revert h
      unfold noRow
      rw [e, if_neg (by decide)]
      intro z; cases z
    · rfl
  obtain ⟨i, hi, rfl⟩ := rg_nI (n := 7) h7 (by decide)
  have e : hK (tH T) i = 1 := by
    revert h
    unfold noRow
    rw [if_pos h7, tn_nI (by omega)]
    split
    · intro z; cases z
    · split
      · intro _; assumption
      · intro z; cases z
  refine ⟨i, by omega, rfl, e, ?_, ?_⟩
  · unfold rowH
    rw [if_pos ⟨h7, by rw [tn_nI (by omega)]; exact e⟩, tn_nI (by omega)]
  · rcases R.2.2.1 i (by omega) with ⟨a, -⟩ | ⟨_, b, c, q, f, l, m, n, o, p⟩ | ⟨a, -⟩
    · omega
    · have ok := (R.2.2.2.2.2.2.2.2 i (by omega)).2.1 e
      exact ⟨b, c, q, f, l, m, n, o, p, ok.1, ok.2⟩
    · omega
/-- what a row of a sort holds of a number -/
def fitv (of : Nat) (v : Int64) : Int64 := if of = 0 then v.toInt32.toInt8.toInt32.toInt64 else if of = 1 then v.toInt32.toInt16.toInt32.toInt64 else if of = 2 then v.toInt32.toInt64 else if of = 3 then v else if v = 0 then 0 else 1
def stE (S : shS) (s : Nat) (f : Nat → Int64) : shS := (hK S, rS S, rN S, am_u1 (rE S) s f, uK S, uA S)
def q_set (T : tS) (s i : Int32) (v : Int64) : Int32 × tS := if noRow T s = 5 then (if decide (0 ≤ i.toInt ∧ i.toInt < (rN (tH T) s.toNatClampNeg : Int)) = true then (1, stH T (stE (tH T) s.toNatClampNeg (am_u1 (rE (tH T) s.toNatClampNeg) i.toNatClampNeg (fitv (rS (tH T) s.toNatClampNeg) v)))) else (rI 0, rfT T 0)) else (rI (noRow T s), rfT T (noRow T s))
def q_element (T : tS) (s i : Int32) : Int64 × tS := if noRow T s = 5 ∧ decide (0 ≤ i.toInt ∧ i.toInt < (rN (tH T) s.toNatClampNeg : Int)) = true then (rE (tH T) s.toNatClampNeg i.toNatClampNeg, T) else (0, T)
/-- of two rows: 5 if both are, else the refusal that is due -/
def tRs (T : tS) (p q : Int32) : Nat := if noRow T p = 0 ∨ noRow T q = 0 then 0 else if noRow T p = 1 ∨ noRow T q = 1 then 1 else if noRow T p = 2 ∨ noRow T q = 2 then 2 else 5
def prt (N : Nat) (f n : Int32) : Bool := decide (0 ≤ f.toInt ∧ 0 ≤ n.toInt ∧ n.toInt ≤ (N : Int) ∧ f.toInt ≤ (N : Int) - n.toInt)
def q_copy (T : tS) (p q i j n : Int32) : Int32 × tS := if tRs T p q = 5 then (if rS (tH T) p.toNatClampNeg = rS (tH T) q.toNatClampNeg then (if prt (rN (tH T) p.toNatClampNeg) i n = true ∧ prt (rN (tH T) q.toNatClampNeg) j n = true then (n, stH T (stE (tH T) q.toNatClampNeg (va_cpy (rE (tH T) p.toNatClampNeg) (rE (tH T) q.toNatClampNeg) i.toNatClampNeg j.toNatClampNeg n.toNatClampNeg))) else (rI 0, rfT T 0)) else (rI 1, rfT T 1)) else (rI (tRs T p q), rfT T (tRs T p q))
theorem noRow_in (T : tS) (s : Int32) : noRow T s = 0 ∨ noRow T s = 1 ∨ noRow T s = 2 ∨ noRow T s = 5 := by
  unfold noRow
  split
  · split
    · exact Or.inr (Or.inr (Or.inl rfl))
    · split
      · exact Or.inr (Or.inr (Or.inr rfl))
      · exact Or.inr (Or.inl rfl)
  · exact Or.inl rfl
theorem tRs_in (T : tS) (p q : Int32) : tRs T p q = 0 ∨ tRs T p q = 1 ∨ tRs T p q = 2 ∨ (tRs T p q = 5 ∧ noRow T p = 5 ∧ noRow T q = 5) := by
  unfold tRs
  have a := noRow_in T p
  have b := noRow_in T q
  split
  · exact Or.inl rfl
  · split
    · exact Or.inr (Or.inl rfl)
    · split
      · exact Or.inr (Or.inr (Or.inl rfl))
      · exact Or.inr (Or.inr (Or.inr ⟨rfl, by omega, by omega⟩))
section ROWZ
variable {d : Nat} {ci : Nat → Nat → Int32} {cj : Nat → Nat → Int64} {g : am_G} {Q : Option Value → am_H → Prop} {F : Nat → Prop} {T : tS} {r N : Nat}
theorem c_113 (hk : gk g r = 5) (he : gk g (gr g r 1) = 21) (hn : gn g (gr g r 1) = N) (hN : N ≤ 40) (i : Int32) : X d 113 (am_bk 113 0) [.ref r, .int i] [] (ci, cj, g) Q ↔ Q (some (.int (bI (decide (0 ≤ i.toInt ∧ i.toInt < (N : Int)))))) (ci, cj, g) := by
  have e : (Int32.ofNat N).toInt = (N : Int) := nI_ti (by omega)
  simp only [bk_113_0, bq_113_0, bk_113_1, bq_113_1, bk_113_2, bq_113_2, G_36, X_push, X_goto, X_fall, X_ifeq, X_ifne, X_iflt, X_ifge, X_ifgt, X_ifle, X_iceq, X_icne, X_iclt, X_icge, X_icgt, X_icle, X_ifnull, X_ifnonnull, X_switch, X_ireturn, X_lreturn, X_areturn, X_return, X_zreturn, X_iload, X_lload, X_aload, X_istore, X_astore, X_lstore, X_iinc, X_iadd, X_isub, X_imul, X_idiv, X_irem, X_iand, X_ior, X_ishl, X_ishr, X_iushr, X_ladd, X_lsub, X_lmul, X_ldiv, X_land, X_lor, X_lshl, X_lcmp, X_ineg, X_i2l, X_l2i, X_i2b, X_i2s, X_i2c, X_dupr, X_dupi, X_dup_x1, X_dup2, X_popi, X_popr, X_iaload, X_baload, X_laload, X_aaload, X_iastore, X_bastore, X_lastore, X_aastore, X_arraylength, am_wt_0, am_wt_int, am_wt_long, am_wt_ref, List.getElem?_cons_zero, List.getElem?_cons_succ, am_s1, am_s2, am_kill, List.set_cons_zero, List.set_cons_succ, List.length_cons, List.length_nil, Int.reduceToNat, Nat.reduceAdd, Nat.reduceLeDiff, Nat.reduceLT, Option.toList_some, Option.toList_none, List.cons_append, List.nil_append, true_and, and_true, true_or, or_true, false_or, or_false, and_self, false_and, not_false_eq_true, not_true_eq_false, hk, he, hn, lt_ti, le_ti, ti_0, e]
  by_cases h1 : i.toInt < 0
  · rw [if_pos h1, decide_eq_false (by omega)]; simp [bI]
  · by_cases h2 : (N : Int) ≤ i.toInt
    · rw [if_neg h1, if_pos h2, decide_eq_false (by omega)]; simp [bI]
    · rw [if_neg h1, if_neg h2, decide_eq_true (by omega)]; simp [bI]
theorem c_114 (hk : gk g r = 5) (he : gk g (gr g r 1) = 21) (hn : gn g (gr g r 1) = N) (hN : N ≤ 40) (f n : Int32) : X d 114 (am_bk 114 0) [.ref r, .int f, .int n] [] (ci, cj, g) Q ↔ Q (some (.int (bI (prt N f n)))) (ci, cj, g) := by
  have e : (Int32.ofNat N).toInt = (N : Int) := nI_ti (by omega)
  unfold prt
  simp only [bk_114_0, bq_114_0, bk_114_1, bq_114_1, bk_114_2, bq_114_2, G_36, X_push, X_goto, X_fall, X_ifeq, X_ifne, X_iflt, X_ifge, X_ifgt, X_ifle, X_iceq, X_icne, X_iclt, X_icge, X_icgt, X_icle, X_ifnull, X_ifnonnull, X_switch, X_ireturn, X_lreturn, X_areturn, X_return, X_zreturn, X_iload, X_lload, X_aload, X_istore, X_astore, X_lstore, X_iinc, X_iadd, X_isub, X_imul, X_idiv, X_irem, X_iand, X_ior, X_ishl, X_ishr, X_iushr, X_ladd, X_lsub, X_lmul, X_ldiv, X_land, X_lor, X_lshl, X_lcmp, X_ineg, X_i2l, X_l2i, X_i2b, X_i2s, X_i2c, X_dupr, X_dupi, X_dup_x1, X_dup2, X_popi, X_popr, X_iaload, X_baload, X_laload, X_aaload, X_iastore, X_bastore, X_lastore, X_aastore, X_arraylength, am_wt_0, am_wt_int, am_wt_long, am_wt_ref, List.getElem?_cons_zero, List.getElem?_cons_succ, am_s1, am_s2, am_kill, List.set_cons_zero, List.set_cons_succ, List.length_cons, List.length_nil, Int.reduceToNat, Nat.reduceAdd, Nat.reduceLeDiff, Nat.reduceLT, Option.toList_some, Option.toList_none, List.cons_append, List.nil_append, true_and, and_true, true_or, or_true, false_or, or_false, and_self, false_and, not_false_eq_true, not_true_eq_false, hk, he, hn, lt_ti, le_ti, ti_0, e]
  by_cases h1 : f.toInt < 0
  · rw [if_pos h1, decide_eq_false (by omega)]; simp [bI]
  · by_cases h2 : n.toInt < 0
    · rw [if_neg h1, if_pos h2, decide_eq_false (by omega)]; simp [bI]
    · by_cases h3 : (N : Int) < n.toInt
      · rw [if_neg h1, if_neg h2, if_pos h3, decide_eq_false (by omega)]; simp [bI]
      · obtain ⟨m, hm, rfl⟩ := nI_ex (x := n) (by omega)
        have e2 : (Int32.ofNat N - nI m).toInt = (N : Int) - (m : Int) := by
          rw [nI_ti hm] at h3
          have e3 : Int32.ofNat N - nI m = nI (N - m) := pk_sub (a := N) (b := m) (by omega)
          rw [e3, nI_ti (by omega)]
          omega
        rw [nI_ti hm] at *
        rw [e2]
        by_cases h4 : (N : Int) - (m : Int) < f.toInt
        · rw [if_neg h1, if_neg h2, if_neg h3, if_pos h4, decide_eq_false (by omega)]; simp [bI]
        · rw [if_neg h1, if_neg h2, if_neg h3, if_neg h4, decide_eq_true (by omega)]; simp [bI]
theorem c_115 (hk : gk g r = 5) (he : gk g (gr g r 1) = 21) (hn : gn g (gr g r 1) = N) (hN : N ≤ 40) {of i : Nat} (hs : ci r 0 = nI of) (hof : of ≤ 4) (hi : i < N) (v : Int64) : X d 115 (am_bk 115 0) [.ref r, .int (nI i), .long v, .null] [] (ci, cj, g) Q ↔ Q none (ci, am_u2 cj (gr g r 1) i (fitv of v), g) := by
  have e : of = 0 ∨ of = 1 ∨ of = 2 ∨ of = 3 ∨ of = 4 := by omega
  rcases e with rfl | rfl | rfl | rfl | rfl
  · simp only [bk_115_0, bq_115_0, G_35, G_36, X_push, X_goto, X_fall, X_ifeq, X_ifne, X_iflt, X_ifge, X_ifgt, X_ifle, X_iceq, X_icne, X_iclt, X_icge, X_icgt, X_icle, X_ifnull, X_ifnonnull, X_switch, X_ireturn, X_lreturn, X_areturn, X_return, X_zreturn, X_iload, X_lload, X_aload, X_istore, X_astore, X_lstore, X_iinc, X_iadd, X_isub, X_imul, X_idiv, X_irem, X_iand, X_ior, X_ishl, X_ishr, X_iushr, X_ladd, X_lsub, X_lmul, X_ldiv, X_land, X_lor, X_lshl, X_lcmp, X_ineg, X_i2l, X_l2i, X_i2b, X_i2s, X_i2c, X_dupr, X_dupi, X_dup_x1, X_dup2, X_popi, X_popr, X_iaload, X_baload, X_laload, X_aaload, X_iastore, X_bastore, X_lastore, X_aastore, X_arraylength, am_wt_0, am_wt_int, am_wt_long, am_wt_ref, List.getElem?_cons_zero, List.getElem?_cons_succ, am_s1, am_s2, am_kill, List.set_cons_zero, List.set_cons_succ, List.length_cons, List.length_nil, Int.reduceToNat, Nat.reduceAdd, Nat.reduceLeDiff, Nat.reduceLT, Option.toList_some, Option.toList_none, List.cons_append, List.nil_append, true_and, and_true, true_or, or_true, false_or, or_false, and_self, false_and, not_false_eq_true, not_true_eq_false, hk, hs, show am_sw 7 0 4 #[1, 2, 3, 7, 4] (nI 0) = 1 from rfl]
    simp only [bk_115_1, bq_115_1, bk_115_8, bq_115_8, G_35, G_36, X_push, X_goto, X_fall, X_ifeq, X_ifne, X_iflt, X_ifge, X_ifgt, X_ifle, X_iceq, X_icne, X_iclt, X_icge, X_icgt, X_icle, X_ifnull, X_ifnonnull, X_switch, X_ireturn, X_lreturn, X_areturn, X_return, X_zreturn, X_iload, X_lload, X_aload, X_istore, X_astore, X_lstore, X_iinc, X_iadd, X_isub, X_imul, X_idiv, X_irem, X_iand, X_ior, X_ishl, X_ishr, X_iushr, X_ladd, X_lsub, X_lmul, X_ldiv, X_land, X_lor, X_lshl, X_lcmp, X_ineg, X_i2l, X_l2i, X_i2b, X_i2s, X_i2c, X_dupr, X_dupi, X_dup_x1, X_dup2, X_popi, X_popr, X_iaload, X_baload, X_laload, X_aaload, X_iastore, X_bastore, X_lastore, X_aastore, X_arraylength, am_wt_0, am_wt_int, am_wt_long, am_wt_ref, List.getElem?_cons_zero, List.getElem?_cons_succ, am_s1, am_s2, am_kill, List.set_cons_zero, List.set_cons_succ, List.length_cons, List.length_nil, Int.reduceToNat, Nat.reduceAdd, Nat.reduceLeDiff, Nat.reduceLT, Option.toList_some, Option.toList_none, List.cons_append, List.nil_append, true_and, and_true, true_or, or_true, false_or, or_false, and_self, false_and, not_false_eq_true, not_true_eq_false, hk, he, hn, in_nI hi (show N < 2 ^ 31 by omega), tn_nI (show i < 2 ^ 31 by omega)]
    rfl
  · simp only [bk_115_0, bq_115_0, G_35, G_36, X_push, X_goto, X_fall, X_ifeq, X_ifne, X_iflt, X_ifge, X_ifgt, X_ifle, X_iceq, X_icne, X_iclt, X_icge, X_icgt, X_icle, X_ifnull, X_ifnonnull, X_switch, X_ireturn, X_lreturn, X_areturn, X_return, X_zreturn, X_iload, X_lload, X_aload, X_istore, X_astore, X_lstore, X_iinc, X_iadd, X_isub, X_imul, X_idiv, X_irem, X_iand, X_ior, X_ishl, X_ishr, X_iushr, X_ladd, X_lsub, X_lmul, X_ldiv, X_land, X_lor, X_lshl, X_lcmp, X_ineg, X_i2l, X_l2i, X_i2b, X_i2s, X_i2c, X_dupr, X_dupi, X_dup_x1, X_dup2, X_popi, X_popr, X_iaload, X_baload, X_laload, X_aaload, X_iastore, X_bastore, X_lastore, X_aastore, X_arraylength, am_wt_0, am_wt_int, am_wt_long, am_wt_ref, List.getElem?_cons_zero, List.getElem?_cons_succ, am_s1, am_s2, am_kill, List.set_cons_zero, List.set_cons_succ, List.length_cons, List.length_nil, Int.reduceToNat, Nat.reduceAdd, Nat.reduceLeDiff, Nat.reduceLT, Option.toList_some, Option.toList_none, List.cons_append, List.nil_append, true_and, and_true, true_or, or_true, false_or, or_false, and_self, false_and, not_false_eq_true, not_true_eq_false, hk, hs, show am_sw 7 0 4 #[1, 2, 3, 7, 4] (nI 1) = 2 from rfl]
    simp only [bk_115_2, bq_115_2, bk_115_8, bq_115_8, G_35, G_36, X_push, X_goto, X_fall, X_ifeq, X_ifne, X_iflt, X_ifge, X_ifgt, X_ifle, X_iceq, X_icne, X_iclt, X_icge, X_icgt, X_icle, X_ifnull, X_ifnonnull, X_switch, X_ireturn, X_lreturn, X_areturn, X_return, X_zreturn, X_iload, X_lload, X_aload, X_istore, X_astore, X_lstore, X_iinc, X_iadd, X_isub, X_imul, X_idiv, X_irem, X_iand, X_ior, X_ishl, X_ishr, X_iushr, X_ladd, X_lsub, X_lmul, X_ldiv, X_land, X_lor, X_lshl, X_lcmp, X_ineg, X_i2l, X_l2i, X_i2b, X_i2s, X_i2c, X_dupr, X_dupi, X_dup_x1, X_dup2, X_popi, X_popr, X_iaload, X_baload, X_laload, X_aaload, X_iastore, X_bastore, X_lastore, X_aastore, X_arraylength, am_wt_0, am_wt_int, am_wt_long, am_wt_ref, List.getElem?_cons_zero, List.getElem?_cons_succ, am_s1, am_s2, am_kill, List.set_cons_zero, List.set_cons_succ, List.length_cons, List.length_nil, Int.reduceToNat, Nat.reduceAdd, Nat.reduceLeDiff, Nat.reduceLT, Option.toList_some, Option.toList_none, List.cons_append, List.nil_append, true_and, and_true, true_or, or_true, false_or, or_false, and_self, false_and, not_false_eq_true, not_true_eq_false, hk, he, hn, in_nI hi (show N < 2 ^ 31 by omega), tn_nI (show i < 2 ^ 31 by omega)]
    rfl
  · simp only [bk_115_0, bq_115_0, G_35, G_36, X_push, X_goto, X_fall, X_ifeq, X_ifne, X_iflt, X_ifge, X_ifgt, X_ifle, X_iceq, X_icne, X_iclt, X_icge, X_icgt, X_icle, X_ifnull, X_ifnonnull, X_switch, X_ireturn, X_lreturn, X_areturn, X_return, X_zreturn, X_iload, X_lload, X_aload, X_istore, X_astore, X_lstore, X_iinc, X_iadd, X_isub, X_imul, X_idiv, X_irem, X_iand, X_ior, X_ishl, X_ishr, X_iushr, X_ladd, X_lsub, X_lmul, X_ldiv, X_land, X_lor, X_lshl, X_lcmp, X_ineg, X_i2l, X_l2i, X_i2b, X_i2s, X_i2c, X_dupr, X_dupi, X_dup_x1, X_dup2, X_popi, X_popr, X_iaload, X_baload, X_laload, X_aaload, X_iastore, X_bastore, X_lastore, X_aastore, X_arraylength, am_wt_0, am_wt_int, am_wt_long, am_wt_ref, List.getElem?_cons_zero, List.getElem?_cons_succ, am_s1, am_s2, am_kill, List.set_cons_zero, List.set_cons_succ, List.length_cons, List.length_nil, Int.reduceToNat, Nat.reduceAdd, Nat.reduceLeDiff, Nat.reduceLT, Option.toList_some, Option.toList_none, List.cons_append, List.nil_append, true_and, and_true, true_or, or_true, false_or, or_false, and_self, false_and, not_false_eq_true, not_true_eq_false, hk, hs, show am_sw 7 0 4 #[1, 2, 3, 7, 4] (nI 2) = 3 from rfl]
    simp only [bk_115_3, bq_115_3, bk_115_8, bq_115_8, G_35, G_36, X_push, X_goto, X_fall, X_ifeq, X_ifne, X_iflt, X_ifge, X_ifgt, X_ifle, X_iceq, X_icne, X_iclt, X_icge, X_icgt, X_icle, X_ifnull, X_ifnonnull, X_switch, X_ireturn, X_lreturn, X_areturn, X_return, X_zreturn, X_iload, X_lload, X_aload, X_istore, X_astore, X_lstore, X_iinc, X_iadd, X_isub, X_imul, X_idiv, X_irem, X_iand, X_ior, X_ishl, X_ishr, X_iushr, X_ladd, X_lsub, X_lmul, X_ldiv, X_land, X_lor, X_lshl, X_lcmp, X_ineg, X_i2l, X_l2i, X_i2b, X_i2s, X_i2c, X_dupr, X_dupi, X_dup_x1, X_dup2, X_popi, X_popr, X_iaload, X_baload, X_laload, X_aaload, X_iastore, X_bastore, X_lastore, X_aastore, X_arraylength, am_wt_0, am_wt_int, am_wt_long, am_wt_ref, List.getElem?_cons_zero, List.getElem?_cons_succ, am_s1, am_s2, am_kill, List.set_cons_zero, List.set_cons_succ, List.length_cons, List.length_nil, Int.reduceToNat, Nat.reduceAdd, Nat.reduceLeDiff, Nat.reduceLT, Option.toList_some, Option.toList_none, List.cons_append, List.nil_append, true_and, and_true, true_or, or_true, false_or, or_false, and_self, false_and, not_false_eq_true, not_true_eq_false, hk, he, hn, in_nI hi (show N < 2 ^ 31 by omega), tn_nI (show i < 2 ^ 31 by omega)]
    rfl
  · simp only [bk_115_0, bq_115_0, G_35, G_36, X_push, X_goto, X_fall, X_ifeq, X_ifne, X_iflt, X_ifge, X_ifgt, X_ifle, X_iceq, X_icne, X_iclt, X_icge, X_icgt, X_icle, X_ifnull, X_ifnonnull, X_switch, X_ireturn, X_lreturn, X_areturn, X_return, X_zreturn, X_iload, X_lload, X_aload, X_istore, X_astore, X_lstore, X_iinc, X_iadd, X_isub, X_imul, X_idiv, X_irem, X_iand, X_ior, X_ishl, X_ishr, X_iushr, X_ladd, X_lsub, X_lmul, X_ldiv, X_land, X_lor, X_lshl, X_lcmp, X_ineg, X_i2l, X_l2i, X_i2b, X_i2s, X_i2c, X_dupr, X_dupi, X_dup_x1, X_dup2, X_popi, X_popr, X_iaload, X_baload, X_laload, X_aaload, X_iastore, X_bastore, X_lastore, X_aastore, X_arraylength, am_wt_0, am_wt_int, am_wt_long, am_wt_ref, List.getElem?_cons_zero, List.getElem?_cons_succ, am_s1, am_s2, am_kill, List.set_cons_zero, List.set_cons_succ, List.length_cons, List.length_nil, Int.reduceToNat, Nat.reduceAdd, Nat.reduceLeDiff, Nat.reduceLT, Option.toList_some, Option.toList_none, List.cons_append, List.nil_append, true_and, and_true, true_or, or_true, false_or, or_false, and_self, false_and, not_false_eq_true, not_true_eq_false, hk, hs, show am_sw 7 0 4 #[1, 2, 3, 7, 4] (nI 3) = 7 from rfl]
    simp only [bk_115_7, bq_115_7, bk_115_8, bq_115_8, G_35, G_36, X_push, X_goto, X_fall, X_ifeq, X_ifne, X_iflt, X_ifge, X_ifgt, X_ifle, X_iceq, X_icne, X_iclt, X_icge, X_icgt, X_icle, X_ifnull, X_ifnonnull, X_switch, X_ireturn, X_lreturn, X_areturn, X_return, X_zreturn, X_iload, X_lload, X_aload, X_istore, X_astore, X_lstore, X_iinc, X_iadd, X_isub, X_imul, X_idiv, X_irem, X_iand, X_ior, X_ishl, X_ishr, X_iushr, X_ladd, X_lsub, X_lmul, X_ldiv, X_land, X_lor, X_lshl, X_lcmp, X_ineg, X_i2l, X_l2i, X_i2b, X_i2s, X_i2c, X_dupr, X_dupi, X_dup_x1, X_dup2, X_popi, X_popr, X_iaload, X_baload, X_laload, X_aaload, X_iastore, X_bastore, X_lastore, X_aastore, X_arraylength, am_wt_0, am_wt_int, am_wt_long, am_wt_ref, List.getElem?_cons_zero, List.getElem?_cons_succ, am_s1, am_s2, am_kill, List.set_cons_zero, List.set_cons_succ, List.length_cons, List.length_nil, Int.reduceToNat, Nat.reduceAdd, Nat.reduceLeDiff, Nat.reduceLT, Option.toList_some, Option.toList_none, List.cons_append, List.nil_append, true_and, and_true, true_or, or_true, false_or, or_false, and_self, false_and, not_false_eq_true, not_true_eq_false, hk, he, hn, in_nI hi (show N < 2 ^ 31 by omega), tn_nI (show i < 2 ^ 31 by omega)]
    rfl
  · simp only [bk_115_0, bq_115_0, G_35, G_36, X_push, X_goto, X_fall, X_ifeq, X_ifne, X_iflt, X_ifge, X_ifgt, X_ifle, X_iceq, X_icne, X_iclt, X_icge, X_icgt, X_icle, X_ifnull, X_ifnonnull, X_switch, X_ireturn, X_lreturn, X_areturn, X_return, X_zreturn, X_iload, X_lload, X_aload, X_istore, X_astore, X_lstore, X_iinc, X_iadd, X_isub, X_imul, X_idiv, X_irem, X_iand, X_ior, X_ishl, X_ishr, X_iushr, X_ladd, X_lsub, X_lmul, X_ldiv, X_land, X_lor, X_lshl, X_lcmp, X_ineg, X_i2l, X_l2i, X_i2b, X_i2s, X_i2c, X_dupr, X_dupi, X_dup_x1, X_dup2, X_popi, X_popr, X_iaload, X_baload, X_laload, X_aaload, X_iastore, X_bastore, X_lastore, X_aastore, X_arraylength, am_wt_0, am_wt_int, am_wt_long, am_wt_ref, List.getElem?_cons_zero, List.getElem?_cons_succ, am_s1, am_s2, am_kill, List.set_cons_zero, List.set_cons_succ, List.length_cons, List.length_nil, Int.reduceToNat, Nat.reduceAdd, Nat.reduceLeDiff, Nat.reduceLT, Option.toList_some, Option.toList_none, List.cons_append, List.nil_append, true_and, and_true, true_or, or_true, false_or, or_false, and_self, false_and, not_false_eq_true, not_true_eq_false, hk, hs, show am_sw 7 0 4 #[1, 2, 3, 7, 4] (nI 4) = 4 from rfl]
    have ef : fitv 4 v = if v = 0 then 0 else 1 := rfl
    by_cases c : v = 0
    · simp only [bk_115_4, bq_115_4, bk_115_5, bq_115_5, bk_115_6, bq_115_6, bk_115_8, bq_115_8, G_35, G_36, X_push, X_goto, X_fall, X_ifeq, X_ifne, X_iflt, X_ifge, X_ifgt, X_ifle, X_iceq, X_icne, X_iclt, X_icge, X_icgt, X_icle, X_ifnull, X_ifnonnull, X_switch, X_ireturn, X_lreturn, X_areturn, X_return, X_zreturn, X_iload, X_lload, X_aload, X_istore, X_astore, X_lstore, X_iinc, X_iadd, X_isub, X_imul, X_idiv, X_irem, X_iand, X_ior, X_ishl, X_ishr, X_iushr, X_ladd, X_lsub, X_lmul, X_ldiv, X_land, X_lor, X_lshl, X_lcmp, X_ineg, X_i2l, X_l2i, X_i2b, X_i2s, X_i2c, X_dupr, X_dupi, X_dup_x1, X_dup2, X_popi, X_popr, X_iaload, X_baload, X_laload, X_aaload, X_iastore, X_bastore, X_lastore, X_aastore, X_arraylength, am_wt_0, am_wt_int, am_wt_long, am_wt_ref, List.getElem?_cons_zero, List.getElem?_cons_succ, am_s1, am_s2, am_kill, List.set_cons_zero, List.set_cons_succ, List.length_cons, List.length_nil, Int.reduceToNat, Nat.reduceAdd, Nat.reduceLeDiff, Nat.reduceLT, Option.toList_some, Option.toList_none, List.cons_append, List.nil_append, true_and, and_true, true_or, or_true, false_or, or_false, and_self, false_and, not_false_eq_true, not_true_eq_false, hk, he, hn, in_nI hi (show N < 2 ^ 31 by omega), tn_nI (show i < 2 ^ 31 by omega), cmp_eq, c, if_true, ef]
      rfl
    · simp only [bk_115_4, bq_115_4, bk_115_5, bq_115_5, bk_115_6, bq_115_6, bk_115_8, bq_115_8, G_35, G_36, X_push, X_goto, X_fall, X_ifeq, X_ifne, X_iflt, X_ifge, X_ifgt, X_ifle, X_iceq, X_icne, X_iclt, X_icge, X_icgt, X_icle, X_ifnull, X_ifnonnull, X_switch, X_ireturn, X_lreturn, X_areturn, X_return, X_zreturn, X_iload, X_lload, X_aload, X_istore, X_astore, X_lstore, X_iinc, X_iadd, X_isub, X_imul, X_idiv, X_irem, X_iand, X_ior, X_ishl, X_ishr, X_iushr, X_ladd, X_lsub, X_lmul, X_ldiv, X_land, X_lor, X_lshl, X_lcmp, X_ineg, X_i2l, X_l2i, X_i2b, X_i2s, X_i2c, X_dupr, X_dupi, X_dup_x1, X_dup2, X_popi, X_popr, X_iaload, X_baload, X_laload, X_aaload, X_iastore, X_bastore, X_lastore, X_aastore, X_arraylength, am_wt_0, am_wt_int, am_wt_long, am_wt_ref, List.getElem?_cons_zero, List.getElem?_cons_succ, am_s1, am_s2, am_kill, List.set_cons_zero, List.set_cons_succ, List.length_cons, List.length_nil, Int.reduceToNat, Nat.reduceAdd, Nat.reduceLeDiff, Nat.reduceLT, Option.toList_some, Option.toList_none, List.cons_append, List.nil_append, true_and, and_true, true_or, or_true, false_or, or_false, and_self, false_and, not_false_eq_true, not_true_eq_false, hk, he, hn, in_nI hi (show N < 2 ^ 31 by omega), tn_nI (show i < 2 ^ 31 by omega), cmp_eq, c, if_false, ef]
/-- element i as part of a placing -/
def pla (v : Int64) : Int := if 0 ≤ v.toInt ∧ v.toInt < 3 then v.toInt else -1
theorem c_116 (hk : gk g r = 5) (he : gk g (gr g r 1) = 21) (hn : gn g (gr g r 1) = N) (hN : N ≤ 40) {i : Nat} (hi : i < N) : X d 116 (am_bk 116 0) [.ref r, .int (nI i), .null, .null] [] (ci, cj, g) Q ↔ Q (some (.int (iI (pla (cj (gr g r 1) i))))) (ci, cj, g) := by
  simp only [bk_116_0, bq_116_0, bk_116_1, bq_116_1, bk_116_2, bq_116_2, G_36, X_push, X_goto, X_fall, X_ifeq, X_ifne, X_iflt, X_ifge, X_ifgt, X_ifle, X_iceq, X_icne, X_iclt, X_icge, X_icgt, X_icle, X_ifnull, X_ifnonnull, X_switch, X_ireturn, X_lreturn, X_areturn, X_return, X_zreturn, X_iload, X_lload, X_aload, X_istore, X_astore, X_lstore, X_iinc, X_iadd, X_isub, X_imul, X_idiv, X_irem, X_iand, X_ior, X_ishl, X_ishr, X_iushr, X_ladd, X_lsub, X_lmul, X_ldiv, X_land, X_lor, X_lshl, X_lcmp, X_ineg, X_i2l, X_l2i, X_i2b, X_i2s, X_i2c, X_dupr, X_dupi, X_dup_x1, X_dup2, X_popi, X_popr, X_iaload, X_baload, X_laload, X_aaload, X_iastore, X_bastore, X_lastore, X_aastore, X_arraylength, am_wt_0, am_wt_int, am_wt_long, am_wt_ref, List.getElem?_cons_zero, List.getElem?_cons_succ, am_s1, am_s2, am_kill, List.set_cons_zero, List.set_cons_succ, List.length_cons, List.length_nil, Int.reduceToNat, Nat.reduceAdd, Nat.reduceLeDiff, Nat.reduceLT, Option.toList_some, Option.toList_none, List.cons_append, List.nil_append, true_and, and_true, true_or, or_true, false_or, or_false, and_self, false_and, not_false_eq_true, not_true_eq_false, hk, he, hn, in_nI hi (show N < 2 ^ 31 by omega), tn_nI (show i < 2 ^ 31 by omega), cmp_lt, cmp_ge, tl_0, tl_3]
  generalize cj (gr g r 1) i = v
  unfold pla
  by_cases h1 : v.toInt < 0
  · rw [if_pos h1, if_neg (by omega)]; rfl
  · by_cases h2 : 3 ≤ v.toInt
    · rw [if_neg h1, if_pos h2, if_neg (by omega)]; rfl
    · rw [if_neg h1, if_neg h2, if_pos (by omega), ← l2i_jI, jI_of]
theorem cR_e {F : Nat → Prop} {ci : Nat → Nat → Int32} {cj : Nat → Nat → Int64} {g : am_G} {T : tS} (R : cR F ci cj g T) {s : Nat} (hs : s < 8) (h1 : hK (tH T) s = 1) {f c : Nat → Int64} (hc : ∀ i, i < rN (tH T) s → c i = f i) : cR F ci (am_u1 cj (gr g (gr g 71 s) 1) c) g (stH T (stE (tH T) s f)) ∧ frm F ci cj ci (am_u1 cj (gr g (gr g 71 s) 1) c) := by
  obtain ⟨L, D, C, E, P⟩ := R
  have fe : F (gr g (gr g 71 s) 1) := by
    rcases C s hs with ⟨a, -⟩ | ⟨_, _, _, _, _, l, -⟩ | ⟨a, -⟩
    · omega
    · exact l
    · omega
  refine ⟨⟨L, D, fun t ht => ?_, E, ⟨P.1, P.2.1, P.2.2.1, P.2.2.2.1, P.2.2.2.2⟩⟩, fun a ha => ⟨rfl, ?_⟩⟩
  · rcases C t ht with h | ⟨a, b, c', e, q, i, j, k, l, m⟩ | h
    · exact Or.inl h
    · refine Or.inr (Or.inl ⟨a, b, c', e, q, i, j, k, l, fun x hx => ?_⟩)
      show am_u1 cj _ c _ x = am_u1 (rE (tH T)) s f t x
      by_cases z : t = s
      · subst z
        unfold am_u1
        rw [if_pos rfl, if_pos rfl]
        exact hc x hx
      · have := E t ht s hs z a h1
        unfold am_u1
        rw [if_neg this, if_neg z]
        exact m x hx
    · exact Or.inr (Or.inr h)
  · have z : a ≠ gr g (gr g 71 s) 1 := fun z => ha (by rw [z]; exact fe)
    show am_u1 cj _ c a = cj a
    unfold am_u1
    rw [if_neg z]
theorem k_element (R : cR F ci cj g T) (s i : Int32) (k : Kn F ci cj g (q_element T s i).2 (.long (q_element T s i).1) Q) : X (d + 3) 4 (am_bk 4 0) [.ref 32, .int s, .int i, .null] [] (ci, cj, g) Q := by
  have L := cR_to R
  unfold q_element at k
  by_cases h : noRow T s = 5
  · obtain ⟨j, hj, rfl, h1, e, hk, _, h73, hs, _, h73e, he, hn, hm, h4, h40⟩ := noRow_5 R h
    rw [tn_nI (show j < 2 ^ 31 by omega)] at k
    by_cases h2 : decide (0 ≤ i.toInt ∧ i.toInt < (rN (tH T) j : Int)) = true
    · rw [if_pos ⟨h, h2⟩] at k
      have h3 := of_decide_eq_true h2
      obtain ⟨a, ha, rfl⟩ := nI_ex h3.1
      rw [nI_ti ha] at h3
      rw [tn_nI (by omega)] at k
      simp only [bk_4_0, bq_4_0, bk_4_2, bq_4_2, G_36, X_push, X_goto, X_fall, X_ifeq, X_ifne, X_iflt, X_ifge, X_ifgt, X_ifle, X_iceq, X_icne, X_iclt, X_icge, X_icgt, X_icle, X_ifnull, X_ifnonnull, X_switch, X_ireturn, X_lreturn, X_areturn, X_return, X_zreturn, X_iload, X_lload, X_aload, X_istore, X_astore, X_lstore, X_iinc, X_iadd, X_isub, X_imul, X_idiv, X_irem, X_iand, X_ior, X_ishl, X_ishr, X_iushr, X_ladd, X_lsub, X_lmul, X_ldiv, X_land, X_lor, X_lshl, X_lcmp, X_ineg, X_i2l, X_l2i, X_i2b, X_i2s, X_i2c, X_dupr, X_dupi, X_dup_x1, X_dup2, X_popi, X_popr, X_iaload, X_baload, X_laload, X_aaload, X_iastore, X_bastore, X_lastore, X_aastore, X_arraylength, am_wt_0, am_wt_int, am_wt_long, am_wt_ref, List.getElem?_cons_zero, List.getElem?_cons_succ, am_s1, am_s2, am_kill, List.set_cons_zero, List.set_cons_succ, List.length_cons, List.length_nil, Int.reduceToNat, Nat.reduceAdd, Nat.reduceLeDiff, Nat.reduceLT, Option.toList_some, Option.toList_none, List.cons_append, List.nil_append, true_and, and_true, true_or, or_true, false_or, or_false, and_self, false_and, not_false_eq_true, not_true_eq_false, C_50, c_50 R, to_k L, to_r0 L, to_r1 L, to_r2 L, to_r3 L, to_r4 L, to_r5 L, to_r6 L, to_a5 L, to_n5 L, to_a6 L, to_n6 L, e, show ¬ gr g 71 j = 0 by omega, if_false, C_113 _ _ hk, c_113 hk he hn h40, h2, bI_t, i10, hk, he, hn, in_nI (show a < rN (tH T) j by omega) (show rN (tH T) j < 2 ^ 31 by omega), tn_nI (show a < 2 ^ 31 by omega), hm a (by omega)]
      exact kn_id R k
    · rw [if_neg (fun z => h2 z.2)] at k
      simp only [bk_4_0, bq_4_0, bk_4_1, bq_4_1, bk_4_2, bq_4_2, G_36, X_push, X_goto, X_fall, X_ifeq, X_ifne, X_iflt, X_ifge, X_ifgt, X_ifle, X_iceq, X_icne, X_iclt, X_icge, X_icgt, X_icle, X_ifnull, X_ifnonnull, X_switch, X_ireturn, X_lreturn, X_areturn, X_return, X_zreturn, X_iload, X_lload, X_aload, X_istore, X_astore, X_lstore, X_iinc, X_iadd, X_isub, X_imul, X_idiv, X_irem, X_iand, X_ior, X_ishl, X_ishr, X_iushr, X_ladd, X_lsub, X_lmul, X_ldiv, X_land, X_lor, X_lshl, X_lcmp, X_ineg, X_i2l, X_l2i, X_i2b, X_i2s, X_i2c, X_dupr, X_dupi, X_dup_x1, X_dup2, X_popi, X_popr, X_iaload, X_baload, X_laload, X_aaload, X_iastore, X_bastore, X_lastore, X_aastore, X_arraylength, am_wt_0, am_wt_int, am_wt_long, am_wt_ref, List.getElem?_cons_zero, List.getElem?_cons_succ, am_s1, am_s2, am_kill, List.set_cons_zero, List.set_cons_succ, List.length_cons, List.length_nil, Int.reduceToNat, Nat.reduceAdd, Nat.reduceLeDiff, Nat.reduceLT, Option.toList_some, Option.toList_none, List.cons_append, List.nil_append, true_and, and_true, true_or, or_true, false_or, or_false, and_self, false_and, not_false_eq_true, not_true_eq_false, C_50, c_50 R, to_k L, to_r0 L, to_r1 L, to_r2 L, to_r3 L, to_r4 L, to_r5 L, to_r6 L, to_a5 L, to_n5 L, to_a6 L, to_n6 L, e, show ¬ gr g 71 j = 0 by omega, if_false, C_113 _ _ hk, c_113 hk he hn h40, h2, bI_f, if_true]
      exact kn_id R k
  · rw [if_neg (fun z => h z.1)] at k
    simp only [bk_4_0, bq_4_0, bk_4_1, bq_4_1, bk_4_2, bq_4_2, G_36, X_push, X_goto, X_fall, X_ifeq, X_ifne, X_iflt, X_ifge, X_ifgt, X_ifle, X_iceq, X_icne, X_iclt, X_icge, X_icgt, X_icle, X_ifnull, X_ifnonnull, X_switch, X_ireturn, X_lreturn, X_areturn, X_return, X_zreturn, X_iload, X_lload, X_aload, X_istore, X_astore, X_lstore, X_iinc, X_iadd, X_isub, X_imul, X_idiv, X_irem, X_iand, X_ior, X_ishl, X_ishr, X_iushr, X_ladd, X_lsub, X_lmul, X_ldiv, X_land, X_lor, X_lshl, X_lcmp, X_ineg, X_i2l, X_l2i, X_i2b, X_i2s, X_i2c, X_dupr, X_dupi, X_dup_x1, X_dup2, X_popi, X_popr, X_iaload, X_baload, X_laload, X_aaload, X_iastore, X_bastore, X_lastore, X_aastore, X_arraylength, am_wt_0, am_wt_int, am_wt_long, am_wt_ref, List.getElem?_cons_zero, List.getElem?_cons_succ, am_s1, am_s2, am_kill, List.set_cons_zero, List.set_cons_succ, List.length_cons, List.length_nil, Int.reduceToNat, Nat.reduceAdd, Nat.reduceLeDiff, Nat.reduceLT, Option.toList_some, Option.toList_none, List.cons_append, List.nil_append, true_and, and_true, true_or, or_true, false_or, or_false, and_self, false_and, not_false_eq_true, not_true_eq_false, C_50, c_50 R, to_k L, to_r0 L, to_r1 L, to_r2 L, to_r3 L, to_r4 L, to_r5 L, to_r6 L, to_a5 L, to_n5 L, to_a6 L, to_n6 L, noRow_n (g := g) h, if_true]
    exact kn_id R k
theorem k_set (R : cR F ci cj g T) (s i : Int32) (v : Int64) (k : Kn F ci cj g (q_set T s i v).2 (.int (q_set T s i v).1) Q) : X (d + 3) 2 (am_bk 2 0) [.ref 32, .int s, .int i, .long v, .null, .null] [] (ci, cj, g) Q := by
  have L := cR_to R
  unfold q_set at k
  by_cases h : noRow T s = 5
  · rw [if_pos h] at k
    obtain ⟨j, hj, rfl, h1, e, hk, _, h73, hs, _, h73e, he, hn, hm, h4, h40⟩ := noRow_5 R h
    rw [tn_nI (show j < 2 ^ 31 by omega)] at k
    by_cases h2 : decide (0 ≤ i.toInt ∧ i.toInt < (rN (tH T) j : Int)) = true
    · rw [if_pos h2] at k
      have h3 := of_decide_eq_true h2
      obtain ⟨a, ha, rfl⟩ := nI_ex h3.1
      rw [nI_ti ha] at h3
      rw [tn_nI (by omega)] at k
      simp only [bk_2_0, bq_2_0, bk_2_1, bq_2_1, bk_2_2, bq_2_2, X_push, X_goto, X_fall, X_ifeq, X_ifne, X_iflt, X_ifge, X_ifgt, X_ifle, X_iceq, X_icne, X_iclt, X_icge, X_icgt, X_icle, X_ifnull, X_ifnonnull, X_switch, X_ireturn, X_lreturn, X_areturn, X_return, X_zreturn, X_iload, X_lload, X_aload, X_istore, X_astore, X_lstore, X_iinc, X_iadd, X_isub, X_imul, X_idiv, X_irem, X_iand, X_ior, X_ishl, X_ishr, X_iushr, X_ladd, X_lsub, X_lmul, X_ldiv, X_land, X_lor, X_lshl, X_lcmp, X_ineg, X_i2l, X_l2i, X_i2b, X_i2s, X_i2c, X_dupr, X_dupi, X_dup_x1, X_dup2, X_popi, X_popr, X_iaload, X_baload, X_laload, X_aaload, X_iastore, X_bastore, X_lastore, X_aastore, X_arraylength, am_wt_0, am_wt_int, am_wt_long, am_wt_ref, List.getElem?_cons_zero, List.getElem?_cons_succ, am_s1, am_s2, am_kill, List.set_cons_zero, List.set_cons_succ, List.length_cons, List.length_nil, Int.reduceToNat, Nat.reduceAdd, Nat.reduceLeDiff, Nat.reduceLT, Option.toList_some, Option.toList_none, List.cons_append, List.nil_append, true_and, and_true, true_or, or_true, false_or, or_false, and_self, false_and, not_false_eq_true, not_true_eq_false, C_50, c_50 R, to_k L, to_r0 L, to_r1 L, to_r2 L, to_r3 L, to_r4 L, to_r5 L, to_r6 L, to_a5 L, to_n5 L, to_a6 L, to_n6 L, e, show ¬ gr g 71 j = 0 by omega, if_false, C_113 _ _ hk, c_113 hk he hn h40, h2, bI_t, i10, if_true, C_115 _ _ _ hk, c_115 hk he hn h40 hs h4 (show a < rN (tH T) j by omega)]
      obtain ⟨R1, r1⟩ := cR_e R hj h1 (f := am_u1 (rE (tH T) j) a (fitv (rS (tH T) j) v)) (c := am_u1 (cj (gr g (gr g 71 j) 1)) a (fitv (rS (tH T) j) v)) (fun x hx => by unfold am_u1; split; rfl; exact hm x hx)
      exact k _ _ R1 r1
    · rw [if_neg h2] at k
      simp only [bk_2_0, bq_2_0, bk_2_1, bq_2_1, X_push, X_goto, X_fall, X_ifeq, X_ifne, X_iflt, X_ifge, X_ifgt, X_ifle, X_iceq, X_icne, X_iclt, X_icge, X_icgt, X_icle, X_ifnull, X_ifnonnull, X_switch, X_ireturn, X_lreturn, X_areturn, X_return, X_zreturn, X_iload, X_lload, X_aload, X_istore, X_astore, X_lstore, X_iinc, X_iadd, X_isub, X_imul, X_idiv, X_irem, X_iand, X_ior, X_ishl, X_ishr, X_iushr, X_ladd, X_lsub, X_lmul, X_ldiv, X_land, X_lor, X_lshl, X_lcmp, X_ineg, X_i2l, X_l2i, X_i2b, X_i2s, X_i2c, X_dupr, X_dupi, X_dup_x1, X_dup2, X_popi, X_popr, X_iaload, X_baload, X_laload, X_aaload, X_iastore, X_bastore, X_lastore, X_aastore, X_arraylength, am_wt_0, am_wt_int, am_wt_long, am_wt_ref, List.getElem?_cons_zero, List.getElem?_cons_succ, am_s1, am_s2, am_kill, List.set_cons_zero, List.set_cons_succ, List.length_cons, List.length_nil, Int.reduceToNat, Nat.reduceAdd, Nat.reduceLeDiff, Nat.reduceLT, Option.toList_some, Option.toList_none, List.cons_append, List.nil_append, true_and, and_true, true_or, or_true, false_or, or_false, and_self, false_and, not_false_eq_true, not_true_eq_false, C_50, c_50 R, to_k L, to_r0 L, to_r1 L, to_r2 L, to_r3 L, to_r4 L, to_r5 L, to_r6 L, to_a5 L, to_n5 L, to_a6 L, to_n6 L, e, show ¬ gr g 71 j = 0 by omega, if_false, C_113 _ _ hk, c_113 hk he hn h40, h2, bI_f, rI_0, rI_1, rI_2, rI_3, rI_4, C_44, C_45, c_44 R (show 0 < 5 by decide), c_44 R (show 1 < 5 by decide), c_44 R (show 2 < 5 by decide), c_44 R (show 3 < 5 by decide), c_44 R (show 4 < 5 by decide), c_45 R (show 0 < 5 by decide), c_45 R (show 1 < 5 by decide), c_45 R (show 2 < 5 by decide), c_45 R (show 3 < 5 by decide), c_45 R (show 4 < 5 by decide)]
      exact kn_rf R (by decide) k
  · rw [if_neg h] at k
    simp only [bk_2_0, bq_2_0, X_push, X_goto, X_fall, X_ifeq, X_ifne, X_iflt, X_ifge, X_ifgt, X_ifle, X_iceq, X_icne, X_iclt, X_icge, X_icgt, X_icle, X_ifnull, X_ifnonnull, X_switch, X_ireturn, X_lreturn, X_areturn, X_return, X_zreturn, X_iload, X_lload, X_aload, X_istore, X_astore, X_lstore, X_iinc, X_iadd, X_isub, X_imul, X_idiv, X_irem, X_iand, X_ior, X_ishl, X_ishr, X_iushr, X_ladd, X_lsub, X_lmul, X_ldiv, X_land, X_lor, X_lshl, X_lcmp, X_ineg, X_i2l, X_l2i, X_i2b, X_i2s, X_i2c, X_dupr, X_dupi, X_dup_x1, X_dup2, X_popi, X_popr, X_iaload, X_baload, X_laload, X_aaload, X_iastore, X_bastore, X_lastore, X_aastore, X_arraylength, am_wt_0, am_wt_int, am_wt_long, am_wt_ref, List.getElem?_cons_zero, List.getElem?_cons_succ, am_s1, am_s2, am_kill, List.set_cons_zero, List.set_cons_succ, List.length_cons, List.length_nil, Int.reduceToNat, Nat.reduceAdd, Nat.reduceLeDiff, Nat.reduceLT, Option.toList_some, Option.toList_none, List.cons_append, List.nil_append, true_and, and_true, true_or, or_true, false_or, or_false, and_self, false_and, not_false_eq_true, not_true_eq_false, C_50, c_50 R, to_k L, to_r0 L, to_r1 L, to_r2 L, to_r3 L, to_r4 L, to_r5 L, to_r6 L, to_a5 L, to_n5 L, to_a6 L, to_n6 L, noRow_n (g := g) h, if_true, C_52, c_52 R, h, if_false, C_44, c_44 R (noRow_lt h)]
    exact kn_rf R (noRow_lt h) k
theorem rI_ne (k : Nat) (h : k < 5) : (rI k = 0) = False := by
  refine eq_false (fun z => ?_)
  have := congrArg Int32.toInt z
  unfold rI at this
  rw [iI_ti (by omega) (by omega), ti_0] at this
  omega
theorem rI_eq {i j : Nat} (hi : i < 5) (hj : j < 5) : (rI i = rI j) = (i = j) := by
  refine propext ⟨fun z => ?_, fun z => by rw [z]⟩
  have := congrArg Int32.toInt z
  unfold rI at this
  rw [iI_ti (by omega) (by omega), iI_ti (by omega) (by omega)] at this
  omega
/-- troubleWithRows -/
theorem c_54 (R : cR F ci cj g T) (p q : Int32) : X (d + 2) 54 (am_bk 54 0) [.ref 32, .int p, .int q, .null, .null] [] (ci, cj, g) Q ↔ Q (some (.int (if tRs T p q = 5 then 0 else rI (tRs T p q)))) (ci, cj, g) := by
  have L := cR_to R
  simp only [bk_54_0, bq_54_0, bk_54_1, bq_54_1, bk_54_2, bq_54_2, bk_54_3, bq_54_3, bk_54_4, bq_54_4, bk_54_5, bq_54_5, bk_54_6, bq_54_6, X_push, X_goto, X_fall, X_ifeq, X_ifne, X_iflt, X_ifge, X_ifgt, X_ifle, X_iceq, X_icne, X_iclt, X_icge, X_icgt, X_icle, X_ifnull, X_ifnonnull, X_switch, X_ireturn, X_lreturn, X_areturn, X_return, X_zreturn, X_iload, X_lload, X_aload, X_istore, X_astore, X_lstore, X_iinc, X_iadd, X_isub, X_imul, X_idiv, X_irem, X_iand, X_ior, X_ishl, X_ishr, X_iushr, X_ladd, X_lsub, X_lmul, X_ldiv, X_land, X_lor, X_lshl, X_lcmp, X_ineg, X_i2l, X_l2i, X_i2b, X_i2s, X_i2c, X_dupr, X_dupi, X_dup_x1, X_dup2, X_popi, X_popr, X_iaload, X_baload, X_laload, X_aaload, X_iastore, X_bastore, X_lastore, X_aastore, X_arraylength, am_wt_0, am_wt_int, am_wt_long, am_wt_ref, List.getElem?_cons_zero, List.getElem?_cons_succ, am_s1, am_s2, am_kill, List.set_cons_zero, List.set_cons_succ, List.length_cons, List.length_nil, Int.reduceToNat, Nat.reduceAdd, Nat.reduceLeDiff, Nat.reduceLT, Option.toList_some, Option.toList_none, List.cons_append, List.nil_append, true_and, and_true, true_or, or_true, false_or, or_false, and_self, false_and, not_false_eq_true, not_true_eq_false, to_k L, to_r0 L, to_r1 L, to_r2 L, to_r3 L, to_r4 L, to_r5 L, to_r6 L, to_a5 L, to_n5 L, to_a6 L, to_n6 L, C_52, c_52 R, rI_0, rI_1]
  unfold tRs
  have z0 : ∀ j, j < 5 → ((0 : Int32) = rI j) = False := fun j hj => eq_false (fun z => by have := rI_ne j hj; rw [← z] at this; exact this ▸ rfl)
  rcases noRow_in T p with a | a | a | a <;> rcases noRow_in T q with b | b | b | b <;> simp only [a, b, Nat.reduceEqDiff, if_true, if_false, or_true, true_or, or_false, false_or, or_self, rI_eq (show 0 < 5 by decide) (show 0 < 5 by decide), rI_eq (show 1 < 5 by decide) (show 0 < 5 by decide), rI_eq (show 2 < 5 by decide) (show 0 < 5 by decide), rI_eq (show 1 < 5 by decide) (show 1 < 5 by decide), rI_eq (show 2 < 5 by decide) (show 1 < 5 by decide), rI_eq (show 0 < 5 by decide) (show 1 < 5 by decide), z0 0 (by decide), z0 1 (by decide), rI_ne 2 (by decide), not_true_eq_false, not_false_eq_true]
theorem k_copy (R : cR F ci cj g T) (p q i j n : Int32) (k : Kn F ci cj g (q_copy T p q i j n).2 (.int (q_copy T p q i j n).1) Q) : X (d + 3) 3 (am_bk 3 0) [.ref 32, .int p, .int q, .int i, .int j, .int n, .null, .null, .null] [] (ci, cj, g) Q := by
  have L := cR_to R
  unfold q_copy at k
  by_cases h : tRs T p q = 5
  · rw [if_pos h] at k
    have hpq : noRow T p = 5 ∧ noRow T q = 5 := by
      rcases tRs_in T p q with z | z | z | z
      · omega
      · omega
      · omega
      · exact z.2
    obtain ⟨a, ha, rfl, h1, e, hk, _, h73, hs, _, h73e, he, hn, hm, h4, h40⟩ := noRow_5 R hpq.1
    obtain ⟨b, hb, rfl, h1', e', hk', _, h73', hs', _, h73e', he', hn', hm', h4', h40'⟩ := noRow_5 R hpq.2
    rw [tn_nI (show a < 2 ^ 31 by omega), tn_nI (show b < 2 ^ 31 by omega)] at k
    by_cases h2 : rS (tH T) a = rS (tH T) b
    · rw [if_pos h2] at k
      by_cases h3 : prt (rN (tH T) a) i n = true
      · by_cases h5 : prt (rN (tH T) b) j n = true
        · rw [if_pos ⟨h3, h5⟩] at k
          have p3 := of_decide_eq_true h3
          have p5 := of_decide_eq_true h5
          obtain ⟨x, hx, rfl⟩ := nI_ex p3.1
          obtain ⟨y, hy, rfl⟩ := nI_ex p5.1
          obtain ⟨m, hm3, rfl⟩ := nI_ex p3.2.1
          rw [nI_ti hx, nI_ti hm3] at p3
          rw [nI_ti hy, nI_ti hm3] at p5
          rw [tn_nI (by omega), tn_nI (by omega), tn_nI (by omega)] at k
          simp only [bk_3_0, bq_3_0, bk_3_1, bq_3_1, bk_3_3, bq_3_3, bk_3_5, bq_3_5, G_35, G_36, X_push, X_goto, X_fall, X_ifeq, X_ifne, X_iflt, X_ifge, X_ifgt, X_ifle, X_iceq, X_icne, X_iclt, X_icge, X_icgt, X_icle, X_ifnull, X_ifnonnull, X_switch, X_ireturn, X_lreturn, X_areturn, X_return, X_zreturn, X_iload, X_lload, X_aload, X_istore, X_astore, X_lstore, X_iinc, X_iadd, X_isub, X_imul, X_idiv, X_irem, X_iand, X_ior, X_ishl, X_ishr, X_iushr, X_ladd, X_lsub, X_lmul, X_ldiv, X_land, X_lor, X_lshl, X_lcmp, X_ineg, X_i2l, X_l2i, X_i2b, X_i2s, X_i2c, X_dupr, X_dupi, X_dup_x1, X_dup2, X_popi, X_popr, X_iaload, X_baload, X_laload, X_aaload, X_iastore, X_bastore, X_lastore, X_aastore, X_arraylength, am_wt_0, am_wt_int, am_wt_long, am_wt_ref, List.getElem?_cons_zero, List.getElem?_cons_succ, am_s1, am_s2, am_kill, List.set_cons_zero, List.set_cons_succ, List.length_cons, List.length_nil, Int.reduceToNat, Nat.reduceAdd, Nat.reduceLeDiff, Nat.reduceLT, Option.toList_some, Option.toList_none, List.cons_append, List.nil_append, true_and, and_true, true_or, or_true, false_or, or_false, and_self, false_and, not_false_eq_true, not_true_eq_false, to_k L, to_r0 L, to_r1 L, to_r2 L, to_r3 L, to_r4 L, to_r5 L, to_r6 L, to_a5 L, to_n5 L, to_a6 L, to_n6 L, C_54, c_54 R, h, if_true, C_50, c_50 R, e, e', show ¬ gr g 71 a = 0 by omega, show ¬ gr g 71 b = 0 by omega, if_false, hk, hk', hs, hs', h2, C_114 _ _ _ hk, C_114 _ _ _ hk', c_114 hk he hn h40, c_114 hk' he' hn' h40', h3, h5, bI_t, i10, X_cpyj _ _ _ _ _ he he', hn, hn', nI_ti hx, nI_ti hy, nI_ti hm3, tn_nI (show x < 2 ^ 31 by omega), tn_nI (show y < 2 ^ 31 by omega), tn_nI (show m < 2 ^ 31 by omega)]
          refine ⟨⟨by omega, by omega, by omega, by omega, by omega⟩, ?_⟩
          obtain ⟨R1, r1⟩ := cR_e R hb h1' (f := va_cpy (rE (tH T) a) (rE (tH T) b) x y m) (c := va_cpy (cj (gr g (gr g 71 a) 1)) (cj (gr g (gr g 71 b) 1)) x y m) (fun t ht => by
            unfold va_cpy
            split
            · rename_i z; exact hm _ (by omega)
            · exact hm' t ht)
          exact k _ _ R1 r1
        · rw [if_neg (fun z => h5 z.2)] at k
          simp only [bk_3_0, bq_3_0, bk_3_1, bq_3_1, bk_3_3, bq_3_3, bk_3_4, bq_3_4, G_35, G_36, X_push, X_goto, X_fall, X_ifeq, X_ifne, X_iflt, X_ifge, X_ifgt, X_ifle, X_iceq, X_icne, X_iclt, X_icge, X_icgt, X_icle, X_ifnull, X_ifnonnull, X_switch, X_ireturn, X_lreturn, X_areturn, X_return, X_zreturn, X_iload, X_lload, X_aload, X_istore, X_astore, X_lstore, X_iinc, X_iadd, X_isub, X_imul, X_idiv, X_irem, X_iand, X_ior, X_ishl, X_ishr, X_iushr, X_ladd, X_lsub, X_lmul, X_ldiv, X_land, X_lor, X_lshl, X_lcmp, X_ineg, X_i2l, X_l2i, X_i2b, X_i2s, X_i2c, X_dupr, X_dupi, X_dup_x1, X_dup2, X_popi, X_popr, X_iaload, X_baload, X_laload, X_aaload, X_iastore, X_bastore, X_lastore, X_aastore, X_arraylength, am_wt_0, am_wt_int, am_wt_long, am_wt_ref, List.getElem?_cons_zero, List.getElem?_cons_succ, am_s1, am_s2, am_kill, List.set_cons_zero, List.set_cons_succ, List.length_cons, List.length_nil, Int.reduceToNat, Nat.reduceAdd, Nat.reduceLeDiff, Nat.reduceLT, Option.toList_some, Option.toList_none, List.cons_append, List.nil_append, true_and, and_true, true_or, or_true, false_or, or_false, and_self, false_and, not_false_eq_true, not_true_eq_false, to_k L, to_r0 L, to_r1 L, to_r2 L, to_r3 L, to_r4 L, to_r5 L, to_r6 L, to_a5 L, to_n5 L, to_a6 L, to_n6 L, C_54, c_54 R, h, if_true, C_50, c_50 R, e, e', show ¬ gr g 71 a = 0 by omega, show ¬ gr g 71 b = 0 by omega, if_false, hk, hk', hs, hs', h2, C_114 _ _ _ hk, C_114 _ _ _ hk', c_114 hk he hn h40, c_114 hk' he' hn' h40', h3, h5, bI_t, bI_f, i10, rI_0, rI_1, rI_2, rI_3, rI_4, C_44, C_45, c_44 R (show 0 < 5 by decide), c_44 R (show 1 < 5 by decide), c_44 R (show 2 < 5 by decide), c_44 R (show 3 < 5 by decide), c_44 R (show 4 < 5 by decide), c_45 R (show 0 < 5 by decide), c_45 R (show 1 < 5 by decide), c_45 R (show 2 < 5 by decide), c_45 R (show 3 < 5 by decide), c_45 R (show 4 < 5 by decide)]
          exact kn_rf R (by decide) k
      · rw [if_neg (fun z => h3 z.1)] at k
        simp only [bk_3_0, bq_3_0, bk_3_1, bq_3_1, bk_3_3, bq_3_3, bk_3_4, bq_3_4, G_35, G_36, X_push, X_goto, X_fall, X_ifeq, X_ifne, X_iflt, X_ifge, X_ifgt, X_ifle, X_iceq, X_icne, X_iclt, X_icge, X_icgt, X_icle, X_ifnull, X_ifnonnull, X_switch, X_ireturn, X_lreturn, X_areturn, X_return, X_zreturn, X_iload, X_lload, X_aload, X_istore, X_astore, X_lstore, X_iinc, X_iadd, X_isub, X_imul, X_idiv, X_irem, X_iand, X_ior, X_ishl, X_ishr, X_iushr, X_ladd, X_lsub, X_lmul, X_ldiv, X_land, X_lor, X_lshl, X_lcmp, X_ineg, X_i2l, X_l2i, X_i2b, X_i2s, X_i2c, X_dupr, X_dupi, X_dup_x1, X_dup2, X_popi, X_popr, X_iaload, X_baload, X_laload, X_aaload, X_iastore, X_bastore, X_lastore, X_aastore, X_arraylength, am_wt_0, am_wt_int, am_wt_long, am_wt_ref, List.getElem?_cons_zero, List.getElem?_cons_succ, am_s1, am_s2, am_kill, List.set_cons_zero, List.set_cons_succ, List.length_cons, List.length_nil, Int.reduceToNat, Nat.reduceAdd, Nat.reduceLeDiff, Nat.reduceLT, Option.toList_some, Option.toList_none, List.cons_append, List.nil_append, true_and, and_true, true_or, or_true, false_or, or_false, and_self, false_and, not_false_eq_true, not_true_eq_false, to_k L, to_r0 L, to_r1 L, to_r2 L, to_r3 L, to_r4 L, to_r5 L, to_r6 L, to_a5 L, to_n5 L, to_a6 L, to_n6 L, C_54, c_54 R, h, if_true, C_50, c_50 R, e, e', show ¬ gr g 71 a = 0 by omega, show ¬ gr g 71 b = 0 by omega, if_false, hk, hk', hs, hs', h2, C_114 _ _ _ hk, c_114 hk he hn h40, h3, bI_f, rI_0, rI_1, rI_2, rI_3, rI_4, C_44, C_45, c_44 R (show 0 < 5 by decide), c_44 R (show 1 < 5 by decide), c_44 R (show 2 < 5 by decide), c_44 R (show 3 < 5 by decide), c_44 R (show 4 < 5 by decide), c_45 R (show 0 < 5 by decide), c_45 R (show 1 < 5 by decide), c_45 R (show 2 < 5 by decide), c_45 R (show 3 < 5 by decide), c_45 R (show 4 < 5 by decide)]
        exact kn_rf R (by decide) k
    · rw [if_neg h2] at k
      have h2' : (nI (rS (tH T) a) = nI (rS (tH T) b)) = False := eq_false (by rw [nI_eqi (by omega) (by omega)]; exact h2)
      simp only [bk_3_0, bq_3_0, bk_3_1, bq_3_1, bk_3_2, bq_3_2, G_35, G_36, X_push, X_goto, X_fall, X_ifeq, X_ifne, X_iflt, X_ifge, X_ifgt, X_ifle, X_iceq, X_icne, X_iclt, X_icge, X_icgt, X_icle, X_ifnull, X_ifnonnull, X_switch, X_ireturn, X_lreturn, X_areturn, X_return, X_zreturn, X_iload, X_lload, X_aload, X_istore, X_astore, X_lstore, X_iinc, X_iadd, X_isub, X_imul, X_idiv, X_irem, X_iand, X_ior, X_ishl, X_ishr, X_iushr, X_ladd, X_lsub, X_lmul, X_ldiv, X_land, X_lor, X_lshl, X_lcmp, X_ineg, X_i2l, X_l2i, X_i2b, X_i2s, X_i2c, X_dupr, X_dupi, X_dup_x1, X_dup2, X_popi, X_popr, X_iaload, X_baload, X_laload, X_aaload, X_iastore, X_bastore, X_lastore, X_aastore, X_arraylength, am_wt_0, am_wt_int, am_wt_long, am_wt_ref, List.getElem?_cons_zero, List.getElem?_cons_succ, am_s1, am_s2, am_kill, List.set_cons_zero, List.set_cons_succ, List.length_cons, List.length_nil, Int.reduceToNat, Nat.reduceAdd, Nat.reduceLeDiff, Nat.reduceLT, Option.toList_some, Option.toList_none, List.cons_append, List.nil_append, true_and, and_true, true_or, or_true, false_or, or_false, and_self, false_and, not_false_eq_true, not_true_eq_false, to_k L, to_r0 L, to_r1 L, to_r2 L, to_r3 L, to_r4 L, to_r5 L, to_r6 L, to_a5 L, to_n5 L, to_a6 L, to_n6 L, C_54, c_54 R, h, if_true, C_50, c_50 R, e, e', show ¬ gr g 71 a = 0 by omega, show ¬ gr g 71 b = 0 by omega, if_false, hk, hk', hs, hs', h2', rI_0, rI_1, rI_2, rI_3, rI_4, C_44, C_45, c_44 R (show 0 < 5 by decide), c_44 R (show 1 < 5 by decide), c_44 R (show 2 < 5 by decide), c_44 R (show 3 < 5 by decide), c_44 R (show 4 < 5 by decide), c_45 R (show 0 < 5 by decide), c_45 R (show 1 < 5 by decide), c_45 R (show 2 < 5 by decide), c_45 R (show 3 < 5 by decide), c_45 R (show 4 < 5 by decide)]
      exact kn_rf R (by decide) k
  · rw [if_neg h] at k
    have h5 : tRs T p q < 5 := by
      rcases tRs_in T p q with z | z | z | z <;> omega
    simp only [bk_3_0, bq_3_0, G_35, G_36, X_push, X_goto, X_fall, X_ifeq, X_ifne, X_iflt, X_ifge, X_ifgt, X_ifle, X_iceq, X_icne, X_iclt, X_icge, X_icgt, X_icle, X_ifnull, X_ifnonnull, X_switch, X_ireturn, X_lreturn, X_areturn, X_return, X_zreturn, X_iload, X_lload, X_aload, X_istore, X_astore, X_lstore, X_iinc, X_iadd, X_isub, X_imul, X_idiv, X_irem, X_iand, X_ior, X_ishl, X_ishr, X_iushr, X_ladd, X_lsub, X_lmul, X_ldiv, X_land, X_lor, X_lshl, X_lcmp, X_ineg, X_i2l, X_l2i, X_i2b, X_i2s, X_i2c, X_dupr, X_dupi, X_dup_x1, X_dup2, X_popi, X_popr, X_iaload, X_baload, X_laload, X_aaload, X_iastore, X_bastore, X_lastore, X_aastore, X_arraylength, am_wt_0, am_wt_int, am_wt_long, am_wt_ref, List.getElem?_cons_zero, List.getElem?_cons_succ, am_s1, am_s2, am_kill, List.set_cons_zero, List.set_cons_succ, List.length_cons, List.length_nil, Int.reduceToNat, Nat.reduceAdd, Nat.reduceLeDiff, Nat.reduceLT, Option.toList_some, Option.toList_none, List.cons_append, List.nil_append, true_and, and_true, true_or, or_true, false_or, or_false, and_self, false_and, not_false_eq_true, not_true_eq_false, to_k L, to_r0 L, to_r1 L, to_r2 L, to_r3 L, to_r4 L, to_r5 L, to_r6 L, to_a5 L, to_n5 L, to_a6 L, to_n6 L, C_54, c_54 R, h, if_false, rI_ne _ h5, C_44, c_44 R h5]
    exact kn_rf R h5 k
end ROWZ
