/-! CARTFULS and their placings -/
def ctA (σ : wS) (e : Nat → Int64) : Nat → Bool
  | 0 => true
  | m + 1 => ctA σ e m && decide (0 ≤ (e m).toInt ∧ (e m).toInt < (sCn σ : Int))
theorem ctA_le {σ : wS} {e : Nat → Int64} {m : Nat} (h : ctA σ e m = true) : ∀ i, i < m → 0 ≤ (e i).toInt ∧ (e i).toInt < (sCn σ : Int) := by
  induction m with
  | zero => intro i hi; exact absurd hi (by omega)
  | succ m ih =>
    unfold ctA at h
    rw [Bool.and_eq_true] at h
    intro i hi
    by_cases z : i = m
    · rw [z]; exact of_decide_eq_true h.2
    · exact ih h.1 i (by omega)
theorem ctA_f {σ : wS} {e : Nat → Int64} {i : Nat} (h : ¬ (0 ≤ (e i).toInt ∧ (e i).toInt < (sCn σ : Int))) {m : Nat} (hm : i < m) : ctA σ e m = false := by
  cases z : ctA σ e m
  · rfl
  · exact absurd (ctA_le z i hm) h
/-- which sorts a cartful has -/
def ctS (e : Nat → Int64) (i : Nat) : Nat := (e i).toInt.toNat
theorem ctS_j {e : Nat → Int64} {i : Nat} (h : 0 ≤ (e i).toInt) : e i = jI (ctS e i : Int) := by
  unfold ctS
  rw [Int.toNat_of_nonneg h, jI_of]
/-- where a placing goes wrong (-1: nowhere), and the state behind it -/
def wpF (σ : wS) (c : Nat → Nat) (p : Nat → Int) : Nat → Nat → Nat → Int × Nat
  | 0, _, s => (-1, s)
  | m + 1, i, s => if p i = -1 then wpF σ c p m (i + 1) s else if (p i).toNat < sSz σ (c i) ∨ frI s (p i).toNat < 1 then ((i : Int), s) else wpF σ c p m (i + 1) (s - stp (p i).toNat)
/-- how many of the first i get a box of size j; how many get one -/
def pct (p : Nat → Int) (j : Nat) : Nat → Nat
  | 0 => 0
  | i + 1 => pct p j i + (if p i = (j : Int) then 1 else 0)
def pca (p : Nat → Int) : Nat → Nat
  | 0 => 0
  | i + 1 => pca p i + (if p i = -1 then 0 else 1)
def tPl (T : tS) (s t k : Int32) : Nat := if rg k 0 6 = true then (if tRs T s t = 5 then (if k.toNatClampNeg ≤ rN (tH T) t.toNatClampNeg ∧ k.toNatClampNeg ≤ rN (tH T) s.toNatClampNeg ∧ ctA (tW T) (rE (tH T) s.toNatClampNeg) k.toNatClampNeg = true then 5 else 0) else tRs T s t) else 0
def wrg (T : tS) (s t k : Nat) : Int × Nat := wpF (tW T) (ctS (rE (tH T) s)) (fun i => pla (rE (tH T) t i)) k 0 (stN (tW T))
def q_judge (T : tS) (s t k : Int32) : Int32 × tS := if tPl T s t k = 5 then (iI (wrg T s.toNatClampNeg t.toNatClampNeg k.toNatClampNeg).1, T) else (rI (tPl T s t k), rfT T (tPl T s t k))
def q_put (T : tS) (s t k : Int32) : Int32 × tS := if tPl T s t k = 5 then (if (wrg T s.toNatClampNeg t.toNatClampNeg k.toNatClampNeg).1 = -1 then (nI (pca (fun i => pla (rE (tH T) t.toNatClampNeg i)) k.toNatClampNeg), stW T (wFl (tW T) (fun j => sFl (tW T) j + pct (fun i => pla (rE (tH T) t.toNatClampNeg i)) j k.toNatClampNeg))) else (rI 3, rfT T 3)) else (rI (tPl T s t k), rfT T (tPl T s t k))
def q_cart (T : tS) (s k n w : Int32) : Int64 × tS := if rg s 0 7 = true ∧ rg k 0 6 = true ∧ rg n 0 24 = true ∧ (-1 ≤ w.toInt ∧ w.toInt < k.toInt) then (if noRow T s = 5 then (if k.toNatClampNeg ≤ rN (tH T) s.toNatClampNeg ∧ ctA (tW T) (rE (tH T) s.toNatClampNeg) k.toNatClampNeg = true then ((if w.toInt = -1 then jI (tlr (tW T) (itr (tW T) (pB (tW T)) n.toNatClampNeg) (ctS (rE (tH T) s.toNatClampNeg)) k.toNatClampNeg k.toNatClampNeg (stN (tW T))) else (iI (wsz (tW T) (itr (tW T) (pB (tW T)) n.toNatClampNeg) (ctS (rE (tH T) s.toNatClampNeg)) k.toNatClampNeg (stN (tW T)) w.toNatClampNeg)).toInt64), T) else (rJ 0, rfT T 0)) else (rJ (noRow T s), rfT T (noRow T s))) else (rJ 0, rfT T 0)
theorem pla_in (v : Int64) : pla v = -1 ∨ ∃ j : Nat, j < 3 ∧ pla v = (j : Int) := by
  unfold pla
  split
  · rename_i h; exact Or.inr ⟨v.toInt.toNat, by omega, by omega⟩
  · exact Or.inl rfl
section CARTS
variable {d : Nat} {ci : Nat → Nat → Int32} {cj : Nat → Nat → Int64} {g : am_G} {Q : Option Value → am_H → Prop} {F : Nat → Prop} {T : tS} {r N : Nat}
/-- isCartful -/
theorem c_56 (R : cR F ci cj g T) (hr : ¬ r = 0) (hk : gk g r = 5) (he : gk g (gr g r 1) = 21) (hn : gn g (gr g r 1) = N) (hN : N ≤ 40) {e : Nat → Int64} (hm : ∀ t, t < N → cj (gr g r 1) t = e t) {m : Nat} (hm6 : m ≤ 6) : X (d + 1) 56 (am_bk 56 0) [.ref 32, .ref r, .int (nI m), .null] [] (ci, cj, g) Q ↔ Q (some (.int (bI (decide (m ≤ N) && ctA (tW T) e m)))) (ci, cj, g) := by
  have L := cR_to R
  have H := cR_w R
  have O := cR_O R
  have hw := cR_wR R
  have ep : prt N 0 (nI m) = decide (m ≤ N) := by
    unfold prt
    rw [nI_ti (by omega), ti_0]
    by_cases h : m ≤ N
    · rw [decide_eq_true h]; exact decide_eq_true (by omega)
    · rw [decide_eq_false h]; exact decide_eq_false (by omega)
  by_cases h : m ≤ N
  · have e1 : decide (m ≤ N) = true := decide_eq_true h
    rw [e1, Bool.true_and]
    simp only [bk_56_0, bq_56_0, bk_56_2, bq_56_2, G_0, G_36, X_push, X_goto, X_fall, X_ifeq, X_ifne, X_iflt, X_ifge, X_ifgt, X_ifle, X_iceq, X_icne, X_iclt, X_icge, X_icgt, X_icle, X_ifnull, X_ifnonnull, X_switch, X_ireturn, X_lreturn, X_areturn, X_return, X_zreturn, X_iload, X_lload, X_aload, X_istore, X_astore, X_lstore, X_iinc, X_iadd, X_isub, X_imul, X_idiv, X_irem, X_iand, X_ior, X_ishl, X_ishr, X_iushr, X_ladd, X_lsub, X_lmul, X_ldiv, X_land, X_lor, X_lshl, X_lcmp, X_ineg, X_i2l, X_l2i, X_i2b, X_i2s, X_i2c, X_dupr, X_dupi, X_dup_x1, X_dup2, X_popi, X_popr, X_iaload, X_baload, X_laload, X_aaload, X_iastore, X_bastore, X_lastore, X_aastore, X_arraylength, am_wt_0, am_wt_int, am_wt_long, am_wt_ref, List.getElem?_cons_zero, List.getElem?_cons_succ, am_s1, am_s2, am_kill, List.set_cons_zero, List.set_cons_succ, List.length_cons, List.length_nil, Int.reduceToNat, Nat.reduceAdd, Nat.reduceLeDiff, Nat.reduceLT, Option.toList_some, Option.toList_none, List.cons_append, List.nil_append, true_and, and_true, true_or, or_true, false_or, or_false, and_self, false_and, not_false_eq_true, not_true_eq_false, hr, if_false, if_true, C_114 _ _ _ hk, c_114 hk he hn hN, ep, e1, bI_t, i10]
    refine up_ind (M := fun i => ctA (tW T) e i = true → (X (d + 1) 56 (am_bk 56 3) [.ref 32, .ref r, .int (nI m), .int (nI i)] [] (ci, cj, g) Q ↔ Q (some (.int (bI (ctA (tW T) e m)))) (ci, cj, g))) (n := m) ?_ ?_ 0 (by omega) rfl
    · intro z
      rw [bk_56_3]
      simp only [bq_56_3, bk_56_5, bq_56_5, G_0, G_36, X_push, X_goto, X_fall, X_ifeq, X_ifne, X_iflt, X_ifge, X_ifgt, X_ifle, X_iceq, X_icne, X_iclt, X_icge, X_icgt, X_icle, X_ifnull, X_ifnonnull, X_switch, X_ireturn, X_lreturn, X_areturn, X_return, X_zreturn, X_iload, X_lload, X_aload, X_istore, X_astore, X_lstore, X_iinc, X_iadd, X_isub, X_imul, X_idiv, X_irem, X_iand, X_ior, X_ishl, X_ishr, X_iushr, X_ladd, X_lsub, X_lmul, X_ldiv, X_land, X_lor, X_lshl, X_lcmp, X_ineg, X_i2l, X_l2i, X_i2b, X_i2s, X_i2c, X_dupr, X_dupi, X_dup_x1, X_dup2, X_popi, X_popr, X_iaload, X_baload, X_laload, X_aaload, X_iastore, X_bastore, X_lastore, X_aastore, X_arraylength, am_wt_0, am_wt_int, am_wt_long, am_wt_ref, List.getElem?_cons_zero, List.getElem?_cons_succ, am_s1, am_s2, am_kill, List.set_cons_zero, List.set_cons_succ, List.length_cons, List.length_nil, Int.reduceToNat, Nat.reduceAdd, Nat.reduceLeDiff, Nat.reduceLT, Option.toList_some, Option.toList_none, List.cons_append, List.nil_append, true_and, and_true, true_or, or_true, false_or, or_false, and_self, false_and, not_false_eq_true, not_true_eq_false, Int32.le_refl, if_true, z, bI_t]
    · intro i hi ih z
      have h5 : ¬ nI m ≤ nI i := nI_ge hi (by omega)
      rw [bk_56_3]
      by_cases c : decide (0 ≤ (e i).toInt ∧ (e i).toInt < (sCn (tW T) : Int)) = true
      · simp only [bq_56_3, bk_56_4, bq_56_4, G_0, G_36, X_push, X_goto, X_fall, X_ifeq, X_ifne, X_iflt, X_ifge, X_ifgt, X_ifle, X_iceq, X_icne, X_iclt, X_icge, X_icgt, X_icle, X_ifnull, X_ifnonnull, X_switch, X_ireturn, X_lreturn, X_areturn, X_return, X_zreturn, X_iload, X_lload, X_aload, X_istore, X_astore, X_lstore, X_iinc, X_iadd, X_isub, X_imul, X_idiv, X_irem, X_iand, X_ior, X_ishl, X_ishr, X_iushr, X_ladd, X_lsub, X_lmul, X_ldiv, X_land, X_lor, X_lshl, X_lcmp, X_ineg, X_i2l, X_l2i, X_i2b, X_i2s, X_i2c, X_dupr, X_dupi, X_dup_x1, X_dup2, X_popi, X_popr, X_iaload, X_baload, X_laload, X_aaload, X_iastore, X_bastore, X_lastore, X_aastore, X_arraylength, am_wt_0, am_wt_int, am_wt_long, am_wt_ref, List.getElem?_cons_zero, List.getElem?_cons_succ, am_s1, am_s2, am_kill, List.set_cons_zero, List.set_cons_succ, List.length_cons, List.length_nil, Int.reduceToNat, Nat.reduceAdd, Nat.reduceLeDiff, Nat.reduceLT, Option.toList_some, Option.toList_none, List.cons_append, List.nil_append, true_and, and_true, true_or, or_true, false_or, or_false, and_self, false_and, not_false_eq_true, not_true_eq_false, to_k L, to_r0 L, to_r1 L, to_r2 L, to_r3 L, to_r4 L, to_r5 L, to_r6 L, to_a5 L, to_n5 L, to_a6 L, to_n6 L, wo_k H, wo_r0 H, wo_r1 H, wo_r2 H, wo_r3 H, wo_r4 H, wo_r5 H, wo_r6 H, wo_r7 H, wo_a1 H, wo_n1 H, wo_a2 H, wo_n2 H, wo_a3 H, wo_n3 H, wo_a4 H, wo_n4 H, wo_a5 H, wo_n5 H, wo_a6 H, wo_n6 H, wo_a7 H, wo_n7 H, wo_a8 H, wo_n8 H, h5, if_false, hk, he, hn, in_nI (show i < N by omega) (show N < 2 ^ 31 by omega), tn_nI (show i < 2 ^ 31 by omega), hm i (by omega), C_73, c_73 H O hw, c, bI_t, i10, if_true, oi_1, nI_add]
        refine ih ?_
        unfold ctA
        rw [z, c]
        rfl
      · rw [ctA_f (fun y => c (decide_eq_true y)) hi]
        simp only [bq_56_3, G_0, G_36, X_push, X_goto, X_fall, X_ifeq, X_ifne, X_iflt, X_ifge, X_ifgt, X_ifle, X_iceq, X_icne, X_iclt, X_icge, X_icgt, X_icle, X_ifnull, X_ifnonnull, X_switch, X_ireturn, X_lreturn, X_areturn, X_return, X_zreturn, X_iload, X_lload, X_aload, X_istore, X_astore, X_lstore, X_iinc, X_iadd, X_isub, X_imul, X_idiv, X_irem, X_iand, X_ior, X_ishl, X_ishr, X_iushr, X_ladd, X_lsub, X_lmul, X_ldiv, X_land, X_lor, X_lshl, X_lcmp, X_ineg, X_i2l, X_l2i, X_i2b, X_i2s, X_i2c, X_dupr, X_dupi, X_dup_x1, X_dup2, X_popi, X_popr, X_iaload, X_baload, X_laload, X_aaload, X_iastore, X_bastore, X_lastore, X_aastore, X_arraylength, am_wt_0, am_wt_int, am_wt_long, am_wt_ref, List.getElem?_cons_zero, List.getElem?_cons_succ, am_s1, am_s2, am_kill, List.set_cons_zero, List.set_cons_succ, List.length_cons, List.length_nil, Int.reduceToNat, Nat.reduceAdd, Nat.reduceLeDiff, Nat.reduceLT, Option.toList_some, Option.toList_none, List.cons_append, List.nil_append, true_and, and_true, true_or, or_true, false_or, or_false, and_self, false_and, not_false_eq_true, not_true_eq_false, to_k L, to_r0 L, to_r1 L, to_r2 L, to_r3 L, to_r4 L, to_r5 L, to_r6 L, to_a5 L, to_n5 L, to_a6 L, to_n6 L, wo_k H, wo_r0 H, wo_r1 H, wo_r2 H, wo_r3 H, wo_r4 H, wo_r5 H, wo_r6 H, wo_r7 H, wo_a1 H, wo_n1 H, wo_a2 H, wo_n2 H, wo_a3 H, wo_n3 H, wo_a4 H, wo_n4 H, wo_a5 H, wo_n5 H, wo_a6 H, wo_n6 H, wo_a7 H, wo_n7 H, wo_a8 H, wo_n8 H, h5, if_false, hk, he, hn, in_nI (show i < N by omega) (show N < 2 ^ 31 by omega), tn_nI (show i < 2 ^ 31 by omega), hm i (by omega), C_73, c_73 H O hw, c, bI_f]
  · have e1 : decide (m ≤ N) = false := decide_eq_false h
    rw [e1, Bool.false_and]
    simp only [bk_56_0, bq_56_0, bk_56_1, bq_56_1, G_0, G_36, X_push, X_goto, X_fall, X_ifeq, X_ifne, X_iflt, X_ifge, X_ifgt, X_ifle, X_iceq, X_icne, X_iclt, X_icge, X_icgt, X_icle, X_ifnull, X_ifnonnull, X_switch, X_ireturn, X_lreturn, X_areturn, X_return, X_zreturn, X_iload, X_lload, X_aload, X_istore, X_astore, X_lstore, X_iinc, X_iadd, X_isub, X_imul, X_idiv, X_irem, X_iand, X_ior, X_ishl, X_ishr, X_iushr, X_ladd, X_lsub, X_lmul, X_ldiv, X_land, X_lor, X_lshl, X_lcmp, X_ineg, X_i2l, X_l2i, X_i2b, X_i2s, X_i2c, X_dupr, X_dupi, X_dup_x1, X_dup2, X_popi, X_popr, X_iaload, X_baload, X_laload, X_aaload, X_iastore, X_bastore, X_lastore, X_aastore, X_arraylength, am_wt_0, am_wt_int, am_wt_long, am_wt_ref, List.getElem?_cons_zero, List.getElem?_cons_succ, am_s1, am_s2, am_kill, List.set_cons_zero, List.set_cons_succ, List.length_cons, List.length_nil, Int.reduceToNat, Nat.reduceAdd, Nat.reduceLeDiff, Nat.reduceLT, Option.toList_some, Option.toList_none, List.cons_append, List.nil_append, true_and, and_true, true_or, or_true, false_or, or_false, and_self, false_and, not_false_eq_true, not_true_eq_false, hr, if_false, C_114 _ _ _ hk, c_114 hk he hn hN, ep, e1, bI_f]
/-- troubleWithPlacing -/
theorem c_55 (R : cR F ci cj g T) (s t k : Int32) : X (d + 3) 55 (am_bk 55 0) [.ref 32, .int s, .int t, .int k, .null, .null] [] (ci, cj, g) Q ↔ Q (some (.int (if tPl T s t k = 5 then 0 else rI (tPl T s t k)))) (ci, cj, g) := by
  have L := cR_to R
  unfold tPl
  by_cases h1 : rg k 0 6 = true
  · obtain ⟨m, hm, rfl⟩ := rg_nI (n := 6) h1 (by decide)
    rw [if_pos h1, tn_nI (show m < 2 ^ 31 by omega)]
    by_cases h2 : tRs T s t = 5
    · rw [if_pos h2]
      have hpq : noRow T s = 5 ∧ noRow T t = 5 := by
        rcases tRs_in T s t with z | z | z | z
        · omega
        · omega
        · omega
        · exact z.2
      obtain ⟨a, ha, rfl, _, e, hk, _, h73, hs, _, h73e, he, hn, hme, h4, h40⟩ := noRow_5 R hpq.1
      obtain ⟨b, hb, rfl, _, e', hk', _, h73', hs', _, h73e', he', hn', hme', h4', h40'⟩ := noRow_5 R hpq.2
      rw [tn_nI (show a < 2 ^ 31 by omega), tn_nI (show b < 2 ^ 31 by omega)]
      have ep : prt (rN (tH T) b) 0 (nI m) = decide (m ≤ rN (tH T) b) := by
        unfold prt
        rw [nI_ti (by omega), ti_0]
        by_cases h : m ≤ rN (tH T) b
        · rw [decide_eq_true h]; exact decide_eq_true (by omega)
        · rw [decide_eq_false h]; exact decide_eq_false (by omega)
      by_cases h3 : m ≤ rN (tH T) b
      · have e3 : decide (m ≤ rN (tH T) b) = true := decide_eq_true h3
        by_cases h4 : (decide (m ≤ rN (tH T) a) && ctA (tW T) (rE (tH T) a) m) = true
        · have h4' := h4
          rw [Bool.and_eq_true] at h4'
          rw [show (if m ≤ rN (tH T) b ∧ m ≤ rN (tH T) a ∧ ctA (tW T) (rE (tH T) a) m = true then 5 else 0) = 5 from if_pos ⟨h3, of_decide_eq_true h4'.1, h4'.2⟩]
          simp only [bk_55_0, bq_55_0, bk_55_1, bq_55_1, bk_55_2, bq_55_2, bk_55_4, bq_55_4, X_push, X_goto, X_fall, X_ifeq, X_ifne, X_iflt, X_ifge, X_ifgt, X_ifle, X_iceq, X_icne, X_iclt, X_icge, X_icgt, X_icle, X_ifnull, X_ifnonnull, X_switch, X_ireturn, X_lreturn, X_areturn, X_return, X_zreturn, X_iload, X_lload, X_aload, X_istore, X_astore, X_lstore, X_iinc, X_iadd, X_isub, X_imul, X_idiv, X_irem, X_iand, X_ior, X_ishl, X_ishr, X_iushr, X_ladd, X_lsub, X_lmul, X_ldiv, X_land, X_lor, X_lshl, X_lcmp, X_ineg, X_i2l, X_l2i, X_i2b, X_i2s, X_i2c, X_dupr, X_dupi, X_dup_x1, X_dup2, X_popi, X_popr, X_iaload, X_baload, X_laload, X_aaload, X_iastore, X_bastore, X_lastore, X_aastore, X_arraylength, am_wt_0, am_wt_int, am_wt_long, am_wt_ref, List.getElem?_cons_zero, List.getElem?_cons_succ, am_s1, am_s2, am_kill, List.set_cons_zero, List.set_cons_succ, List.length_cons, List.length_nil, Int.reduceToNat, Nat.reduceAdd, Nat.reduceLeDiff, Nat.reduceLT, Option.toList_some, Option.toList_none, List.cons_append, List.nil_append, true_and, and_true, true_or, or_true, false_or, or_false, and_self, false_and, not_false_eq_true, not_true_eq_false, to_k L, to_r0 L, to_r1 L, to_r2 L, to_r3 L, to_r4 L, to_r5 L, to_r6 L, to_a5 L, to_n5 L, to_a6 L, to_n6 L, C_49, c_49, h1, bI_t, i10, if_true, C_54, c_54 R, h2, C_50, c_50 R, e', show ¬ gr g 71 b = 0 by omega, if_false, C_114 _ _ _ hk', c_114 hk' he' hn' h40', ep, e3, e, C_56, c_56 R (show ¬ gr g 71 a = 0 by omega) hk he hn h40 hme hm, h4]
        · have h4' : ¬ (m ≤ rN (tH T) b ∧ m ≤ rN (tH T) a ∧ ctA (tW T) (rE (tH T) a) m = true) := fun z => h4 (by rw [z.2.2, decide_eq_true z.2.1]; rfl)
          rw [show (if m ≤ rN (tH T) b ∧ m ≤ rN (tH T) a ∧ ctA (tW T) (rE (tH T) a) m = true then 5 else 0) = 0 from if_neg h4']
          simp only [bk_55_0, bq_55_0, bk_55_1, bq_55_1, bk_55_2, bq_55_2, bk_55_3, bq_55_3, bk_55_4, bq_55_4, X_push, X_goto, X_fall, X_ifeq, X_ifne, X_iflt, X_ifge, X_ifgt, X_ifle, X_iceq, X_icne, X_iclt, X_icge, X_icgt, X_icle, X_ifnull, X_ifnonnull, X_switch, X_ireturn, X_lreturn, X_areturn, X_return, X_zreturn, X_iload, X_lload, X_aload, X_istore, X_astore, X_lstore, X_iinc, X_iadd, X_isub, X_imul, X_idiv, X_irem, X_iand, X_ior, X_ishl, X_ishr, X_iushr, X_ladd, X_lsub, X_lmul, X_ldiv, X_land, X_lor, X_lshl, X_lcmp, X_ineg, X_i2l, X_l2i, X_i2b, X_i2s, X_i2c, X_dupr, X_dupi, X_dup_x1, X_dup2, X_popi, X_popr, X_iaload, X_baload, X_laload, X_aaload, X_iastore, X_bastore, X_lastore, X_aastore, X_arraylength, am_wt_0, am_wt_int, am_wt_long, am_wt_ref, List.getElem?_cons_zero, List.getElem?_cons_succ, am_s1, am_s2, am_kill, List.set_cons_zero, List.set_cons_succ, List.length_cons, List.length_nil, Int.reduceToNat, Nat.reduceAdd, Nat.reduceLeDiff, Nat.reduceLT, Option.toList_some, Option.toList_none, List.cons_append, List.nil_append, true_and, and_true, true_or, or_true, false_or, or_false, and_self, false_and, not_false_eq_true, not_true_eq_false, to_k L, to_r0 L, to_r1 L, to_r2 L, to_r3 L, to_r4 L, to_r5 L, to_r6 L, to_a5 L, to_n5 L, to_a6 L, to_n6 L, C_49, c_49, h1, bI_t, i10, if_true, C_54, c_54 R, h2, C_50, c_50 R, e', show ¬ gr g 71 b = 0 by omega, if_false, C_114 _ _ _ hk', c_114 hk' he' hn' h40', ep, e3, e, C_56, c_56 R (show ¬ gr g 71 a = 0 by omega) hk he hn h40 hme hm, h4, bI_f]
          rfl
      · have e3 : decide (m ≤ rN (tH T) b) = false := decide_eq_false h3
        rw [show (if m ≤ rN (tH T) b ∧ m ≤ rN (tH T) a ∧ ctA (tW T) (rE (tH T) a) m = true then 5 else 0) = 0 from if_neg (fun z => h3 z.1)]
        simp only [bk_55_0, bq_55_0, bk_55_1, bq_55_1, bk_55_2, bq_55_2, bk_55_3, bq_55_3, bk_55_4, bq_55_4, X_push, X_goto, X_fall, X_ifeq, X_ifne, X_iflt, X_ifge, X_ifgt, X_ifle, X_iceq, X_icne, X_iclt, X_icge, X_icgt, X_icle, X_ifnull, X_ifnonnull, X_switch, X_ireturn, X_lreturn, X_areturn, X_return, X_zreturn, X_iload, X_lload, X_aload, X_istore, X_astore, X_lstore, X_iinc, X_iadd, X_isub, X_imul, X_idiv, X_irem, X_iand, X_ior, X_ishl, X_ishr, X_iushr, X_ladd, X_lsub, X_lmul, X_ldiv, X_land, X_lor, X_lshl, X_lcmp, X_ineg, X_i2l, X_l2i, X_i2b, X_i2s, X_i2c, X_dupr, X_dupi, X_dup_x1, X_dup2, X_popi, X_popr, X_iaload, X_baload, X_laload, X_aaload, X_iastore, X_bastore, X_lastore, X_aastore, X_arraylength, am_wt_0, am_wt_int, am_wt_long, am_wt_ref, List.getElem?_cons_zero, List.getElem?_cons_succ, am_s1, am_s2, am_kill, List.set_cons_zero, List.set_cons_succ, List.length_cons, List.length_nil, Int.reduceToNat, Nat.reduceAdd, Nat.reduceLeDiff, Nat.reduceLT, Option.toList_some, Option.toList_none, List.cons_append, List.nil_append, true_and, and_true, true_or, or_true, false_or, or_false, and_self, false_and, not_false_eq_true, not_true_eq_false, to_k L, to_r0 L, to_r1 L, to_r2 L, to_r3 L, to_r4 L, to_r5 L, to_r6 L, to_a5 L, to_n5 L, to_a6 L, to_n6 L, C_49, c_49, h1, bI_t, i10, if_true, C_54, c_54 R, h2, C_50, c_50 R, e', show ¬ gr g 71 b = 0 by omega, if_false, C_114 _ _ _ hk', c_114 hk' he' hn' h40', ep, e3, bI_f]
        rfl
    · rw [if_neg h2, if_neg h2]
      have h5 : tRs T s t < 5 := by
        rcases tRs_in T s t with z | z | z | z <;> omega
      simp only [bk_55_0, bq_55_0, bk_55_1, bq_55_1, X_push, X_goto, X_fall, X_ifeq, X_ifne, X_iflt, X_ifge, X_ifgt, X_ifle, X_iceq, X_icne, X_iclt, X_icge, X_icgt, X_icle, X_ifnull, X_ifnonnull, X_switch, X_ireturn, X_lreturn, X_areturn, X_return, X_zreturn, X_iload, X_lload, X_aload, X_istore, X_astore, X_lstore, X_iinc, X_iadd, X_isub, X_imul, X_idiv, X_irem, X_iand, X_ior, X_ishl, X_ishr, X_iushr, X_ladd, X_lsub, X_lmul, X_ldiv, X_land, X_lor, X_lshl, X_lcmp, X_ineg, X_i2l, X_l2i, X_i2b, X_i2s, X_i2c, X_dupr, X_dupi, X_dup_x1, X_dup2, X_popi, X_popr, X_iaload, X_baload, X_laload, X_aaload, X_iastore, X_bastore, X_lastore, X_aastore, X_arraylength, am_wt_0, am_wt_int, am_wt_long, am_wt_ref, List.getElem?_cons_zero, List.getElem?_cons_succ, am_s1, am_s2, am_kill, List.set_cons_zero, List.set_cons_succ, List.length_cons, List.length_nil, Int.reduceToNat, Nat.reduceAdd, Nat.reduceLeDiff, Nat.reduceLT, Option.toList_some, Option.toList_none, List.cons_append, List.nil_append, true_and, and_true, true_or, or_true, false_or, or_false, and_self, false_and, not_false_eq_true, not_true_eq_false, to_k L, to_r0 L, to_r1 L, to_r2 L, to_r3 L, to_r4 L, to_r5 L, to_r6 L, to_a5 L, to_n5 L, to_a6 L, to_n6 L, C_49, c_49, h1, bI_t, i10, if_true, C_54, c_54 R, h2, if_false, rI_ne _ h5]
  · rw [if_neg h1]
    simp only [bk_55_0, bq_55_0, X_push, X_goto, X_fall, X_ifeq, X_ifne, X_iflt, X_ifge, X_ifgt, X_ifle, X_iceq, X_icne, X_iclt, X_icge, X_icgt, X_icle, X_ifnull, X_ifnonnull, X_switch, X_ireturn, X_lreturn, X_areturn, X_return, X_zreturn, X_iload, X_lload, X_aload, X_istore, X_astore, X_lstore, X_iinc, X_iadd, X_isub, X_imul, X_idiv, X_irem, X_iand, X_ior, X_ishl, X_ishr, X_iushr, X_ladd, X_lsub, X_lmul, X_ldiv, X_land, X_lor, X_lshl, X_lcmp, X_ineg, X_i2l, X_l2i, X_i2b, X_i2s, X_i2c, X_dupr, X_dupi, X_dup_x1, X_dup2, X_popi, X_popr, X_iaload, X_baload, X_laload, X_aaload, X_iastore, X_bastore, X_lastore, X_aastore, X_arraylength, am_wt_0, am_wt_int, am_wt_long, am_wt_ref, List.getElem?_cons_zero, List.getElem?_cons_succ, am_s1, am_s2, am_kill, List.set_cons_zero, List.set_cons_succ, List.length_cons, List.length_nil, Int.reduceToNat, Nat.reduceAdd, Nat.reduceLeDiff, Nat.reduceLT, Option.toList_some, Option.toList_none, List.cons_append, List.nil_append, true_and, and_true, true_or, or_true, false_or, or_false, and_self, false_and, not_false_eq_true, not_true_eq_false, C_49, c_49, h1, bI_f, if_false]
    rfl
theorem tPl_lt {T : tS} {s t k : Int32} (h : ¬ tPl T s t k = 5) : tPl T s t k < 5 := by
  revert h
  unfold tPl
  split
  · split
    · split
      · intro h; exact absurd rfl h
      · intro _; decide
    · intro h
      rcases tRs_in T s t with z | z | z | z <;> omega
  · intro _; decide
theorem tPl_5 {T : tS} {s t k : Int32} (h : tPl T s t k = 5) : ∃ m : Nat, m ≤ 6 ∧ k = nI m ∧ noRow T s = 5 ∧ noRow T t = 5 ∧ m ≤ rN (tH T) t.toNatClampNeg ∧ m ≤ rN (tH T) s.toNatClampNeg ∧ ctA (tW T) (rE (tH T) s.toNatClampNeg) m = true := by
  revert h
  unfold tPl
  split
  · rename_i h1
    obtain ⟨m, hm, rfl⟩ := rg_nI (n := 6) h1 (by decide)
    rw [tn_nI (show m < 2 ^ 31 by omega)]
    split
    · rename_i h2
      split
      · rename_i h3
        intro _
        rcases tRs_in T s t with z | z | z | z
        · omega
        · omega
        · omega
        · exact ⟨m, hm, rfl, z.2.1, z.2.2, h3⟩
      · intro z; cases z
    · rename_i h2
      intro z; exact absurd z h2
  · intro z; cases z
theorem nI_pl {j : Nat} {z : Int} (h : z = (j : Int)) : iI z = nI j := by rw [h]; rfl
/-- wrongPlace -/
theorem c_57 (R : cR F ci cj g T) {a b m : Nat} (hra : ¬ a = 0) (hrb : ¬ b = 0) (hk : gk g a = 5) (he : gk g (gr g a 1) = 21) (hn : gn g (gr g a 1) = N) (hN : N ≤ 40) (hk' : gk g b = 5) (he' : gk g (gr g b 1) = 21) {N' : Nat} (hn' : gn g (gr g b 1) = N') (hN' : N' ≤ 40) {e e' : Nat → Int64} (hm : ∀ t, t < N → cj (gr g a 1) t = e t) (hm' : ∀ t, t < N' → cj (gr g b 1) t = e' t) (h1 : m ≤ N) (h2 : m ≤ N') (hm6 : m ≤ 6) (hc : ctA (tW T) e m = true) : X (d + 2) 57 (am_bk 57 0) [.ref 32, .ref a, .ref b, .int (nI m), .null, .null, .null] [] (ci, cj, g) Q ↔ Q (some (.int (iI (wpF (tW T) (ctS e) (fun i => pla (e' i)) m 0 (stN (tW T))).1))) (ci, cj, g) := by
  have L := cR_to R
  have G := cR_so R
  have H := cR_w R
  have O := cR_O R
  have hw := cR_wR R
  have hcn := O.2.1
  have key : ∀ x i s, i + x = m → isS (tW T) s = true → ∀ t6 : Value, (X (d + 2) 57 (am_bk 57 3) [.ref 32, .ref a, .ref b, .int (nI m), .int (nI s), .int (nI i), t6] [] (ci, cj, g) Q ↔ Q (some (.int (iI (wpF (tW T) (ctS e) (fun i => pla (e' i)) x i s).1))) (ci, cj, g)) := by
    intro x
    induction x with
    | zero =>
      intro i s hi hs t6
      obtain rfl : i = m := by omega
      rw [bk_57_3]
      simp only [bq_57_3, bk_57_7, bq_57_7, G_0, G_11, G_36, X_push, X_goto, X_fall, X_ifeq, X_ifne, X_iflt, X_ifge, X_ifgt, X_ifle, X_iceq, X_icne, X_iclt, X_icge, X_icgt, X_icle, X_ifnull, X_ifnonnull, X_switch, X_ireturn, X_lreturn, X_areturn, X_return, X_zreturn, X_iload, X_lload, X_aload, X_istore, X_astore, X_lstore, X_iinc, X_iadd, X_isub, X_imul, X_idiv, X_irem, X_iand, X_ior, X_ishl, X_ishr, X_iushr, X_ladd, X_lsub, X_lmul, X_ldiv, X_land, X_lor, X_lshl, X_lcmp, X_ineg, X_i2l, X_l2i, X_i2b, X_i2s, X_i2c, X_dupr, X_dupi, X_dup_x1, X_dup2, X_popi, X_popr, X_iaload, X_baload, X_laload, X_aaload, X_iastore, X_bastore, X_lastore, X_aastore, X_arraylength, am_wt_0, am_wt_int, am_wt_long, am_wt_ref, List.getElem?_cons_zero, List.getElem?_cons_succ, am_s1, am_s2, am_kill, List.set_cons_zero, List.set_cons_succ, List.length_cons, List.length_nil, Int.reduceToNat, Nat.reduceAdd, Nat.reduceLeDiff, Nat.reduceLT, Option.toList_some, Option.toList_none, List.cons_append, List.nil_append, true_and, and_true, true_or, or_true, false_or, or_false, and_self, false_and, not_false_eq_true, not_true_eq_false, Int32.le_refl, if_true]
      rfl
    | succ x ih =>
      intro i s hi hs t6
      have h5 : ¬ nI m ≤ nI i := nI_ge (by omega) (by omega)
      have h125 := isS_lt hs
      have ee : wpF (tW T) (ctS e) (fun i => pla (e' i)) (x + 1) i s = if pla (e' i) = -1 then wpF (tW T) (ctS e) (fun i => pla (e' i)) x (i + 1) s else if (pla (e' i)).toNat < sSz (tW T) (ctS e i) ∨ frI s (pla (e' i)).toNat < 1 then ((i : Int), s) else wpF (tW T) (ctS e) (fun i => pla (e' i)) x (i + 1) (s - stp (pla (e' i)).toNat) := rfl
      rw [ee, bk_57_3]
      rcases pla_in (e' i) with z | ⟨j, hj, z⟩
      · have z1 : (iI (pla (e' i)) = (-1 : Int32)) = True := eq_true (by rw [z]; rfl)
        simp only [bq_57_3, bk_57_6, bq_57_6, G_0, G_11, G_36, X_push, X_goto, X_fall, X_ifeq, X_ifne, X_iflt, X_ifge, X_ifgt, X_ifle, X_iceq, X_icne, X_iclt, X_icge, X_icgt, X_icle, X_ifnull, X_ifnonnull, X_switch, X_ireturn, X_lreturn, X_areturn, X_return, X_zreturn, X_iload, X_lload, X_aload, X_istore, X_astore, X_lstore, X_iinc, X_iadd, X_isub, X_imul, X_idiv, X_irem, X_iand, X_ior, X_ishl, X_ishr, X_iushr, X_ladd, X_lsub, X_lmul, X_ldiv, X_land, X_lor, X_lshl, X_lcmp, X_ineg, X_i2l, X_l2i, X_i2b, X_i2s, X_i2c, X_dupr, X_dupi, X_dup_x1, X_dup2, X_popi, X_popr, X_iaload, X_baload, X_laload, X_aaload, X_iastore, X_bastore, X_lastore, X_aastore, X_arraylength, am_wt_0, am_wt_int, am_wt_long, am_wt_ref, List.getElem?_cons_zero, List.getElem?_cons_succ, am_s1, am_s2, am_kill, List.set_cons_zero, List.set_cons_succ, List.length_cons, List.length_nil, Int.reduceToNat, Nat.reduceAdd, Nat.reduceLeDiff, Nat.reduceLT, Option.toList_some, Option.toList_none, List.cons_append, List.nil_append, true_and, and_true, true_or, or_true, false_or, or_false, and_self, false_and, not_false_eq_true, not_true_eq_false, h5, if_false, C_116 _ _ hk', c_116 hk' he' hn' hN' (show i < N' by omega), hm' i (by omega), z1, if_true, if_pos z, oi_1, nI_add]
        exact ih (i + 1) s (by omega) hs _
      · have z1 : iI (pla (e' i)) = nI j := nI_pl z
        have z2 : ¬ pla (e' i) = -1 := by omega
        have z3 : (pla (e' i)).toNat = j := by omega
        have ec := ctA_le hc i (by omega)
        have ej : e i = jI (ctS e i : Int) := ctS_j ec.1
        have hcs : ctS e i < sCn (tW T) := by unfold ctS; omega
        have el : (e i).toInt32 = nI (ctS e i) := by rw [ej, l2i_jI]; rfl
        have hz := (O.2.2.1 _ hcs).1
        have hf := frI_lt s j
        rw [if_neg z2, z3]
        by_cases c1 : j < sSz (tW T) (ctS e i)
        · have c1' : nI j < nI (sSz (tW T) (ctS e i)) := by rw [nI_lti (by omega) (by omega)]; exact c1
          rw [if_pos (Or.inl c1)]
          simp only [bq_57_3, bk_57_4, bq_57_4, G_0, G_11, G_36, X_push, X_goto, X_fall, X_ifeq, X_ifne, X_iflt, X_ifge, X_ifgt, X_ifle, X_iceq, X_icne, X_iclt, X_icge, X_icgt, X_icle, X_ifnull, X_ifnonnull, X_switch, X_ireturn, X_lreturn, X_areturn, X_return, X_zreturn, X_iload, X_lload, X_aload, X_istore, X_astore, X_lstore, X_iinc, X_iadd, X_isub, X_imul, X_idiv, X_irem, X_iand, X_ior, X_ishl, X_ishr, X_iushr, X_ladd, X_lsub, X_lmul, X_ldiv, X_land, X_lor, X_lshl, X_lcmp, X_ineg, X_i2l, X_l2i, X_i2b, X_i2s, X_i2c, X_dupr, X_dupi, X_dup_x1, X_dup2, X_popi, X_popr, X_iaload, X_baload, X_laload, X_aaload, X_iastore, X_bastore, X_lastore, X_aastore, X_arraylength, am_wt_0, am_wt_int, am_wt_long, am_wt_ref, List.getElem?_cons_zero, List.getElem?_cons_succ, am_s1, am_s2, am_kill, List.set_cons_zero, List.set_cons_succ, List.length_cons, List.length_nil, Int.reduceToNat, Nat.reduceAdd, Nat.reduceLeDiff, Nat.reduceLT, Option.toList_some, Option.toList_none, List.cons_append, List.nil_append, true_and, and_true, true_or, or_true, false_or, or_false, and_self, false_and, not_false_eq_true, not_true_eq_false, to_k L, to_r0 L, to_r1 L, to_r2 L, to_r3 L, to_r4 L, to_r5 L, to_r6 L, to_a5 L, to_n5 L, to_a6 L, to_n6 L, wo_k H, wo_r0 H, wo_r1 H, wo_r2 H, wo_r3 H, wo_r4 H, wo_r5 H, wo_r6 H, wo_r7 H, wo_a1 H, wo_n1 H, wo_a2 H, wo_n2 H, wo_a3 H, wo_n3 H, wo_a4 H, wo_n4 H, wo_a5 H, wo_n5 H, wo_a6 H, wo_n6 H, wo_a7 H, wo_n7 H, wo_a8 H, wo_n8 H, h5, if_false, C_116 _ _ hk', c_116 hk' he' hn' hN' (show i < N' by omega), hm' i (by omega), z1, nI_m1 (show j < 2147483648 by omega), hk, he, hn, in_nI (show i < N by omega) (show N < 2 ^ 31 by omega), tn_nI (show i < 2 ^ 31 by omega), hm i (by omega), el, in_nI (show ctS e i < 6 by omega) (show 6 < 2 ^ 31 by decide), tn_nI (show ctS e i < 2 ^ 31 by omega), hw.2.2.2.1 _ hcs, c1', if_true]
          rfl
        · have c1' : ¬ nI j < nI (sSz (tW T) (ctS e i)) := by rw [nI_lti (by omega) (by omega)]; exact c1
          by_cases c2 : frI s j < 1
          · have c2' : ¬ (1 : Int32) ≤ nI (frI s j) := by rw [lit_1, nI_lei (by omega) (by omega)]; omega
            rw [if_pos (Or.inr c2)]
            simp only [bq_57_3, bk_57_4, bq_57_4, G_0, G_11, G_36, X_push, X_goto, X_fall, X_ifeq, X_ifne, X_iflt, X_ifge, X_ifgt, X_ifle, X_iceq, X_icne, X_iclt, X_icge, X_icgt, X_icle, X_ifnull, X_ifnonnull, X_switch, X_ireturn, X_lreturn, X_areturn, X_return, X_zreturn, X_iload, X_lload, X_aload, X_istore, X_astore, X_lstore, X_iinc, X_iadd, X_isub, X_imul, X_idiv, X_irem, X_iand, X_ior, X_ishl, X_ishr, X_iushr, X_ladd, X_lsub, X_lmul, X_ldiv, X_land, X_lor, X_lshl, X_lcmp, X_ineg, X_i2l, X_l2i, X_i2b, X_i2s, X_i2c, X_dupr, X_dupi, X_dup_x1, X_dup2, X_popi, X_popr, X_iaload, X_baload, X_laload, X_aaload, X_iastore, X_bastore, X_lastore, X_aastore, X_arraylength, am_wt_0, am_wt_int, am_wt_long, am_wt_ref, List.getElem?_cons_zero, List.getElem?_cons_succ, am_s1, am_s2, am_kill, List.set_cons_zero, List.set_cons_succ, List.length_cons, List.length_nil, Int.reduceToNat, Nat.reduceAdd, Nat.reduceLeDiff, Nat.reduceLT, Option.toList_some, Option.toList_none, List.cons_append, List.nil_append, true_and, and_true, true_or, or_true, false_or, or_false, and_self, false_and, not_false_eq_true, not_true_eq_false, to_k L, to_r0 L, to_r1 L, to_r2 L, to_r3 L, to_r4 L, to_r5 L, to_r6 L, to_a5 L, to_n5 L, to_a6 L, to_n6 L, wo_k H, wo_r0 H, wo_r1 H, wo_r2 H, wo_r3 H, wo_r4 H, wo_r5 H, wo_r6 H, wo_r7 H, wo_a1 H, wo_n1 H, wo_a2 H, wo_n2 H, wo_a3 H, wo_n3 H, wo_a4 H, wo_n4 H, wo_a5 H, wo_n5 H, wo_a6 H, wo_n6 H, wo_a7 H, wo_n7 H, wo_a8 H, wo_n8 H, h5, if_false, C_116 _ _ hk', c_116 hk' he' hn' hN' (show i < N' by omega), hm' i (by omega), z1, nI_m1 (show j < 2147483648 by omega), hk, he, hn, in_nI (show i < N by omega) (show N < 2 ^ 31 by omega), tn_nI (show i < 2 ^ 31 by omega), hm i (by omega), el, in_nI (show ctS e i < 6 by omega) (show 6 < 2 ^ 31 by decide), tn_nI (show ctS e i < 2 ^ 31 by omega), hw.2.2.2.1 _ hcs, c1', C_66, c_66 G (cR_sc R) (show s < 2 ^ 30 by omega) hj, c2']
            rfl
          · have c2' : (1 : Int32) ≤ nI (frI s j) := by rw [lit_1, nI_lei (by omega) (by omega)]; omega
            obtain ⟨q1, q2⟩ := isS_sub hs hj (by omega)
            rw [if_neg (fun y => by rcases y with y | y <;> omega)]
            simp only [bq_57_3, bk_57_5, bq_57_5, bk_57_6, bq_57_6, G_0, G_11, G_36, X_push, X_goto, X_fall, X_ifeq, X_ifne, X_iflt, X_ifge, X_ifgt, X_ifle, X_iceq, X_icne, X_iclt, X_icge, X_icgt, X_icle, X_ifnull, X_ifnonnull, X_switch, X_ireturn, X_lreturn, X_areturn, X_return, X_zreturn, X_iload, X_lload, X_aload, X_istore, X_astore, X_lstore, X_iinc, X_iadd, X_isub, X_imul, X_idiv, X_irem, X_iand, X_ior, X_ishl, X_ishr, X_iushr, X_ladd, X_lsub, X_lmul, X_ldiv, X_land, X_lor, X_lshl, X_lcmp, X_ineg, X_i2l, X_l2i, X_i2b, X_i2s, X_i2c, X_dupr, X_dupi, X_dup_x1, X_dup2, X_popi, X_popr, X_iaload, X_baload, X_laload, X_aaload, X_iastore, X_bastore, X_lastore, X_aastore, X_arraylength, am_wt_0, am_wt_int, am_wt_long, am_wt_ref, List.getElem?_cons_zero, List.getElem?_cons_succ, am_s1, am_s2, am_kill, List.set_cons_zero, List.set_cons_succ, List.length_cons, List.length_nil, Int.reduceToNat, Nat.reduceAdd, Nat.reduceLeDiff, Nat.reduceLT, Option.toList_some, Option.toList_none, List.cons_append, List.nil_append, true_and, and_true, true_or, or_true, false_or, or_false, and_self, false_and, not_false_eq_true, not_true_eq_false, to_k L, to_r0 L, to_r1 L, to_r2 L, to_r3 L, to_r4 L, to_r5 L, to_r6 L, to_a5 L, to_n5 L, to_a6 L, to_n6 L, wo_k H, wo_r0 H, wo_r1 H, wo_r2 H, wo_r3 H, wo_r4 H, wo_r5 H, wo_r6 H, wo_r7 H, wo_a1 H, wo_n1 H, wo_a2 H, wo_n2 H, wo_a3 H, wo_n3 H, wo_a4 H, wo_n4 H, wo_a5 H, wo_n5 H, wo_a6 H, wo_n6 H, wo_a7 H, wo_n7 H, wo_a8 H, wo_n8 H, so_k G, so_n G, h5, if_false, C_116 _ _ hk', c_116 hk' he' hn' hN' (show i < N' by omega), hm' i (by omega), z1, nI_m1 (show j < 2147483648 by omega), hk, he, hn, in_nI (show i < N by omega) (show N < 2 ^ 31 by omega), tn_nI (show i < 2 ^ 31 by omega), hm i (by omega), el, in_nI (show ctS e i < 6 by omega) (show 6 < 2 ^ 31 by decide), tn_nI (show ctS e i < 2 ^ 31 by omega), hw.2.2.2.1 _ hcs, c1', C_66, c_66 G (cR_sc R) (show s < 2 ^ 30 by omega) hj, c2', if_true, in_nI hj (show 3 < 2 ^ 31 by decide), tn_nI (show j < 2 ^ 31 by omega), sc_1 (cR_sc R) hj, pk_sub q2, oi_1, nI_add]
            exact ih (i + 1) (s - stp j) (by omega) q1 _
  simp only [bk_57_0, bq_57_0, bk_57_2, bq_57_2, G_0, G_11, G_36, X_push, X_goto, X_fall, X_ifeq, X_ifne, X_iflt, X_ifge, X_ifgt, X_ifle, X_iceq, X_icne, X_iclt, X_icge, X_icgt, X_icle, X_ifnull, X_ifnonnull, X_switch, X_ireturn, X_lreturn, X_areturn, X_return, X_zreturn, X_iload, X_lload, X_aload, X_istore, X_astore, X_lstore, X_iinc, X_iadd, X_isub, X_imul, X_idiv, X_irem, X_iand, X_ior, X_ishl, X_ishr, X_iushr, X_ladd, X_lsub, X_lmul, X_ldiv, X_land, X_lor, X_lshl, X_lcmp, X_ineg, X_i2l, X_l2i, X_i2b, X_i2s, X_i2c, X_dupr, X_dupi, X_dup_x1, X_dup2, X_popi, X_popr, X_iaload, X_baload, X_laload, X_aaload, X_iastore, X_bastore, X_lastore, X_aastore, X_arraylength, am_wt_0, am_wt_int, am_wt_long, am_wt_ref, List.getElem?_cons_zero, List.getElem?_cons_succ, am_s1, am_s2, am_kill, List.set_cons_zero, List.set_cons_succ, List.length_cons, List.length_nil, Int.reduceToNat, Nat.reduceAdd, Nat.reduceLeDiff, Nat.reduceLT, Option.toList_some, Option.toList_none, List.cons_append, List.nil_append, true_and, and_true, true_or, or_true, false_or, or_false, and_self, false_and, not_false_eq_true, not_true_eq_false, to_k L, to_r0 L, to_r1 L, to_r2 L, to_r3 L, to_r4 L, to_r5 L, to_r6 L, to_a5 L, to_n5 L, to_a6 L, to_n6 L, wo_k H, wo_r0 H, wo_r1 H, wo_r2 H, wo_r3 H, wo_r4 H, wo_r5 H, wo_r6 H, wo_r7 H, wo_a1 H, wo_n1 H, wo_a2 H, wo_n2 H, wo_a3 H, wo_n3 H, wo_a4 H, wo_n4 H, wo_a5 H, wo_n5 H, wo_a6 H, wo_n6 H, wo_a7 H, wo_n7 H, wo_a8 H, wo_n8 H, hra, hrb, if_false, C_69, c_69 H O hw]
  exact key m 0 (stN (tW T)) (by omega) (isS_stN O) _
theorem k_judge (R : cR F ci cj g T) (s t k' : Int32) (k : Kn F ci cj g (q_judge T s t k').2 (.int (q_judge T s t k').1) Q) : X (d + 4) 26 (am_bk 26 0) [.ref 32, .int s, .int t, .int k', .null] [] (ci, cj, g) Q := by
  have L := cR_to R
  unfold q_judge at k
  by_cases h : tPl T s t k' = 5
  · rw [if_pos h] at k
    obtain ⟨m, hm6, rfl, n1, n2, l2, l1, hc⟩ := tPl_5 h
    obtain ⟨a, ha, rfl, _, e, hk, _, h73, hs, _, h73e, he, hn, hme, h4, h40⟩ := noRow_5 R n1
    obtain ⟨b, hb, rfl, _, e', hk', _, h73', hs', _, h73e', he', hn', hme', h4', h40'⟩ := noRow_5 R n2
    rw [tn_nI (show a < 2 ^ 31 by omega)] at k l1 hc
    rw [tn_nI (show b < 2 ^ 31 by omega)] at k l2
    rw [tn_nI (show m < 2 ^ 31 by omega)] at k
    simp only [bk_26_0, bq_26_0, bk_26_1, bq_26_1, bk_26_2, bq_26_2, X_push, X_goto, X_fall, X_ifeq, X_ifne, X_iflt, X_ifge, X_ifgt, X_ifle, X_iceq, X_icne, X_iclt, X_icge, X_icgt, X_icle, X_ifnull, X_ifnonnull, X_switch, X_ireturn, X_lreturn, X_areturn, X_return, X_zreturn, X_iload, X_lload, X_aload, X_istore, X_astore, X_lstore, X_iinc, X_iadd, X_isub, X_imul, X_idiv, X_irem, X_iand, X_ior, X_ishl, X_ishr, X_iushr, X_ladd, X_lsub, X_lmul, X_ldiv, X_land, X_lor, X_lshl, X_lcmp, X_ineg, X_i2l, X_l2i, X_i2b, X_i2s, X_i2c, X_dupr, X_dupi, X_dup_x1, X_dup2, X_popi, X_popr, X_iaload, X_baload, X_laload, X_aaload, X_iastore, X_bastore, X_lastore, X_aastore, X_arraylength, am_wt_0, am_wt_int, am_wt_long, am_wt_ref, List.getElem?_cons_zero, List.getElem?_cons_succ, am_s1, am_s2, am_kill, List.set_cons_zero, List.set_cons_succ, List.length_cons, List.length_nil, Int.reduceToNat, Nat.reduceAdd, Nat.reduceLeDiff, Nat.reduceLT, Option.toList_some, Option.toList_none, List.cons_append, List.nil_append, true_and, and_true, true_or, or_true, false_or, or_false, and_self, false_and, not_false_eq_true, not_true_eq_false, to_k L, to_r0 L, to_r1 L, to_r2 L, to_r3 L, to_r4 L, to_r5 L, to_r6 L, to_a5 L, to_n5 L, to_a6 L, to_n6 L, C_55, c_55 R, h, if_true, C_50, c_50 R, e, e', C_57, c_57 R (show ¬ gr g 71 a = 0 by omega) (show ¬ gr g 71 b = 0 by omega) hk he hn h40 hk' he' hn' h40' hme hme' l1 l2 hm6 hc]
    exact kn_id R k
  · rw [if_neg h] at k
    simp only [bk_26_0, bq_26_0, bk_26_2, bq_26_2, X_push, X_goto, X_fall, X_ifeq, X_ifne, X_iflt, X_ifge, X_ifgt, X_ifle, X_iceq, X_icne, X_iclt, X_icge, X_icgt, X_icle, X_ifnull, X_ifnonnull, X_switch, X_ireturn, X_lreturn, X_areturn, X_return, X_zreturn, X_iload, X_lload, X_aload, X_istore, X_astore, X_lstore, X_iinc, X_iadd, X_isub, X_imul, X_idiv, X_irem, X_iand, X_ior, X_ishl, X_ishr, X_iushr, X_ladd, X_lsub, X_lmul, X_ldiv, X_land, X_lor, X_lshl, X_lcmp, X_ineg, X_i2l, X_l2i, X_i2b, X_i2s, X_i2c, X_dupr, X_dupi, X_dup_x1, X_dup2, X_popi, X_popr, X_iaload, X_baload, X_laload, X_aaload, X_iastore, X_bastore, X_lastore, X_aastore, X_arraylength, am_wt_0, am_wt_int, am_wt_long, am_wt_ref, List.getElem?_cons_zero, List.getElem?_cons_succ, am_s1, am_s2, am_kill, List.set_cons_zero, List.set_cons_succ, List.length_cons, List.length_nil, Int.reduceToNat, Nat.reduceAdd, Nat.reduceLeDiff, Nat.reduceLT, Option.toList_some, Option.toList_none, List.cons_append, List.nil_append, true_and, and_true, true_or, or_true, false_or, or_false, and_self, false_and, not_false_eq_true, not_true_eq_false, to_k L, to_r0 L, to_r1 L, to_r2 L, to_r3 L, to_r4 L, to_r5 L, to_r6 L, to_a5 L, to_n5 L, to_a6 L, to_n6 L, C_55, c_55 R, h, if_false, rI_ne _ (tPl_lt h), C_44, c_44 R (tPl_lt h)]
    exact kn_rf R (tPl_lt h) k
end CARTS
