/-! WALLS: what a wall is, and its methods -/
abbrev wS : Type := (Nat → Nat) × (Nat → Nat) × (Nat → Nat) × (Nat → Nat) × (Nat → Nat) × (Nat → Nat) × (Nat → Nat) × (Nat → Int32) × Nat × Nat × Nat × Int32
def sBx (σ : wS) : Nat → Nat := σ.1
def sFl (σ : wS) : Nat → Nat := σ.2.1
def sGo (σ : wS) : Nat → Nat := σ.2.2.1
def sSz (σ : wS) : Nat → Nat := σ.2.2.2.1
def sCo (σ : wS) : Nat → Nat := σ.2.2.2.2.1
def sWo (σ : wS) : Nat → Nat := σ.2.2.2.2.2.1
def sBa (σ : wS) : Nat → Nat := σ.2.2.2.2.2.2.1
def sDa (σ : wS) : Nat → Int32 := σ.2.2.2.2.2.2.2.1
def sCn (σ : wS) : Nat := σ.2.2.2.2.2.2.2.2.1
def sNe (σ : wS) : Nat := σ.2.2.2.2.2.2.2.2.2.1
def sWa (σ : wS) : Nat := σ.2.2.2.2.2.2.2.2.2.2.1
def sSe (σ : wS) : Int32 := σ.2.2.2.2.2.2.2.2.2.2.2
/-- a sum of the first n -/
def csum (f : Nat → Nat) : Nat → Nat
  | 0 => 0
  | n + 1 => csum f n + f n
theorem csum_le {f : Nat → Nat} {a b : Nat} (h : a ≤ b) : csum f a ≤ csum f b := by
  induction h with
  | refl => exact Nat.le_refl _
  | step _ ih => exact Nat.le_trans ih (Nat.le_add_right _ _)
def wOK (σ : wS) : Prop := (∀ j, j < 3 → sFl σ j ≤ sBx σ j ∧ sBx σ j ≤ 4 ∧ sGo σ j ≤ 10) ∧ sCn σ ≤ 6 ∧ (∀ i, i < sCn σ → sSz σ i ≤ 2 ∧ sCo σ i ≤ 100 ∧ 1 ≤ sWo σ i ∧ sWo σ i ≤ 99 ∧ sBa σ i ≤ 99) ∧ csum (sCo σ) (sCn σ) ≤ 100 ∧ sNe σ ≤ 10 ∧ sWa σ ≤ 99
/-- the wall's cells hold σ -/
def wR (ci : Nat → Nat → Int32) (w : Nat) (σ : wS) : Prop :=
  (∀ j, j < 3 → ci (w + 1) j = nI (sBx σ j)) ∧ (∀ j, j < 3 → ci (w + 2) j = nI (sFl σ j)) ∧ (∀ j, j < 3 → ci (w + 3) j = nI (sGo σ j)) ∧
  (∀ i, i < sCn σ → ci (w + 4) i = nI (sSz σ i)) ∧ (∀ i, i < sCn σ → ci (w + 5) i = nI (sCo σ i)) ∧ (∀ i, i < sCn σ → ci (w + 6) i = nI (sWo σ i)) ∧ (∀ i, i < sCn σ → ci (w + 7) i = nI (sBa σ i)) ∧
  (∀ j, j < 6 → ci (w + 8) j = sDa σ j) ∧ ci w 8 = nI (sCn σ) ∧ ci w 9 = nI (sNe σ) ∧ ci w 10 = nI (sWa σ) ∧ ci w 11 = sSe σ
def fr (σ : wS) (j : Nat) : Nat := sBx σ j - sFl σ j
def stN (σ : wS) : Nat := fr σ 0 + 5 * fr σ 1 + 25 * fr σ 2
def stp (j : Nat) : Nat := if j = 0 then 1 else if j = 1 then 5 else 25
def frI (s j : Nat) : Nat := s / stp j % 5
def isS (σ : wS) (s : Nat) : Bool := decide (s < 125 ∧ frI s 0 ≤ sBx σ 0 ∧ frI s 1 ≤ sBx σ 1 ∧ frI s 2 ≤ sBx σ 2)
theorem sc_1 {ci : Nat → Nat → Int32} (S : sc ci) {j : Nat} (hj : j < 3) : ci 1 j = nI (stp j) := by
  match j, hj with
  | 0, _ => exact S.1
  | 1, _ => exact S.2.1
  | 2, _ => exact S.2.2.1
  | j + 3, h => exact absurd h (by omega)
theorem stp_pos (j : Nat) : 0 < stp j := by unfold stp; split; decide; split <;> decide
theorem stp_le (j : Nat) : stp j ≤ 25 := by unfold stp; split; decide; split <;> decide
theorem nz_nI {k : Nat} (h : 0 < k) (h2 : k < 2 ^ 31) : ¬ nI k = 0 := nI_ne0 h h2
theorem fr_le {σ : wS} (O : wOK σ) {j : Nat} (hj : j < 3) : fr σ j ≤ 4 := by
  have := (O.1 j hj).2.1
  unfold fr; omega
theorem stN_lt {σ : wS} (O : wOK σ) : stN σ < 125 := by
  have a := fr_le O (j := 0) (by decide)
  have b := fr_le O (j := 1) (by decide)
  have c := fr_le O (j := 2) (by decide)
  unfold stN; omega
theorem frI_stN {σ : wS} (O : wOK σ) : frI (stN σ) 0 = fr σ 0 ∧ frI (stN σ) 1 = fr σ 1 ∧ frI (stN σ) 2 = fr σ 2 := by
  have a := fr_le O (j := 0) (by decide)
  have b := fr_le O (j := 1) (by decide)
  have c := fr_le O (j := 2) (by decide)
  unfold frI stN stp
  simp only [if_true]
  refine ⟨?_, ?_, ?_⟩
  · simp; omega
  · simp; omega
  · simp; omega
theorem isS_stN {σ : wS} (O : wOK σ) : isS σ (stN σ) = true := by
  obtain ⟨a, b, c⟩ := frI_stN O
  unfold isS
  rw [a, b, c]
  refine decide_eq_true ⟨stN_lt O, ?_, ?_, ?_⟩ <;> exact Nat.sub_le _ _
section WALL
variable {d : Nat} {ci : Nat → Nat → Int32} {cj : Nat → Nat → Int64} {g : am_G} {Q : Option Value → am_H → Prop} {w : Nat} {σ : wS}
/-- freeIn(state, size) -/
theorem c_66 (G : so g) (S : sc ci) {s j : Nat} (hs : s < 2 ^ 30) (hj : j < 3) : X d 66 (am_bk 66 0) [.int (nI s), .int (nI j)] [] (ci, cj, g) Q ↔ Q (some (.int (nI (frI s j)))) (ci, cj, g) := by
  have h1 := sc_1 S hj
  have h2 := stp_pos j
  have h3 := stp_le j
  have h4 : s / stp j ≤ s := Nat.div_le_self _ _
  simp only [bk_66_0, bq_66_0, X_push, X_goto, X_fall, X_ifeq, X_ifne, X_iflt, X_ifge, X_ifgt, X_ifle, X_iceq, X_icne, X_iclt, X_icge, X_icgt, X_icle, X_ifnull, X_ifnonnull, X_switch, X_ireturn, X_lreturn, X_areturn, X_return, X_zreturn, X_iload, X_lload, X_aload, X_istore, X_astore, X_lstore, X_iinc, X_iadd, X_isub, X_imul, X_idiv, X_irem, X_iand, X_ior, X_ishl, X_ishr, X_iushr, X_ladd, X_lsub, X_lmul, X_ldiv, X_land, X_lor, X_lshl, X_lcmp, X_ineg, X_i2l, X_l2i, X_i2b, X_i2s, X_i2c, X_dupr, X_dupi, X_dup_x1, X_dup2, X_popi, X_popr, X_iaload, X_baload, X_laload, X_aaload, X_iastore, X_bastore, X_lastore, X_aastore, X_arraylength, am_wt_0, am_wt_int, am_wt_long, am_wt_ref, List.getElem?_cons_zero, List.getElem?_cons_succ, am_s1, am_s2, am_kill, List.set_cons_zero, List.set_cons_succ, List.length_cons, List.length_nil, Int.reduceToNat, Nat.reduceAdd, Nat.reduceLeDiff, Nat.reduceLT, Option.toList_some, Option.toList_none, List.cons_append, List.nil_append, true_and, and_true, true_or, or_true, false_or, or_false, and_self, false_and, not_false_eq_true, not_true_eq_false, so_k G, so_n G, in_nI hj (show 3 < 2 ^ 31 by decide), tn_nI (show j < 2 ^ 31 by omega), h1, or_true, and_self, nz_nI h2 (show stp j < 2 ^ 31 by omega), pk_div (show s < 2 ^ 31 by omega) h2 (show stp j < 2 ^ 31 by omega), lit_5, pk_rem (show s / stp j < 2 ^ 31 by omega) (show 0 < 5 by decide) (show 5 < 2 ^ 31 by decide), nz_nI (show 0 < 5 by decide) (show 5 < 2 ^ 31 by decide), not_false_eq_true]
  rfl
/-- freeOf(size) -/
theorem c_68 (H : wo g w) (O : wOK σ) (hw : wR ci w σ) {j : Nat} (hj : j < 3) : X d 68 (am_bk 68 0) [.ref w, .int (nI j)] [] (ci, cj, g) Q ↔ Q (some (.int (nI (fr σ j)))) (ci, cj, g) := by
  have h1 := (O.1 j hj).1
  simp only [bk_68_0, bq_68_0, G_8, G_9, X_push, X_goto, X_fall, X_ifeq, X_ifne, X_iflt, X_ifge, X_ifgt, X_ifle, X_iceq, X_icne, X_iclt, X_icge, X_icgt, X_icle, X_ifnull, X_ifnonnull, X_switch, X_ireturn, X_lreturn, X_areturn, X_return, X_zreturn, X_iload, X_lload, X_aload, X_istore, X_astore, X_lstore, X_iinc, X_iadd, X_isub, X_imul, X_idiv, X_irem, X_iand, X_ior, X_ishl, X_ishr, X_iushr, X_ladd, X_lsub, X_lmul, X_ldiv, X_land, X_lor, X_lshl, X_lcmp, X_ineg, X_i2l, X_l2i, X_i2b, X_i2s, X_i2c, X_dupr, X_dupi, X_dup_x1, X_dup2, X_popi, X_popr, X_iaload, X_baload, X_laload, X_aaload, X_iastore, X_bastore, X_lastore, X_aastore, X_arraylength, am_wt_0, am_wt_int, am_wt_long, am_wt_ref, List.getElem?_cons_zero, List.getElem?_cons_succ, am_s1, am_s2, am_kill, List.set_cons_zero, List.set_cons_succ, List.length_cons, List.length_nil, Int.reduceToNat, Nat.reduceAdd, Nat.reduceLeDiff, Nat.reduceLT, Option.toList_some, Option.toList_none, List.cons_append, List.nil_append, true_and, and_true, true_or, or_true, false_or, or_false, and_self, false_and, not_false_eq_true, not_true_eq_false, wo_k H, wo_r0 H, wo_r1 H, wo_r2 H, wo_r3 H, wo_r4 H, wo_r5 H, wo_r6 H, wo_r7 H, wo_a1 H, wo_n1 H, wo_a2 H, wo_n2 H, wo_a3 H, wo_n3 H, wo_a4 H, wo_n4 H, wo_a5 H, wo_n5 H, wo_a6 H, wo_n6 H, wo_a7 H, wo_n7 H, wo_a8 H, wo_n8 H, in_nI hj (show 3 < 2 ^ 31 by decide), tn_nI (show j < 2 ^ 31 by omega), hw.1 j hj, hw.2.1 j hj, true_or, and_self, pk_sub h1]
  rfl
theorem c_69 (H : wo g w) (O : wOK σ) (hw : wR ci w σ) : X (d + 1) 69 (am_bk 69 0) [.ref w] [] (ci, cj, g) Q ↔ Q (some (.int (nI (stN σ)))) (ci, cj, g) := by
  simp only [bk_69_0, bq_69_0, X_push, X_goto, X_fall, X_ifeq, X_ifne, X_iflt, X_ifge, X_ifgt, X_ifle, X_iceq, X_icne, X_iclt, X_icge, X_icgt, X_icle, X_ifnull, X_ifnonnull, X_switch, X_ireturn, X_lreturn, X_areturn, X_return, X_zreturn, X_iload, X_lload, X_aload, X_istore, X_astore, X_lstore, X_iinc, X_iadd, X_isub, X_imul, X_idiv, X_irem, X_iand, X_ior, X_ishl, X_ishr, X_iushr, X_ladd, X_lsub, X_lmul, X_ldiv, X_land, X_lor, X_lshl, X_lcmp, X_ineg, X_i2l, X_l2i, X_i2b, X_i2s, X_i2c, X_dupr, X_dupi, X_dup_x1, X_dup2, X_popi, X_popr, X_iaload, X_baload, X_laload, X_aaload, X_iastore, X_bastore, X_lastore, X_aastore, X_arraylength, am_wt_0, am_wt_int, am_wt_long, am_wt_ref, List.getElem?_cons_zero, List.getElem?_cons_succ, am_s1, am_s2, am_kill, List.set_cons_zero, List.set_cons_succ, List.length_cons, List.length_nil, Int.reduceToNat, Nat.reduceAdd, Nat.reduceLeDiff, Nat.reduceLT, Option.toList_some, Option.toList_none, List.cons_append, List.nil_append, true_and, and_true, true_or, or_true, false_or, or_false, and_self, false_and, not_false_eq_true, not_true_eq_false, wo_k H, wo_r0 H, wo_r1 H, wo_r2 H, wo_r3 H, wo_r4 H, wo_r5 H, wo_r6 H, wo_r7 H, wo_a1 H, wo_n1 H, wo_a2 H, wo_n2 H, wo_a3 H, wo_n3 H, wo_a4 H, wo_n4 H, wo_a5 H, wo_n5 H, wo_a6 H, wo_n6 H, wo_a7 H, wo_n7 H, wo_a8 H, wo_n8 H, C_68, lit_0, lit_1, lit_2, c_68 H O hw (show 0 < 3 by decide), c_68 H O hw (show 1 < 3 by decide), c_68 H O hw (show 2 < 3 by decide), lit_5, lit_25, pk_mul, nI_add]
  rfl
theorem c_67 (G : so g) (S : sc ci) {s : Nat} (hs : s < 2 ^ 30) : X (d + 1) 67 (am_bk 67 0) [.int (nI s)] [] (ci, cj, g) Q ↔ Q (some (.int (nI (frI s 0 + 2 * frI s 1 + 4 * frI s 2)))) (ci, cj, g) := by
  simp only [bk_67_0, bq_67_0, X_push, X_goto, X_fall, X_ifeq, X_ifne, X_iflt, X_ifge, X_ifgt, X_ifle, X_iceq, X_icne, X_iclt, X_icge, X_icgt, X_icle, X_ifnull, X_ifnonnull, X_switch, X_ireturn, X_lreturn, X_areturn, X_return, X_zreturn, X_iload, X_lload, X_aload, X_istore, X_astore, X_lstore, X_iinc, X_iadd, X_isub, X_imul, X_idiv, X_irem, X_iand, X_ior, X_ishl, X_ishr, X_iushr, X_ladd, X_lsub, X_lmul, X_ldiv, X_land, X_lor, X_lshl, X_lcmp, X_ineg, X_i2l, X_l2i, X_i2b, X_i2s, X_i2c, X_dupr, X_dupi, X_dup_x1, X_dup2, X_popi, X_popr, X_iaload, X_baload, X_laload, X_aaload, X_iastore, X_bastore, X_lastore, X_aastore, X_arraylength, am_wt_0, am_wt_int, am_wt_long, am_wt_ref, List.getElem?_cons_zero, List.getElem?_cons_succ, am_s1, am_s2, am_kill, List.set_cons_zero, List.set_cons_succ, List.length_cons, List.length_nil, Int.reduceToNat, Nat.reduceAdd, Nat.reduceLeDiff, Nat.reduceLT, Option.toList_some, Option.toList_none, List.cons_append, List.nil_append, true_and, and_true, true_or, or_true, false_or, or_false, and_self, false_and, not_false_eq_true, not_true_eq_false, C_66, lit_0, lit_1, lit_2, c_66 G S hs (show 0 < 3 by decide), c_66 G S hs (show 1 < 3 by decide), c_66 G S hs (show 2 < 3 by decide), lit_4, pk_mul, nI_add]
end WALL
