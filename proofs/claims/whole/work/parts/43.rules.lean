/-! RULES: what they say -/
def mm1 (n : Nat) : Int32 := iI ((n : Int) - 1)
theorem mm1_0 : mm1 0 = -1 := rfl
theorem mm1_s (n : Nat) : mm1 (n + 1) = nI n := by unfold mm1; rw [nI_iI]; congr 1; omega
theorem mm1_d (n : Nat) : nI n + Int32.ofInt (-1) = mm1 n := by
  show iI (n : Int) + iI (-1) = iI ((n : Int) - 1)
  rw [iI_add]; rfl
def fL (s : Nat) : Nat → Nat → Int
  | 0, _ => -1
  | m + 1, j => if 0 < frI s j then (j : Int) else fL s m (j + 1)
def fK (s a o : Nat) : Nat → Nat → Int
  | 0, _ => -1
  | m + 1, j => if (if j = o then 0 else a) < frI s j then (j : Int) else fK s a o m (j + 1)
def gG (s o : Nat) : Nat → Int
  | 0 => -1
  | n + 1 => if n < o then -1 else if 0 < frI s n then (n : Int) else gG s o n
def eE (s o : Nat) : Nat → Int → Nat → Int
  | 0, p, _ => p
  | n + 1, p, q => if n < o then p else if q < frI s n then eE s o n (n : Int) (frI s n) else eE s o n p q
def rul (σ : wS) (κ a : Nat) (V : Nat → Int) (k s : Nat) : Int :=
  if κ = 1 then fL s (3 - sSz σ k) (sSz σ k) else if κ = 2 then fK s a (sSz σ k) (3 - sSz σ k) (sSz σ k)
  else if κ = 3 then (if sWo σ k < a then -1 else fL s (3 - sSz σ k) (sSz σ k)) else if κ = 4 then gG s (sSz σ k) 3
  else if κ = 5 then eE s (sSz σ k) 3 (-1) 0 else (pz σ k s V).1
def hrs (κ a : Nat) : Nat := if κ = 6 then (if 20 < a then 20 else a) else 0
theorem hrs_le (κ a : Nat) : hrs κ a ≤ 20 := by unfold hrs; split; split <;> omega; omega
theorem fL_ok {s o : Nat} : ∀ m j, j + m = 3 → o ≤ j → (fL s m j = -1 ∨ ∃ i, i < 3 ∧ o ≤ i ∧ fL s m j = (i : Int) ∧ 0 < frI s i) := by
  intro m
  induction m with
  | zero => intro j _ _; exact Or.inl rfl
  | succ m ih =>
    intro j hj ho
    unfold fL
    split
    · rename_i h; exact Or.inr ⟨j, by omega, ho, rfl, h⟩
    · exact ih (j + 1) (by omega) (by omega)
theorem fK_ok {s a o : Nat} : ∀ m j, j + m = 3 → o ≤ j → (fK s a o m j = -1 ∨ ∃ i, i < 3 ∧ o ≤ i ∧ fK s a o m j = (i : Int) ∧ 0 < frI s i) := by
  intro m
  induction m with
  | zero => intro j _ _; exact Or.inl rfl
  | succ m ih =>
    intro j hj ho
    have e : fK s a o (m + 1) j = if (if j = o then 0 else a) < frI s j then (j : Int) else fK s a o m (j + 1) := rfl
    by_cases h : (if j = o then 0 else a) < frI s j
    · rw [if_pos h] at e; exact Or.inr ⟨j, by omega, ho, e, by omega⟩
    · rw [if_neg h] at e; rw [e]; exact ih (j + 1) (by omega) (by omega)
theorem gG_ok {s o : Nat} : ∀ n, n ≤ 3 → (gG s o n = -1 ∨ ∃ i, i < 3 ∧ o ≤ i ∧ gG s o n = (i : Int) ∧ 0 < frI s i) := by
  intro n
  induction n with
  | zero => intro _; exact Or.inl rfl
  | succ n ih =>
    intro hn
    unfold gG
    split
    · exact Or.inl rfl
    · split
      · rename_i h1 h; exact Or.inr ⟨n, by omega, by omega, rfl, h⟩
      · exact ih (by omega)
theorem eE_ok {s o : Nat} : ∀ n p q, n ≤ 3 → (p = -1 ∨ ∃ i, i < 3 ∧ o ≤ i ∧ p = (i : Int) ∧ 0 < frI s i) → (eE s o n p q = -1 ∨ ∃ i, i < 3 ∧ o ≤ i ∧ eE s o n p q = (i : Int) ∧ 0 < frI s i) := by
  intro n
  induction n with
  | zero => intro p q _ h; exact h
  | succ n ih =>
    intro p q hn hp
    unfold eE
    split
    · exact hp
    · split
      · rename_i h1 h; exact ih _ _ (by omega) (Or.inr ⟨n, by omega, by omega, rfl, by omega⟩)
      · exact ih _ _ (by omega) hp
theorem rul_ok {σ : wS} (O : wOK σ) (κ a : Nat) (V : Nat → Int) : okP σ (rul σ κ a V) := by
  intro k hk s _
  have hz := (O.2.2.1 k hk).1
  unfold rul
  split
  · exact fL_ok _ _ (by omega) (Nat.le_refl _)
  split
  · exact fK_ok _ _ (by omega) (Nat.le_refl _)
  split
  · split
    · exact Or.inl rfl
    · exact fL_ok _ _ (by omega) (Nat.le_refl _)
  split
  · exact gG_ok 3 (by omega)
  split
  · exact eE_ok 3 _ _ (by omega) (Or.inl rfl)
  · exact (pz_ok O hk).1
section RULES
variable {d : Nat} {ci : Nat → Nat → Int32} {cj : Nat → Nat → Int64} {g : am_G} {Q : Option Value → am_H → Prop} {w r x : Nat} {σ : wS}
theorem l_119 (G : so g) (S : sc ci) {s : Nat} (hs : s < 125) {t2 : Value} : ∀ m j, j + m = 3 → (X (d + 1) 119 (am_bk 119 1) [.ref r, .ref w, t2, .int (nI s), .ref x, .int (nI j)] [] (ci, cj, g) Q ↔ Q (some (.int (iI (fL s m j)))) (ci, cj, g)) := by
  intro m
  induction m with
  | zero =>
    intro j hj
    obtain rfl : j = 3 := by omega
    rw [bk_119_1]
    simp only [bq_119_1, bk_119_3, bq_119_3, G_11, X_push, X_goto, X_fall, X_ifeq, X_ifne, X_iflt, X_ifge, X_ifgt, X_ifle, X_iceq, X_icne, X_iclt, X_icge, X_icgt, X_icle, X_ifnull, X_ifnonnull, X_switch, X_ireturn, X_lreturn, X_areturn, X_return, X_zreturn, X_iload, X_lload, X_aload, X_istore, X_astore, X_lstore, X_iinc, X_iadd, X_isub, X_imul, X_idiv, X_irem, X_iand, X_ior, X_ishl, X_ishr, X_iushr, X_ladd, X_lsub, X_lmul, X_ldiv, X_land, X_lor, X_lshl, X_lcmp, X_ineg, X_i2l, X_l2i, X_i2b, X_i2s, X_i2c, X_dupr, X_dupi, X_dup_x1, X_dup2, X_popi, X_popr, X_iaload, X_baload, X_laload, X_aaload, X_iastore, X_bastore, X_lastore, X_aastore, X_arraylength, am_wt_0, am_wt_int, am_wt_long, am_wt_ref, List.getElem?_cons_zero, List.getElem?_cons_succ, am_s1, am_s2, am_kill, List.set_cons_zero, List.set_cons_succ, List.length_cons, List.length_nil, Int.reduceToNat, Nat.reduceAdd, Nat.reduceLeDiff, Nat.reduceLT, Option.toList_some, Option.toList_none, List.cons_append, List.nil_append, true_and, and_true, true_or, or_true, false_or, or_false, and_self, false_and, not_false_eq_true, not_true_eq_false, lit_3, Int32.le_refl, if_true]
    rfl
  | succ m ih =>
    intro j hj
    have h1 : ¬ (3 : Int32) ≤ nI j := nI_ge (b := 3) (by omega) (by decide)
    have h5 := frI_lt s j
    have e : fL s (m + 1) j = if 0 < frI s j then (j : Int) else fL s m (j + 1) := rfl
    rw [bk_119_1]
    by_cases c : 0 < frI s j
    · have c' : ¬ nI (frI s j) ≤ 0 := by rw [lit_0, nI_lei (by omega) (by omega)]; omega
      simp only [bq_119_1, G_11, X_push, X_goto, X_fall, X_ifeq, X_ifne, X_iflt, X_ifge, X_ifgt, X_ifle, X_iceq, X_icne, X_iclt, X_icge, X_icgt, X_icle, X_ifnull, X_ifnonnull, X_switch, X_ireturn, X_lreturn, X_areturn, X_return, X_zreturn, X_iload, X_lload, X_aload, X_istore, X_astore, X_lstore, X_iinc, X_iadd, X_isub, X_imul, X_idiv, X_irem, X_iand, X_ior, X_ishl, X_ishr, X_iushr, X_ladd, X_lsub, X_lmul, X_ldiv, X_land, X_lor, X_lshl, X_lcmp, X_ineg, X_i2l, X_l2i, X_i2b, X_i2s, X_i2c, X_dupr, X_dupi, X_dup_x1, X_dup2, X_popi, X_popr, X_iaload, X_baload, X_laload, X_aaload, X_iastore, X_bastore, X_lastore, X_aastore, X_arraylength, am_wt_0, am_wt_int, am_wt_long, am_wt_ref, List.getElem?_cons_zero, List.getElem?_cons_succ, am_s1, am_s2, am_kill, List.set_cons_zero, List.set_cons_succ, List.length_cons, List.length_nil, Int.reduceToNat, Nat.reduceAdd, Nat.reduceLeDiff, Nat.reduceLT, Option.toList_some, Option.toList_none, List.cons_append, List.nil_append, true_and, and_true, true_or, or_true, false_or, or_false, and_self, false_and, not_false_eq_true, not_true_eq_false, h1, if_false, C_66, c_66 G S (show s < 2 ^ 30 by omega) (show j < 3 by omega), c', e, if_pos c, ← nI_iI]
    · have c' : nI (frI s j) ≤ 0 := by rw [lit_0, nI_lei (by omega) (by omega)]; omega
      simp only [bq_119_1, bk_119_2, bq_119_2, G_11, X_push, X_goto, X_fall, X_ifeq, X_ifne, X_iflt, X_ifge, X_ifgt, X_ifle, X_iceq, X_icne, X_iclt, X_icge, X_icgt, X_icle, X_ifnull, X_ifnonnull, X_switch, X_ireturn, X_lreturn, X_areturn, X_return, X_zreturn, X_iload, X_lload, X_aload, X_istore, X_astore, X_lstore, X_iinc, X_iadd, X_isub, X_imul, X_idiv, X_irem, X_iand, X_ior, X_ishl, X_ishr, X_iushr, X_ladd, X_lsub, X_lmul, X_ldiv, X_land, X_lor, X_lshl, X_lcmp, X_ineg, X_i2l, X_l2i, X_i2b, X_i2s, X_i2c, X_dupr, X_dupi, X_dup_x1, X_dup2, X_popi, X_popr, X_iaload, X_baload, X_laload, X_aaload, X_iastore, X_bastore, X_lastore, X_aastore, X_arraylength, am_wt_0, am_wt_int, am_wt_long, am_wt_ref, List.getElem?_cons_zero, List.getElem?_cons_succ, am_s1, am_s2, am_kill, List.set_cons_zero, List.set_cons_succ, List.length_cons, List.length_nil, Int.reduceToNat, Nat.reduceAdd, Nat.reduceLeDiff, Nat.reduceLT, Option.toList_some, Option.toList_none, List.cons_append, List.nil_append, true_and, and_true, true_or, or_true, false_or, or_false, and_self, false_and, not_false_eq_true, not_true_eq_false, h1, if_false, C_66, c_66 G S (show s < 2 ^ 30 by omega) (show j < 3 by omega), c', if_true, e, if_neg c, oi_1, nI_add]
      exact ih (j + 1) (by omega)
theorem c_119 (G : so g) (S : sc ci) (H : wo g w) (O : wOK σ) (hw : wR ci w σ) {k s : Nat} (hk : k < sCn σ) (hs : s < 125) : X (d + 1) 119 (am_bk 119 0) [.ref r, .ref w, .int (nI k), .int (nI s), .ref x, .null] [] (ci, cj, g) Q ↔ Q (some (.int (iI (fL s (3 - sSz σ k) (sSz σ k))))) (ci, cj, g) := by
  have hc := O.2.1
  have hz := (O.2.2.1 k hk).1
  simp only [bk_119_0, bq_119_0, G_11, X_push, X_goto, X_fall, X_ifeq, X_ifne, X_iflt, X_ifge, X_ifgt, X_ifle, X_iceq, X_icne, X_iclt, X_icge, X_icgt, X_icle, X_ifnull, X_ifnonnull, X_switch, X_ireturn, X_lreturn, X_areturn, X_return, X_zreturn, X_iload, X_lload, X_aload, X_istore, X_astore, X_lstore, X_iinc, X_iadd, X_isub, X_imul, X_idiv, X_irem, X_iand, X_ior, X_ishl, X_ishr, X_iushr, X_ladd, X_lsub, X_lmul, X_ldiv, X_land, X_lor, X_lshl, X_lcmp, X_ineg, X_i2l, X_l2i, X_i2b, X_i2s, X_i2c, X_dupr, X_dupi, X_dup_x1, X_dup2, X_popi, X_popr, X_iaload, X_baload, X_laload, X_aaload, X_iastore, X_bastore, X_lastore, X_aastore, X_arraylength, am_wt_0, am_wt_int, am_wt_long, am_wt_ref, List.getElem?_cons_zero, List.getElem?_cons_succ, am_s1, am_s2, am_kill, List.set_cons_zero, List.set_cons_succ, List.length_cons, List.length_nil, Int.reduceToNat, Nat.reduceAdd, Nat.reduceLeDiff, Nat.reduceLT, Option.toList_some, Option.toList_none, List.cons_append, List.nil_append, true_and, and_true, true_or, or_true, false_or, or_false, and_self, false_and, not_false_eq_true, not_true_eq_false, wo_k H, wo_r0 H, wo_r1 H, wo_r2 H, wo_r3 H, wo_r4 H, wo_r5 H, wo_r6 H, wo_r7 H, wo_a1 H, wo_n1 H, wo_a2 H, wo_n2 H, wo_a3 H, wo_n3 H, wo_a4 H, wo_n4 H, wo_a5 H, wo_n5 H, wo_a6 H, wo_n6 H, wo_a7 H, wo_n7 H, wo_a8 H, wo_n8 H, in_nI (show k < 6 by omega) (show 6 < 2 ^ 31 by decide), tn_nI (show k < 2 ^ 31 by omega), hw.2.2.2.1 k hk]
  exact l_119 G S hs _ _ (by omega)
theorem l_122 (G : so g) (S : sc ci) (hr : 6 ≤ gk g r ∧ gk g r ≤ 11) {a o : Nat} (ha : ci r 0 = nI a) (ha2 : a ≤ 99) (ho : o ≤ 2) {s : Nat} (hs : s < 125) {t2 : Value} : ∀ m j, j + m = 3 → (X (d + 1) 122 (am_bk 122 1) [.ref r, .ref w, t2, .int (nI s), .ref x, .int (nI o), .int (nI j)] [] (ci, cj, g) Q ↔ Q (some (.int (iI (fK s a o m j)))) (ci, cj, g)) := by
  intro m
  induction m with
  | zero =>
    intro j hj
    obtain rfl : j = 3 := by omega
    rw [bk_122_1]
    simp only [bq_122_1, bk_122_5, bq_122_5, G_11, G_75, X_push, X_goto, X_fall, X_ifeq, X_ifne, X_iflt, X_ifge, X_ifgt, X_ifle, X_iceq, X_icne, X_iclt, X_icge, X_icgt, X_icle, X_ifnull, X_ifnonnull, X_switch, X_ireturn, X_lreturn, X_areturn, X_return, X_zreturn, X_iload, X_lload, X_aload, X_istore, X_astore, X_lstore, X_iinc, X_iadd, X_isub, X_imul, X_idiv, X_irem, X_iand, X_ior, X_ishl, X_ishr, X_iushr, X_ladd, X_lsub, X_lmul, X_ldiv, X_land, X_lor, X_lshl, X_lcmp, X_ineg, X_i2l, X_l2i, X_i2b, X_i2s, X_i2c, X_dupr, X_dupi, X_dup_x1, X_dup2, X_popi, X_popr, X_iaload, X_baload, X_laload, X_aaload, X_iastore, X_bastore, X_lastore, X_aastore, X_arraylength, am_wt_0, am_wt_int, am_wt_long, am_wt_ref, List.getElem?_cons_zero, List.getElem?_cons_succ, am_s1, am_s2, am_kill, List.set_cons_zero, List.set_cons_succ, List.length_cons, List.length_nil, Int.reduceToNat, Nat.reduceAdd, Nat.reduceLeDiff, Nat.reduceLT, Option.toList_some, Option.toList_none, List.cons_append, List.nil_append, true_and, and_true, true_or, or_true, false_or, or_false, and_self, false_and, not_false_eq_true, not_true_eq_false, lit_3, Int32.le_refl, if_true]
    rfl
  | succ m ih =>
    intro j hj
    have h1 : ¬ (3 : Int32) ≤ nI j := nI_ge (b := 3) (by omega) (by decide)
    have h5 := frI_lt s j
    have e : fK s a o (m + 1) j = if (if j = o then 0 else a) < frI s j then (j : Int) else fK s a o m (j + 1) := rfl
    rw [bk_122_1]
    by_cases b : j = o
    · rw [if_pos b] at e
      subst b
      by_cases c : 0 < frI s j
      · have c' : ¬ nI (frI s j) ≤ 0 := by rw [lit_0, nI_lei (by omega) (by omega)]; omega
        simp only [bq_122_1, bk_122_3, bq_122_3, G_11, G_75, X_push, X_goto, X_fall, X_ifeq, X_ifne, X_iflt, X_ifge, X_ifgt, X_ifle, X_iceq, X_icne, X_iclt, X_icge, X_icgt, X_icle, X_ifnull, X_ifnonnull, X_switch, X_ireturn, X_lreturn, X_areturn, X_return, X_zreturn, X_iload, X_lload, X_aload, X_istore, X_astore, X_lstore, X_iinc, X_iadd, X_isub, X_imul, X_idiv, X_irem, X_iand, X_ior, X_ishl, X_ishr, X_iushr, X_ladd, X_lsub, X_lmul, X_ldiv, X_land, X_lor, X_lshl, X_lcmp, X_ineg, X_i2l, X_l2i, X_i2b, X_i2s, X_i2c, X_dupr, X_dupi, X_dup_x1, X_dup2, X_popi, X_popr, X_iaload, X_baload, X_laload, X_aaload, X_iastore, X_bastore, X_lastore, X_aastore, X_arraylength, am_wt_0, am_wt_int, am_wt_long, am_wt_ref, List.getElem?_cons_zero, List.getElem?_cons_succ, am_s1, am_s2, am_kill, List.set_cons_zero, List.set_cons_succ, List.length_cons, List.length_nil, Int.reduceToNat, Nat.reduceAdd, Nat.reduceLeDiff, Nat.reduceLT, Option.toList_some, Option.toList_none, List.cons_append, List.nil_append, true_and, and_true, true_or, or_true, false_or, or_false, and_self, false_and, not_false_eq_true, not_true_eq_false, h1, if_false, C_66, c_66 G S (show s < 2 ^ 30 by omega) (show j < 3 by omega), c', e, if_pos c, ← nI_iI]
      · have c' : nI (frI s j) ≤ 0 := by rw [lit_0, nI_lei (by omega) (by omega)]; omega
        simp only [bq_122_1, bk_122_3, bq_122_3, bk_122_4, bq_122_4, G_11, G_75, X_push, X_goto, X_fall, X_ifeq, X_ifne, X_iflt, X_ifge, X_ifgt, X_ifle, X_iceq, X_icne, X_iclt, X_icge, X_icgt, X_icle, X_ifnull, X_ifnonnull, X_switch, X_ireturn, X_lreturn, X_areturn, X_return, X_zreturn, X_iload, X_lload, X_aload, X_istore, X_astore, X_lstore, X_iinc, X_iadd, X_isub, X_imul, X_idiv, X_irem, X_iand, X_ior, X_ishl, X_ishr, X_iushr, X_ladd, X_lsub, X_lmul, X_ldiv, X_land, X_lor, X_lshl, X_lcmp, X_ineg, X_i2l, X_l2i, X_i2b, X_i2s, X_i2c, X_dupr, X_dupi, X_dup_x1, X_dup2, X_popi, X_popr, X_iaload, X_baload, X_laload, X_aaload, X_iastore, X_bastore, X_lastore, X_aastore, X_arraylength, am_wt_0, am_wt_int, am_wt_long, am_wt_ref, List.getElem?_cons_zero, List.getElem?_cons_succ, am_s1, am_s2, am_kill, List.set_cons_zero, List.set_cons_succ, List.length_cons, List.length_nil, Int.reduceToNat, Nat.reduceAdd, Nat.reduceLeDiff, Nat.reduceLT, Option.toList_some, Option.toList_none, List.cons_append, List.nil_append, true_and, and_true, true_or, or_true, false_or, or_false, and_self, false_and, not_false_eq_true, not_true_eq_false, h1, if_false, C_66, c_66 G S (show s < 2 ^ 30 by omega) (show j < 3 by omega), c', if_true, e, if_neg c, oi_1, nI_add]
        exact ih (j + 1) (by omega)
    · rw [if_neg b] at e
      have b' : ¬ nI j = nI o := by rw [nI_eqi (by omega) (by omega)]; exact b
      by_cases c : a < frI s j
      · have c' : ¬ nI (frI s j) ≤ nI a := by rw [nI_lei (by omega) (by omega)]; omega
        simp only [bq_122_1, bk_122_2, bq_122_2, bk_122_3, bq_122_3, G_11, G_75, X_push, X_goto, X_fall, X_ifeq, X_ifne, X_iflt, X_ifge, X_ifgt, X_ifle, X_iceq, X_icne, X_iclt, X_icge, X_icgt, X_icle, X_ifnull, X_ifnonnull, X_switch, X_ireturn, X_lreturn, X_areturn, X_return, X_zreturn, X_iload, X_lload, X_aload, X_istore, X_astore, X_lstore, X_iinc, X_iadd, X_isub, X_imul, X_idiv, X_irem, X_iand, X_ior, X_ishl, X_ishr, X_iushr, X_ladd, X_lsub, X_lmul, X_ldiv, X_land, X_lor, X_lshl, X_lcmp, X_ineg, X_i2l, X_l2i, X_i2b, X_i2s, X_i2c, X_dupr, X_dupi, X_dup_x1, X_dup2, X_popi, X_popr, X_iaload, X_baload, X_laload, X_aaload, X_iastore, X_bastore, X_lastore, X_aastore, X_arraylength, am_wt_0, am_wt_int, am_wt_long, am_wt_ref, List.getElem?_cons_zero, List.getElem?_cons_succ, am_s1, am_s2, am_kill, List.set_cons_zero, List.set_cons_succ, List.length_cons, List.length_nil, Int.reduceToNat, Nat.reduceAdd, Nat.reduceLeDiff, Nat.reduceLT, Option.toList_some, Option.toList_none, List.cons_append, List.nil_append, true_and, and_true, true_or, or_true, false_or, or_false, and_self, false_and, not_false_eq_true, not_true_eq_false, hr, h1, if_false, C_66, c_66 G S (show s < 2 ^ 30 by omega) (show j < 3 by omega), b', if_true, ha, c', e, if_pos c, ← nI_iI]
      · have c' : nI (frI s j) ≤ nI a := by rw [nI_lei (by omega) (by omega)]; omega
        simp only [bq_122_1, bk_122_2, bq_122_2, bk_122_3, bq_122_3, bk_122_4, bq_122_4, G_11, G_75, X_push, X_goto, X_fall, X_ifeq, X_ifne, X_iflt, X_ifge, X_ifgt, X_ifle, X_iceq, X_icne, X_iclt, X_icge, X_icgt, X_icle, X_ifnull, X_ifnonnull, X_switch, X_ireturn, X_lreturn, X_areturn, X_return, X_zreturn, X_iload, X_lload, X_aload, X_istore, X_astore, X_lstore, X_iinc, X_iadd, X_isub, X_imul, X_idiv, X_irem, X_iand, X_ior, X_ishl, X_ishr, X_iushr, X_ladd, X_lsub, X_lmul, X_ldiv, X_land, X_lor, X_lshl, X_lcmp, X_ineg, X_i2l, X_l2i, X_i2b, X_i2s, X_i2c, X_dupr, X_dupi, X_dup_x1, X_dup2, X_popi, X_popr, X_iaload, X_baload, X_laload, X_aaload, X_iastore, X_bastore, X_lastore, X_aastore, X_arraylength, am_wt_0, am_wt_int, am_wt_long, am_wt_ref, List.getElem?_cons_zero, List.getElem?_cons_succ, am_s1, am_s2, am_kill, List.set_cons_zero, List.set_cons_succ, List.length_cons, List.length_nil, Int.reduceToNat, Nat.reduceAdd, Nat.reduceLeDiff, Nat.reduceLT, Option.toList_some, Option.toList_none, List.cons_append, List.nil_append, true_and, and_true, true_or, or_true, false_or, or_false, and_self, false_and, not_false_eq_true, not_true_eq_false, hr, h1, if_false, C_66, c_66 G S (show s < 2 ^ 30 by omega) (show j < 3 by omega), b', if_true, ha, c', e, if_neg c, oi_1, nI_add]
        exact ih (j + 1) (by omega)
theorem c_122 (G : so g) (S : sc ci) (H : wo g w) (O : wOK σ) (hw : wR ci w σ) (hr : 6 ≤ gk g r ∧ gk g r ≤ 11) {a : Nat} (ha : ci r 0 = nI a) (ha2 : a ≤ 99) {k s : Nat} (hk : k < sCn σ) (hs : s < 125) : X (d + 1) 122 (am_bk 122 0) [.ref r, .ref w, .int (nI k), .int (nI s), .ref x, .null, .null] [] (ci, cj, g) Q ↔ Q (some (.int (iI (fK s a (sSz σ k) (3 - sSz σ k) (sSz σ k))))) (ci, cj, g) := by
  have hc := O.2.1
  have hz := (O.2.2.1 k hk).1
  simp only [bk_122_0, bq_122_0, G_11, G_75, X_push, X_goto, X_fall, X_ifeq, X_ifne, X_iflt, X_ifge, X_ifgt, X_ifle, X_iceq, X_icne, X_iclt, X_icge, X_icgt, X_icle, X_ifnull, X_ifnonnull, X_switch, X_ireturn, X_lreturn, X_areturn, X_return, X_zreturn, X_iload, X_lload, X_aload, X_istore, X_astore, X_lstore, X_iinc, X_iadd, X_isub, X_imul, X_idiv, X_irem, X_iand, X_ior, X_ishl, X_ishr, X_iushr, X_ladd, X_lsub, X_lmul, X_ldiv, X_land, X_lor, X_lshl, X_lcmp, X_ineg, X_i2l, X_l2i, X_i2b, X_i2s, X_i2c, X_dupr, X_dupi, X_dup_x1, X_dup2, X_popi, X_popr, X_iaload, X_baload, X_laload, X_aaload, X_iastore, X_bastore, X_lastore, X_aastore, X_arraylength, am_wt_0, am_wt_int, am_wt_long, am_wt_ref, List.getElem?_cons_zero, List.getElem?_cons_succ, am_s1, am_s2, am_kill, List.set_cons_zero, List.set_cons_succ, List.length_cons, List.length_nil, Int.reduceToNat, Nat.reduceAdd, Nat.reduceLeDiff, Nat.reduceLT, Option.toList_some, Option.toList_none, List.cons_append, List.nil_append, true_and, and_true, true_or, or_true, false_or, or_false, and_self, false_and, not_false_eq_true, not_true_eq_false, wo_k H, wo_r0 H, wo_r1 H, wo_r2 H, wo_r3 H, wo_r4 H, wo_r5 H, wo_r6 H, wo_r7 H, wo_a1 H, wo_n1 H, wo_a2 H, wo_n2 H, wo_a3 H, wo_n3 H, wo_a4 H, wo_n4 H, wo_a5 H, wo_n5 H, wo_a6 H, wo_n6 H, wo_a7 H, wo_n7 H, wo_a8 H, wo_n8 H, in_nI (show k < 6 by omega) (show 6 < 2 ^ 31 by decide), tn_nI (show k < 2 ^ 31 by omega), hw.2.2.2.1 k hk]
  exact l_122 G S hr ha ha2 hz hs _ _ (by omega)
theorem c_125 (G : so g) (S : sc ci) (H : wo g w) (O : wOK σ) (hw : wR ci w σ) (hr : gk g r = 8) {a : Nat} (ha : ci r 0 = nI a) (ha2 : a ≤ 99) {k s : Nat} (hk : k < sCn σ) (hs : s < 125) : X (d + 2) 125 (am_bk 125 0) [.ref r, .ref w, .int (nI k), .int (nI s), .ref x] [] (ci, cj, g) Q ↔ Q (some (.int (iI (if sWo σ k < a then -1 else fL s (3 - sSz σ k) (sSz σ k))))) (ci, cj, g) := by
  have hc := O.2.1
  have hz := (O.2.2.1 k hk).2.2.2.1
  by_cases c : sWo σ k < a
  · have c' : ¬ nI a ≤ nI (sWo σ k) := by rw [nI_lei (by omega) (by omega)]; omega
    simp only [bk_125_0, bq_125_0, bk_125_2, bq_125_2, G_13, G_75, X_push, X_goto, X_fall, X_ifeq, X_ifne, X_iflt, X_ifge, X_ifgt, X_ifle, X_iceq, X_icne, X_iclt, X_icge, X_icgt, X_icle, X_ifnull, X_ifnonnull, X_switch, X_ireturn, X_lreturn, X_areturn, X_return, X_zreturn, X_iload, X_lload, X_aload, X_istore, X_astore, X_lstore, X_iinc, X_iadd, X_isub, X_imul, X_idiv, X_irem, X_iand, X_ior, X_ishl, X_ishr, X_iushr, X_ladd, X_lsub, X_lmul, X_ldiv, X_land, X_lor, X_lshl, X_lcmp, X_ineg, X_i2l, X_l2i, X_i2b, X_i2s, X_i2c, X_dupr, X_dupi, X_dup_x1, X_dup2, X_popi, X_popr, X_iaload, X_baload, X_laload, X_aaload, X_iastore, X_bastore, X_lastore, X_aastore, X_arraylength, am_wt_0, am_wt_int, am_wt_long, am_wt_ref, List.getElem?_cons_zero, List.getElem?_cons_succ, am_s1, am_s2, am_kill, List.set_cons_zero, List.set_cons_succ, List.length_cons, List.length_nil, Int.reduceToNat, Nat.reduceAdd, Nat.reduceLeDiff, Nat.reduceLT, Option.toList_some, Option.toList_none, List.cons_append, List.nil_append, true_and, and_true, true_or, or_true, false_or, or_false, and_self, false_and, not_false_eq_true, not_true_eq_false, wo_k H, wo_r0 H, wo_r1 H, wo_r2 H, wo_r3 H, wo_r4 H, wo_r5 H, wo_r6 H, wo_r7 H, wo_a1 H, wo_n1 H, wo_a2 H, wo_n2 H, wo_a3 H, wo_n3 H, wo_a4 H, wo_n4 H, wo_a5 H, wo_n5 H, wo_a6 H, wo_n6 H, wo_a7 H, wo_n7 H, wo_a8 H, wo_n8 H, hr, Nat.reduceLeDiff, in_nI (show k < 6 by omega) (show 6 < 2 ^ 31 by decide), tn_nI (show k < 2 ^ 31 by omega), hw.2.2.2.2.2.1 k hk, ha, c', if_false, if_pos c]
    rfl
  · have c' : nI a ≤ nI (sWo σ k) := by rw [nI_lei (by omega) (by omega)]; omega
    simp only [bk_125_0, bq_125_0, bk_125_1, bq_125_1, bk_125_2, bq_125_2, G_13, G_75, X_push, X_goto, X_fall, X_ifeq, X_ifne, X_iflt, X_ifge, X_ifgt, X_ifle, X_iceq, X_icne, X_iclt, X_icge, X_icgt, X_icle, X_ifnull, X_ifnonnull, X_switch, X_ireturn, X_lreturn, X_areturn, X_return, X_zreturn, X_iload, X_lload, X_aload, X_istore, X_astore, X_lstore, X_iinc, X_iadd, X_isub, X_imul, X_idiv, X_irem, X_iand, X_ior, X_ishl, X_ishr, X_iushr, X_ladd, X_lsub, X_lmul, X_ldiv, X_land, X_lor, X_lshl, X_lcmp, X_ineg, X_i2l, X_l2i, X_i2b, X_i2s, X_i2c, X_dupr, X_dupi, X_dup_x1, X_dup2, X_popi, X_popr, X_iaload, X_baload, X_laload, X_aaload, X_iastore, X_bastore, X_lastore, X_aastore, X_arraylength, am_wt_0, am_wt_int, am_wt_long, am_wt_ref, List.getElem?_cons_zero, List.getElem?_cons_succ, am_s1, am_s2, am_kill, List.set_cons_zero, List.set_cons_succ, List.length_cons, List.length_nil, Int.reduceToNat, Nat.reduceAdd, Nat.reduceLeDiff, Nat.reduceLT, Option.toList_some, Option.toList_none, List.cons_append, List.nil_append, true_and, and_true, true_or, or_true, false_or, or_false, and_self, false_and, not_false_eq_true, not_true_eq_false, wo_k H, wo_r0 H, wo_r1 H, wo_r2 H, wo_r3 H, wo_r4 H, wo_r5 H, wo_r6 H, wo_r7 H, wo_a1 H, wo_n1 H, wo_a2 H, wo_n2 H, wo_a3 H, wo_n3 H, wo_a4 H, wo_n4 H, wo_a5 H, wo_n5 H, wo_a6 H, wo_n6 H, wo_a7 H, wo_n7 H, wo_a8 H, wo_n8 H, hr, Nat.reduceLeDiff, in_nI (show k < 6 by omega) (show 6 < 2 ^ 31 by decide), tn_nI (show k < 2 ^ 31 by omega), hw.2.2.2.2.2.1 k hk, ha, c', if_true, if_neg c, C_119_super, c_119 G S H O hw hk hs]
theorem l_128 (G : so g) (S : sc ci) (H : wo g w) (O : wOK σ) (hw : wR ci w σ) {k s : Nat} (hk : k < sCn σ) (hs : s < 125) : ∀ n, n ≤ 3 → (X (d + 1) 128 (am_bk 128 1) [.ref r, .ref w, .int (nI k), .int (nI s), .ref x, .int (mm1 n)] [] (ci, cj, g) Q ↔ Q (some (.int (iI (gG s (sSz σ k) n)))) (ci, cj, g)) := by
  have hc := O.2.1
  have hz := (O.2.2.1 k hk).1
  intro n
  induction n with
  | zero =>
    intro _
    have c : (-1 : Int32) < nI (sSz σ k) := by rw [lt_ti, nI_ti (by omega), ti_m1]; omega
    rw [bk_128_1]
    simp only [bq_128_1, bk_128_3, bq_128_3, G_11, X_push, X_goto, X_fall, X_ifeq, X_ifne, X_iflt, X_ifge, X_ifgt, X_ifle, X_iceq, X_icne, X_iclt, X_icge, X_icgt, X_icle, X_ifnull, X_ifnonnull, X_switch, X_ireturn, X_lreturn, X_areturn, X_return, X_zreturn, X_iload, X_lload, X_aload, X_istore, X_astore, X_lstore, X_iinc, X_iadd, X_isub, X_imul, X_idiv, X_irem, X_iand, X_ior, X_ishl, X_ishr, X_iushr, X_ladd, X_lsub, X_lmul, X_ldiv, X_land, X_lor, X_lshl, X_lcmp, X_ineg, X_i2l, X_l2i, X_i2b, X_i2s, X_i2c, X_dupr, X_dupi, X_dup_x1, X_dup2, X_popi, X_popr, X_iaload, X_baload, X_laload, X_aaload, X_iastore, X_bastore, X_lastore, X_aastore, X_arraylength, am_wt_0, am_wt_int, am_wt_long, am_wt_ref, List.getElem?_cons_zero, List.getElem?_cons_succ, am_s1, am_s2, am_kill, List.set_cons_zero, List.set_cons_succ, List.length_cons, List.length_nil, Int.reduceToNat, Nat.reduceAdd, Nat.reduceLeDiff, Nat.reduceLT, Option.toList_some, Option.toList_none, List.cons_append, List.nil_append, true_and, and_true, true_or, or_true, false_or, or_false, and_self, false_and, not_false_eq_true, not_true_eq_false, wo_k H, wo_r0 H, wo_r1 H, wo_r2 H, wo_r3 H, wo_r4 H, wo_r5 H, wo_r6 H, wo_r7 H, wo_a1 H, wo_n1 H, wo_a2 H, wo_n2 H, wo_a3 H, wo_n3 H, wo_a4 H, wo_n4 H, wo_a5 H, wo_n5 H, wo_a6 H, wo_n6 H, wo_a7 H, wo_n7 H, wo_a8 H, wo_n8 H, in_nI (show k < 6 by omega) (show 6 < 2 ^ 31 by decide), tn_nI (show k < 2 ^ 31 by omega), hw.2.2.2.1 k hk, mm1_0, c, if_true]
    rfl
  | succ n ih =>
    intro hn
    have h5 := frI_lt s n
    have e : gG s (sSz σ k) (n + 1) = if n < sSz σ k then -1 else if 0 < frI s n then (n : Int) else gG s (sSz σ k) n := rfl
    rw [bk_128_1]
    by_cases b : n < sSz σ k
    · have c : nI n < nI (sSz σ k) := by rw [nI_lti (by omega) (by omega)]; exact b
      simp only [bq_128_1, bk_128_3, bq_128_3, G_11, X_push, X_goto, X_fall, X_ifeq, X_ifne, X_iflt, X_ifge, X_ifgt, X_ifle, X_iceq, X_icne, X_iclt, X_icge, X_icgt, X_icle, X_ifnull, X_ifnonnull, X_switch, X_ireturn, X_lreturn, X_areturn, X_return, X_zreturn, X_iload, X_lload, X_aload, X_istore, X_astore, X_lstore, X_iinc, X_iadd, X_isub, X_imul, X_idiv, X_irem, X_iand, X_ior, X_ishl, X_ishr, X_iushr, X_ladd, X_lsub, X_lmul, X_ldiv, X_land, X_lor, X_lshl, X_lcmp, X_ineg, X_i2l, X_l2i, X_i2b, X_i2s, X_i2c, X_dupr, X_dupi, X_dup_x1, X_dup2, X_popi, X_popr, X_iaload, X_baload, X_laload, X_aaload, X_iastore, X_bastore, X_lastore, X_aastore, X_arraylength, am_wt_0, am_wt_int, am_wt_long, am_wt_ref, List.getElem?_cons_zero, List.getElem?_cons_succ, am_s1, am_s2, am_kill, List.set_cons_zero, List.set_cons_succ, List.length_cons, List.length_nil, Int.reduceToNat, Nat.reduceAdd, Nat.reduceLeDiff, Nat.reduceLT, Option.toList_some, Option.toList_none, List.cons_append, List.nil_append, true_and, and_true, true_or, or_true, false_or, or_false, and_self, false_and, not_false_eq_true, not_true_eq_false, wo_k H, wo_r0 H, wo_r1 H, wo_r2 H, wo_r3 H, wo_r4 H, wo_r5 H, wo_r6 H, wo_r7 H, wo_a1 H, wo_n1 H, wo_a2 H, wo_n2 H, wo_a3 H, wo_n3 H, wo_a4 H, wo_n4 H, wo_a5 H, wo_n5 H, wo_a6 H, wo_n6 H, wo_a7 H, wo_n7 H, wo_a8 H, wo_n8 H, in_nI (show k < 6 by omega) (show 6 < 2 ^ 31 by decide), tn_nI (show k < 2 ^ 31 by omega), hw.2.2.2.1 k hk, mm1_s, c, if_true, e, if_pos b]
      rfl
    · have c : ¬ nI n < nI (sSz σ k) := by rw [nI_lti (by omega) (by omega)]; exact b
      by_cases b2 : 0 < frI s n
      · have c' : ¬ nI (frI s n) ≤ 0 := by rw [lit_0, nI_lei (by omega) (by omega)]; omega
        simp only [bq_128_1, G_11, X_push, X_goto, X_fall, X_ifeq, X_ifne, X_iflt, X_ifge, X_ifgt, X_ifle, X_iceq, X_icne, X_iclt, X_icge, X_icgt, X_icle, X_ifnull, X_ifnonnull, X_switch, X_ireturn, X_lreturn, X_areturn, X_return, X_zreturn, X_iload, X_lload, X_aload, X_istore, X_astore, X_lstore, X_iinc, X_iadd, X_isub, X_imul, X_idiv, X_irem, X_iand, X_ior, X_ishl, X_ishr, X_iushr, X_ladd, X_lsub, X_lmul, X_ldiv, X_land, X_lor, X_lshl, X_lcmp, X_ineg, X_i2l, X_l2i, X_i2b, X_i2s, X_i2c, X_dupr, X_dupi, X_dup_x1, X_dup2, X_popi, X_popr, X_iaload, X_baload, X_laload, X_aaload, X_iastore, X_bastore, X_lastore, X_aastore, X_arraylength, am_wt_0, am_wt_int, am_wt_long, am_wt_ref, List.getElem?_cons_zero, List.getElem?_cons_succ, am_s1, am_s2, am_kill, List.set_cons_zero, List.set_cons_succ, List.length_cons, List.length_nil, Int.reduceToNat, Nat.reduceAdd, Nat.reduceLeDiff, Nat.reduceLT, Option.toList_some, Option.toList_none, List.cons_append, List.nil_append, true_and, and_true, true_or, or_true, false_or, or_false, and_self, false_and, not_false_eq_true, not_true_eq_false, wo_k H, wo_r0 H, wo_r1 H, wo_r2 H, wo_r3 H, wo_r4 H, wo_r5 H, wo_r6 H, wo_r7 H, wo_a1 H, wo_n1 H, wo_a2 H, wo_n2 H, wo_a3 H, wo_n3 H, wo_a4 H, wo_n4 H, wo_a5 H, wo_n5 H, wo_a6 H, wo_n6 H, wo_a7 H, wo_n7 H, wo_a8 H, wo_n8 H, in_nI (show k < 6 by omega) (show 6 < 2 ^ 31 by decide), tn_nI (show k < 2 ^ 31 by omega), hw.2.2.2.1 k hk, mm1_s, c, if_false, C_66, c_66 G S (show s < 2 ^ 30 by omega) (show n < 3 by omega), c', e, if_neg b, if_pos b2, ← nI_iI]
      · have c' : nI (frI s n) ≤ 0 := by rw [lit_0, nI_lei (by omega) (by omega)]; omega
        simp only [bq_128_1, bk_128_2, bq_128_2, G_11, X_push, X_goto, X_fall, X_ifeq, X_ifne, X_iflt, X_ifge, X_ifgt, X_ifle, X_iceq, X_icne, X_iclt, X_icge, X_icgt, X_icle, X_ifnull, X_ifnonnull, X_switch, X_ireturn, X_lreturn, X_areturn, X_return, X_zreturn, X_iload, X_lload, X_aload, X_istore, X_astore, X_lstore, X_iinc, X_iadd, X_isub, X_imul, X_idiv, X_irem, X_iand, X_ior, X_ishl, X_ishr, X_iushr, X_ladd, X_lsub, X_lmul, X_ldiv, X_land, X_lor, X_lshl, X_lcmp, X_ineg, X_i2l, X_l2i, X_i2b, X_i2s, X_i2c, X_dupr, X_dupi, X_dup_x1, X_dup2, X_popi, X_popr, X_iaload, X_baload, X_laload, X_aaload, X_iastore, X_bastore, X_lastore, X_aastore, X_arraylength, am_wt_0, am_wt_int, am_wt_long, am_wt_ref, List.getElem?_cons_zero, List.getElem?_cons_succ, am_s1, am_s2, am_kill, List.set_cons_zero, List.set_cons_succ, List.length_cons, List.length_nil, Int.reduceToNat, Nat.reduceAdd, Nat.reduceLeDiff, Nat.reduceLT, Option.toList_some, Option.toList_none, List.cons_append, List.nil_append, true_and, and_true, true_or, or_true, false_or, or_false, and_self, false_and, not_false_eq_true, not_true_eq_false, wo_k H, wo_r0 H, wo_r1 H, wo_r2 H, wo_r3 H, wo_r4 H, wo_r5 H, wo_r6 H, wo_r7 H, wo_a1 H, wo_n1 H, wo_a2 H, wo_n2 H, wo_a3 H, wo_n3 H, wo_a4 H, wo_n4 H, wo_a5 H, wo_n5 H, wo_a6 H, wo_n6 H, wo_a7 H, wo_n7 H, wo_a8 H, wo_n8 H, in_nI (show k < 6 by omega) (show 6 < 2 ^ 31 by decide), tn_nI (show k < 2 ^ 31 by omega), hw.2.2.2.1 k hk, mm1_s, c, if_false, C_66, c_66 G S (show s < 2 ^ 30 by omega) (show n < 3 by omega), c', if_true, e, if_neg b, if_neg b2, mm1_d]
        exact ih (by omega)
theorem c_128 (G : so g) (S : sc ci) (H : wo g w) (O : wOK σ) (hw : wR ci w σ) {k s : Nat} (hk : k < sCn σ) (hs : s < 125) : X (d + 1) 128 (am_bk 128 0) [.ref r, .ref w, .int (nI k), .int (nI s), .ref x, .null] [] (ci, cj, g) Q ↔ Q (some (.int (iI (gG s (sSz σ k) 3)))) (ci, cj, g) := by
  simp only [bk_128_0, bq_128_0, X_push, X_goto, X_fall, X_ifeq, X_ifne, X_iflt, X_ifge, X_ifgt, X_ifle, X_iceq, X_icne, X_iclt, X_icge, X_icgt, X_icle, X_ifnull, X_ifnonnull, X_switch, X_ireturn, X_lreturn, X_areturn, X_return, X_zreturn, X_iload, X_lload, X_aload, X_istore, X_astore, X_lstore, X_iinc, X_iadd, X_isub, X_imul, X_idiv, X_irem, X_iand, X_ior, X_ishl, X_ishr, X_iushr, X_ladd, X_lsub, X_lmul, X_ldiv, X_land, X_lor, X_lshl, X_lcmp, X_ineg, X_i2l, X_l2i, X_i2b, X_i2s, X_i2c, X_dupr, X_dupi, X_dup_x1, X_dup2, X_popi, X_popr, X_iaload, X_baload, X_laload, X_aaload, X_iastore, X_bastore, X_lastore, X_aastore, X_arraylength, am_wt_0, am_wt_int, am_wt_long, am_wt_ref, List.getElem?_cons_zero, List.getElem?_cons_succ, am_s1, am_s2, am_kill, List.set_cons_zero, List.set_cons_succ, List.length_cons, List.length_nil, Int.reduceToNat, Nat.reduceAdd, Nat.reduceLeDiff, Nat.reduceLT, Option.toList_some, Option.toList_none, List.cons_append, List.nil_append, true_and, and_true, true_or, or_true, false_or, or_false, and_self, false_and, not_false_eq_true, not_true_eq_false]
  exact l_128 G S H O hw hk hs 3 (by omega)
theorem l_131 (G : so g) (S : sc ci) (H : wo g w) (O : wOK σ) (hw : wR ci w σ) {k s : Nat} (hk : k < sCn σ) (hs : s < 125) : ∀ n (p : Int) (q : Nat) (t8 : Value), n ≤ 3 → q ≤ 4 → (X (d + 1) 131 (am_bk 131 1) [.ref r, .ref w, .int (nI k), .int (nI s), .ref x, .int (iI p), .int (nI q), .int (mm1 n), t8] [] (ci, cj, g) Q ↔ Q (some (.int (iI (eE s (sSz σ k) n p q)))) (ci, cj, g)) := by
  have hc := O.2.1
  have hz := (O.2.2.1 k hk).1
  intro n
  induction n with
  | zero =>
    intro p q t8 _ _
    have c : (-1 : Int32) < nI (sSz σ k) := by rw [lt_ti, nI_ti (by omega), ti_m1]; omega
    rw [bk_131_1]
    simp only [bq_131_1, bk_131_3, bq_131_3, G_11, X_push, X_goto, X_fall, X_ifeq, X_ifne, X_iflt, X_ifge, X_ifgt, X_ifle, X_iceq, X_icne, X_iclt, X_icge, X_icgt, X_icle, X_ifnull, X_ifnonnull, X_switch, X_ireturn, X_lreturn, X_areturn, X_return, X_zreturn, X_iload, X_lload, X_aload, X_istore, X_astore, X_lstore, X_iinc, X_iadd, X_isub, X_imul, X_idiv, X_irem, X_iand, X_ior, X_ishl, X_ishr, X_iushr, X_ladd, X_lsub, X_lmul, X_ldiv, X_land, X_lor, X_lshl, X_lcmp, X_ineg, X_i2l, X_l2i, X_i2b, X_i2s, X_i2c, X_dupr, X_dupi, X_dup_x1, X_dup2, X_popi, X_popr, X_iaload, X_baload, X_laload, X_aaload, X_iastore, X_bastore, X_lastore, X_aastore, X_arraylength, am_wt_0, am_wt_int, am_wt_long, am_wt_ref, List.getElem?_cons_zero, List.getElem?_cons_succ, am_s1, am_s2, am_kill, List.set_cons_zero, List.set_cons_succ, List.length_cons, List.length_nil, Int.reduceToNat, Nat.reduceAdd, Nat.reduceLeDiff, Nat.reduceLT, Option.toList_some, Option.toList_none, List.cons_append, List.nil_append, true_and, and_true, true_or, or_true, false_or, or_false, and_self, false_and, not_false_eq_true, not_true_eq_false, wo_k H, wo_r0 H, wo_r1 H, wo_r2 H, wo_r3 H, wo_r4 H, wo_r5 H, wo_r6 H, wo_r7 H, wo_a1 H, wo_n1 H, wo_a2 H, wo_n2 H, wo_a3 H, wo_n3 H, wo_a4 H, wo_n4 H, wo_a5 H, wo_n5 H, wo_a6 H, wo_n6 H, wo_a7 H, wo_n7 H, wo_a8 H, wo_n8 H, in_nI (show k < 6 by omega) (show 6 < 2 ^ 31 by decide), tn_nI (show k < 2 ^ 31 by omega), hw.2.2.2.1 k hk, mm1_0, c, if_true]
    rfl
  | succ n ih =>
    intro p q t8 hn hq
    have h5 := frI_lt s n
    have e : eE s (sSz σ k) (n + 1) p q = if n < sSz σ k then p else if q < frI s n then eE s (sSz σ k) n (n : Int) (frI s n) else eE s (sSz σ k) n p q := rfl
    rw [bk_131_1]
    by_cases b : n < sSz σ k
    · have c : nI n < nI (sSz σ k) := by rw [nI_lti (by omega) (by omega)]; exact b
      simp only [bq_131_1, bk_131_3, bq_131_3, G_11, X_push, X_goto, X_fall, X_ifeq, X_ifne, X_iflt, X_ifge, X_ifgt, X_ifle, X_iceq, X_icne, X_iclt, X_icge, X_icgt, X_icle, X_ifnull, X_ifnonnull, X_switch, X_ireturn, X_lreturn, X_areturn, X_return, X_zreturn, X_iload, X_lload, X_aload, X_istore, X_astore, X_lstore, X_iinc, X_iadd, X_isub, X_imul, X_idiv, X_irem, X_iand, X_ior, X_ishl, X_ishr, X_iushr, X_ladd, X_lsub, X_lmul, X_ldiv, X_land, X_lor, X_lshl, X_lcmp, X_ineg, X_i2l, X_l2i, X_i2b, X_i2s, X_i2c, X_dupr, X_dupi, X_dup_x1, X_dup2, X_popi, X_popr, X_iaload, X_baload, X_laload, X_aaload, X_iastore, X_bastore, X_lastore, X_aastore, X_arraylength, am_wt_0, am_wt_int, am_wt_long, am_wt_ref, List.getElem?_cons_zero, List.getElem?_cons_succ, am_s1, am_s2, am_kill, List.set_cons_zero, List.set_cons_succ, List.length_cons, List.length_nil, Int.reduceToNat, Nat.reduceAdd, Nat.reduceLeDiff, Nat.reduceLT, Option.toList_some, Option.toList_none, List.cons_append, List.nil_append, true_and, and_true, true_or, or_true, false_or, or_false, and_self, false_and, not_false_eq_true, not_true_eq_false, wo_k H, wo_r0 H, wo_r1 H, wo_r2 H, wo_r3 H, wo_r4 H, wo_r5 H, wo_r6 H, wo_r7 H, wo_a1 H, wo_n1 H, wo_a2 H, wo_n2 H, wo_a3 H, wo_n3 H, wo_a4 H, wo_n4 H, wo_a5 H, wo_n5 H, wo_a6 H, wo_n6 H, wo_a7 H, wo_n7 H, wo_a8 H, wo_n8 H, in_nI (show k < 6 by omega) (show 6 < 2 ^ 31 by decide), tn_nI (show k < 2 ^ 31 by omega), hw.2.2.2.1 k hk, mm1_s, c, if_true, e, if_pos b]
    · have c : ¬ nI n < nI (sSz σ k) := by rw [nI_lti (by omega) (by omega)]; exact b
      by_cases b2 : q < frI s n
      · have c' : ¬ nI (frI s n) ≤ nI q := by rw [nI_lei (by omega) (by omega)]; omega
        simp only [bq_131_1, bk_131_2, bq_131_2, G_11, X_push, X_goto, X_fall, X_ifeq, X_ifne, X_iflt, X_ifge, X_ifgt, X_ifle, X_iceq, X_icne, X_iclt, X_icge, X_icgt, X_icle, X_ifnull, X_ifnonnull, X_switch, X_ireturn, X_lreturn, X_areturn, X_return, X_zreturn, X_iload, X_lload, X_aload, X_istore, X_astore, X_lstore, X_iinc, X_iadd, X_isub, X_imul, X_idiv, X_irem, X_iand, X_ior, X_ishl, X_ishr, X_iushr, X_ladd, X_lsub, X_lmul, X_ldiv, X_land, X_lor, X_lshl, X_lcmp, X_ineg, X_i2l, X_l2i, X_i2b, X_i2s, X_i2c, X_dupr, X_dupi, X_dup_x1, X_dup2, X_popi, X_popr, X_iaload, X_baload, X_laload, X_aaload, X_iastore, X_bastore, X_lastore, X_aastore, X_arraylength, am_wt_0, am_wt_int, am_wt_long, am_wt_ref, List.getElem?_cons_zero, List.getElem?_cons_succ, am_s1, am_s2, am_kill, List.set_cons_zero, List.set_cons_succ, List.length_cons, List.length_nil, Int.reduceToNat, Nat.reduceAdd, Nat.reduceLeDiff, Nat.reduceLT, Option.toList_some, Option.toList_none, List.cons_append, List.nil_append, true_and, and_true, true_or, or_true, false_or, or_false, and_self, false_and, not_false_eq_true, not_true_eq_false, wo_k H, wo_r0 H, wo_r1 H, wo_r2 H, wo_r3 H, wo_r4 H, wo_r5 H, wo_r6 H, wo_r7 H, wo_a1 H, wo_n1 H, wo_a2 H, wo_n2 H, wo_a3 H, wo_n3 H, wo_a4 H, wo_n4 H, wo_a5 H, wo_n5 H, wo_a6 H, wo_n6 H, wo_a7 H, wo_n7 H, wo_a8 H, wo_n8 H, in_nI (show k < 6 by omega) (show 6 < 2 ^ 31 by decide), tn_nI (show k < 2 ^ 31 by omega), hw.2.2.2.1 k hk, mm1_s, c, if_false, C_66, c_66 G S (show s < 2 ^ 30 by omega) (show n < 3 by omega), c', e, if_neg b, if_pos b2, mm1_d]
        exact ih (n : Int) (frI s n) _ (by omega) (by omega)
      · have c' : nI (frI s n) ≤ nI q := by rw [nI_lei (by omega) (by omega)]; omega
        simp only [bq_131_1, bk_131_2, bq_131_2, G_11, X_push, X_goto, X_fall, X_ifeq, X_ifne, X_iflt, X_ifge, X_ifgt, X_ifle, X_iceq, X_icne, X_iclt, X_icge, X_icgt, X_icle, X_ifnull, X_ifnonnull, X_switch, X_ireturn, X_lreturn, X_areturn, X_return, X_zreturn, X_iload, X_lload, X_aload, X_istore, X_astore, X_lstore, X_iinc, X_iadd, X_isub, X_imul, X_idiv, X_irem, X_iand, X_ior, X_ishl, X_ishr, X_iushr, X_ladd, X_lsub, X_lmul, X_ldiv, X_land, X_lor, X_lshl, X_lcmp, X_ineg, X_i2l, X_l2i, X_i2b, X_i2s, X_i2c, X_dupr, X_dupi, X_dup_x1, X_dup2, X_popi, X_popr, X_iaload, X_baload, X_laload, X_aaload, X_iastore, X_bastore, X_lastore, X_aastore, X_arraylength, am_wt_0, am_wt_int, am_wt_long, am_wt_ref, List.getElem?_cons_zero, List.getElem?_cons_succ, am_s1, am_s2, am_kill, List.set_cons_zero, List.set_cons_succ, List.length_cons, List.length_nil, Int.reduceToNat, Nat.reduceAdd, Nat.reduceLeDiff, Nat.reduceLT, Option.toList_some, Option.toList_none, List.cons_append, List.nil_append, true_and, and_true, true_or, or_true, false_or, or_false, and_self, false_and, not_false_eq_true, not_true_eq_false, wo_k H, wo_r0 H, wo_r1 H, wo_r2 H, wo_r3 H, wo_r4 H, wo_r5 H, wo_r6 H, wo_r7 H, wo_a1 H, wo_n1 H, wo_a2 H, wo_n2 H, wo_a3 H, wo_n3 H, wo_a4 H, wo_n4 H, wo_a5 H, wo_n5 H, wo_a6 H, wo_n6 H, wo_a7 H, wo_n7 H, wo_a8 H, wo_n8 H, in_nI (show k < 6 by omega) (show 6 < 2 ^ 31 by decide), tn_nI (show k < 2 ^ 31 by omega), hw.2.2.2.1 k hk, mm1_s, c, if_false, C_66, c_66 G S (show s < 2 ^ 30 by omega) (show n < 3 by omega), c', if_true, e, if_neg b, if_neg b2, mm1_d]
        exact ih p q _ (by omega) hq
theorem c_131 (G : so g) (S : sc ci) (H : wo g w) (O : wOK σ) (hw : wR ci w σ) {k s : Nat} (hk : k < sCn σ) (hs : s < 125) : X (d + 1) 131 (am_bk 131 0) [.ref r, .ref w, .int (nI k), .int (nI s), .ref x, .null, .null, .null, .null] [] (ci, cj, g) Q ↔ Q (some (.int (iI (eE s (sSz σ k) 3 (-1) 0)))) (ci, cj, g) := by
  simp only [bk_131_0, bq_131_0, X_push, X_goto, X_fall, X_ifeq, X_ifne, X_iflt, X_ifge, X_ifgt, X_ifle, X_iceq, X_icne, X_iclt, X_icge, X_icgt, X_icle, X_ifnull, X_ifnonnull, X_switch, X_ireturn, X_lreturn, X_areturn, X_return, X_zreturn, X_iload, X_lload, X_aload, X_istore, X_astore, X_lstore, X_iinc, X_iadd, X_isub, X_imul, X_idiv, X_irem, X_iand, X_ior, X_ishl, X_ishr, X_iushr, X_ladd, X_lsub, X_lmul, X_ldiv, X_land, X_lor, X_lshl, X_lcmp, X_ineg, X_i2l, X_l2i, X_i2b, X_i2s, X_i2c, X_dupr, X_dupi, X_dup_x1, X_dup2, X_popi, X_popr, X_iaload, X_baload, X_laload, X_aaload, X_iastore, X_bastore, X_lastore, X_aastore, X_arraylength, am_wt_0, am_wt_int, am_wt_long, am_wt_ref, List.getElem?_cons_zero, List.getElem?_cons_succ, am_s1, am_s2, am_kill, List.set_cons_zero, List.set_cons_succ, List.length_cons, List.length_nil, Int.reduceToNat, Nat.reduceAdd, Nat.reduceLeDiff, Nat.reduceLT, Option.toList_some, Option.toList_none, List.cons_append, List.nil_append, true_and, and_true, true_or, or_true, false_or, or_false, and_self, false_and, not_false_eq_true, not_true_eq_false]
  exact l_131 G S H O hw hk hs 3 (-1) 0 _ (by omega) (by omega)
theorem c_135 (G : so g) (S : sc ci) (H : wo g w) (HH : ho g) (O : wOK σ) (hw : wR ci w σ) {k s : Nat} (hk : k < sCn σ) (hs : isS σ s = true) {V : Nat → Int} {M : Nat} (hM : M ≤ 10000000000) (hb : bV σ V M) (hv : hV 61 σ cj V) : X (d + 3) 135 (am_bk 135 0) [.ref r, .ref w, .int (nI k), .int (nI s), .ref 61] [] (ci, cj, g) Q ↔ Q (some (.int (iI (pz σ k s V).1))) (ci, cj, g) := by
  have h125 := isS_lt hs
  have e := pk_pz O hk hs hM hb (A := fun i => cj 61 (0 + i)) (fun t ht => by rw [Nat.zero_add]; exact hv t ht)
  simp only [bk_135_0, bq_135_0, X_push, X_goto, X_fall, X_ifeq, X_ifne, X_iflt, X_ifge, X_ifgt, X_ifle, X_iceq, X_icne, X_iclt, X_icge, X_icgt, X_icle, X_ifnull, X_ifnonnull, X_switch, X_ireturn, X_lreturn, X_areturn, X_return, X_zreturn, X_iload, X_lload, X_aload, X_istore, X_astore, X_lstore, X_iinc, X_iadd, X_isub, X_imul, X_idiv, X_irem, X_iand, X_ior, X_ishl, X_ishr, X_iushr, X_ladd, X_lsub, X_lmul, X_ldiv, X_land, X_lor, X_lshl, X_lcmp, X_ineg, X_i2l, X_l2i, X_i2b, X_i2s, X_i2c, X_dupr, X_dupi, X_dup_x1, X_dup2, X_popi, X_popr, X_iaload, X_baload, X_laload, X_aaload, X_iastore, X_bastore, X_lastore, X_aastore, X_arraylength, am_wt_0, am_wt_int, am_wt_long, am_wt_ref, List.getElem?_cons_zero, List.getElem?_cons_succ, am_s1, am_s2, am_kill, List.set_cons_zero, List.set_cons_succ, List.length_cons, List.length_nil, Int.reduceToNat, Nat.reduceAdd, Nat.reduceLeDiff, Nat.reduceLT, Option.toList_some, Option.toList_none, List.cons_append, List.nil_append, true_and, and_true, true_or, or_true, false_or, or_false, and_self, false_and, not_false_eq_true, not_true_eq_false, wo_k H, wo_r0 H, wo_r1 H, wo_r2 H, wo_r3 H, wo_r4 H, wo_r5 H, wo_r6 H, wo_r7 H, wo_a1 H, wo_n1 H, wo_a2 H, wo_n2 H, wo_a3 H, wo_n3 H, wo_a4 H, wo_n4 H, wo_a5 H, wo_n5 H, wo_a6 H, wo_n6 H, wo_a7 H, wo_n7 H, wo_a8 H, wo_n8 H, C_80, lit_0, c_80 G S H O hw hk (ho_a1 HH) (ho_n1 HH) (show 0 + s < 125 by omega) (show 125 < 2 ^ 30 by decide), e]
end RULES
