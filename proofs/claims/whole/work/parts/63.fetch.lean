/-! THE MODEL: fetched, over all ways in which boxes are fetched -/
/-- is size j among the set x -/
def bt (x j : Nat) : Bool := decide (¬ ((nI x >>> (nI j &&& 31)) &&& 1) = 0)
theorem bt_0_0 : bt 0 0 = false := rfl
theorem bt_0_1 : bt 0 1 = false := rfl
theorem bt_0_2 : bt 0 2 = false := rfl
theorem bt_1_0 : bt 1 0 = true := rfl
theorem bt_1_1 : bt 1 1 = false := rfl
theorem bt_1_2 : bt 1 2 = false := rfl
theorem bt_2_0 : bt 2 0 = false := rfl
theorem bt_2_1 : bt 2 1 = true := rfl
theorem bt_2_2 : bt 2 2 = false := rfl
theorem bt_3_0 : bt 3 0 = true := rfl
theorem bt_3_1 : bt 3 1 = true := rfl
theorem bt_3_2 : bt 3 2 = false := rfl
theorem bt_4_0 : bt 4 0 = false := rfl
theorem bt_4_1 : bt 4 1 = false := rfl
theorem bt_4_2 : bt 4 2 = true := rfl
theorem bt_5_0 : bt 5 0 = true := rfl
theorem bt_5_1 : bt 5 1 = false := rfl
theorem bt_5_2 : bt 5 2 = true := rfl
theorem bt_6_0 : bt 6 0 = false := rfl
theorem bt_6_1 : bt 6 1 = true := rfl
theorem bt_6_2 : bt 6 2 = true := rfl
theorem bt_7_0 : bt 7 0 = true := rfl
theorem bt_7_1 : bt 7 1 = true := rfl
theorem bt_7_2 : bt 7 2 = true := rfl
theorem bt_t {x j : Nat} (h : bt x j = true) : (((nI x >>> (nI j &&& 31)) &&& 1) = 0) = False := eq_false (of_decide_eq_true h)
theorem bt_f {x j : Nat} (h : ¬ bt x j = true) : (((nI x >>> (nI j &&& 31)) &&& 1) = 0) = True := by
  refine eq_true ?_
  by_cases z : ((nI x >>> (nI j &&& 31)) &&& 1) = 0
  · exact z
  · exact absurd (decide_eq_true z) h
/-- a letter's size, or none -/
def lv (l : Option Nat) : Int32 := match l with
  | none => -1
  | some q => nI q
def lw (σ : wS) (l : Option Nat) : wS := match l with
  | none => σ
  | some q => lwl σ q
def okl (l : Option Nat) : Prop := ∀ q, l = some q → q < 3
theorem lw_go (σ : wS) (l : Option Nat) : wGo σ (lw σ l) := match l with
  | none => ⟨rfl, rfl, rfl, rfl, rfl, rfl, rfl, rfl⟩
  | some q => lwl_go σ q
theorem lw_ok {σ : wS} (O : wOK σ) (l : Option Nat) : wOK (lw σ l) := match l with
  | none => O
  | some q => lwl_ok O q
/-- by how many of ten a box of size j is fetched -/
def oN (σ : wS) (s j : Nat) : Nat := if frI s j < sBx σ j then sGo σ j else 0
def odF (σ : wS) (s x : Nat) : Nat → Int
  | 0 => 1
  | j + 1 => odF σ s x j * (if bt x j = true then (oN σ s j : Int) else 10 - (oN σ s j : Int))
def thF (x s : Nat) : Nat → Nat
  | 0 => s
  | j + 1 => thF x s j + (if bt x j = true then stp j else 0)
def fsF (σ : wS) (B : Nat → Int) (s : Nat) : Nat → Int
  | 0 => 0
  | x + 1 => fsF σ B s x + odF σ s x 3 * B (thF x s 3)
theorem ft1_o (σ : wS) (j : Nat) (B : Nat → Int) (s : Nat) : ft1 σ j B s = (oN σ s j : Int) * B (s + stp j) + (10 - (oN σ s j : Int)) * B s := by
  unfold ft1 oN
  split
  · rfl
  · simp
theorem oN_add {σ : wS} (O : wOK σ) {s j i : Nat} (hs : s < 125) (hj : j < 3) (hi : i < 3) (hij : i ≠ j) (h : oN σ s j ≠ 0) : oN σ (s + stp j) i = oN σ s i ∧ s + stp j < 125 := by
  have hf : frI s j < sBx σ j := by
    by_cases z : frI s j < sBx σ j
    · exact z
    · exfalso; apply h; unfold oN; rw [if_neg z]
  have := (O.1 j hj).2.1
  obtain ⟨a, b⟩ := fr_add hs j hj (by omega)
  refine ⟨?_, a⟩
  unfold oN
  rw [b i hi, if_neg hij]
theorem ftc_fs {σ : wS} (O : wOK σ) (B : Nat → Int) {s : Nat} (hs : s < 125) : fsF σ B s 8 = ftc σ B s := by
  have e0 : ∀ t, ft1 σ 0 B t = (oN σ t 0 : Int) * B (t + 1) + (10 - (oN σ t 0 : Int)) * B t := fun t => ft1_o σ 0 B t
  have e1 : ∀ t, ft1 σ 1 (ft1 σ 0 B) t = (oN σ t 1 : Int) * ft1 σ 0 B (t + 5) + (10 - (oN σ t 1 : Int)) * ft1 σ 0 B t := fun t => ft1_o σ 1 _ t
  have e2 : ftc σ B s = (oN σ s 2 : Int) * ft1 σ 1 (ft1 σ 0 B) (s + 25) + (10 - (oN σ s 2 : Int)) * ft1 σ 1 (ft1 σ 0 B) s := ft1_o σ 2 _ s
  have q1 : oN σ s 1 ≠ 0 → oN σ (s + 5) 0 = oN σ s 0 := fun h => (oN_add O hs (j := 1) (i := 0) (by decide) (by decide) (by decide) h).1
  have q2 : oN σ s 2 ≠ 0 → oN σ (s + 25) 0 = oN σ s 0 ∧ oN σ (s + 25) 1 = oN σ s 1 ∧ s + 25 < 125 := fun h => ⟨(oN_add O hs (j := 2) (i := 0) (by decide) (by decide) (by decide) h).1, oN_add O hs (j := 2) (i := 1) (by decide) (by decide) (by decide) h⟩
  have q3 : oN σ s 2 ≠ 0 → oN σ s 1 ≠ 0 → oN σ (s + 25 + 5) 0 = oN σ s 0 := fun h h1 => by
    obtain ⟨a, b, c⟩ := q2 h
    have := (oN_add O c (j := 1) (i := 0) (by decide) (by decide) (by decide) (by rw [b]; exact h1)).1
    rw [a] at this
    exact this
  rw [e2, e1, e1, e0, e0, e0, e0]
  simp only [fsF, odF, thF, stp_0, stp_1, stp_2, Nat.add_zero, bt_0_0, bt_0_1, bt_0_2, bt_1_0, bt_1_1, bt_1_2, bt_2_0, bt_2_1, bt_2_2, bt_3_0, bt_3_1, bt_3_2, bt_4_0, bt_4_1, bt_4_2, bt_5_0, bt_5_1, bt_5_2, bt_6_0, bt_6_1, bt_6_2, bt_7_0, bt_7_1, bt_7_2, if_true, if_false, Bool.false_eq_true, Int.one_mul, Int.zero_add]
  have n1 : s + 25 + 5 + 1 = s + 1 + 5 + 25 := by omega
  have n2 : s + 25 + 5 = s + 5 + 25 := by omega
  have n3 : s + 25 + 1 = s + 1 + 25 := by omega
  have n4 : s + 5 + 1 = s + 1 + 5 := by omega
  rw [n1, n3, n4]
  by_cases z2 : oN σ s 2 = 0
  · by_cases z1 : oN σ s 1 = 0
    · rw [z2, z1]
      generalize (oN σ s 0 : Int) = o0
      simp only [Int.natCast_zero, Int.ofNat_zero, Int.mul_zero, Int.zero_mul, Int.zero_add, Int.add_zero, Int.sub_zero]
      grind
    · rw [z2, q1 z1]
      generalize (oN σ s 0 : Int) = o0
      generalize (oN σ s 1 : Int) = o1
      simp only [Int.natCast_zero, Int.ofNat_zero, Int.mul_zero, Int.zero_mul, Int.zero_add, Int.add_zero, Int.sub_zero]
      grind
  · obtain ⟨a, b, c⟩ := q2 z2
    by_cases z1 : oN σ s 1 = 0
    · rw [b, a, z1]
      generalize (oN σ s 0 : Int) = o0
      generalize (oN σ s 2 : Int) = o2
      simp only [Int.natCast_zero, Int.ofNat_zero, Int.mul_zero, Int.zero_mul, Int.zero_add, Int.add_zero, Int.sub_zero]
      grind
    · rw [b, a, q3 z2 z1, q1 z1, n2]
      generalize (oN σ s 0 : Int) = o0
      generalize (oN σ s 1 : Int) = o1
      generalize (oN σ s 2 : Int) = o2
      grind
theorem oN_le {σ : wS} (O : wOK σ) (s : Nat) {j : Nat} (hj : j < 3) : oN σ s j ≤ 10 := by
  have := (O.1 j hj).2.2
  unfold oN
  split <;> omega
theorem odF_bd {σ : wS} (O : wOK σ) (s x : Nat) : ∀ j, j ≤ 3 → (odF σ s x j).natAbs ≤ 10 ^ j := by
  intro j
  induction j with
  | zero => intro _; exact Nat.le_refl _
  | succ j ih =>
    intro hj
    have h1 := ih (by omega)
    have h2 := oN_le O s (show j < 3 by omega)
    show (odF σ s x j * (if bt x j = true then (oN σ s j : Int) else 10 - (oN σ s j : Int))).natAbs ≤ _
    rw [Int.natAbs_mul, Nat.pow_succ]
    refine Nat.mul_le_mul h1 ?_
    split <;> omega
theorem thF_ok {σ : wS} (O : wOK σ) {s : Nat} (hs : isS σ s = true) (x : Nat) : ∀ j, j ≤ 3 → odF σ s x j ≠ 0 → isS σ (thF x s j) = true ∧ ∀ i, j ≤ i → i < 3 → frI (thF x s j) i = frI s i := by
  intro j
  induction j with
  | zero => intro _ _; exact ⟨hs, fun i _ _ => rfl⟩
  | succ j ih =>
    intro hj hne
    have e : odF σ s x (j + 1) = odF σ s x j * (if bt x j = true then (oN σ s j : Int) else 10 - (oN σ s j : Int)) := rfl
    rw [e] at hne
    have h1 : odF σ s x j ≠ 0 := fun z => hne (by rw [z, Int.zero_mul])
    obtain ⟨a, b⟩ := ih (by omega) h1
    have et : thF x s (j + 1) = thF x s j + (if bt x j = true then stp j else 0) := rfl
    rw [et]
    by_cases c : bt x j = true
    · rw [if_pos c] at hne ⊢
      have h2 : oN σ s j ≠ 0 := fun z => hne (by rw [z, show ((0 : Nat) : Int) = 0 from rfl, Int.mul_zero])
      have hf : frI s j < sBx σ j := by
        by_cases z : frI s j < sBx σ j
        · exact z
        · exfalso; apply h2; unfold oN; rw [if_neg z]
      have hf2 : frI (thF x s j) j < sBx σ j := by rw [b j (Nat.le_refl _) (by omega)]; exact hf
      have := (O.1 j (by omega)).2.1
      obtain ⟨p, q⟩ := fr_add (isS_lt a) j (by omega) (by omega)
      refine ⟨isS_add O a (by omega) hf2, fun i hi hi3 => ?_⟩
      rw [q i hi3, if_neg (by omega)]
      exact b i (by omega) hi3
    · rw [if_neg c, Nat.add_zero]
      exact ⟨a, fun i hi hi3 => b i (by omega) hi3⟩
section FETCH
variable {d : Nat} {ci : Nat → Nat → Int32} {cj : Nat → Nat → Int64} {g : am_G} {Q : Option Value → am_H → Prop} {m : Nat} {σ : wS}
theorem l_189a (H : mo g m) (O : wOK σ) (hw : mW ci m σ) {l : Option Nat} (hl : okl l) {j : Nat} (hj : j < 3) {t1 t3 t4 t5 t6 t7 t8 t10 t11 : Value} : X (d + 1) 189 (am_bk 189 2) [.ref m, t1, .int (lv l), t3, t4, t5, t6, t7, t8, .int (nI j), t10, t11] [] (ci, cj, g) Q ↔ X (d + 1) 189 (am_bk 189 5) [.ref m, t1, .int (lv l), t3, t4, t5, t6, t7, t8, .int (nI j), t10, t11] [.int (nI (sGo (lw σ l) j))] (ci, cj, g) Q := by
  have h3 : ¬ (3 : Int32) ≤ nI j := nI_ge (b := 3) hj (by decide)
  have h3n : ¬ nI 3 ≤ nI j := h3
  have hg := (O.1 j hj).2.2
  rw [bk_189_2]
  cases l with
  | none =>
    have e : ¬ nI j = lv none := nI_m1 (show j < 2147483648 by omega)
    simp only [bq_189_2, bk_189_4, bq_189_4, G_49, G_47, G_66, X_push, X_goto, X_fall, X_ifeq, X_ifne, X_iflt, X_ifge, X_ifgt, X_ifle, X_iceq, X_icne, X_iclt, X_icge, X_icgt, X_icle, X_ifnull, X_ifnonnull, X_switch, X_ireturn, X_lreturn, X_areturn, X_return, X_zreturn, X_iload, X_lload, X_aload, X_istore, X_astore, X_lstore, X_iinc, X_iadd, X_isub, X_imul, X_idiv, X_irem, X_iand, X_ior, X_ishl, X_ishr, X_iushr, X_ladd, X_lsub, X_lmul, X_ldiv, X_land, X_lor, X_lshl, X_lcmp, X_ineg, X_i2l, X_l2i, X_i2b, X_i2s, X_i2c, X_dupr, X_dupi, X_dup_x1, X_dup2, X_popi, X_popr, X_iaload, X_baload, X_laload, X_aaload, X_iastore, X_bastore, X_lastore, X_aastore, X_arraylength, am_wt_0, am_wt_int, am_wt_long, am_wt_ref, List.getElem?_cons_zero, List.getElem?_cons_succ, am_s1, am_s2, am_kill, List.set_cons_zero, List.set_cons_succ, List.length_cons, List.length_nil, Int.reduceToNat, Nat.reduceAdd, Nat.reduceLeDiff, Nat.reduceLT, Option.toList_some, Option.toList_none, List.cons_append, List.nil_append, true_and, and_true, true_or, or_true, false_or, or_false, and_self, false_and, not_false_eq_true, not_true_eq_false, mo_k H, mo_r0 H, mo_r1 H, mo_r2 H, mo_r3 H, mo_r4 H, mo_r5 H, mo_r6 H, mo_r7 H, mo_r9 H, mo_r10 H, mo_r11 H, mo_r12 H, mo_r14 H, mo_r15 H, mo_r16 H, mo_r25 H, mo_r27 H, mo_r28 H, mo_r29 H, mo_r30 H, mo_r31 H, mo_r32 H, mo_a1 H, mo_n1 H, mo_a2 H, mo_n2 H, mo_a3 H, mo_n3 H, mo_a4 H, mo_n4 H, mo_a13 H, mo_n13 H, mo_a14 H, mo_n14 H, mo_a15 H, mo_n15 H, mo_a16 H, mo_n16 H, mo_a17 H, mo_n17 H, mo_a18 H, mo_n18 H, mo_a19 H, mo_n19 H, mo_a20 H, mo_n20 H, mo_a21 H, mo_n21 H, mo_a28 H, mo_n28 H, mo_a29 H, mo_n29 H, mo_a30 H, mo_n30 H, mo_a31 H, mo_n31 H, mo_a38 H, mo_n38 H, mo_a64 H, mo_n64 H, mo_a65 H, mo_n65 H, mo_a66 H, mo_n66 H, mo_a67 H, mo_n67 H, h3, if_false, e, not_false_eq_true, if_true, in_nI hj (show 3 < 2 ^ 31 by decide), tn_nI (show j < 2 ^ 31 by omega), mW_go hw hj]
    exact Iff.rfl
  | some q =>
    by_cases z : j = q
    · subst z
      have e : nI j = lv (some j) := rfl
      have es : sGo (lw σ (some j)) j = if sGo σ j + 3 < 10 then sGo σ j + 3 else 10 := am_u1_s _ _ _
      rw [es]
      by_cases c : sGo σ j + 3 ≤ 10
      · have c' : nI (sGo σ j + 3) ≤ nI 10 := by rw [nI_lei (by omega) (by omega)]; exact c
        have ee : (if sGo σ j + 3 < 10 then sGo σ j + 3 else 10) = sGo σ j + 3 := by split <;> omega
        rw [ee]
        simp only [bq_189_2, bk_189_3, bq_189_3, G_49, G_47, G_66, X_push, X_goto, X_fall, X_ifeq, X_ifne, X_iflt, X_ifge, X_ifgt, X_ifle, X_iceq, X_icne, X_iclt, X_icge, X_icgt, X_icle, X_ifnull, X_ifnonnull, X_switch, X_ireturn, X_lreturn, X_areturn, X_return, X_zreturn, X_iload, X_lload, X_aload, X_istore, X_astore, X_lstore, X_iinc, X_iadd, X_isub, X_imul, X_idiv, X_irem, X_iand, X_ior, X_ishl, X_ishr, X_iushr, X_ladd, X_lsub, X_lmul, X_ldiv, X_land, X_lor, X_lshl, X_lcmp, X_ineg, X_i2l, X_l2i, X_i2b, X_i2s, X_i2c, X_dupr, X_dupi, X_dup_x1, X_dup2, X_popi, X_popr, X_iaload, X_baload, X_laload, X_aaload, X_iastore, X_bastore, X_lastore, X_aastore, X_arraylength, am_wt_0, am_wt_int, am_wt_long, am_wt_ref, List.getElem?_cons_zero, List.getElem?_cons_succ, am_s1, am_s2, am_kill, List.set_cons_zero, List.set_cons_succ, List.length_cons, List.length_nil, Int.reduceToNat, Nat.reduceAdd, Nat.reduceLeDiff, Nat.reduceLT, Option.toList_some, Option.toList_none, List.cons_append, List.nil_append, true_and, and_true, true_or, or_true, false_or, or_false, and_self, false_and, not_false_eq_true, not_true_eq_false, mo_k H, mo_r0 H, mo_r1 H, mo_r2 H, mo_r3 H, mo_r4 H, mo_r5 H, mo_r6 H, mo_r7 H, mo_r9 H, mo_r10 H, mo_r11 H, mo_r12 H, mo_r14 H, mo_r15 H, mo_r16 H, mo_r25 H, mo_r27 H, mo_r28 H, mo_r29 H, mo_r30 H, mo_r31 H, mo_r32 H, mo_a1 H, mo_n1 H, mo_a2 H, mo_n2 H, mo_a3 H, mo_n3 H, mo_a4 H, mo_n4 H, mo_a13 H, mo_n13 H, mo_a14 H, mo_n14 H, mo_a15 H, mo_n15 H, mo_a16 H, mo_n16 H, mo_a17 H, mo_n17 H, mo_a18 H, mo_n18 H, mo_a19 H, mo_n19 H, mo_a20 H, mo_n20 H, mo_a21 H, mo_n21 H, mo_a28 H, mo_n28 H, mo_a29 H, mo_n29 H, mo_a30 H, mo_n30 H, mo_a31 H, mo_n31 H, mo_a38 H, mo_n38 H, mo_a64 H, mo_n64 H, mo_a65 H, mo_n65 H, mo_a66 H, mo_n66 H, mo_a67 H, mo_n67 H, h3, if_false, ← e, not_true_eq_false, in_nI hj (show 3 < 2 ^ 31 by decide), tn_nI (show j < 2 ^ 31 by omega), mW_go hw hj, lit_3, h3n, lit_10, nI_add, c', if_true]
      · have c' : ¬ nI (sGo σ j + 3) ≤ nI 10 := by rw [nI_lei (by omega) (by omega)]; exact c
        have ee : (if sGo σ j + 3 < 10 then sGo σ j + 3 else 10) = 10 := by split <;> omega
        rw [ee]
        simp only [bq_189_2, G_49, G_47, G_66, X_push, X_goto, X_fall, X_ifeq, X_ifne, X_iflt, X_ifge, X_ifgt, X_ifle, X_iceq, X_icne, X_iclt, X_icge, X_icgt, X_icle, X_ifnull, X_ifnonnull, X_switch, X_ireturn, X_lreturn, X_areturn, X_return, X_zreturn, X_iload, X_lload, X_aload, X_istore, X_astore, X_lstore, X_iinc, X_iadd, X_isub, X_imul, X_idiv, X_irem, X_iand, X_ior, X_ishl, X_ishr, X_iushr, X_ladd, X_lsub, X_lmul, X_ldiv, X_land, X_lor, X_lshl, X_lcmp, X_ineg, X_i2l, X_l2i, X_i2b, X_i2s, X_i2c, X_dupr, X_dupi, X_dup_x1, X_dup2, X_popi, X_popr, X_iaload, X_baload, X_laload, X_aaload, X_iastore, X_bastore, X_lastore, X_aastore, X_arraylength, am_wt_0, am_wt_int, am_wt_long, am_wt_ref, List.getElem?_cons_zero, List.getElem?_cons_succ, am_s1, am_s2, am_kill, List.set_cons_zero, List.set_cons_succ, List.length_cons, List.length_nil, Int.reduceToNat, Nat.reduceAdd, Nat.reduceLeDiff, Nat.reduceLT, Option.toList_some, Option.toList_none, List.cons_append, List.nil_append, true_and, and_true, true_or, or_true, false_or, or_false, and_self, false_and, not_false_eq_true, not_true_eq_false, mo_k H, mo_r0 H, mo_r1 H, mo_r2 H, mo_r3 H, mo_r4 H, mo_r5 H, mo_r6 H, mo_r7 H, mo_r9 H, mo_r10 H, mo_r11 H, mo_r12 H, mo_r14 H, mo_r15 H, mo_r16 H, mo_r25 H, mo_r27 H, mo_r28 H, mo_r29 H, mo_r30 H, mo_r31 H, mo_r32 H, mo_a1 H, mo_n1 H, mo_a2 H, mo_n2 H, mo_a3 H, mo_n3 H, mo_a4 H, mo_n4 H, mo_a13 H, mo_n13 H, mo_a14 H, mo_n14 H, mo_a15 H, mo_n15 H, mo_a16 H, mo_n16 H, mo_a17 H, mo_n17 H, mo_a18 H, mo_n18 H, mo_a19 H, mo_n19 H, mo_a20 H, mo_n20 H, mo_a21 H, mo_n21 H, mo_a28 H, mo_n28 H, mo_a29 H, mo_n29 H, mo_a30 H, mo_n30 H, mo_a31 H, mo_n31 H, mo_a38 H, mo_n38 H, mo_a64 H, mo_n64 H, mo_a65 H, mo_n65 H, mo_a66 H, mo_n66 H, mo_a67 H, mo_n67 H, h3, if_false, ← e, not_true_eq_false, in_nI hj (show 3 < 2 ^ 31 by decide), tn_nI (show j < 2 ^ 31 by omega), mW_go hw hj, lit_3, h3n, lit_10, nI_add, c']
    · have hq := hl q rfl
      have e : ¬ nI j = lv (some q) := by
        show ¬ nI j = nI q
        rw [nI_eqi (by omega) (by omega)]; exact z
      have es : sGo (lw σ (some q)) j = sGo σ j := am_u1_n _ _ z
      rw [es]
      simp only [bq_189_2, bk_189_4, bq_189_4, G_49, G_47, G_66, X_push, X_goto, X_fall, X_ifeq, X_ifne, X_iflt, X_ifge, X_ifgt, X_ifle, X_iceq, X_icne, X_iclt, X_icge, X_icgt, X_icle, X_ifnull, X_ifnonnull, X_switch, X_ireturn, X_lreturn, X_areturn, X_return, X_zreturn, X_iload, X_lload, X_aload, X_istore, X_astore, X_lstore, X_iinc, X_iadd, X_isub, X_imul, X_idiv, X_irem, X_iand, X_ior, X_ishl, X_ishr, X_iushr, X_ladd, X_lsub, X_lmul, X_ldiv, X_land, X_lor, X_lshl, X_lcmp, X_ineg, X_i2l, X_l2i, X_i2b, X_i2s, X_i2c, X_dupr, X_dupi, X_dup_x1, X_dup2, X_popi, X_popr, X_iaload, X_baload, X_laload, X_aaload, X_iastore, X_bastore, X_lastore, X_aastore, X_arraylength, am_wt_0, am_wt_int, am_wt_long, am_wt_ref, List.getElem?_cons_zero, List.getElem?_cons_succ, am_s1, am_s2, am_kill, List.set_cons_zero, List.set_cons_succ, List.length_cons, List.length_nil, Int.reduceToNat, Nat.reduceAdd, Nat.reduceLeDiff, Nat.reduceLT, Option.toList_some, Option.toList_none, List.cons_append, List.nil_append, true_and, and_true, true_or, or_true, false_or, or_false, and_self, false_and, not_false_eq_true, not_true_eq_false, mo_k H, mo_r0 H, mo_r1 H, mo_r2 H, mo_r3 H, mo_r4 H, mo_r5 H, mo_r6 H, mo_r7 H, mo_r9 H, mo_r10 H, mo_r11 H, mo_r12 H, mo_r14 H, mo_r15 H, mo_r16 H, mo_r25 H, mo_r27 H, mo_r28 H, mo_r29 H, mo_r30 H, mo_r31 H, mo_r32 H, mo_a1 H, mo_n1 H, mo_a2 H, mo_n2 H, mo_a3 H, mo_n3 H, mo_a4 H, mo_n4 H, mo_a13 H, mo_n13 H, mo_a14 H, mo_n14 H, mo_a15 H, mo_n15 H, mo_a16 H, mo_n16 H, mo_a17 H, mo_n17 H, mo_a18 H, mo_n18 H, mo_a19 H, mo_n19 H, mo_a20 H, mo_n20 H, mo_a21 H, mo_n21 H, mo_a28 H, mo_n28 H, mo_a29 H, mo_n29 H, mo_a30 H, mo_n30 H, mo_a31 H, mo_n31 H, mo_a38 H, mo_n38 H, mo_a64 H, mo_n64 H, mo_a65 H, mo_n65 H, mo_a66 H, mo_n66 H, mo_a67 H, mo_n67 H, h3, if_false, e, not_false_eq_true, if_true, in_nI hj (show 3 < 2 ^ 31 by decide), tn_nI (show j < 2 ^ 31 by omega), mW_go hw hj]
theorem l_189b (H : mo g m) (O : wOK σ) (hw : mW ci m σ) {s j o : Nat} (hs : isS σ s = true) (hj : j < 3) {t2 t3 t4 t5 t6 t7 t8 t10 t11 : Value} : X (d + 1) 189 (am_bk 189 5) [.ref m, .int (nI s), t2, t3, t4, t5, t6, t7, t8, .int (nI j), t10, t11] [.int (nI o)] (ci, cj, g) Q ↔ X (d + 1) 189 (am_bk 189 7) [.ref m, .int (nI s), t2, t3, t4, t5, t6, t7, t8, .int (nI j), .int (nI o), t11] [.int (nI (if frI s j < sBx σ j then o else 0))] (ci, cj, g) Q := by
  have h125 := isS_lt hs
  have hb := (O.1 j hj).2.1
  have hf := frI_lt s j
  have hle : frI s j ≤ sBx σ j := by
    obtain ⟨_, a, b, c⟩ := isS_iff.mp hs
    exact three (M := fun j => frI s j ≤ sBx σ j) a b c j hj
  by_cases z : frI s j < sBx σ j
  · have z' : ¬ nI (frI s j) = nI (sBx σ j) := by rw [nI_eqi (by omega) (by omega)]; omega
    rw [if_pos z]
    simp only [bk_189_5, bq_189_5, bk_189_6, bq_189_6, G_49, G_47, G_66, X_push, X_goto, X_fall, X_ifeq, X_ifne, X_iflt, X_ifge, X_ifgt, X_ifle, X_iceq, X_icne, X_iclt, X_icge, X_icgt, X_icle, X_ifnull, X_ifnonnull, X_switch, X_ireturn, X_lreturn, X_areturn, X_return, X_zreturn, X_iload, X_lload, X_aload, X_istore, X_astore, X_lstore, X_iinc, X_iadd, X_isub, X_imul, X_idiv, X_irem, X_iand, X_ior, X_ishl, X_ishr, X_iushr, X_ladd, X_lsub, X_lmul, X_ldiv, X_land, X_lor, X_lshl, X_lcmp, X_ineg, X_i2l, X_l2i, X_i2b, X_i2s, X_i2c, X_dupr, X_dupi, X_dup_x1, X_dup2, X_popi, X_popr, X_iaload, X_baload, X_laload, X_aaload, X_iastore, X_bastore, X_lastore, X_aastore, X_arraylength, am_wt_0, am_wt_int, am_wt_long, am_wt_ref, List.getElem?_cons_zero, List.getElem?_cons_succ, am_s1, am_s2, am_kill, List.set_cons_zero, List.set_cons_succ, List.length_cons, List.length_nil, Int.reduceToNat, Nat.reduceAdd, Nat.reduceLeDiff, Nat.reduceLT, Option.toList_some, Option.toList_none, List.cons_append, List.nil_append, true_and, and_true, true_or, or_true, false_or, or_false, and_self, false_and, not_false_eq_true, not_true_eq_false, mo_k H, mo_r0 H, mo_r1 H, mo_r2 H, mo_r3 H, mo_r4 H, mo_r5 H, mo_r6 H, mo_r7 H, mo_r9 H, mo_r10 H, mo_r11 H, mo_r12 H, mo_r14 H, mo_r15 H, mo_r16 H, mo_r25 H, mo_r27 H, mo_r28 H, mo_r29 H, mo_r30 H, mo_r31 H, mo_r32 H, mo_a1 H, mo_n1 H, mo_a2 H, mo_n2 H, mo_a3 H, mo_n3 H, mo_a4 H, mo_n4 H, mo_a13 H, mo_n13 H, mo_a14 H, mo_n14 H, mo_a15 H, mo_n15 H, mo_a16 H, mo_n16 H, mo_a17 H, mo_n17 H, mo_a18 H, mo_n18 H, mo_a19 H, mo_n19 H, mo_a20 H, mo_n20 H, mo_a21 H, mo_n21 H, mo_a28 H, mo_n28 H, mo_a29 H, mo_n29 H, mo_a30 H, mo_n30 H, mo_a31 H, mo_n31 H, mo_a38 H, mo_n38 H, mo_a64 H, mo_n64 H, mo_a65 H, mo_n65 H, mo_a66 H, mo_n66 H, mo_a67 H, mo_n67 H, C_143, c_143 h125 hj, in_nI hj (show 3 < 2 ^ 31 by decide), tn_nI (show j < 2 ^ 31 by omega), mW_bx hw hj, z', not_false_eq_true, if_true]
  · have z' : nI (frI s j) = nI (sBx σ j) := by rw [nI_eqi (by omega) (by omega)]; omega
    rw [if_neg z]
    simp only [bk_189_5, bq_189_5, G_49, G_47, G_66, X_push, X_goto, X_fall, X_ifeq, X_ifne, X_iflt, X_ifge, X_ifgt, X_ifle, X_iceq, X_icne, X_iclt, X_icge, X_icgt, X_icle, X_ifnull, X_ifnonnull, X_switch, X_ireturn, X_lreturn, X_areturn, X_return, X_zreturn, X_iload, X_lload, X_aload, X_istore, X_astore, X_lstore, X_iinc, X_iadd, X_isub, X_imul, X_idiv, X_irem, X_iand, X_ior, X_ishl, X_ishr, X_iushr, X_ladd, X_lsub, X_lmul, X_ldiv, X_land, X_lor, X_lshl, X_lcmp, X_ineg, X_i2l, X_l2i, X_i2b, X_i2s, X_i2c, X_dupr, X_dupi, X_dup_x1, X_dup2, X_popi, X_popr, X_iaload, X_baload, X_laload, X_aaload, X_iastore, X_bastore, X_lastore, X_aastore, X_arraylength, am_wt_0, am_wt_int, am_wt_long, am_wt_ref, List.getElem?_cons_zero, List.getElem?_cons_succ, am_s1, am_s2, am_kill, List.set_cons_zero, List.set_cons_succ, List.length_cons, List.length_nil, Int.reduceToNat, Nat.reduceAdd, Nat.reduceLeDiff, Nat.reduceLT, Option.toList_some, Option.toList_none, List.cons_append, List.nil_append, true_and, and_true, true_or, or_true, false_or, or_false, and_self, false_and, not_false_eq_true, not_true_eq_false, mo_k H, mo_r0 H, mo_r1 H, mo_r2 H, mo_r3 H, mo_r4 H, mo_r5 H, mo_r6 H, mo_r7 H, mo_r9 H, mo_r10 H, mo_r11 H, mo_r12 H, mo_r14 H, mo_r15 H, mo_r16 H, mo_r25 H, mo_r27 H, mo_r28 H, mo_r29 H, mo_r30 H, mo_r31 H, mo_r32 H, mo_a1 H, mo_n1 H, mo_a2 H, mo_n2 H, mo_a3 H, mo_n3 H, mo_a4 H, mo_n4 H, mo_a13 H, mo_n13 H, mo_a14 H, mo_n14 H, mo_a15 H, mo_n15 H, mo_a16 H, mo_n16 H, mo_a17 H, mo_n17 H, mo_a18 H, mo_n18 H, mo_a19 H, mo_n19 H, mo_a20 H, mo_n20 H, mo_a21 H, mo_n21 H, mo_a28 H, mo_n28 H, mo_a29 H, mo_n29 H, mo_a30 H, mo_n30 H, mo_a31 H, mo_n31 H, mo_a38 H, mo_n38 H, mo_a64 H, mo_n64 H, mo_a65 H, mo_n65 H, mo_a66 H, mo_n66 H, mo_a67 H, mo_n67 H, C_143, c_143 h125 hj, in_nI hj (show 3 < 2 ^ 31 by decide), tn_nI (show j < 2 ^ 31 by omega), mW_bx hw hj, z', not_true_eq_false, if_false]
    rfl
theorem l_189c {o x j h : Nat} {z : Int} (ho : o ≤ 10) (hj : j < 3) {t0 t1 t2 t3 t4 t10 : Value} {k : ∀ (u v : Value) , Prop} : (∀ u v : Value, X (d + 1) 189 (am_bk 189 2) [t0, t1, t2, t3, t4, .int (nI x), .long (jI (z * (if bt x j = true then (o : Int) else 10 - (o : Int)))), .null, .int (nI (h + (if bt x j = true then stp j else 0))), .int (nI (j + 1)), u, v] [] (ci, cj, g) Q) → ∀ t11, X (d + 1) 189 (am_bk 189 7) [t0, t1, t2, t3, t4, .int (nI x), .long (jI z), .null, .int (nI h), .int (nI j), t10, t11] [.int (nI o)] (ci, cj, g) Q := by
  intro kk t11
  by_cases c : bt x j = true
  · have c1 := bt_t c
    rw [if_pos c, if_pos c] at kk
    simp only [bk_189_7, bq_189_7, bk_189_9, bq_189_9, bk_189_11, bq_189_11, bk_189_13, bq_189_13, X_push, X_goto, X_fall, X_ifeq, X_ifne, X_iflt, X_ifge, X_ifgt, X_ifle, X_iceq, X_icne, X_iclt, X_icge, X_icgt, X_icle, X_ifnull, X_ifnonnull, X_switch, X_ireturn, X_lreturn, X_areturn, X_return, X_zreturn, X_iload, X_lload, X_aload, X_istore, X_astore, X_lstore, X_iinc, X_iadd, X_isub, X_imul, X_idiv, X_irem, X_iand, X_ior, X_ishl, X_ishr, X_iushr, X_ladd, X_lsub, X_lmul, X_ldiv, X_land, X_lor, X_lshl, X_lcmp, X_ineg, X_i2l, X_l2i, X_i2b, X_i2s, X_i2c, X_dupr, X_dupi, X_dup_x1, X_dup2, X_popi, X_popr, X_iaload, X_baload, X_laload, X_aaload, X_iastore, X_bastore, X_lastore, X_aastore, X_arraylength, am_wt_0, am_wt_int, am_wt_long, am_wt_ref, List.getElem?_cons_zero, List.getElem?_cons_succ, am_s1, am_s2, am_kill, List.set_cons_zero, List.set_cons_succ, List.length_cons, List.length_nil, Int.reduceToNat, Nat.reduceAdd, Nat.reduceLeDiff, Nat.reduceLT, Option.toList_some, Option.toList_none, List.cons_append, List.nil_append, true_and, and_true, true_or, or_true, false_or, or_false, and_self, false_and, not_false_eq_true, not_true_eq_false, c1, if_false, i10, nI_j (show o < 2147483648 by omega), jI_mul, C_144, c_144 hj, nI_add, oi_1]
    exact kk _ _
  · have c1 := bt_f c
    rw [if_neg c, if_neg c] at kk
    have l0 : nI h + (0 : Int32) = nI (h + 0) := by rw [lit_0, nI_add]
    simp only [bk_189_7, bq_189_7, bk_189_8, bq_189_8, bk_189_9, bq_189_9, bk_189_10, bq_189_10, bk_189_11, bq_189_11, bk_189_12, bq_189_12, bk_189_13, bq_189_13, X_push, X_goto, X_fall, X_ifeq, X_ifne, X_iflt, X_ifge, X_ifgt, X_ifle, X_iceq, X_icne, X_iclt, X_icge, X_icgt, X_icle, X_ifnull, X_ifnonnull, X_switch, X_ireturn, X_lreturn, X_areturn, X_return, X_zreturn, X_iload, X_lload, X_aload, X_istore, X_astore, X_lstore, X_iinc, X_iadd, X_isub, X_imul, X_idiv, X_irem, X_iand, X_ior, X_ishl, X_ishr, X_iushr, X_ladd, X_lsub, X_lmul, X_ldiv, X_land, X_lor, X_lshl, X_lcmp, X_ineg, X_i2l, X_l2i, X_i2b, X_i2s, X_i2c, X_dupr, X_dupi, X_dup_x1, X_dup2, X_popi, X_popr, X_iaload, X_baload, X_laload, X_aaload, X_iastore, X_bastore, X_lastore, X_aastore, X_arraylength, am_wt_0, am_wt_int, am_wt_long, am_wt_ref, List.getElem?_cons_zero, List.getElem?_cons_succ, am_s1, am_s2, am_kill, List.set_cons_zero, List.set_cons_succ, List.length_cons, List.length_nil, Int.reduceToNat, Nat.reduceAdd, Nat.reduceLeDiff, Nat.reduceLT, Option.toList_some, Option.toList_none, List.cons_append, List.nil_append, true_and, and_true, true_or, or_true, false_or, or_false, and_self, false_and, not_false_eq_true, not_true_eq_false, c1, if_true, sub10 ho, jI_mul, l0, oi_1, nI_add]
    exact kk _ _
/-- fetched(state, letter) -/
theorem c_189 (H : mo g m) (O : wOK σ) (hw : mW ci m σ) {s : Nat} (hs : isS σ s = true) {l : Option Nat} (hl : okl l) {B : Nat → Int} (hB : hV (m + 64) σ cj B) (q : Q (some (.long (jI (ftc (lw σ l) B s)))) (ci, cj, g)) : X (d + 1) 189 (am_bk 189 0) [.ref m, .int (nI s), .int (lv l), .null, .null, .null, .null, .null, .null, .null, .null, .null] [] (ci, cj, g) Q := by
  have h125 := isS_lt hs
  have Ol := lw_ok O l
  have lg := lw_go σ l
  have hsl : isS (lw σ l) s = true := by rw [wGo_isS lg]; exact hs
  rw [← ftc_fs Ol B h125] at q
  simp only [bk_189_0, bq_189_0, X_push, X_goto, X_fall, X_ifeq, X_ifne, X_iflt, X_ifge, X_ifgt, X_ifle, X_iceq, X_icne, X_iclt, X_icge, X_icgt, X_icle, X_ifnull, X_ifnonnull, X_switch, X_ireturn, X_lreturn, X_areturn, X_return, X_zreturn, X_iload, X_lload, X_aload, X_istore, X_astore, X_lstore, X_iinc, X_iadd, X_isub, X_imul, X_idiv, X_irem, X_iand, X_ior, X_ishl, X_ishr, X_iushr, X_ladd, X_lsub, X_lmul, X_ldiv, X_land, X_lor, X_lshl, X_lcmp, X_ineg, X_i2l, X_l2i, X_i2b, X_i2s, X_i2c, X_dupr, X_dupi, X_dup_x1, X_dup2, X_popi, X_popr, X_iaload, X_baload, X_laload, X_aaload, X_iastore, X_bastore, X_lastore, X_aastore, X_arraylength, am_wt_0, am_wt_int, am_wt_long, am_wt_ref, List.getElem?_cons_zero, List.getElem?_cons_succ, am_s1, am_s2, am_kill, List.set_cons_zero, List.set_cons_succ, List.length_cons, List.length_nil, Int.reduceToNat, Nat.reduceAdd, Nat.reduceLeDiff, Nat.reduceLT, Option.toList_some, Option.toList_none, List.cons_append, List.nil_append, true_and, and_true, true_or, or_true, false_or, or_false, and_self, false_and, not_false_eq_true, not_true_eq_false]
  refine up_ind (M := fun x => ∀ t6 t7 t8 t9 t10 t11 : Value, X (d + 1) 189 (am_bk 189 1) [.ref m, .int (nI s), .int (lv l), .long (jI (fsF (lw σ l) B s x)), .null, .int (nI x), t6, t7, t8, t9, t10, t11] [] (ci, cj, g) Q) (n := 8) ?_ ?_ 0 (by decide) _ _ _ _ _ _
  · intro t6 t7 t8 t9 t10 t11
    rw [bk_189_1]
    simp only [bq_189_1, bk_189_17, bq_189_17, X_push, X_goto, X_fall, X_ifeq, X_ifne, X_iflt, X_ifge, X_ifgt, X_ifle, X_iceq, X_icne, X_iclt, X_icge, X_icgt, X_icle, X_ifnull, X_ifnonnull, X_switch, X_ireturn, X_lreturn, X_areturn, X_return, X_zreturn, X_iload, X_lload, X_aload, X_istore, X_astore, X_lstore, X_iinc, X_iadd, X_isub, X_imul, X_idiv, X_irem, X_iand, X_ior, X_ishl, X_ishr, X_iushr, X_ladd, X_lsub, X_lmul, X_ldiv, X_land, X_lor, X_lshl, X_lcmp, X_ineg, X_i2l, X_l2i, X_i2b, X_i2s, X_i2c, X_dupr, X_dupi, X_dup_x1, X_dup2, X_popi, X_popr, X_iaload, X_baload, X_laload, X_aaload, X_iastore, X_bastore, X_lastore, X_aastore, X_arraylength, am_wt_0, am_wt_int, am_wt_long, am_wt_ref, List.getElem?_cons_zero, List.getElem?_cons_succ, am_s1, am_s2, am_kill, List.set_cons_zero, List.set_cons_succ, List.length_cons, List.length_nil, Int.reduceToNat, Nat.reduceAdd, Nat.reduceLeDiff, Nat.reduceLT, Option.toList_some, Option.toList_none, List.cons_append, List.nil_append, true_and, and_true, true_or, or_true, false_or, or_false, and_self, false_and, not_false_eq_true, not_true_eq_false, lit_8, Int32.le_refl, if_true]
    exact q
  · intro x hx ih t6 t7 t8 t9 t10 t11
    have h8 : ¬ (8 : Int32) ≤ nI x := nI_ge (b := 8) hx (by decide)
    rw [bk_189_1]
    simp only [bq_189_1, X_push, X_goto, X_fall, X_ifeq, X_ifne, X_iflt, X_ifge, X_ifgt, X_ifle, X_iceq, X_icne, X_iclt, X_icge, X_icgt, X_icle, X_ifnull, X_ifnonnull, X_switch, X_ireturn, X_lreturn, X_areturn, X_return, X_zreturn, X_iload, X_lload, X_aload, X_istore, X_astore, X_lstore, X_iinc, X_iadd, X_isub, X_imul, X_idiv, X_irem, X_iand, X_ior, X_ishl, X_ishr, X_iushr, X_ladd, X_lsub, X_lmul, X_ldiv, X_land, X_lor, X_lshl, X_lcmp, X_ineg, X_i2l, X_l2i, X_i2b, X_i2s, X_i2c, X_dupr, X_dupi, X_dup_x1, X_dup2, X_popi, X_popr, X_iaload, X_baload, X_laload, X_aaload, X_iastore, X_bastore, X_lastore, X_aastore, X_arraylength, am_wt_0, am_wt_int, am_wt_long, am_wt_ref, List.getElem?_cons_zero, List.getElem?_cons_succ, am_s1, am_s2, am_kill, List.set_cons_zero, List.set_cons_succ, List.length_cons, List.length_nil, Int.reduceToNat, Nat.reduceAdd, Nat.reduceLeDiff, Nat.reduceLT, Option.toList_some, Option.toList_none, List.cons_append, List.nil_append, true_and, and_true, true_or, or_true, false_or, or_false, and_self, false_and, not_false_eq_true, not_true_eq_false, h8, if_false]
    refine up_ind (M := fun j => ∀ t10 t11 : Value, X (d + 1) 189 (am_bk 189 2) [.ref m, .int (nI s), .int (lv l), .long (jI (fsF (lw σ l) B s x)), .null, .int (nI x), .long (jI (odF (lw σ l) s x j)), .null, .int (nI (thF x s j)), .int (nI j), t10, t11] [] (ci, cj, g) Q) (n := 3) ?_ ?_ 0 (by decide) _ _
    · intro t10 t11
      have bd := odF_bd Ol s x 3 (by decide)
      have e : fsF (lw σ l) B s (x + 1) = fsF (lw σ l) B s x + odF (lw σ l) s x 3 * B (thF x s 3) := rfl
      rw [e] at ih
      rw [bk_189_2]
      by_cases z : odF (lw σ l) s x 3 = 0
      · rw [z, Int.zero_mul, Int.add_zero] at ih
        have z' : jI (odF (lw σ l) s x 3) = 0 := by rw [z]; rfl
        have l0 : jI (fsF (lw σ l) B s x) + (0 : Int64) = jI (fsF (lw σ l) B s x) := Int64.add_zero _
        simp only [bq_189_2, bk_189_14, bq_189_14, bk_189_16, bq_189_16, X_push, X_goto, X_fall, X_ifeq, X_ifne, X_iflt, X_ifge, X_ifgt, X_ifle, X_iceq, X_icne, X_iclt, X_icge, X_icgt, X_icle, X_ifnull, X_ifnonnull, X_switch, X_ireturn, X_lreturn, X_areturn, X_return, X_zreturn, X_iload, X_lload, X_aload, X_istore, X_astore, X_lstore, X_iinc, X_iadd, X_isub, X_imul, X_idiv, X_irem, X_iand, X_ior, X_ishl, X_ishr, X_iushr, X_ladd, X_lsub, X_lmul, X_ldiv, X_land, X_lor, X_lshl, X_lcmp, X_ineg, X_i2l, X_l2i, X_i2b, X_i2s, X_i2c, X_dupr, X_dupi, X_dup_x1, X_dup2, X_popi, X_popr, X_iaload, X_baload, X_laload, X_aaload, X_iastore, X_bastore, X_lastore, X_aastore, X_arraylength, am_wt_0, am_wt_int, am_wt_long, am_wt_ref, List.getElem?_cons_zero, List.getElem?_cons_succ, am_s1, am_s2, am_kill, List.set_cons_zero, List.set_cons_succ, List.length_cons, List.length_nil, Int.reduceToNat, Nat.reduceAdd, Nat.reduceLeDiff, Nat.reduceLT, Option.toList_some, Option.toList_none, List.cons_append, List.nil_append, true_and, and_true, true_or, or_true, false_or, or_false, and_self, false_and, not_false_eq_true, not_true_eq_false, lit_3, Int32.le_refl, if_true, cmp_eq, z', not_true_eq_false, if_false, l0, oi_1, nI_add]
        exact ih _ _ _ _ _ _
      · have z' : ¬ jI (odF (lw σ l) s x 3) = 0 := fun y => z (by
          have := congrArg Int64.toInt y
          rw [jI_ti (by omega) (by omega), tl_0] at this
          exact this)
        obtain ⟨v1, -⟩ := thF_ok Ol hsl x 3 (by decide) z
        rw [wGo_isS lg] at v1
        have v2 := isS_lt v1
        simp only [bq_189_2, bk_189_14, bq_189_14, bk_189_15, bq_189_15, bk_189_16, bq_189_16, G_49, G_47, G_66, X_push, X_goto, X_fall, X_ifeq, X_ifne, X_iflt, X_ifge, X_ifgt, X_ifle, X_iceq, X_icne, X_iclt, X_icge, X_icgt, X_icle, X_ifnull, X_ifnonnull, X_switch, X_ireturn, X_lreturn, X_areturn, X_return, X_zreturn, X_iload, X_lload, X_aload, X_istore, X_astore, X_lstore, X_iinc, X_iadd, X_isub, X_imul, X_idiv, X_irem, X_iand, X_ior, X_ishl, X_ishr, X_iushr, X_ladd, X_lsub, X_lmul, X_ldiv, X_land, X_lor, X_lshl, X_lcmp, X_ineg, X_i2l, X_l2i, X_i2b, X_i2s, X_i2c, X_dupr, X_dupi, X_dup_x1, X_dup2, X_popi, X_popr, X_iaload, X_baload, X_laload, X_aaload, X_iastore, X_bastore, X_lastore, X_aastore, X_arraylength, am_wt_0, am_wt_int, am_wt_long, am_wt_ref, List.getElem?_cons_zero, List.getElem?_cons_succ, am_s1, am_s2, am_kill, List.set_cons_zero, List.set_cons_succ, List.length_cons, List.length_nil, Int.reduceToNat, Nat.reduceAdd, Nat.reduceLeDiff, Nat.reduceLT, Option.toList_some, Option.toList_none, List.cons_append, List.nil_append, true_and, and_true, true_or, or_true, false_or, or_false, and_self, false_and, not_false_eq_true, not_true_eq_false, mo_k H, mo_r0 H, mo_r1 H, mo_r2 H, mo_r3 H, mo_r4 H, mo_r5 H, mo_r6 H, mo_r7 H, mo_r9 H, mo_r10 H, mo_r11 H, mo_r12 H, mo_r14 H, mo_r15 H, mo_r16 H, mo_r25 H, mo_r27 H, mo_r28 H, mo_r29 H, mo_r30 H, mo_r31 H, mo_r32 H, mo_a1 H, mo_n1 H, mo_a2 H, mo_n2 H, mo_a3 H, mo_n3 H, mo_a4 H, mo_n4 H, mo_a13 H, mo_n13 H, mo_a14 H, mo_n14 H, mo_a15 H, mo_n15 H, mo_a16 H, mo_n16 H, mo_a17 H, mo_n17 H, mo_a18 H, mo_n18 H, mo_a19 H, mo_n19 H, mo_a20 H, mo_n20 H, mo_a21 H, mo_n21 H, mo_a28 H, mo_n28 H, mo_a29 H, mo_n29 H, mo_a30 H, mo_n30 H, mo_a31 H, mo_n31 H, mo_a38 H, mo_n38 H, mo_a64 H, mo_n64 H, mo_a65 H, mo_n65 H, mo_a66 H, mo_n66 H, mo_a67 H, mo_n67 H, lit_3, Int32.le_refl, if_true, cmp_eq, z', not_false_eq_true, in_nI v2 (show 125 < 2 ^ 31 by decide), tn_nI (show thF x s 3 < 2 ^ 31 by omega), hB _ v1, jI_mul, jI_add, oi_1, nI_add]
        exact ih _ _ _ _ _ _
    · intro j hj ih2 t10 t11
      rw [l_189a H O hw hl hj, l_189b H O hw hs hj]
      have eo : (if frI s j < sBx σ j then sGo (lw σ l) j else 0) = oN (lw σ l) s j := by unfold oN; rw [lg.1]
      rw [eo]
      exact l_189c (k := fun _ _ => True) (oN_le Ol s hj) hj ih2 _
end FETCH
