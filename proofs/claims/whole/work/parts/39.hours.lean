theorem i10 : ((1 : Int32) = 0) = False := eq_false (by decide)
theorem im1 : (-1 : Int32) = iI (-1) := rfl
theorem wR_fr {ci ci' : Nat → Nat → Int32} {w : Nat} {σ : wS} (h : ∀ x, w ≤ x → x ≤ w + 8 → ci' x = ci x) (r : wR ci w σ) : wR ci' w σ := by
  obtain ⟨r1, r2, r3, r4, r5, r6, r7, r8, r9, r10, r11, r12⟩ := r
  refine ⟨?_, ?_, ?_, ?_, ?_, ?_, ?_, ?_, ?_, ?_, ?_, ?_⟩
  · rw [h _ (by omega) (by omega)]; exact r1
  · rw [h _ (by omega) (by omega)]; exact r2
  · rw [h _ (by omega) (by omega)]; exact r3
  · rw [h _ (by omega) (by omega)]; exact r4
  · rw [h _ (by omega) (by omega)]; exact r5
  · rw [h _ (by omega) (by omega)]; exact r6
  · rw [h _ (by omega) (by omega)]; exact r7
  · rw [h _ (by omega) (by omega)]; exact r8
  · rw [h _ (by omega) (by omega)]; exact r9
  · rw [h _ (by omega) (by omega)]; exact r10
  · rw [h _ (by omega) (by omega)]; exact r11
  · rw [h _ (by omega) (by omega)]; exact r12
theorem pkF_pzF {σ : wS} (O : wOK σ) {k s : Nat} (hk : k < sCn σ) (hs : isS σ s = true) {V : Nat → Int} {M : Nat} (hM : M ≤ 10000000000) (hV : bV σ V M) {A : Nat → Int64} (hA : ∀ t, isS σ t = true → A t = jI (V t)) : ∀ (m j : Nat) (q : Int × Int), j + m = 3 → q.2.natAbs ≤ 20000000000 → pkF σ k s A m j (iI q.1, jI q.2) = (iI (pzF σ k s V m j q).1, jI (pzF σ k s V m j q).2) := by
  intro m
  induction m with
  | zero => intro j q _ _; rfl
  | succ m ih =>
    intro j q hj hq
    have h2 := gain_bd O hk
    show pkF σ k s A m (j + 1) (pkS σ k s A j (iI q.1, jI q.2)) = (iI (pzF σ k s V m (j + 1) (pzS σ k s V j q)).1, jI (pzF σ k s V m (j + 1) (pzS σ k s V j q)).2)
    have e : pkS σ k s A j (iI q.1, jI q.2) = (iI (pzS σ k s V j q).1, jI (pzS σ k s V j q).2) ∧ (pzS σ k s V j q).2.natAbs ≤ 20000000000 := by
      unfold pkS pzS
      by_cases hf : 0 < frI s j
      · have hn := (isS_sub hs (show j < 3 by omega) hf).1
        have hb := hV _ hn
        rw [hA _ hn, jI_add]
        dsimp only
        rw [jI_ti (by omega) (by omega), jI_ti (by omega) (by omega)]
        by_cases hc : 0 < frI s j ∧ q.2 < gain σ k + V (s - stp j)
        · rw [if_pos hc, if_pos hc]
          exact ⟨rfl, by dsimp only; omega⟩
        · rw [if_neg hc, if_neg hc]
          exact ⟨rfl, hq⟩
      · rw [if_neg (fun z => hf z.1), if_neg (fun z => hf z.1)]
        exact ⟨rfl, hq⟩
    rw [e.1]
    exact ih (j + 1) _ (by omega) e.2
theorem pk_pz {σ : wS} (O : wOK σ) {k s : Nat} (hk : k < sCn σ) (hs : isS σ s = true) {V : Nat → Int} {M : Nat} (hM : M ≤ 10000000000) (hV : bV σ V M) {A : Nat → Int64} (hA : ∀ t, isS σ t = true → A t = jI (V t)) : pk σ k s A = (iI (pz σ k s V).1, jI (pz σ k s V).2) := by
  have hz := (O.2.2.1 k hk).1
  have h1 := lost_bd O hk
  have h2 := hV s hs
  unfold pk pz
  rw [hA s hs, jI_add, im1]
  exact pkF_pzF O hk hs hM hV hA _ _ (-1, lost σ k + V s) (by omega) (by dsimp only; omega)
/-- what begin makes -/
def hB (σ : wS) (ci : Nat → Nat → Int32) (cj : Nat → Nat → Int64) : Prop := ci 60 5 = nI (cnt σ 125) ∧ (∀ s, isS σ s = true → ci 65 (cnt σ s) = nI s) ∧ (∀ i, i < sCn σ → cj 66 i = jI (lost σ i) ∧ cj 67 i = jI (gain σ i))
def iA (σ : wS) (ci0 : Nat → Nat → Int32) (cj0 : Nat → Nat → Int64) (s : Nat) (ci : Nat → Nat → Int32) (cj : Nat → Nat → Int64) : Prop := (∀ x, x ≠ 60 → x ≠ 65 → ci x = ci0 x) ∧ (∀ x, x ≠ 61 → x ≠ 66 → x ≠ 67 → cj x = cj0 x) ∧ ci 60 5 = nI (cnt σ s) ∧ (∀ t, t < s → isS σ t = true → ci 65 (cnt σ t) = nI t ∧ cj 61 t = 0)
section HOURS
variable {d : Nat} {ci0 : Nat → Nat → Int32} {cj0 : Nat → Nat → Int64} {g : am_G} {Q : Option Value → am_H → Prop} {w : Nat} {σ : wS}
theorem l_86b (H : wo g w) (h60 : w + 8 < 60) (HH : ho g) (O : wOK σ) (hw : wR ci0 w σ) (k : ∀ ci' cj', (∀ x, x ≠ 60 → x ≠ 65 → ci' x = ci0 x) → (∀ x, x ≠ 61 → x ≠ 66 → x ≠ 67 → cj' x = cj0 x) → hB σ ci' cj' → (∀ s, isS σ s = true → cj' 61 s = 0) → Q none (ci', cj', g)) : ∀ i, i ≤ sCn σ → ∀ ci cj, iA σ ci0 cj0 125 ci cj → (∀ j, j < i → cj 66 j = jI (lost σ j) ∧ cj 67 j = jI (gain σ j)) → X (d + 2) 86 (am_bk 86 4) [.ref 60, .ref w, .int (nI i)] [] (ci, cj, g) Q := by
  have hc := O.2.1
  refine up_ind ?_ ?_
  · intro ci cj I L
    obtain ⟨I1, I2, I3, I4⟩ := I
    have hw1 : wR ci w σ := wR_fr (fun x a b => I1 x (by omega) (by omega)) hw
    rw [bk_86_4]
    simp only [bk_86_5, bq_86_5, P_25, G_24, G_25, G_20, G_16, G_26, G_27, bq_86_4, X_push, X_goto, X_fall, X_ifeq, X_ifne, X_iflt, X_ifge, X_ifgt, X_ifle, X_iceq, X_icne, X_iclt, X_icge, X_icgt, X_icle, X_ifnull, X_ifnonnull, X_switch, X_ireturn, X_lreturn, X_areturn, X_return, X_zreturn, X_iload, X_lload, X_aload, X_istore, X_astore, X_lstore, X_iinc, X_iadd, X_isub, X_imul, X_idiv, X_irem, X_iand, X_ior, X_ishl, X_ishr, X_iushr, X_ladd, X_lsub, X_lmul, X_ldiv, X_land, X_lor, X_lshl, X_lcmp, X_ineg, X_i2l, X_l2i, X_i2b, X_i2s, X_i2c, X_dupr, X_dupi, X_dup_x1, X_dup2, X_popi, X_popr, X_iaload, X_baload, X_laload, X_aaload, X_iastore, X_bastore, X_lastore, X_aastore, X_arraylength, am_wt_0, am_wt_int, am_wt_long, am_wt_ref, List.getElem?_cons_zero, List.getElem?_cons_succ, am_s1, am_s2, am_kill, List.set_cons_zero, List.set_cons_succ, List.length_cons, List.length_nil, Int.reduceToNat, Nat.reduceAdd, Nat.reduceLeDiff, Nat.reduceLT, Option.toList_some, Option.toList_none, List.cons_append, List.nil_append, true_and, and_true, true_or, or_true, false_or, or_false, and_self, false_and, not_false_eq_true, not_true_eq_false, wo_k H, wo_r0 H, wo_r1 H, wo_r2 H, wo_r3 H, wo_r4 H, wo_r5 H, wo_r6 H, wo_r7 H, wo_a1 H, wo_n1 H, wo_a2 H, wo_n2 H, wo_a3 H, wo_n3 H, wo_a4 H, wo_n4 H, wo_a5 H, wo_n5 H, wo_a6 H, wo_n6 H, wo_a7 H, wo_n7 H, wo_a8 H, wo_n8 H, hw1.2.2.2.2.2.2.2.2.1, Int32.le_refl, if_true]
    exact k ci cj I1 I2 ⟨I3, fun s hs => (I4 s (isS_lt hs) hs).1, L⟩ (fun s hs => (I4 s (isS_lt hs) hs).2)
  · intro i hi ih ci cj I L
    obtain ⟨I1, I2, I3, I4⟩ := I
    have hw1 : wR ci w σ := wR_fr (fun x a b => I1 x (by omega) (by omega)) hw
    have h1 : ¬ nI (sCn σ) ≤ nI i := nI_ge hi (by omega)
    rw [bk_86_4]
    simp only [bq_86_4, P_25, G_24, G_25, G_20, G_16, G_26, G_27, X_push, X_goto, X_fall, X_ifeq, X_ifne, X_iflt, X_ifge, X_ifgt, X_ifle, X_iceq, X_icne, X_iclt, X_icge, X_icgt, X_icle, X_ifnull, X_ifnonnull, X_switch, X_ireturn, X_lreturn, X_areturn, X_return, X_zreturn, X_iload, X_lload, X_aload, X_istore, X_astore, X_lstore, X_iinc, X_iadd, X_isub, X_imul, X_idiv, X_irem, X_iand, X_ior, X_ishl, X_ishr, X_iushr, X_ladd, X_lsub, X_lmul, X_ldiv, X_land, X_lor, X_lshl, X_lcmp, X_ineg, X_i2l, X_l2i, X_i2b, X_i2s, X_i2c, X_dupr, X_dupi, X_dup_x1, X_dup2, X_popi, X_popr, X_iaload, X_baload, X_laload, X_aaload, X_iastore, X_bastore, X_lastore, X_aastore, X_arraylength, am_wt_0, am_wt_int, am_wt_long, am_wt_ref, List.getElem?_cons_zero, List.getElem?_cons_succ, am_s1, am_s2, am_kill, List.set_cons_zero, List.set_cons_succ, List.length_cons, List.length_nil, Int.reduceToNat, Nat.reduceAdd, Nat.reduceLeDiff, Nat.reduceLT, Option.toList_some, Option.toList_none, List.cons_append, List.nil_append, true_and, and_true, true_or, or_true, false_or, or_false, and_self, false_and, not_false_eq_true, not_true_eq_false, wo_k H, wo_r0 H, wo_r1 H, wo_r2 H, wo_r3 H, wo_r4 H, wo_r5 H, wo_r6 H, wo_r7 H, wo_a1 H, wo_n1 H, wo_a2 H, wo_n2 H, wo_a3 H, wo_n3 H, wo_a4 H, wo_n4 H, wo_a5 H, wo_n5 H, wo_a6 H, wo_n6 H, wo_a7 H, wo_n7 H, wo_a8 H, wo_n8 H, ho_k HH, ho_r0 HH, ho_r1 HH, ho_r2 HH, ho_r3 HH, ho_r4 HH, ho_r6 HH, ho_r7 HH, ho_r8 HH, ho_a1 HH, ho_n1 HH, ho_a2 HH, ho_n2 HH, ho_a3 HH, ho_n3 HH, ho_a4 HH, ho_n4 HH, ho_a5 HH, ho_n5 HH, ho_a6 HH, ho_n6 HH, ho_a7 HH, ho_n7 HH, ho_a8 HH, ho_n8 HH, hw1.2.2.2.2.2.2.2.2.1, h1, if_false, C_78, c_78 H O hw1 hi, C_77, c_77 H O hw1 hi, in_nI (show i < 6 by omega) (show 6 < 2 ^ 31 by decide), tn_nI (show i < 2 ^ 31 by omega), oi_1, nI_add]
    apply ih
    · refine ⟨I1, fun x a b c => ?_, I3, fun t ht hs => ?_⟩
      · rw [u2_a _ _ c, u2_a _ _ b]; exact I2 x a b c
      · rw [u2_a _ _ (by decide), u2_a _ _ (by decide)]; exact I4 t ht hs
    · intro j hj
      rw [u2_a _ _ (show 66 ≠ 67 by decide)]
      by_cases e : j = i
      · rw [e, u2_s, u2_s]; exact ⟨rfl, rfl⟩
      · rw [u2_i _ _ e, u2_i _ _ e, u2_a _ _ (show 67 ≠ 66 by decide)]; exact L j (by omega)
theorem l_86a (G : so g) (S : sc ci0) (H : wo g w) (h60 : w + 8 < 60) (HH : ho g) (O : wOK σ) (hw : wR ci0 w σ) (k : ∀ ci' cj', (∀ x, x ≠ 60 → x ≠ 65 → ci' x = ci0 x) → (∀ x, x ≠ 61 → x ≠ 66 → x ≠ 67 → cj' x = cj0 x) → hB σ ci' cj' → (∀ s, isS σ s = true → cj' 61 s = 0) → Q none (ci', cj', g)) : ∀ s, s ≤ 125 → ∀ ci cj, iA σ ci0 cj0 s ci cj → X (d + 2) 86 (am_bk 86 1) [.ref 60, .ref w, .int (nI s)] [] (ci, cj, g) Q := by
  refine up_ind ?_ ?_
  · intro ci cj I
    rw [bk_86_1]
    simp only [bq_86_1, bk_86_3, bq_86_3, P_25, G_24, G_25, G_20, G_16, G_26, G_27, X_push, X_goto, X_fall, X_ifeq, X_ifne, X_iflt, X_ifge, X_ifgt, X_ifle, X_iceq, X_icne, X_iclt, X_icge, X_icgt, X_icle, X_ifnull, X_ifnonnull, X_switch, X_ireturn, X_lreturn, X_areturn, X_return, X_zreturn, X_iload, X_lload, X_aload, X_istore, X_astore, X_lstore, X_iinc, X_iadd, X_isub, X_imul, X_idiv, X_irem, X_iand, X_ior, X_ishl, X_ishr, X_iushr, X_ladd, X_lsub, X_lmul, X_ldiv, X_land, X_lor, X_lshl, X_lcmp, X_ineg, X_i2l, X_l2i, X_i2b, X_i2s, X_i2c, X_dupr, X_dupi, X_dup_x1, X_dup2, X_popi, X_popr, X_iaload, X_baload, X_laload, X_aaload, X_iastore, X_bastore, X_lastore, X_aastore, X_arraylength, am_wt_0, am_wt_int, am_wt_long, am_wt_ref, List.getElem?_cons_zero, List.getElem?_cons_succ, am_s1, am_s2, am_kill, List.set_cons_zero, List.set_cons_succ, List.length_cons, List.length_nil, Int.reduceToNat, Nat.reduceAdd, Nat.reduceLeDiff, Nat.reduceLT, Option.toList_some, Option.toList_none, List.cons_append, List.nil_append, true_and, and_true, true_or, or_true, false_or, or_false, and_self, false_and, not_false_eq_true, not_true_eq_false, lit_125, Int32.le_refl, if_true]
    exact l_86b H h60 HH O hw k 0 (by omega) ci cj I (fun j hj => absurd hj (by omega))
  · intro s hs ih ci cj I
    obtain ⟨I1, I2, I3, I4⟩ := I
    have hw1 : wR ci w σ := wR_fr (fun x a b => I1 x (by omega) (by omega)) hw
    have S1 : sc ci := sc_fr S (fun x hx => I1 x (by omega) (by omega))
    have h1 : ¬ (125 : Int32) ≤ nI s := nI_ge (b := 125) hs (by decide)
    rw [bk_86_1]
    by_cases h : isS σ s = true
    · have hc := cnt_le σ s
      simp only [bq_86_1, bk_86_2, bq_86_2, P_25, G_24, G_25, G_20, G_16, G_26, G_27, X_push, X_goto, X_fall, X_ifeq, X_ifne, X_iflt, X_ifge, X_ifgt, X_ifle, X_iceq, X_icne, X_iclt, X_icge, X_icgt, X_icle, X_ifnull, X_ifnonnull, X_switch, X_ireturn, X_lreturn, X_areturn, X_return, X_zreturn, X_iload, X_lload, X_aload, X_istore, X_astore, X_lstore, X_iinc, X_iadd, X_isub, X_imul, X_idiv, X_irem, X_iand, X_ior, X_ishl, X_ishr, X_iushr, X_ladd, X_lsub, X_lmul, X_ldiv, X_land, X_lor, X_lshl, X_lcmp, X_ineg, X_i2l, X_l2i, X_i2b, X_i2s, X_i2c, X_dupr, X_dupi, X_dup_x1, X_dup2, X_popi, X_popr, X_iaload, X_baload, X_laload, X_aaload, X_iastore, X_bastore, X_lastore, X_aastore, X_arraylength, am_wt_0, am_wt_int, am_wt_long, am_wt_ref, List.getElem?_cons_zero, List.getElem?_cons_succ, am_s1, am_s2, am_kill, List.set_cons_zero, List.set_cons_succ, List.length_cons, List.length_nil, Int.reduceToNat, Nat.reduceAdd, Nat.reduceLeDiff, Nat.reduceLT, Option.toList_some, Option.toList_none, List.cons_append, List.nil_append, true_and, and_true, true_or, or_true, false_or, or_false, and_self, false_and, not_false_eq_true, not_true_eq_false, wo_k H, wo_r0 H, wo_r1 H, wo_r2 H, wo_r3 H, wo_r4 H, wo_r5 H, wo_r6 H, wo_r7 H, wo_a1 H, wo_n1 H, wo_a2 H, wo_n2 H, wo_a3 H, wo_n3 H, wo_a4 H, wo_n4 H, wo_a5 H, wo_n5 H, wo_a6 H, wo_n6 H, wo_a7 H, wo_n7 H, wo_a8 H, wo_n8 H, ho_k HH, ho_r0 HH, ho_r1 HH, ho_r2 HH, ho_r3 HH, ho_r4 HH, ho_r6 HH, ho_r7 HH, ho_r8 HH, ho_a1 HH, ho_n1 HH, ho_a2 HH, ho_n2 HH, ho_a3 HH, ho_n3 HH, ho_a4 HH, ho_n4 HH, ho_a5 HH, ho_n5 HH, ho_a6 HH, ho_n6 HH, ho_a7 HH, ho_n7 HH, ho_a8 HH, ho_n8 HH, h1, if_false, C_70, c_70 G S1 H O hw1 (show s < 2 ^ 30 by omega), h, bI_t, i10, I3, in_nI (show s < 125 by omega) (show 125 < 2 ^ 31 by decide), tn_nI (show s < 2 ^ 31 by omega), in_nI (show cnt σ s < 125 by omega) (show 125 < 2 ^ 31 by decide), tn_nI (show cnt σ s < 2 ^ 31 by omega), u2_e, Nat.left_eq_add, Nat.add_eq_left, Nat.add_left_cancel_iff, Nat.reduceEqDiff, if_true, if_false, reduceIte, nI_1, oi_1, nI_add]
      apply ih
      refine ⟨fun x a b => ?_, fun x a b c => ?_, ?_, fun t ht hv => ?_⟩
      · rw [u2_a _ _ a, u2_a _ _ b]; exact I1 x a b
      · rw [u2_a _ _ a]; exact I2 x a b c
      · rw [u2_s, cnt_t h]
      · rw [u2_a _ _ (show 65 ≠ 60 by decide)]
        by_cases e : t = s
        · subst e; rw [u2_s, u2_s]; exact ⟨rfl, rfl⟩
        · have : cnt σ t < cnt σ s := cnt_lt hv (by omega)
          rw [u2_i _ _ (by omega), u2_i _ _ e]; exact I4 t (by omega) hv
    · simp only [bq_86_1, bk_86_2, bq_86_2, P_25, G_24, G_25, G_20, G_16, G_26, G_27, X_push, X_goto, X_fall, X_ifeq, X_ifne, X_iflt, X_ifge, X_ifgt, X_ifle, X_iceq, X_icne, X_iclt, X_icge, X_icgt, X_icle, X_ifnull, X_ifnonnull, X_switch, X_ireturn, X_lreturn, X_areturn, X_return, X_zreturn, X_iload, X_lload, X_aload, X_istore, X_astore, X_lstore, X_iinc, X_iadd, X_isub, X_imul, X_idiv, X_irem, X_iand, X_ior, X_ishl, X_ishr, X_iushr, X_ladd, X_lsub, X_lmul, X_ldiv, X_land, X_lor, X_lshl, X_lcmp, X_ineg, X_i2l, X_l2i, X_i2b, X_i2s, X_i2c, X_dupr, X_dupi, X_dup_x1, X_dup2, X_popi, X_popr, X_iaload, X_baload, X_laload, X_aaload, X_iastore, X_bastore, X_lastore, X_aastore, X_arraylength, am_wt_0, am_wt_int, am_wt_long, am_wt_ref, List.getElem?_cons_zero, List.getElem?_cons_succ, am_s1, am_s2, am_kill, List.set_cons_zero, List.set_cons_succ, List.length_cons, List.length_nil, Int.reduceToNat, Nat.reduceAdd, Nat.reduceLeDiff, Nat.reduceLT, Option.toList_some, Option.toList_none, List.cons_append, List.nil_append, true_and, and_true, true_or, or_true, false_or, or_false, and_self, false_and, not_false_eq_true, not_true_eq_false, wo_k H, wo_r0 H, wo_r1 H, wo_r2 H, wo_r3 H, wo_r4 H, wo_r5 H, wo_r6 H, wo_r7 H, wo_a1 H, wo_n1 H, wo_a2 H, wo_n2 H, wo_a3 H, wo_n3 H, wo_a4 H, wo_n4 H, wo_a5 H, wo_n5 H, wo_a6 H, wo_n6 H, wo_a7 H, wo_n7 H, wo_a8 H, wo_n8 H, ho_k HH, ho_r0 HH, ho_r1 HH, ho_r2 HH, ho_r3 HH, ho_r4 HH, ho_r6 HH, ho_r7 HH, ho_r8 HH, ho_a1 HH, ho_n1 HH, ho_a2 HH, ho_n2 HH, ho_a3 HH, ho_n3 HH, ho_a4 HH, ho_n4 HH, ho_a5 HH, ho_n5 HH, ho_a6 HH, ho_n6 HH, ho_a7 HH, ho_n7 HH, ho_a8 HH, ho_n8 HH, h1, if_false, C_70, c_70 G S1 H O hw1 (show s < 2 ^ 30 by omega), h, bI_f, if_true, oi_1, nI_add]
      apply ih
      refine ⟨I1, I2, ?_, fun t ht hv => ?_⟩
      · rw [cnt_f h]; exact I3
      · have : t ≠ s := fun e => h (e ▸ hv)
        exact I4 t (by omega) hv
/-- begin -/
theorem c_86 (G : so g) (S : sc ci0) (H : wo g w) (h60 : w + 8 < 60) (HH : ho g) (O : wOK σ) (hw : wR ci0 w σ) (k : ∀ ci' cj', (∀ x, x ≠ 60 → x ≠ 65 → ci' x = ci0 x) → (∀ x, x ≠ 61 → x ≠ 66 → x ≠ 67 → cj' x = cj0 x) → hB σ ci' cj' → (∀ s, isS σ s = true → cj' 61 s = 0) → Q none (ci', cj', g)) : X (d + 2) 86 (am_bk 86 0) [.ref 60, .ref w, .null] [] (ci0, cj0, g) Q := by
  simp only [bk_86_0, bq_86_0, P_25, G_24, G_25, G_20, G_16, G_26, G_27, X_push, X_goto, X_fall, X_ifeq, X_ifne, X_iflt, X_ifge, X_ifgt, X_ifle, X_iceq, X_icne, X_iclt, X_icge, X_icgt, X_icle, X_ifnull, X_ifnonnull, X_switch, X_ireturn, X_lreturn, X_areturn, X_return, X_zreturn, X_iload, X_lload, X_aload, X_istore, X_astore, X_lstore, X_iinc, X_iadd, X_isub, X_imul, X_idiv, X_irem, X_iand, X_ior, X_ishl, X_ishr, X_iushr, X_ladd, X_lsub, X_lmul, X_ldiv, X_land, X_lor, X_lshl, X_lcmp, X_ineg, X_i2l, X_l2i, X_i2b, X_i2s, X_i2c, X_dupr, X_dupi, X_dup_x1, X_dup2, X_popi, X_popr, X_iaload, X_baload, X_laload, X_aaload, X_iastore, X_bastore, X_lastore, X_aastore, X_arraylength, am_wt_0, am_wt_int, am_wt_long, am_wt_ref, List.getElem?_cons_zero, List.getElem?_cons_succ, am_s1, am_s2, am_kill, List.set_cons_zero, List.set_cons_succ, List.length_cons, List.length_nil, Int.reduceToNat, Nat.reduceAdd, Nat.reduceLeDiff, Nat.reduceLT, Option.toList_some, Option.toList_none, List.cons_append, List.nil_append, true_and, and_true, true_or, or_true, false_or, or_false, and_self, false_and, not_false_eq_true, not_true_eq_false, ho_k HH, ho_r0 HH, ho_r1 HH, ho_r2 HH, ho_r3 HH, ho_r4 HH, ho_r6 HH, ho_r7 HH, ho_r8 HH, ho_a1 HH, ho_n1 HH, ho_a2 HH, ho_n2 HH, ho_a3 HH, ho_n3 HH, ho_a4 HH, ho_n4 HH, ho_a5 HH, ho_n5 HH, ho_a6 HH, ho_n6 HH, ho_a7 HH, ho_n7 HH, ho_a8 HH, ho_n8 HH, Nat.le_refl]
  refine l_86a G S H h60 HH O hw k 0 (by decide) _ _ ⟨fun x a b => ?_, fun x _ _ _ => rfl, ?_, fun t ht => absurd ht (by omega)⟩
  · rw [u2_a _ _ a]
  · rw [u2_s]; rfl
end HOURS
