/-! CARTFULS: tails -/
theorem l2i_jI (z : Int) : (jI z).toInt32 = iI z := by
  unfold jI iI
  exact Int64.toInt32_ofInt
/-- the most that the last m of k bring, V behind them -/
def tlr (σ : wS) (V : Nat → Int) (c : Nat → Nat) (k : Nat) : Nat → Nat → Int
  | 0 => V
  | m + 1 => fun s => (pz σ (c (k - (m + 1))) s (tlr σ V c k m)).2
theorem tlr_bd {σ : wS} (O : wOK σ) {V : Nat → Int} {M : Nat} (hb : bV σ V M) {c : Nat → Nat} {k : Nat} (hc : ∀ i, i < k → c i < sCn σ) : ∀ m, m ≤ k → bV σ (tlr σ V c k m) (M + m * 200000000) := by
  intro m
  induction m with
  | zero => intro _ s hs; exact Nat.le_trans (hb s hs) (by omega)
  | succ m ih =>
    intro hm s hs
    have hk := hc (k - (m + 1)) (by omega)
    show ((pz σ (c (k - (m + 1))) s (tlr σ V c k m)).2).natAbs ≤ _
    rw [(pz_ok O hk).2]
    have := out_bd O hk hs (pB_ok O (tlr σ V c k m)) (ih (by omega))
    have e : (pz σ (c (k - (m + 1))) s (tlr σ V c k m)).1 = pB σ (tlr σ V c k m) (c (k - (m + 1))) s := rfl
    rw [e]
    omega
/-- where one is behind the first j, placed as is best -/
def nxS (z : Int) (s : Nat) : Nat := if z = -1 then s else s - stp z.toNat
def wlk (σ : wS) (V : Nat → Int) (c : Nat → Nat) (k s0 : Nat) : Nat → Nat
  | 0 => s0
  | j + 1 => nxS (pz σ (c j) (wlk σ V c k s0 j) (tlr σ V c k (k - (j + 1)))).1 (wlk σ V c k s0 j)
def wsz (σ : wS) (V : Nat → Int) (c : Nat → Nat) (k s0 j : Nat) : Int := (pz σ (c j) (wlk σ V c k s0 j) (tlr σ V c k (k - (j + 1)))).1
theorem wlk_ok {σ : wS} (O : wOK σ) {V : Nat → Int} {c : Nat → Nat} {k s0 : Nat} (hc : ∀ i, i < k → c i < sCn σ) (hs : isS σ s0 = true) : ∀ j, j ≤ k → isS σ (wlk σ V c k s0 j) = true := by
  intro j
  induction j with
  | zero => intro _; exact hs
  | succ j ih =>
    intro hj
    have h := ih (by omega)
    show isS σ (nxS _ _) = true
    unfold nxS
    rcases (pz_ok O (hc j (by omega)) (s := wlk σ V c k s0 j) (V := tlr σ V c k (k - (j + 1)))).1 with e | ⟨i, hi, _, e, hf⟩
    · rw [if_pos e]; exact h
    · rw [if_neg (by omega), e]; exact (isS_sub h hi hf).1
def iT (σ : wS) (cj0 : Nat → Nat → Int64) (V : Nat → Int) (c : Nat → Nat) (k n s : Nat) (cj : Nat → Nat → Int64) : Prop := (∀ x, x ≠ 62 → cj x = cj0 x) ∧ (∀ m, m ≤ k - n → ∀ t, isS σ t = true → cj 62 ((k - m) * 125 + t) = jI (tlr σ V c k m t)) ∧ (∀ t, t < s → isS σ t = true → cj 62 ((n - 1) * 125 + t) = jI (tlr σ V c k (k - (n - 1)) t))
section TAILS
variable {d : Nat} {ci : Nat → Nat → Int32} {cj0 : Nat → Nat → Int64} {g : am_G} {Q : Option Value → am_H → Prop} {w e : Nat} {σ : wS} {V : Nat → Int} {M : Nat}
theorem l_97 (G : so g) (S : sc ci) (H : wo g w) (HH : ho g) (O : wOK σ) (hw : wR ci w σ) (hM : M ≤ 5000000000) (hb : bV σ V M) (bc : ci 60 5 = nI (cnt σ 125)) (bs : ∀ s, isS σ s = true → ci 65 (cnt σ s) = nI s) {c : Nat → Nat} {k N : Nat} (hk : k ≤ 6) (hc : ∀ i, i < k → c i < sCn σ) (he : gk g e = 21) (hn : gn g e = N) (hN : k ≤ N) (hN2 : N < 2 ^ 30) (hce : ∀ i, i < k → cj0 e i = jI (c i)) (he2 : e ≠ 62) (q : ∀ cj', (∀ x, x ≠ 62 → cj' x = cj0 x) → (∀ m, m ≤ k → ∀ t, isS σ t = true → cj' 62 ((k - m) * 125 + t) = jI (tlr σ V c k m t)) → Q none (ci, cj', g)) : ∀ n, n ≤ k → ∀ cj, iT σ cj0 V c k n 0 cj → ∀ t5 t6 t7 t8 t9 : Value, X (d + 4) 97 (am_bk 97 1) [.ref 60, .ref w, .ref e, .int (nI k), .int (mm1 n), t5, t6, t7, t8, t9] [] (ci, cj, g) Q := by
  have hcn := O.2.1
  intro n
  induction n with
  | zero =>
    intro _ cj I t5 t6 t7 t8 t9
    rw [bk_97_1]
    have c : (-1 : Int32) < 0 := by decide
    simp only [bq_97_1, bk_97_4, bq_97_4, G_20, G_21, G_25, G_24, X_push, X_goto, X_fall, X_ifeq, X_ifne, X_iflt, X_ifge, X_ifgt, X_ifle, X_iceq, X_icne, X_iclt, X_icge, X_icgt, X_icle, X_ifnull, X_ifnonnull, X_switch, X_ireturn, X_lreturn, X_areturn, X_return, X_zreturn, X_iload, X_lload, X_aload, X_istore, X_astore, X_lstore, X_iinc, X_iadd, X_isub, X_imul, X_idiv, X_irem, X_iand, X_ior, X_ishl, X_ishr, X_iushr, X_ladd, X_lsub, X_lmul, X_ldiv, X_land, X_lor, X_lshl, X_lcmp, X_ineg, X_i2l, X_l2i, X_i2b, X_i2s, X_i2c, X_dupr, X_dupi, X_dup_x1, X_dup2, X_popi, X_popr, X_iaload, X_baload, X_laload, X_aaload, X_iastore, X_bastore, X_lastore, X_aastore, X_arraylength, am_wt_0, am_wt_int, am_wt_long, am_wt_ref, List.getElem?_cons_zero, List.getElem?_cons_succ, am_s1, am_s2, am_kill, List.set_cons_zero, List.set_cons_succ, List.length_cons, List.length_nil, Int.reduceToNat, Nat.reduceAdd, Nat.reduceLeDiff, Nat.reduceLT, Option.toList_some, Option.toList_none, List.cons_append, List.nil_append, true_and, and_true, true_or, or_true, false_or, or_false, and_self, false_and, not_false_eq_true, not_true_eq_false, mm1_0, c, if_true]
    exact q cj I.1 (fun m hm => I.2.1 m (by omega))
  | succ n ih =>
    intro hn1 cj I t5 t6 t7 t8 t9
    have h1 : ¬ nI n < 0 := by rw [lit_0, nI_lti (by omega) (by omega)]; omega
    have ec : cj e n = jI (c n) := by rw [I.1 e he2]; exact hce n (by omega)
    have hcn2 := hc n (by omega)
    rw [bk_97_1]
    simp only [bq_97_1, G_20, G_21, G_25, G_24, X_push, X_goto, X_fall, X_ifeq, X_ifne, X_iflt, X_ifge, X_ifgt, X_ifle, X_iceq, X_icne, X_iclt, X_icge, X_icgt, X_icle, X_ifnull, X_ifnonnull, X_switch, X_ireturn, X_lreturn, X_areturn, X_return, X_zreturn, X_iload, X_lload, X_aload, X_istore, X_astore, X_lstore, X_iinc, X_iadd, X_isub, X_imul, X_idiv, X_irem, X_iand, X_ior, X_ishl, X_ishr, X_iushr, X_ladd, X_lsub, X_lmul, X_ldiv, X_land, X_lor, X_lshl, X_lcmp, X_ineg, X_i2l, X_l2i, X_i2b, X_i2s, X_i2c, X_dupr, X_dupi, X_dup_x1, X_dup2, X_popi, X_popr, X_iaload, X_baload, X_laload, X_aaload, X_iastore, X_bastore, X_lastore, X_aastore, X_arraylength, am_wt_0, am_wt_int, am_wt_long, am_wt_ref, List.getElem?_cons_zero, List.getElem?_cons_succ, am_s1, am_s2, am_kill, List.set_cons_zero, List.set_cons_succ, List.length_cons, List.length_nil, Int.reduceToNat, Nat.reduceAdd, Nat.reduceLeDiff, Nat.reduceLT, Option.toList_some, Option.toList_none, List.cons_append, List.nil_append, true_and, and_true, true_or, or_true, false_or, or_false, and_self, false_and, not_false_eq_true, not_true_eq_false, mm1_s, h1, if_false, he, hn, in_nI (show n < N by omega) (show N < 2 ^ 31 by omega), tn_nI (show n < 2 ^ 31 by omega), ec, l2i_jI, ← nI_iI, lit_1, nI_add, lit_125, pk_mul]
    have key : ∀ cj, iT σ cj0 V c k (n + 1) 0 cj → ∀ t8 t9 : Value, X (d + 4) 97 (am_bk 97 2) [.ref 60, .ref w, .ref e, .int (nI k), .int (nI n), .int (nI (c n)), .int (nI ((n + 1) * 125)), .int (nI 0), t8, t9] [] (ci, cj, g) Q := by
      refine st_ind (σ := σ) (M := fun x s => ∀ cj, iT σ cj0 V c k (n + 1) s cj → ∀ t8 t9 : Value, X (d + 4) 97 (am_bk 97 2) [.ref 60, .ref w, .ref e, .int (nI k), .int (nI n), .int (nI (c n)), .int (nI ((n + 1) * 125)), .int (nI x), t8, t9] [] (ci, cj, g) Q) ?_ ?_ ?_
      · intro cj I t8 t9
        rw [bk_97_2]
        simp only [bq_97_2, bk_97_3, bq_97_3, G_20, G_21, G_25, G_24, X_push, X_goto, X_fall, X_ifeq, X_ifne, X_iflt, X_ifge, X_ifgt, X_ifle, X_iceq, X_icne, X_iclt, X_icge, X_icgt, X_icle, X_ifnull, X_ifnonnull, X_switch, X_ireturn, X_lreturn, X_areturn, X_return, X_zreturn, X_iload, X_lload, X_aload, X_istore, X_astore, X_lstore, X_iinc, X_iadd, X_isub, X_imul, X_idiv, X_irem, X_iand, X_ior, X_ishl, X_ishr, X_iushr, X_ladd, X_lsub, X_lmul, X_ldiv, X_land, X_lor, X_lshl, X_lcmp, X_ineg, X_i2l, X_l2i, X_i2b, X_i2s, X_i2c, X_dupr, X_dupi, X_dup_x1, X_dup2, X_popi, X_popr, X_iaload, X_baload, X_laload, X_aaload, X_iastore, X_bastore, X_lastore, X_aastore, X_arraylength, am_wt_0, am_wt_int, am_wt_long, am_wt_ref, List.getElem?_cons_zero, List.getElem?_cons_succ, am_s1, am_s2, am_kill, List.set_cons_zero, List.set_cons_succ, List.length_cons, List.length_nil, Int.reduceToNat, Nat.reduceAdd, Nat.reduceLeDiff, Nat.reduceLT, Option.toList_some, Option.toList_none, List.cons_append, List.nil_append, true_and, and_true, true_or, or_true, false_or, or_false, and_self, false_and, not_false_eq_true, not_true_eq_false, ho_k HH, ho_r0 HH, ho_r1 HH, ho_r2 HH, ho_r3 HH, ho_r4 HH, ho_r6 HH, ho_r7 HH, ho_r8 HH, ho_a1 HH, ho_n1 HH, ho_a2 HH, ho_n2 HH, ho_a3 HH, ho_n3 HH, ho_a4 HH, ho_n4 HH, ho_a5 HH, ho_n5 HH, ho_a6 HH, ho_n6 HH, ho_a7 HH, ho_n7 HH, ho_a8 HH, ho_n8 HH, bc, Int32.le_refl, if_true, mm1_d]
        refine ih (by omega) cj ⟨I.1, fun m hm t ht => ?_, fun t ht => absurd ht (by omega)⟩ _ _ _ _ _
        by_cases e1 : m = k - n
        · subst e1
          have := I.2.2 t (isS_lt ht) ht
          rw [show n + 1 - 1 = n from rfl] at this
          rw [show k - (k - n) = n by omega]
          exact this
        · exact I.2.1 m (by omega) t ht
      · intro s hs hlt ih2 cj I t8 t9
        have h125 := isS_lt hs
        have h2 := cnt_le σ 125
        have h3 := cnt_le σ s
        have h5 : ¬ nI (cnt σ 125) ≤ nI (cnt σ s) := nI_ge hlt (by omega)
        have hb2 := tlr_bd O hb hc (k - (n + 1)) (by omega)
        have hA : ∀ t, isS σ t = true → cj 62 ((n + 1) * 125 + t) = jI (tlr σ V c k (k - (n + 1)) t) := by
          intro t ht
          have := I.2.1 (k - (n + 1)) (Nat.le_refl _) t ht
          rw [show k - (k - (n + 1)) = n + 1 by omega] at this
          exact this
        have hM2 : M + (k - (n + 1)) * 200000000 ≤ 10000000000 := by omega
        have ep := pk_pz O hcn2 hs hM2 hb2 (A := fun i => cj 62 ((n + 1) * 125 + i)) hA
        have et : tlr σ V c k (k - n) s = (pz σ (c n) s (tlr σ V c k (k - (n + 1)))).2 := by
          rw [show k - n = (k - (n + 1)) + 1 by omega]
          show (pz σ (c (k - (k - (n + 1) + 1))) s _).2 = _
          rw [show k - (k - (n + 1) + 1) = n by omega]
        have fin : ∀ v : Int64, v = jI (tlr σ V c k (k - n) s) → iT σ cj0 V c k (n + 1) (s + 1) (am_u2 cj 62 (n * 125 + s) v) := by
          intro v hv
          refine ⟨fun x hx => by rw [u2_a _ _ hx]; exact I.1 x hx, fun m hm t ht => ?_, fun t ht hv2 => ?_⟩
          · have := isS_lt ht
            rw [u2_i _ _ (by omega)]; exact I.2.1 m hm t ht
          · rw [show n + 1 - 1 = n from rfl]
            by_cases e1 : t = s
            · subst e1; rw [u2_s]; exact hv
            · rw [u2_i _ _ (by omega)]; exact I.2.2 t (by omega) hv2
        have po := pz_ok O hcn2 (s := s) (V := tlr σ V c k (k - (n + 1)))
        rw [bk_97_2]
        rcases po.1 with z | ⟨j, hj, _, z, hf⟩
        · have z1 : iI (pz σ (c n) s (tlr σ V c k (k - (n + 1)))).1 = -1 := by rw [z]; rfl
          simp only [bq_97_2, G_20, G_21, G_25, G_24, X_push, X_goto, X_fall, X_ifeq, X_ifne, X_iflt, X_ifge, X_ifgt, X_ifle, X_iceq, X_icne, X_iclt, X_icge, X_icgt, X_icle, X_ifnull, X_ifnonnull, X_switch, X_ireturn, X_lreturn, X_areturn, X_return, X_zreturn, X_iload, X_lload, X_aload, X_istore, X_astore, X_lstore, X_iinc, X_iadd, X_isub, X_imul, X_idiv, X_irem, X_iand, X_ior, X_ishl, X_ishr, X_iushr, X_ladd, X_lsub, X_lmul, X_ldiv, X_land, X_lor, X_lshl, X_lcmp, X_ineg, X_i2l, X_l2i, X_i2b, X_i2s, X_i2c, X_dupr, X_dupi, X_dup_x1, X_dup2, X_popi, X_popr, X_iaload, X_baload, X_laload, X_aaload, X_iastore, X_bastore, X_lastore, X_aastore, X_arraylength, am_wt_0, am_wt_int, am_wt_long, am_wt_ref, List.getElem?_cons_zero, List.getElem?_cons_succ, am_s1, am_s2, am_kill, List.set_cons_zero, List.set_cons_succ, List.length_cons, List.length_nil, Int.reduceToNat, Nat.reduceAdd, Nat.reduceLeDiff, Nat.reduceLT, Option.toList_some, Option.toList_none, List.cons_append, List.nil_append, true_and, and_true, true_or, or_true, false_or, or_false, and_self, false_and, not_false_eq_true, not_true_eq_false, wo_k H, wo_r0 H, wo_r1 H, wo_r2 H, wo_r3 H, wo_r4 H, wo_r5 H, wo_r6 H, wo_r7 H, wo_a1 H, wo_n1 H, wo_a2 H, wo_n2 H, wo_a3 H, wo_n3 H, wo_a4 H, wo_n4 H, wo_a5 H, wo_n5 H, wo_a6 H, wo_n6 H, wo_a7 H, wo_n7 H, wo_a8 H, wo_n8 H, ho_k HH, ho_r0 HH, ho_r1 HH, ho_r2 HH, ho_r3 HH, ho_r4 HH, ho_r6 HH, ho_r7 HH, ho_r8 HH, ho_a1 HH, ho_n1 HH, ho_a2 HH, ho_n2 HH, ho_a3 HH, ho_n3 HH, ho_a4 HH, ho_n4 HH, ho_a5 HH, ho_n5 HH, ho_a6 HH, ho_n6 HH, ho_a7 HH, ho_n7 HH, ho_a8 HH, ho_n8 HH, bc, h5, if_false, in_nI (show cnt σ s < 125 by omega) (show 125 < 2 ^ 31 by decide), tn_nI (show cnt σ s < 2 ^ 31 by omega), bs s hs, C_80, c_80 G S H O hw hcn2 (ho_a2 HH) (ho_n2 HH) (show (n + 1) * 125 + s < 875 by omega) (show 875 < 2 ^ 30 by decide), ep, z1, C_79, c_79n H O hw hcn2 (ho_a2 HH) (ho_n2 HH) (show (n + 1) * 125 + s < 875 by omega) (show 875 < 2 ^ 30 by decide), lit_125, pk_mul, nI_add, in_nI (show n * 125 + s < 875 by omega) (show 875 < 2 ^ 31 by decide), tn_nI (show n * 125 + s < 2 ^ 31 by omega), oi_1, hA s hs, jI_add]
          refine ih2 _ (fin _ ?_) _ _
          rw [et, po.2, out_m z]
        · have z1 : iI (pz σ (c n) s (tlr σ V c k (k - (n + 1)))).1 = nI j := by rw [z]; rfl
          obtain ⟨q1, q2⟩ := isS_sub hs hj hf
          simp only [bq_97_2, G_20, G_21, G_25, G_24, X_push, X_goto, X_fall, X_ifeq, X_ifne, X_iflt, X_ifge, X_ifgt, X_ifle, X_iceq, X_icne, X_iclt, X_icge, X_icgt, X_icle, X_ifnull, X_ifnonnull, X_switch, X_ireturn, X_lreturn, X_areturn, X_return, X_zreturn, X_iload, X_lload, X_aload, X_istore, X_astore, X_lstore, X_iinc, X_iadd, X_isub, X_imul, X_idiv, X_irem, X_iand, X_ior, X_ishl, X_ishr, X_iushr, X_ladd, X_lsub, X_lmul, X_ldiv, X_land, X_lor, X_lshl, X_lcmp, X_ineg, X_i2l, X_l2i, X_i2b, X_i2s, X_i2c, X_dupr, X_dupi, X_dup_x1, X_dup2, X_popi, X_popr, X_iaload, X_baload, X_laload, X_aaload, X_iastore, X_bastore, X_lastore, X_aastore, X_arraylength, am_wt_0, am_wt_int, am_wt_long, am_wt_ref, List.getElem?_cons_zero, List.getElem?_cons_succ, am_s1, am_s2, am_kill, List.set_cons_zero, List.set_cons_succ, List.length_cons, List.length_nil, Int.reduceToNat, Nat.reduceAdd, Nat.reduceLeDiff, Nat.reduceLT, Option.toList_some, Option.toList_none, List.cons_append, List.nil_append, true_and, and_true, true_or, or_true, false_or, or_false, and_self, false_and, not_false_eq_true, not_true_eq_false, wo_k H, wo_r0 H, wo_r1 H, wo_r2 H, wo_r3 H, wo_r4 H, wo_r5 H, wo_r6 H, wo_r7 H, wo_a1 H, wo_n1 H, wo_a2 H, wo_n2 H, wo_a3 H, wo_n3 H, wo_a4 H, wo_n4 H, wo_a5 H, wo_n5 H, wo_a6 H, wo_n6 H, wo_a7 H, wo_n7 H, wo_a8 H, wo_n8 H, ho_k HH, ho_r0 HH, ho_r1 HH, ho_r2 HH, ho_r3 HH, ho_r4 HH, ho_r6 HH, ho_r7 HH, ho_r8 HH, ho_a1 HH, ho_n1 HH, ho_a2 HH, ho_n2 HH, ho_a3 HH, ho_n3 HH, ho_a4 HH, ho_n4 HH, ho_a5 HH, ho_n5 HH, ho_a6 HH, ho_n6 HH, ho_a7 HH, ho_n7 HH, ho_a8 HH, ho_n8 HH, bc, h5, if_false, in_nI (show cnt σ s < 125 by omega) (show 125 < 2 ^ 31 by decide), tn_nI (show cnt σ s < 2 ^ 31 by omega), bs s hs, C_80, c_80 G S H O hw hcn2 (ho_a2 HH) (ho_n2 HH) (show (n + 1) * 125 + s < 875 by omega) (show 875 < 2 ^ 30 by decide), ep, z1, C_79, c_79 G S H O hw hcn2 (ho_a2 HH) (ho_n2 HH) (show (n + 1) * 125 + s < 875 by omega) (show 875 < 2 ^ 30 by decide) hj q2, lit_125, pk_mul, nI_add, in_nI (show n * 125 + s < 875 by omega) (show 875 < 2 ^ 31 by decide), tn_nI (show n * 125 + s < 2 ^ 31 by omega), oi_1, hA _ q1, jI_add]
          refine ih2 _ (fin _ ?_) _ _
          rw [et, po.2, out_j z]
      · intro s x hs hn2 ih2 cj I t8 t9
        refine ih2 cj ⟨I.1, I.2.1, fun t ht hv => I.2.2 t ?_ hv⟩ t8 t9
        have : t ≠ s := fun e => hn2 (e ▸ hv)
        omega
    exact key cj I _ _
/-- makeTails -/
theorem c_97 (G : so g) (S : sc ci) (H : wo g w) (HH : ho g) (O : wOK σ) (hw : wR ci w σ) (hM : M ≤ 5000000000) (hb : bV σ V M) (T : hT σ ci cj0 V) {c : Nat → Nat} {k N : Nat} (hk : k ≤ 6) (hc : ∀ i, i < k → c i < sCn σ) (he : gk g e = 21) (hn : gn g e = N) (hN : k ≤ N) (hN2 : N < 2 ^ 30) (hce : ∀ i, i < k → cj0 e i = jI (c i)) (he2 : e ≠ 62) (q : ∀ cj', (∀ x, x ≠ 62 → cj' x = cj0 x) → (∀ m, m ≤ k → ∀ t, isS σ t = true → cj' 62 ((k - m) * 125 + t) = jI (tlr σ V c k m t)) → Q none (ci, cj', g)) : X (d + 4) 97 (am_bk 97 0) [.ref 60, .ref w, .ref e, .int (nI k), .null, .null, .null, .null, .null, .null] [] (ci, cj0, g) Q := by
  have em : nI k - (1 : Int32) = mm1 k := by
    show iI (k : Int) - iI 1 = iI ((k : Int) - 1)
    rw [iI_sub]
  have e0 : (0 : Int32).toNatClampNeg = 0 := rfl
  simp only [bk_97_0, bq_97_0, G_20, G_21, G_25, G_24, X_push, X_goto, X_fall, X_ifeq, X_ifne, X_iflt, X_ifge, X_ifgt, X_ifle, X_iceq, X_icne, X_iclt, X_icge, X_icgt, X_icle, X_ifnull, X_ifnonnull, X_switch, X_ireturn, X_lreturn, X_areturn, X_return, X_zreturn, X_iload, X_lload, X_aload, X_istore, X_astore, X_lstore, X_iinc, X_iadd, X_isub, X_imul, X_idiv, X_irem, X_iand, X_ior, X_ishl, X_ishr, X_iushr, X_ladd, X_lsub, X_lmul, X_ldiv, X_land, X_lor, X_lshl, X_lcmp, X_ineg, X_i2l, X_l2i, X_i2b, X_i2s, X_i2c, X_dupr, X_dupi, X_dup_x1, X_dup2, X_popi, X_popr, X_iaload, X_baload, X_laload, X_aaload, X_iastore, X_bastore, X_lastore, X_aastore, X_arraylength, am_wt_0, am_wt_int, am_wt_long, am_wt_ref, List.getElem?_cons_zero, List.getElem?_cons_succ, am_s1, am_s2, am_kill, List.set_cons_zero, List.set_cons_succ, List.length_cons, List.length_nil, Int.reduceToNat, Nat.reduceAdd, Nat.reduceLeDiff, Nat.reduceLT, Option.toList_some, Option.toList_none, List.cons_append, List.nil_append, true_and, and_true, true_or, or_true, false_or, or_false, and_self, false_and, not_false_eq_true, not_true_eq_false, ho_k HH, ho_r0 HH, ho_r1 HH, ho_r2 HH, ho_r3 HH, ho_r4 HH, ho_r6 HH, ho_r7 HH, ho_r8 HH, ho_a1 HH, ho_n1 HH, ho_a2 HH, ho_n2 HH, ho_a3 HH, ho_n3 HH, ho_a4 HH, ho_n4 HH, ho_a5 HH, ho_n5 HH, ho_a6 HH, ho_n6 HH, ho_a7 HH, ho_n7 HH, ho_a8 HH, ho_n8 HH, lit_125, pk_mul, X_cpyj, nI_ti (show k * 125 < 2147483648 by omega), nI_ti (show 125 < 2147483648 by decide), tn_nI (show k * 125 < 2 ^ 31 by omega), tn_nI (show 125 < 2 ^ 31 by decide), e0, ti_0, em, Int.le_refl]
  refine ⟨by omega, ?_⟩
  refine l_97 G S H HH O hw hM hb T.1.1 T.1.2.1 hk hc he hn hN hN2 hce he2 q k (Nat.le_refl _) _ ⟨fun x hx => by rw [u1_e, if_neg hx], fun m hm t ht => ?_, fun t ht => absurd ht (by omega)⟩ _ _ _ _ _
  have := isS_lt ht
  obtain rfl : m = 0 := by omega
  rw [u1_e, if_pos rfl, Nat.sub_zero, pk_cpy_in (by omega) (by omega), show 0 + (k * 125 + t - k * 125) = t by omega]
  exact T.2 t ht
/-- sizePlaced -/
theorem c_98 (G : so g) (S : sc ci) (H : wo g w) (HH : ho g) (O : wOK σ) (hw : wR ci w σ) (hM : M ≤ 5000000000) (hb : bV σ V M) {c : Nat → Nat} {k N : Nat} (hk : k ≤ 6) (hc : ∀ i, i < k → c i < sCn σ) (he : gk g e = 21) (hn : gn g e = N) (hN : k ≤ N) (hN2 : N < 2 ^ 30) (hce : ∀ i, i < k → cj0 e i = jI (c i)) (hT : ∀ m, m ≤ k → ∀ t, isS σ t = true → cj0 62 ((k - m) * 125 + t) = jI (tlr σ V c k m t)) {i s0 : Nat} (hi : i < k) (hs : isS σ s0 = true) : X (d + 4) 98 (am_bk 98 0) [.ref 60, .ref w, .ref e, .int (nI i), .int (nI s0), .null, .null] [] (ci, cj0, g) Q ↔ Q (some (.int (iI (wsz σ V c k s0 i)))) (ci, cj0, g) := by
  have key : ∀ j, j ≤ i + 1 → ∀ z : Int32, (j = i + 1 → z = iI (wsz σ V c k s0 i)) → (X (d + 4) 98 (am_bk 98 1) [.ref 60, .ref w, .ref e, .int (nI i), .int (nI (wlk σ V c k s0 j)), .int z, .int (nI j)] [] (ci, cj0, g) Q ↔ Q (some (.int (iI (wsz σ V c k s0 i)))) (ci, cj0, g)) := by
    refine up_ind ?_ ?_
    · intro z hz
      rw [hz rfl, bk_98_1]
      have h1 : nI i < nI (i + 1) := by rw [nI_lti (by omega) (by omega)]; omega
      simp only [bq_98_1, bk_98_3, bq_98_3, G_21, X_push, X_goto, X_fall, X_ifeq, X_ifne, X_iflt, X_ifge, X_ifgt, X_ifle, X_iceq, X_icne, X_iclt, X_icge, X_icgt, X_icle, X_ifnull, X_ifnonnull, X_switch, X_ireturn, X_lreturn, X_areturn, X_return, X_zreturn, X_iload, X_lload, X_aload, X_istore, X_astore, X_lstore, X_iinc, X_iadd, X_isub, X_imul, X_idiv, X_irem, X_iand, X_ior, X_ishl, X_ishr, X_iushr, X_ladd, X_lsub, X_lmul, X_ldiv, X_land, X_lor, X_lshl, X_lcmp, X_ineg, X_i2l, X_l2i, X_i2b, X_i2s, X_i2c, X_dupr, X_dupi, X_dup_x1, X_dup2, X_popi, X_popr, X_iaload, X_baload, X_laload, X_aaload, X_iastore, X_bastore, X_lastore, X_aastore, X_arraylength, am_wt_0, am_wt_int, am_wt_long, am_wt_ref, List.getElem?_cons_zero, List.getElem?_cons_succ, am_s1, am_s2, am_kill, List.set_cons_zero, List.set_cons_succ, List.length_cons, List.length_nil, Int.reduceToNat, Nat.reduceAdd, Nat.reduceLeDiff, Nat.reduceLT, Option.toList_some, Option.toList_none, List.cons_append, List.nil_append, true_and, and_true, true_or, or_true, false_or, or_false, and_self, false_and, not_false_eq_true, not_true_eq_false, h1, if_true]
    · intro j hj ih z hz
      have hcn2 := hc j (by omega)
      have ej : (jI (c j : Int)).toInt32 = nI (c j) := l2i_jI _
      have h1 : ¬ nI i < nI j := by rw [nI_lti (by omega) (by omega)]; omega
      have ws := wlk_ok (V := V) O hc hs j (by omega)
      have w125 := isS_lt ws
      have hb2 := tlr_bd O hb hc (k - (j + 1)) (by omega)
      have hA : ∀ t, isS σ t = true → cj0 62 ((j + 1) * 125 + t) = jI (tlr σ V c k (k - (j + 1)) t) := by
        intro t ht
        have := hT (k - (j + 1)) (by omega) t ht
        rw [show k - (k - (j + 1)) = j + 1 by omega] at this
        exact this
      have hM2 : M + (k - (j + 1)) * 200000000 ≤ 10000000000 := by omega
      have ep := pk_pz O hcn2 ws hM2 hb2 (A := fun i => cj0 62 ((j + 1) * 125 + i)) hA
      have po := (pz_ok O hcn2 (s := wlk σ V c k s0 j) (V := tlr σ V c k (k - (j + 1)))).1
      have en : wlk σ V c k s0 (j + 1) = nxS (pz σ (c j) (wlk σ V c k s0 j) (tlr σ V c k (k - (j + 1)))).1 (wlk σ V c k s0 j) := rfl
      have l1 : nI j + (1 : Int32) = nI (j + 1) := nI_1 j
      rw [bk_98_1]
      rcases po with z0 | ⟨x, hx, _, z0, hf⟩
      · have z1 : iI (pz σ (c j) (wlk σ V c k s0 j) (tlr σ V c k (k - (j + 1)))).1 = -1 := by rw [z0]; rfl
        simp only [bq_98_1, bk_98_2, bq_98_2, G_21, X_push, X_goto, X_fall, X_ifeq, X_ifne, X_iflt, X_ifge, X_ifgt, X_ifle, X_iceq, X_icne, X_iclt, X_icge, X_icgt, X_icle, X_ifnull, X_ifnonnull, X_switch, X_ireturn, X_lreturn, X_areturn, X_return, X_zreturn, X_iload, X_lload, X_aload, X_istore, X_astore, X_lstore, X_iinc, X_iadd, X_isub, X_imul, X_idiv, X_irem, X_iand, X_ior, X_ishl, X_ishr, X_iushr, X_ladd, X_lsub, X_lmul, X_ldiv, X_land, X_lor, X_lshl, X_lcmp, X_ineg, X_i2l, X_l2i, X_i2b, X_i2s, X_i2c, X_dupr, X_dupi, X_dup_x1, X_dup2, X_popi, X_popr, X_iaload, X_baload, X_laload, X_aaload, X_iastore, X_bastore, X_lastore, X_aastore, X_arraylength, am_wt_0, am_wt_int, am_wt_long, am_wt_ref, List.getElem?_cons_zero, List.getElem?_cons_succ, am_s1, am_s2, am_kill, List.set_cons_zero, List.set_cons_succ, List.length_cons, List.length_nil, Int.reduceToNat, Nat.reduceAdd, Nat.reduceLeDiff, Nat.reduceLT, Option.toList_some, Option.toList_none, List.cons_append, List.nil_append, true_and, and_true, true_or, or_true, false_or, or_false, and_self, false_and, not_false_eq_true, not_true_eq_false, wo_k H, wo_r0 H, wo_r1 H, wo_r2 H, wo_r3 H, wo_r4 H, wo_r5 H, wo_r6 H, wo_r7 H, wo_a1 H, wo_n1 H, wo_a2 H, wo_n2 H, wo_a3 H, wo_n3 H, wo_a4 H, wo_n4 H, wo_a5 H, wo_n5 H, wo_a6 H, wo_n6 H, wo_a7 H, wo_n7 H, wo_a8 H, wo_n8 H, ho_k HH, ho_r0 HH, ho_r1 HH, ho_r2 HH, ho_r3 HH, ho_r4 HH, ho_r6 HH, ho_r7 HH, ho_r8 HH, ho_a1 HH, ho_n1 HH, ho_a2 HH, ho_n2 HH, ho_a3 HH, ho_n3 HH, ho_a4 HH, ho_n4 HH, ho_a5 HH, ho_n5 HH, ho_a6 HH, ho_n6 HH, ho_a7 HH, ho_n7 HH, ho_a8 HH, ho_n8 HH, h1, if_false, if_true, he, hn, in_nI (show j < N by omega) (show N < 2 ^ 31 by omega), tn_nI (show j < 2 ^ 31 by omega), hce j (by omega), ej, l1, lit_125, pk_mul, C_80, c_80 G S H O hw hcn2 (ho_a2 HH) (ho_n2 HH) (show (j + 1) * 125 + wlk σ V c k s0 j < 875 by omega) (show 875 < 2 ^ 30 by decide), ep, z1, oi_1, nI_add]
        have q := ih (-1) (fun x => by rw [← z1]; have : j = i := by omega
                                       rw [this]; rfl)
        rw [en, nxS, if_pos z0] at q
        exact q
      · have z1 : iI (pz σ (c j) (wlk σ V c k s0 j) (tlr σ V c k (k - (j + 1)))).1 = nI x := by rw [z0]; rfl
        obtain ⟨q1, q2⟩ := isS_sub ws hx hf
        have nm := nI_m1 (show x < 2147483648 by omega)
        simp only [bq_98_1, bk_98_2, bq_98_2, G_21, X_push, X_goto, X_fall, X_ifeq, X_ifne, X_iflt, X_ifge, X_ifgt, X_ifle, X_iceq, X_icne, X_iclt, X_icge, X_icgt, X_icle, X_ifnull, X_ifnonnull, X_switch, X_ireturn, X_lreturn, X_areturn, X_return, X_zreturn, X_iload, X_lload, X_aload, X_istore, X_astore, X_lstore, X_iinc, X_iadd, X_isub, X_imul, X_idiv, X_irem, X_iand, X_ior, X_ishl, X_ishr, X_iushr, X_ladd, X_lsub, X_lmul, X_ldiv, X_land, X_lor, X_lshl, X_lcmp, X_ineg, X_i2l, X_l2i, X_i2b, X_i2s, X_i2c, X_dupr, X_dupi, X_dup_x1, X_dup2, X_popi, X_popr, X_iaload, X_baload, X_laload, X_aaload, X_iastore, X_bastore, X_lastore, X_aastore, X_arraylength, am_wt_0, am_wt_int, am_wt_long, am_wt_ref, List.getElem?_cons_zero, List.getElem?_cons_succ, am_s1, am_s2, am_kill, List.set_cons_zero, List.set_cons_succ, List.length_cons, List.length_nil, Int.reduceToNat, Nat.reduceAdd, Nat.reduceLeDiff, Nat.reduceLT, Option.toList_some, Option.toList_none, List.cons_append, List.nil_append, true_and, and_true, true_or, or_true, false_or, or_false, and_self, false_and, not_false_eq_true, not_true_eq_false, wo_k H, wo_r0 H, wo_r1 H, wo_r2 H, wo_r3 H, wo_r4 H, wo_r5 H, wo_r6 H, wo_r7 H, wo_a1 H, wo_n1 H, wo_a2 H, wo_n2 H, wo_a3 H, wo_n3 H, wo_a4 H, wo_n4 H, wo_a5 H, wo_n5 H, wo_a6 H, wo_n6 H, wo_a7 H, wo_n7 H, wo_a8 H, wo_n8 H, ho_k HH, ho_r0 HH, ho_r1 HH, ho_r2 HH, ho_r3 HH, ho_r4 HH, ho_r6 HH, ho_r7 HH, ho_r8 HH, ho_a1 HH, ho_n1 HH, ho_a2 HH, ho_n2 HH, ho_a3 HH, ho_n3 HH, ho_a4 HH, ho_n4 HH, ho_a5 HH, ho_n5 HH, ho_a6 HH, ho_n6 HH, ho_a7 HH, ho_n7 HH, ho_a8 HH, ho_n8 HH, so_k G, so_n G, h1, if_false, he, hn, in_nI (show j < N by omega) (show N < 2 ^ 31 by omega), tn_nI (show j < 2 ^ 31 by omega), hce j (by omega), ej, l1, lit_125, pk_mul, C_80, c_80 G S H O hw hcn2 (ho_a2 HH) (ho_n2 HH) (show (j + 1) * 125 + wlk σ V c k s0 j < 875 by omega) (show 875 < 2 ^ 30 by decide), ep, z1, nm, in_nI hx (show 3 < 2 ^ 31 by decide), tn_nI (show x < 2 ^ 31 by omega), sc_1 S hx, pk_sub q2, oi_1, nI_add]
        have q := ih (nI x) (fun y => by rw [← z1]; have : j = i := by omega
                                         rw [this]; rfl)
        rw [en, nxS, if_neg (by omega), z0] at q
        exact q
  simp only [bk_98_0, bq_98_0, X_push, X_goto, X_fall, X_ifeq, X_ifne, X_iflt, X_ifge, X_ifgt, X_ifle, X_iceq, X_icne, X_iclt, X_icge, X_icgt, X_icle, X_ifnull, X_ifnonnull, X_switch, X_ireturn, X_lreturn, X_areturn, X_return, X_zreturn, X_iload, X_lload, X_aload, X_istore, X_astore, X_lstore, X_iinc, X_iadd, X_isub, X_imul, X_idiv, X_irem, X_iand, X_ior, X_ishl, X_ishr, X_iushr, X_ladd, X_lsub, X_lmul, X_ldiv, X_land, X_lor, X_lshl, X_lcmp, X_ineg, X_i2l, X_l2i, X_i2b, X_i2s, X_i2c, X_dupr, X_dupi, X_dup_x1, X_dup2, X_popi, X_popr, X_iaload, X_baload, X_laload, X_aaload, X_iastore, X_bastore, X_lastore, X_aastore, X_arraylength, am_wt_0, am_wt_int, am_wt_long, am_wt_ref, List.getElem?_cons_zero, List.getElem?_cons_succ, am_s1, am_s2, am_kill, List.set_cons_zero, List.set_cons_succ, List.length_cons, List.length_nil, Int.reduceToNat, Nat.reduceAdd, Nat.reduceLeDiff, Nat.reduceLT, Option.toList_some, Option.toList_none, List.cons_append, List.nil_append, true_and, and_true, true_or, or_true, false_or, or_false, and_self, false_and, not_false_eq_true, not_true_eq_false]
  exact key 0 (by omega) (-1) (fun x => absurd x (by omega))
end TAILS
