/-! IN TRUTH: hours by draws -/
def wFl (σ : wS) (f : Nat → Nat) : wS := (sBx σ, f, sGo σ, sSz σ, sCo σ, sWo σ, sBa σ, sDa σ, sCn σ, sNe σ, sWa σ, sSe σ)
def wDa (σ : wS) (f : Nat → Int32) : wS := (sBx σ, sFl σ, sGo σ, sSz σ, sCo σ, sWo σ, sBa σ, f, sCn σ, sNe σ, sWa σ, sSe σ)
def wSe (σ : wS) (x : Int32) : wS := (sBx σ, sFl σ, sGo σ, sSz σ, sCo σ, sWo σ, sBa σ, sDa σ, sCn σ, sNe σ, sWa σ, x)
def wDy (σ : wS) (j : Nat) (v : Int32) : wS := wDa σ (am_u1 (sDa σ) j (sDa σ j + v))
theorem wR_da {ci : Nat → Nat → Int32} {w : Nat} {σ : wS} (r : wR ci w σ) (j : Nat) (v : Int32) : wR (am_u2 ci (w + 8) j v) w (wDa σ (am_u1 (sDa σ) j v)) := by
  obtain ⟨r1, r2, r3, r4, r5, r6, r7, r8, r9, r10, r11, r12⟩ := r
  refine ⟨?_, ?_, ?_, ?_, ?_, ?_, ?_, fun i hi => ?_, ?_, ?_, ?_, ?_⟩
  · rw [u2_a _ _ (by omega)]; exact r1
  · rw [u2_a _ _ (by omega)]; exact r2
  · rw [u2_a _ _ (by omega)]; exact r3
  · rw [u2_a _ _ (by omega)]; exact r4
  · rw [u2_a _ _ (by omega)]; exact r5
  · rw [u2_a _ _ (by omega)]; exact r6
  · rw [u2_a _ _ (by omega)]; exact r7
  · show _ = am_u1 (sDa σ) j v i
    rw [u2_e, if_pos rfl]; unfold am_u1; split
    · rfl
    · exact r8 i hi
  · rw [u2_a _ _ (by omega)]; exact r9
  · rw [u2_a _ _ (by omega)]; exact r10
  · rw [u2_a _ _ (by omega)]; exact r11
  · rw [u2_a _ _ (by omega)]; exact r12
theorem wR_fl {ci : Nat → Nat → Int32} {w : Nat} {σ : wS} (r : wR ci w σ) (j v : Nat) : wR (am_u2 ci (w + 2) j (nI v)) w (wFl σ (am_u1 (sFl σ) j v)) := by
  obtain ⟨r1, r2, r3, r4, r5, r6, r7, r8, r9, r10, r11, r12⟩ := r
  refine ⟨?_, fun i hi => ?_, ?_, ?_, ?_, ?_, ?_, ?_, ?_, ?_, ?_, ?_⟩
  · rw [u2_a _ _ (by omega)]; exact r1
  · show _ = nI (am_u1 (sFl σ) j v i)
    rw [u2_e, if_pos rfl]; unfold am_u1; split
    · rfl
    · exact r2 i hi
  · rw [u2_a _ _ (by omega)]; exact r3
  · rw [u2_a _ _ (by omega)]; exact r4
  · rw [u2_a _ _ (by omega)]; exact r5
  · rw [u2_a _ _ (by omega)]; exact r6
  · rw [u2_a _ _ (by omega)]; exact r7
  · rw [u2_a _ _ (by omega)]; exact r8
  · rw [u2_a _ _ (by omega)]; exact r9
  · rw [u2_a _ _ (by omega)]; exact r10
  · rw [u2_a _ _ (by omega)]; exact r11
  · rw [u2_a _ _ (by omega)]; exact r12
theorem wR_se {ci : Nat → Nat → Int32} {w : Nat} {σ : wS} (r : wR ci w σ) (x : Int32) : wR (am_u2 ci w 11 x) w (wSe σ x) := by
  obtain ⟨r1, r2, r3, r4, r5, r6, r7, r8, r9, r10, r11, r12⟩ := r
  refine ⟨?_, ?_, ?_, ?_, ?_, ?_, ?_, ?_, ?_, ?_, ?_, ?_⟩
  · rw [u2_a _ _ (by omega)]; exact r1
  · rw [u2_a _ _ (by omega)]; exact r2
  · rw [u2_a _ _ (by omega)]; exact r3
  · rw [u2_a _ _ (by omega)]; exact r4
  · rw [u2_a _ _ (by omega)]; exact r5
  · rw [u2_a _ _ (by omega)]; exact r6
  · rw [u2_a _ _ (by omega)]; exact r7
  · rw [u2_a _ _ (by omega)]; exact r8
  · rw [u2_i _ _ (by decide)]; exact r9
  · rw [u2_i _ _ (by decide)]; exact r10
  · rw [u2_i _ _ (by decide)]; exact r11
  · rw [u2_s]; rfl
theorem wOK_da {σ : wS} (O : wOK σ) (f : Nat → Int32) : wOK (wDa σ f) := O
theorem wOK_se {σ : wS} (O : wOK σ) (x : Int32) : wOK (wSe σ x) := O
theorem wOK_fl {σ : wS} (O : wOK σ) {f : Nat → Nat} (h : ∀ j, j < 3 → f j ≤ sBx σ j) : wOK (wFl σ f) := ⟨fun j hj => ⟨h j hj, (O.1 j hj).2⟩, O.2⟩
/-- a sort by a draw: sCn if none -/
def sdr (f : Nat → Nat) : Nat → Nat → Int32 → Nat
  | 0, i, _ => i
  | m + 1, i, x => if x < nI (f i) then i else sdr f m (i + 1) (x - nI (f i))
theorem sdr_le (f : Nat → Nat) : ∀ m i x, sdr f m i x ≤ i + m := by
  intro m
  induction m with
  | zero => intro i x; exact Nat.le_refl _
  | succ m ih => intro i x; unfold sdr; split; omega; exact Nat.le_trans (ih _ _) (by omega)
noncomputable def brB (σ : wS) (k : Nat) (z : Int) : wS × Int32 :=
  if z = -1 then
    (if dr (nse (sSe σ)) 10 < nI (sNe σ) then (wDy (wSe σ (nse (sSe σ))) 2 1, nI (sWo σ k) - nI (sWa σ)) else (wDy (wSe σ (nse (sSe σ))) 3 1, -nI (sBa σ k)))
  else (wDy (wFl σ (am_u1 (sFl σ) z.toNat (sFl σ z.toNat + 1))) 1 1, nI (sWo σ k))
noncomputable def ftS (σ : wS) (j : Nat) : wS :=
  if 0 < sFl σ j then (if dr (nse (sSe σ)) 10 < nI (sGo σ j) then wDy (wFl (wSe σ (nse (sSe σ))) (am_u1 (sFl σ) j (sFl σ j - 1))) 4 1 else wSe σ (nse (sSe σ))) else σ
noncomputable def ft3 (σ : wS) : Nat → wS
  | 0 => σ
  | j + 1 => ftS (ft3 σ j) j
/-- behind the fetching: who comes, and what it brings -/
noncomputable def hr2 (σ : wS) (P : Nat → Nat → Int) : wS × Int32 :=
  if sdr (sCo σ) (sCn σ) 0 (dr (nse (sSe σ)) 100) = sCn σ then (wSe σ (nse (sSe σ)), 0)
  else brB (wSe σ (nse (sSe σ))) (sdr (sCo σ) (sCn σ) 0 (dr (nse (sSe σ)) 100)) (P (sdr (sCo σ) (sCn σ) 0 (dr (nse (sSe σ)) 100)) (stN σ))
noncomputable def hour (σ : wS) (P : Nat → Nat → Int) : wS × Int32 := (wDy (hr2 (ft3 (wDy σ 0 1) 3) P).1 5 (hr2 (ft3 (wDy σ 0 1) 3) P).2, (hr2 (ft3 (wDy σ 0 1) 3) P).2)
/-- all but what is full, the days and the seed is the same -/
def wSm (σ τ : wS) : Prop := wGo σ τ ∧ sGo τ = sGo σ
theorem wSm_rfl (σ : wS) : wSm σ σ := ⟨⟨rfl, rfl, rfl, rfl, rfl, rfl, rfl, rfl⟩, rfl⟩
theorem wSm_fl {σ τ : wS} (h : wSm σ τ) (f : Nat → Nat) : wSm σ (wFl τ f) := h
theorem wSm_da {σ τ : wS} (h : wSm σ τ) (f : Nat → Int32) : wSm σ (wDa τ f) := h
theorem wSm_se {σ τ : wS} (h : wSm σ τ) (x : Int32) : wSm σ (wSe τ x) := h
theorem wSm_ftS {σ τ : wS} (h : wSm σ τ) (j : Nat) : wSm σ (ftS τ j) := by
  unfold ftS
  generalize nse (sSe τ) = x
  split
  · split
    · exact h
    · exact h
  · exact h
theorem ftS_ok {σ : wS} (O : wOK σ) (j : Nat) : wOK (ftS σ j) := by
  unfold ftS
  generalize nse (sSe σ) = x
  split
  · split
    · refine wOK_fl (σ := wSe σ _) O (fun i hi => ?_)
      have := (O.1 i hi).1
      show am_u1 (sFl σ) j (sFl σ j - 1) i ≤ sBx σ i
      unfold am_u1
      split
      · rename_i e; subst e; omega
      · exact this
    · exact O
  · exact O
theorem ft3_ok {σ : wS} (O : wOK σ) : ∀ j, wOK (ft3 σ j)
  | 0 => O
  | j + 1 => ftS_ok (ft3_ok O j) j
theorem wSm_ft3 {σ τ : wS} (h : wSm σ τ) : ∀ j, wSm σ (ft3 τ j)
  | 0 => h
  | j + 1 => wSm_ftS (wSm_ft3 h j) j
theorem wSm_brB {σ τ : wS} (h : wSm σ τ) (k : Nat) (z : Int) : wSm σ (brB τ k z).1 := by
  unfold brB
  generalize nse (sSe τ) = x
  split
  · split <;> exact h
  · exact h
theorem brB_ok {σ : wS} (O : wOK σ) {k : Nat} {z : Int} (hz : z = -1 ∨ ∃ j : Nat, j < 3 ∧ z = (j : Int) ∧ 0 < fr σ j) : wOK (brB σ k z).1 := by
  unfold brB
  generalize nse (sSe σ) = x
  rcases hz with e | ⟨j, hj, e, hf⟩
  · rw [if_pos e]; split <;> exact O
  · rw [if_neg (by omega), e]
    refine wOK_fl (σ := σ) O (fun i hi => ?_)
    have := (O.1 i hi).1
    show am_u1 (sFl σ) j (sFl σ j + 1) i ≤ sBx σ i
    unfold fr at hf
    unfold am_u1
    split
    · rename_i e; subst e; omega
    · exact this
section TRUTH
variable {d : Nat} {ci : Nat → Nat → Int32} {cj : Nat → Nat → Int64} {g : am_G} {Q : Option Value → am_H → Prop} {w : Nat} {σ : wS}
/-- sortDrawn -/
theorem c_83 (H : wo g w) (O : wOK σ) (hw : wR ci w σ) : X (d + 1) 83 (am_bk 83 0) [.ref w, .null, .null] [] (ci, cj, g) Q ↔ Q (some (.int (if sdr (sCo σ) (sCn σ) 0 (dr (nse (sSe σ)) 100) = sCn σ then -1 else nI (sdr (sCo σ) (sCn σ) 0 (dr (nse (sSe σ)) 100))))) (am_u2 ci w 11 (nse (sSe σ)), cj, g) := by
  have hc := O.2.1
  have hw1 := wR_se hw (nse (sSe σ))
  have key : ∀ m i x, i + m = sCn σ → (X (d + 1) 83 (am_bk 83 1) [.ref w, .int x, .int (nI i)] [] (am_u2 ci w 11 (nse (sSe σ)), cj, g) Q ↔ Q (some (.int (if sdr (sCo σ) m i x = sCn σ then -1 else nI (sdr (sCo σ) m i x)))) (am_u2 ci w 11 (nse (sSe σ)), cj, g)) := by
    intro m
    induction m with
    | zero =>
      intro i x hi
      obtain rfl : i = sCn σ := by omega
      rw [bk_83_1]
      simp only [bq_83_1, bk_83_3, bq_83_3, G_16, G_12, X_push, X_goto, X_fall, X_ifeq, X_ifne, X_iflt, X_ifge, X_ifgt, X_ifle, X_iceq, X_icne, X_iclt, X_icge, X_icgt, X_icle, X_ifnull, X_ifnonnull, X_switch, X_ireturn, X_lreturn, X_areturn, X_return, X_zreturn, X_iload, X_lload, X_aload, X_istore, X_astore, X_lstore, X_iinc, X_iadd, X_isub, X_imul, X_idiv, X_irem, X_iand, X_ior, X_ishl, X_ishr, X_iushr, X_ladd, X_lsub, X_lmul, X_ldiv, X_land, X_lor, X_lshl, X_lcmp, X_ineg, X_i2l, X_l2i, X_i2b, X_i2s, X_i2c, X_dupr, X_dupi, X_dup_x1, X_dup2, X_popi, X_popr, X_iaload, X_baload, X_laload, X_aaload, X_iastore, X_bastore, X_lastore, X_aastore, X_arraylength, am_wt_0, am_wt_int, am_wt_long, am_wt_ref, List.getElem?_cons_zero, List.getElem?_cons_succ, am_s1, am_s2, am_kill, List.set_cons_zero, List.set_cons_succ, List.length_cons, List.length_nil, Int.reduceToNat, Nat.reduceAdd, Nat.reduceLeDiff, Nat.reduceLT, Option.toList_some, Option.toList_none, List.cons_append, List.nil_append, true_and, and_true, true_or, or_true, false_or, or_false, and_self, false_and, not_false_eq_true, not_true_eq_false, wo_k H, wo_r0 H, wo_r1 H, wo_r2 H, wo_r3 H, wo_r4 H, wo_r5 H, wo_r6 H, wo_r7 H, wo_a1 H, wo_n1 H, wo_a2 H, wo_n2 H, wo_a3 H, wo_n3 H, wo_a4 H, wo_n4 H, wo_a5 H, wo_n5 H, wo_a6 H, wo_n6 H, wo_a7 H, wo_n7 H, wo_a8 H, wo_n8 H, show am_u2 ci w 11 (nse (sSe σ)) w 8 = nI (sCn σ) from hw1.2.2.2.2.2.2.2.2.1, Int32.le_refl, if_true, sdr]
    | succ m ih =>
      intro i x hi
      have h1 : ¬ nI (sCn σ) ≤ nI i := nI_ge (by omega) (by omega)
      have e5 : am_u2 ci w 11 (nse (sSe σ)) (w + 5) i = nI (sCo σ i) := hw1.2.2.2.2.1 i (show i < sCn σ by omega)
      have e : sdr (sCo σ) (m + 1) i x = if x < nI (sCo σ i) then i else sdr (sCo σ) m (i + 1) (x - nI (sCo σ i)) := rfl
      rw [bk_83_1]
      by_cases c : x < nI (sCo σ i)
      · have c' : ¬ nI (sCo σ i) ≤ x := by rw [le_ti]; rw [lt_ti] at c; omega
        rw [e, if_pos c, if_neg (show ¬ i = sCn σ by omega)]
        simp only [bq_83_1, G_16, G_12, X_push, X_goto, X_fall, X_ifeq, X_ifne, X_iflt, X_ifge, X_ifgt, X_ifle, X_iceq, X_icne, X_iclt, X_icge, X_icgt, X_icle, X_ifnull, X_ifnonnull, X_switch, X_ireturn, X_lreturn, X_areturn, X_return, X_zreturn, X_iload, X_lload, X_aload, X_istore, X_astore, X_lstore, X_iinc, X_iadd, X_isub, X_imul, X_idiv, X_irem, X_iand, X_ior, X_ishl, X_ishr, X_iushr, X_ladd, X_lsub, X_lmul, X_ldiv, X_land, X_lor, X_lshl, X_lcmp, X_ineg, X_i2l, X_l2i, X_i2b, X_i2s, X_i2c, X_dupr, X_dupi, X_dup_x1, X_dup2, X_popi, X_popr, X_iaload, X_baload, X_laload, X_aaload, X_iastore, X_bastore, X_lastore, X_aastore, X_arraylength, am_wt_0, am_wt_int, am_wt_long, am_wt_ref, List.getElem?_cons_zero, List.getElem?_cons_succ, am_s1, am_s2, am_kill, List.set_cons_zero, List.set_cons_succ, List.length_cons, List.length_nil, Int.reduceToNat, Nat.reduceAdd, Nat.reduceLeDiff, Nat.reduceLT, Option.toList_some, Option.toList_none, List.cons_append, List.nil_append, true_and, and_true, true_or, or_true, false_or, or_false, and_self, false_and, not_false_eq_true, not_true_eq_false, wo_k H, wo_r0 H, wo_r1 H, wo_r2 H, wo_r3 H, wo_r4 H, wo_r5 H, wo_r6 H, wo_r7 H, wo_a1 H, wo_n1 H, wo_a2 H, wo_n2 H, wo_a3 H, wo_n3 H, wo_a4 H, wo_n4 H, wo_a5 H, wo_n5 H, wo_a6 H, wo_n6 H, wo_a7 H, wo_n7 H, wo_a8 H, wo_n8 H, show am_u2 ci w 11 (nse (sSe σ)) w 8 = nI (sCn σ) from hw1.2.2.2.2.2.2.2.2.1, h1, if_false, in_nI (show i < 6 by omega) (show 6 < 2 ^ 31 by decide), tn_nI (show i < 2 ^ 31 by omega), e5, c']
      · have c' : nI (sCo σ i) ≤ x := by rw [le_ti]; rw [lt_ti] at c; omega
        rw [e, if_neg c]
        simp only [bq_83_1, bk_83_2, bq_83_2, G_16, G_12, X_push, X_goto, X_fall, X_ifeq, X_ifne, X_iflt, X_ifge, X_ifgt, X_ifle, X_iceq, X_icne, X_iclt, X_icge, X_icgt, X_icle, X_ifnull, X_ifnonnull, X_switch, X_ireturn, X_lreturn, X_areturn, X_return, X_zreturn, X_iload, X_lload, X_aload, X_istore, X_astore, X_lstore, X_iinc, X_iadd, X_isub, X_imul, X_idiv, X_irem, X_iand, X_ior, X_ishl, X_ishr, X_iushr, X_ladd, X_lsub, X_lmul, X_ldiv, X_land, X_lor, X_lshl, X_lcmp, X_ineg, X_i2l, X_l2i, X_i2b, X_i2s, X_i2c, X_dupr, X_dupi, X_dup_x1, X_dup2, X_popi, X_popr, X_iaload, X_baload, X_laload, X_aaload, X_iastore, X_bastore, X_lastore, X_aastore, X_arraylength, am_wt_0, am_wt_int, am_wt_long, am_wt_ref, List.getElem?_cons_zero, List.getElem?_cons_succ, am_s1, am_s2, am_kill, List.set_cons_zero, List.set_cons_succ, List.length_cons, List.length_nil, Int.reduceToNat, Nat.reduceAdd, Nat.reduceLeDiff, Nat.reduceLT, Option.toList_some, Option.toList_none, List.cons_append, List.nil_append, true_and, and_true, true_or, or_true, false_or, or_false, and_self, false_and, not_false_eq_true, not_true_eq_false, wo_k H, wo_r0 H, wo_r1 H, wo_r2 H, wo_r3 H, wo_r4 H, wo_r5 H, wo_r6 H, wo_r7 H, wo_a1 H, wo_n1 H, wo_a2 H, wo_n2 H, wo_a3 H, wo_n3 H, wo_a4 H, wo_n4 H, wo_a5 H, wo_n5 H, wo_a6 H, wo_n6 H, wo_a7 H, wo_n7 H, wo_a8 H, wo_n8 H, show am_u2 ci w 11 (nse (sSe σ)) w 8 = nI (sCn σ) from hw1.2.2.2.2.2.2.2.2.1, h1, if_false, in_nI (show i < 6 by omega) (show 6 < 2 ^ 31 by decide), tn_nI (show i < 2 ^ 31 by omega), e5, c', if_true, oi_1, nI_add]
        exact ih (i + 1) _ (by omega)
  have e81 : ∀ Q' : Option Value → am_H → Prop, X d 81 (am_bk 81 0) [.ref w, .int 100] [] (ci, cj, g) Q' ↔ Q' (some (.int (dr (nse (ci w 11)) 100))) (am_u2 ci w 11 (nse (ci w 11)), cj, g) := fun Q' => c_81 H (b := 100) (by decide) (by decide)
  simp only [bk_83_0, bq_83_0, G_16, G_12, X_push, X_goto, X_fall, X_ifeq, X_ifne, X_iflt, X_ifge, X_ifgt, X_ifle, X_iceq, X_icne, X_iclt, X_icge, X_icgt, X_icle, X_ifnull, X_ifnonnull, X_switch, X_ireturn, X_lreturn, X_areturn, X_return, X_zreturn, X_iload, X_lload, X_aload, X_istore, X_astore, X_lstore, X_iinc, X_iadd, X_isub, X_imul, X_idiv, X_irem, X_iand, X_ior, X_ishl, X_ishr, X_iushr, X_ladd, X_lsub, X_lmul, X_ldiv, X_land, X_lor, X_lshl, X_lcmp, X_ineg, X_i2l, X_l2i, X_i2b, X_i2s, X_i2c, X_dupr, X_dupi, X_dup_x1, X_dup2, X_popi, X_popr, X_iaload, X_baload, X_laload, X_aaload, X_iastore, X_bastore, X_lastore, X_aastore, X_arraylength, am_wt_0, am_wt_int, am_wt_long, am_wt_ref, List.getElem?_cons_zero, List.getElem?_cons_succ, am_s1, am_s2, am_kill, List.set_cons_zero, List.set_cons_succ, List.length_cons, List.length_nil, Int.reduceToNat, Nat.reduceAdd, Nat.reduceLeDiff, Nat.reduceLT, Option.toList_some, Option.toList_none, List.cons_append, List.nil_append, true_and, and_true, true_or, or_true, false_or, or_false, and_self, false_and, not_false_eq_true, not_true_eq_false, wo_k H, wo_r0 H, wo_r1 H, wo_r2 H, wo_r3 H, wo_r4 H, wo_r5 H, wo_r6 H, wo_r7 H, wo_a1 H, wo_n1 H, wo_a2 H, wo_n2 H, wo_a3 H, wo_n3 H, wo_a4 H, wo_n4 H, wo_a5 H, wo_n5 H, wo_a6 H, wo_n6 H, wo_a7 H, wo_n7 H, wo_a8 H, wo_n8 H, C_81, e81, hw.2.2.2.2.2.2.2.2.2.2.2]
  exact key (sCn σ) 0 _ (by omega)
/-- broughtBy -/
theorem c_84 (H : wo g w) (O : wOK σ) (hw : wR ci w σ) {k : Nat} (hk : k < sCn σ) {z : Int} (hz : z = -1 ∨ ∃ j : Nat, j < 3 ∧ z = (j : Int) ∧ 0 < fr σ j) (q : ∀ ci', (∀ x, (x < w ∨ w + 8 < x) → ci' x = ci x) → wR ci' w (brB σ k z).1 → Q (some (.int (brB σ k z).2)) (ci', cj, g)) : X (d + 1) 84 (am_bk 84 0) [.ref w, .int (nI k), .int (iI z)] [] (ci, cj, g) Q := by
  have hc := O.2.1
  rcases hz with e | ⟨j, hj, e, hf⟩
  · have z1 : iI z = -1 := by rw [e]; rfl
    have e81 : ∀ Q' : Option Value → am_H → Prop, X d 81 (am_bk 81 0) [.ref w, .int 10] [] (ci, cj, g) Q' ↔ Q' (some (.int (dr (nse (ci w 11)) 10))) (am_u2 ci w 11 (nse (ci w 11)), cj, g) := fun Q' => c_81 H (b := 10) (by decide) (by decide)
    have hw1 := wR_se hw (nse (sSe σ))
    have a9 : am_u2 ci w 11 (nse (sSe σ)) w 9 = nI (sNe σ) := hw1.2.2.2.2.2.2.2.2.2.1
    have a6 : am_u2 ci w 11 (nse (sSe σ)) (w + 6) k = nI (sWo σ k) := hw1.2.2.2.2.2.1 k hk
    have a7 : am_u2 ci w 11 (nse (sSe σ)) (w + 7) k = nI (sBa σ k) := hw1.2.2.2.2.2.2.1 k hk
    have a10 : am_u2 ci w 11 (nse (sSe σ)) w 10 = nI (sWa σ) := hw1.2.2.2.2.2.2.2.2.2.2.1
    have a82 : am_u2 ci w 11 (nse (sSe σ)) (w + 8) 2 = sDa σ 2 := hw1.2.2.2.2.2.2.2.1 2 (by decide)
    have a83 : am_u2 ci w 11 (nse (sSe σ)) (w + 8) 3 = sDa σ 3 := hw1.2.2.2.2.2.2.2.1 3 (by decide)
    by_cases c : dr (nse (sSe σ)) 10 < nI (sNe σ)
    · have c' : ¬ nI (sNe σ) ≤ dr (nse (sSe σ)) 10 := by rw [le_ti]; rw [lt_ti] at c; omega
      have eb : brB σ k z = (wDy (wSe σ (nse (sSe σ))) 2 1, nI (sWo σ k) - nI (sWa σ)) := by unfold brB; rw [if_pos e, if_pos c]
      have hr := wR_da hw1 2 (sDa σ 2 + 1)
      rw [eb] at q
      simp only [bk_84_0, bq_84_0, bk_84_1, bq_84_1, G_9, G_15, G_13, G_17, G_18, G_14, X_push, X_goto, X_fall, X_ifeq, X_ifne, X_iflt, X_ifge, X_ifgt, X_ifle, X_iceq, X_icne, X_iclt, X_icge, X_icgt, X_icle, X_ifnull, X_ifnonnull, X_switch, X_ireturn, X_lreturn, X_areturn, X_return, X_zreturn, X_iload, X_lload, X_aload, X_istore, X_astore, X_lstore, X_iinc, X_iadd, X_isub, X_imul, X_idiv, X_irem, X_iand, X_ior, X_ishl, X_ishr, X_iushr, X_ladd, X_lsub, X_lmul, X_ldiv, X_land, X_lor, X_lshl, X_lcmp, X_ineg, X_i2l, X_l2i, X_i2b, X_i2s, X_i2c, X_dupr, X_dupi, X_dup_x1, X_dup2, X_popi, X_popr, X_iaload, X_baload, X_laload, X_aaload, X_iastore, X_bastore, X_lastore, X_aastore, X_arraylength, am_wt_0, am_wt_int, am_wt_long, am_wt_ref, List.getElem?_cons_zero, List.getElem?_cons_succ, am_s1, am_s2, am_kill, List.set_cons_zero, List.set_cons_succ, List.length_cons, List.length_nil, Int.reduceToNat, Nat.reduceAdd, Nat.reduceLeDiff, Nat.reduceLT, Option.toList_some, Option.toList_none, List.cons_append, List.nil_append, true_and, and_true, true_or, or_true, false_or, or_false, and_self, false_and, not_false_eq_true, not_true_eq_false, wo_k H, wo_r0 H, wo_r1 H, wo_r2 H, wo_r3 H, wo_r4 H, wo_r5 H, wo_r6 H, wo_r7 H, wo_a1 H, wo_n1 H, wo_a2 H, wo_n2 H, wo_a3 H, wo_n3 H, wo_a4 H, wo_n4 H, wo_a5 H, wo_n5 H, wo_a6 H, wo_n6 H, wo_a7 H, wo_n7 H, wo_a8 H, wo_n8 H, tn_0, tn_1, tn_2, tn_3, tn_4, tn_5, tn_6, tn_7, tn_8, in_0_1, in_0_2, in_1_2, in_0_3, in_1_3, in_2_3, in_0_4, in_1_4, in_2_4, in_3_4, in_0_5, in_1_5, in_2_5, in_3_5, in_4_5, in_0_6, in_1_6, in_2_6, in_3_6, in_4_6, in_5_6, in_0_8, in_1_8, in_2_8, in_3_8, in_4_8, in_5_8, in_6_8, in_7_8, z1, if_true, C_81, e81, hw.2.2.2.2.2.2.2.2.2.2.2, a9, c', if_false, a82, u2_a _ _ (show w + 6 ≠ w + 8 by omega), u2_a _ _ (show w ≠ w + 8 by omega), a6, a10, in_nI (show k < 6 by omega) (show 6 < 2 ^ 31 by decide), tn_nI (show k < 2 ^ 31 by omega)]
      refine q _ (fun x hx => ?_) hr
      rw [u2_a _ _ (by omega), u2_a _ _ (by omega)]
    · have c' : nI (sNe σ) ≤ dr (nse (sSe σ)) 10 := by rw [le_ti]; rw [lt_ti] at c; omega
      have eb : brB σ k z = (wDy (wSe σ (nse (sSe σ))) 3 1, -nI (sBa σ k)) := by unfold brB; rw [if_pos e, if_neg c]
      have hr := wR_da hw1 3 (sDa σ 3 + 1)
      rw [eb] at q
      simp only [bk_84_0, bq_84_0, bk_84_1, bq_84_1, bk_84_2, bq_84_2, G_9, G_15, G_13, G_17, G_18, G_14, X_push, X_goto, X_fall, X_ifeq, X_ifne, X_iflt, X_ifge, X_ifgt, X_ifle, X_iceq, X_icne, X_iclt, X_icge, X_icgt, X_icle, X_ifnull, X_ifnonnull, X_switch, X_ireturn, X_lreturn, X_areturn, X_return, X_zreturn, X_iload, X_lload, X_aload, X_istore, X_astore, X_lstore, X_iinc, X_iadd, X_isub, X_imul, X_idiv, X_irem, X_iand, X_ior, X_ishl, X_ishr, X_iushr, X_ladd, X_lsub, X_lmul, X_ldiv, X_land, X_lor, X_lshl, X_lcmp, X_ineg, X_i2l, X_l2i, X_i2b, X_i2s, X_i2c, X_dupr, X_dupi, X_dup_x1, X_dup2, X_popi, X_popr, X_iaload, X_baload, X_laload, X_aaload, X_iastore, X_bastore, X_lastore, X_aastore, X_arraylength, am_wt_0, am_wt_int, am_wt_long, am_wt_ref, List.getElem?_cons_zero, List.getElem?_cons_succ, am_s1, am_s2, am_kill, List.set_cons_zero, List.set_cons_succ, List.length_cons, List.length_nil, Int.reduceToNat, Nat.reduceAdd, Nat.reduceLeDiff, Nat.reduceLT, Option.toList_some, Option.toList_none, List.cons_append, List.nil_append, true_and, and_true, true_or, or_true, false_or, or_false, and_self, false_and, not_false_eq_true, not_true_eq_false, wo_k H, wo_r0 H, wo_r1 H, wo_r2 H, wo_r3 H, wo_r4 H, wo_r5 H, wo_r6 H, wo_r7 H, wo_a1 H, wo_n1 H, wo_a2 H, wo_n2 H, wo_a3 H, wo_n3 H, wo_a4 H, wo_n4 H, wo_a5 H, wo_n5 H, wo_a6 H, wo_n6 H, wo_a7 H, wo_n7 H, wo_a8 H, wo_n8 H, tn_0, tn_1, tn_2, tn_3, tn_4, tn_5, tn_6, tn_7, tn_8, in_0_1, in_0_2, in_1_2, in_0_3, in_1_3, in_2_3, in_0_4, in_1_4, in_2_4, in_3_4, in_0_5, in_1_5, in_2_5, in_3_5, in_4_5, in_0_6, in_1_6, in_2_6, in_3_6, in_4_6, in_5_6, in_0_8, in_1_8, in_2_8, in_3_8, in_4_8, in_5_8, in_6_8, in_7_8, z1, if_true, C_81, e81, hw.2.2.2.2.2.2.2.2.2.2.2, a9, c', a83, u2_a _ _ (show w + 7 ≠ w + 8 by omega), a7, in_nI (show k < 6 by omega) (show 6 < 2 ^ 31 by decide), tn_nI (show k < 2 ^ 31 by omega)]
      refine q _ (fun x hx => ?_) hr
      rw [u2_a _ _ (by omega), u2_a _ _ (by omega)]
  · have z1 : iI z = nI j := by rw [e]; rfl
    have eb : brB σ k z = (wDy (wFl σ (am_u1 (sFl σ) j (sFl σ j + 1))) 1 1, nI (sWo σ k)) := by unfold brB; rw [if_neg (by omega), e]; rfl
    have hw1 := wR_fl hw j (sFl σ j + 1)
    have a6 : am_u2 ci (w + 2) j (nI (sFl σ j + 1)) (w + 6) k = nI (sWo σ k) := hw1.2.2.2.2.2.1 k hk
    have a81 : am_u2 ci (w + 2) j (nI (sFl σ j + 1)) (w + 8) 1 = sDa σ 1 := hw1.2.2.2.2.2.2.2.1 1 (by decide)
    have hr := wR_da hw1 1 (sDa σ 1 + 1)
    rw [eb] at q
    simp only [bk_84_0, bq_84_0, G_9, G_15, G_13, G_17, G_18, G_14, X_push, X_goto, X_fall, X_ifeq, X_ifne, X_iflt, X_ifge, X_ifgt, X_ifle, X_iceq, X_icne, X_iclt, X_icge, X_icgt, X_icle, X_ifnull, X_ifnonnull, X_switch, X_ireturn, X_lreturn, X_areturn, X_return, X_zreturn, X_iload, X_lload, X_aload, X_istore, X_astore, X_lstore, X_iinc, X_iadd, X_isub, X_imul, X_idiv, X_irem, X_iand, X_ior, X_ishl, X_ishr, X_iushr, X_ladd, X_lsub, X_lmul, X_ldiv, X_land, X_lor, X_lshl, X_lcmp, X_ineg, X_i2l, X_l2i, X_i2b, X_i2s, X_i2c, X_dupr, X_dupi, X_dup_x1, X_dup2, X_popi, X_popr, X_iaload, X_baload, X_laload, X_aaload, X_iastore, X_bastore, X_lastore, X_aastore, X_arraylength, am_wt_0, am_wt_int, am_wt_long, am_wt_ref, List.getElem?_cons_zero, List.getElem?_cons_succ, am_s1, am_s2, am_kill, List.set_cons_zero, List.set_cons_succ, List.length_cons, List.length_nil, Int.reduceToNat, Nat.reduceAdd, Nat.reduceLeDiff, Nat.reduceLT, Option.toList_some, Option.toList_none, List.cons_append, List.nil_append, true_and, and_true, true_or, or_true, false_or, or_false, and_self, false_and, not_false_eq_true, not_true_eq_false, wo_k H, wo_r0 H, wo_r1 H, wo_r2 H, wo_r3 H, wo_r4 H, wo_r5 H, wo_r6 H, wo_r7 H, wo_a1 H, wo_n1 H, wo_a2 H, wo_n2 H, wo_a3 H, wo_n3 H, wo_a4 H, wo_n4 H, wo_a5 H, wo_n5 H, wo_a6 H, wo_n6 H, wo_a7 H, wo_n7 H, wo_a8 H, wo_n8 H, tn_0, tn_1, tn_2, tn_3, tn_4, tn_5, tn_6, tn_7, tn_8, in_0_1, in_0_2, in_1_2, in_0_3, in_1_3, in_2_3, in_0_4, in_1_4, in_2_4, in_3_4, in_0_5, in_1_5, in_2_5, in_3_5, in_4_5, in_0_6, in_1_6, in_2_6, in_3_6, in_4_6, in_5_6, in_0_8, in_1_8, in_2_8, in_3_8, in_4_8, in_5_8, in_6_8, in_7_8, z1, nI_m1 (show j < 2147483648 by omega), if_false, in_nI hj (show 3 < 2 ^ 31 by decide), tn_nI (show j < 2 ^ 31 by omega), hw.2.1 j hj, nI_1, a81, u2_a _ _ (show w + 6 ≠ w + 8 by omega), a6, in_nI (show k < 6 by omega) (show 6 < 2 ^ 31 by decide), tn_nI (show k < 2 ^ 31 by omega)]
    refine q _ (fun x hx => ?_) hr
    rw [u2_a _ _ (by omega), u2_a _ _ (by omega)]
end TRUTH
