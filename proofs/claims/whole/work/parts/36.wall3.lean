theorem bnd {x y : Int} {a b : Nat} (h1 : -(a : Int) ≤ x) (h2 : x ≤ a) (h3 : -(b : Int) ≤ y) (h4 : y ≤ b) : -((a * b : Nat) : Int) ≤ x * y ∧ x * y ≤ ((a * b : Nat) : Int) := by
  have e1 : x.natAbs ≤ a := by omega
  have e2 : y.natAbs ≤ b := by omega
  have e3 : (x * y).natAbs ≤ a * b := by rw [Int.natAbs_mul]; exact Nat.mul_le_mul e1 e2
  omega
def lost (σ : wS) (k : Nat) : Int := 100000 * ((sNe σ : Int) * ((sWo σ k : Int) - sWa σ) - (10 - (sNe σ : Int)) * sBa σ k)
def gain (σ : wS) (k : Nat) : Int := 1000000 * (sWo σ k : Int)
theorem lost_in {σ : wS} (O : wOK σ) {k : Nat} (hk : k < sCn σ) : -1980 ≤ (sNe σ : Int) * ((sWo σ k : Int) - sWa σ) - (10 - (sNe σ : Int)) * sBa σ k ∧ (sNe σ : Int) * ((sWo σ k : Int) - sWa σ) - (10 - (sNe σ : Int)) * sBa σ k ≤ 1980 := by
  obtain ⟨-, -, h3, -, h5, h6⟩ := O
  obtain ⟨-, -, w1, w2, b1⟩ := h3 k hk
  have a := bnd (x := (sNe σ : Int)) (y := (sWo σ k : Int) - sWa σ) (a := 10) (b := 99) (by omega) (by omega) (by omega) (by omega)
  have b := bnd (x := 10 - (sNe σ : Int)) (y := (sBa σ k : Int)) (a := 10) (b := 99) (by omega) (by omega) (by omega) (by omega)
  omega
def tws (σ : wS) (a b c e : Int) : Int32 := if 0 ≤ a ∧ a ≤ 2 ∧ 0 ≤ b ∧ b ≤ 100 ∧ 1 ≤ c ∧ c ≤ 99 ∧ 0 ≤ e ∧ e ≤ 99 then (if (csum (sCo σ) (sCn σ) : Int) + b ≤ 100 then (if sCn σ < 6 then 0 else -6) else -5) else -2
def addS (σ : wS) (a b c e : Nat) : wS := (sBx σ, sFl σ, sGo σ, am_u1 (sSz σ) (sCn σ) a, am_u1 (sCo σ) (sCn σ) b, am_u1 (sWo σ) (sCn σ) c, am_u1 (sBa σ) (sCn σ) e, sDa σ, sCn σ + 1, sNe σ, sWa σ, sSe σ)
/-- picking a size: what it would bring, by sizes from j on -/
def pkS (σ : wS) (k s : Nat) (A : Nat → Int64) (j : Nat) (p : Int32 × Int64) : Int32 × Int64 := if 0 < frI s j ∧ p.2.toInt < (jI (gain σ k) + A (s - stp j)).toInt then (nI j, jI (gain σ k) + A (s - stp j)) else p
def pkF (σ : wS) (k s : Nat) (A : Nat → Int64) : Nat → Nat → Int32 × Int64 → Int32 × Int64
  | 0, _, p => p
  | n + 1, j, p => pkF σ k s A n (j + 1) (pkS σ k s A j p)
def pk (σ : wS) (k s : Nat) (A : Nat → Int64) : Int32 × Int64 := pkF σ k s A (3 - sSz σ k) (sSz σ k) (-1, jI (lost σ k) + A s)
def nse0 (x : Int32) : Int32 := x * 1103515245 + 12345
def dr0 (x b : Int32) : Int32 := (x.toUInt32 >>> ((16 : Int32).toUInt32 &&& Int32.toUInt32 31)).toInt32 - (x.toUInt32 >>> ((16 : Int32).toUInt32 &&& Int32.toUInt32 31)).toInt32 / b * b
theorem nse_ex : ∃ f : Int32 → Int32, ∀ x, f x = nse0 x := ⟨nse0, fun _ => rfl⟩
theorem dr_ex : ∃ f : Int32 → Int32 → Int32, ∀ x b, f x b = dr0 x b := ⟨dr0, fun _ _ => rfl⟩
/-- the seed's next, and what is drawn of it; closed, so that nobody counts them out -/
noncomputable def nse : Int32 → Int32 := Classical.choose nse_ex
noncomputable def dr : Int32 → Int32 → Int32 := Classical.choose dr_ex
theorem nse_e (x : Int32) : nse x = nse0 x := Classical.choose_spec nse_ex x
theorem dr_e (x b : Int32) : dr x b = dr0 x b := Classical.choose_spec dr_ex x b
section WALL3
variable {d : Nat} {ci : Nat → Nat → Int32} {cj : Nat → Nat → Int64} {g : am_G} {Q : Option Value → am_H → Prop} {w : Nat} {σ : wS}
/-- troubleWithSort -/
theorem c_75 (H : wo g w) (O : wOK σ) (hw : wR ci w σ) (a b c e : Int64) : X (d + 1) 75 (am_bk 75 0) [.ref w, .long a, .null, .long b, .null, .long c, .null, .long e, .null] [] (ci, cj, g) Q ↔ Q (some (.int (tws σ a.toInt b.toInt c.toInt e.toInt))) (ci, cj, g) := by
  have hc := O.2.1
  have hs := O.2.2.2.1
  simp only [bk_75_0, bq_75_0, bk_75_1, bq_75_1, bk_75_2, bq_75_2, bk_75_3, bq_75_3, bk_75_4, bq_75_4, bk_75_5, bq_75_5, G_16, X_push, X_goto, X_fall, X_ifeq, X_ifne, X_iflt, X_ifge, X_ifgt, X_ifle, X_iceq, X_icne, X_iclt, X_icge, X_icgt, X_icle, X_ifnull, X_ifnonnull, X_switch, X_ireturn, X_lreturn, X_areturn, X_return, X_zreturn, X_iload, X_lload, X_aload, X_istore, X_astore, X_lstore, X_iinc, X_iadd, X_isub, X_imul, X_idiv, X_irem, X_iand, X_ior, X_ishl, X_ishr, X_iushr, X_ladd, X_lsub, X_lmul, X_ldiv, X_land, X_lor, X_lshl, X_lcmp, X_ineg, X_i2l, X_l2i, X_i2b, X_i2s, X_i2c, X_dupr, X_dupi, X_dup_x1, X_dup2, X_popi, X_popr, X_iaload, X_baload, X_laload, X_aaload, X_iastore, X_bastore, X_lastore, X_aastore, X_arraylength, am_wt_0, am_wt_int, am_wt_long, am_wt_ref, List.getElem?_cons_zero, List.getElem?_cons_succ, am_s1, am_s2, am_kill, List.set_cons_zero, List.set_cons_succ, List.length_cons, List.length_nil, Int.reduceToNat, Nat.reduceAdd, Nat.reduceLeDiff, Nat.reduceLT, Option.toList_some, Option.toList_none, List.cons_append, List.nil_append, true_and, and_true, true_or, or_true, false_or, or_false, and_self, false_and, not_false_eq_true, not_true_eq_false, wo_k H, wo_r0 H, wo_r1 H, wo_r2 H, wo_r3 H, wo_r4 H, wo_r5 H, wo_r6 H, wo_r7 H, wo_a1 H, wo_n1 H, wo_a2 H, wo_n2 H, wo_a3 H, wo_n3 H, wo_a4 H, wo_n4 H, wo_a5 H, wo_n5 H, wo_a6 H, wo_n6 H, wo_a7 H, wo_n7 H, wo_a8 H, wo_n8 H, C_74, c_74 H O hw, cmp_lt, cmp_ge, cmp_gt, cmp_le, tl_0, tl_1, tl_3, tl_99, tl_100, hw.2.2.2.2.2.2.2.2.1, nI_j (show csum (sCo σ) (sCn σ) < 2147483648 by omega), lt_ti (nI (sCn σ)) 6, ti_6, nI_ti (show sCn σ < 2147483648 by omega)]
  unfold tws
  by_cases hr : 0 ≤ a.toInt ∧ a.toInt ≤ 2 ∧ 0 ≤ b.toInt ∧ b.toInt ≤ 100 ∧ 1 ≤ c.toInt ∧ c.toInt ≤ 99 ∧ 0 ≤ e.toInt ∧ e.toInt ≤ 99
  · have e9 : (jI (csum (sCo σ) (sCn σ) : Int) + b).toInt = (csum (sCo σ) (sCn σ) : Int) + b.toInt := by
      have h1 : jI (csum (sCo σ) (sCn σ) : Int) + b = jI ((csum (sCo σ) (sCn σ) : Int) + b.toInt) := by rw [← jI_add, jI_of]
      rw [h1, jI_ti (by omega) (by omega)]
    rw [e9, if_pos hr, if_neg (by omega), if_neg (by omega), if_neg (by omega), if_neg (by omega), if_neg (by omega), if_neg (by omega), if_neg (by omega), if_pos (by omega)]
    by_cases h1 : (csum (sCo σ) (sCn σ) : Int) + b.toInt ≤ 100
    · rw [if_pos h1, if_pos h1]
      by_cases h2 : sCn σ < 6
      · rw [if_pos (by omega), if_pos h2]
      · rw [if_neg (by omega), if_neg h2]
    · rw [if_neg h1, if_neg h1]
  · rw [if_neg hr]
    repeat' split
    all_goals first | omega | rfl
/-- addSort -/
theorem c_76 (H : wo g w) (O : wOK σ) (hw : wR ci w σ) {a b c e : Nat} (hc : sCn σ < 6) (k : ∀ ci' : Nat → Nat → Int32, (∀ x, (x < w ∨ w + 8 < x) → ci' x = ci x) → wR ci' w (addS σ a b c e) → Q none (ci', cj, g)) : X d 76 (am_bk 76 0) [.ref w, .int (nI a), .int (nI b), .int (nI c), .int (nI e)] [] (ci, cj, g) Q := by
  have h1 : ¬ (6 : Int32) ≤ nI (sCn σ) := nI_ge (b := 6) hc (by decide)
  obtain ⟨r1, r2, r3, r4, r5, r6, r7, r8, r9, r10, r11, r12⟩ := hw
  simp only [bk_76_0, bq_76_0, bk_76_1, bq_76_1, G_16, G_11, G_12, G_13, G_14, P_16, X_push, X_goto, X_fall, X_ifeq, X_ifne, X_iflt, X_ifge, X_ifgt, X_ifle, X_iceq, X_icne, X_iclt, X_icge, X_icgt, X_icle, X_ifnull, X_ifnonnull, X_switch, X_ireturn, X_lreturn, X_areturn, X_return, X_zreturn, X_iload, X_lload, X_aload, X_istore, X_astore, X_lstore, X_iinc, X_iadd, X_isub, X_imul, X_idiv, X_irem, X_iand, X_ior, X_ishl, X_ishr, X_iushr, X_ladd, X_lsub, X_lmul, X_ldiv, X_land, X_lor, X_lshl, X_lcmp, X_ineg, X_i2l, X_l2i, X_i2b, X_i2s, X_i2c, X_dupr, X_dupi, X_dup_x1, X_dup2, X_popi, X_popr, X_iaload, X_baload, X_laload, X_aaload, X_iastore, X_bastore, X_lastore, X_aastore, X_arraylength, am_wt_0, am_wt_int, am_wt_long, am_wt_ref, List.getElem?_cons_zero, List.getElem?_cons_succ, am_s1, am_s2, am_kill, List.set_cons_zero, List.set_cons_succ, List.length_cons, List.length_nil, Int.reduceToNat, Nat.reduceAdd, Nat.reduceLeDiff, Nat.reduceLT, Option.toList_some, Option.toList_none, List.cons_append, List.nil_append, true_and, and_true, true_or, or_true, false_or, or_false, and_self, false_and, not_false_eq_true, not_true_eq_false, wo_k H, wo_r0 H, wo_r1 H, wo_r2 H, wo_r3 H, wo_r4 H, wo_r5 H, wo_r6 H, wo_r7 H, wo_a1 H, wo_n1 H, wo_a2 H, wo_n2 H, wo_a3 H, wo_n3 H, wo_a4 H, wo_n4 H, wo_a5 H, wo_n5 H, wo_a6 H, wo_n6 H, wo_a7 H, wo_n7 H, wo_a8 H, wo_n8 H, u2_e, Nat.left_eq_add, Nat.add_eq_left, Nat.add_left_cancel_iff, Nat.reduceEqDiff, if_true, if_false, reduceIte, r9, h1, in_nI hc (show 6 < 2 ^ 31 by decide), tn_nI (show sCn σ < 2 ^ 31 by omega), true_or, and_self, nI_1]
  apply k
  · intro x hx
    funext y
    simp only [u2_e]
    rw [if_neg (by omega), if_neg (by omega), if_neg (by omega), if_neg (by omega), if_neg (by omega)]
  · have key : ∀ (f : Nat → Nat) (v : Nat) (q : Nat → Int32), (∀ i, i < sCn σ → q i = nI (f i)) → ∀ i, i < sCn σ + 1 → (if i = sCn σ then nI v else q i) = nI (am_u1 f (sCn σ) v i) := by
      intro f v q hq i hi
      unfold am_u1
      by_cases z : i = sCn σ
      · rw [if_pos z, if_pos z]
      · rw [if_neg z, if_neg z]; exact hq i (by omega)
    refine ⟨fun j hj => ?_, fun j hj => ?_, fun j hj => ?_, fun i hi => ?_, fun i hi => ?_, fun i hi => ?_, fun i hi => ?_, fun j hj => ?_, ?_, ?_, ?_, ?_⟩
    · simp only [u2_e, Nat.left_eq_add, Nat.add_eq_left, Nat.add_left_cancel_iff, Nat.reduceEqDiff, if_true, if_false, reduceIte]; exact r1 j hj
    · simp only [u2_e, Nat.left_eq_add, Nat.add_eq_left, Nat.add_left_cancel_iff, Nat.reduceEqDiff, if_true, if_false, reduceIte]; exact r2 j hj
    · simp only [u2_e, Nat.left_eq_add, Nat.add_eq_left, Nat.add_left_cancel_iff, Nat.reduceEqDiff, if_true, if_false, reduceIte]; exact r3 j hj
    · simp only [u2_e, Nat.left_eq_add, Nat.add_eq_left, Nat.add_left_cancel_iff, Nat.reduceEqDiff, if_true, if_false, reduceIte]; exact key _ _ _ r4 i hi
    · simp only [u2_e, Nat.left_eq_add, Nat.add_eq_left, Nat.add_left_cancel_iff, Nat.reduceEqDiff, if_true, if_false, reduceIte]; exact key _ _ _ r5 i hi
    · simp only [u2_e, Nat.left_eq_add, Nat.add_eq_left, Nat.add_left_cancel_iff, Nat.reduceEqDiff, if_true, if_false, reduceIte]; exact key _ _ _ r6 i hi
    · simp only [u2_e, Nat.left_eq_add, Nat.add_eq_left, Nat.add_left_cancel_iff, Nat.reduceEqDiff, if_true, if_false, reduceIte]; exact key _ _ _ r7 i hi
    · simp only [u2_e, Nat.left_eq_add, Nat.add_eq_left, Nat.add_left_cancel_iff, Nat.reduceEqDiff, if_true, if_false, reduceIte]; exact r8 j hj
    · simp only [u2_e, Nat.left_eq_add, Nat.add_eq_left, Nat.add_left_cancel_iff, Nat.reduceEqDiff, if_true, if_false, reduceIte]; rfl
    · simp only [u2_e, Nat.left_eq_add, Nat.add_eq_left, Nat.add_left_cancel_iff, Nat.reduceEqDiff, if_true, if_false, reduceIte]; exact r10
    · simp only [u2_e, Nat.left_eq_add, Nat.add_eq_left, Nat.add_left_cancel_iff, Nat.reduceEqDiff, if_true, if_false, reduceIte]; exact r11
    · simp only [u2_e, Nat.left_eq_add, Nat.add_eq_left, Nat.add_left_cancel_iff, Nat.reduceEqDiff, if_true, if_false, reduceIte]; exact r12
theorem il_10 : (10 : Int32) = iI 10 := rfl
theorem jl_m : (1000000 : Int64) = jI 1000000 := rfl
theorem jl_h : (100000 : Int64) = jI 100000 := rfl
theorem c_77 (H : wo g w) (O : wOK σ) (hw : wR ci w σ) {k : Nat} (hk : k < sCn σ) : X d 77 (am_bk 77 0) [.ref w, .int (nI k)] [] (ci, cj, g) Q ↔ Q (some (.long (jI (gain σ k)))) (ci, cj, g) := by
  have hc := O.2.1
  have h1 := (O.2.2.1 k hk).2.2.2.1
  simp only [bk_77_0, bq_77_0, G_13, X_push, X_goto, X_fall, X_ifeq, X_ifne, X_iflt, X_ifge, X_ifgt, X_ifle, X_iceq, X_icne, X_iclt, X_icge, X_icgt, X_icle, X_ifnull, X_ifnonnull, X_switch, X_ireturn, X_lreturn, X_areturn, X_return, X_zreturn, X_iload, X_lload, X_aload, X_istore, X_astore, X_lstore, X_iinc, X_iadd, X_isub, X_imul, X_idiv, X_irem, X_iand, X_ior, X_ishl, X_ishr, X_iushr, X_ladd, X_lsub, X_lmul, X_ldiv, X_land, X_lor, X_lshl, X_lcmp, X_ineg, X_i2l, X_l2i, X_i2b, X_i2s, X_i2c, X_dupr, X_dupi, X_dup_x1, X_dup2, X_popi, X_popr, X_iaload, X_baload, X_laload, X_aaload, X_iastore, X_bastore, X_lastore, X_aastore, X_arraylength, am_wt_0, am_wt_int, am_wt_long, am_wt_ref, List.getElem?_cons_zero, List.getElem?_cons_succ, am_s1, am_s2, am_kill, List.set_cons_zero, List.set_cons_succ, List.length_cons, List.length_nil, Int.reduceToNat, Nat.reduceAdd, Nat.reduceLeDiff, Nat.reduceLT, Option.toList_some, Option.toList_none, List.cons_append, List.nil_append, true_and, and_true, true_or, or_true, false_or, or_false, and_self, false_and, not_false_eq_true, not_true_eq_false, wo_k H, wo_r0 H, wo_r1 H, wo_r2 H, wo_r3 H, wo_r4 H, wo_r5 H, wo_r6 H, wo_r7 H, wo_a1 H, wo_n1 H, wo_a2 H, wo_n2 H, wo_a3 H, wo_n3 H, wo_a4 H, wo_n4 H, wo_a5 H, wo_n5 H, wo_a6 H, wo_n6 H, wo_a7 H, wo_n7 H, wo_a8 H, wo_n8 H, in_nI (show k < 6 by omega) (show 6 < 2 ^ 31 by decide), tn_nI (show k < 2 ^ 31 by omega), hw.2.2.2.2.2.1 k hk, true_or, and_self, nI_j (show sWo σ k < 2147483648 by omega), jl_m, jI_mul]
  rfl
theorem c_78 (H : wo g w) (O : wOK σ) (hw : wR ci w σ) {k : Nat} (hk : k < sCn σ) : X d 78 (am_bk 78 0) [.ref w, .int (nI k)] [] (ci, cj, g) Q ↔ Q (some (.long (jI (lost σ k)))) (ci, cj, g) := by
  have hc := O.2.1
  have hl := lost_in O hk
  simp only [bk_78_0, bq_78_0, G_17, G_13, G_18, G_14, X_push, X_goto, X_fall, X_ifeq, X_ifne, X_iflt, X_ifge, X_ifgt, X_ifle, X_iceq, X_icne, X_iclt, X_icge, X_icgt, X_icle, X_ifnull, X_ifnonnull, X_switch, X_ireturn, X_lreturn, X_areturn, X_return, X_zreturn, X_iload, X_lload, X_aload, X_istore, X_astore, X_lstore, X_iinc, X_iadd, X_isub, X_imul, X_idiv, X_irem, X_iand, X_ior, X_ishl, X_ishr, X_iushr, X_ladd, X_lsub, X_lmul, X_ldiv, X_land, X_lor, X_lshl, X_lcmp, X_ineg, X_i2l, X_l2i, X_i2b, X_i2s, X_i2c, X_dupr, X_dupi, X_dup_x1, X_dup2, X_popi, X_popr, X_iaload, X_baload, X_laload, X_aaload, X_iastore, X_bastore, X_lastore, X_aastore, X_arraylength, am_wt_0, am_wt_int, am_wt_long, am_wt_ref, List.getElem?_cons_zero, List.getElem?_cons_succ, am_s1, am_s2, am_kill, List.set_cons_zero, List.set_cons_succ, List.length_cons, List.length_nil, Int.reduceToNat, Nat.reduceAdd, Nat.reduceLeDiff, Nat.reduceLT, Option.toList_some, Option.toList_none, List.cons_append, List.nil_append, true_and, and_true, true_or, or_true, false_or, or_false, and_self, false_and, not_false_eq_true, not_true_eq_false, wo_k H, wo_r0 H, wo_r1 H, wo_r2 H, wo_r3 H, wo_r4 H, wo_r5 H, wo_r6 H, wo_r7 H, wo_a1 H, wo_n1 H, wo_a2 H, wo_n2 H, wo_a3 H, wo_n3 H, wo_a4 H, wo_n4 H, wo_a5 H, wo_n5 H, wo_a6 H, wo_n6 H, wo_a7 H, wo_n7 H, wo_a8 H, wo_n8 H, in_nI (show k < 6 by omega) (show 6 < 2 ^ 31 by decide), tn_nI (show k < 2 ^ 31 by omega), hw.2.2.2.2.2.1 k hk, hw.2.2.2.2.2.2.1 k hk, hw.2.2.2.2.2.2.2.2.2.1, hw.2.2.2.2.2.2.2.2.2.2.1, true_or, and_self]
  simp only [nI_iI, il_10, iI_sub, iI_mul, iI_l (show -2147483648 ≤ (sNe σ : Int) * ((sWo σ k : Int) - sWa σ) - (10 - (sNe σ : Int)) * sBa σ k by omega) (show (sNe σ : Int) * ((sWo σ k : Int) - sWa σ) - (10 - (sNe σ : Int)) * sBa σ k < 2147483648 by omega), jl_h, jI_mul]
  rfl
/-- outcome of none -/
theorem c_79n (H : wo g w) (O : wOK σ) (hw : wR ci w σ) {k s a f n : Nat} (hk : k < sCn σ) (ha : gk g a = 21) (hn : gn g a = n) (hs : f + s < n) (hn2 : n < 2 ^ 30) : X (d + 1) 79 (am_bk 79 0) [.ref w, .int (nI k), .int (-1), .int (nI s), .ref a, .int (nI f)] [] (ci, cj, g) Q ↔ Q (some (.long (jI (lost σ k) + cj a (f + s)))) (ci, cj, g) := by
  simp only [bk_79_0, bq_79_0, bk_79_1, bq_79_1, bk_79_2, bq_79_2, X_push, X_goto, X_fall, X_ifeq, X_ifne, X_iflt, X_ifge, X_ifgt, X_ifle, X_iceq, X_icne, X_iclt, X_icge, X_icgt, X_icle, X_ifnull, X_ifnonnull, X_switch, X_ireturn, X_lreturn, X_areturn, X_return, X_zreturn, X_iload, X_lload, X_aload, X_istore, X_astore, X_lstore, X_iinc, X_iadd, X_isub, X_imul, X_idiv, X_irem, X_iand, X_ior, X_ishl, X_ishr, X_iushr, X_ladd, X_lsub, X_lmul, X_ldiv, X_land, X_lor, X_lshl, X_lcmp, X_ineg, X_i2l, X_l2i, X_i2b, X_i2s, X_i2c, X_dupr, X_dupi, X_dup_x1, X_dup2, X_popi, X_popr, X_iaload, X_baload, X_laload, X_aaload, X_iastore, X_bastore, X_lastore, X_aastore, X_arraylength, am_wt_0, am_wt_int, am_wt_long, am_wt_ref, List.getElem?_cons_zero, List.getElem?_cons_succ, am_s1, am_s2, am_kill, List.set_cons_zero, List.set_cons_succ, List.length_cons, List.length_nil, Int.reduceToNat, Nat.reduceAdd, Nat.reduceLeDiff, Nat.reduceLT, Option.toList_some, Option.toList_none, List.cons_append, List.nil_append, true_and, and_true, true_or, or_true, false_or, or_false, and_self, false_and, not_false_eq_true, not_true_eq_false, wo_k H, wo_r0 H, wo_r1 H, wo_r2 H, wo_r3 H, wo_r4 H, wo_r5 H, wo_r6 H, wo_r7 H, wo_a1 H, wo_n1 H, wo_a2 H, wo_n2 H, wo_a3 H, wo_n3 H, wo_a4 H, wo_n4 H, wo_a5 H, wo_n5 H, wo_a6 H, wo_n6 H, wo_a7 H, wo_n7 H, wo_a8 H, wo_n8 H, C_78, c_78 H O hw hk, C_77, c_77 H O hw hk, not_true_eq_false, if_false, nI_add, ha, hn, in_nI hs (show n < 2 ^ 31 by omega), tn_nI (show f + s < 2 ^ 31 by omega), and_self]
theorem c_79 (G : so g) (S : sc ci) (H : wo g w) (O : wOK σ) (hw : wR ci w σ) {k s a f n j : Nat} (hk : k < sCn σ) (ha : gk g a = 21) (hn : gn g a = n) (hs : f + s < n) (hn2 : n < 2 ^ 30) (hj : j < 3) (hp : stp j ≤ s) : X (d + 1) 79 (am_bk 79 0) [.ref w, .int (nI k), .int (nI j), .int (nI s), .ref a, .int (nI f)] [] (ci, cj, g) Q ↔ Q (some (.long (jI (gain σ k) + cj a (f + (s - stp j))))) (ci, cj, g) := by
  have h1 : ¬ nI j = -1 := fun z => by
    have := congrArg Int32.toInt z
    rw [nI_ti (by omega)] at this
    have h2 : (-1 : Int32).toInt = -1 := rfl
    omega
  have h3 : f + s - stp j = f + (s - stp j) := by omega
  simp only [bk_79_0, bq_79_0, bk_79_1, bq_79_1, bk_79_2, bq_79_2, X_push, X_goto, X_fall, X_ifeq, X_ifne, X_iflt, X_ifge, X_ifgt, X_ifle, X_iceq, X_icne, X_iclt, X_icge, X_icgt, X_icle, X_ifnull, X_ifnonnull, X_switch, X_ireturn, X_lreturn, X_areturn, X_return, X_zreturn, X_iload, X_lload, X_aload, X_istore, X_astore, X_lstore, X_iinc, X_iadd, X_isub, X_imul, X_idiv, X_irem, X_iand, X_ior, X_ishl, X_ishr, X_iushr, X_ladd, X_lsub, X_lmul, X_ldiv, X_land, X_lor, X_lshl, X_lcmp, X_ineg, X_i2l, X_l2i, X_i2b, X_i2s, X_i2c, X_dupr, X_dupi, X_dup_x1, X_dup2, X_popi, X_popr, X_iaload, X_baload, X_laload, X_aaload, X_iastore, X_bastore, X_lastore, X_aastore, X_arraylength, am_wt_0, am_wt_int, am_wt_long, am_wt_ref, List.getElem?_cons_zero, List.getElem?_cons_succ, am_s1, am_s2, am_kill, List.set_cons_zero, List.set_cons_succ, List.length_cons, List.length_nil, Int.reduceToNat, Nat.reduceAdd, Nat.reduceLeDiff, Nat.reduceLT, Option.toList_some, Option.toList_none, List.cons_append, List.nil_append, true_and, and_true, true_or, or_true, false_or, or_false, and_self, false_and, not_false_eq_true, not_true_eq_false, wo_k H, wo_r0 H, wo_r1 H, wo_r2 H, wo_r3 H, wo_r4 H, wo_r5 H, wo_r6 H, wo_r7 H, wo_a1 H, wo_n1 H, wo_a2 H, wo_n2 H, wo_a3 H, wo_n3 H, wo_a4 H, wo_n4 H, wo_a5 H, wo_n5 H, wo_a6 H, wo_n6 H, wo_a7 H, wo_n7 H, wo_a8 H, wo_n8 H, so_k G, so_n G, C_78, c_78 H O hw hk, C_77, c_77 H O hw hk, h1, not_false_eq_true, if_true, nI_add, ha, hn, in_nI hj (show 3 < 2 ^ 31 by decide), tn_nI (show j < 2 ^ 31 by omega), sc_1 S hj, or_true, pk_sub (show stp j ≤ f + s by omega), h3, in_nI (show f + (s - stp j) < n by omega) (show n < 2 ^ 31 by omega), tn_nI (show f + (s - stp j) < 2 ^ 31 by omega), and_self]
end WALL3
