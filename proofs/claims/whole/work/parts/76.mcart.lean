/-! THE MODEL: cartfuls, one placing after the other -/
/-- the sizes that are best, from a state on, the last m of k -/
def gz (σ : wS) (V : Nat → Int) (c : Nat → Nat) (k : Nat) : Nat → Nat → Nat → Int
  | 0, _, _ => 0
  | m + 1, s, q => if q = k - (m + 1) then (pz σ (c (k - (m + 1))) s (tlr σ V c k m)).1 else gz σ V c k m (nxS (pz σ (c (k - (m + 1))) s (tlr σ V c k m)).1 s) q
theorem gz_wsz (σ : wS) (V : Nat → Int) (c : Nat → Nat) (k s0 : Nat) : ∀ m, m ≤ k → ∀ q, k - m ≤ q → q < k → gz σ V c k m (wlk σ V c k s0 (k - m)) q = wsz σ V c k s0 q := by
  intro m
  induction m with
  | zero => intro _ q h1 h2; omega
  | succ m ih =>
    intro hm q h1 h2
    show (if q = k - (m + 1) then _ else _) = _
    by_cases z : q = k - (m + 1)
    · rw [if_pos z, z]
      show (pz σ (c (k - (m + 1))) _ (tlr σ V c k m)).1 = (pz σ (c (k - (m + 1))) _ (tlr σ V c k (k - (k - (m + 1) + 1)))).1
      rw [show k - (k - (m + 1) + 1) = m by omega]
    · rw [if_neg z]
      have e := ih (by omega) q (by omega) h2
      have w : wlk σ V c k s0 (k - m) = nxS (pz σ (c (k - (m + 1))) (wlk σ V c k s0 (k - (m + 1))) (tlr σ V c k m)).1 (wlk σ V c k s0 (k - (m + 1))) := by
        obtain ⟨i, hi⟩ : ∃ i, k - m = i + 1 := ⟨k - m - 1, by omega⟩
        have hi2 : k - (m + 1) = i := by omega
        rw [hi, hi2]
        show nxS (pz σ (c i) _ (tlr σ V c k (k - (i + 1)))).1 _ = _
        rw [show k - (i + 1) = m by omega]
      rw [w] at e
      exact e
abbrev plS : Type := Bool × Int × (Nat → Int)
def upS (S : plS) (B : Int) (f : Nat → Int) : plS := if S.1 = false ∨ S.2.1 < B then (true, B, f) else S
theorem upS_t (S : plS) {B1 B2 : Int} (f1 f2 : Nat → Int) (h : B1 < B2) : upS (upS S B1 f1) B2 f2 = upS S B2 f2 := by
  unfold upS
  by_cases c : S.1 = false ∨ S.2.1 < B1
  · rw [if_pos c, if_pos (Or.inr h), if_pos (by rcases c with c | c; exact Or.inl c; exact Or.inr (by omega))]
  · rw [if_neg c]
theorem upS_f (S : plS) {B1 B2 : Int} (f1 f2 : Nat → Int) (h : B2 ≤ B1) : upS (upS S B1 f1) B2 f2 = upS S B1 f1 := by
  unfold upS
  by_cases c : S.1 = false ∨ S.2.1 < B1
  · rw [if_pos c, if_neg (by intro z; rcases z with z | z; cases z; exact absurd z (by show ¬ B1 < B2; omega))]
  · rw [if_neg c, if_neg (by intro z; rcases z with z | z; exact c (Or.inl z); exact c (Or.inr (by omega)))]
/-- the options of one parcel, the first j sizes -/
def pzm (σ : wS) (k s : Nat) (V : Nat → Int) : Nat → Int × Int
  | 0 => (-1, lost σ k + V s)
  | j + 1 => if sSz σ k ≤ j then pzS σ k s V j (pzm σ k s V j) else pzm σ k s V j
theorem pzm_3 {σ : wS} (O : wOK σ) {k : Nat} (hk : k < sCn σ) (s : Nat) (V : Nat → Int) : pzm σ k s V 3 = pz σ k s V := by
  have hz := (O.2.2.1 k hk).1
  have e : sSz σ k = 0 ∨ sSz σ k = 1 ∨ sSz σ k = 2 := by omega
  unfold pz
  rcases e with e | e | e <;> simp only [pzm, pzF, e, Nat.reduceSub, Nat.reduceAdd, Nat.reduceLeDiff, Nat.le_refl, if_true, if_false, Nat.sub_zero, Nat.zero_add]
theorem pzm_bd {σ : wS} (O : wOK σ) {k s : Nat} (hk : k < sCn σ) (hs : isS σ s = true) {V : Nat → Int} {M : Nat} (hb : bV σ V M) : ∀ j, j ≤ 3 → ((pzm σ k s V j).2).natAbs ≤ M + 200000000 ∧ ((pzm σ k s V j).1 = -1 ∨ ∃ i : Nat, i < 3 ∧ (pzm σ k s V j).1 = (i : Int)) := by
  intro j
  induction j with
  | zero =>
    intro _
    have a := lost_bd O hk
    have b := hb s hs
    exact ⟨by show (lost σ k + V s).natAbs ≤ _; omega, Or.inl rfl⟩
  | succ j ih =>
    intro hj
    obtain ⟨i1, i2⟩ := ih (by omega)
    unfold pzm
    split
    · unfold pzS
      split
      · rename_i h
        have a := gain_bd O hk
        have b := hb _ (isS_sub hs (show j < 3 by omega) h.1).1
        exact ⟨by dsimp only; omega, Or.inr ⟨j, by omega, rfl⟩⟩
      · exact ⟨i1, i2⟩
    · exact ⟨i1, i2⟩
def stP (ci : Nat → Nat → Int32) (cj : Nat → Nat → Int64) (k : Nat) (S : plS) : Prop := ci 73 34 = bI S.1 ∧ (S.1 = true → cj 73 33 = jI S.2.1 ∧ (S.2.1).natAbs ≤ 20000000000 ∧ ∀ q, q < k → ci 140 q = iI (S.2.2 q))
def frP (ci : Nat → Nat → Int32) (cj : Nat → Nat → Int64) (ci' : Nat → Nat → Int32) (cj' : Nat → Nat → Int64) : Prop := (∀ x, x ≠ 73 → x ≠ 139 → x ≠ 140 → ci' x = ci x) ∧ (∀ i, i ≠ 34 → ci' 73 i = ci 73 i) ∧ (∀ x, x ≠ 73 → cj' x = cj x)
theorem frP_r (ci : Nat → Nat → Int32) (cj : Nat → Nat → Int64) : frP ci cj ci cj := ⟨fun _ _ _ _ => rfl, fun _ _ => rfl, fun _ _ => rfl⟩
theorem frP_tr {ci ci1 ci2 : Nat → Nat → Int32} {cj cj1 cj2 : Nat → Nat → Int64} (h1 : frP ci cj ci1 cj1) (h2 : frP ci1 cj1 ci2 cj2) : frP ci cj ci2 cj2 := ⟨fun x a b c => by rw [h2.1 x a b c]; exact h1.1 x a b c, fun i a => by rw [h2.2.1 i a]; exact h1.2.1 i a, fun x a => by rw [h2.2.2 x a]; exact h1.2.2 x a⟩
theorem frP_u (ci : Nat → Nat → Int32) (cj : Nat → Nat → Int64) (i : Nat) (v : Int32) : frP ci cj (am_u2 ci 139 i v) cj := ⟨fun x _ b _ => u2_a _ _ b, fun i _ => by rw [u2_a _ _ (by decide)], fun _ _ => rfl⟩
theorem mW_P {ci ci' : Nat → Nat → Int32} {cj cj' : Nat → Nat → Int64} {σ : wS} (O : wOK σ) (f : frP ci cj ci' cj') (h : mW ci 73 σ) : mW ci' 73 σ := mW_fr O (fun x a b => f.1 x (by omega) (by omega) (by omega)) (f.2.1 13 (by decide)) (f.2.1 17 (by decide)) h
section MCART
variable {M0 : Nat → Prop} {ci0 : Nat → Nat → Int32} {cj0 : Nat → Nat → Int64} {g : am_G} {T : tS} {σ : wS}
/-- place(i, k, state, sum, n) -/
theorem c_199 (H : mo g 73) (O : wOK σ) {k n M : Nat} {V : Nat → Int} {c : Nat → Nat} (hk6 : k ≤ 6) (hc : ∀ i, i < k → c i < sCn σ) (hn : n < 25) (hM : M ≤ 5000000000) (hb : bV σ V M) : ∀ m, m ≤ k → ∀ (d : Nat) (ci : Nat → Nat → Int32) (cj : Nat → Nat → Int64) (s : Nat) (u : Int) (S : plS) (tz : Nat → Int) (Q : Option Value → am_H → Prop), isS σ s = true → u.natAbs ≤ (k - m) * 200000000 → mW ci 73 σ → hV (112 + n) σ cj V → (∀ i, i < k → ci 138 i = nI (c i)) → stP ci cj k S → (∀ q, q < k - m → ci 139 q = iI (tz q)) → (∀ ci' cj', frP ci cj ci' cj' → (∀ q, q < k - m → ci' 139 q = iI (tz q)) → stP ci' cj' k (upS S (u + tlr σ V c k m s) (fun q => if q < k - m then tz q else gz σ V c k m s q)) → Q none (ci', cj', g)) → X (d + m + 3) 199 (am_bk 199 0) [.ref 73, .int (nI (k - m)), .int (nI k), .int (nI s), .long (jI u), .null, .int (nI n), .null, .null] [] (ci, cj, g) Q := by
  have hcn := O.2.1
  intro m
  induction m with
  | zero =>
    intro _ d ci cj s u S tz Q hs hu hw hv hcc hS htz q
    have h125 := isS_lt hs
    have bs := hb s hs
    have e1 : (nI (k - 0) = nI k) = True := eq_true (by rw [Nat.sub_zero])
    have et : tlr σ V c k 0 s = V s := rfl
    rw [et] at q
    have vs : cj (112 + n) s = jI (V s) := hv s hs
    have upd : (S.1 = false ∨ S.2.1 < u + V s) → X (d + 0 + 3) 199 (am_bk 199 1) [.ref 73, .int (nI (k - 0)), .int (nI k), .int (nI s), .long (jI u), .null, .int (nI n), .long (jI (u + V s)), .null] [] (ci, cj, g) Q := by
      intro h
      have eu : upS S (u + V s) (fun q => if q < k - 0 then tz q else gz σ V c k 0 s q) = (true, u + V s, fun q => if q < k - 0 then tz q else gz σ V c k 0 s q) := if_pos h
      rw [eu] at q
      simp only [bk_199_1, bq_199_1, P_70, P_71, G_68, G_69, X_push, X_goto, X_fall, X_ifeq, X_ifne, X_iflt, X_ifge, X_ifgt, X_ifle, X_iceq, X_icne, X_iclt, X_icge, X_icgt, X_icle, X_ifnull, X_ifnonnull, X_switch, X_ireturn, X_lreturn, X_areturn, X_return, X_zreturn, X_iload, X_lload, X_aload, X_istore, X_astore, X_lstore, X_iinc, X_iadd, X_isub, X_imul, X_idiv, X_irem, X_iand, X_ior, X_ishl, X_ishr, X_iushr, X_ladd, X_lsub, X_lmul, X_ldiv, X_land, X_lor, X_lshl, X_lcmp, X_ineg, X_i2l, X_l2i, X_i2b, X_i2s, X_i2c, X_dupr, X_dupi, X_dup_x1, X_dup2, X_popi, X_popr, X_iaload, X_baload, X_laload, X_aaload, X_iastore, X_bastore, X_lastore, X_aastore, X_arraylength, am_wt_0, am_wt_int, am_wt_long, am_wt_ref, List.getElem?_cons_zero, List.getElem?_cons_succ, am_s1, am_s2, am_kill, List.set_cons_zero, List.set_cons_succ, List.length_cons, List.length_nil, Int.reduceToNat, Nat.reduceAdd, Nat.reduceLeDiff, Nat.reduceLT, Option.toList_some, Option.toList_none, List.cons_append, List.nil_append, true_and, and_true, true_or, or_true, false_or, or_false, and_self, false_and, not_false_eq_true, not_true_eq_false, m7_k H, m7_r0 H, m7_r1 H, m7_r2 H, m7_r3 H, m7_r4 H, m7_r5 H, m7_r6 H, m7_r7 H, m7_r9 H, m7_r10 H, m7_r11 H, m7_r12 H, m7_r14 H, m7_r15 H, m7_r16 H, m7_r25 H, m7_r27 H, m7_r28 H, m7_r29 H, m7_r30 H, m7_r31 H, m7_r32 H, m7_a1 H, m7_n1 H, m7_a2 H, m7_n2 H, m7_a3 H, m7_n3 H, m7_a4 H, m7_n4 H, m7_a13 H, m7_n13 H, m7_a14 H, m7_n14 H, m7_a15 H, m7_n15 H, m7_a16 H, m7_n16 H, m7_a17 H, m7_n17 H, m7_a18 H, m7_n18 H, m7_a19 H, m7_n19 H, m7_a20 H, m7_n20 H, m7_a21 H, m7_n21 H, m7_a28 H, m7_n28 H, m7_a29 H, m7_n29 H, m7_a30 H, m7_n30 H, m7_a31 H, m7_n31 H, m7_a38 H, m7_n38 H, m7_a64 H, m7_n64 H, m7_a65 H, m7_n65 H, m7_a66 H, m7_n66 H, m7_a67 H, m7_n67 H, i10, Nat.le_refl, C_225]
      refine c_225 (m7_a66 H) (m7_a67 H) (m7_n66 H) (m7_n67 H) (by decide) (by decide) ?_
      intro ci1 f1 f2
      simp only [bk_199_2, bq_199_2, X_push, X_goto, X_fall, X_ifeq, X_ifne, X_iflt, X_ifge, X_ifgt, X_ifle, X_iceq, X_icne, X_iclt, X_icge, X_icgt, X_icle, X_ifnull, X_ifnonnull, X_switch, X_ireturn, X_lreturn, X_areturn, X_return, X_zreturn, X_iload, X_lload, X_aload, X_istore, X_astore, X_lstore, X_iinc, X_iadd, X_isub, X_imul, X_idiv, X_irem, X_iand, X_ior, X_ishl, X_ishr, X_iushr, X_ladd, X_lsub, X_lmul, X_ldiv, X_land, X_lor, X_lshl, X_lcmp, X_ineg, X_i2l, X_l2i, X_i2b, X_i2s, X_i2c, X_dupr, X_dupi, X_dup_x1, X_dup2, X_popi, X_popr, X_iaload, X_baload, X_laload, X_aaload, X_iastore, X_bastore, X_lastore, X_aastore, X_arraylength, am_wt_0, am_wt_int, am_wt_long, am_wt_ref, List.getElem?_cons_zero, List.getElem?_cons_succ, am_s1, am_s2, am_kill, List.set_cons_zero, List.set_cons_succ, List.length_cons, List.length_nil, Int.reduceToNat, Nat.reduceAdd, Nat.reduceLeDiff, Nat.reduceLT, Option.toList_some, Option.toList_none, List.cons_append, List.nil_append, true_and, and_true, true_or, or_true, false_or, or_false, and_self, false_and, not_false_eq_true, not_true_eq_false]
      refine q _ _ ⟨fun x a b c => ?_, fun i hi => ?_, fun x a => u2_a _ _ a⟩ (fun p hp => ?_) ⟨?_, fun _ => ⟨u2_s _ _ _ _, ?_, fun p hp => ?_⟩⟩
      · rw [f1 x c, u2_a _ _ a]
      · rw [f1 73 (by decide), u2_i _ _ hi]
      · rw [f1 139 (by decide), u2_a _ _ (by decide)]; exact htz p hp
      · rw [f1 73 (by decide), u2_s]; rfl
      · show (u + V s).natAbs ≤ _; omega
      · rw [f2 p (by omega), u2_a _ _ (by decide), htz p (by omega)]
        show iI (tz p) = iI (if p < k - 0 then tz p else gz σ V c k 0 s p)
        rw [if_pos (by omega)]
    rw [bk_199_0]
    cases hS1 : S.1 with
    | false =>
      have e34 : ci 73 34 = 0 := by rw [hS.1, hS1]; rfl
      simp only [bq_199_0, G_65, G_71, X_push, X_goto, X_fall, X_ifeq, X_ifne, X_iflt, X_ifge, X_ifgt, X_ifle, X_iceq, X_icne, X_iclt, X_icge, X_icgt, X_icle, X_ifnull, X_ifnonnull, X_switch, X_ireturn, X_lreturn, X_areturn, X_return, X_zreturn, X_iload, X_lload, X_aload, X_istore, X_astore, X_lstore, X_iinc, X_iadd, X_isub, X_imul, X_idiv, X_irem, X_iand, X_ior, X_ishl, X_ishr, X_iushr, X_ladd, X_lsub, X_lmul, X_ldiv, X_land, X_lor, X_lshl, X_lcmp, X_ineg, X_i2l, X_l2i, X_i2b, X_i2s, X_i2c, X_dupr, X_dupi, X_dup_x1, X_dup2, X_popi, X_popr, X_iaload, X_baload, X_laload, X_aaload, X_iastore, X_bastore, X_lastore, X_aastore, X_arraylength, am_wt_0, am_wt_int, am_wt_long, am_wt_ref, List.getElem?_cons_zero, List.getElem?_cons_succ, am_s1, am_s2, am_kill, List.set_cons_zero, List.set_cons_succ, List.length_cons, List.length_nil, Int.reduceToNat, Nat.reduceAdd, Nat.reduceLeDiff, Nat.reduceLT, Option.toList_some, Option.toList_none, List.cons_append, List.nil_append, true_and, and_true, true_or, or_true, false_or, or_false, and_self, false_and, not_false_eq_true, not_true_eq_false, m7_k H, m7_r0 H, m7_r1 H, m7_r2 H, m7_r3 H, m7_r4 H, m7_r5 H, m7_r6 H, m7_r7 H, m7_r9 H, m7_r10 H, m7_r11 H, m7_r12 H, m7_r14 H, m7_r15 H, m7_r16 H, m7_r25 H, m7_r27 H, m7_r28 H, m7_r29 H, m7_r30 H, m7_r31 H, m7_r32 H, m7_a1 H, m7_n1 H, m7_a2 H, m7_n2 H, m7_a3 H, m7_n3 H, m7_a4 H, m7_n4 H, m7_a13 H, m7_n13 H, m7_a14 H, m7_n14 H, m7_a15 H, m7_n15 H, m7_a16 H, m7_n16 H, m7_a17 H, m7_n17 H, m7_a18 H, m7_n18 H, m7_a19 H, m7_n19 H, m7_a20 H, m7_n20 H, m7_a21 H, m7_n21 H, m7_a28 H, m7_n28 H, m7_a29 H, m7_n29 H, m7_a30 H, m7_n30 H, m7_a31 H, m7_n31 H, m7_a38 H, m7_n38 H, m7_a64 H, m7_n64 H, m7_a65 H, m7_n65 H, m7_a66 H, m7_n66 H, m7_a67 H, m7_n67 H, e1, not_true_eq_false, if_false, in_nI hn (show 25 < 2 ^ 31 by decide), tn_nI (show n < 2 ^ 31 by omega), m7_s38 H n hn, m7_t38 H n hn, m7_u38 H n hn, in_nI h125 (show 125 < 2 ^ 31 by decide), tn_nI (show s < 2 ^ 31 by omega), vs, jI_add, e34, if_true]
      exact upd (Or.inl hS1)
    | true =>
      have e34 : ci 73 34 = 1 := by rw [hS.1, hS1]; rfl
      obtain ⟨s1, s2, s3⟩ := hS.2 hS1
      by_cases cc : S.2.1 < u + V s
      · have c' : ¬ u + V s ≤ S.2.1 := by omega
        simp only [bq_199_0, G_65, G_70, G_71, X_push, X_goto, X_fall, X_ifeq, X_ifne, X_iflt, X_ifge, X_ifgt, X_ifle, X_iceq, X_icne, X_iclt, X_icge, X_icgt, X_icle, X_ifnull, X_ifnonnull, X_switch, X_ireturn, X_lreturn, X_areturn, X_return, X_zreturn, X_iload, X_lload, X_aload, X_istore, X_astore, X_lstore, X_iinc, X_iadd, X_isub, X_imul, X_idiv, X_irem, X_iand, X_ior, X_ishl, X_ishr, X_iushr, X_ladd, X_lsub, X_lmul, X_ldiv, X_land, X_lor, X_lshl, X_lcmp, X_ineg, X_i2l, X_l2i, X_i2b, X_i2s, X_i2c, X_dupr, X_dupi, X_dup_x1, X_dup2, X_popi, X_popr, X_iaload, X_baload, X_laload, X_aaload, X_iastore, X_bastore, X_lastore, X_aastore, X_arraylength, am_wt_0, am_wt_int, am_wt_long, am_wt_ref, List.getElem?_cons_zero, List.getElem?_cons_succ, am_s1, am_s2, am_kill, List.set_cons_zero, List.set_cons_succ, List.length_cons, List.length_nil, Int.reduceToNat, Nat.reduceAdd, Nat.reduceLeDiff, Nat.reduceLT, Option.toList_some, Option.toList_none, List.cons_append, List.nil_append, true_and, and_true, true_or, or_true, false_or, or_false, and_self, false_and, not_false_eq_true, not_true_eq_false, m7_k H, m7_r0 H, m7_r1 H, m7_r2 H, m7_r3 H, m7_r4 H, m7_r5 H, m7_r6 H, m7_r7 H, m7_r9 H, m7_r10 H, m7_r11 H, m7_r12 H, m7_r14 H, m7_r15 H, m7_r16 H, m7_r25 H, m7_r27 H, m7_r28 H, m7_r29 H, m7_r30 H, m7_r31 H, m7_r32 H, m7_a1 H, m7_n1 H, m7_a2 H, m7_n2 H, m7_a3 H, m7_n3 H, m7_a4 H, m7_n4 H, m7_a13 H, m7_n13 H, m7_a14 H, m7_n14 H, m7_a15 H, m7_n15 H, m7_a16 H, m7_n16 H, m7_a17 H, m7_n17 H, m7_a18 H, m7_n18 H, m7_a19 H, m7_n19 H, m7_a20 H, m7_n20 H, m7_a21 H, m7_n21 H, m7_a28 H, m7_n28 H, m7_a29 H, m7_n29 H, m7_a30 H, m7_n30 H, m7_a31 H, m7_n31 H, m7_a38 H, m7_n38 H, m7_a64 H, m7_n64 H, m7_a65 H, m7_n65 H, m7_a66 H, m7_n66 H, m7_a67 H, m7_n67 H, e1, not_true_eq_false, if_false, in_nI hn (show 25 < 2 ^ 31 by decide), tn_nI (show n < 2 ^ 31 by omega), m7_s38 H n hn, m7_t38 H n hn, m7_u38 H n hn, in_nI h125 (show 125 < 2 ^ 31 by decide), tn_nI (show s < 2 ^ 31 by omega), vs, jI_add, e34, i10, s1, cmp_le, jI_ti (show -9223372036854775808 ≤ u + V s by omega) (show u + V s < 9223372036854775808 by omega), jI_ti (show -9223372036854775808 ≤ S.2.1 by omega) (show S.2.1 < 9223372036854775808 by omega), c']
        exact upd (Or.inr cc)
      · have c' : u + V s ≤ S.2.1 := by omega
        have eu : upS S (u + V s) (fun q => if q < k - 0 then tz q else gz σ V c k 0 s q) = S := if_neg (fun z => by rcases z with z | z; rw [hS1] at z; cases z; exact cc z)
        rw [eu] at q
        simp only [bq_199_0, bk_199_2, bq_199_2, G_65, G_70, G_71, X_push, X_goto, X_fall, X_ifeq, X_ifne, X_iflt, X_ifge, X_ifgt, X_ifle, X_iceq, X_icne, X_iclt, X_icge, X_icgt, X_icle, X_ifnull, X_ifnonnull, X_switch, X_ireturn, X_lreturn, X_areturn, X_return, X_zreturn, X_iload, X_lload, X_aload, X_istore, X_astore, X_lstore, X_iinc, X_iadd, X_isub, X_imul, X_idiv, X_irem, X_iand, X_ior, X_ishl, X_ishr, X_iushr, X_ladd, X_lsub, X_lmul, X_ldiv, X_land, X_lor, X_lshl, X_lcmp, X_ineg, X_i2l, X_l2i, X_i2b, X_i2s, X_i2c, X_dupr, X_dupi, X_dup_x1, X_dup2, X_popi, X_popr, X_iaload, X_baload, X_laload, X_aaload, X_iastore, X_bastore, X_lastore, X_aastore, X_arraylength, am_wt_0, am_wt_int, am_wt_long, am_wt_ref, List.getElem?_cons_zero, List.getElem?_cons_succ, am_s1, am_s2, am_kill, List.set_cons_zero, List.set_cons_succ, List.length_cons, List.length_nil, Int.reduceToNat, Nat.reduceAdd, Nat.reduceLeDiff, Nat.reduceLT, Option.toList_some, Option.toList_none, List.cons_append, List.nil_append, true_and, and_true, true_or, or_true, false_or, or_false, and_self, false_and, not_false_eq_true, not_true_eq_false, m7_k H, m7_r0 H, m7_r1 H, m7_r2 H, m7_r3 H, m7_r4 H, m7_r5 H, m7_r6 H, m7_r7 H, m7_r9 H, m7_r10 H, m7_r11 H, m7_r12 H, m7_r14 H, m7_r15 H, m7_r16 H, m7_r25 H, m7_r27 H, m7_r28 H, m7_r29 H, m7_r30 H, m7_r31 H, m7_r32 H, m7_a1 H, m7_n1 H, m7_a2 H, m7_n2 H, m7_a3 H, m7_n3 H, m7_a4 H, m7_n4 H, m7_a13 H, m7_n13 H, m7_a14 H, m7_n14 H, m7_a15 H, m7_n15 H, m7_a16 H, m7_n16 H, m7_a17 H, m7_n17 H, m7_a18 H, m7_n18 H, m7_a19 H, m7_n19 H, m7_a20 H, m7_n20 H, m7_a21 H, m7_n21 H, m7_a28 H, m7_n28 H, m7_a29 H, m7_n29 H, m7_a30 H, m7_n30 H, m7_a31 H, m7_n31 H, m7_a38 H, m7_n38 H, m7_a64 H, m7_n64 H, m7_a65 H, m7_n65 H, m7_a66 H, m7_n66 H, m7_a67 H, m7_n67 H, e1, not_true_eq_false, if_false, if_true, in_nI hn (show 25 < 2 ^ 31 by decide), tn_nI (show n < 2 ^ 31 by omega), m7_s38 H n hn, m7_t38 H n hn, m7_u38 H n hn, in_nI h125 (show 125 < 2 ^ 31 by decide), tn_nI (show s < 2 ^ 31 by omega), vs, jI_add, e34, i10, s1, cmp_le, jI_ti (show -9223372036854775808 ≤ u + V s by omega) (show u + V s < 9223372036854775808 by omega), jI_ti (show -9223372036854775808 ≤ S.2.1 by omega) (show S.2.1 < 9223372036854775808 by omega), c']
        exact q _ _ (frP_r _ _) htz hS
  | succ m ih =>
    intro hm d ci cj s u S tz Q hs hu hw hv hcc hS htz q
    have h125 := isS_lt hs
    obtain ⟨i, hi⟩ : ∃ i, k - (m + 1) = i := ⟨_, rfl⟩
    have hik : i < k := by omega
    have hkm : k - m = i + 1 := by omega
    have hkk := hc i hik
    have hci6 : c i < 6 := by omega
    have ihm := ih (by omega)
    rw [hkm] at ihm
    have tb := tlr_bd O hb hc m (by omega)
    have lb := lost_bd O hkk
    have gb := gain_bd O hkk
    have hwo := (O.2.2.1 (c i) hkk).2.2.2.1
    rw [hi] at hu htz q ⊢
    have et : tlr σ V c k (m + 1) s = (pz σ (c i) s (tlr σ V c k m)).2 := by
      show (pz σ (c (k - (m + 1))) s (tlr σ V c k m)).2 = _
      rw [hi]
    have eg : (fun q => if q < i then tz q else gz σ V c k (m + 1) s q) = (fun q => if q < i then tz q else if q = i then (pz σ (c i) s (tlr σ V c k m)).1 else gz σ V c k m (nxS (pz σ (c i) s (tlr σ V c k m)).1 s) q) := by
      funext x
      show (if x < i then tz x else if x = k - (m + 1) then (pz σ (c (k - (m + 1))) s (tlr σ V c k m)).1 else gz σ V c k m (nxS (pz σ (c (k - (m + 1))) s (tlr σ V c k m)).1 s) x) = _
      rw [hi]
    rw [et, eg, ← pzm_3 O hkk] at q
    have fz : ∀ (z : Int) (s' : Nat), nxS z s = s' → (fun q => if q < i + 1 then am_u1 tz i z q else gz σ V c k m s' q) = (fun q => if q < i then tz q else if q = i then z else gz σ V c k m (nxS z s) q) := by
      intro z s' hs'
      funext x
      rw [hs']
      unfold am_u1
      by_cases y : x < i
      · rw [if_pos (by omega), if_neg (by omega), if_pos y]
      · rw [if_neg y]
        by_cases y2 : x = i
        · rw [if_pos (by omega), if_pos y2, if_pos y2]
        · rw [if_neg (by omega), if_neg y2]
    have n1 : ¬ nI i = nI k := by rw [nI_eqi (by omega) (by omega)]; omega
    -- the sizes, one after the other
    have loop : ∀ j, j ≤ 3 → ∀ ci1 cj1, frP ci cj ci1 cj1 → (∀ q, q < i → ci1 139 q = iI (tz q)) → stP ci1 cj1 k (upS S (u + (pzm σ (c i) s (tlr σ V c k m) j).2) (fun q => if q < i then tz q else if q = i then (pzm σ (c i) s (tlr σ V c k m) j).1 else gz σ V c k m (nxS (pzm σ (c i) s (tlr σ V c k m) j).1 s) q)) → X (d + (m + 1) + 3) 199 (am_bk 199 4) [.ref 73, .int (nI i), .int (nI k), .int (nI s), .long (jI u), .null, .int (nI n), .int (nI (c i)), .int (nI j)] [] (ci1, cj1, g) Q := by
      refine up_ind ?_ ?_
      · intro ci1 cj1 f1 t1 s1
        rw [bk_199_4]
        simp only [bq_199_4, bk_199_6, bq_199_6, X_push, X_goto, X_fall, X_ifeq, X_ifne, X_iflt, X_ifge, X_ifgt, X_ifle, X_iceq, X_icne, X_iclt, X_icge, X_icgt, X_icle, X_ifnull, X_ifnonnull, X_switch, X_ireturn, X_lreturn, X_areturn, X_return, X_zreturn, X_iload, X_lload, X_aload, X_istore, X_astore, X_lstore, X_iinc, X_iadd, X_isub, X_imul, X_idiv, X_irem, X_iand, X_ior, X_ishl, X_ishr, X_iushr, X_ladd, X_lsub, X_lmul, X_ldiv, X_land, X_lor, X_lshl, X_lcmp, X_ineg, X_i2l, X_l2i, X_i2b, X_i2s, X_i2c, X_dupr, X_dupi, X_dup_x1, X_dup2, X_popi, X_popr, X_iaload, X_baload, X_laload, X_aaload, X_iastore, X_bastore, X_lastore, X_aastore, X_arraylength, am_wt_0, am_wt_int, am_wt_long, am_wt_ref, List.getElem?_cons_zero, List.getElem?_cons_succ, am_s1, am_s2, am_kill, List.set_cons_zero, List.set_cons_succ, List.length_cons, List.length_nil, Int.reduceToNat, Nat.reduceAdd, Nat.reduceLeDiff, Nat.reduceLT, Option.toList_some, Option.toList_none, List.cons_append, List.nil_append, true_and, and_true, true_or, or_true, false_or, or_false, and_self, false_and, not_false_eq_true, not_true_eq_false, lit_3, Int32.le_refl, if_true]
        exact q _ _ f1 t1 s1
      · intro j hj ihj ci1 cj1 f1 t1 s1
        have h5 : ¬ (3 : Int32) ≤ nI j := nI_ge (b := 3) (by omega) (by decide)
        have hw1 := mW_P O f1 hw
        have e : pzm σ (c i) s (tlr σ V c k m) (j + 1) = if sSz σ (c i) ≤ j then pzS σ (c i) s (tlr σ V c k m) j (pzm σ (c i) s (tlr σ V c k m) j) else pzm σ (c i) s (tlr σ V c k m) j := rfl
        rw [bk_199_4]
        by_cases h2 : sSz σ (c i) ≤ j ∧ 0 < frI s j
        · obtain ⟨is1, is2⟩ := isS_sub hs hj h2.2
          have e1 : jI 1000000 * jI (sWo σ (c i) : Int) = jI (gain σ (c i)) := by rw [jI_mul]; rfl
          simp only [bq_199_4, G_51, G_68, X_push, X_goto, X_fall, X_ifeq, X_ifne, X_iflt, X_ifge, X_ifgt, X_ifle, X_iceq, X_icne, X_iclt, X_icge, X_icgt, X_icle, X_ifnull, X_ifnonnull, X_switch, X_ireturn, X_lreturn, X_areturn, X_return, X_zreturn, X_iload, X_lload, X_aload, X_istore, X_astore, X_lstore, X_iinc, X_iadd, X_isub, X_imul, X_idiv, X_irem, X_iand, X_ior, X_ishl, X_ishr, X_iushr, X_ladd, X_lsub, X_lmul, X_ldiv, X_land, X_lor, X_lshl, X_lcmp, X_ineg, X_i2l, X_l2i, X_i2b, X_i2s, X_i2c, X_dupr, X_dupi, X_dup_x1, X_dup2, X_popi, X_popr, X_iaload, X_baload, X_laload, X_aaload, X_iastore, X_bastore, X_lastore, X_aastore, X_arraylength, am_wt_0, am_wt_int, am_wt_long, am_wt_ref, List.getElem?_cons_zero, List.getElem?_cons_succ, am_s1, am_s2, am_kill, List.set_cons_zero, List.set_cons_succ, List.length_cons, List.length_nil, Int.reduceToNat, Nat.reduceAdd, Nat.reduceLeDiff, Nat.reduceLT, Option.toList_some, Option.toList_none, List.cons_append, List.nil_append, true_and, and_true, true_or, or_true, false_or, or_false, and_self, false_and, not_false_eq_true, not_true_eq_false, tn_0, tn_1, tn_2, tn_3, tn_4, tn_5, tn_6, tn_7, tn_8, in_0_1, in_0_2, in_1_2, in_0_3, in_1_3, in_2_3, in_0_4, in_1_4, in_2_4, in_3_4, in_0_5, in_1_5, in_2_5, in_3_5, in_4_5, in_0_6, in_1_6, in_2_6, in_3_6, in_4_6, in_5_6, in_0_8, in_1_8, in_2_8, in_3_8, in_4_8, in_5_8, in_6_8, in_7_8, m7_k H, m7_r0 H, m7_r1 H, m7_r2 H, m7_r3 H, m7_r4 H, m7_r5 H, m7_r6 H, m7_r7 H, m7_r9 H, m7_r10 H, m7_r11 H, m7_r12 H, m7_r14 H, m7_r15 H, m7_r16 H, m7_r25 H, m7_r27 H, m7_r28 H, m7_r29 H, m7_r30 H, m7_r31 H, m7_r32 H, m7_a1 H, m7_n1 H, m7_a2 H, m7_n2 H, m7_a3 H, m7_n3 H, m7_a4 H, m7_n4 H, m7_a13 H, m7_n13 H, m7_a14 H, m7_n14 H, m7_a15 H, m7_n15 H, m7_a16 H, m7_n16 H, m7_a17 H, m7_n17 H, m7_a18 H, m7_n18 H, m7_a19 H, m7_n19 H, m7_a20 H, m7_n20 H, m7_a21 H, m7_n21 H, m7_a28 H, m7_n28 H, m7_a29 H, m7_n29 H, m7_a30 H, m7_n30 H, m7_a31 H, m7_n31 H, m7_a38 H, m7_n38 H, m7_a64 H, m7_n64 H, m7_a65 H, m7_n65 H, m7_a66 H, m7_n66 H, m7_a67 H, m7_n67 H, h5, if_false, C_181, c_181 H O hw1 hkk h125 hj, decide_eq_true h2, bI_t, i10, in_nI (show i < 6 by omega) (show 6 < 2 ^ 31 by decide), tn_nI (show i < 2 ^ 31 by omega), C_144, c_144 hj, pk_sub is2, in_nI hci6 (show 6 < 2 ^ 31 by decide), tn_nI (show c i < 2 ^ 31 by omega), m7_s21 H (c i) hci6, m7_t21 H (c i) hci6, m7_u21 H (c i) hci6, u2_a _ _ (show 95 + c i ≠ 139 by omega), w7_wo hw1 hkk, nI_j (show sWo σ (c i) < 2147483648 by omega), jl_m, e1, jI_add, nI_1, C_199]
          refine ihm d _ cj1 (s - stp j) (u + gain σ (c i)) (upS S (u + (pzm σ (c i) s (tlr σ V c k m) j).2) (fun q => if q < i then tz q else if q = i then (pzm σ (c i) s (tlr σ V c k m) j).1 else gz σ V c k m (nxS (pzm σ (c i) s (tlr σ V c k m) j).1 s) q)) (am_u1 tz i (j : Int)) _ is1 (by omega) (mW_P O (frP_u ci1 cj1 i _) hw1) (fun t ht => ?_) (fun x hx => ?_) ?_ (fun x hx => ?_) ?_
          · rw [f1.2.2 _ (by omega)]; exact hv t ht
          · rw [u2_a _ _ (by decide), f1.1 138 (by decide) (by decide) (by decide)]; exact hcc x hx
          · refine ⟨by rw [u2_a _ _ (by decide)]; exact s1.1, fun z => ⟨(s1.2 z).1, (s1.2 z).2.1, fun x hx => ?_⟩⟩
            rw [u2_a _ _ (by decide)]; exact (s1.2 z).2.2 x hx
          · rw [u2_e, if_pos rfl]
            unfold am_u1
            by_cases y : x = i
            · rw [if_pos y, if_pos y]; rfl
            · rw [if_neg y, if_neg y]; exact t1 x (by omega)
          · intro ci2 cj2 f2 t2 s2
            simp only [bk_199_5, bq_199_5, X_push, X_goto, X_fall, X_ifeq, X_ifne, X_iflt, X_ifge, X_ifgt, X_ifle, X_iceq, X_icne, X_iclt, X_icge, X_icgt, X_icle, X_ifnull, X_ifnonnull, X_switch, X_ireturn, X_lreturn, X_areturn, X_return, X_zreturn, X_iload, X_lload, X_aload, X_istore, X_astore, X_lstore, X_iinc, X_iadd, X_isub, X_imul, X_idiv, X_irem, X_iand, X_ior, X_ishl, X_ishr, X_iushr, X_ladd, X_lsub, X_lmul, X_ldiv, X_land, X_lor, X_lshl, X_lcmp, X_ineg, X_i2l, X_l2i, X_i2b, X_i2s, X_i2c, X_dupr, X_dupi, X_dup_x1, X_dup2, X_popi, X_popr, X_iaload, X_baload, X_laload, X_aaload, X_iastore, X_bastore, X_lastore, X_aastore, X_arraylength, am_wt_0, am_wt_int, am_wt_long, am_wt_ref, List.getElem?_cons_zero, List.getElem?_cons_succ, am_s1, am_s2, am_kill, List.set_cons_zero, List.set_cons_succ, List.length_cons, List.length_nil, Int.reduceToNat, Nat.reduceAdd, Nat.reduceLeDiff, Nat.reduceLT, Option.toList_some, Option.toList_none, List.cons_append, List.nil_append, true_and, and_true, true_or, or_true, false_or, or_false, and_self, false_and, not_false_eq_true, not_true_eq_false, oi_1, nI_add]
            have f3 : frP ci cj ci2 cj2 := frP_tr f1 (frP_tr (frP_u ci1 cj1 i _) f2)
            refine ihj ci2 cj2 f3 (fun x hx => ?_) ?_
            · rw [t2 x (by omega), am_u1_n _ _ (by omega)]
            · rw [e, if_pos h2.1]
              have ej : nxS (j : Int) s = s - stp j := by
                unfold nxS
                rw [if_neg (by omega)]
                rfl
              rw [fz (j : Int) (s - stp j) ej] at s2
              unfold pzS
              by_cases y : (pzm σ (c i) s (tlr σ V c k m) j).2 < gain σ (c i) + tlr σ V c k m (s - stp j)
              · rw [if_pos ⟨h2.2, y⟩]
                rw [upS_t S _ _ (by omega), Int.add_assoc] at s2
                exact s2
              · rw [if_neg (fun z => y z.2)]
                rw [upS_f S _ _ (by omega)] at s2
                exact s2
        · have e2 : pzm σ (c i) s (tlr σ V c k m) (j + 1) = pzm σ (c i) s (tlr σ V c k m) j := by
            rw [e]
            split
            · unfold pzS; rw [if_neg (fun z => h2 ⟨by assumption, z.1⟩)]
            · rfl
          rw [e2] at ihj
          simp only [bq_199_4, bk_199_5, bq_199_5, X_push, X_goto, X_fall, X_ifeq, X_ifne, X_iflt, X_ifge, X_ifgt, X_ifle, X_iceq, X_icne, X_iclt, X_icge, X_icgt, X_icle, X_ifnull, X_ifnonnull, X_switch, X_ireturn, X_lreturn, X_areturn, X_return, X_zreturn, X_iload, X_lload, X_aload, X_istore, X_astore, X_lstore, X_iinc, X_iadd, X_isub, X_imul, X_idiv, X_irem, X_iand, X_ior, X_ishl, X_ishr, X_iushr, X_ladd, X_lsub, X_lmul, X_ldiv, X_land, X_lor, X_lshl, X_lcmp, X_ineg, X_i2l, X_l2i, X_i2b, X_i2s, X_i2c, X_dupr, X_dupi, X_dup_x1, X_dup2, X_popi, X_popr, X_iaload, X_baload, X_laload, X_aaload, X_iastore, X_bastore, X_lastore, X_aastore, X_arraylength, am_wt_0, am_wt_int, am_wt_long, am_wt_ref, List.getElem?_cons_zero, List.getElem?_cons_succ, am_s1, am_s2, am_kill, List.set_cons_zero, List.set_cons_succ, List.length_cons, List.length_nil, Int.reduceToNat, Nat.reduceAdd, Nat.reduceLeDiff, Nat.reduceLT, Option.toList_some, Option.toList_none, List.cons_append, List.nil_append, true_and, and_true, true_or, or_true, false_or, or_false, and_self, false_and, not_false_eq_true, not_true_eq_false, m7_k H, m7_r0 H, m7_r1 H, m7_r2 H, m7_r3 H, m7_r4 H, m7_r5 H, m7_r6 H, m7_r7 H, m7_r9 H, m7_r10 H, m7_r11 H, m7_r12 H, m7_r14 H, m7_r15 H, m7_r16 H, m7_r25 H, m7_r27 H, m7_r28 H, m7_r29 H, m7_r30 H, m7_r31 H, m7_r32 H, m7_a1 H, m7_n1 H, m7_a2 H, m7_n2 H, m7_a3 H, m7_n3 H, m7_a4 H, m7_n4 H, m7_a13 H, m7_n13 H, m7_a14 H, m7_n14 H, m7_a15 H, m7_n15 H, m7_a16 H, m7_n16 H, m7_a17 H, m7_n17 H, m7_a18 H, m7_n18 H, m7_a19 H, m7_n19 H, m7_a20 H, m7_n20 H, m7_a21 H, m7_n21 H, m7_a28 H, m7_n28 H, m7_a29 H, m7_n29 H, m7_a30 H, m7_n30 H, m7_a31 H, m7_n31 H, m7_a38 H, m7_n38 H, m7_a64 H, m7_n64 H, m7_a65 H, m7_n65 H, m7_a66 H, m7_n66 H, m7_a67 H, m7_n67 H, h5, if_false, if_true, C_181, c_181 H O hw1 hkk h125 hj, decide_eq_false h2, bI_f, oi_1, nI_add]
          exact ihj ci1 cj1 f1 t1 s1
    rw [bk_199_0]
    have w139 : mW (am_u2 ci 139 i (-1)) 73 σ := mW_P O (frP_u ci cj i _) hw
    simp only [bq_199_0, bk_199_3, bq_199_3, G_67, G_68, X_push, X_goto, X_fall, X_ifeq, X_ifne, X_iflt, X_ifge, X_ifgt, X_ifle, X_iceq, X_icne, X_iclt, X_icge, X_icgt, X_icle, X_ifnull, X_ifnonnull, X_switch, X_ireturn, X_lreturn, X_areturn, X_return, X_zreturn, X_iload, X_lload, X_aload, X_istore, X_astore, X_lstore, X_iinc, X_iadd, X_isub, X_imul, X_idiv, X_irem, X_iand, X_ior, X_ishl, X_ishr, X_iushr, X_ladd, X_lsub, X_lmul, X_ldiv, X_land, X_lor, X_lshl, X_lcmp, X_ineg, X_i2l, X_l2i, X_i2b, X_i2s, X_i2c, X_dupr, X_dupi, X_dup_x1, X_dup2, X_popi, X_popr, X_iaload, X_baload, X_laload, X_aaload, X_iastore, X_bastore, X_lastore, X_aastore, X_arraylength, am_wt_0, am_wt_int, am_wt_long, am_wt_ref, List.getElem?_cons_zero, List.getElem?_cons_succ, am_s1, am_s2, am_kill, List.set_cons_zero, List.set_cons_succ, List.length_cons, List.length_nil, Int.reduceToNat, Nat.reduceAdd, Nat.reduceLeDiff, Nat.reduceLT, Option.toList_some, Option.toList_none, List.cons_append, List.nil_append, true_and, and_true, true_or, or_true, false_or, or_false, and_self, false_and, not_false_eq_true, not_true_eq_false, m7_k H, m7_r0 H, m7_r1 H, m7_r2 H, m7_r3 H, m7_r4 H, m7_r5 H, m7_r6 H, m7_r7 H, m7_r9 H, m7_r10 H, m7_r11 H, m7_r12 H, m7_r14 H, m7_r15 H, m7_r16 H, m7_r25 H, m7_r27 H, m7_r28 H, m7_r29 H, m7_r30 H, m7_r31 H, m7_r32 H, m7_a1 H, m7_n1 H, m7_a2 H, m7_n2 H, m7_a3 H, m7_n3 H, m7_a4 H, m7_n4 H, m7_a13 H, m7_n13 H, m7_a14 H, m7_n14 H, m7_a15 H, m7_n15 H, m7_a16 H, m7_n16 H, m7_a17 H, m7_n17 H, m7_a18 H, m7_n18 H, m7_a19 H, m7_n19 H, m7_a20 H, m7_n20 H, m7_a21 H, m7_n21 H, m7_a28 H, m7_n28 H, m7_a29 H, m7_n29 H, m7_a30 H, m7_n30 H, m7_a31 H, m7_n31 H, m7_a38 H, m7_n38 H, m7_a64 H, m7_n64 H, m7_a65 H, m7_n65 H, m7_a66 H, m7_n66 H, m7_a67 H, m7_n67 H, n1, not_false_eq_true, if_true, in_nI (show i < 6 by omega) (show 6 < 2 ^ 31 by decide), tn_nI (show i < 2 ^ 31 by omega), hcc i hik, C_179, c_179 H O w139 hkk, jI_add, nI_1, C_199]
    refine ihm d _ cj s (u + lost σ (c i)) S (am_u1 tz i (-1)) _ hs (by omega) w139 hv (fun x hx => ?_) ?_ (fun x hx => ?_) ?_
    · rw [u2_a _ _ (by decide)]; exact hcc x hx
    · refine ⟨by rw [u2_a _ _ (by decide)]; exact hS.1, fun z => ⟨(hS.2 z).1, (hS.2 z).2.1, fun x hx => ?_⟩⟩
      rw [u2_a _ _ (by decide)]; exact (hS.2 z).2.2 x hx
    · rw [u2_e, if_pos rfl]
      unfold am_u1
      by_cases y : x = i
      · rw [if_pos y, if_pos y]; rfl
      · rw [if_neg y, if_neg y]; exact htz x (by omega)
    · intro ci2 cj2 f2 t2 s2
      simp only [X_push, X_goto, X_fall, X_ifeq, X_ifne, X_iflt, X_ifge, X_ifgt, X_ifle, X_iceq, X_icne, X_iclt, X_icge, X_icgt, X_icle, X_ifnull, X_ifnonnull, X_switch, X_ireturn, X_lreturn, X_areturn, X_return, X_zreturn, X_iload, X_lload, X_aload, X_istore, X_astore, X_lstore, X_iinc, X_iadd, X_isub, X_imul, X_idiv, X_irem, X_iand, X_ior, X_ishl, X_ishr, X_iushr, X_ladd, X_lsub, X_lmul, X_ldiv, X_land, X_lor, X_lshl, X_lcmp, X_ineg, X_i2l, X_l2i, X_i2b, X_i2s, X_i2c, X_dupr, X_dupi, X_dup_x1, X_dup2, X_popi, X_popr, X_iaload, X_baload, X_laload, X_aaload, X_iastore, X_bastore, X_lastore, X_aastore, X_arraylength, am_wt_0, am_wt_int, am_wt_long, am_wt_ref, List.getElem?_cons_zero, List.getElem?_cons_succ, am_s1, am_s2, am_kill, List.set_cons_zero, List.set_cons_succ, List.length_cons, List.length_nil, Int.reduceToNat, Nat.reduceAdd, Nat.reduceLeDiff, Nat.reduceLT, Option.toList_some, Option.toList_none, List.cons_append, List.nil_append, true_and, and_true, true_or, or_true, false_or, or_false, and_self, false_and, not_false_eq_true, not_true_eq_false]
      refine loop 0 (by decide) ci2 cj2 (frP_tr (frP_u ci cj i _) f2) (fun x hx => ?_) ?_
      · rw [t2 x (by omega), am_u1_n _ _ (by omega)]
      · rw [fz (-1) s rfl, Int.add_assoc] at s2
        exact s2
end MCART
