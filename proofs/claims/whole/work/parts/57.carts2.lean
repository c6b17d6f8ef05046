/-! CARTFULS put and carted; SORTS by rows -/
theorem fr_sub_eq {s : Nat} (hs : s < 125) : ∀ j, j < 3 → 0 < frI s j → ∀ i, i < 3 → frI (s - stp j) i = if i = j then frI s i - 1 else frI s i := by
  apply three
  · intro h
    simp only [frI_0, stp_0] at *
    apply three
    · simp only [frI_0, if_true]; omega
    · simp only [frI_1, Nat.reduceEqDiff, if_false]; omega
    · simp only [frI_2, Nat.reduceEqDiff, if_false]; omega
  · intro h
    simp only [frI_1, stp_1] at *
    apply three
    · simp only [frI_0, Nat.reduceEqDiff, if_false]; omega
    · simp only [frI_1, if_true]; omega
    · simp only [frI_2, Nat.reduceEqDiff, if_false]; omega
  · intro h
    simp only [frI_2, stp_2] at *
    apply three
    · simp only [frI_0, Nat.reduceEqDiff, if_false]; omega
    · simp only [frI_1, Nat.reduceEqDiff, if_false]; omega
    · simp only [frI_2, if_true]; omega
def pcf (p : Nat → Int) (j : Nat) : Nat → Nat → Nat
  | 0, _ => 0
  | x + 1, i => (if p i = (j : Int) then 1 else 0) + pcf p j x (i + 1)
theorem pcf_pct (p : Nat → Int) (j : Nat) : ∀ x i, pct p j (i + x) = pct p j i + pcf p j x i := by
  intro x
  induction x with
  | zero => intro i; rfl
  | succ x ih =>
    intro i
    have h := ih (i + 1)
    have e : i + (x + 1) = i + 1 + x := by omega
    rw [e, h]
    show pct p j i + (if p i = (j : Int) then 1 else 0) + pcf p j x (i + 1) = pct p j i + ((if p i = (j : Int) then 1 else 0) + pcf p j x (i + 1))
    omega
/-- a placing that isn't wrong leaves what it leaves -/
theorem wpF_fr {σ : wS} {c : Nat → Nat} {p : Nat → Int} (hp : ∀ i, p i = -1 ∨ ∃ j : Nat, j < 3 ∧ p i = (j : Int)) : ∀ x i s, s < 125 → (wpF σ c p x i s).1 = -1 → (wpF σ c p x i s).2 < 125 ∧ ∀ j, j < 3 → pcf p j x i ≤ frI s j ∧ frI (wpF σ c p x i s).2 j = frI s j - pcf p j x i := by
  intro x
  induction x with
  | zero => intro i s hs _; exact ⟨hs, fun j _ => ⟨Nat.zero_le _, rfl⟩⟩
  | succ x ih =>
    intro i s hs h
    have e : wpF σ c p (x + 1) i s = if p i = -1 then wpF σ c p x (i + 1) s else if (p i).toNat < sSz σ (c i) ∨ frI s (p i).toNat < 1 then ((i : Int), s) else wpF σ c p x (i + 1) (s - stp (p i).toNat) := rfl
    rcases hp i with z | ⟨j, hj, z⟩
    · rw [if_pos z] at e
      rw [e] at h ⊢
      obtain ⟨a, b⟩ := ih (i + 1) s hs h
      refine ⟨a, fun q hq => ?_⟩
      have e2 : pcf p q (x + 1) i = (if p i = (q : Int) then 1 else 0) + pcf p q x (i + 1) := rfl
      rw [e2, if_neg (by omega), Nat.zero_add]
      exact b q hq
    · rw [if_neg (by omega)] at e
      have zn : (p i).toNat = j := by omega
      rw [zn] at e
      by_cases c1 : j < sSz σ (c i) ∨ frI s j < 1
      · rw [if_pos c1] at e
        rw [e] at h
        exact absurd h (by dsimp only; omega)
      · rw [if_neg c1] at e
        rw [e] at h ⊢
        have hf : 0 < frI s j := by omega
        have fe := fr_sub_eq hs j hj hf
        obtain ⟨a, b⟩ := ih (i + 1) (s - stp j) (by omega) h
        refine ⟨a, fun q hq => ?_⟩
        have e2 : pcf p q (x + 1) i = (if p i = (q : Int) then 1 else 0) + pcf p q x (i + 1) := rfl
        obtain ⟨b1, b2⟩ := b q hq
        have f2 := fe q hq
        by_cases w : q = j
        · subst w
          rw [if_pos rfl] at f2
          rw [e2, if_pos z]
          omega
        · rw [if_neg w] at f2
          rw [e2, if_neg (by omega)]
          omega
theorem put_ok {σ : wS} (O : wOK σ) {c : Nat → Nat} {p : Nat → Int} (hp : ∀ i, p i = -1 ∨ ∃ j : Nat, j < 3 ∧ p i = (j : Int)) {m : Nat} (h : (wpF σ c p m 0 (stN σ)).1 = -1) : ∀ j, j < 3 → sFl σ j + pct p j m ≤ sBx σ j ∧ sFl σ j + pct p j m = sBx σ j - frI (wpF σ c p m 0 (stN σ)).2 j := by
  intro j hj
  have e := pcf_pct p j m 0
  rw [Nat.zero_add] at e
  have e0 : pct p j 0 = 0 := rfl
  obtain ⟨-, b⟩ := wpF_fr hp m 0 (stN σ) (stN_lt O) h
  obtain ⟨b1, b2⟩ := b j hj
  have f : frI (stN σ) j = fr σ j := fr_stN O j hj
  have o := (O.1 j hj).1
  unfold fr at f
  omega
theorem tws_0 {σ : wS} {a b c e : Int} (h : tws σ a b c e = 0) : (0 ≤ a ∧ a ≤ 2 ∧ 0 ≤ b ∧ b ≤ 100 ∧ 1 ≤ c ∧ c ≤ 99 ∧ 0 ≤ e ∧ e ≤ 99) ∧ (csum (sCo σ) (sCn σ) : Int) + b ≤ 100 ∧ sCn σ < 6 := by
  unfold tws at h
  split at h
  · rename_i h1
    split at h
    · rename_i h2
      split at h
      · rename_i h3; exact ⟨h1, h2, h3⟩
      · exact absurd h (by decide)
    · exact absurd h (by decide)
  · exact absurd h (by decide)
theorem csum_u1n (f : Nat → Nat) (k v : Nat) : ∀ n, n ≤ k → csum (am_u1 f k v) n = csum f n := by
  intro n
  induction n with
  | zero => intro _; rfl
  | succ n ih =>
    intro hn
    show csum (am_u1 f k v) n + am_u1 f k v n = csum f n + f n
    rw [ih (by omega), am_u1_n _ _ (by omega)]
theorem addS_ok {σ : wS} (O : wOK σ) {a b c e : Nat} (ha : a ≤ 2) (hb : b ≤ 100) (hc : 1 ≤ c ∧ c ≤ 99) (he : e ≤ 99) (h : csum (sCo σ) (sCn σ) + b ≤ 100) (hn : sCn σ < 6) : wOK (addS σ a b c e) := by
  refine ⟨O.1, ?_, fun i hi => ?_, ?_, O.2.2.2.2⟩
  · show sCn σ + 1 ≤ 6; omega
  · have hi' : i < sCn σ + 1 := hi
    show am_u1 (sSz σ) (sCn σ) a i ≤ 2 ∧ am_u1 (sCo σ) (sCn σ) b i ≤ 100 ∧ 1 ≤ am_u1 (sWo σ) (sCn σ) c i ∧ am_u1 (sWo σ) (sCn σ) c i ≤ 99 ∧ am_u1 (sBa σ) (sCn σ) e i ≤ 99
    unfold am_u1
    by_cases z : i = sCn σ
    · rw [if_pos z, if_pos z, if_pos z, if_pos z]
      exact ⟨ha, hb, hc.1, hc.2, he⟩
    · rw [if_neg z, if_neg z, if_neg z, if_neg z]
      exact O.2.2.1 i (by omega)
  · show csum (am_u1 (sCo σ) (sCn σ) b) (sCn σ) + am_u1 (sCo σ) (sCn σ) b (sCn σ) ≤ 100
    rw [csum_u1n _ _ _ _ (Nat.le_refl _), am_u1_s]
    exact h
/-- sorts out of a row, four numbers each -/
def srF (e : Nat → Int64) : Nat → Nat → Nat → wS → Nat × wS
  | 0, _, c, σ => (c, σ)
  | m + 1, i, c, σ => if tws σ (e i).toInt (e (i + 1)).toInt (e (i + 2)).toInt (e (i + 3)).toInt = 0 then srF e m (i + 4) (c + 1) (addS σ (e i).toInt.toNat (e (i + 1)).toInt.toNat (e (i + 2)).toInt.toNat (e (i + 3)).toInt.toNat) else (c, σ)
def q_sorts (T : tS) (s n : Int32) : Int32 × tS := if noRow T s = 5 then (if prt (rN (tH T) s.toNatClampNeg) 0 n = true ∧ n.toNatClampNeg % 4 = 0 then (nI (srF (rE (tH T) s.toNatClampNeg) (n.toNatClampNeg / 4) 0 0 (tW T)).1, stW T (srF (rE (tH T) s.toNatClampNeg) (n.toNatClampNeg / 4) 0 0 (tW T)).2) else (rI 0, rfT T 0)) else (rI (noRow T s), rfT T (noRow T s))
theorem l2i_nat {x : Int64} (h : 0 ≤ x.toInt) : x.toInt32 = nI x.toInt.toNat := by
  rw [nI_iI, Int.toNat_of_nonneg h, ← l2i_jI, jI_of]
section CARTS2
variable {d : Nat} {ci : Nat → Nat → Int32} {cj : Nat → Nat → Int64} {g : am_G} {Q : Option Value → am_H → Prop} {F : Nat → Prop} {T : tS} {r N : Nat}
theorem k_put (R : cR F ci cj g T) (s t k' : Int32) (k : Kn F ci cj g (q_put T s t k').2 (.int (q_put T s t k').1) Q) : X (d + 4) 27 (am_bk 27 0) [.ref 32, .int s, .int t, .int k', .null, .null, .null, .null, .null] [] (ci, cj, g) Q := by
  have L := cR_to R
  have H := cR_w R
  have O := cR_O R
  unfold q_put at k
  by_cases h : tPl T s t k' = 5
  · rw [if_pos h] at k
    obtain ⟨m, hm6, rfl, n1, n2, l2, l1, hc⟩ := tPl_5 h
    obtain ⟨a, ha, rfl, _, e, hk, _, h73, hs, _, h73e, he, hn, hme, h4, h40⟩ := noRow_5 R n1
    obtain ⟨b, hb, rfl, _, e', hk', _, h73', hs', _, h73e', he', hn', hme', h4', h40'⟩ := noRow_5 R n2
    rw [tn_nI (show a < 2 ^ 31 by omega)] at k l1 hc
    rw [tn_nI (show b < 2 ^ 31 by omega)] at k l2
    rw [tn_nI (show m < 2 ^ 31 by omega)] at k
    have hp : ∀ i, (fun i => pla (rE (tH T) b i)) i = -1 ∨ ∃ j : Nat, j < 3 ∧ (fun i => pla (rE (tH T) b i)) i = (j : Int) := fun i => pla_in _
    by_cases h2 : (wrg T a b m).1 = -1
    · rw [if_pos h2] at k
      have hz : (iI (wpF (tW T) (ctS (rE (tH T) a)) (fun i => pla (rE (tH T) b i)) m 0 (stN (tW T))).1 = (-1 : Int32)) = True := eq_true (by
        have h3 : (wpF (tW T) (ctS (rE (tH T) a)) (fun i => pla (rE (tH T) b i)) m 0 (stN (tW T))).1 = -1 := h2
        rw [h3]; rfl)
      have pok := put_ok O hp h2
      simp only [bk_27_0, bq_27_0, bk_27_1, bq_27_1, bk_27_3, bq_27_3, G_0, G_9, X_push, X_goto, X_fall, X_ifeq, X_ifne, X_iflt, X_ifge, X_ifgt, X_ifle, X_iceq, X_icne, X_iclt, X_icge, X_icgt, X_icle, X_ifnull, X_ifnonnull, X_switch, X_ireturn, X_lreturn, X_areturn, X_return, X_zreturn, X_iload, X_lload, X_aload, X_istore, X_astore, X_lstore, X_iinc, X_iadd, X_isub, X_imul, X_idiv, X_irem, X_iand, X_ior, X_ishl, X_ishr, X_iushr, X_ladd, X_lsub, X_lmul, X_ldiv, X_land, X_lor, X_lshl, X_lcmp, X_ineg, X_i2l, X_l2i, X_i2b, X_i2s, X_i2c, X_dupr, X_dupi, X_dup_x1, X_dup2, X_popi, X_popr, X_iaload, X_baload, X_laload, X_aaload, X_iastore, X_bastore, X_lastore, X_aastore, X_arraylength, am_wt_0, am_wt_int, am_wt_long, am_wt_ref, List.getElem?_cons_zero, List.getElem?_cons_succ, am_s1, am_s2, am_kill, List.set_cons_zero, List.set_cons_succ, List.length_cons, List.length_nil, Int.reduceToNat, Nat.reduceAdd, Nat.reduceLeDiff, Nat.reduceLT, Option.toList_some, Option.toList_none, List.cons_append, List.nil_append, true_and, and_true, true_or, or_true, false_or, or_false, and_self, false_and, not_false_eq_true, not_true_eq_false, to_k L, to_r0 L, to_r1 L, to_r2 L, to_r3 L, to_r4 L, to_r5 L, to_r6 L, to_a5 L, to_n5 L, to_a6 L, to_n6 L, C_55, c_55 R, h, if_true, C_50, c_50 R, e, e', show ¬ gr g 71 b = 0 by omega, if_false, C_57, c_57 R (show ¬ gr g 71 a = 0 by omega) (show ¬ gr g 71 b = 0 by omega) hk he hn h40 hk' he' hn' h40' hme hme' l1 l2 hm6 hc, hz]
      refine up_ind (M := fun i => ∀ ci1, (∀ x, (x < 33 ∨ 41 < x) → ci1 x = ci x) → wR ci1 33 (wFl (tW T) (fun j => sFl (tW T) j + pct (fun i => pla (rE (tH T) b i)) j i)) → ∀ t8 : Value, X (d + 4) 27 (am_bk 27 4) [.ref 32, .int (nI a), .int (nI b), .int (nI m), .int 0, .ref (gr g 71 b), .int (nI (pca (fun i => pla (rE (tH T) b i)) i)), .int (nI i), t8] [] (ci1, cj, g) Q) (n := m) ?_ ?_ 0 (by omega) ci (fun x _ => rfl) (cR_wR R) _
      · intro ci1 f1 w1 t8
        rw [bk_27_4]
        simp only [bq_27_4, bk_27_6, bq_27_6, G_0, G_9, X_push, X_goto, X_fall, X_ifeq, X_ifne, X_iflt, X_ifge, X_ifgt, X_ifle, X_iceq, X_icne, X_iclt, X_icge, X_icgt, X_icle, X_ifnull, X_ifnonnull, X_switch, X_ireturn, X_lreturn, X_areturn, X_return, X_zreturn, X_iload, X_lload, X_aload, X_istore, X_astore, X_lstore, X_iinc, X_iadd, X_isub, X_imul, X_idiv, X_irem, X_iand, X_ior, X_ishl, X_ishr, X_iushr, X_ladd, X_lsub, X_lmul, X_ldiv, X_land, X_lor, X_lshl, X_lcmp, X_ineg, X_i2l, X_l2i, X_i2b, X_i2s, X_i2c, X_dupr, X_dupi, X_dup_x1, X_dup2, X_popi, X_popr, X_iaload, X_baload, X_laload, X_aaload, X_iastore, X_bastore, X_lastore, X_aastore, X_arraylength, am_wt_0, am_wt_int, am_wt_long, am_wt_ref, List.getElem?_cons_zero, List.getElem?_cons_succ, am_s1, am_s2, am_kill, List.set_cons_zero, List.set_cons_succ, List.length_cons, List.length_nil, Int.reduceToNat, Nat.reduceAdd, Nat.reduceLeDiff, Nat.reduceLT, Option.toList_some, Option.toList_none, List.cons_append, List.nil_append, true_and, and_true, true_or, or_true, false_or, or_false, and_self, false_and, not_false_eq_true, not_true_eq_false, Int32.le_refl, if_true]
        exact kn_w R (wOK_fl O (fun j hj => (pok j hj).1)) w1 f1 k
      · intro i hi ih ci1 f1 w1 t8
        have h5 : ¬ nI m ≤ nI i := nI_ge hi (by omega)
        have ea : pca (fun i => pla (rE (tH T) b i)) (i + 1) = pca (fun i => pla (rE (tH T) b i)) i + (if pla (rE (tH T) b i) = -1 then 0 else 1) := rfl
        have ep : ∀ j, pct (fun i => pla (rE (tH T) b i)) j (i + 1) = pct (fun i => pla (rE (tH T) b i)) j i + (if pla (rE (tH T) b i) = (j : Int) then 1 else 0) := fun j => rfl
        rw [bk_27_4]
        rcases pla_in (rE (tH T) b i) with z | ⟨j, hj, z⟩
        · have z1 : (iI (pla (rE (tH T) b i)) = (-1 : Int32)) = True := eq_true (by rw [z]; rfl)
          rw [if_pos z] at ea
          have ef : (fun j => sFl (tW T) j + pct (fun i => pla (rE (tH T) b i)) j (i + 1)) = (fun j => sFl (tW T) j + pct (fun i => pla (rE (tH T) b i)) j i) := by
            funext j
            rw [ep j, if_neg (by omega)]; rfl
          rw [ef, ea] at ih
          simp only [bq_27_4, bk_27_5, bq_27_5, G_0, G_9, X_push, X_goto, X_fall, X_ifeq, X_ifne, X_iflt, X_ifge, X_ifgt, X_ifle, X_iceq, X_icne, X_iclt, X_icge, X_icgt, X_icle, X_ifnull, X_ifnonnull, X_switch, X_ireturn, X_lreturn, X_areturn, X_return, X_zreturn, X_iload, X_lload, X_aload, X_istore, X_astore, X_lstore, X_iinc, X_iadd, X_isub, X_imul, X_idiv, X_irem, X_iand, X_ior, X_ishl, X_ishr, X_iushr, X_ladd, X_lsub, X_lmul, X_ldiv, X_land, X_lor, X_lshl, X_lcmp, X_ineg, X_i2l, X_l2i, X_i2b, X_i2s, X_i2c, X_dupr, X_dupi, X_dup_x1, X_dup2, X_popi, X_popr, X_iaload, X_baload, X_laload, X_aaload, X_iastore, X_bastore, X_lastore, X_aastore, X_arraylength, am_wt_0, am_wt_int, am_wt_long, am_wt_ref, List.getElem?_cons_zero, List.getElem?_cons_succ, am_s1, am_s2, am_kill, List.set_cons_zero, List.set_cons_succ, List.length_cons, List.length_nil, Int.reduceToNat, Nat.reduceAdd, Nat.reduceLeDiff, Nat.reduceLT, Option.toList_some, Option.toList_none, List.cons_append, List.nil_append, true_and, and_true, true_or, or_true, false_or, or_false, and_self, false_and, not_false_eq_true, not_true_eq_false, h5, if_false, C_116 _ _ hk', c_116 hk' he' hn' h40' (show i < rN (tH T) b by omega), hme' i (by omega), z1, if_true, oi_1, nI_add]
          exact ih ci1 f1 w1 _
        · have z1 : iI (pla (rE (tH T) b i)) = nI j := nI_pl z
          rw [if_neg (show ¬ pla (rE (tH T) b i) = -1 by omega)] at ea
          have ef : (fun j => sFl (tW T) j + pct (fun i => pla (rE (tH T) b i)) j (i + 1)) = am_u1 (fun j => sFl (tW T) j + pct (fun i => pla (rE (tH T) b i)) j i) j (sFl (tW T) j + pct (fun i => pla (rE (tH T) b i)) j i + 1) := by
            funext q
            rw [ep q]
            unfold am_u1
            by_cases w : q = j
            · rw [if_pos w, w, if_pos z]; rfl
            · rw [if_neg w, if_neg (by omega)]; rfl
          rw [ef, ea] at ih
          have w2 := wR_fl w1 j (sFl (tW T) j + pct (fun i => pla (rE (tH T) b i)) j i + 1)
          have a2 : ci1 35 j = nI (sFl (tW T) j + pct (fun i => pla (rE (tH T) b i)) j i) := w1.2.1 j hj
          simp only [bq_27_4, bk_27_5, bq_27_5, G_0, G_9, X_push, X_goto, X_fall, X_ifeq, X_ifne, X_iflt, X_ifge, X_ifgt, X_ifle, X_iceq, X_icne, X_iclt, X_icge, X_icgt, X_icle, X_ifnull, X_ifnonnull, X_switch, X_ireturn, X_lreturn, X_areturn, X_return, X_zreturn, X_iload, X_lload, X_aload, X_istore, X_astore, X_lstore, X_iinc, X_iadd, X_isub, X_imul, X_idiv, X_irem, X_iand, X_ior, X_ishl, X_ishr, X_iushr, X_ladd, X_lsub, X_lmul, X_ldiv, X_land, X_lor, X_lshl, X_lcmp, X_ineg, X_i2l, X_l2i, X_i2b, X_i2s, X_i2c, X_dupr, X_dupi, X_dup_x1, X_dup2, X_popi, X_popr, X_iaload, X_baload, X_laload, X_aaload, X_iastore, X_bastore, X_lastore, X_aastore, X_arraylength, am_wt_0, am_wt_int, am_wt_long, am_wt_ref, List.getElem?_cons_zero, List.getElem?_cons_succ, am_s1, am_s2, am_kill, List.set_cons_zero, List.set_cons_succ, List.length_cons, List.length_nil, Int.reduceToNat, Nat.reduceAdd, Nat.reduceLeDiff, Nat.reduceLT, Option.toList_some, Option.toList_none, List.cons_append, List.nil_append, true_and, and_true, true_or, or_true, false_or, or_false, and_self, false_and, not_false_eq_true, not_true_eq_false, to_k L, to_r0 L, to_r1 L, to_r2 L, to_r3 L, to_r4 L, to_r5 L, to_r6 L, to_a5 L, to_n5 L, to_a6 L, to_n6 L, wo_k H, wo_r0 H, wo_r1 H, wo_r2 H, wo_r3 H, wo_r4 H, wo_r5 H, wo_r6 H, wo_r7 H, wo_a1 H, wo_n1 H, wo_a2 H, wo_n2 H, wo_a3 H, wo_n3 H, wo_a4 H, wo_n4 H, wo_a5 H, wo_n5 H, wo_a6 H, wo_n6 H, wo_a7 H, wo_n7 H, wo_a8 H, wo_n8 H, h5, if_false, C_116 _ _ hk', c_116 hk' he' hn' h40' (show i < rN (tH T) b by omega), hme' i (by omega), z1, nI_m1 (show j < 2147483648 by omega), in_nI hj (show 3 < 2 ^ 31 by decide), tn_nI (show j < 2 ^ 31 by omega), Nat.reduceAdd, a2, nI_1, oi_1, nI_add]
          refine ih _ (fun x hx => ?_) w2 _
          rw [u2_a _ _ (by omega)]; exact f1 x hx
    · rw [if_neg h2] at k
      have hz : (iI (wpF (tW T) (ctS (rE (tH T) a)) (fun i => pla (rE (tH T) b i)) m 0 (stN (tW T))).1 = (-1 : Int32)) = False := eq_false (fun z => h2 (by
        show (wpF (tW T) (ctS (rE (tH T) a)) (fun i => pla (rE (tH T) b i)) m 0 (stN (tW T))).1 = -1
        have hw : ∀ x i s, i + x ≤ 6 → ((wpF (tW T) (ctS (rE (tH T) a)) (fun i => pla (rE (tH T) b i)) x i s).1 = -1 ∨ ∃ q : Nat, q ≤ 6 ∧ (wpF (tW T) (ctS (rE (tH T) a)) (fun i => pla (rE (tH T) b i)) x i s).1 = (q : Int)) := by
          intro x
          induction x with
          | zero => intro i s _; exact Or.inl rfl
          | succ x ih =>
            intro i s hi
            unfold wpF
            split
            · exact ih _ _ (by omega)
            · split
              · exact Or.inr ⟨i, by omega, rfl⟩
              · exact ih _ _ (by omega)
        rcases hw m 0 (stN (tW T)) (by omega) with y | ⟨q, hq, y⟩
        · exact y
        · rw [y] at z
          exact absurd z (nI_m1 (show q < 2147483648 by omega))))
      simp only [bk_27_0, bq_27_0, bk_27_1, bq_27_1, bk_27_2, bq_27_2, G_0, G_9, X_push, X_goto, X_fall, X_ifeq, X_ifne, X_iflt, X_ifge, X_ifgt, X_ifle, X_iceq, X_icne, X_iclt, X_icge, X_icgt, X_icle, X_ifnull, X_ifnonnull, X_switch, X_ireturn, X_lreturn, X_areturn, X_return, X_zreturn, X_iload, X_lload, X_aload, X_istore, X_astore, X_lstore, X_iinc, X_iadd, X_isub, X_imul, X_idiv, X_irem, X_iand, X_ior, X_ishl, X_ishr, X_iushr, X_ladd, X_lsub, X_lmul, X_ldiv, X_land, X_lor, X_lshl, X_lcmp, X_ineg, X_i2l, X_l2i, X_i2b, X_i2s, X_i2c, X_dupr, X_dupi, X_dup_x1, X_dup2, X_popi, X_popr, X_iaload, X_baload, X_laload, X_aaload, X_iastore, X_bastore, X_lastore, X_aastore, X_arraylength, am_wt_0, am_wt_int, am_wt_long, am_wt_ref, List.getElem?_cons_zero, List.getElem?_cons_succ, am_s1, am_s2, am_kill, List.set_cons_zero, List.set_cons_succ, List.length_cons, List.length_nil, Int.reduceToNat, Nat.reduceAdd, Nat.reduceLeDiff, Nat.reduceLT, Option.toList_some, Option.toList_none, List.cons_append, List.nil_append, true_and, and_true, true_or, or_true, false_or, or_false, and_self, false_and, not_false_eq_true, not_true_eq_false, to_k L, to_r0 L, to_r1 L, to_r2 L, to_r3 L, to_r4 L, to_r5 L, to_r6 L, to_a5 L, to_n5 L, to_a6 L, to_n6 L, C_55, c_55 R, h, if_true, C_50, c_50 R, e, e', show ¬ gr g 71 b = 0 by omega, if_false, C_57, c_57 R (show ¬ gr g 71 a = 0 by omega) (show ¬ gr g 71 b = 0 by omega) hk he hn h40 hk' he' hn' h40' hme hme' l1 l2 hm6 hc, hz, rI_0, rI_1, rI_2, rI_3, rI_4, C_44, C_45, c_44 R (show 0 < 5 by decide), c_44 R (show 1 < 5 by decide), c_44 R (show 2 < 5 by decide), c_44 R (show 3 < 5 by decide), c_44 R (show 4 < 5 by decide), c_45 R (show 0 < 5 by decide), c_45 R (show 1 < 5 by decide), c_45 R (show 2 < 5 by decide), c_45 R (show 3 < 5 by decide), c_45 R (show 4 < 5 by decide)]
      exact kn_rf R (by decide) k
  · rw [if_neg h] at k
    simp only [bk_27_0, bq_27_0, G_0, G_9, X_push, X_goto, X_fall, X_ifeq, X_ifne, X_iflt, X_ifge, X_ifgt, X_ifle, X_iceq, X_icne, X_iclt, X_icge, X_icgt, X_icle, X_ifnull, X_ifnonnull, X_switch, X_ireturn, X_lreturn, X_areturn, X_return, X_zreturn, X_iload, X_lload, X_aload, X_istore, X_astore, X_lstore, X_iinc, X_iadd, X_isub, X_imul, X_idiv, X_irem, X_iand, X_ior, X_ishl, X_ishr, X_iushr, X_ladd, X_lsub, X_lmul, X_ldiv, X_land, X_lor, X_lshl, X_lcmp, X_ineg, X_i2l, X_l2i, X_i2b, X_i2s, X_i2c, X_dupr, X_dupi, X_dup_x1, X_dup2, X_popi, X_popr, X_iaload, X_baload, X_laload, X_aaload, X_iastore, X_bastore, X_lastore, X_aastore, X_arraylength, am_wt_0, am_wt_int, am_wt_long, am_wt_ref, List.getElem?_cons_zero, List.getElem?_cons_succ, am_s1, am_s2, am_kill, List.set_cons_zero, List.set_cons_succ, List.length_cons, List.length_nil, Int.reduceToNat, Nat.reduceAdd, Nat.reduceLeDiff, Nat.reduceLT, Option.toList_some, Option.toList_none, List.cons_append, List.nil_append, true_and, and_true, true_or, or_true, false_or, or_false, and_self, false_and, not_false_eq_true, not_true_eq_false, to_k L, to_r0 L, to_r1 L, to_r2 L, to_r3 L, to_r4 L, to_r5 L, to_r6 L, to_a5 L, to_n5 L, to_a6 L, to_n6 L, C_55, c_55 R, h, if_false, rI_ne _ (tPl_lt h), C_44, c_44 R (tPl_lt h)]
    exact kn_rf R (tPl_lt h) k
theorem k_sorts (R : cR F ci cj g T) (s n : Int32) (k : Kn F ci cj g (q_sorts T s n).2 (.int (q_sorts T s n).1) Q) : X (d + 3) 10 (am_bk 10 0) [.ref 32, .int s, .int n, .null, .null, .null, .null] [] (ci, cj, g) Q := by
  have L := cR_to R
  have H := cR_w R
  unfold q_sorts at k
  by_cases h : noRow T s = 5
  · rw [if_pos h] at k
    obtain ⟨a, ha, rfl, h1, e, hk, _, h73, hs, _, h73e, he, hn, hm, h4, h40⟩ := noRow_5 R h
    rw [tn_nI (show a < 2 ^ 31 by omega)] at k
    by_cases h2 : prt (rN (tH T) a) 0 n = true
    · have p2 := of_decide_eq_true h2
      obtain ⟨m, hm3, rfl⟩ := nI_ex p2.2.1
      rw [nI_ti hm3] at p2
      rw [tn_nI (by omega)] at k
      by_cases h3 : m % 4 = 0
      · rw [if_pos ⟨h2, h3⟩] at k
        have h3' : nI (m % 4) = 0 := by rw [h3]; rfl
        simp only [bk_10_0, bq_10_0, bk_10_1, bq_10_1, bk_10_3, bq_10_3, G_36, G_0, X_push, X_goto, X_fall, X_ifeq, X_ifne, X_iflt, X_ifge, X_ifgt, X_ifle, X_iceq, X_icne, X_iclt, X_icge, X_icgt, X_icle, X_ifnull, X_ifnonnull, X_switch, X_ireturn, X_lreturn, X_areturn, X_return, X_zreturn, X_iload, X_lload, X_aload, X_istore, X_astore, X_lstore, X_iinc, X_iadd, X_isub, X_imul, X_idiv, X_irem, X_iand, X_ior, X_ishl, X_ishr, X_iushr, X_ladd, X_lsub, X_lmul, X_ldiv, X_land, X_lor, X_lshl, X_lcmp, X_ineg, X_i2l, X_l2i, X_i2b, X_i2s, X_i2c, X_dupr, X_dupi, X_dup_x1, X_dup2, X_popi, X_popr, X_iaload, X_baload, X_laload, X_aaload, X_iastore, X_bastore, X_lastore, X_aastore, X_arraylength, am_wt_0, am_wt_int, am_wt_long, am_wt_ref, List.getElem?_cons_zero, List.getElem?_cons_succ, am_s1, am_s2, am_kill, List.set_cons_zero, List.set_cons_succ, List.length_cons, List.length_nil, Int.reduceToNat, Nat.reduceAdd, Nat.reduceLeDiff, Nat.reduceLT, Option.toList_some, Option.toList_none, List.cons_append, List.nil_append, true_and, and_true, true_or, or_true, false_or, or_false, and_self, false_and, not_false_eq_true, not_true_eq_false, C_50, c_50 R, to_k L, to_r0 L, to_r1 L, to_r2 L, to_r3 L, to_r4 L, to_r5 L, to_r6 L, to_a5 L, to_n5 L, to_a6 L, to_n6 L, e, show ¬ gr g 71 a = 0 by omega, if_false, lit_4, pk_rem (show m < 2 ^ 31 by omega) (show 0 < 4 by decide) (show 4 < 2 ^ 31 by decide), nz_nI (show 0 < 4 by decide) (show 4 < 2 ^ 31 by decide), h3', C_114 _ _ _ hk, c_114 hk he hn h40, h2, bI_t, i10, if_true, hk]
        generalize hx : m / 4 = x at k
        have key : ∀ x i c σ ci1, 4 * i + 4 * x = m → wOK σ → wR ci1 33 σ → (∀ y, (y < 33 ∨ 41 < y) → ci1 y = ci y) → c ≤ i → Kn F ci cj g (stW T (srF (rE (tH T) a) x (4 * i) c σ).2) (.int (nI (srF (rE (tH T) a) x (4 * i) c σ).1)) Q → X (d + 3) 10 (am_bk 10 4) [.ref 32, .int (nI a), .int (nI m), .ref (gr g 71 a), .ref (gr g (gr g 71 a) 1), .int (nI c), .int (nI (4 * i))] [] (ci1, cj, g) Q := by
          intro x
          induction x with
          | zero =>
            intro i c σ ci1 hi O w1 f1 _ k
            have h5 : nI m ≤ nI (4 * i) + 3 := by rw [lit_3, nI_add, nI_lei (by omega) (by omega)]; omega
            rw [bk_10_4]
            simp only [bq_10_4, bk_10_6, bq_10_6, G_36, G_0, X_push, X_goto, X_fall, X_ifeq, X_ifne, X_iflt, X_ifge, X_ifgt, X_ifle, X_iceq, X_icne, X_iclt, X_icge, X_icgt, X_icle, X_ifnull, X_ifnonnull, X_switch, X_ireturn, X_lreturn, X_areturn, X_return, X_zreturn, X_iload, X_lload, X_aload, X_istore, X_astore, X_lstore, X_iinc, X_iadd, X_isub, X_imul, X_idiv, X_irem, X_iand, X_ior, X_ishl, X_ishr, X_iushr, X_ladd, X_lsub, X_lmul, X_ldiv, X_land, X_lor, X_lshl, X_lcmp, X_ineg, X_i2l, X_l2i, X_i2b, X_i2s, X_i2c, X_dupr, X_dupi, X_dup_x1, X_dup2, X_popi, X_popr, X_iaload, X_baload, X_laload, X_aaload, X_iastore, X_bastore, X_lastore, X_aastore, X_arraylength, am_wt_0, am_wt_int, am_wt_long, am_wt_ref, List.getElem?_cons_zero, List.getElem?_cons_succ, am_s1, am_s2, am_kill, List.set_cons_zero, List.set_cons_succ, List.length_cons, List.length_nil, Int.reduceToNat, Nat.reduceAdd, Nat.reduceLeDiff, Nat.reduceLT, Option.toList_some, Option.toList_none, List.cons_append, List.nil_append, true_and, and_true, true_or, or_true, false_or, or_false, and_self, false_and, not_false_eq_true, not_true_eq_false, h5, if_true]
            exact kn_w R O w1 f1 k
          | succ x ih =>
            intro i c σ ci1 hi O w1 f1 hc k
            have h5 : ¬ nI m ≤ nI (4 * i + 3) := by rw [nI_lei (by omega) (by omega)]; omega
            have e0 := hm (4 * i) (by omega)
            have e1 := hm (4 * i + 1) (by omega)
            have e2 := hm (4 * i + 2) (by omega)
            have e3 := hm (4 * i + 3) (by omega)
            have es : srF (rE (tH T) a) (x + 1) (4 * i) c σ = if tws σ (rE (tH T) a (4 * i)).toInt (rE (tH T) a (4 * i + 1)).toInt (rE (tH T) a (4 * i + 2)).toInt (rE (tH T) a (4 * i + 3)).toInt = 0 then srF (rE (tH T) a) x (4 * i + 4) (c + 1) (addS σ (rE (tH T) a (4 * i)).toInt.toNat (rE (tH T) a (4 * i + 1)).toInt.toNat (rE (tH T) a (4 * i + 2)).toInt.toNat (rE (tH T) a (4 * i + 3)).toInt.toNat) else (c, σ) := rfl
            rw [bk_10_4]
            generalize rE (tH T) a (4 * i) = v0 at *
            generalize rE (tH T) a (4 * i + 1) = v1 at *
            generalize rE (tH T) a (4 * i + 2) = v2 at *
            generalize rE (tH T) a (4 * i + 3) = v3 at *
            have l1 : nI (4 * i) + (1 : Int32) = nI (4 * i + 1) := nI_1 _
            by_cases z : tws σ v0.toInt v1.toInt v2.toInt v3.toInt = 0
            · rw [if_pos z] at es
              rw [es] at k
              obtain ⟨⟨a1, a2, b1, b2, c1, c2, d1, d2⟩, q2, q3⟩ := tws_0 z
              have O2 : wOK (addS σ v0.toInt.toNat v1.toInt.toNat v2.toInt.toNat v3.toInt.toNat) := addS_ok O (by omega) (by omega) ⟨by omega, by omega⟩ (by omega) (by omega) q3
              simp only [bq_10_4, bk_10_5, bq_10_5, G_36, G_0, X_push, X_goto, X_fall, X_ifeq, X_ifne, X_iflt, X_ifge, X_ifgt, X_ifle, X_iceq, X_icne, X_iclt, X_icge, X_icgt, X_icle, X_ifnull, X_ifnonnull, X_switch, X_ireturn, X_lreturn, X_areturn, X_return, X_zreturn, X_iload, X_lload, X_aload, X_istore, X_astore, X_lstore, X_iinc, X_iadd, X_isub, X_imul, X_idiv, X_irem, X_iand, X_ior, X_ishl, X_ishr, X_iushr, X_ladd, X_lsub, X_lmul, X_ldiv, X_land, X_lor, X_lshl, X_lcmp, X_ineg, X_i2l, X_l2i, X_i2b, X_i2s, X_i2c, X_dupr, X_dupi, X_dup_x1, X_dup2, X_popi, X_popr, X_iaload, X_baload, X_laload, X_aaload, X_iastore, X_bastore, X_lastore, X_aastore, X_arraylength, am_wt_0, am_wt_int, am_wt_long, am_wt_ref, List.getElem?_cons_zero, List.getElem?_cons_succ, am_s1, am_s2, am_kill, List.set_cons_zero, List.set_cons_succ, List.length_cons, List.length_nil, Int.reduceToNat, Nat.reduceAdd, Nat.reduceLeDiff, Nat.reduceLT, Option.toList_some, Option.toList_none, List.cons_append, List.nil_append, true_and, and_true, true_or, or_true, false_or, or_false, and_self, false_and, not_false_eq_true, not_true_eq_false, to_k L, to_r0 L, to_r1 L, to_r2 L, to_r3 L, to_r4 L, to_r5 L, to_r6 L, to_a5 L, to_n5 L, to_a6 L, to_n6 L, wo_k H, wo_r0 H, wo_r1 H, wo_r2 H, wo_r3 H, wo_r4 H, wo_r5 H, wo_r6 H, wo_r7 H, wo_a1 H, wo_n1 H, wo_a2 H, wo_n2 H, wo_a3 H, wo_n3 H, wo_a4 H, wo_n4 H, wo_a5 H, wo_n5 H, wo_a6 H, wo_n6 H, wo_a7 H, wo_n7 H, wo_a8 H, wo_n8 H, l1, lit_2, lit_3, nI_add, h5, if_false, he, hn, in_nI (show 4 * i < rN (tH T) a by omega) (show rN (tH T) a < 2 ^ 31 by omega), in_nI (show 4 * i + 1 < rN (tH T) a by omega) (show rN (tH T) a < 2 ^ 31 by omega), in_nI (show 4 * i + 2 < rN (tH T) a by omega) (show rN (tH T) a < 2 ^ 31 by omega), in_nI (show 4 * i + 3 < rN (tH T) a by omega) (show rN (tH T) a < 2 ^ 31 by omega), tn_nI (show 4 * i < 2 ^ 31 by omega), tn_nI (show 4 * i + 1 < 2 ^ 31 by omega), tn_nI (show 4 * i + 2 < 2 ^ 31 by omega), tn_nI (show 4 * i + 3 < 2 ^ 31 by omega), e0, e1, e2, e3, C_75, c_75 H O w1, z, if_true, l2i_nat a1, l2i_nat b1, l2i_nat (show 0 ≤ v2.toInt by omega), l2i_nat d1, C_76]
              refine c_76 H O w1 q3 ?_
              intro ci2 f2 w2
              simp only [G_36, G_0, X_push, X_goto, X_fall, X_ifeq, X_ifne, X_iflt, X_ifge, X_ifgt, X_ifle, X_iceq, X_icne, X_iclt, X_icge, X_icgt, X_icle, X_ifnull, X_ifnonnull, X_switch, X_ireturn, X_lreturn, X_areturn, X_return, X_zreturn, X_iload, X_lload, X_aload, X_istore, X_astore, X_lstore, X_iinc, X_iadd, X_isub, X_imul, X_idiv, X_irem, X_iand, X_ior, X_ishl, X_ishr, X_iushr, X_ladd, X_lsub, X_lmul, X_ldiv, X_land, X_lor, X_lshl, X_lcmp, X_ineg, X_i2l, X_l2i, X_i2b, X_i2s, X_i2c, X_dupr, X_dupi, X_dup_x1, X_dup2, X_popi, X_popr, X_iaload, X_baload, X_laload, X_aaload, X_iastore, X_bastore, X_lastore, X_aastore, X_arraylength, am_wt_0, am_wt_int, am_wt_long, am_wt_ref, List.getElem?_cons_zero, List.getElem?_cons_succ, am_s1, am_s2, am_kill, List.set_cons_zero, List.set_cons_succ, List.length_cons, List.length_nil, Int.reduceToNat, Nat.reduceAdd, Nat.reduceLeDiff, Nat.reduceLT, Option.toList_some, Option.toList_none, List.cons_append, List.nil_append, true_and, and_true, true_or, or_true, false_or, or_false, and_self, false_and, not_false_eq_true, not_true_eq_false, oi_1, oi_4, nI_add]
              refine ih (i + 1) (c + 1) _ ci2 (by omega) O2 w2 (fun y hy => by rw [f2 y hy]; exact f1 y hy) (by omega) k
            · rw [if_neg z] at es
              rw [es] at k
              simp only [bq_10_4, bk_10_6, bq_10_6, G_36, G_0, X_push, X_goto, X_fall, X_ifeq, X_ifne, X_iflt, X_ifge, X_ifgt, X_ifle, X_iceq, X_icne, X_iclt, X_icge, X_icgt, X_icle, X_ifnull, X_ifnonnull, X_switch, X_ireturn, X_lreturn, X_areturn, X_return, X_zreturn, X_iload, X_lload, X_aload, X_istore, X_astore, X_lstore, X_iinc, X_iadd, X_isub, X_imul, X_idiv, X_irem, X_iand, X_ior, X_ishl, X_ishr, X_iushr, X_ladd, X_lsub, X_lmul, X_ldiv, X_land, X_lor, X_lshl, X_lcmp, X_ineg, X_i2l, X_l2i, X_i2b, X_i2s, X_i2c, X_dupr, X_dupi, X_dup_x1, X_dup2, X_popi, X_popr, X_iaload, X_baload, X_laload, X_aaload, X_iastore, X_bastore, X_lastore, X_aastore, X_arraylength, am_wt_0, am_wt_int, am_wt_long, am_wt_ref, List.getElem?_cons_zero, List.getElem?_cons_succ, am_s1, am_s2, am_kill, List.set_cons_zero, List.set_cons_succ, List.length_cons, List.length_nil, Int.reduceToNat, Nat.reduceAdd, Nat.reduceLeDiff, Nat.reduceLT, Option.toList_some, Option.toList_none, List.cons_append, List.nil_append, true_and, and_true, true_or, or_true, false_or, or_false, and_self, false_and, not_false_eq_true, not_true_eq_false, to_k L, to_r0 L, to_r1 L, to_r2 L, to_r3 L, to_r4 L, to_r5 L, to_r6 L, to_a5 L, to_n5 L, to_a6 L, to_n6 L, wo_k H, wo_r0 H, wo_r1 H, wo_r2 H, wo_r3 H, wo_r4 H, wo_r5 H, wo_r6 H, wo_r7 H, wo_a1 H, wo_n1 H, wo_a2 H, wo_n2 H, wo_a3 H, wo_n3 H, wo_a4 H, wo_n4 H, wo_a5 H, wo_n5 H, wo_a6 H, wo_n6 H, wo_a7 H, wo_n7 H, wo_a8 H, wo_n8 H, l1, lit_2, lit_3, nI_add, h5, if_false, he, hn, in_nI (show 4 * i < rN (tH T) a by omega) (show rN (tH T) a < 2 ^ 31 by omega), in_nI (show 4 * i + 1 < rN (tH T) a by omega) (show rN (tH T) a < 2 ^ 31 by omega), in_nI (show 4 * i + 2 < rN (tH T) a by omega) (show rN (tH T) a < 2 ^ 31 by omega), in_nI (show 4 * i + 3 < rN (tH T) a by omega) (show rN (tH T) a < 2 ^ 31 by omega), tn_nI (show 4 * i < 2 ^ 31 by omega), tn_nI (show 4 * i + 1 < 2 ^ 31 by omega), tn_nI (show 4 * i + 2 < 2 ^ 31 by omega), tn_nI (show 4 * i + 3 < 2 ^ 31 by omega), e0, e1, e2, e3, C_75, c_75 H O w1, z]
              exact kn_w R O w1 f1 k
        exact key x 0 0 (tW T) ci (by omega) (cR_O R) (cR_wR R) (fun y _ => rfl) (by omega) k
      · rw [if_neg (fun z => h3 z.2)] at k
        have h3' : ¬ nI (m % 4) = 0 := nz_nI (by omega) (by omega)
        simp only [bk_10_0, bq_10_0, bk_10_1, bq_10_1, bk_10_2, bq_10_2, G_36, G_0, X_push, X_goto, X_fall, X_ifeq, X_ifne, X_iflt, X_ifge, X_ifgt, X_ifle, X_iceq, X_icne, X_iclt, X_icge, X_icgt, X_icle, X_ifnull, X_ifnonnull, X_switch, X_ireturn, X_lreturn, X_areturn, X_return, X_zreturn, X_iload, X_lload, X_aload, X_istore, X_astore, X_lstore, X_iinc, X_iadd, X_isub, X_imul, X_idiv, X_irem, X_iand, X_ior, X_ishl, X_ishr, X_iushr, X_ladd, X_lsub, X_lmul, X_ldiv, X_land, X_lor, X_lshl, X_lcmp, X_ineg, X_i2l, X_l2i, X_i2b, X_i2s, X_i2c, X_dupr, X_dupi, X_dup_x1, X_dup2, X_popi, X_popr, X_iaload, X_baload, X_laload, X_aaload, X_iastore, X_bastore, X_lastore, X_aastore, X_arraylength, am_wt_0, am_wt_int, am_wt_long, am_wt_ref, List.getElem?_cons_zero, List.getElem?_cons_succ, am_s1, am_s2, am_kill, List.set_cons_zero, List.set_cons_succ, List.length_cons, List.length_nil, Int.reduceToNat, Nat.reduceAdd, Nat.reduceLeDiff, Nat.reduceLT, Option.toList_some, Option.toList_none, List.cons_append, List.nil_append, true_and, and_true, true_or, or_true, false_or, or_false, and_self, false_and, not_false_eq_true, not_true_eq_false, C_50, c_50 R, to_k L, to_r0 L, to_r1 L, to_r2 L, to_r3 L, to_r4 L, to_r5 L, to_r6 L, to_a5 L, to_n5 L, to_a6 L, to_n6 L, e, show ¬ gr g 71 a = 0 by omega, if_false, lit_4, pk_rem (show m < 2 ^ 31 by omega) (show 0 < 4 by decide) (show 4 < 2 ^ 31 by decide), nz_nI (show 0 < 4 by decide) (show 4 < 2 ^ 31 by decide), h3', if_true, rI_0, rI_1, rI_2, rI_3, rI_4, C_44, C_45, c_44 R (show 0 < 5 by decide), c_44 R (show 1 < 5 by decide), c_44 R (show 2 < 5 by decide), c_44 R (show 3 < 5 by decide), c_44 R (show 4 < 5 by decide), c_45 R (show 0 < 5 by decide), c_45 R (show 1 < 5 by decide), c_45 R (show 2 < 5 by decide), c_45 R (show 3 < 5 by decide), c_45 R (show 4 < 5 by decide)]
        exact kn_rf R (by decide) k
    · rw [if_neg (fun z => h2 z.1)] at k
      have n4 : ¬ (4 : Int32) = 0 := by decide
      simp only [bk_10_0, bq_10_0, bk_10_1, bq_10_1, bk_10_2, bq_10_2, G_36, G_0, X_push, X_goto, X_fall, X_ifeq, X_ifne, X_iflt, X_ifge, X_ifgt, X_ifle, X_iceq, X_icne, X_iclt, X_icge, X_icgt, X_icle, X_ifnull, X_ifnonnull, X_switch, X_ireturn, X_lreturn, X_areturn, X_return, X_zreturn, X_iload, X_lload, X_aload, X_istore, X_astore, X_lstore, X_iinc, X_iadd, X_isub, X_imul, X_idiv, X_irem, X_iand, X_ior, X_ishl, X_ishr, X_iushr, X_ladd, X_lsub, X_lmul, X_ldiv, X_land, X_lor, X_lshl, X_lcmp, X_ineg, X_i2l, X_l2i, X_i2b, X_i2s, X_i2c, X_dupr, X_dupi, X_dup_x1, X_dup2, X_popi, X_popr, X_iaload, X_baload, X_laload, X_aaload, X_iastore, X_bastore, X_lastore, X_aastore, X_arraylength, am_wt_0, am_wt_int, am_wt_long, am_wt_ref, List.getElem?_cons_zero, List.getElem?_cons_succ, am_s1, am_s2, am_kill, List.set_cons_zero, List.set_cons_succ, List.length_cons, List.length_nil, Int.reduceToNat, Nat.reduceAdd, Nat.reduceLeDiff, Nat.reduceLT, Option.toList_some, Option.toList_none, List.cons_append, List.nil_append, true_and, and_true, true_or, or_true, false_or, or_false, and_self, false_and, not_false_eq_true, not_true_eq_false, C_50, c_50 R, to_k L, to_r0 L, to_r1 L, to_r2 L, to_r3 L, to_r4 L, to_r5 L, to_r6 L, to_a5 L, to_n5 L, to_a6 L, to_n6 L, e, show ¬ gr g 71 a = 0 by omega, if_false, n4, C_114 _ _ _ hk, c_114 hk he hn h40, h2, bI_f, rI_0, rI_1, rI_2, rI_3, rI_4, C_44, C_45, c_44 R (show 0 < 5 by decide), c_44 R (show 1 < 5 by decide), c_44 R (show 2 < 5 by decide), c_44 R (show 3 < 5 by decide), c_44 R (show 4 < 5 by decide), c_45 R (show 0 < 5 by decide), c_45 R (show 1 < 5 by decide), c_45 R (show 2 < 5 by decide), c_45 R (show 3 < 5 by decide), c_45 R (show 4 < 5 by decide)]
      split
      · exact kn_rf R (by decide) k
      · exact kn_rf R (by decide) k
  · rw [if_neg h] at k
    simp only [bk_10_0, bq_10_0, G_36, G_0, X_push, X_goto, X_fall, X_ifeq, X_ifne, X_iflt, X_ifge, X_ifgt, X_ifle, X_iceq, X_icne, X_iclt, X_icge, X_icgt, X_icle, X_ifnull, X_ifnonnull, X_switch, X_ireturn, X_lreturn, X_areturn, X_return, X_zreturn, X_iload, X_lload, X_aload, X_istore, X_astore, X_lstore, X_iinc, X_iadd, X_isub, X_imul, X_idiv, X_irem, X_iand, X_ior, X_ishl, X_ishr, X_iushr, X_ladd, X_lsub, X_lmul, X_ldiv, X_land, X_lor, X_lshl, X_lcmp, X_ineg, X_i2l, X_l2i, X_i2b, X_i2s, X_i2c, X_dupr, X_dupi, X_dup_x1, X_dup2, X_popi, X_popr, X_iaload, X_baload, X_laload, X_aaload, X_iastore, X_bastore, X_lastore, X_aastore, X_arraylength, am_wt_0, am_wt_int, am_wt_long, am_wt_ref, List.getElem?_cons_zero, List.getElem?_cons_succ, am_s1, am_s2, am_kill, List.set_cons_zero, List.set_cons_succ, List.length_cons, List.length_nil, Int.reduceToNat, Nat.reduceAdd, Nat.reduceLeDiff, Nat.reduceLT, Option.toList_some, Option.toList_none, List.cons_append, List.nil_append, true_and, and_true, true_or, or_true, false_or, or_false, and_self, false_and, not_false_eq_true, not_true_eq_false, C_50, c_50 R, to_k L, to_r0 L, to_r1 L, to_r2 L, to_r3 L, to_r4 L, to_r5 L, to_r6 L, to_a5 L, to_n5 L, to_a6 L, to_n6 L, noRow_n (g := g) h, if_true, C_52, c_52 R, h, if_false, C_44, c_44 R (noRow_lt h)]
    exact kn_rf R (noRow_lt h) k
end CARTS2
