/-! CALLS that make things: row, rule, keep -/
theorem gk_gA (g : am_G) (k n a : Nat) : gk (gA g k n) a = if a = g.2.2.1 + 32 then k else gk g a := by
  show (am_u1 g.2.1 (g.2.2.1 + 32) (k, n) a).1 = _
  unfold am_u1; split <;> rfl
theorem gn_gA (g : am_G) (k n a : Nat) : gn (gA g k n) a = if a = g.2.2.1 + 32 then n else gn g a := by
  show (am_u1 g.2.1 (g.2.2.1 + 32) (k, n) a).2 = _
  unfold am_u1; split <;> rfl
theorem gr_gA (g : am_G) (k n a i : Nat) : gr (gA g k n) a i = if a = g.2.2.1 + 32 then 0 else gr g a i := by
  show am_u1 g.1 (g.2.2.1 + 32) (fun _ => 0) a i = _
  unfold am_u1; split <;> rfl
theorem kn_gA (g : am_G) (k n a : Nat) : (gA g k n).2.1 a = if a = g.2.2.1 + 32 then (k, n) else g.2.1 a := rfl
theorem gk_gU (x : Nat → Nat → Nat) (g : am_G) (a : Nat) : gk (x, g.2) a = gk g a := rfl
theorem gn_gU (x : Nat → Nat → Nat) (g : am_G) (a : Nat) : gn (x, g.2) a = gn g a := rfl
theorem gr_gU (g : am_G) (a i x b j : Nat) : gr (am_u2 g.1 a i x, g.2) b j = if b = a then (if j = i then x else gr g b j) else gr g b j := u2_e g.1 a i x b j
theorem cl_gA (g : am_G) (k n : Nat) : (gA g k n).2.2.1 = g.2.2.1 + 1 := rfl
theorem sl_gA (g : am_G) (k n : Nat) : (gA g k n).2.2.2 = g.2.2.2 + n := rfl
theorem z1_e {α : Type} (f : Nat → Nat → α) (z : α) (a b i : Nat) : z1 f z a b i = if b = a then z else f b i := by
  unfold z1 am_u1; split <;> rfl
theorem z1_n {α : Type} (f : Nat → Nat → α) (z : α) {a b : Nat} (h : b ≠ a) : z1 f z a b = f b := am_u1_n f _ h
theorem sz_5 : am_sz 5 = 2 := rfl
theorem sz_6 : am_sz 6 = 1 := rfl
theorem sz_7 : am_sz 7 = 1 := rfl
theorem sz_8 : am_sz 8 = 1 := rfl
theorem sz_9 : am_sz 9 = 1 := rfl
theorem sz_10 : am_sz 10 = 1 := rfl
theorem sz_11 : am_sz 11 = 1 := rfl
theorem cR_row {F : Nat → Prop} {ci ci' : Nat → Nat → Int32} {cj cj' : Nat → Nat → Int64} {g g' : am_G} {T : tS} {s o n : Nat} (R : cR F ci cj g T) (M : rm F g) (hs : s < 8) (ho : o ≤ 4) (hn : n ≤ 40)
  (k0 : ∀ a, a ≠ g.2.2.1 + 32 → a ≠ g.2.2.1 + 33 → g'.2.1 a = g.2.1 a) (r0 : ∀ a i, a ≠ g.2.2.1 + 32 → a ≠ g.2.2.1 + 33 → ¬ (a = 71 ∧ i = s) → gr g' a i = gr g a i) (r71 : gr g' 71 s = g.2.2.1 + 32) (kc : gk g' (g.2.2.1 + 32) = 5) (kd : gk g' (g.2.2.1 + 33) = 21) (nd : gn g' (g.2.2.1 + 33) = n) (rc : gr g' (g.2.2.1 + 32) 1 = g.2.2.1 + 33) (i0 : ∀ a, a ≠ g.2.2.1 + 32 → a ≠ g.2.2.1 + 33 → ci' a = ci a) (ic : ci' (g.2.2.1 + 32) 0 = nI o) (j0 : ∀ a, a ≠ g.2.2.1 + 32 → a ≠ g.2.2.1 + 33 → cj' a = cj a) (jd : ∀ i, cj' (g.2.2.1 + 33) i = 0) (n1 : g'.2.2.1 = g.2.2.1 + 2) (n2 : g'.2.2.2 ≤ g.2.2.2 + 42) :
  cR (fun a => F a ∨ a = g.2.2.1 + 32 ∨ a = g.2.2.1 + 33) ci' cj' g' (stH T (am_u1 (hK (tH T)) s 1, am_u1 (rS (tH T)) s o, am_u1 (rN (tH T)) s n, am_u1 (rE (tH T)) s (fun _ => 0), uK (tH T), uA (tH T))) ∧ gx F g (fun a => F a ∨ a = g.2.2.1 + 32 ∨ a = g.2.2.1 + 33) g' ∧ frm (fun a => F a ∨ a = g.2.2.1 + 32 ∨ a = g.2.2.1 + 33) ci cj ci' cj' := by
  obtain ⟨m1, m2, m3, m4⟩ := M
  obtain ⟨L, D, C, E, P⟩ := R
  have hF := L.2.2.2.2.2.2.2
  have fl : ∀ a, (F a ∨ a < 32) → a ≠ g.2.2.1 + 32 ∧ a ≠ g.2.2.1 + 33 := fun a h => by
    rcases h with h | h
    · have := m1 a h; omega
    · omega
  have hT : ∀ t, t ≠ s → gr g' 71 t = gr g 71 t := fun t ht => r0 71 t (by omega) (by omega) (by omega)
  have rows : ∀ t, t < 8 → hK (tH T) t = 1 → F (gr g 71 t) ∧ F (gr g (gr g 71 t) 1) ∧ 73 ≤ gr g 71 t := fun t ht h => by
    rcases C t ht with ⟨x, -⟩ | ⟨_, _, x, y, _, z, -⟩ | ⟨x, -⟩
    · omega
    · exact ⟨x, z, y⟩
    · omega
  have okk : ∀ t, t < 8 → _ := P.2.2.2.2
  refine ⟨⟨cL_g (fun a h => k0 a (fl a h).1 (fl a h).2) (fun a i h x => r0 a i (fl a h).1 (fl a h).2 (fun z => x z.1)) (fun a h => Or.inl h) L, cD_g (fun a ha => i0 a (by omega) (by omega)) ⟨rfl, rfl, rfl, rfl, rfl, rfl⟩ D, fun t ht => ?_, ?_, ⟨P.1, P.2.1, P.2.2.1, P.2.2.2.1, fun t ht => ?_⟩⟩, ⟨fun a h => Or.inl h, fun a h => ?_, fun a h => ⟨fun i => r0 a i (fun z => h (Or.inr (Or.inl z))) (fun z => h (Or.inr (Or.inr z))) (fun z => h (Or.inl (by rw [z.1]; exact hF 71 (by decide) (by decide)))), k0 a (fun z => h (Or.inr (Or.inl z))) (fun z => h (Or.inr (Or.inr z)))⟩, by omega, by omega, by omega⟩, fun a h => ⟨i0 a (fun z => h (Or.inr (Or.inl z))) (fun z => h (Or.inr (Or.inr z))), j0 a (fun z => h (Or.inr (Or.inl z))) (fun z => h (Or.inr (Or.inr z)))⟩⟩
  · by_cases z : t = s
    · subst z
      refine Or.inr (Or.inl ⟨?_, ?_, ?_, ?_, ?_, ?_, ?_, ?_, ?_, ?_⟩)
      · exact am_u1_s _ _ _
      · rw [r71]; exact kc
      · rw [r71]; exact Or.inr (Or.inl rfl)
      · rw [r71]; omega
      · rw [r71, ic]; exact congrArg nI (am_u1_s _ _ _).symm
      · rw [r71, rc]; exact Or.inr (Or.inr rfl)
      · rw [r71, rc]; omega
      · rw [r71, rc]; exact kd
      · rw [r71, rc, nd]; exact (am_u1_s _ _ _).symm
      · intro i _
        rw [r71, rc, jd]
        show _ = am_u1 (rE (tH T)) t (fun _ => 0) t i
        rw [am_u1_s]
    · refine cS_g (F := F) (fun a h => k0 a (fl a (Or.inl h)).1 (fl a (Or.inl h)).2) (fun a i h x => r0 a i (fl a (Or.inl h)).1 (fl a (Or.inl h)).2 (fun q => x q.1)) (fun a h => Or.inl h) (fun a h _ => ⟨i0 a (fl a (Or.inl h)).1 (fl a (Or.inl h)).2, j0 a (fl a (Or.inl h)).1 (fl a (Or.inl h)).2⟩) (hT t z) ⟨am_u1_n _ _ z, am_u1_n _ _ z, am_u1_n _ _ z, am_u1_n _ _ z, rfl, rfl⟩ (C t ht)
  · intro t ht u hu htu a b
    have e1 : ∀ t, t ≠ s → am_u1 (hK (tH T)) s 1 t = hK (tH T) t := fun t h => am_u1_n _ _ h
    by_cases z : t = s
    · have z2 : u ≠ s := by omega
      have b' : hK (tH T) u = 1 := (e1 u z2).symm.trans b
      obtain ⟨f1, f2, f3⟩ := rows u hu b'
      rw [z, r71, rc, hT u z2, r0 _ 1 (fl _ (Or.inl f1)).1 (fl _ (Or.inl f1)).2 (by omega)]
      exact fun q => (fl _ (Or.inl f2)).2 q.symm
    · have a' : hK (tH T) t = 1 := (e1 t z).symm.trans a
      obtain ⟨f1, f2, f3⟩ := rows t ht a'
      rw [hT t z, r0 _ 1 (fl _ (Or.inl f1)).1 (fl _ (Or.inl f1)).2 (by omega)]
      by_cases z2 : u = s
      · rw [z2, r71, rc]
        exact (fl _ (Or.inl f2)).2
      · have b' : hK (tH T) u = 1 := (e1 u z2).symm.trans b
        obtain ⟨q1, q2, q3⟩ := rows u hu b'
        rw [hT u z2, r0 _ 1 (fl _ (Or.inl q1)).1 (fl _ (Or.inl q1)).2 (by omega)]
        exact E t ht u hu htu a' b'
  · show am_u1 (hK (tH T)) s 1 t ≤ 2 ∧ (am_u1 (hK (tH T)) s 1 t = 1 → am_u1 (rS (tH T)) s o t ≤ 4 ∧ am_u1 (rN (tH T)) s n t ≤ 40) ∧ (am_u1 (hK (tH T)) s 1 t = 2 → _)
    by_cases z : t = s
    · rw [z, am_u1_s, am_u1_s, am_u1_s]
      exact ⟨by omega, fun _ => ⟨ho, hn⟩, fun q => absurd q (by decide)⟩
    · rw [am_u1_n _ _ z, am_u1_n _ _ z, am_u1_n _ _ z]
      exact okk t ht
  · rcases h with h | h | h
    · exact Or.inl h
    · exact Or.inr ⟨by omega, by omega⟩
    · exact Or.inr ⟨by omega, by omega⟩
theorem cR_rule {F : Nat → Prop} {ci ci' : Nat → Nat → Int32} {cj cj' : Nat → Nat → Int64} {g g' : am_G} {T : tS} {s κ n : Nat} (R : cR F ci cj g T) (M : rm F g) (hs : s < 8) (h1 : 1 ≤ κ) (h6 : κ ≤ 6) (hn : n ≤ 99)
  (k0 : ∀ a, a ≠ g.2.2.1 + 32 → g'.2.1 a = g.2.1 a) (r0 : ∀ a i, a ≠ g.2.2.1 + 32 → ¬ (a = 71 ∧ i = s) → gr g' a i = gr g a i) (r71 : gr g' 71 s = g.2.2.1 + 32) (kc : gk g' (g.2.2.1 + 32) = κ + 5) (i0 : ∀ a, a ≠ g.2.2.1 + 32 → ci' a = ci a) (ic : ci' (g.2.2.1 + 32) 0 = nI n) (j0 : ∀ a, a ≠ g.2.2.1 + 32 → cj' a = cj a) (n1 : g'.2.2.1 = g.2.2.1 + 1) (n2 : g'.2.2.2 ≤ g.2.2.2 + 42) :
  cR (fun a => F a ∨ a = g.2.2.1 + 32) ci' cj' g' (stH T (am_u1 (hK (tH T)) s 2, rS (tH T), rN (tH T), rE (tH T), am_u1 (uK (tH T)) s κ, am_u1 (uA (tH T)) s n)) ∧ gx F g (fun a => F a ∨ a = g.2.2.1 + 32) g' ∧ frm (fun a => F a ∨ a = g.2.2.1 + 32) ci cj ci' cj' := by
  obtain ⟨m1, m2, m3, m4⟩ := M
  obtain ⟨L, D, C, E, P⟩ := R
  have hF := L.2.2.2.2.2.2.2
  have fl : ∀ a, (F a ∨ a < 32) → a ≠ g.2.2.1 + 32 := fun a h => by
    rcases h with h | h
    · have := m1 a h; omega
    · omega
  have hT : ∀ t, t ≠ s → gr g' 71 t = gr g 71 t := fun t ht => r0 71 t (by omega) (by omega)
  have rows : ∀ t, t < 8 → hK (tH T) t = 1 → F (gr g 71 t) ∧ 73 ≤ gr g 71 t := fun t ht h => by
    rcases C t ht with ⟨x, -⟩ | ⟨_, _, x, y, -⟩ | ⟨x, -⟩
    · omega
    · exact ⟨x, y⟩
    · omega
  have okk : ∀ t, t < 8 → _ := P.2.2.2.2
  refine ⟨⟨cL_g (fun a h => k0 a (fl a h)) (fun a i h x => r0 a i (fl a h) (fun z => x z.1)) (fun a h => Or.inl h) L, cD_g (fun a ha => i0 a (by omega)) ⟨rfl, rfl, rfl, rfl, rfl, rfl⟩ D, fun t ht => ?_, ?_, ⟨P.1, P.2.1, P.2.2.1, P.2.2.2.1, fun t ht => ?_⟩⟩, ⟨fun a h => Or.inl h, fun a h => ?_, fun a h => ⟨fun i => r0 a i (fun z => h (Or.inr z)) (fun z => h (Or.inl (by rw [z.1]; exact hF 71 (by decide) (by decide)))), k0 a (fun z => h (Or.inr z))⟩, by omega, by omega, by omega⟩, fun a h => ⟨i0 a (fun z => h (Or.inr z)), j0 a (fun z => h (Or.inr z))⟩⟩
  · by_cases z : t = s
    · subst z
      refine Or.inr (Or.inr ⟨?_, ?_, ?_, ?_⟩)
      · exact am_u1_s _ _ _
      · rw [r71]; exact Or.inr rfl
      · rw [r71]; omega
      · show rR ci' g' (gr g' 71 t) (am_u1 (uK (tH T)) t κ t) (am_u1 (uA (tH T)) t n t)
        rw [r71, am_u1_s, am_u1_s]
        exact ⟨kc, h1, h6, ic, hn⟩
    · refine cS_g (F := F) (fun a h => k0 a (fl a (Or.inl h))) (fun a i h x => r0 a i (fl a (Or.inl h)) (fun q => x q.1)) (fun a h => Or.inl h) (fun a h _ => ⟨i0 a (fl a (Or.inl h)), j0 a (fl a (Or.inl h))⟩) (hT t z) ⟨am_u1_n _ _ z, rfl, rfl, rfl, am_u1_n _ _ z, am_u1_n _ _ z⟩ (C t ht)
  · intro t ht u hu htu a b
    have e1 : ∀ t, am_u1 (hK (tH T)) s 2 t = 1 → t ≠ s ∧ hK (tH T) t = 1 := fun t h => by
      by_cases z : t = s
      · rw [z, am_u1_s] at h; exact absurd h (by decide)
      · rw [am_u1_n _ _ z] at h; exact ⟨z, h⟩
    obtain ⟨a1, a2⟩ := e1 t a
    obtain ⟨b1, b2⟩ := e1 u b
    obtain ⟨f1, f2⟩ := rows t ht a2
    obtain ⟨q1, q2⟩ := rows u hu b2
    rw [hT t a1, hT u b1, r0 _ 1 (fl _ (Or.inl f1)) (by omega), r0 _ 1 (fl _ (Or.inl q1)) (by omega)]
    exact E t ht u hu htu a2 b2
  · show am_u1 (hK (tH T)) s 2 t ≤ 2 ∧ (am_u1 (hK (tH T)) s 2 t = 1 → _) ∧ (am_u1 (hK (tH T)) s 2 t = 2 → 1 ≤ am_u1 (uK (tH T)) s κ t ∧ am_u1 (uK (tH T)) s κ t ≤ 6 ∧ am_u1 (uA (tH T)) s n t ≤ 99)
    by_cases z : t = s
    · rw [z, am_u1_s, am_u1_s, am_u1_s]
      exact ⟨by omega, fun q => absurd q (by decide), fun _ => ⟨h1, h6, hn⟩⟩
    · rw [am_u1_n _ _ z, am_u1_n _ _ z, am_u1_n _ _ z]
      exact okk t ht
  · rcases h with h | h
    · exact Or.inl h
    · exact Or.inr ⟨by omega, by omega⟩
theorem rg_iff {s : Int32} {lo hi : Int} : rg s lo hi = true ↔ lo ≤ s.toInt ∧ s.toInt ≤ hi := ⟨fun h => of_decide_eq_true h, fun h => rg_t h⟩
section ALLOC
variable {d : Nat} {ci : Nat → Nat → Int32} {cj : Nat → Nat → Int64} {g : am_G} {Q : Option Value → am_H → Prop} {F : Nat → Prop} {T : tS}
theorem kx_rf {v : Value} {κ : Nat} (R : cR F ci cj g T) (hκ : κ < 5) (k : Kx F ci cj g (rfT T κ) v Q) : Q (some v) (am_u2 ci 72 κ (ci 72 κ + 1), cj, g) := kn_rf R hκ (kx_kn k)
/-- Row.<init> -/
theorem c_111 {c n : Nat} {o : Int32} (hk : gk g c = 5) (hc : c ≠ 0) (hcn : c ≠ g.2.2.1 + 32) (hn : n ≤ 40) (r1 : g.2.2.1 + 1 ≤ 600000) (r2 : g.2.2.2 + 40 ≤ 7302250) : X (d + 1) 111 (am_bk 111 0) [.ref c, .int o, .int (nI n)] [] (ci, cj, g) Q ↔ Q none (z1 (am_u2 ci c 0 o) 0 (g.2.2.1 + 32), z1 cj 0 (g.2.2.1 + 32), am_u2 (gA g 21 n).1 c 1 (g.2.2.1 + 32), (gA g 21 n).2) := by
  have h1 : (0 : Int32) ≤ nI n := by rw [lit_0, nI_lei (by omega) (by omega)]; omega
  simp only [bk_111_0, bq_111_0, bk_111_1, bq_111_1, bk_111_2, bq_111_2, P_35, P_36, X_push, X_goto, X_fall, X_ifeq, X_ifne, X_iflt, X_ifge, X_ifgt, X_ifle, X_iceq, X_icne, X_iclt, X_icge, X_icgt, X_icle, X_ifnull, X_ifnonnull, X_switch, X_ireturn, X_lreturn, X_areturn, X_return, X_zreturn, X_iload, X_lload, X_aload, X_istore, X_astore, X_lstore, X_iinc, X_iadd, X_isub, X_imul, X_idiv, X_irem, X_iand, X_ior, X_ishl, X_ishr, X_iushr, X_ladd, X_lsub, X_lmul, X_ldiv, X_land, X_lor, X_lshl, X_lcmp, X_ineg, X_i2l, X_l2i, X_i2b, X_i2s, X_i2c, X_dupr, X_dupi, X_dup_x1, X_dup2, X_popi, X_popr, X_iaload, X_baload, X_laload, X_aaload, X_iastore, X_bastore, X_lastore, X_aastore, X_arraylength, am_wt_0, am_wt_int, am_wt_long, am_wt_ref, List.getElem?_cons_zero, List.getElem?_cons_succ, am_s1, am_s2, am_kill, List.set_cons_zero, List.set_cons_succ, List.length_cons, List.length_nil, Int.reduceToNat, Nat.reduceAdd, Nat.reduceLeDiff, Nat.reduceLT, Option.toList_some, Option.toList_none, List.cons_append, List.nil_append, true_and, and_true, true_or, or_true, false_or, or_false, and_self, false_and, not_false_eq_true, not_true_eq_false, C_230, bk_230_0, bq_230_0, X_objInit, hk, hc, ne_eq, Nat.le_refl, h1, if_true, X_newa_long, nI_ti (show n < 2147483648 by omega), tn_nI (show n < 2 ^ 31 by omega), gk_gA, hcn, if_false]
  refine ⟨fun z => z.2, fun z => ⟨⟨by omega, by omega, by omega, by omega⟩, z⟩⟩
theorem k_row (R : cR F ci cj g T) (M : rm F g) (s o n : Int32) (k : Kx F ci cj g (q_row T s o n).2 (.int (q_row T s o n).1) Q) : X (d + 3) 1 (am_bk 1 0) [.ref 32, .int s, .int o, .int n] [] (ci, cj, g) Q := by
  have L := cR_to R
  unfold q_row at k
  by_cases h1 : rg s 0 7 = true
  · by_cases h2 : rg o 0 4 = true
    · by_cases h3 : rg n 0 40 = true
      · rw [if_pos ⟨h1, h2, h3⟩] at k
        obtain ⟨s, hs, rfl⟩ := rg_nI (n := 7) h1 (by decide)
        obtain ⟨o, ho, rfl⟩ := rg_nI (n := 4) h2 (by decide)
        obtain ⟨n, hn, rfl⟩ := rg_nI (n := 40) h3 (by decide)
        obtain ⟨m1, m2, m3, m4⟩ := M
        rw [tn_nI (by omega), tn_nI (by omega), tn_nI (by omega)] at k
        have a1 : ¬ nI o < 0 := by rw [lit_0, nI_lti (by omega) (by omega)]; omega
        have a2 : ¬ (4 : Int32) < nI o := by rw [lit_4, nI_lti (by omega) (by omega)]; omega
        have a3 : ¬ nI n < 0 := by rw [lit_0, nI_lti (by omega) (by omega)]; omega
        have a4 : nI n ≤ 40 := by rw [lit_40, nI_lei (by omega) (by omega)]; omega
        have kc : gk (gA g 5 2) (g.2.2.1 + 32) = 5 := by rw [gk_gA, if_pos rfl]
        simp only [bk_1_0, bq_1_0, bk_1_2, bq_1_2, G_5, X_push, X_goto, X_fall, X_ifeq, X_ifne, X_iflt, X_ifge, X_ifgt, X_ifle, X_iceq, X_icne, X_iclt, X_icge, X_icgt, X_icle, X_ifnull, X_ifnonnull, X_switch, X_ireturn, X_lreturn, X_areturn, X_return, X_zreturn, X_iload, X_lload, X_aload, X_istore, X_astore, X_lstore, X_iinc, X_iadd, X_isub, X_imul, X_idiv, X_irem, X_iand, X_ior, X_ishl, X_ishr, X_iushr, X_ladd, X_lsub, X_lmul, X_ldiv, X_land, X_lor, X_lshl, X_lcmp, X_ineg, X_i2l, X_l2i, X_i2b, X_i2s, X_i2c, X_dupr, X_dupi, X_dup_x1, X_dup2, X_popi, X_popr, X_iaload, X_baload, X_laload, X_aaload, X_iastore, X_bastore, X_lastore, X_aastore, X_arraylength, am_wt_0, am_wt_int, am_wt_long, am_wt_ref, List.getElem?_cons_zero, List.getElem?_cons_succ, am_s1, am_s2, am_kill, List.set_cons_zero, List.set_cons_succ, List.length_cons, List.length_nil, Int.reduceToNat, Nat.reduceAdd, Nat.reduceLeDiff, Nat.reduceLT, Option.toList_some, Option.toList_none, List.cons_append, List.nil_append, true_and, and_true, true_or, or_true, false_or, or_false, and_self, false_and, not_false_eq_true, not_true_eq_false, to_k L, to_r0 L, to_r1 L, to_r2 L, to_r3 L, to_r4 L, to_r5 L, to_r6 L, to_a5 L, to_n5 L, to_a6 L, to_n6 L, C_46, c_46, h1, bI_t, i10, if_false, a1, a2, a3, a4, if_true, X_new, sz_5, C_111, c_111 (g := gA g 5 2) (c := g.2.2.1 + 32) kc (by omega) (by rw [cl_gA]; omega) hn (by rw [cl_gA]; omega) (by rw [sl_gA]; omega), gk_gU, gn_gU, gk_gA, gn_gA, cl_gA, show ¬ 71 = g.2.2.1 + 32 by omega, show ¬ 71 = g.2.2.1 + 1 + 32 by omega, show ¬ g.2.2.1 + 32 = g.2.2.1 + 1 + 32 by omega, in_nI (show s < 8 by omega) (show 8 < 2 ^ 31 by decide), tn_nI (show s < 2 ^ 31 by omega), Nat.reduceLeDiff, ne_eq, show ¬ g.2.2.1 + 32 = 0 by omega]
        refine ⟨⟨by omega, by omega⟩, ?_⟩
        have w := cR_row (g' := (am_u2 (am_u2 (gA (gA g 5 2) 21 n).1 (g.2.2.1 + 32) 1 (g.2.2.1 + 1 + 32)) 71 s (g.2.2.1 + 32), (gA (gA g 5 2) 21 n).2)) (ci' := z1 (am_u2 (z1 ci 0 (g.2.2.1 + 32)) (g.2.2.1 + 32) 0 (nI o)) 0 (g.2.2.1 + 1 + 32)) (cj' := z1 (z1 cj 0 (g.2.2.1 + 32)) 0 (g.2.2.1 + 1 + 32)) (s := s) (o := o) (n := n) R ⟨m1, m2, m3, m4⟩ (by omega) ho hn ?_ ?_ ?_ ?_ ?_ ?_ ?_ ?_ ?_ ?_ ?_ ?_ ?_
        · exact k _ _ _ _ w.1 w.2.1 w.2.2
        · intro a x y
          show (gA (gA g 5 2) 21 n).2.1 a = _
          rw [kn_gA, if_neg (by rw [cl_gA]; omega), kn_gA, if_neg x]
        · intro a i x y z
          have base : gr (am_u2 (gA (gA g 5 2) 21 n).1 (g.2.2.1 + 32) 1 (g.2.2.1 + 1 + 32), (gA (gA g 5 2) 21 n).2) a i = gr g a i := by
            rw [gr_gU, if_neg x, gr_gA, if_neg (by rw [cl_gA]; omega), gr_gA, if_neg x]
          rw [gr_gU (g := (am_u2 (gA (gA g 5 2) 21 n).1 (g.2.2.1 + 32) 1 (g.2.2.1 + 1 + 32), (gA (gA g 5 2) 21 n).2))]
          split
          · rw [if_neg (by omega)]; exact base
          · exact base
        · rw [gr_gU (g := (am_u2 (gA (gA g 5 2) 21 n).1 (g.2.2.1 + 32) 1 (g.2.2.1 + 1 + 32), (gA (gA g 5 2) 21 n).2)), if_pos rfl, if_pos rfl]
        · show gk (gA (gA g 5 2) 21 n) _ = 5
          rw [gk_gA, if_neg (by rw [cl_gA]; omega), gk_gA, if_pos rfl]
        · show gk (gA (gA g 5 2) 21 n) _ = 21
          rw [gk_gA, if_pos (by rw [cl_gA])]
        · show gn (gA (gA g 5 2) 21 n) _ = n
          rw [gn_gA, if_pos (by rw [cl_gA])]
        · rw [gr_gU (g := (am_u2 (gA (gA g 5 2) 21 n).1 (g.2.2.1 + 32) 1 (g.2.2.1 + 1 + 32), (gA (gA g 5 2) 21 n).2)), if_neg (by omega), gr_gU, if_pos rfl, if_pos rfl]
        · intro a x y
          rw [z1_n _ _ (by omega), u2_a _ _ x, z1_n _ _ x]
        · rw [z1_n _ _ (by omega), u2_s]
        · intro a x y
          rw [z1_n _ _ (by omega), z1_n _ _ x]
        · intro i
          rw [z1_e, if_pos (by omega)]
        · rfl
        · show g.2.2.2 + 2 + n ≤ _; omega
      · rw [if_neg (fun z => h3 z.2.2)] at k
        rw [rg_iff] at h2 h3
        have a1 : ¬ o < 0 := by rw [lt_ti, ti_0]; omega
        have a2 : ¬ (4 : Int32) < o := by rw [lt_ti, ti_4]; omega
        by_cases a3 : n < 0
        · simp only [bk_1_0, bq_1_0, bk_1_1, bq_1_1, G_5, X_push, X_goto, X_fall, X_ifeq, X_ifne, X_iflt, X_ifge, X_ifgt, X_ifle, X_iceq, X_icne, X_iclt, X_icge, X_icgt, X_icle, X_ifnull, X_ifnonnull, X_switch, X_ireturn, X_lreturn, X_areturn, X_return, X_zreturn, X_iload, X_lload, X_aload, X_istore, X_astore, X_lstore, X_iinc, X_iadd, X_isub, X_imul, X_idiv, X_irem, X_iand, X_ior, X_ishl, X_ishr, X_iushr, X_ladd, X_lsub, X_lmul, X_ldiv, X_land, X_lor, X_lshl, X_lcmp, X_ineg, X_i2l, X_l2i, X_i2b, X_i2s, X_i2c, X_dupr, X_dupi, X_dup_x1, X_dup2, X_popi, X_popr, X_iaload, X_baload, X_laload, X_aaload, X_iastore, X_bastore, X_lastore, X_aastore, X_arraylength, am_wt_0, am_wt_int, am_wt_long, am_wt_ref, List.getElem?_cons_zero, List.getElem?_cons_succ, am_s1, am_s2, am_kill, List.set_cons_zero, List.set_cons_succ, List.length_cons, List.length_nil, Int.reduceToNat, Nat.reduceAdd, Nat.reduceLeDiff, Nat.reduceLT, Option.toList_some, Option.toList_none, List.cons_append, List.nil_append, true_and, and_true, true_or, or_true, false_or, or_false, and_self, false_and, not_false_eq_true, not_true_eq_false, to_k L, to_r0 L, to_r1 L, to_r2 L, to_r3 L, to_r4 L, to_r5 L, to_r6 L, to_a5 L, to_n5 L, to_a6 L, to_n6 L, C_46, c_46, h1, bI_t, i10, if_false, a1, a2, a3, if_true, rI_0, rI_1, rI_2, rI_3, rI_4, C_44, C_45, c_44 R (show 0 < 5 by decide), c_44 R (show 1 < 5 by decide), c_44 R (show 2 < 5 by decide), c_44 R (show 3 < 5 by decide), c_44 R (show 4 < 5 by decide), c_45 R (show 0 < 5 by decide), c_45 R (show 1 < 5 by decide), c_45 R (show 2 < 5 by decide), c_45 R (show 3 < 5 by decide), c_45 R (show 4 < 5 by decide)]
          exact kx_rf R (by decide) k
        · have a4 : ¬ n ≤ 40 := by rw [lt_ti, ti_0] at a3; rw [le_ti, ti_40]; omega
          simp only [bk_1_0, bq_1_0, bk_1_1, bq_1_1, G_5, X_push, X_goto, X_fall, X_ifeq, X_ifne, X_iflt, X_ifge, X_ifgt, X_ifle, X_iceq, X_icne, X_iclt, X_icge, X_icgt, X_icle, X_ifnull, X_ifnonnull, X_switch, X_ireturn, X_lreturn, X_areturn, X_return, X_zreturn, X_iload, X_lload, X_aload, X_istore, X_astore, X_lstore, X_iinc, X_iadd, X_isub, X_imul, X_idiv, X_irem, X_iand, X_ior, X_ishl, X_ishr, X_iushr, X_ladd, X_lsub, X_lmul, X_ldiv, X_land, X_lor, X_lshl, X_lcmp, X_ineg, X_i2l, X_l2i, X_i2b, X_i2s, X_i2c, X_dupr, X_dupi, X_dup_x1, X_dup2, X_popi, X_popr, X_iaload, X_baload, X_laload, X_aaload, X_iastore, X_bastore, X_lastore, X_aastore, X_arraylength, am_wt_0, am_wt_int, am_wt_long, am_wt_ref, List.getElem?_cons_zero, List.getElem?_cons_succ, am_s1, am_s2, am_kill, List.set_cons_zero, List.set_cons_succ, List.length_cons, List.length_nil, Int.reduceToNat, Nat.reduceAdd, Nat.reduceLeDiff, Nat.reduceLT, Option.toList_some, Option.toList_none, List.cons_append, List.nil_append, true_and, and_true, true_or, or_true, false_or, or_false, and_self, false_and, not_false_eq_true, not_true_eq_false, to_k L, to_r0 L, to_r1 L, to_r2 L, to_r3 L, to_r4 L, to_r5 L, to_r6 L, to_a5 L, to_n5 L, to_a6 L, to_n6 L, C_46, c_46, h1, bI_t, i10, if_false, a1, a2, a3, a4, rI_0, rI_1, rI_2, rI_3, rI_4, C_44, C_45, c_44 R (show 0 < 5 by decide), c_44 R (show 1 < 5 by decide), c_44 R (show 2 < 5 by decide), c_44 R (show 3 < 5 by decide), c_44 R (show 4 < 5 by decide), c_45 R (show 0 < 5 by decide), c_45 R (show 1 < 5 by decide), c_45 R (show 2 < 5 by decide), c_45 R (show 3 < 5 by decide), c_45 R (show 4 < 5 by decide)]
          exact kx_rf R (by decide) k
    · rw [if_neg (fun z => h2 z.2.1)] at k
      rw [rg_iff] at h2
      by_cases a1 : o < 0
      · simp only [bk_1_0, bq_1_0, bk_1_1, bq_1_1, G_5, X_push, X_goto, X_fall, X_ifeq, X_ifne, X_iflt, X_ifge, X_ifgt, X_ifle, X_iceq, X_icne, X_iclt, X_icge, X_icgt, X_icle, X_ifnull, X_ifnonnull, X_switch, X_ireturn, X_lreturn, X_areturn, X_return, X_zreturn, X_iload, X_lload, X_aload, X_istore, X_astore, X_lstore, X_iinc, X_iadd, X_isub, X_imul, X_idiv, X_irem, X_iand, X_ior, X_ishl, X_ishr, X_iushr, X_ladd, X_lsub, X_lmul, X_ldiv, X_land, X_lor, X_lshl, X_lcmp, X_ineg, X_i2l, X_l2i, X_i2b, X_i2s, X_i2c, X_dupr, X_dupi, X_dup_x1, X_dup2, X_popi, X_popr, X_iaload, X_baload, X_laload, X_aaload, X_iastore, X_bastore, X_lastore, X_aastore, X_arraylength, am_wt_0, am_wt_int, am_wt_long, am_wt_ref, List.getElem?_cons_zero, List.getElem?_cons_succ, am_s1, am_s2, am_kill, List.set_cons_zero, List.set_cons_succ, List.length_cons, List.length_nil, Int.reduceToNat, Nat.reduceAdd, Nat.reduceLeDiff, Nat.reduceLT, Option.toList_some, Option.toList_none, List.cons_append, List.nil_append, true_and, and_true, true_or, or_true, false_or, or_false, and_self, false_and, not_false_eq_true, not_true_eq_false, to_k L, to_r0 L, to_r1 L, to_r2 L, to_r3 L, to_r4 L, to_r5 L, to_r6 L, to_a5 L, to_n5 L, to_a6 L, to_n6 L, C_46, c_46, h1, bI_t, i10, if_false, a1, if_true, rI_0, rI_1, rI_2, rI_3, rI_4, C_44, C_45, c_44 R (show 0 < 5 by decide), c_44 R (show 1 < 5 by decide), c_44 R (show 2 < 5 by decide), c_44 R (show 3 < 5 by decide), c_44 R (show 4 < 5 by decide), c_45 R (show 0 < 5 by decide), c_45 R (show 1 < 5 by decide), c_45 R (show 2 < 5 by decide), c_45 R (show 3 < 5 by decide), c_45 R (show 4 < 5 by decide)]
        exact kx_rf R (by decide) k
      · have a2 : (4 : Int32) < o := by rw [lt_ti, ti_0] at a1; rw [lt_ti, ti_4]; omega
        simp only [bk_1_0, bq_1_0, bk_1_1, bq_1_1, G_5, X_push, X_goto, X_fall, X_ifeq, X_ifne, X_iflt, X_ifge, X_ifgt, X_ifle, X_iceq, X_icne, X_iclt, X_icge, X_icgt, X_icle, X_ifnull, X_ifnonnull, X_switch, X_ireturn, X_lreturn, X_areturn, X_return, X_zreturn, X_iload, X_lload, X_aload, X_istore, X_astore, X_lstore, X_iinc, X_iadd, X_isub, X_imul, X_idiv, X_irem, X_iand, X_ior, X_ishl, X_ishr, X_iushr, X_ladd, X_lsub, X_lmul, X_ldiv, X_land, X_lor, X_lshl, X_lcmp, X_ineg, X_i2l, X_l2i, X_i2b, X_i2s, X_i2c, X_dupr, X_dupi, X_dup_x1, X_dup2, X_popi, X_popr, X_iaload, X_baload, X_laload, X_aaload, X_iastore, X_bastore, X_lastore, X_aastore, X_arraylength, am_wt_0, am_wt_int, am_wt_long, am_wt_ref, List.getElem?_cons_zero, List.getElem?_cons_succ, am_s1, am_s2, am_kill, List.set_cons_zero, List.set_cons_succ, List.length_cons, List.length_nil, Int.reduceToNat, Nat.reduceAdd, Nat.reduceLeDiff, Nat.reduceLT, Option.toList_some, Option.toList_none, List.cons_append, List.nil_append, true_and, and_true, true_or, or_true, false_or, or_false, and_self, false_and, not_false_eq_true, not_true_eq_false, to_k L, to_r0 L, to_r1 L, to_r2 L, to_r3 L, to_r4 L, to_r5 L, to_r6 L, to_a5 L, to_n5 L, to_a6 L, to_n6 L, C_46, c_46, h1, bI_t, i10, if_false, a1, a2, if_true, rI_0, rI_1, rI_2, rI_3, rI_4, C_44, C_45, c_44 R (show 0 < 5 by decide), c_44 R (show 1 < 5 by decide), c_44 R (show 2 < 5 by decide), c_44 R (show 3 < 5 by decide), c_44 R (show 4 < 5 by decide), c_45 R (show 0 < 5 by decide), c_45 R (show 1 < 5 by decide), c_45 R (show 2 < 5 by decide), c_45 R (show 3 < 5 by decide), c_45 R (show 4 < 5 by decide)]
        exact kx_rf R (by decide) k
  · rw [if_neg (fun z => h1 z.1)] at k
    simp only [bk_1_0, bq_1_0, bk_1_1, bq_1_1, G_5, X_push, X_goto, X_fall, X_ifeq, X_ifne, X_iflt, X_ifge, X_ifgt, X_ifle, X_iceq, X_icne, X_iclt, X_icge, X_icgt, X_icle, X_ifnull, X_ifnonnull, X_switch, X_ireturn, X_lreturn, X_areturn, X_return, X_zreturn, X_iload, X_lload, X_aload, X_istore, X_astore, X_lstore, X_iinc, X_iadd, X_isub, X_imul, X_idiv, X_irem, X_iand, X_ior, X_ishl, X_ishr, X_iushr, X_ladd, X_lsub, X_lmul, X_ldiv, X_land, X_lor, X_lshl, X_lcmp, X_ineg, X_i2l, X_l2i, X_i2b, X_i2s, X_i2c, X_dupr, X_dupi, X_dup_x1, X_dup2, X_popi, X_popr, X_iaload, X_baload, X_laload, X_aaload, X_iastore, X_bastore, X_lastore, X_aastore, X_arraylength, am_wt_0, am_wt_int, am_wt_long, am_wt_ref, List.getElem?_cons_zero, List.getElem?_cons_succ, am_s1, am_s2, am_kill, List.set_cons_zero, List.set_cons_succ, List.length_cons, List.length_nil, Int.reduceToNat, Nat.reduceAdd, Nat.reduceLeDiff, Nat.reduceLT, Option.toList_some, Option.toList_none, List.cons_append, List.nil_append, true_and, and_true, true_or, or_true, false_or, or_false, and_self, false_and, not_false_eq_true, not_true_eq_false, to_k L, to_r0 L, to_r1 L, to_r2 L, to_r3 L, to_r4 L, to_r5 L, to_r6 L, to_a5 L, to_n5 L, to_a6 L, to_n6 L, C_46, c_46, h1, bI_f, if_true, rI_0, rI_1, rI_2, rI_3, rI_4, C_44, C_45, c_44 R (show 0 < 5 by decide), c_44 R (show 1 < 5 by decide), c_44 R (show 2 < 5 by decide), c_44 R (show 3 < 5 by decide), c_44 R (show 4 < 5 by decide), c_45 R (show 0 < 5 by decide), c_45 R (show 1 < 5 by decide), c_45 R (show 2 < 5 by decide), c_45 R (show 3 < 5 by decide), c_45 R (show 4 < 5 by decide)]
    exact kx_rf R (by decide) k
/-- Rule's constructors -/
theorem c_231 {c : Nat} {n : Int32} (hk : 6 ≤ gk g c ∧ gk g c ≤ 11) (hc : c ≠ 0) : X (d + 1) 231 (am_bk 231 0) [.ref c, .int n] [] (ci, cj, g) Q ↔ Q none (am_u2 ci c 0 n, cj, g) := by
  simp only [bk_231_0, bq_231_0, P_75, X_push, X_goto, X_fall, X_ifeq, X_ifne, X_iflt, X_ifge, X_ifgt, X_ifle, X_iceq, X_icne, X_iclt, X_icge, X_icgt, X_icle, X_ifnull, X_ifnonnull, X_switch, X_ireturn, X_lreturn, X_areturn, X_return, X_zreturn, X_iload, X_lload, X_aload, X_istore, X_astore, X_lstore, X_iinc, X_iadd, X_isub, X_imul, X_idiv, X_irem, X_iand, X_ior, X_ishl, X_ishr, X_iushr, X_ladd, X_lsub, X_lmul, X_ldiv, X_land, X_lor, X_lshl, X_lcmp, X_ineg, X_i2l, X_l2i, X_i2b, X_i2s, X_i2c, X_dupr, X_dupi, X_dup_x1, X_dup2, X_popi, X_popr, X_iaload, X_baload, X_laload, X_aaload, X_iastore, X_bastore, X_lastore, X_aastore, X_arraylength, am_wt_0, am_wt_int, am_wt_long, am_wt_ref, List.getElem?_cons_zero, List.getElem?_cons_succ, am_s1, am_s2, am_kill, List.set_cons_zero, List.set_cons_succ, List.length_cons, List.length_nil, Int.reduceToNat, Nat.reduceAdd, Nat.reduceLeDiff, Nat.reduceLT, Option.toList_some, Option.toList_none, List.cons_append, List.nil_append, true_and, and_true, true_or, or_true, false_or, or_false, and_self, false_and, not_false_eq_true, not_true_eq_false, C_230, bk_230_0, bq_230_0, X_objInit, hk.1, hk.2, hc, ne_eq]
theorem c_117 {c : Nat} {n : Int32} (hk : 6 ≤ gk g c ∧ gk g c ≤ 11) (hc : c ≠ 0) : X (d + 2) 117 (am_bk 117 0) [.ref c, .int n] [] (ci, cj, g) Q ↔ Q none (am_u2 ci c 0 n, cj, g) := by
  simp only [bk_117_0, bq_117_0, X_push, X_goto, X_fall, X_ifeq, X_ifne, X_iflt, X_ifge, X_ifgt, X_ifle, X_iceq, X_icne, X_iclt, X_icge, X_icgt, X_icle, X_ifnull, X_ifnonnull, X_switch, X_ireturn, X_lreturn, X_areturn, X_return, X_zreturn, X_iload, X_lload, X_aload, X_istore, X_astore, X_lstore, X_iinc, X_iadd, X_isub, X_imul, X_idiv, X_irem, X_iand, X_ior, X_ishl, X_ishr, X_iushr, X_ladd, X_lsub, X_lmul, X_ldiv, X_land, X_lor, X_lshl, X_lcmp, X_ineg, X_i2l, X_l2i, X_i2b, X_i2s, X_i2c, X_dupr, X_dupi, X_dup_x1, X_dup2, X_popi, X_popr, X_iaload, X_baload, X_laload, X_aaload, X_iastore, X_bastore, X_lastore, X_aastore, X_arraylength, am_wt_0, am_wt_int, am_wt_long, am_wt_ref, List.getElem?_cons_zero, List.getElem?_cons_succ, am_s1, am_s2, am_kill, List.set_cons_zero, List.set_cons_succ, List.length_cons, List.length_nil, Int.reduceToNat, Nat.reduceAdd, Nat.reduceLeDiff, Nat.reduceLT, Option.toList_some, Option.toList_none, List.cons_append, List.nil_append, true_and, and_true, true_or, or_true, false_or, or_false, and_self, false_and, not_false_eq_true, not_true_eq_false, C_231, c_231 hk hc, hc, ne_eq]
theorem c_126 {c : Nat} {n : Int32} (hk : 6 ≤ gk g c ∧ gk g c ≤ 11) (hc : c ≠ 0) : X (d + 2) 126 (am_bk 126 0) [.ref c, .int n] [] (ci, cj, g) Q ↔ Q none (am_u2 ci c 0 n, cj, g) := by
  simp only [bk_126_0, bq_126_0, X_push, X_goto, X_fall, X_ifeq, X_ifne, X_iflt, X_ifge, X_ifgt, X_ifle, X_iceq, X_icne, X_iclt, X_icge, X_icgt, X_icle, X_ifnull, X_ifnonnull, X_switch, X_ireturn, X_lreturn, X_areturn, X_return, X_zreturn, X_iload, X_lload, X_aload, X_istore, X_astore, X_lstore, X_iinc, X_iadd, X_isub, X_imul, X_idiv, X_irem, X_iand, X_ior, X_ishl, X_ishr, X_iushr, X_ladd, X_lsub, X_lmul, X_ldiv, X_land, X_lor, X_lshl, X_lcmp, X_ineg, X_i2l, X_l2i, X_i2b, X_i2s, X_i2c, X_dupr, X_dupi, X_dup_x1, X_dup2, X_popi, X_popr, X_iaload, X_baload, X_laload, X_aaload, X_iastore, X_bastore, X_lastore, X_aastore, X_arraylength, am_wt_0, am_wt_int, am_wt_long, am_wt_ref, List.getElem?_cons_zero, List.getElem?_cons_succ, am_s1, am_s2, am_kill, List.set_cons_zero, List.set_cons_succ, List.length_cons, List.length_nil, Int.reduceToNat, Nat.reduceAdd, Nat.reduceLeDiff, Nat.reduceLT, Option.toList_some, Option.toList_none, List.cons_append, List.nil_append, true_and, and_true, true_or, or_true, false_or, or_false, and_self, false_and, not_false_eq_true, not_true_eq_false, C_231, c_231 hk hc, hc, ne_eq]
theorem c_132 {c : Nat} {n : Int32} (hk : 6 ≤ gk g c ∧ gk g c ≤ 11) (hc : c ≠ 0) : X (d + 2) 132 (am_bk 132 0) [.ref c, .int n] [] (ci, cj, g) Q ↔ Q none (am_u2 ci c 0 n, cj, g) := by
  simp only [bk_132_0, bq_132_0, X_push, X_goto, X_fall, X_ifeq, X_ifne, X_iflt, X_ifge, X_ifgt, X_ifle, X_iceq, X_icne, X_iclt, X_icge, X_icgt, X_icle, X_ifnull, X_ifnonnull, X_switch, X_ireturn, X_lreturn, X_areturn, X_return, X_zreturn, X_iload, X_lload, X_aload, X_istore, X_astore, X_lstore, X_iinc, X_iadd, X_isub, X_imul, X_idiv, X_irem, X_iand, X_ior, X_ishl, X_ishr, X_iushr, X_ladd, X_lsub, X_lmul, X_ldiv, X_land, X_lor, X_lshl, X_lcmp, X_ineg, X_i2l, X_l2i, X_i2b, X_i2s, X_i2c, X_dupr, X_dupi, X_dup_x1, X_dup2, X_popi, X_popr, X_iaload, X_baload, X_laload, X_aaload, X_iastore, X_bastore, X_lastore, X_aastore, X_arraylength, am_wt_0, am_wt_int, am_wt_long, am_wt_ref, List.getElem?_cons_zero, List.getElem?_cons_succ, am_s1, am_s2, am_kill, List.set_cons_zero, List.set_cons_succ, List.length_cons, List.length_nil, Int.reduceToNat, Nat.reduceAdd, Nat.reduceLeDiff, Nat.reduceLT, Option.toList_some, Option.toList_none, List.cons_append, List.nil_append, true_and, and_true, true_or, or_true, false_or, or_false, and_self, false_and, not_false_eq_true, not_true_eq_false, C_231, c_231 hk hc, hc, ne_eq]
theorem c_120 {c : Nat} {n : Int32} (hk : 6 ≤ gk g c ∧ gk g c ≤ 11) (hc : c ≠ 0) : X (d + 3) 120 (am_bk 120 0) [.ref c, .int n] [] (ci, cj, g) Q ↔ Q none (am_u2 ci c 0 n, cj, g) := by
  simp only [bk_120_0, bq_120_0, X_push, X_goto, X_fall, X_ifeq, X_ifne, X_iflt, X_ifge, X_ifgt, X_ifle, X_iceq, X_icne, X_iclt, X_icge, X_icgt, X_icle, X_ifnull, X_ifnonnull, X_switch, X_ireturn, X_lreturn, X_areturn, X_return, X_zreturn, X_iload, X_lload, X_aload, X_istore, X_astore, X_lstore, X_iinc, X_iadd, X_isub, X_imul, X_idiv, X_irem, X_iand, X_ior, X_ishl, X_ishr, X_iushr, X_ladd, X_lsub, X_lmul, X_ldiv, X_land, X_lor, X_lshl, X_lcmp, X_ineg, X_i2l, X_l2i, X_i2b, X_i2s, X_i2c, X_dupr, X_dupi, X_dup_x1, X_dup2, X_popi, X_popr, X_iaload, X_baload, X_laload, X_aaload, X_iastore, X_bastore, X_lastore, X_aastore, X_arraylength, am_wt_0, am_wt_int, am_wt_long, am_wt_ref, List.getElem?_cons_zero, List.getElem?_cons_succ, am_s1, am_s2, am_kill, List.set_cons_zero, List.set_cons_succ, List.length_cons, List.length_nil, Int.reduceToNat, Nat.reduceAdd, Nat.reduceLeDiff, Nat.reduceLT, Option.toList_some, Option.toList_none, List.cons_append, List.nil_append, true_and, and_true, true_or, or_true, false_or, or_false, and_self, false_and, not_false_eq_true, not_true_eq_false, C_117, c_117 hk hc, hc, ne_eq]
theorem c_123 {c : Nat} {n : Int32} (hk : 6 ≤ gk g c ∧ gk g c ≤ 11) (hc : c ≠ 0) : X (d + 3) 123 (am_bk 123 0) [.ref c, .int n] [] (ci, cj, g) Q ↔ Q none (am_u2 ci c 0 n, cj, g) := by
  simp only [bk_123_0, bq_123_0, X_push, X_goto, X_fall, X_ifeq, X_ifne, X_iflt, X_ifge, X_ifgt, X_ifle, X_iceq, X_icne, X_iclt, X_icge, X_icgt, X_icle, X_ifnull, X_ifnonnull, X_switch, X_ireturn, X_lreturn, X_areturn, X_return, X_zreturn, X_iload, X_lload, X_aload, X_istore, X_astore, X_lstore, X_iinc, X_iadd, X_isub, X_imul, X_idiv, X_irem, X_iand, X_ior, X_ishl, X_ishr, X_iushr, X_ladd, X_lsub, X_lmul, X_ldiv, X_land, X_lor, X_lshl, X_lcmp, X_ineg, X_i2l, X_l2i, X_i2b, X_i2s, X_i2c, X_dupr, X_dupi, X_dup_x1, X_dup2, X_popi, X_popr, X_iaload, X_baload, X_laload, X_aaload, X_iastore, X_bastore, X_lastore, X_aastore, X_arraylength, am_wt_0, am_wt_int, am_wt_long, am_wt_ref, List.getElem?_cons_zero, List.getElem?_cons_succ, am_s1, am_s2, am_kill, List.set_cons_zero, List.set_cons_succ, List.length_cons, List.length_nil, Int.reduceToNat, Nat.reduceAdd, Nat.reduceLeDiff, Nat.reduceLT, Option.toList_some, Option.toList_none, List.cons_append, List.nil_append, true_and, and_true, true_or, or_true, false_or, or_false, and_self, false_and, not_false_eq_true, not_true_eq_false, C_117, c_117 hk hc, hc, ne_eq]
theorem c_129 {c : Nat} {n : Int32} (hk : 6 ≤ gk g c ∧ gk g c ≤ 11) (hc : c ≠ 0) : X (d + 3) 129 (am_bk 129 0) [.ref c, .int n] [] (ci, cj, g) Q ↔ Q none (am_u2 ci c 0 n, cj, g) := by
  simp only [bk_129_0, bq_129_0, X_push, X_goto, X_fall, X_ifeq, X_ifne, X_iflt, X_ifge, X_ifgt, X_ifle, X_iceq, X_icne, X_iclt, X_icge, X_icgt, X_icle, X_ifnull, X_ifnonnull, X_switch, X_ireturn, X_lreturn, X_areturn, X_return, X_zreturn, X_iload, X_lload, X_aload, X_istore, X_astore, X_lstore, X_iinc, X_iadd, X_isub, X_imul, X_idiv, X_irem, X_iand, X_ior, X_ishl, X_ishr, X_iushr, X_ladd, X_lsub, X_lmul, X_ldiv, X_land, X_lor, X_lshl, X_lcmp, X_ineg, X_i2l, X_l2i, X_i2b, X_i2s, X_i2c, X_dupr, X_dupi, X_dup_x1, X_dup2, X_popi, X_popr, X_iaload, X_baload, X_laload, X_aaload, X_iastore, X_bastore, X_lastore, X_aastore, X_arraylength, am_wt_0, am_wt_int, am_wt_long, am_wt_ref, List.getElem?_cons_zero, List.getElem?_cons_succ, am_s1, am_s2, am_kill, List.set_cons_zero, List.set_cons_succ, List.length_cons, List.length_nil, Int.reduceToNat, Nat.reduceAdd, Nat.reduceLeDiff, Nat.reduceLT, Option.toList_some, Option.toList_none, List.cons_append, List.nil_append, true_and, and_true, true_or, or_true, false_or, or_false, and_self, false_and, not_false_eq_true, not_true_eq_false, C_126, c_126 hk hc, hc, ne_eq]
/-- ruleOfKind -/
theorem c_58 {n : Int32} (r1 : g.2.2.1 + 1 ≤ 600000) (r2 : g.2.2.2 + 40 ≤ 7302250) : ∀ κ, 1 ≤ κ → κ ≤ 6 → (X (d + 4) 58 (am_bk 58 0) [.int (nI κ), .int n] [] (ci, cj, g) Q ↔ Q (some (.ref (g.2.2.1 + 32))) (am_u2 (z1 ci 0 (g.2.2.1 + 32)) (g.2.2.1 + 32) 0 n, z1 cj 0 (g.2.2.1 + 32), gA g (κ + 5) 1)) := by
  have hc : ¬ g.2.2.1 + 32 = 0 := by omega
  have hk : ∀ κ, 1 ≤ κ → κ ≤ 6 → 6 ≤ gk (gA g (κ + 5) 1) (g.2.2.1 + 32) ∧ gk (gA g (κ + 5) 1) (g.2.2.1 + 32) ≤ 11 := fun κ a b => by rw [gk_gA, if_pos rfl]; omega
  apply six
  · simp only [bk_58_0, bq_58_0, X_push, X_goto, X_fall, X_ifeq, X_ifne, X_iflt, X_ifge, X_ifgt, X_ifle, X_iceq, X_icne, X_iclt, X_icge, X_icgt, X_icle, X_ifnull, X_ifnonnull, X_switch, X_ireturn, X_lreturn, X_areturn, X_return, X_zreturn, X_iload, X_lload, X_aload, X_istore, X_astore, X_lstore, X_iinc, X_iadd, X_isub, X_imul, X_idiv, X_irem, X_iand, X_ior, X_ishl, X_ishr, X_iushr, X_ladd, X_lsub, X_lmul, X_ldiv, X_land, X_lor, X_lshl, X_lcmp, X_ineg, X_i2l, X_l2i, X_i2b, X_i2s, X_i2c, X_dupr, X_dupi, X_dup_x1, X_dup2, X_popi, X_popr, X_iaload, X_baload, X_laload, X_aaload, X_iastore, X_bastore, X_lastore, X_aastore, X_arraylength, am_wt_0, am_wt_int, am_wt_long, am_wt_ref, List.getElem?_cons_zero, List.getElem?_cons_succ, am_s1, am_s2, am_kill, List.set_cons_zero, List.set_cons_succ, List.length_cons, List.length_nil, Int.reduceToNat, Nat.reduceAdd, Nat.reduceLeDiff, Nat.reduceLT, Option.toList_some, Option.toList_none, List.cons_append, List.nil_append, true_and, and_true, true_or, or_true, false_or, or_false, and_self, false_and, not_false_eq_true, not_true_eq_false, show am_sw 7 1 6 #[1, 2, 3, 4, 5, 6] (nI 1) = 1 from rfl]
    simp only [bk_58_1, bq_58_1, X_push, X_goto, X_fall, X_ifeq, X_ifne, X_iflt, X_ifge, X_ifgt, X_ifle, X_iceq, X_icne, X_iclt, X_icge, X_icgt, X_icle, X_ifnull, X_ifnonnull, X_switch, X_ireturn, X_lreturn, X_areturn, X_return, X_zreturn, X_iload, X_lload, X_aload, X_istore, X_astore, X_lstore, X_iinc, X_iadd, X_isub, X_imul, X_idiv, X_irem, X_iand, X_ior, X_ishl, X_ishr, X_iushr, X_ladd, X_lsub, X_lmul, X_ldiv, X_land, X_lor, X_lshl, X_lcmp, X_ineg, X_i2l, X_l2i, X_i2b, X_i2s, X_i2c, X_dupr, X_dupi, X_dup_x1, X_dup2, X_popi, X_popr, X_iaload, X_baload, X_laload, X_aaload, X_iastore, X_bastore, X_lastore, X_aastore, X_arraylength, am_wt_0, am_wt_int, am_wt_long, am_wt_ref, List.getElem?_cons_zero, List.getElem?_cons_succ, am_s1, am_s2, am_kill, List.set_cons_zero, List.set_cons_succ, List.length_cons, List.length_nil, Int.reduceToNat, Nat.reduceAdd, Nat.reduceLeDiff, Nat.reduceLT, Option.toList_some, Option.toList_none, List.cons_append, List.nil_append, true_and, and_true, true_or, or_true, false_or, or_false, and_self, false_and, not_false_eq_true, not_true_eq_false, X_new, sz_6, C_117, c_117 (hk 1 (by decide) (by decide)) hc, hc, ne_eq, Nat.reduceLeDiff, Nat.le_refl]
    exact ⟨fun z => z.2, fun z => ⟨⟨by omega, by omega⟩, z⟩⟩
  · simp only [bk_58_0, bq_58_0, X_push, X_goto, X_fall, X_ifeq, X_ifne, X_iflt, X_ifge, X_ifgt, X_ifle, X_iceq, X_icne, X_iclt, X_icge, X_icgt, X_icle, X_ifnull, X_ifnonnull, X_switch, X_ireturn, X_lreturn, X_areturn, X_return, X_zreturn, X_iload, X_lload, X_aload, X_istore, X_astore, X_lstore, X_iinc, X_iadd, X_isub, X_imul, X_idiv, X_irem, X_iand, X_ior, X_ishl, X_ishr, X_iushr, X_ladd, X_lsub, X_lmul, X_ldiv, X_land, X_lor, X_lshl, X_lcmp, X_ineg, X_i2l, X_l2i, X_i2b, X_i2s, X_i2c, X_dupr, X_dupi, X_dup_x1, X_dup2, X_popi, X_popr, X_iaload, X_baload, X_laload, X_aaload, X_iastore, X_bastore, X_lastore, X_aastore, X_arraylength, am_wt_0, am_wt_int, am_wt_long, am_wt_ref, List.getElem?_cons_zero, List.getElem?_cons_succ, am_s1, am_s2, am_kill, List.set_cons_zero, List.set_cons_succ, List.length_cons, List.length_nil, Int.reduceToNat, Nat.reduceAdd, Nat.reduceLeDiff, Nat.reduceLT, Option.toList_some, Option.toList_none, List.cons_append, List.nil_append, true_and, and_true, true_or, or_true, false_or, or_false, and_self, false_and, not_false_eq_true, not_true_eq_false, show am_sw 7 1 6 #[1, 2, 3, 4, 5, 6] (nI 2) = 2 from rfl]
    simp only [bk_58_2, bq_58_2, X_push, X_goto, X_fall, X_ifeq, X_ifne, X_iflt, X_ifge, X_ifgt, X_ifle, X_iceq, X_icne, X_iclt, X_icge, X_icgt, X_icle, X_ifnull, X_ifnonnull, X_switch, X_ireturn, X_lreturn, X_areturn, X_return, X_zreturn, X_iload, X_lload, X_aload, X_istore, X_astore, X_lstore, X_iinc, X_iadd, X_isub, X_imul, X_idiv, X_irem, X_iand, X_ior, X_ishl, X_ishr, X_iushr, X_ladd, X_lsub, X_lmul, X_ldiv, X_land, X_lor, X_lshl, X_lcmp, X_ineg, X_i2l, X_l2i, X_i2b, X_i2s, X_i2c, X_dupr, X_dupi, X_dup_x1, X_dup2, X_popi, X_popr, X_iaload, X_baload, X_laload, X_aaload, X_iastore, X_bastore, X_lastore, X_aastore, X_arraylength, am_wt_0, am_wt_int, am_wt_long, am_wt_ref, List.getElem?_cons_zero, List.getElem?_cons_succ, am_s1, am_s2, am_kill, List.set_cons_zero, List.set_cons_succ, List.length_cons, List.length_nil, Int.reduceToNat, Nat.reduceAdd, Nat.reduceLeDiff, Nat.reduceLT, Option.toList_some, Option.toList_none, List.cons_append, List.nil_append, true_and, and_true, true_or, or_true, false_or, or_false, and_self, false_and, not_false_eq_true, not_true_eq_false, X_new, sz_7, C_120, c_120 (hk 2 (by decide) (by decide)) hc, hc, ne_eq, Nat.reduceLeDiff, Nat.le_refl]
    exact ⟨fun z => z.2, fun z => ⟨⟨by omega, by omega⟩, z⟩⟩
  · simp only [bk_58_0, bq_58_0, X_push, X_goto, X_fall, X_ifeq, X_ifne, X_iflt, X_ifge, X_ifgt, X_ifle, X_iceq, X_icne, X_iclt, X_icge, X_icgt, X_icle, X_ifnull, X_ifnonnull, X_switch, X_ireturn, X_lreturn, X_areturn, X_return, X_zreturn, X_iload, X_lload, X_aload, X_istore, X_astore, X_lstore, X_iinc, X_iadd, X_isub, X_imul, X_idiv, X_irem, X_iand, X_ior, X_ishl, X_ishr, X_iushr, X_ladd, X_lsub, X_lmul, X_ldiv, X_land, X_lor, X_lshl, X_lcmp, X_ineg, X_i2l, X_l2i, X_i2b, X_i2s, X_i2c, X_dupr, X_dupi, X_dup_x1, X_dup2, X_popi, X_popr, X_iaload, X_baload, X_laload, X_aaload, X_iastore, X_bastore, X_lastore, X_aastore, X_arraylength, am_wt_0, am_wt_int, am_wt_long, am_wt_ref, List.getElem?_cons_zero, List.getElem?_cons_succ, am_s1, am_s2, am_kill, List.set_cons_zero, List.set_cons_succ, List.length_cons, List.length_nil, Int.reduceToNat, Nat.reduceAdd, Nat.reduceLeDiff, Nat.reduceLT, Option.toList_some, Option.toList_none, List.cons_append, List.nil_append, true_and, and_true, true_or, or_true, false_or, or_false, and_self, false_and, not_false_eq_true, not_true_eq_false, show am_sw 7 1 6 #[1, 2, 3, 4, 5, 6] (nI 3) = 3 from rfl]
    simp only [bk_58_3, bq_58_3, X_push, X_goto, X_fall, X_ifeq, X_ifne, X_iflt, X_ifge, X_ifgt, X_ifle, X_iceq, X_icne, X_iclt, X_icge, X_icgt, X_icle, X_ifnull, X_ifnonnull, X_switch, X_ireturn, X_lreturn, X_areturn, X_return, X_zreturn, X_iload, X_lload, X_aload, X_istore, X_astore, X_lstore, X_iinc, X_iadd, X_isub, X_imul, X_idiv, X_irem, X_iand, X_ior, X_ishl, X_ishr, X_iushr, X_ladd, X_lsub, X_lmul, X_ldiv, X_land, X_lor, X_lshl, X_lcmp, X_ineg, X_i2l, X_l2i, X_i2b, X_i2s, X_i2c, X_dupr, X_dupi, X_dup_x1, X_dup2, X_popi, X_popr, X_iaload, X_baload, X_laload, X_aaload, X_iastore, X_bastore, X_lastore, X_aastore, X_arraylength, am_wt_0, am_wt_int, am_wt_long, am_wt_ref, List.getElem?_cons_zero, List.getElem?_cons_succ, am_s1, am_s2, am_kill, List.set_cons_zero, List.set_cons_succ, List.length_cons, List.length_nil, Int.reduceToNat, Nat.reduceAdd, Nat.reduceLeDiff, Nat.reduceLT, Option.toList_some, Option.toList_none, List.cons_append, List.nil_append, true_and, and_true, true_or, or_true, false_or, or_false, and_self, false_and, not_false_eq_true, not_true_eq_false, X_new, sz_8, C_123, c_123 (hk 3 (by decide) (by decide)) hc, hc, ne_eq, Nat.reduceLeDiff, Nat.le_refl]
    exact ⟨fun z => z.2, fun z => ⟨⟨by omega, by omega⟩, z⟩⟩
  · simp only [bk_58_0, bq_58_0, X_push, X_goto, X_fall, X_ifeq, X_ifne, X_iflt, X_ifge, X_ifgt, X_ifle, X_iceq, X_icne, X_iclt, X_icge, X_icgt, X_icle, X_ifnull, X_ifnonnull, X_switch, X_ireturn, X_lreturn, X_areturn, X_return, X_zreturn, X_iload, X_lload, X_aload, X_istore, X_astore, X_lstore, X_iinc, X_iadd, X_isub, X_imul, X_idiv, X_irem, X_iand, X_ior, X_ishl, X_ishr, X_iushr, X_ladd, X_lsub, X_lmul, X_ldiv, X_land, X_lor, X_lshl, X_lcmp, X_ineg, X_i2l, X_l2i, X_i2b, X_i2s, X_i2c, X_dupr, X_dupi, X_dup_x1, X_dup2, X_popi, X_popr, X_iaload, X_baload, X_laload, X_aaload, X_iastore, X_bastore, X_lastore, X_aastore, X_arraylength, am_wt_0, am_wt_int, am_wt_long, am_wt_ref, List.getElem?_cons_zero, List.getElem?_cons_succ, am_s1, am_s2, am_kill, List.set_cons_zero, List.set_cons_succ, List.length_cons, List.length_nil, Int.reduceToNat, Nat.reduceAdd, Nat.reduceLeDiff, Nat.reduceLT, Option.toList_some, Option.toList_none, List.cons_append, List.nil_append, true_and, and_true, true_or, or_true, false_or, or_false, and_self, false_and, not_false_eq_true, not_true_eq_false, show am_sw 7 1 6 #[1, 2, 3, 4, 5, 6] (nI 4) = 4 from rfl]
    simp only [bk_58_4, bq_58_4, X_push, X_goto, X_fall, X_ifeq, X_ifne, X_iflt, X_ifge, X_ifgt, X_ifle, X_iceq, X_icne, X_iclt, X_icge, X_icgt, X_icle, X_ifnull, X_ifnonnull, X_switch, X_ireturn, X_lreturn, X_areturn, X_return, X_zreturn, X_iload, X_lload, X_aload, X_istore, X_astore, X_lstore, X_iinc, X_iadd, X_isub, X_imul, X_idiv, X_irem, X_iand, X_ior, X_ishl, X_ishr, X_iushr, X_ladd, X_lsub, X_lmul, X_ldiv, X_land, X_lor, X_lshl, X_lcmp, X_ineg, X_i2l, X_l2i, X_i2b, X_i2s, X_i2c, X_dupr, X_dupi, X_dup_x1, X_dup2, X_popi, X_popr, X_iaload, X_baload, X_laload, X_aaload, X_iastore, X_bastore, X_lastore, X_aastore, X_arraylength, am_wt_0, am_wt_int, am_wt_long, am_wt_ref, List.getElem?_cons_zero, List.getElem?_cons_succ, am_s1, am_s2, am_kill, List.set_cons_zero, List.set_cons_succ, List.length_cons, List.length_nil, Int.reduceToNat, Nat.reduceAdd, Nat.reduceLeDiff, Nat.reduceLT, Option.toList_some, Option.toList_none, List.cons_append, List.nil_append, true_and, and_true, true_or, or_true, false_or, or_false, and_self, false_and, not_false_eq_true, not_true_eq_false, X_new, sz_9, C_126, c_126 (hk 4 (by decide) (by decide)) hc, hc, ne_eq, Nat.reduceLeDiff, Nat.le_refl]
    exact ⟨fun z => z.2, fun z => ⟨⟨by omega, by omega⟩, z⟩⟩
  · simp only [bk_58_0, bq_58_0, X_push, X_goto, X_fall, X_ifeq, X_ifne, X_iflt, X_ifge, X_ifgt, X_ifle, X_iceq, X_icne, X_iclt, X_icge, X_icgt, X_icle, X_ifnull, X_ifnonnull, X_switch, X_ireturn, X_lreturn, X_areturn, X_return, X_zreturn, X_iload, X_lload, X_aload, X_istore, X_astore, X_lstore, X_iinc, X_iadd, X_isub, X_imul, X_idiv, X_irem, X_iand, X_ior, X_ishl, X_ishr, X_iushr, X_ladd, X_lsub, X_lmul, X_ldiv, X_land, X_lor, X_lshl, X_lcmp, X_ineg, X_i2l, X_l2i, X_i2b, X_i2s, X_i2c, X_dupr, X_dupi, X_dup_x1, X_dup2, X_popi, X_popr, X_iaload, X_baload, X_laload, X_aaload, X_iastore, X_bastore, X_lastore, X_aastore, X_arraylength, am_wt_0, am_wt_int, am_wt_long, am_wt_ref, List.getElem?_cons_zero, List.getElem?_cons_succ, am_s1, am_s2, am_kill, List.set_cons_zero, List.set_cons_succ, List.length_cons, List.length_nil, Int.reduceToNat, Nat.reduceAdd, Nat.reduceLeDiff, Nat.reduceLT, Option.toList_some, Option.toList_none, List.cons_append, List.nil_append, true_and, and_true, true_or, or_true, false_or, or_false, and_self, false_and, not_false_eq_true, not_true_eq_false, show am_sw 7 1 6 #[1, 2, 3, 4, 5, 6] (nI 5) = 5 from rfl]
    simp only [bk_58_5, bq_58_5, X_push, X_goto, X_fall, X_ifeq, X_ifne, X_iflt, X_ifge, X_ifgt, X_ifle, X_iceq, X_icne, X_iclt, X_icge, X_icgt, X_icle, X_ifnull, X_ifnonnull, X_switch, X_ireturn, X_lreturn, X_areturn, X_return, X_zreturn, X_iload, X_lload, X_aload, X_istore, X_astore, X_lstore, X_iinc, X_iadd, X_isub, X_imul, X_idiv, X_irem, X_iand, X_ior, X_ishl, X_ishr, X_iushr, X_ladd, X_lsub, X_lmul, X_ldiv, X_land, X_lor, X_lshl, X_lcmp, X_ineg, X_i2l, X_l2i, X_i2b, X_i2s, X_i2c, X_dupr, X_dupi, X_dup_x1, X_dup2, X_popi, X_popr, X_iaload, X_baload, X_laload, X_aaload, X_iastore, X_bastore, X_lastore, X_aastore, X_arraylength, am_wt_0, am_wt_int, am_wt_long, am_wt_ref, List.getElem?_cons_zero, List.getElem?_cons_succ, am_s1, am_s2, am_kill, List.set_cons_zero, List.set_cons_succ, List.length_cons, List.length_nil, Int.reduceToNat, Nat.reduceAdd, Nat.reduceLeDiff, Nat.reduceLT, Option.toList_some, Option.toList_none, List.cons_append, List.nil_append, true_and, and_true, true_or, or_true, false_or, or_false, and_self, false_and, not_false_eq_true, not_true_eq_false, X_new, sz_10, C_129, c_129 (hk 5 (by decide) (by decide)) hc, hc, ne_eq, Nat.reduceLeDiff, Nat.le_refl]
    exact ⟨fun z => z.2, fun z => ⟨⟨by omega, by omega⟩, z⟩⟩
  · simp only [bk_58_0, bq_58_0, X_push, X_goto, X_fall, X_ifeq, X_ifne, X_iflt, X_ifge, X_ifgt, X_ifle, X_iceq, X_icne, X_iclt, X_icge, X_icgt, X_icle, X_ifnull, X_ifnonnull, X_switch, X_ireturn, X_lreturn, X_areturn, X_return, X_zreturn, X_iload, X_lload, X_aload, X_istore, X_astore, X_lstore, X_iinc, X_iadd, X_isub, X_imul, X_idiv, X_irem, X_iand, X_ior, X_ishl, X_ishr, X_iushr, X_ladd, X_lsub, X_lmul, X_ldiv, X_land, X_lor, X_lshl, X_lcmp, X_ineg, X_i2l, X_l2i, X_i2b, X_i2s, X_i2c, X_dupr, X_dupi, X_dup_x1, X_dup2, X_popi, X_popr, X_iaload, X_baload, X_laload, X_aaload, X_iastore, X_bastore, X_lastore, X_aastore, X_arraylength, am_wt_0, am_wt_int, am_wt_long, am_wt_ref, List.getElem?_cons_zero, List.getElem?_cons_succ, am_s1, am_s2, am_kill, List.set_cons_zero, List.set_cons_succ, List.length_cons, List.length_nil, Int.reduceToNat, Nat.reduceAdd, Nat.reduceLeDiff, Nat.reduceLT, Option.toList_some, Option.toList_none, List.cons_append, List.nil_append, true_and, and_true, true_or, or_true, false_or, or_false, and_self, false_and, not_false_eq_true, not_true_eq_false, show am_sw 7 1 6 #[1, 2, 3, 4, 5, 6] (nI 6) = 6 from rfl]
    simp only [bk_58_6, bq_58_6, X_push, X_goto, X_fall, X_ifeq, X_ifne, X_iflt, X_ifge, X_ifgt, X_ifle, X_iceq, X_icne, X_iclt, X_icge, X_icgt, X_icle, X_ifnull, X_ifnonnull, X_switch, X_ireturn, X_lreturn, X_areturn, X_return, X_zreturn, X_iload, X_lload, X_aload, X_istore, X_astore, X_lstore, X_iinc, X_iadd, X_isub, X_imul, X_idiv, X_irem, X_iand, X_ior, X_ishl, X_ishr, X_iushr, X_ladd, X_lsub, X_lmul, X_ldiv, X_land, X_lor, X_lshl, X_lcmp, X_ineg, X_i2l, X_l2i, X_i2b, X_i2s, X_i2c, X_dupr, X_dupi, X_dup_x1, X_dup2, X_popi, X_popr, X_iaload, X_baload, X_laload, X_aaload, X_iastore, X_bastore, X_lastore, X_aastore, X_arraylength, am_wt_0, am_wt_int, am_wt_long, am_wt_ref, List.getElem?_cons_zero, List.getElem?_cons_succ, am_s1, am_s2, am_kill, List.set_cons_zero, List.set_cons_succ, List.length_cons, List.length_nil, Int.reduceToNat, Nat.reduceAdd, Nat.reduceLeDiff, Nat.reduceLT, Option.toList_some, Option.toList_none, List.cons_append, List.nil_append, true_and, and_true, true_or, or_true, false_or, or_false, and_self, false_and, not_false_eq_true, not_true_eq_false, X_new, sz_11, C_132, c_132 (hk 6 (by decide) (by decide)) hc, hc, ne_eq, Nat.reduceLeDiff, Nat.le_refl]
    exact ⟨fun z => z.2, fun z => ⟨⟨by omega, by omega⟩, z⟩⟩
theorem c_58n {κ n : Int32} (h : ¬ rg κ 1 6 = true) : X d 58 (am_bk 58 0) [.int κ, .int n] [] (ci, cj, g) Q ↔ Q (some (.ref 0)) (ci, cj, g) := by
  rw [rg_iff] at h
  have e : am_sw 7 1 6 #[1, 2, 3, 4, 5, 6] κ = 7 := by
    unfold am_sw
    rw [if_pos (by omega)]; rfl
  simp only [bk_58_0, bq_58_0, X_push, X_goto, X_fall, X_ifeq, X_ifne, X_iflt, X_ifge, X_ifgt, X_ifle, X_iceq, X_icne, X_iclt, X_icge, X_icgt, X_icle, X_ifnull, X_ifnonnull, X_switch, X_ireturn, X_lreturn, X_areturn, X_return, X_zreturn, X_iload, X_lload, X_aload, X_istore, X_astore, X_lstore, X_iinc, X_iadd, X_isub, X_imul, X_idiv, X_irem, X_iand, X_ior, X_ishl, X_ishr, X_iushr, X_ladd, X_lsub, X_lmul, X_ldiv, X_land, X_lor, X_lshl, X_lcmp, X_ineg, X_i2l, X_l2i, X_i2b, X_i2s, X_i2c, X_dupr, X_dupi, X_dup_x1, X_dup2, X_popi, X_popr, X_iaload, X_baload, X_laload, X_aaload, X_iastore, X_bastore, X_lastore, X_aastore, X_arraylength, am_wt_0, am_wt_int, am_wt_long, am_wt_ref, List.getElem?_cons_zero, List.getElem?_cons_succ, am_s1, am_s2, am_kill, List.set_cons_zero, List.set_cons_succ, List.length_cons, List.length_nil, Int.reduceToNat, Nat.reduceAdd, Nat.reduceLeDiff, Nat.reduceLT, Option.toList_some, Option.toList_none, List.cons_append, List.nil_append, true_and, and_true, true_or, or_true, false_or, or_false, and_self, false_and, not_false_eq_true, not_true_eq_false, e, bk_58_7, bq_58_7]
theorem k_rule (R : cR F ci cj g T) (M : rm F g) (s κ n : Int32) (k : Kx F ci cj g (q_rule T s κ n).2 (.int (q_rule T s κ n).1) Q) : X (d + 5) 6 (am_bk 6 0) [.ref 32, .int s, .int κ, .int n, .null] [] (ci, cj, g) Q := by
  have L := cR_to R
  unfold q_rule at k
  by_cases h1 : rg s 0 7 = true
  · by_cases h3 : rg n 0 99 = true
    · have h3' := rg_iff.mp h3
      have a3 : ¬ n < 0 := by rw [lt_ti, ti_0]; omega
      have a4 : n ≤ 99 := by rw [le_ti, ti_99]; omega
      by_cases h2 : rg κ 1 6 = true
      · rw [if_pos ⟨h1, h2, h3⟩] at k
        obtain ⟨s, hs, rfl⟩ := rg_nI (n := 7) h1 (by decide)
        obtain ⟨n, hn, rfl⟩ := rg_nI (n := 99) h3 (by decide)
        rw [rg_iff] at h2
        obtain ⟨q, hq, rfl⟩ := nI_ex (x := κ) (by omega)
        rw [nI_ti hq] at h2
        obtain ⟨m1, m2, m3, m4⟩ := M
        rw [tn_nI (by omega), tn_nI (by omega), tn_nI (by omega)] at k
        simp only [bk_6_0, bq_6_0, bk_6_2, bq_6_2, bk_6_3, bq_6_3, G_5, X_push, X_goto, X_fall, X_ifeq, X_ifne, X_iflt, X_ifge, X_ifgt, X_ifle, X_iceq, X_icne, X_iclt, X_icge, X_icgt, X_icle, X_ifnull, X_ifnonnull, X_switch, X_ireturn, X_lreturn, X_areturn, X_return, X_zreturn, X_iload, X_lload, X_aload, X_istore, X_astore, X_lstore, X_iinc, X_iadd, X_isub, X_imul, X_idiv, X_irem, X_iand, X_ior, X_ishl, X_ishr, X_iushr, X_ladd, X_lsub, X_lmul, X_ldiv, X_land, X_lor, X_lshl, X_lcmp, X_ineg, X_i2l, X_l2i, X_i2b, X_i2s, X_i2c, X_dupr, X_dupi, X_dup_x1, X_dup2, X_popi, X_popr, X_iaload, X_baload, X_laload, X_aaload, X_iastore, X_bastore, X_lastore, X_aastore, X_arraylength, am_wt_0, am_wt_int, am_wt_long, am_wt_ref, List.getElem?_cons_zero, List.getElem?_cons_succ, am_s1, am_s2, am_kill, List.set_cons_zero, List.set_cons_succ, List.length_cons, List.length_nil, Int.reduceToNat, Nat.reduceAdd, Nat.reduceLeDiff, Nat.reduceLT, Option.toList_some, Option.toList_none, List.cons_append, List.nil_append, true_and, and_true, true_or, or_true, false_or, or_false, and_self, false_and, not_false_eq_true, not_true_eq_false, to_k L, to_r0 L, to_r1 L, to_r2 L, to_r3 L, to_r4 L, to_r5 L, to_r6 L, to_a5 L, to_n5 L, to_a6 L, to_n6 L, C_46, c_46, h1, bI_t, i10, if_false, a3, a4, if_true, C_58, c_58 (show g.2.2.1 + 1 ≤ 600000 by omega) (show g.2.2.2 + 40 ≤ 7302250 by omega) q (by omega) (by omega), show ¬ g.2.2.1 + 32 = 0 by omega, gk_gA, gn_gA, gr_gA, show ¬ 32 = g.2.2.1 + 32 by omega, show ¬ 71 = g.2.2.1 + 32 by omega, in_nI (show s < 8 by omega) (show 8 < 2 ^ 31 by decide), tn_nI (show s < 2 ^ 31 by omega)]
        refine ⟨by omega, ?_⟩
        have w := cR_rule (g' := (am_u2 (gA g (q + 5) 1).1 71 s (g.2.2.1 + 32), (gA g (q + 5) 1).2)) (ci' := am_u2 (z1 ci 0 (g.2.2.1 + 32)) (g.2.2.1 + 32) 0 (nI n)) (cj' := z1 cj 0 (g.2.2.1 + 32)) (s := s) (κ := q) (n := n) R ⟨m1, m2, m3, m4⟩ (by omega) (by omega) (by omega) hn ?_ ?_ ?_ ?_ ?_ ?_ ?_ ?_ ?_
        · exact k _ _ _ _ w.1 w.2.1 w.2.2
        · intro a x
          show (gA g (q + 5) 1).2.1 a = _
          rw [kn_gA, if_neg x]
        · intro a i x z
          rw [gr_gU, gr_gA, if_neg x]
          split
          · rw [if_neg (by omega)]
          · rfl
        · rw [gr_gU, if_pos rfl, if_pos rfl]
        · show gk (gA g (q + 5) 1) _ = _
          rw [gk_gA, if_pos rfl]
        · intro a x
          rw [u2_a _ _ x, z1_n _ _ x]
        · rw [u2_s]
        · intro a x
          rw [z1_n _ _ x]
        · rfl
        · show g.2.2.2 + 1 ≤ _; omega
      · rw [if_neg (fun z => h2 z.2.1)] at k
        simp only [bk_6_0, bq_6_0, bk_6_2, bq_6_2, G_5, X_push, X_goto, X_fall, X_ifeq, X_ifne, X_iflt, X_ifge, X_ifgt, X_ifle, X_iceq, X_icne, X_iclt, X_icge, X_icgt, X_icle, X_ifnull, X_ifnonnull, X_switch, X_ireturn, X_lreturn, X_areturn, X_return, X_zreturn, X_iload, X_lload, X_aload, X_istore, X_astore, X_lstore, X_iinc, X_iadd, X_isub, X_imul, X_idiv, X_irem, X_iand, X_ior, X_ishl, X_ishr, X_iushr, X_ladd, X_lsub, X_lmul, X_ldiv, X_land, X_lor, X_lshl, X_lcmp, X_ineg, X_i2l, X_l2i, X_i2b, X_i2s, X_i2c, X_dupr, X_dupi, X_dup_x1, X_dup2, X_popi, X_popr, X_iaload, X_baload, X_laload, X_aaload, X_iastore, X_bastore, X_lastore, X_aastore, X_arraylength, am_wt_0, am_wt_int, am_wt_long, am_wt_ref, List.getElem?_cons_zero, List.getElem?_cons_succ, am_s1, am_s2, am_kill, List.set_cons_zero, List.set_cons_succ, List.length_cons, List.length_nil, Int.reduceToNat, Nat.reduceAdd, Nat.reduceLeDiff, Nat.reduceLT, Option.toList_some, Option.toList_none, List.cons_append, List.nil_append, true_and, and_true, true_or, or_true, false_or, or_false, and_self, false_and, not_false_eq_true, not_true_eq_false, to_k L, to_r0 L, to_r1 L, to_r2 L, to_r3 L, to_r4 L, to_r5 L, to_r6 L, to_a5 L, to_n5 L, to_a6 L, to_n6 L, C_46, c_46, h1, bI_t, i10, if_false, a3, a4, if_true, C_58, c_58n h2, rI_0, rI_1, rI_2, rI_3, rI_4, C_44, C_45, c_44 R (show 0 < 5 by decide), c_44 R (show 1 < 5 by decide), c_44 R (show 2 < 5 by decide), c_44 R (show 3 < 5 by decide), c_44 R (show 4 < 5 by decide), c_45 R (show 0 < 5 by decide), c_45 R (show 1 < 5 by decide), c_45 R (show 2 < 5 by decide), c_45 R (show 3 < 5 by decide), c_45 R (show 4 < 5 by decide)]
        exact kx_rf R (by decide) k
    · rw [if_neg (fun z => h3 z.2.2)] at k
      rw [rg_iff] at h3
      by_cases a3 : n < 0
      · simp only [bk_6_0, bq_6_0, bk_6_1, bq_6_1, G_5, X_push, X_goto, X_fall, X_ifeq, X_ifne, X_iflt, X_ifge, X_ifgt, X_ifle, X_iceq, X_icne, X_iclt, X_icge, X_icgt, X_icle, X_ifnull, X_ifnonnull, X_switch, X_ireturn, X_lreturn, X_areturn, X_return, X_zreturn, X_iload, X_lload, X_aload, X_istore, X_astore, X_lstore, X_iinc, X_iadd, X_isub, X_imul, X_idiv, X_irem, X_iand, X_ior, X_ishl, X_ishr, X_iushr, X_ladd, X_lsub, X_lmul, X_ldiv, X_land, X_lor, X_lshl, X_lcmp, X_ineg, X_i2l, X_l2i, X_i2b, X_i2s, X_i2c, X_dupr, X_dupi, X_dup_x1, X_dup2, X_popi, X_popr, X_iaload, X_baload, X_laload, X_aaload, X_iastore, X_bastore, X_lastore, X_aastore, X_arraylength, am_wt_0, am_wt_int, am_wt_long, am_wt_ref, List.getElem?_cons_zero, List.getElem?_cons_succ, am_s1, am_s2, am_kill, List.set_cons_zero, List.set_cons_succ, List.length_cons, List.length_nil, Int.reduceToNat, Nat.reduceAdd, Nat.reduceLeDiff, Nat.reduceLT, Option.toList_some, Option.toList_none, List.cons_append, List.nil_append, true_and, and_true, true_or, or_true, false_or, or_false, and_self, false_and, not_false_eq_true, not_true_eq_false, to_k L, to_r0 L, to_r1 L, to_r2 L, to_r3 L, to_r4 L, to_r5 L, to_r6 L, to_a5 L, to_n5 L, to_a6 L, to_n6 L, C_46, c_46, h1, bI_t, i10, if_false, a3, if_true, rI_0, rI_1, rI_2, rI_3, rI_4, C_44, C_45, c_44 R (show 0 < 5 by decide), c_44 R (show 1 < 5 by decide), c_44 R (show 2 < 5 by decide), c_44 R (show 3 < 5 by decide), c_44 R (show 4 < 5 by decide), c_45 R (show 0 < 5 by decide), c_45 R (show 1 < 5 by decide), c_45 R (show 2 < 5 by decide), c_45 R (show 3 < 5 by decide), c_45 R (show 4 < 5 by decide)]
        exact kx_rf R (by decide) k
      · have a4 : ¬ n ≤ 99 := by rw [lt_ti, ti_0] at a3; rw [le_ti, ti_99]; omega
        simp only [bk_6_0, bq_6_0, bk_6_1, bq_6_1, G_5, X_push, X_goto, X_fall, X_ifeq, X_ifne, X_iflt, X_ifge, X_ifgt, X_ifle, X_iceq, X_icne, X_iclt, X_icge, X_icgt, X_icle, X_ifnull, X_ifnonnull, X_switch, X_ireturn, X_lreturn, X_areturn, X_return, X_zreturn, X_iload, X_lload, X_aload, X_istore, X_astore, X_lstore, X_iinc, X_iadd, X_isub, X_imul, X_idiv, X_irem, X_iand, X_ior, X_ishl, X_ishr, X_iushr, X_ladd, X_lsub, X_lmul, X_ldiv, X_land, X_lor, X_lshl, X_lcmp, X_ineg, X_i2l, X_l2i, X_i2b, X_i2s, X_i2c, X_dupr, X_dupi, X_dup_x1, X_dup2, X_popi, X_popr, X_iaload, X_baload, X_laload, X_aaload, X_iastore, X_bastore, X_lastore, X_aastore, X_arraylength, am_wt_0, am_wt_int, am_wt_long, am_wt_ref, List.getElem?_cons_zero, List.getElem?_cons_succ, am_s1, am_s2, am_kill, List.set_cons_zero, List.set_cons_succ, List.length_cons, List.length_nil, Int.reduceToNat, Nat.reduceAdd, Nat.reduceLeDiff, Nat.reduceLT, Option.toList_some, Option.toList_none, List.cons_append, List.nil_append, true_and, and_true, true_or, or_true, false_or, or_false, and_self, false_and, not_false_eq_true, not_true_eq_false, to_k L, to_r0 L, to_r1 L, to_r2 L, to_r3 L, to_r4 L, to_r5 L, to_r6 L, to_a5 L, to_n5 L, to_a6 L, to_n6 L, C_46, c_46, h1, bI_t, i10, if_false, a3, a4, rI_0, rI_1, rI_2, rI_3, rI_4, C_44, C_45, c_44 R (show 0 < 5 by decide), c_44 R (show 1 < 5 by decide), c_44 R (show 2 < 5 by decide), c_44 R (show 3 < 5 by decide), c_44 R (show 4 < 5 by decide), c_45 R (show 0 < 5 by decide), c_45 R (show 1 < 5 by decide), c_45 R (show 2 < 5 by decide), c_45 R (show 3 < 5 by decide), c_45 R (show 4 < 5 by decide)]
        exact kx_rf R (by decide) k
  · rw [if_neg (fun z => h1 z.1)] at k
    simp only [bk_6_0, bq_6_0, bk_6_1, bq_6_1, G_5, X_push, X_goto, X_fall, X_ifeq, X_ifne, X_iflt, X_ifge, X_ifgt, X_ifle, X_iceq, X_icne, X_iclt, X_icge, X_icgt, X_icle, X_ifnull, X_ifnonnull, X_switch, X_ireturn, X_lreturn, X_areturn, X_return, X_zreturn, X_iload, X_lload, X_aload, X_istore, X_astore, X_lstore, X_iinc, X_iadd, X_isub, X_imul, X_idiv, X_irem, X_iand, X_ior, X_ishl, X_ishr, X_iushr, X_ladd, X_lsub, X_lmul, X_ldiv, X_land, X_lor, X_lshl, X_lcmp, X_ineg, X_i2l, X_l2i, X_i2b, X_i2s, X_i2c, X_dupr, X_dupi, X_dup_x1, X_dup2, X_popi, X_popr, X_iaload, X_baload, X_laload, X_aaload, X_iastore, X_bastore, X_lastore, X_aastore, X_arraylength, am_wt_0, am_wt_int, am_wt_long, am_wt_ref, List.getElem?_cons_zero, List.getElem?_cons_succ, am_s1, am_s2, am_kill, List.set_cons_zero, List.set_cons_succ, List.length_cons, List.length_nil, Int.reduceToNat, Nat.reduceAdd, Nat.reduceLeDiff, Nat.reduceLT, Option.toList_some, Option.toList_none, List.cons_append, List.nil_append, true_and, and_true, true_or, or_true, false_or, or_false, and_self, false_and, not_false_eq_true, not_true_eq_false, to_k L, to_r0 L, to_r1 L, to_r2 L, to_r3 L, to_r4 L, to_r5 L, to_r6 L, to_a5 L, to_n5 L, to_a6 L, to_n6 L, C_46, c_46, h1, bI_f, if_true, rI_0, rI_1, rI_2, rI_3, rI_4, C_44, C_45, c_44 R (show 0 < 5 by decide), c_44 R (show 1 < 5 by decide), c_44 R (show 2 < 5 by decide), c_44 R (show 3 < 5 by decide), c_44 R (show 4 < 5 by decide), c_45 R (show 0 < 5 by decide), c_45 R (show 1 < 5 by decide), c_45 R (show 2 < 5 by decide), c_45 R (show 3 < 5 by decide), c_45 R (show 4 < 5 by decide)]
    exact kx_rf R (by decide) k
theorem kpF_bd {σ : wS} (O : wOK σ) {n : Nat} (hn : n ≤ 24) : ∀ a, ((kpF σ n a).2).natAbs ≤ 5000000000 := by
  intro a
  induction a with
  | zero => show (0 : Int).natAbs ≤ _; omega
  | succ a ih =>
    have := vst_bd O (κ := 2) (a := a) hn
    unfold kpF
    split
    · exact this
    · exact ih
theorem k_keep (R : cR F ci cj g T) (M : rm F g) (n : Int32) (k : Kx F ci cj g (q_keep T n).2 (.int (q_keep T n).1) Q) : X (d + 7) 24 (am_bk 24 0) [.ref 32, .int n, .null, .null, .null, .null, .null, .null] [] (ci, cj, g) Q := by
  have L := cR_to R
  have O := cR_O R
  unfold q_keep at k
  by_cases h1 : rg n 0 24 = true
  · rw [if_pos h1] at k
    obtain ⟨n, hn, rfl⟩ := rg_nI (n := 24) h1 (by decide)
    rw [tn_nI (by omega)] at k
    obtain ⟨m1, m2, m3, m4⟩ := M
    simp only [bk_24_0, bq_24_0, bk_24_1, bq_24_1, true_and, X_push, X_goto, X_fall, X_ifeq, X_ifne, X_iflt, X_ifge, X_ifgt, X_ifle, X_iceq, X_icne, X_iclt, X_icge, X_icgt, X_icle, X_ifnull, X_ifnonnull, X_switch, X_ireturn, X_lreturn, X_areturn, X_return, X_zreturn, X_iload, X_lload, X_aload, X_istore, X_astore, X_lstore, X_iinc, X_iadd, X_isub, X_imul, X_idiv, X_irem, X_iand, X_ior, X_ishl, X_ishr, X_iushr, X_ladd, X_lsub, X_lmul, X_ldiv, X_land, X_lor, X_lshl, X_lcmp, X_ineg, X_i2l, X_l2i, X_i2b, X_i2s, X_i2c, X_dupr, X_dupi, X_dup_x1, X_dup2, X_popi, X_popr, X_iaload, X_baload, X_laload, X_aaload, X_iastore, X_bastore, X_lastore, X_aastore, X_arraylength, am_wt_0, am_wt_int, am_wt_long, am_wt_ref, List.getElem?_cons_zero, List.getElem?_cons_succ, am_s1, am_s2, am_kill, List.set_cons_zero, List.set_cons_succ, List.length_cons, List.length_nil, Int.reduceToNat, Nat.reduceAdd, Nat.reduceLeDiff, Nat.reduceLT, Option.toList_some, Option.toList_none, List.cons_append, List.nil_append, true_and, and_true, true_or, or_true, false_or, or_false, and_self, false_and, not_false_eq_true, not_true_eq_false, C_48, c_48, h1, bI_t, i10, not_false_eq_true, if_true]
    refine up_ind (M := fun a => ∀ F1 ci1 cj1 g1, cR F1 ci1 cj1 g1 T → gx F g F1 g1 → frm F1 ci cj ci1 cj1 → g1.2.2.1 = g.2.2.1 + a → g1.2.2.2 = g.2.2.2 + a → ∀ t6 t7 : Value, X (d + 7) 24 (am_bk 24 2) [.ref 32, .int (nI n), .int (nI (kpF (tW T) n a).1), .long (jI (kpF (tW T) n a).2), .null, .int (nI a), t6, t7] [] (ci1, cj1, g1) Q) (n := 5) ?_ ?_ 0 (by decide) F ci cj g R (gx_rfl F g) (frm_rfl _ _ _) rfl rfl _ _
    · intro F1 ci1 cj1 g1 R1 G1 f1 _ _ t6 t7
      have h5 : (4 : Int32) < nI 5 := by decide
      rw [bk_24_2]
      simp only [bq_24_2, bk_24_5, bq_24_5, X_push, X_goto, X_fall, X_ifeq, X_ifne, X_iflt, X_ifge, X_ifgt, X_ifle, X_iceq, X_icne, X_iclt, X_icge, X_icgt, X_icle, X_ifnull, X_ifnonnull, X_switch, X_ireturn, X_lreturn, X_areturn, X_return, X_zreturn, X_iload, X_lload, X_aload, X_istore, X_astore, X_lstore, X_iinc, X_iadd, X_isub, X_imul, X_idiv, X_irem, X_iand, X_ior, X_ishl, X_ishr, X_iushr, X_ladd, X_lsub, X_lmul, X_ldiv, X_land, X_lor, X_lshl, X_lcmp, X_ineg, X_i2l, X_l2i, X_i2b, X_i2s, X_i2c, X_dupr, X_dupi, X_dup_x1, X_dup2, X_popi, X_popr, X_iaload, X_baload, X_laload, X_aaload, X_iastore, X_bastore, X_lastore, X_aastore, X_arraylength, am_wt_0, am_wt_int, am_wt_long, am_wt_ref, List.getElem?_cons_zero, List.getElem?_cons_succ, am_s1, am_s2, am_kill, List.set_cons_zero, List.set_cons_succ, List.length_cons, List.length_nil, Int.reduceToNat, Nat.reduceAdd, Nat.reduceLeDiff, Nat.reduceLT, Option.toList_some, Option.toList_none, List.cons_append, List.nil_append, true_and, and_true, true_or, or_true, false_or, or_false, and_self, false_and, not_false_eq_true, not_true_eq_false, h5, if_true]
      exact k _ _ _ _ R1 G1 f1
    · intro a ha ih F1 ci1 cj1 g1 R1 G1 f1 n1 n2 t6 t7
      have L1 := cR_to R1
      have h5 : ¬ (4 : Int32) < nI a := by rw [lit_4, nI_lti (by omega) (by omega)]; omega
      have hb : ∀ x, F1 x → x < g1.2.2.1 + 32 := fun x hx => by
        rcases G1.2.1 x hx with z | z
        · have := m1 x z; omega
        · omega
      have hc : ¬ g1.2.2.1 + 32 = 0 := by omega
      have hk : 6 ≤ gk (gA g1 7 1) (g1.2.2.1 + 32) ∧ gk (gA g1 7 1) (g1.2.2.1 + 32) ≤ 11 := by rw [gk_gA, if_pos rfl]; decide
      have fl : ∀ x, (F1 x ∨ x < 32) → x ≠ g1.2.2.1 + 32 := fun x hx => by
        rcases hx with z | z
        · have := hb x z; omega
        · omega
      have R2 : cR (fun x => F1 x ∨ x = g1.2.2.1 + 32) (am_u2 (z1 ci1 0 (g1.2.2.1 + 32)) (g1.2.2.1 + 32) 0 (nI a)) (z1 cj1 0 (g1.2.2.1 + 32)) (gA g1 7 1) T := by
        refine cR_g (F := F1) (fun x h => ?_) (fun x i h => ?_) (fun x h => ⟨?_, ?_⟩) (fun x h => Or.inl h) R1
        · rw [kn_gA, if_neg (fl x h)]
        · rw [gr_gA, if_neg (fl x h)]
        · rw [u2_a _ _ (fl x h), z1_n _ _ (fl x h)]
        · rw [z1_n _ _ (fl x h)]
      have rr : rR (am_u2 (z1 ci1 0 (g1.2.2.1 + 32)) (g1.2.2.1 + 32) 0 (nI a)) (gA g1 7 1) (g1.2.2.1 + 32) 2 a := ⟨by rw [gk_gA, if_pos rfl], by decide, by decide, u2_s _ _ _ _, by omega⟩
      have L2 := cR_to R2
      rw [bk_24_2]
      simp only [bq_24_2, true_and, X_push, X_goto, X_fall, X_ifeq, X_ifne, X_iflt, X_ifge, X_ifgt, X_ifle, X_iceq, X_icne, X_iclt, X_icge, X_icgt, X_icle, X_ifnull, X_ifnonnull, X_switch, X_ireturn, X_lreturn, X_areturn, X_return, X_zreturn, X_iload, X_lload, X_aload, X_istore, X_astore, X_lstore, X_iinc, X_iadd, X_isub, X_imul, X_idiv, X_irem, X_iand, X_ior, X_ishl, X_ishr, X_iushr, X_ladd, X_lsub, X_lmul, X_ldiv, X_land, X_lor, X_lshl, X_lcmp, X_ineg, X_i2l, X_l2i, X_i2b, X_i2s, X_i2c, X_dupr, X_dupi, X_dup_x1, X_dup2, X_popi, X_popr, X_iaload, X_baload, X_laload, X_aaload, X_iastore, X_bastore, X_lastore, X_aastore, X_arraylength, am_wt_0, am_wt_int, am_wt_long, am_wt_ref, List.getElem?_cons_zero, List.getElem?_cons_succ, am_s1, am_s2, am_kill, List.set_cons_zero, List.set_cons_succ, List.length_cons, List.length_nil, Int.reduceToNat, Nat.reduceAdd, Nat.reduceLeDiff, Nat.reduceLT, Option.toList_some, Option.toList_none, List.cons_append, List.nil_append, true_and, and_true, true_or, or_true, false_or, or_false, and_self, false_and, not_false_eq_true, not_true_eq_false, h5, if_false, X_new, sz_7, C_120, c_120 hk hc, hc, ne_eq, Nat.reduceLeDiff, Nat.le_refl, to_k L2, to_r0 L2, to_r1 L2, to_r2 L2, to_r3 L2, to_r4 L2, to_r5 L2, to_r6 L2, to_a5 L2, to_n5 L2, to_a6 L2, to_n6 L2, C_60]
      refine ⟨⟨by omega, by omega⟩, ?_⟩
      refine c_60 L2 (cR_so R2) (cR_sc R2) (cR_w R2) (cR_ho R2) (cR_O R2) (cR_wR R2) rr (by omega) hn ?_
      intro ci3 cj3 f3 f4
      obtain ⟨R3, r3⟩ := cR_fr R2 (fun x a b => f3 x (by omega) (by omega) (by omega)) (fun x a => f4 x (by omega) (by omega) (by omega) (by omega) (by omega))
      have G3 : gx F g (fun x => F1 x ∨ x = g1.2.2.1 + 32) (gA g1 7 1) := by
        obtain ⟨x1, x2, x3, x4, x5, x6⟩ := G1
        refine ⟨fun x h => Or.inl (x1 x h), fun x h => ?_, fun x h => ?_, ?_, ?_, ?_⟩
        · rw [cl_gA]
          rcases h with h | h
          · rcases x2 x h with z | z
            · exact Or.inl z
            · exact Or.inr ⟨z.1, by omega⟩
          · exact Or.inr ⟨by omega, by omega⟩
        · obtain ⟨y1, y2⟩ := x3 x (fun z => h (Or.inl z))
          have y3 : x ≠ g1.2.2.1 + 32 := fun z => h (Or.inr z)
          refine ⟨fun i => ?_, ?_⟩
          · rw [gr_gA, if_neg y3]; exact y1 i
          · rw [kn_gA, if_neg y3]; exact y2
        · rw [cl_gA]; omega
        · rw [cl_gA]; omega
        · rw [sl_gA]; omega
      have F3 : frm (fun x => F1 x ∨ x = g1.2.2.1 + 32) ci cj ci3 cj3 := by
        refine frm_tr (ci1 := am_u2 (z1 ci1 0 (g1.2.2.1 + 32)) (g1.2.2.1 + 32) 0 (nI a)) (cj1 := z1 cj1 0 (g1.2.2.1 + 32)) (fun x h => ?_) r3
        have y3 : x ≠ g1.2.2.1 + 32 := fun z => h (Or.inr z)
        obtain ⟨y1, y2⟩ := f1 x (fun z => h (Or.inl z))
        rw [u2_a _ _ y3, z1_n _ _ y3, z1_n _ _ y3]
        exact ⟨y1, y2⟩
      have c1 : (gA g1 7 1).2.2.1 = g.2.2.1 + (a + 1) := by rw [cl_gA]; omega
      have c2 : (gA g1 7 1).2.2.2 = g.2.2.2 + (a + 1) := by rw [sl_gA]; omega
      have b1 := vst_bd O (κ := 2) (a := a) hn
      have b2 := kpF_bd O hn a
      have e : kpF (tW T) n (a + 1) = if a = 0 ∨ (kpF (tW T) n a).2 < vst (tW T) 2 a n then (a, vst (tW T) 2 a n) else kpF (tW T) n a := rfl
      by_cases z : a = 0
      · rw [if_pos (Or.inl z)] at e
        rw [e] at ih
        have z1 : nI a = 0 := by rw [z]; rfl
        simp only [bk_24_3, bq_24_3, bk_24_4, bq_24_4, X_push, X_goto, X_fall, X_ifeq, X_ifne, X_iflt, X_ifge, X_ifgt, X_ifle, X_iceq, X_icne, X_iclt, X_icge, X_icgt, X_icle, X_ifnull, X_ifnonnull, X_switch, X_ireturn, X_lreturn, X_areturn, X_return, X_zreturn, X_iload, X_lload, X_aload, X_istore, X_astore, X_lstore, X_iinc, X_iadd, X_isub, X_imul, X_idiv, X_irem, X_iand, X_ior, X_ishl, X_ishr, X_iushr, X_ladd, X_lsub, X_lmul, X_ldiv, X_land, X_lor, X_lshl, X_lcmp, X_ineg, X_i2l, X_l2i, X_i2b, X_i2s, X_i2c, X_dupr, X_dupi, X_dup_x1, X_dup2, X_popi, X_popr, X_iaload, X_baload, X_laload, X_aaload, X_iastore, X_bastore, X_lastore, X_aastore, X_arraylength, am_wt_0, am_wt_int, am_wt_long, am_wt_ref, List.getElem?_cons_zero, List.getElem?_cons_succ, am_s1, am_s2, am_kill, List.set_cons_zero, List.set_cons_succ, List.length_cons, List.length_nil, Int.reduceToNat, Nat.reduceAdd, Nat.reduceLeDiff, Nat.reduceLT, Option.toList_some, Option.toList_none, List.cons_append, List.nil_append, true_and, and_true, true_or, or_true, false_or, or_false, and_self, false_and, not_false_eq_true, not_true_eq_false, z1, if_true]
        rw [show Int32.ofInt 1 = nI 1 from rfl, ← z1, nI_add]
        exact ih _ _ _ _ R3 G3 F3 c1 c2 _ _
      · have z1 : ¬ nI a = 0 := nz_nI (by omega) (by omega)
        by_cases y : (kpF (tW T) n a).2 < vst (tW T) 2 a n
        · rw [if_pos (Or.inr y)] at e
          rw [e] at ih
          have y1 : ¬ vst (tW T) 2 a n ≤ (kpF (tW T) n a).2 := by omega
          simp only [bk_24_3, bq_24_3, bk_24_4, bq_24_4, X_push, X_goto, X_fall, X_ifeq, X_ifne, X_iflt, X_ifge, X_ifgt, X_ifle, X_iceq, X_icne, X_iclt, X_icge, X_icgt, X_icle, X_ifnull, X_ifnonnull, X_switch, X_ireturn, X_lreturn, X_areturn, X_return, X_zreturn, X_iload, X_lload, X_aload, X_istore, X_astore, X_lstore, X_iinc, X_iadd, X_isub, X_imul, X_idiv, X_irem, X_iand, X_ior, X_ishl, X_ishr, X_iushr, X_ladd, X_lsub, X_lmul, X_ldiv, X_land, X_lor, X_lshl, X_lcmp, X_ineg, X_i2l, X_l2i, X_i2b, X_i2s, X_i2c, X_dupr, X_dupi, X_dup_x1, X_dup2, X_popi, X_popr, X_iaload, X_baload, X_laload, X_aaload, X_iastore, X_bastore, X_lastore, X_aastore, X_arraylength, am_wt_0, am_wt_int, am_wt_long, am_wt_ref, List.getElem?_cons_zero, List.getElem?_cons_succ, am_s1, am_s2, am_kill, List.set_cons_zero, List.set_cons_succ, List.length_cons, List.length_nil, Int.reduceToNat, Nat.reduceAdd, Nat.reduceLeDiff, Nat.reduceLT, Option.toList_some, Option.toList_none, List.cons_append, List.nil_append, true_and, and_true, true_or, or_true, false_or, or_false, and_self, false_and, not_false_eq_true, not_true_eq_false, z1, if_false, cmp_le, jI_ti (show -9223372036854775808 ≤ vst (tW T) 2 a n by omega) (show vst (tW T) 2 a n < 9223372036854775808 by omega), jI_ti (show -9223372036854775808 ≤ (kpF (tW T) n a).2 by omega) (show (kpF (tW T) n a).2 < 9223372036854775808 by omega), y1, oi_1, nI_add]
          exact ih _ _ _ _ R3 G3 F3 c1 c2 _ _
        · rw [if_neg (fun q => by rcases q with q | q <;> omega)] at e
          rw [e] at ih
          have y1 : vst (tW T) 2 a n ≤ (kpF (tW T) n a).2 := by omega
          simp only [bk_24_3, bq_24_3, bk_24_4, bq_24_4, X_push, X_goto, X_fall, X_ifeq, X_ifne, X_iflt, X_ifge, X_ifgt, X_ifle, X_iceq, X_icne, X_iclt, X_icge, X_icgt, X_icle, X_ifnull, X_ifnonnull, X_switch, X_ireturn, X_lreturn, X_areturn, X_return, X_zreturn, X_iload, X_lload, X_aload, X_istore, X_astore, X_lstore, X_iinc, X_iadd, X_isub, X_imul, X_idiv, X_irem, X_iand, X_ior, X_ishl, X_ishr, X_iushr, X_ladd, X_lsub, X_lmul, X_ldiv, X_land, X_lor, X_lshl, X_lcmp, X_ineg, X_i2l, X_l2i, X_i2b, X_i2s, X_i2c, X_dupr, X_dupi, X_dup_x1, X_dup2, X_popi, X_popr, X_iaload, X_baload, X_laload, X_aaload, X_iastore, X_bastore, X_lastore, X_aastore, X_arraylength, am_wt_0, am_wt_int, am_wt_long, am_wt_ref, List.getElem?_cons_zero, List.getElem?_cons_succ, am_s1, am_s2, am_kill, List.set_cons_zero, List.set_cons_succ, List.length_cons, List.length_nil, Int.reduceToNat, Nat.reduceAdd, Nat.reduceLeDiff, Nat.reduceLT, Option.toList_some, Option.toList_none, List.cons_append, List.nil_append, true_and, and_true, true_or, or_true, false_or, or_false, and_self, false_and, not_false_eq_true, not_true_eq_false, z1, if_false, cmp_le, jI_ti (show -9223372036854775808 ≤ vst (tW T) 2 a n by omega) (show vst (tW T) 2 a n < 9223372036854775808 by omega), jI_ti (show -9223372036854775808 ≤ (kpF (tW T) n a).2 by omega) (show (kpF (tW T) n a).2 < 9223372036854775808 by omega), y1, if_true, oi_1, nI_add]
          exact ih _ _ _ _ R3 G3 F3 c1 c2 _ _
  · rw [if_neg h1] at k
    simp only [bk_24_0, bq_24_0, X_push, X_goto, X_fall, X_ifeq, X_ifne, X_iflt, X_ifge, X_ifgt, X_ifle, X_iceq, X_icne, X_iclt, X_icge, X_icgt, X_icle, X_ifnull, X_ifnonnull, X_switch, X_ireturn, X_lreturn, X_areturn, X_return, X_zreturn, X_iload, X_lload, X_aload, X_istore, X_astore, X_lstore, X_iinc, X_iadd, X_isub, X_imul, X_idiv, X_irem, X_iand, X_ior, X_ishl, X_ishr, X_iushr, X_ladd, X_lsub, X_lmul, X_ldiv, X_land, X_lor, X_lshl, X_lcmp, X_ineg, X_i2l, X_l2i, X_i2b, X_i2s, X_i2c, X_dupr, X_dupi, X_dup_x1, X_dup2, X_popi, X_popr, X_iaload, X_baload, X_laload, X_aaload, X_iastore, X_bastore, X_lastore, X_aastore, X_arraylength, am_wt_0, am_wt_int, am_wt_long, am_wt_ref, List.getElem?_cons_zero, List.getElem?_cons_succ, am_s1, am_s2, am_kill, List.set_cons_zero, List.set_cons_succ, List.length_cons, List.length_nil, Int.reduceToNat, Nat.reduceAdd, Nat.reduceLeDiff, Nat.reduceLT, Option.toList_some, Option.toList_none, List.cons_append, List.nil_append, true_and, and_true, true_or, or_true, false_or, or_false, and_self, false_and, not_false_eq_true, not_true_eq_false, to_k L, to_r0 L, to_r1 L, to_r2 L, to_r3 L, to_r4 L, to_r5 L, to_r6 L, to_a5 L, to_n5 L, to_a6 L, to_n6 L, C_48, c_48, h1, bI_f, not_true_eq_false, if_false, rI_0, rI_1, rI_2, rI_3, rI_4, C_44, C_45, c_44 R (show 0 < 5 by decide), c_44 R (show 1 < 5 by decide), c_44 R (show 2 < 5 by decide), c_44 R (show 3 < 5 by decide), c_44 R (show 4 < 5 by decide), c_45 R (show 0 < 5 by decide), c_45 R (show 1 < 5 by decide), c_45 R (show 2 < 5 by decide), c_45 R (show 3 < 5 by decide), c_45 R (show 4 < 5 by decide)]
    exact kx_rf R (by decide) k
end ALLOC
