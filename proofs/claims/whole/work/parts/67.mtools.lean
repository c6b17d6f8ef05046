/-! THE MODEL at 73: its facts by numbers; what changes of it come to -/
theorem m7_k {g : am_G} (H : mo g 73) : gk g 73 = 12 := mo_k H
theorem m7_r0 {g : am_G} (H : mo g 73) : gr g 73 0 = 74 := mo_r0 H
theorem m7_r1 {g : am_G} (H : mo g 73) : gr g 73 1 = 75 := mo_r1 H
theorem m7_r2 {g : am_G} (H : mo g 73) : gr g 73 2 = 76 := mo_r2 H
theorem m7_r3 {g : am_G} (H : mo g 73) : gr g 73 3 = 77 := mo_r3 H
theorem m7_r4 {g : am_G} (H : mo g 73) : gr g 73 4 = 86 := mo_r4 H
theorem m7_r5 {g : am_G} (H : mo g 73) : gr g 73 5 = 87 := mo_r5 H
theorem m7_r6 {g : am_G} (H : mo g 73) : gr g 73 6 = 88 := mo_r6 H
theorem m7_r7 {g : am_G} (H : mo g 73) : gr g 73 7 = 89 := mo_r7 H
theorem m7_r9 {g : am_G} (H : mo g 73) : gr g 73 9 = 90 := mo_r9 H
theorem m7_r10 {g : am_G} (H : mo g 73) : gr g 73 10 = 91 := mo_r10 H
theorem m7_r11 {g : am_G} (H : mo g 73) : gr g 73 11 = 92 := mo_r11 H
theorem m7_r12 {g : am_G} (H : mo g 73) : gr g 73 12 = 93 := mo_r12 H
theorem m7_r14 {g : am_G} (H : mo g 73) : gr g 73 14 = 94 := mo_r14 H
theorem m7_r15 {g : am_G} (H : mo g 73) : gr g 73 15 = 101 := mo_r15 H
theorem m7_r16 {g : am_G} (H : mo g 73) : gr g 73 16 = 102 := mo_r16 H
theorem m7_r25 {g : am_G} (H : mo g 73) : gr g 73 25 = 103 := mo_r25 H
theorem m7_r27 {g : am_G} (H : mo g 73) : gr g 73 27 = 104 := mo_r27 H
theorem m7_r28 {g : am_G} (H : mo g 73) : gr g 73 28 = 111 := mo_r28 H
theorem m7_r29 {g : am_G} (H : mo g 73) : gr g 73 29 = 137 := mo_r29 H
theorem m7_r30 {g : am_G} (H : mo g 73) : gr g 73 30 = 138 := mo_r30 H
theorem m7_r31 {g : am_G} (H : mo g 73) : gr g 73 31 = 139 := mo_r31 H
theorem m7_r32 {g : am_G} (H : mo g 73) : gr g 73 32 = 140 := mo_r32 H
theorem m7_a1 {g : am_G} (H : mo g 73) : gk g 74 = 20 := mo_a1 H
theorem m7_n1 {g : am_G} (H : mo g 73) : gn g 74 = 8 := mo_n1 H
theorem m7_a2 {g : am_G} (H : mo g 73) : gk g 75 = 20 := mo_a2 H
theorem m7_n2 {g : am_G} (H : mo g 73) : gn g 75 = 8 := mo_n2 H
theorem m7_a3 {g : am_G} (H : mo g 73) : gk g 76 = 20 := mo_a3 H
theorem m7_n3 {g : am_G} (H : mo g 73) : gn g 76 = 8 := mo_n3 H
theorem m7_a4 {g : am_G} (H : mo g 73) : gk g 77 = 25 := mo_a4 H
theorem m7_n4 {g : am_G} (H : mo g 73) : gn g 77 = 8 := mo_n4 H
theorem m7_s4 {g : am_G} (H : mo g 73) : ∀ i, i < 8 → gr g 77 i = 78 + i := mo_s4 H
theorem m7_t4 {g : am_G} (H : mo g 73) : ∀ i, i < 8 → gk g (78 + i) = 21 := mo_t4 H
theorem m7_u4 {g : am_G} (H : mo g 73) : ∀ i, i < 8 → gn g (78 + i) = 40 := mo_u4 H
theorem m7_a13 {g : am_G} (H : mo g 73) : gk g 86 = 21 := mo_a13 H
theorem m7_n13 {g : am_G} (H : mo g 73) : gn g 86 = 40 := mo_n13 H
theorem m7_a14 {g : am_G} (H : mo g 73) : gk g 87 = 20 := mo_a14 H
theorem m7_n14 {g : am_G} (H : mo g 73) : gn g 87 = 8 := mo_n14 H
theorem m7_a15 {g : am_G} (H : mo g 73) : gk g 88 = 20 := mo_a15 H
theorem m7_n15 {g : am_G} (H : mo g 73) : gn g 88 = 8 := mo_n15 H
theorem m7_a16 {g : am_G} (H : mo g 73) : gk g 89 = 20 := mo_a16 H
theorem m7_n16 {g : am_G} (H : mo g 73) : gn g 89 = 200 := mo_n16 H
theorem m7_a17 {g : am_G} (H : mo g 73) : gk g 90 = 20 := mo_a17 H
theorem m7_n17 {g : am_G} (H : mo g 73) : gn g 90 = 8 := mo_n17 H
theorem m7_a18 {g : am_G} (H : mo g 73) : gk g 91 = 20 := mo_a18 H
theorem m7_n18 {g : am_G} (H : mo g 73) : gn g 91 = 3 := mo_n18 H
theorem m7_a19 {g : am_G} (H : mo g 73) : gk g 92 = 20 := mo_a19 H
theorem m7_n19 {g : am_G} (H : mo g 73) : gn g 92 = 3 := mo_n19 H
theorem m7_a20 {g : am_G} (H : mo g 73) : gk g 93 = 20 := mo_a20 H
theorem m7_n20 {g : am_G} (H : mo g 73) : gn g 93 = 3 := mo_n20 H
theorem m7_a21 {g : am_G} (H : mo g 73) : gk g 94 = 24 := mo_a21 H
theorem m7_n21 {g : am_G} (H : mo g 73) : gn g 94 = 6 := mo_n21 H
theorem m7_s21 {g : am_G} (H : mo g 73) : ∀ i, i < 6 → gr g 94 i = 95 + i := mo_s21 H
theorem m7_t21 {g : am_G} (H : mo g 73) : ∀ i, i < 6 → gk g (95 + i) = 20 := mo_t21 H
theorem m7_u21 {g : am_G} (H : mo g 73) : ∀ i, i < 6 → gn g (95 + i) = 4 := mo_u21 H
theorem m7_a28 {g : am_G} (H : mo g 73) : gk g 101 = 20 := mo_a28 H
theorem m7_n28 {g : am_G} (H : mo g 73) : gn g 101 = 2 := mo_n28 H
theorem m7_a29 {g : am_G} (H : mo g 73) : gk g 102 = 20 := mo_a29 H
theorem m7_n29 {g : am_G} (H : mo g 73) : gn g 102 = 6 := mo_n29 H
theorem m7_a30 {g : am_G} (H : mo g 73) : gk g 103 = 20 := mo_a30 H
theorem m7_n30 {g : am_G} (H : mo g 73) : gn g 103 = 1 := mo_n30 H
theorem m7_a31 {g : am_G} (H : mo g 73) : gk g 104 = 24 := mo_a31 H
theorem m7_n31 {g : am_G} (H : mo g 73) : gn g 104 = 6 := mo_n31 H
theorem m7_s31 {g : am_G} (H : mo g 73) : ∀ i, i < 6 → gr g 104 i = 105 + i := mo_s31 H
theorem m7_t31 {g : am_G} (H : mo g 73) : ∀ i, i < 6 → gk g (105 + i) = 20 := mo_t31 H
theorem m7_u31 {g : am_G} (H : mo g 73) : ∀ i, i < 6 → gn g (105 + i) = 125 := mo_u31 H
theorem m7_a38 {g : am_G} (H : mo g 73) : gk g 111 = 25 := mo_a38 H
theorem m7_n38 {g : am_G} (H : mo g 73) : gn g 111 = 25 := mo_n38 H
theorem m7_s38 {g : am_G} (H : mo g 73) : ∀ i, i < 25 → gr g 111 i = 112 + i := mo_s38 H
theorem m7_t38 {g : am_G} (H : mo g 73) : ∀ i, i < 25 → gk g (112 + i) = 21 := mo_t38 H
theorem m7_u38 {g : am_G} (H : mo g 73) : ∀ i, i < 25 → gn g (112 + i) = 125 := mo_u38 H
theorem m7_a64 {g : am_G} (H : mo g 73) : gk g 137 = 21 := mo_a64 H
theorem m7_n64 {g : am_G} (H : mo g 73) : gn g 137 = 125 := mo_n64 H
theorem m7_a65 {g : am_G} (H : mo g 73) : gk g 138 = 20 := mo_a65 H
theorem m7_n65 {g : am_G} (H : mo g 73) : gn g 138 = 6 := mo_n65 H
theorem m7_a66 {g : am_G} (H : mo g 73) : gk g 139 = 20 := mo_a66 H
theorem m7_n66 {g : am_G} (H : mo g 73) : gn g 139 = 6 := mo_n66 H
theorem m7_a67 {g : am_G} (H : mo g 73) : gk g 140 = 20 := mo_a67 H
theorem m7_n67 {g : am_G} (H : mo g 73) : gn g 140 = 6 := mo_n67 H
theorem w7_bx {ci : Nat → Nat → Int32} {σ : wS} (h : mW ci 73 σ) {j : Nat} (hj : j < 3) : ci 91 j = nI (sBx σ j) := h.1 j hj
theorem w7_fl {ci : Nat → Nat → Int32} {σ : wS} (h : mW ci 73 σ) {j : Nat} (hj : j < 3) : ci 92 j = nI (sFl σ j) := h.2.1 j hj
theorem w7_go {ci : Nat → Nat → Int32} {σ : wS} (h : mW ci 73 σ) {j : Nat} (hj : j < 3) : ci 93 j = nI (sGo σ j) := h.2.2.1 j hj
theorem w7_sz {ci : Nat → Nat → Int32} {σ : wS} (h : mW ci 73 σ) {i : Nat} (hi : i < sCn σ) : ci (95 + i) 0 = nI (sSz σ i) := (h.2.2.2.1 i hi).1
theorem w7_co {ci : Nat → Nat → Int32} {σ : wS} (h : mW ci 73 σ) {i : Nat} (hi : i < sCn σ) : ci (95 + i) 1 = nI (sCo σ i) := (h.2.2.2.1 i hi).2.1
theorem w7_wo {ci : Nat → Nat → Int32} {σ : wS} (h : mW ci 73 σ) {i : Nat} (hi : i < sCn σ) : ci (95 + i) 2 = nI (sWo σ i) := (h.2.2.2.1 i hi).2.2.1
theorem w7_ba {ci : Nat → Nat → Int32} {σ : wS} (h : mW ci 73 σ) {i : Nat} (hi : i < sCn σ) : ci (95 + i) 3 = nI (sBa σ i) := (h.2.2.2.1 i hi).2.2.2
theorem w7_ne {ci : Nat → Nat → Int32} {σ : wS} (h : mW ci 73 σ) : ci 101 0 = nI (sNe σ) := h.2.2.2.2.1
theorem w7_wa {ci : Nat → Nat → Int32} {σ : wS} (h : mW ci 73 σ) : ci 101 1 = nI (sWa σ) := h.2.2.2.2.2.1
theorem w7_da {ci : Nat → Nat → Int32} {σ : wS} (h : mW ci 73 σ) {j : Nat} (hj : j < 6) : ci 102 j = sDa σ j := h.2.2.2.2.2.2.1 j hj
theorem i01 : ((0 : Int32) = 1) = False := eq_false (by decide)
theorem i02 : ((0 : Int32) = 2) = False := eq_false (by decide)
theorem i12 : ((1 : Int32) = 2) = False := eq_false (by decide)
section MT
variable {d : Nat} {M : Nat → Prop} {ci ci' : Nat → Nat → Int32} {cj cj' : Nat → Nat → Int64} {g : am_G} {T : tS} {v : Value} {Q : Option Value → am_H → Prop} {m : Nat} {σ : wS}
/-- the model's own cells change, the kept one and the tried one don't -/
theorem mR_gen (R : mR M ci cj g T) {T' : tS} (hT : tOK T') (e : tI T' = tI T) (e2 : tK T' = tK T) (D : mD ci' cj' T') (h1 : ∀ x, (x < 73 ∨ 140 < x) → ci' x = ci x) (h2 : ∀ x, (x < 73 ∨ 140 < x) → cj' x = cj x) : mR M ci' cj' g T' ∧ frm M ci cj ci' cj' := by
  refine ⟨?_, frm_m R (fun x a b => h1 x (by omega)) (fun x a b => h2 x (by omega))⟩
  obtain ⟨L, _, K, Tr, A, P⟩ := R
  refine ⟨L, D, ?_, Tr, A, hT⟩
  unfold mKp
  rw [e, e2]
  rcases K with k | ⟨k1, k2, k3⟩
  · exact Or.inl k
  · have nk : ∀ x, gr g 73 18 ≤ x → ci' x = ci x := fun x a => h1 x (by have := k2.1; omega)
    exact Or.inr ⟨k1, k2, mW_fr P.2.1 (fun x a b => nk x (by omega)) (by rw [nk _ (by omega)]) (by rw [nk _ (by omega)]) k3⟩
theorem mR_shelf (R : mR M ci cj g T) {S' : shS} (hS : hOK S') (h1 : ∀ x, x ≠ 74 → x ≠ 75 → x ≠ 76 → x ≠ 87 → x ≠ 88 → ci' x = ci x) (h3 : ∀ x, (x < 78 ∨ 86 < x) → cj' x = cj x) (h4 : ∀ s, s < 8 → mS ci' cj' S' s) : mR M ci' cj' g (stH T S') ∧ frm M ci cj ci' cj' := by
  have P := R.2.2.2.2.2
  obtain ⟨d1, d2, d3, d4, d5, d6⟩ := R.2.1
  refine mR_gen R ⟨P.1, P.2.1, P.2.2.1, P.2.2.2.1, hS⟩ rfl rfl ⟨sc_fr d1 (fun a ha => h1 a (by omega) (by omega) (by omega) (by omega) (by omega)), mW_fr P.1 (fun x a b => h1 x (by omega) (by omega) (by omega) (by omega) (by omega)) (by rw [h1 73 (by decide) (by decide) (by decide) (by decide) (by decide)]) (by rw [h1 73 (by decide) (by decide) (by decide) (by decide) (by decide)]) d2, ?_, ?_, ?_, h4⟩ (fun x a => h1 x (by omega) (by omega) (by omega) (by omega) (by omega)) (fun x a => h3 x (by omega))
  · rw [h1 73 (by decide) (by decide) (by decide) (by decide) (by decide)]; exact d3
  · rw [h1 89 (by decide) (by decide) (by decide) (by decide) (by decide)]; exact d4
  · rw [h1 90 (by decide) (by decide) (by decide) (by decide) (by decide)]; exact d5
theorem mR_tape (R : mR M ci cj g T) {l : Nat} {b : Nat → Nat} (hl : l ≤ 200) (hb : ∀ i, i < l → b i < 256) (h1 : ∀ x, x ≠ 73 → x ≠ 89 → ci' x = ci x) (h2 : ci' 73 13 = ci 73 13 ∧ ci' 73 17 = ci 73 17) (h3 : ci' 73 8 = nI l) (h4 : ∀ i, i < l → ci' 89 i = nI (b i)) : mR M ci' cj g (stT T l b) ∧ frm M ci cj ci' cj := by
  have P := R.2.2.2.2.2
  obtain ⟨d1, d2, d3, d4, d5, d6⟩ := R.2.1
  refine mR_gen R ⟨P.1, P.2.1, hl, hb, P.2.2.2.2⟩ rfl rfl ⟨sc_fr d1 (fun a ha => h1 a (by omega) (by omega)), mW_fr P.1 (fun x a b => h1 x (by omega) (by omega)) h2.1 h2.2 d2, h3, h4, ?_, ?_⟩ (fun x a => h1 x (by omega) (by omega)) (fun x a => rfl)
  · rw [h1 90 (by decide) (by decide)]; exact d5
  · intro s hs
    unfold mS
    rw [h1 74 (by decide) (by decide), h1 75 (by decide) (by decide), h1 76 (by decide) (by decide), h1 87 (by decide) (by decide), h1 88 (by decide) (by decide)]
    exact d6 s hs
theorem mR_k0 (R : mR M ci cj g T) {s : Nat} (hs : s < 8) (h : hK (tH T) s = 0) : ci 74 s = 0 := by rw [(mR_s R hs).1, h]; rfl
theorem mR_k1 (R : mR M ci cj g T) {s : Nat} (hs : s < 8) (h : hK (tH T) s = 1) : ci 74 s = 1 ∧ ci 75 s = nI (rS (tH T) s) ∧ ci 76 s = nI (rN (tH T) s) ∧ (∀ i, i < rN (tH T) s → cj (78 + s) i = rE (tH T) s i) ∧ rS (tH T) s ≤ 4 ∧ rN (tH T) s ≤ 40 := by
  obtain ⟨a, b, c⟩ := (mR_s R hs).2.1 h
  obtain ⟨e, f⟩ := (R.2.2.2.2.2.2.2.2.2 s hs).2.1 h
  exact ⟨by rw [(mR_s R hs).1, h]; rfl, a, b, c, e, f⟩
theorem mR_k2 (R : mR M ci cj g T) {s : Nat} (hs : s < 8) (h : hK (tH T) s = 2) : ci 74 s = 2 ∧ ci 87 s = nI (uK (tH T) s) ∧ ci 88 s = nI (uA (tH T) s) ∧ 1 ≤ uK (tH T) s ∧ uK (tH T) s ≤ 6 ∧ uA (tH T) s ≤ 99 := by
  obtain ⟨a, b⟩ := (mR_s R hs).2.2 h
  obtain ⟨e, f, i⟩ := (R.2.2.2.2.2.2.2.2.2 s hs).2.2 h
  exact ⟨by rw [(mR_s R hs).1, h]; rfl, a, b, e, f, i⟩
theorem mR_k (R : mR M ci cj g T) {s : Nat} (hs : s < 8) : hK (tH T) s = 0 ∨ hK (tH T) s = 1 ∨ hK (tH T) s = 2 := by
  have := (R.2.2.2.2.2.2.2.2.2 s hs).1
  omega
theorem noRule_2 {T : tS} {s : Nat} (hs : s < 8) : noRule T (nI s) = if hK (tH T) s = 0 then 2 else if hK (tH T) s = 2 then 5 else 1 := by
  unfold noRule
  rw [if_pos (show rg (nI s) 0 7 = true from rg_of (k := s) (n := 7) (by omega) (by decide)), tn_nI (by omega)]
theorem noRow_2 {T : tS} {s : Nat} (hs : s < 8) : noRow T (nI s) = if hK (tH T) s = 0 then 2 else if hK (tH T) s = 1 then 5 else 1 := by
  unfold noRow
  rw [if_pos (show rg (nI s) 0 7 = true from rg_of (k := s) (n := 7) (by omega) (by decide)), tn_nI (by omega)]
theorem noRule_0 {T : tS} {s : Int32} (h : ¬ rg s 0 7 = true) : noRule T s = 0 := if_neg h
theorem noRow_0 {T : tS} {s : Int32} (h : ¬ rg s 0 7 = true) : noRow T s = 0 := if_neg h
theorem noRule_5k {T : tS} {s : Nat} (hs : s < 8) (h : noRule T (nI s) = 5) : hK (tH T) s = 2 := by
  rw [noRule_2 hs] at h
  revert h
  split
  · intro z; cases z
  · split
    · intro _; assumption
    · intro z; cases z
theorem noRow_5k {T : tS} {s : Nat} (hs : s < 8) (h : noRow T (nI s) = 5) : hK (tH T) s = 1 := by
  rw [noRow_2 hs] at h
  revert h
  split
  · intro z; cases z
  · split
    · intro _; assumption
    · intro z; cases z
theorem noRow_5r {T : tS} {s : Int32} (h : noRow T s = 5) : rg s 0 7 = true := by
  by_cases z : rg s 0 7 = true
  · exact z
  · rw [noRow_0 z] at h; cases h
theorem noRule_5r {T : tS} {s : Int32} (h : noRule T s = 5) : rg s 0 7 = true := by
  by_cases z : rg s 0 7 = true
  · exact z
  · rw [noRule_0 z] at h; cases h
theorem c_137m (H : mo g 73) {κ : Nat} (hκ : κ < 5) : X d 137 (am_bk 137 0) [.ref 73, .int (rI κ)] [] (ci, cj, g) Q ↔ Q (some (.int (rI κ))) (am_u2 ci 90 (κ + 2) (ci 90 (κ + 2) + 1), cj, g) := c_137 H hκ
theorem km_rf' {κ : Nat} (R : mR M ci cj g T) (hκ : κ < 5) (k : Km M ci cj g (rfT T κ) v Q) : Q (some v) (am_u2 ci 90 (κ + 2) (ci 90 (κ + 2) + 1), cj, g) := km_rf R hκ k
/-- noRule(s) -/
theorem c_156t (R : mR M ci cj g T) {s : Int32} (h : noRule T s = 5) : X (d + 1) 156 (am_bk 156 0) [.ref 73, .int s] [] (ci, cj, g) Q ↔ Q (some (.int 0)) (ci, cj, g) := by
  have H := mR_mo R
  have h7 := noRule_5r h
  obtain ⟨j, hj, rfl⟩ := rg_nI (n := 7) h7 (by decide)
  have a := (mR_k2 R (show j < 8 by omega) (noRule_5k (by omega) h)).1
  simp only [bk_156_0, bq_156_0, bk_156_1, bq_156_1, bk_156_2, bq_156_2, bk_156_3, bq_156_3, bk_156_4, bq_156_4, G_37, X_push, X_goto, X_fall, X_ifeq, X_ifne, X_iflt, X_ifge, X_ifgt, X_ifle, X_iceq, X_icne, X_iclt, X_icge, X_icgt, X_icle, X_ifnull, X_ifnonnull, X_switch, X_ireturn, X_lreturn, X_areturn, X_return, X_zreturn, X_iload, X_lload, X_aload, X_istore, X_astore, X_lstore, X_iinc, X_iadd, X_isub, X_imul, X_idiv, X_irem, X_iand, X_ior, X_ishl, X_ishr, X_iushr, X_ladd, X_lsub, X_lmul, X_ldiv, X_land, X_lor, X_lshl, X_lcmp, X_ineg, X_i2l, X_l2i, X_i2b, X_i2s, X_i2c, X_dupr, X_dupi, X_dup_x1, X_dup2, X_popi, X_popr, X_iaload, X_baload, X_laload, X_aaload, X_iastore, X_bastore, X_lastore, X_aastore, X_arraylength, am_wt_0, am_wt_int, am_wt_long, am_wt_ref, List.getElem?_cons_zero, List.getElem?_cons_succ, am_s1, am_s2, am_kill, List.set_cons_zero, List.set_cons_succ, List.length_cons, List.length_nil, Int.reduceToNat, Nat.reduceAdd, Nat.reduceLeDiff, Nat.reduceLT, Option.toList_some, Option.toList_none, List.cons_append, List.nil_append, true_and, and_true, true_or, or_true, false_or, or_false, and_self, false_and, not_false_eq_true, not_true_eq_false, m7_k H, m7_r0 H, m7_r1 H, m7_r2 H, m7_r3 H, m7_r4 H, m7_r5 H, m7_r6 H, m7_r7 H, m7_r9 H, m7_r10 H, m7_r11 H, m7_r12 H, m7_r14 H, m7_r15 H, m7_r16 H, m7_r25 H, m7_r27 H, m7_r28 H, m7_r29 H, m7_r30 H, m7_r31 H, m7_r32 H, m7_a1 H, m7_n1 H, m7_a2 H, m7_n2 H, m7_a3 H, m7_n3 H, m7_a4 H, m7_n4 H, m7_a13 H, m7_n13 H, m7_a14 H, m7_n14 H, m7_a15 H, m7_n15 H, m7_a16 H, m7_n16 H, m7_a17 H, m7_n17 H, m7_a18 H, m7_n18 H, m7_a19 H, m7_n19 H, m7_a20 H, m7_n20 H, m7_a21 H, m7_n21 H, m7_a28 H, m7_n28 H, m7_a29 H, m7_n29 H, m7_a30 H, m7_n30 H, m7_a31 H, m7_n31 H, m7_a38 H, m7_n38 H, m7_a64 H, m7_n64 H, m7_a65 H, m7_n65 H, m7_a66 H, m7_n66 H, m7_a67 H, m7_n67 H, C_138, c_138i, tl_0, tl_7, h7, bI_t, i10, not_false_eq_true, if_true, in_nI (show j < 8 by omega) (show 8 < 2 ^ 31 by decide), tn_nI (show j < 2 ^ 31 by omega), a, i21, i20]
theorem c_156f (R : mR M ci cj g T) {s : Int32} (h : ¬ noRule T s = 5) : X (d + 1) 156 (am_bk 156 0) [.ref 73, .int s] [] (ci, cj, g) Q ↔ Q (some (.int (rI (noRule T s)))) (am_u2 ci 90 (noRule T s + 2) (ci 90 (noRule T s + 2) + 1), cj, g) := by
  have H := mR_mo R
  by_cases h7 : rg s 0 7 = true
  · obtain ⟨j, hj, rfl⟩ := rg_nI (n := 7) h7 (by decide)
    rcases mR_k R (show j < 8 by omega) with z | z | z
    · have a := mR_k0 R (show j < 8 by omega) z
      have e : noRule T (nI j) = 2 := by rw [noRule_2 (by omega), z]; rfl
      rw [e]
      simp only [bk_156_0, bq_156_0, bk_156_1, bq_156_1, bk_156_2, bq_156_2, bk_156_4, bq_156_4, G_37, X_push, X_goto, X_fall, X_ifeq, X_ifne, X_iflt, X_ifge, X_ifgt, X_ifle, X_iceq, X_icne, X_iclt, X_icge, X_icgt, X_icle, X_ifnull, X_ifnonnull, X_switch, X_ireturn, X_lreturn, X_areturn, X_return, X_zreturn, X_iload, X_lload, X_aload, X_istore, X_astore, X_lstore, X_iinc, X_iadd, X_isub, X_imul, X_idiv, X_irem, X_iand, X_ior, X_ishl, X_ishr, X_iushr, X_ladd, X_lsub, X_lmul, X_ldiv, X_land, X_lor, X_lshl, X_lcmp, X_ineg, X_i2l, X_l2i, X_i2b, X_i2s, X_i2c, X_dupr, X_dupi, X_dup_x1, X_dup2, X_popi, X_popr, X_iaload, X_baload, X_laload, X_aaload, X_iastore, X_bastore, X_lastore, X_aastore, X_arraylength, am_wt_0, am_wt_int, am_wt_long, am_wt_ref, List.getElem?_cons_zero, List.getElem?_cons_succ, am_s1, am_s2, am_kill, List.set_cons_zero, List.set_cons_succ, List.length_cons, List.length_nil, Int.reduceToNat, Nat.reduceAdd, Nat.reduceLeDiff, Nat.reduceLT, Option.toList_some, Option.toList_none, List.cons_append, List.nil_append, true_and, and_true, true_or, or_true, false_or, or_false, and_self, false_and, not_false_eq_true, not_true_eq_false, m7_k H, m7_r0 H, m7_r1 H, m7_r2 H, m7_r3 H, m7_r4 H, m7_r5 H, m7_r6 H, m7_r7 H, m7_r9 H, m7_r10 H, m7_r11 H, m7_r12 H, m7_r14 H, m7_r15 H, m7_r16 H, m7_r25 H, m7_r27 H, m7_r28 H, m7_r29 H, m7_r30 H, m7_r31 H, m7_r32 H, m7_a1 H, m7_n1 H, m7_a2 H, m7_n2 H, m7_a3 H, m7_n3 H, m7_a4 H, m7_n4 H, m7_a13 H, m7_n13 H, m7_a14 H, m7_n14 H, m7_a15 H, m7_n15 H, m7_a16 H, m7_n16 H, m7_a17 H, m7_n17 H, m7_a18 H, m7_n18 H, m7_a19 H, m7_n19 H, m7_a20 H, m7_n20 H, m7_a21 H, m7_n21 H, m7_a28 H, m7_n28 H, m7_a29 H, m7_n29 H, m7_a30 H, m7_n30 H, m7_a31 H, m7_n31 H, m7_a38 H, m7_n38 H, m7_a64 H, m7_n64 H, m7_a65 H, m7_n65 H, m7_a66 H, m7_n66 H, m7_a67 H, m7_n67 H, C_138, c_138i, tl_0, tl_7, h7, bI_t, i10, not_false_eq_true, if_true, if_false, in_nI (show j < 8 by omega) (show 8 < 2 ^ 31 by decide), tn_nI (show j < 2 ^ 31 by omega), a, i01, rI_0, rI_1, rI_2, rI_3, rI_4, C_137, c_137m H (show 0 < 5 by decide), c_137m H (show 1 < 5 by decide), c_137m H (show 2 < 5 by decide), c_137m H (show 3 < 5 by decide), c_137m H (show 4 < 5 by decide)]
    · have a := (mR_k1 R (show j < 8 by omega) z).1
      have e : noRule T (nI j) = 1 := by rw [noRule_2 (by omega), z]; rfl
      rw [e]
      simp only [bk_156_0, bq_156_0, bk_156_1, bq_156_1, bk_156_4, bq_156_4, G_37, X_push, X_goto, X_fall, X_ifeq, X_ifne, X_iflt, X_ifge, X_ifgt, X_ifle, X_iceq, X_icne, X_iclt, X_icge, X_icgt, X_icle, X_ifnull, X_ifnonnull, X_switch, X_ireturn, X_lreturn, X_areturn, X_return, X_zreturn, X_iload, X_lload, X_aload, X_istore, X_astore, X_lstore, X_iinc, X_iadd, X_isub, X_imul, X_idiv, X_irem, X_iand, X_ior, X_ishl, X_ishr, X_iushr, X_ladd, X_lsub, X_lmul, X_ldiv, X_land, X_lor, X_lshl, X_lcmp, X_ineg, X_i2l, X_l2i, X_i2b, X_i2s, X_i2c, X_dupr, X_dupi, X_dup_x1, X_dup2, X_popi, X_popr, X_iaload, X_baload, X_laload, X_aaload, X_iastore, X_bastore, X_lastore, X_aastore, X_arraylength, am_wt_0, am_wt_int, am_wt_long, am_wt_ref, List.getElem?_cons_zero, List.getElem?_cons_succ, am_s1, am_s2, am_kill, List.set_cons_zero, List.set_cons_succ, List.length_cons, List.length_nil, Int.reduceToNat, Nat.reduceAdd, Nat.reduceLeDiff, Nat.reduceLT, Option.toList_some, Option.toList_none, List.cons_append, List.nil_append, true_and, and_true, true_or, or_true, false_or, or_false, and_self, false_and, not_false_eq_true, not_true_eq_false, m7_k H, m7_r0 H, m7_r1 H, m7_r2 H, m7_r3 H, m7_r4 H, m7_r5 H, m7_r6 H, m7_r7 H, m7_r9 H, m7_r10 H, m7_r11 H, m7_r12 H, m7_r14 H, m7_r15 H, m7_r16 H, m7_r25 H, m7_r27 H, m7_r28 H, m7_r29 H, m7_r30 H, m7_r31 H, m7_r32 H, m7_a1 H, m7_n1 H, m7_a2 H, m7_n2 H, m7_a3 H, m7_n3 H, m7_a4 H, m7_n4 H, m7_a13 H, m7_n13 H, m7_a14 H, m7_n14 H, m7_a15 H, m7_n15 H, m7_a16 H, m7_n16 H, m7_a17 H, m7_n17 H, m7_a18 H, m7_n18 H, m7_a19 H, m7_n19 H, m7_a20 H, m7_n20 H, m7_a21 H, m7_n21 H, m7_a28 H, m7_n28 H, m7_a29 H, m7_n29 H, m7_a30 H, m7_n30 H, m7_a31 H, m7_n31 H, m7_a38 H, m7_n38 H, m7_a64 H, m7_n64 H, m7_a65 H, m7_n65 H, m7_a66 H, m7_n66 H, m7_a67 H, m7_n67 H, C_138, c_138i, tl_0, tl_7, h7, bI_t, i10, not_false_eq_true, if_true, if_false, in_nI (show j < 8 by omega) (show 8 < 2 ^ 31 by decide), tn_nI (show j < 2 ^ 31 by omega), a, rI_0, rI_1, rI_2, rI_3, rI_4, C_137, c_137m H (show 0 < 5 by decide), c_137m H (show 1 < 5 by decide), c_137m H (show 2 < 5 by decide), c_137m H (show 3 < 5 by decide), c_137m H (show 4 < 5 by decide)]
    · exact absurd (by rw [noRule_2 (by omega), z]; rfl) h
  · rw [noRule_0 h7]
    simp only [bk_156_0, bq_156_0, G_37, X_push, X_goto, X_fall, X_ifeq, X_ifne, X_iflt, X_ifge, X_ifgt, X_ifle, X_iceq, X_icne, X_iclt, X_icge, X_icgt, X_icle, X_ifnull, X_ifnonnull, X_switch, X_ireturn, X_lreturn, X_areturn, X_return, X_zreturn, X_iload, X_lload, X_aload, X_istore, X_astore, X_lstore, X_iinc, X_iadd, X_isub, X_imul, X_idiv, X_irem, X_iand, X_ior, X_ishl, X_ishr, X_iushr, X_ladd, X_lsub, X_lmul, X_ldiv, X_land, X_lor, X_lshl, X_lcmp, X_ineg, X_i2l, X_l2i, X_i2b, X_i2s, X_i2c, X_dupr, X_dupi, X_dup_x1, X_dup2, X_popi, X_popr, X_iaload, X_baload, X_laload, X_aaload, X_iastore, X_bastore, X_lastore, X_aastore, X_arraylength, am_wt_0, am_wt_int, am_wt_long, am_wt_ref, List.getElem?_cons_zero, List.getElem?_cons_succ, am_s1, am_s2, am_kill, List.set_cons_zero, List.set_cons_succ, List.length_cons, List.length_nil, Int.reduceToNat, Nat.reduceAdd, Nat.reduceLeDiff, Nat.reduceLT, Option.toList_some, Option.toList_none, List.cons_append, List.nil_append, true_and, and_true, true_or, or_true, false_or, or_false, and_self, false_and, not_false_eq_true, not_true_eq_false, m7_k H, m7_r0 H, m7_r1 H, m7_r2 H, m7_r3 H, m7_r4 H, m7_r5 H, m7_r6 H, m7_r7 H, m7_r9 H, m7_r10 H, m7_r11 H, m7_r12 H, m7_r14 H, m7_r15 H, m7_r16 H, m7_r25 H, m7_r27 H, m7_r28 H, m7_r29 H, m7_r30 H, m7_r31 H, m7_r32 H, m7_a1 H, m7_n1 H, m7_a2 H, m7_n2 H, m7_a3 H, m7_n3 H, m7_a4 H, m7_n4 H, m7_a13 H, m7_n13 H, m7_a14 H, m7_n14 H, m7_a15 H, m7_n15 H, m7_a16 H, m7_n16 H, m7_a17 H, m7_n17 H, m7_a18 H, m7_n18 H, m7_a19 H, m7_n19 H, m7_a20 H, m7_n20 H, m7_a21 H, m7_n21 H, m7_a28 H, m7_n28 H, m7_a29 H, m7_n29 H, m7_a30 H, m7_n30 H, m7_a31 H, m7_n31 H, m7_a38 H, m7_n38 H, m7_a64 H, m7_n64 H, m7_a65 H, m7_n65 H, m7_a66 H, m7_n66 H, m7_a67 H, m7_n67 H, C_138, c_138i, tl_0, tl_7, h7, bI_f, if_false, rI_0, rI_1, rI_2, rI_3, rI_4, C_137, c_137m H (show 0 < 5 by decide), c_137m H (show 1 < 5 by decide), c_137m H (show 2 < 5 by decide), c_137m H (show 3 < 5 by decide), c_137m H (show 4 < 5 by decide)]
/-- noRow(s) -/
theorem c_161t (R : mR M ci cj g T) {s : Int32} (h : noRow T s = 5) : X (d + 1) 161 (am_bk 161 0) [.ref 73, .int s] [] (ci, cj, g) Q ↔ Q (some (.int 0)) (ci, cj, g) := by
  have H := mR_mo R
  have h7 := noRow_5r h
  obtain ⟨j, hj, rfl⟩ := rg_nI (n := 7) h7 (by decide)
  have a := (mR_k1 R (show j < 8 by omega) (noRow_5k (by omega) h)).1
  simp only [bk_161_0, bq_161_0, bk_161_1, bq_161_1, bk_161_2, bq_161_2, bk_161_3, bq_161_3, bk_161_4, bq_161_4, G_37, X_push, X_goto, X_fall, X_ifeq, X_ifne, X_iflt, X_ifge, X_ifgt, X_ifle, X_iceq, X_icne, X_iclt, X_icge, X_icgt, X_icle, X_ifnull, X_ifnonnull, X_switch, X_ireturn, X_lreturn, X_areturn, X_return, X_zreturn, X_iload, X_lload, X_aload, X_istore, X_astore, X_lstore, X_iinc, X_iadd, X_isub, X_imul, X_idiv, X_irem, X_iand, X_ior, X_ishl, X_ishr, X_iushr, X_ladd, X_lsub, X_lmul, X_ldiv, X_land, X_lor, X_lshl, X_lcmp, X_ineg, X_i2l, X_l2i, X_i2b, X_i2s, X_i2c, X_dupr, X_dupi, X_dup_x1, X_dup2, X_popi, X_popr, X_iaload, X_baload, X_laload, X_aaload, X_iastore, X_bastore, X_lastore, X_aastore, X_arraylength, am_wt_0, am_wt_int, am_wt_long, am_wt_ref, List.getElem?_cons_zero, List.getElem?_cons_succ, am_s1, am_s2, am_kill, List.set_cons_zero, List.set_cons_succ, List.length_cons, List.length_nil, Int.reduceToNat, Nat.reduceAdd, Nat.reduceLeDiff, Nat.reduceLT, Option.toList_some, Option.toList_none, List.cons_append, List.nil_append, true_and, and_true, true_or, or_true, false_or, or_false, and_self, false_and, not_false_eq_true, not_true_eq_false, m7_k H, m7_r0 H, m7_r1 H, m7_r2 H, m7_r3 H, m7_r4 H, m7_r5 H, m7_r6 H, m7_r7 H, m7_r9 H, m7_r10 H, m7_r11 H, m7_r12 H, m7_r14 H, m7_r15 H, m7_r16 H, m7_r25 H, m7_r27 H, m7_r28 H, m7_r29 H, m7_r30 H, m7_r31 H, m7_r32 H, m7_a1 H, m7_n1 H, m7_a2 H, m7_n2 H, m7_a3 H, m7_n3 H, m7_a4 H, m7_n4 H, m7_a13 H, m7_n13 H, m7_a14 H, m7_n14 H, m7_a15 H, m7_n15 H, m7_a16 H, m7_n16 H, m7_a17 H, m7_n17 H, m7_a18 H, m7_n18 H, m7_a19 H, m7_n19 H, m7_a20 H, m7_n20 H, m7_a21 H, m7_n21 H, m7_a28 H, m7_n28 H, m7_a29 H, m7_n29 H, m7_a30 H, m7_n30 H, m7_a31 H, m7_n31 H, m7_a38 H, m7_n38 H, m7_a64 H, m7_n64 H, m7_a65 H, m7_n65 H, m7_a66 H, m7_n66 H, m7_a67 H, m7_n67 H, C_138, c_138i, tl_0, tl_7, h7, bI_t, i10, not_false_eq_true, if_true, in_nI (show j < 8 by omega) (show 8 < 2 ^ 31 by decide), tn_nI (show j < 2 ^ 31 by omega), a, i12]
theorem c_161f (R : mR M ci cj g T) {s : Int32} (h : ¬ noRow T s = 5) : X (d + 1) 161 (am_bk 161 0) [.ref 73, .int s] [] (ci, cj, g) Q ↔ Q (some (.int (rI (noRow T s)))) (am_u2 ci 90 (noRow T s + 2) (ci 90 (noRow T s + 2) + 1), cj, g) := by
  have H := mR_mo R
  by_cases h7 : rg s 0 7 = true
  · obtain ⟨j, hj, rfl⟩ := rg_nI (n := 7) h7 (by decide)
    rcases mR_k R (show j < 8 by omega) with z | z | z
    · have a := mR_k0 R (show j < 8 by omega) z
      have e : noRow T (nI j) = 2 := by rw [noRow_2 (by omega), z]; rfl
      rw [e]
      simp only [bk_161_0, bq_161_0, bk_161_1, bq_161_1, bk_161_2, bq_161_2, bk_161_4, bq_161_4, G_37, X_push, X_goto, X_fall, X_ifeq, X_ifne, X_iflt, X_ifge, X_ifgt, X_ifle, X_iceq, X_icne, X_iclt, X_icge, X_icgt, X_icle, X_ifnull, X_ifnonnull, X_switch, X_ireturn, X_lreturn, X_areturn, X_return, X_zreturn, X_iload, X_lload, X_aload, X_istore, X_astore, X_lstore, X_iinc, X_iadd, X_isub, X_imul, X_idiv, X_irem, X_iand, X_ior, X_ishl, X_ishr, X_iushr, X_ladd, X_lsub, X_lmul, X_ldiv, X_land, X_lor, X_lshl, X_lcmp, X_ineg, X_i2l, X_l2i, X_i2b, X_i2s, X_i2c, X_dupr, X_dupi, X_dup_x1, X_dup2, X_popi, X_popr, X_iaload, X_baload, X_laload, X_aaload, X_iastore, X_bastore, X_lastore, X_aastore, X_arraylength, am_wt_0, am_wt_int, am_wt_long, am_wt_ref, List.getElem?_cons_zero, List.getElem?_cons_succ, am_s1, am_s2, am_kill, List.set_cons_zero, List.set_cons_succ, List.length_cons, List.length_nil, Int.reduceToNat, Nat.reduceAdd, Nat.reduceLeDiff, Nat.reduceLT, Option.toList_some, Option.toList_none, List.cons_append, List.nil_append, true_and, and_true, true_or, or_true, false_or, or_false, and_self, false_and, not_false_eq_true, not_true_eq_false, m7_k H, m7_r0 H, m7_r1 H, m7_r2 H, m7_r3 H, m7_r4 H, m7_r5 H, m7_r6 H, m7_r7 H, m7_r9 H, m7_r10 H, m7_r11 H, m7_r12 H, m7_r14 H, m7_r15 H, m7_r16 H, m7_r25 H, m7_r27 H, m7_r28 H, m7_r29 H, m7_r30 H, m7_r31 H, m7_r32 H, m7_a1 H, m7_n1 H, m7_a2 H, m7_n2 H, m7_a3 H, m7_n3 H, m7_a4 H, m7_n4 H, m7_a13 H, m7_n13 H, m7_a14 H, m7_n14 H, m7_a15 H, m7_n15 H, m7_a16 H, m7_n16 H, m7_a17 H, m7_n17 H, m7_a18 H, m7_n18 H, m7_a19 H, m7_n19 H, m7_a20 H, m7_n20 H, m7_a21 H, m7_n21 H, m7_a28 H, m7_n28 H, m7_a29 H, m7_n29 H, m7_a30 H, m7_n30 H, m7_a31 H, m7_n31 H, m7_a38 H, m7_n38 H, m7_a64 H, m7_n64 H, m7_a65 H, m7_n65 H, m7_a66 H, m7_n66 H, m7_a67 H, m7_n67 H, C_138, c_138i, tl_0, tl_7, h7, bI_t, i10, not_false_eq_true, if_true, if_false, in_nI (show j < 8 by omega) (show 8 < 2 ^ 31 by decide), tn_nI (show j < 2 ^ 31 by omega), a, i02, rI_0, rI_1, rI_2, rI_3, rI_4, C_137, c_137m H (show 0 < 5 by decide), c_137m H (show 1 < 5 by decide), c_137m H (show 2 < 5 by decide), c_137m H (show 3 < 5 by decide), c_137m H (show 4 < 5 by decide)]
    · exact absurd (by rw [noRow_2 (by omega), z]; rfl) h
    · have a := (mR_k2 R (show j < 8 by omega) z).1
      have e : noRow T (nI j) = 1 := by rw [noRow_2 (by omega), z]; rfl
      rw [e]
      simp only [bk_161_0, bq_161_0, bk_161_1, bq_161_1, bk_161_4, bq_161_4, G_37, X_push, X_goto, X_fall, X_ifeq, X_ifne, X_iflt, X_ifge, X_ifgt, X_ifle, X_iceq, X_icne, X_iclt, X_icge, X_icgt, X_icle, X_ifnull, X_ifnonnull, X_switch, X_ireturn, X_lreturn, X_areturn, X_return, X_zreturn, X_iload, X_lload, X_aload, X_istore, X_astore, X_lstore, X_iinc, X_iadd, X_isub, X_imul, X_idiv, X_irem, X_iand, X_ior, X_ishl, X_ishr, X_iushr, X_ladd, X_lsub, X_lmul, X_ldiv, X_land, X_lor, X_lshl, X_lcmp, X_ineg, X_i2l, X_l2i, X_i2b, X_i2s, X_i2c, X_dupr, X_dupi, X_dup_x1, X_dup2, X_popi, X_popr, X_iaload, X_baload, X_laload, X_aaload, X_iastore, X_bastore, X_lastore, X_aastore, X_arraylength, am_wt_0, am_wt_int, am_wt_long, am_wt_ref, List.getElem?_cons_zero, List.getElem?_cons_succ, am_s1, am_s2, am_kill, List.set_cons_zero, List.set_cons_succ, List.length_cons, List.length_nil, Int.reduceToNat, Nat.reduceAdd, Nat.reduceLeDiff, Nat.reduceLT, Option.toList_some, Option.toList_none, List.cons_append, List.nil_append, true_and, and_true, true_or, or_true, false_or, or_false, and_self, false_and, not_false_eq_true, not_true_eq_false, m7_k H, m7_r0 H, m7_r1 H, m7_r2 H, m7_r3 H, m7_r4 H, m7_r5 H, m7_r6 H, m7_r7 H, m7_r9 H, m7_r10 H, m7_r11 H, m7_r12 H, m7_r14 H, m7_r15 H, m7_r16 H, m7_r25 H, m7_r27 H, m7_r28 H, m7_r29 H, m7_r30 H, m7_r31 H, m7_r32 H, m7_a1 H, m7_n1 H, m7_a2 H, m7_n2 H, m7_a3 H, m7_n3 H, m7_a4 H, m7_n4 H, m7_a13 H, m7_n13 H, m7_a14 H, m7_n14 H, m7_a15 H, m7_n15 H, m7_a16 H, m7_n16 H, m7_a17 H, m7_n17 H, m7_a18 H, m7_n18 H, m7_a19 H, m7_n19 H, m7_a20 H, m7_n20 H, m7_a21 H, m7_n21 H, m7_a28 H, m7_n28 H, m7_a29 H, m7_n29 H, m7_a30 H, m7_n30 H, m7_a31 H, m7_n31 H, m7_a38 H, m7_n38 H, m7_a64 H, m7_n64 H, m7_a65 H, m7_n65 H, m7_a66 H, m7_n66 H, m7_a67 H, m7_n67 H, C_138, c_138i, tl_0, tl_7, h7, bI_t, i10, not_false_eq_true, if_true, if_false, in_nI (show j < 8 by omega) (show 8 < 2 ^ 31 by decide), tn_nI (show j < 2 ^ 31 by omega), a, rI_0, rI_1, rI_2, rI_3, rI_4, C_137, c_137m H (show 0 < 5 by decide), c_137m H (show 1 < 5 by decide), c_137m H (show 2 < 5 by decide), c_137m H (show 3 < 5 by decide), c_137m H (show 4 < 5 by decide)]
  · rw [noRow_0 h7]
    simp only [bk_161_0, bq_161_0, G_37, X_push, X_goto, X_fall, X_ifeq, X_ifne, X_iflt, X_ifge, X_ifgt, X_ifle, X_iceq, X_icne, X_iclt, X_icge, X_icgt, X_icle, X_ifnull, X_ifnonnull, X_switch, X_ireturn, X_lreturn, X_areturn, X_return, X_zreturn, X_iload, X_lload, X_aload, X_istore, X_astore, X_lstore, X_iinc, X_iadd, X_isub, X_imul, X_idiv, X_irem, X_iand, X_ior, X_ishl, X_ishr, X_iushr, X_ladd, X_lsub, X_lmul, X_ldiv, X_land, X_lor, X_lshl, X_lcmp, X_ineg, X_i2l, X_l2i, X_i2b, X_i2s, X_i2c, X_dupr, X_dupi, X_dup_x1, X_dup2, X_popi, X_popr, X_iaload, X_baload, X_laload, X_aaload, X_iastore, X_bastore, X_lastore, X_aastore, X_arraylength, am_wt_0, am_wt_int, am_wt_long, am_wt_ref, List.getElem?_cons_zero, List.getElem?_cons_succ, am_s1, am_s2, am_kill, List.set_cons_zero, List.set_cons_succ, List.length_cons, List.length_nil, Int.reduceToNat, Nat.reduceAdd, Nat.reduceLeDiff, Nat.reduceLT, Option.toList_some, Option.toList_none, List.cons_append, List.nil_append, true_and, and_true, true_or, or_true, false_or, or_false, and_self, false_and, not_false_eq_true, not_true_eq_false, m7_k H, m7_r0 H, m7_r1 H, m7_r2 H, m7_r3 H, m7_r4 H, m7_r5 H, m7_r6 H, m7_r7 H, m7_r9 H, m7_r10 H, m7_r11 H, m7_r12 H, m7_r14 H, m7_r15 H, m7_r16 H, m7_r25 H, m7_r27 H, m7_r28 H, m7_r29 H, m7_r30 H, m7_r31 H, m7_r32 H, m7_a1 H, m7_n1 H, m7_a2 H, m7_n2 H, m7_a3 H, m7_n3 H, m7_a4 H, m7_n4 H, m7_a13 H, m7_n13 H, m7_a14 H, m7_n14 H, m7_a15 H, m7_n15 H, m7_a16 H, m7_n16 H, m7_a17 H, m7_n17 H, m7_a18 H, m7_n18 H, m7_a19 H, m7_n19 H, m7_a20 H, m7_n20 H, m7_a21 H, m7_n21 H, m7_a28 H, m7_n28 H, m7_a29 H, m7_n29 H, m7_a30 H, m7_n30 H, m7_a31 H, m7_n31 H, m7_a38 H, m7_n38 H, m7_a64 H, m7_n64 H, m7_a65 H, m7_n65 H, m7_a66 H, m7_n66 H, m7_a67 H, m7_n67 H, C_138, c_138i, tl_0, tl_7, h7, bI_f, if_false, rI_0, rI_1, rI_2, rI_3, rI_4, C_137, c_137m H (show 0 < 5 by decide), c_137m H (show 1 < 5 by decide), c_137m H (show 2 < 5 by decide), c_137m H (show 3 < 5 by decide), c_137m H (show 4 < 5 by decide)]
/-- what storing into a wall's cells comes to -/
theorem mW_ubx (h : mW ci m σ) (j v : Nat) : mW (am_u2 ci (m + 18) j (nI v)) m (wBx σ (am_u1 (sBx σ) j v)) := by
  obtain ⟨a, b, c, e, f, i, q, k, l⟩ := h
  refine ⟨fun p hp => ?_, ?_, ?_, fun p hp => ?_, ?_, ?_, ?_, ?_, ?_⟩
  · show _ = nI (am_u1 (sBx σ) j v p)
    rw [u2_e, if_pos rfl]; unfold am_u1; split
    · rfl
    · exact a p hp
  · rw [u2_a _ _ (by omega)]; exact b
  · rw [u2_a _ _ (by omega)]; exact c
  · rw [u2_a _ _ (by omega)]; exact e p hp
  · rw [u2_a _ _ (by omega)]; exact f
  · rw [u2_a _ _ (by omega)]; exact i
  · rw [u2_a _ _ (by omega)]; exact q
  · rw [u2_a _ _ (by omega)]; exact k
  · rw [u2_a _ _ (by omega)]; exact l
theorem mW_ufl (h : mW ci m σ) (j v : Nat) : mW (am_u2 ci (m + 19) j (nI v)) m (wFl σ (am_u1 (sFl σ) j v)) := by
  obtain ⟨a, b, c, e, f, i, q, k, l⟩ := h
  refine ⟨?_, fun p hp => ?_, ?_, fun p hp => ?_, ?_, ?_, ?_, ?_, ?_⟩
  · rw [u2_a _ _ (by omega)]; exact a
  · show _ = nI (am_u1 (sFl σ) j v p)
    rw [u2_e, if_pos rfl]; unfold am_u1; split
    · rfl
    · exact b p hp
  · rw [u2_a _ _ (by omega)]; exact c
  · rw [u2_a _ _ (by omega)]; exact e p hp
  · rw [u2_a _ _ (by omega)]; exact f
  · rw [u2_a _ _ (by omega)]; exact i
  · rw [u2_a _ _ (by omega)]; exact q
  · rw [u2_a _ _ (by omega)]; exact k
  · rw [u2_a _ _ (by omega)]; exact l
theorem mW_ugs (h : mW ci m σ) (j v : Nat) : mW (am_u2 ci (m + 20) j (nI v)) m (wGs σ (am_u1 (sGo σ) j v)) := by
  obtain ⟨a, b, c, e, f, i, q, k, l⟩ := h
  refine ⟨?_, ?_, fun p hp => ?_, fun p hp => ?_, ?_, ?_, ?_, ?_, ?_⟩
  · rw [u2_a _ _ (by omega)]; exact a
  · rw [u2_a _ _ (by omega)]; exact b
  · show _ = nI (am_u1 (sGo σ) j v p)
    rw [u2_e, if_pos rfl]; unfold am_u1; split
    · rfl
    · exact c p hp
  · rw [u2_a _ _ (by omega)]; exact e p hp
  · rw [u2_a _ _ (by omega)]; exact f
  · rw [u2_a _ _ (by omega)]; exact i
  · rw [u2_a _ _ (by omega)]; exact q
  · rw [u2_a _ _ (by omega)]; exact k
  · rw [u2_a _ _ (by omega)]; exact l
theorem mW_uco (h : mW ci m σ) (O : wOK σ) {j : Nat} (hj : j < sCn σ) (v : Nat) : mW (am_u2 ci (m + 22 + j) 1 (nI v)) m (wCo σ (am_u1 (sCo σ) j v)) := by
  have hc := O.2.1
  obtain ⟨a, b, c, e, f, i, q, k, l⟩ := h
  refine ⟨?_, ?_, ?_, fun p hp => ?_, ?_, ?_, ?_, ?_, ?_⟩
  · rw [u2_a _ _ (by omega)]; exact a
  · rw [u2_a _ _ (by omega)]; exact b
  · rw [u2_a _ _ (by omega)]; exact c
  · obtain ⟨e1, e2, e3, e4⟩ := e p hp
    show _ ∧ _ = nI (am_u1 (sCo σ) j v p) ∧ _ ∧ _
    by_cases z : p = j
    · subst z
      rw [u2_i _ _ (by decide), u2_s, u2_i _ _ (by decide), u2_i _ _ (by decide), am_u1_s]
      exact ⟨e1, rfl, e3, e4⟩
    · rw [u2_a _ _ (by omega), am_u1_n _ _ z]
      exact ⟨e1, e2, e3, e4⟩
  · rw [u2_a _ _ (by omega)]; exact f
  · rw [u2_a _ _ (by omega)]; exact i
  · rw [u2_a _ _ (by omega)]; exact q
  · rw [u2_a _ _ (by omega)]; exact k
  · rw [u2_a _ _ (by omega)]; exact l
theorem mW_une (h : mW ci m σ) (O : wOK σ) (v : Nat) : mW (am_u2 ci (m + 28) 0 (nI v)) m (wNe σ v) := by
  have hc := O.2.1
  obtain ⟨a, b, c, e, f, i, q, k, l⟩ := h
  refine ⟨?_, ?_, ?_, fun p hp => ?_, ?_, ?_, ?_, ?_, ?_⟩
  · rw [u2_a _ _ (by omega)]; exact a
  · rw [u2_a _ _ (by omega)]; exact b
  · rw [u2_a _ _ (by omega)]; exact c
  · have hp' : p < sCn σ := hp
    rw [u2_a _ _ (by omega)]; exact e p hp
  · rw [u2_s]; rfl
  · rw [u2_i _ _ (by decide)]; exact i
  · rw [u2_a _ _ (by omega)]; exact q
  · rw [u2_a _ _ (by omega)]; exact k
  · rw [u2_a _ _ (by omega)]; exact l
theorem mW_uwa (h : mW ci m σ) (O : wOK σ) (v : Nat) : mW (am_u2 ci (m + 28) 1 (nI v)) m (wWa σ v) := by
  have hc := O.2.1
  obtain ⟨a, b, c, e, f, i, q, k, l⟩ := h
  refine ⟨?_, ?_, ?_, fun p hp => ?_, ?_, ?_, ?_, ?_, ?_⟩
  · rw [u2_a _ _ (by omega)]; exact a
  · rw [u2_a _ _ (by omega)]; exact b
  · rw [u2_a _ _ (by omega)]; exact c
  · have hp' : p < sCn σ := hp
    rw [u2_a _ _ (by omega)]; exact e p hp
  · rw [u2_i _ _ (by decide)]; exact f
  · rw [u2_s]; rfl
  · rw [u2_a _ _ (by omega)]; exact q
  · rw [u2_a _ _ (by omega)]; exact k
  · rw [u2_a _ _ (by omega)]; exact l
theorem mW_uda (h : mW ci m σ) (O : wOK σ) {j : Nat} (hj : j < 6) (v : Int32) : mW (am_u2 ci (m + 29) j (ci (m + 29) j + v)) m (wDy σ j v) := by
  have hc := O.2.1
  obtain ⟨a, b, c, e, f, i, q, k, l⟩ := h
  refine ⟨?_, ?_, ?_, fun p hp => ?_, ?_, ?_, fun p hp => ?_, ?_, ?_⟩
  · rw [u2_a _ _ (by omega)]; exact a
  · rw [u2_a _ _ (by omega)]; exact b
  · rw [u2_a _ _ (by omega)]; exact c
  · have hp' : p < sCn σ := hp
    rw [u2_a _ _ (by omega)]; exact e p hp
  · rw [u2_a _ _ (by omega)]; exact f
  · rw [u2_a _ _ (by omega)]; exact i
  · show _ = am_u1 (sDa σ) j (sDa σ j + v) p
    rw [u2_e, if_pos rfl, q j hj]; unfold am_u1; split
    · rfl
    · exact q p hp
  · rw [u2_a _ _ (by omega)]; exact k
  · rw [u2_a _ _ (by omega)]; exact l
theorem mW_use (h : mW ci m σ) (v : Int32) : mW (am_u2 ci m 17 v) m (wSe σ v) := by
  obtain ⟨a, b, c, e, f, i, q, k, l⟩ := h
  refine ⟨?_, ?_, ?_, fun p hp => ?_, ?_, ?_, ?_, ?_, ?_⟩
  · rw [u2_a _ _ (by omega)]; exact a
  · rw [u2_a _ _ (by omega)]; exact b
  · rw [u2_a _ _ (by omega)]; exact c
  · rw [u2_a _ _ (by omega)]; exact e p hp
  · rw [u2_a _ _ (by omega)]; exact f
  · rw [u2_a _ _ (by omega)]; exact i
  · rw [u2_a _ _ (by omega)]; exact q
  · rw [u2_i _ _ (by decide)]; exact k
  · rw [u2_s]; rfl
end MT
