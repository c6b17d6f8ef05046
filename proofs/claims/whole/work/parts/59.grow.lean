/-! GROWTH: layouts over a heap that has grown (head printed by wip/whole/gen59.py) -/
theorem wo_g {g g' : am_G} {w : Nat} (h1 : ∀ a, w ≤ a → a < w + 9 → g'.2.1 a = g.2.1 a) (h2 : ∀ a i, w ≤ a → a < w + 9 → gr g' a i = gr g a i) (H : wo g w) : wo g' w := by
  have k1 : ∀ a, w ≤ a → a < w + 9 → gk g' a = gk g a := fun a x y => by unfold gk; rw [h1 a x y]
  have k2 : ∀ a, w ≤ a → a < w + 9 → gn g' a = gn g a := fun a x y => by unfold gn; rw [h1 a x y]
  exact ⟨(k1 (w) (by omega) (by omega)).trans (wo_k H), (h2 (w) 0 (by omega) (by omega)).trans (wo_r0 H), (h2 (w) 1 (by omega) (by omega)).trans (wo_r1 H), (h2 (w) 2 (by omega) (by omega)).trans (wo_r2 H), (h2 (w) 3 (by omega) (by omega)).trans (wo_r3 H), (h2 (w) 4 (by omega) (by omega)).trans (wo_r4 H), (h2 (w) 5 (by omega) (by omega)).trans (wo_r5 H), (h2 (w) 6 (by omega) (by omega)).trans (wo_r6 H), (h2 (w) 7 (by omega) (by omega)).trans (wo_r7 H), (k1 (w + 1) (by omega) (by omega)).trans (wo_a1 H), (k2 (w + 1) (by omega) (by omega)).trans (wo_n1 H), (k1 (w + 2) (by omega) (by omega)).trans (wo_a2 H), (k2 (w + 2) (by omega) (by omega)).trans (wo_n2 H), (k1 (w + 3) (by omega) (by omega)).trans (wo_a3 H), (k2 (w + 3) (by omega) (by omega)).trans (wo_n3 H), (k1 (w + 4) (by omega) (by omega)).trans (wo_a4 H), (k2 (w + 4) (by omega) (by omega)).trans (wo_n4 H), (k1 (w + 5) (by omega) (by omega)).trans (wo_a5 H), (k2 (w + 5) (by omega) (by omega)).trans (wo_n5 H), (k1 (w + 6) (by omega) (by omega)).trans (wo_a6 H), (k2 (w + 6) (by omega) (by omega)).trans (wo_n6 H), (k1 (w + 7) (by omega) (by omega)).trans (wo_a7 H), (k2 (w + 7) (by omega) (by omega)).trans (wo_n7 H), (k1 (w + 8) (by omega) (by omega)).trans (wo_a8 H), (k2 (w + 8) (by omega) (by omega)).trans (wo_n8 H)⟩
theorem ho_g {g g' : am_G} (h1 : ∀ a, 60 ≤ a → a < 69 → g'.2.1 a = g.2.1 a) (h2 : ∀ a i, 60 ≤ a → a < 69 → gr g' a i = gr g a i) (H : ho g) : ho g' := by
  have k1 : ∀ a, 60 ≤ a → a < 69 → gk g' a = gk g a := fun a x y => by unfold gk; rw [h1 a x y]
  have k2 : ∀ a, 60 ≤ a → a < 69 → gn g' a = gn g a := fun a x y => by unfold gn; rw [h1 a x y]
  exact ⟨(k1 (60) (by omega) (by omega)).trans (ho_k H), (h2 (60) 0 (by omega) (by omega)).trans (ho_r0 H), (h2 (60) 1 (by omega) (by omega)).trans (ho_r1 H), (h2 (60) 2 (by omega) (by omega)).trans (ho_r2 H), (h2 (60) 3 (by omega) (by omega)).trans (ho_r3 H), (h2 (60) 4 (by omega) (by omega)).trans (ho_r4 H), (h2 (60) 6 (by omega) (by omega)).trans (ho_r6 H), (h2 (60) 7 (by omega) (by omega)).trans (ho_r7 H), (h2 (60) 8 (by omega) (by omega)).trans (ho_r8 H), (k1 (61) (by omega) (by omega)).trans (ho_a1 H), (k2 (61) (by omega) (by omega)).trans (ho_n1 H), (k1 (62) (by omega) (by omega)).trans (ho_a2 H), (k2 (62) (by omega) (by omega)).trans (ho_n2 H), (k1 (63) (by omega) (by omega)).trans (ho_a3 H), (k2 (63) (by omega) (by omega)).trans (ho_n3 H), (k1 (64) (by omega) (by omega)).trans (ho_a4 H), (k2 (64) (by omega) (by omega)).trans (ho_n4 H), (k1 (65) (by omega) (by omega)).trans (ho_a5 H), (k2 (65) (by omega) (by omega)).trans (ho_n5 H), (k1 (66) (by omega) (by omega)).trans (ho_a6 H), (k2 (66) (by omega) (by omega)).trans (ho_n6 H), (k1 (67) (by omega) (by omega)).trans (ho_a7 H), (k2 (67) (by omega) (by omega)).trans (ho_n7 H), (k1 (68) (by omega) (by omega)).trans (ho_a8 H), (k2 (68) (by omega) (by omega)).trans (ho_n8 H)⟩
theorem ta_g {g g' : am_G} (h1 : ∀ a, 69 ≤ a → a < 71 → g'.2.1 a = g.2.1 a) (h2 : ∀ a i, 69 ≤ a → a < 71 → gr g' a i = gr g a i) (H : ta g) : ta g' := by
  have k1 : ∀ a, 69 ≤ a → a < 71 → gk g' a = gk g a := fun a x y => by unfold gk; rw [h1 a x y]
  have k2 : ∀ a, 69 ≤ a → a < 71 → gn g' a = gn g a := fun a x y => by unfold gn; rw [h1 a x y]
  exact ⟨(k1 (69) (by omega) (by omega)).trans (ta_k H), (h2 (69) 1 (by omega) (by omega)).trans (ta_r1 H), (k1 (70) (by omega) (by omega)).trans (ta_a1 H), (k2 (70) (by omega) (by omega)).trans (ta_n1 H)⟩
theorem mo_g {g g' : am_G} {m : Nat} (h1 : ∀ a, m ≤ a → a < m + 68 → g'.2.1 a = g.2.1 a) (h2 : ∀ a i, m ≤ a → a < m + 68 → ¬ (a = m ∧ (i = 18 ∨ i = 19)) → gr g' a i = gr g a i) (H : mo g m) : mo g' m := by
  have k1 : ∀ a, m ≤ a → a < m + 68 → gk g' a = gk g a := fun a x y => by unfold gk; rw [h1 a x y]
  have k2 : ∀ a, m ≤ a → a < m + 68 → gn g' a = gn g a := fun a x y => by unfold gn; rw [h1 a x y]
  exact ⟨(k1 (m) (by omega) (by omega)).trans (mo_k H), (h2 (m) 0 (by omega) (by omega) (by omega)).trans (mo_r0 H), (h2 (m) 1 (by omega) (by omega) (by omega)).trans (mo_r1 H), (h2 (m) 2 (by omega) (by omega) (by omega)).trans (mo_r2 H), (h2 (m) 3 (by omega) (by omega) (by omega)).trans (mo_r3 H), (h2 (m) 4 (by omega) (by omega) (by omega)).trans (mo_r4 H), (h2 (m) 5 (by omega) (by omega) (by omega)).trans (mo_r5 H), (h2 (m) 6 (by omega) (by omega) (by omega)).trans (mo_r6 H), (h2 (m) 7 (by omega) (by omega) (by omega)).trans (mo_r7 H), (h2 (m) 9 (by omega) (by omega) (by omega)).trans (mo_r9 H), (h2 (m) 10 (by omega) (by omega) (by omega)).trans (mo_r10 H), (h2 (m) 11 (by omega) (by omega) (by omega)).trans (mo_r11 H), (h2 (m) 12 (by omega) (by omega) (by omega)).trans (mo_r12 H), (h2 (m) 14 (by omega) (by omega) (by omega)).trans (mo_r14 H), (h2 (m) 15 (by omega) (by omega) (by omega)).trans (mo_r15 H), (h2 (m) 16 (by omega) (by omega) (by omega)).trans (mo_r16 H), (h2 (m) 25 (by omega) (by omega) (by omega)).trans (mo_r25 H), (h2 (m) 27 (by omega) (by omega) (by omega)).trans (mo_r27 H), (h2 (m) 28 (by omega) (by omega) (by omega)).trans (mo_r28 H), (h2 (m) 29 (by omega) (by omega) (by omega)).trans (mo_r29 H), (h2 (m) 30 (by omega) (by omega) (by omega)).trans (mo_r30 H), (h2 (m) 31 (by omega) (by omega) (by omega)).trans (mo_r31 H), (h2 (m) 32 (by omega) (by omega) (by omega)).trans (mo_r32 H), (k1 (m + 1) (by omega) (by omega)).trans (mo_a1 H), (k2 (m + 1) (by omega) (by omega)).trans (mo_n1 H), (k1 (m + 2) (by omega) (by omega)).trans (mo_a2 H), (k2 (m + 2) (by omega) (by omega)).trans (mo_n2 H), (k1 (m + 3) (by omega) (by omega)).trans (mo_a3 H), (k2 (m + 3) (by omega) (by omega)).trans (mo_n3 H), (k1 (m + 4) (by omega) (by omega)).trans (mo_a4 H), (k2 (m + 4) (by omega) (by omega)).trans (mo_n4 H), fun i hi => (h2 (m + 4) i (by omega) (by omega) (by omega)).trans (mo_s4 H i hi), fun i hi => (k1 (m + 5 + i) (by omega) (by omega)).trans (mo_t4 H i hi), fun i hi => (k2 (m + 5 + i) (by omega) (by omega)).trans (mo_u4 H i hi), (k1 (m + 13) (by omega) (by omega)).trans (mo_a13 H), (k2 (m + 13) (by omega) (by omega)).trans (mo_n13 H), (k1 (m + 14) (by omega) (by omega)).trans (mo_a14 H), (k2 (m + 14) (by omega) (by omega)).trans (mo_n14 H), (k1 (m + 15) (by omega) (by omega)).trans (mo_a15 H), (k2 (m + 15) (by omega) (by omega)).trans (mo_n15 H), (k1 (m + 16) (by omega) (by omega)).trans (mo_a16 H), (k2 (m + 16) (by omega) (by omega)).trans (mo_n16 H), (k1 (m + 17) (by omega) (by omega)).trans (mo_a17 H), (k2 (m + 17) (by omega) (by omega)).trans (mo_n17 H), (k1 (m + 18) (by omega) (by omega)).trans (mo_a18 H), (k2 (m + 18) (by omega) (by omega)).trans (mo_n18 H), (k1 (m + 19) (by omega) (by omega)).trans (mo_a19 H), (k2 (m + 19) (by omega) (by omega)).trans (mo_n19 H), (k1 (m + 20) (by omega) (by omega)).trans (mo_a20 H), (k2 (m + 20) (by omega) (by omega)).trans (mo_n20 H), (k1 (m + 21) (by omega) (by omega)).trans (mo_a21 H), (k2 (m + 21) (by omega) (by omega)).trans (mo_n21 H), fun i hi => (h2 (m + 21) i (by omega) (by omega) (by omega)).trans (mo_s21 H i hi), fun i hi => (k1 (m + 22 + i) (by omega) (by omega)).trans (mo_t21 H i hi), fun i hi => (k2 (m + 22 + i) (by omega) (by omega)).trans (mo_u21 H i hi), (k1 (m + 28) (by omega) (by omega)).trans (mo_a28 H), (k2 (m + 28) (by omega) (by omega)).trans (mo_n28 H), (k1 (m + 29) (by omega) (by omega)).trans (mo_a29 H), (k2 (m + 29) (by omega) (by omega)).trans (mo_n29 H), (k1 (m + 30) (by omega) (by omega)).trans (mo_a30 H), (k2 (m + 30) (by omega) (by omega)).trans (mo_n30 H), (k1 (m + 31) (by omega) (by omega)).trans (mo_a31 H), (k2 (m + 31) (by omega) (by omega)).trans (mo_n31 H), fun i hi => (h2 (m + 31) i (by omega) (by omega) (by omega)).trans (mo_s31 H i hi), fun i hi => (k1 (m + 32 + i) (by omega) (by omega)).trans (mo_t31 H i hi), fun i hi => (k2 (m + 32 + i) (by omega) (by omega)).trans (mo_u31 H i hi), (k1 (m + 38) (by omega) (by omega)).trans (mo_a38 H), (k2 (m + 38) (by omega) (by omega)).trans (mo_n38 H), fun i hi => (h2 (m + 38) i (by omega) (by omega) (by omega)).trans (mo_s38 H i hi), fun i hi => (k1 (m + 39 + i) (by omega) (by omega)).trans (mo_t38 H i hi), fun i hi => (k2 (m + 39 + i) (by omega) (by omega)).trans (mo_u38 H i hi), (k1 (m + 64) (by omega) (by omega)).trans (mo_a64 H), (k2 (m + 64) (by omega) (by omega)).trans (mo_n64 H), (k1 (m + 65) (by omega) (by omega)).trans (mo_a65 H), (k2 (m + 65) (by omega) (by omega)).trans (mo_n65 H), (k1 (m + 66) (by omega) (by omega)).trans (mo_a66 H), (k2 (m + 66) (by omega) (by omega)).trans (mo_n66 H), (k1 (m + 67) (by omega) (by omega)).trans (mo_a67 H), (k2 (m + 67) (by omega) (by omega)).trans (mo_n67 H)⟩
theorem to_g {g g' : am_G} (h1 : ∀ a, 32 ≤ a → a < 73 → g'.2.1 a = g.2.1 a) (h2 : ∀ a i, 32 ≤ a → a < 73 → ¬ (a = 71) → gr g' a i = gr g a i) (H : to g) : to g' := by
  have k1 : ∀ a, 32 ≤ a → a < 73 → gk g' a = gk g a := fun a x y => by unfold gk; rw [h1 a x y]
  have k2 : ∀ a, 32 ≤ a → a < 73 → gn g' a = gn g a := fun a x y => by unfold gn; rw [h1 a x y]
  exact ⟨(k1 32 (by omega) (by omega)).trans (to_k H), (h2 32 0 (by omega) (by omega) (by omega)).trans (to_r0 H), (h2 32 1 (by omega) (by omega) (by omega)).trans (to_r1 H), (h2 32 2 (by omega) (by omega) (by omega)).trans (to_r2 H), (h2 32 3 (by omega) (by omega) (by omega)).trans (to_r3 H), (h2 32 4 (by omega) (by omega) (by omega)).trans (to_r4 H), (h2 32 5 (by omega) (by omega) (by omega)).trans (to_r5 H), (h2 32 6 (by omega) (by omega) (by omega)).trans (to_r6 H), (k1 71 (by omega) (by omega)).trans (to_a5 H), (k2 71 (by omega) (by omega)).trans (to_n5 H), (k1 72 (by omega) (by omega)).trans (to_a6 H), (k2 72 (by omega) (by omega)).trans (to_n6 H)⟩
theorem so_g {g g' : am_G} (h1 : ∀ a, a < 32 → g'.2.1 a = g.2.1 a) (h2 : ∀ a i, a < 32 → gr g' a i = gr g a i) (H : so g) : so g' := by
  have k1 : ∀ a, a < 32 → gk g' a = gk g a := fun a x => by unfold gk; rw [h1 a x]
  have k2 : ∀ a, a < 32 → gn g' a = gn g a := fun a x => by unfold gn; rw [h1 a x]
  obtain ⟨a, b, c, e, f, i⟩ := H
  exact ⟨(k1 1 (by decide)).trans a, (k2 1 (by decide)).trans b, fun j hj => (k1 _ (by omega)).trans (c j hj), fun j hj => (h2 _ _ (by omega)).trans (e j hj), fun j hj => (k1 _ (by omega)).trans (f j hj), fun j hj => (k2 _ (by omega)).trans (i j hj)⟩
/-- a heap has grown: whose cells are one's own, what of the others stays, how much was made -/
def gx (F : Nat → Prop) (g : am_G) (F' : Nat → Prop) (g' : am_G) : Prop := (∀ a, F a → F' a) ∧ (∀ a, F' a → F a ∨ (g.2.2.1 + 32 ≤ a ∧ a < g'.2.2.1 + 32)) ∧ (∀ a, ¬ F' a → (∀ i, gr g' a i = gr g a i) ∧ g'.2.1 a = g.2.1 a) ∧ g.2.2.1 ≤ g'.2.2.1 ∧ g'.2.2.1 ≤ g.2.2.1 + 100 ∧ g'.2.2.2 ≤ g.2.2.2 + 20000
theorem gx_rfl (F : Nat → Prop) (g : am_G) : gx F g F g := ⟨fun _ h => h, fun _ h => Or.inl h, fun _ _ => ⟨fun _ => rfl, rfl⟩, Nat.le_refl _, by omega, by omega⟩
/-- what a call leaves, cells made by it included -/
def Kx (F : Nat → Prop) (ci : Nat → Nat → Int32) (cj : Nat → Nat → Int64) (g : am_G) (T : tS) (v : Value) (Q : Option Value → am_H → Prop) : Prop := ∀ F' ci' cj' g', cR F' ci' cj' g' T → gx F g F' g' → frm F' ci cj ci' cj' → Q (some v) (ci', cj', g')
theorem kx_kn {F : Nat → Prop} {ci : Nat → Nat → Int32} {cj : Nat → Nat → Int64} {g : am_G} {T : tS} {v : Value} {Q : Option Value → am_H → Prop} (k : Kx F ci cj g T v Q) : Kn F ci cj g T v Q := fun ci' cj' R f => k F ci' cj' g R (gx_rfl F g) f
/-- room for one call -/
def rm (F : Nat → Prop) (g : am_G) : Prop := (∀ a, F a → 32 ≤ a ∧ a < g.2.2.1 + 32) ∧ 41 ≤ g.2.2.1 ∧ g.2.2.1 ≤ 500000 ∧ g.2.2.2 ≤ 7000000
theorem cL_g {F F' : Nat → Prop} {g g' : am_G} (h1 : ∀ a, (F a ∨ a < 32) → g'.2.1 a = g.2.1 a) (h2 : ∀ a i, (F a ∨ a < 32) → a ≠ 71 → gr g' a i = gr g a i) (h3 : ∀ a, F a → F' a) (L : cL F g) : cL F' g' := by
  obtain ⟨a, b, c, e, f, i, j, hF⟩ := L
  refine ⟨so_g (fun x h => h1 x (Or.inr h)) (fun x y h => h2 x y (Or.inr h) (by omega)) a, to_g (fun x p q => h1 x (Or.inl (hF x p q))) (fun x y p q r => h2 x y (Or.inl (hF x p q)) r) b, wo_g (fun x p q => h1 x (Or.inl (hF x (by omega) (by omega)))) (fun x y p q => h2 x y (Or.inl (hF x (by omega) (by omega))) (by omega)) c, wo_g (fun x p q => h1 x (Or.inl (hF x (by omega) (by omega)))) (fun x y p q => h2 x y (Or.inl (hF x (by omega) (by omega))) (by omega)) e, wo_g (fun x p q => h1 x (Or.inl (hF x (by omega) (by omega)))) (fun x y p q => h2 x y (Or.inl (hF x (by omega) (by omega))) (by omega)) f, ho_g (fun x p q => h1 x (Or.inl (hF x (by omega) (by omega)))) (fun x y p q => h2 x y (Or.inl (hF x (by omega) (by omega))) (by omega)) i, ta_g (fun x p q => h1 x (Or.inl (hF x (by omega) (by omega)))) (fun x y p q => h2 x y (Or.inl (hF x (by omega) (by omega))) (by omega)) j, fun x p q => h3 x (hF x p q)⟩
/-- a shelf whose cells have stayed -/
theorem cS_g {F F' : Nat → Prop} {ci ci' : Nat → Nat → Int32} {cj cj' : Nat → Nat → Int64} {g g' : am_G} {S S' : shS} {s : Nat} (h1 : ∀ a, F a → g'.2.1 a = g.2.1 a) (h2 : ∀ a i, F a → a ≠ 71 → gr g' a i = gr g a i) (h3 : ∀ a, F a → F' a) (h4 : ∀ a, F a → 73 ≤ a → ci' a = ci a ∧ cj' a = cj a) (h5 : gr g' 71 s = gr g 71 s) (e : hK S' s = hK S s ∧ rS S' s = rS S s ∧ rN S' s = rN S s ∧ rE S' s = rE S s ∧ uK S' s = uK S s ∧ uA S' s = uA S s) (h : cS F ci cj g S s) : cS F' ci' cj' g' S' s := by
  obtain ⟨e1, e2, e3, e4, e5, e6⟩ := e
  have k1 : ∀ a, F a → gk g' a = gk g a := fun a x => by unfold gk; rw [h1 a x]
  have k2 : ∀ a, F a → gn g' a = gn g a := fun a x => by unfold gn; rw [h1 a x]
  unfold cS
  rw [e1, e2, e3, e4, e5, e6, h5]
  rcases h with ⟨a, b⟩ | ⟨a, b, c, e, f, i, j, k, l, m⟩ | ⟨a, b, c, e⟩
  · exact Or.inl ⟨a, b⟩
  · have q := h2 (gr g 71 s) 1 c (by omega)
    rw [q]
    refine Or.inr (Or.inl ⟨a, by rw [k1 _ c]; exact b, h3 _ c, e, by rw [(h4 _ c e).1]; exact f, h3 _ i, j, by rw [k1 _ i]; exact k, by rw [k2 _ i]; exact l, by rw [(h4 _ i j).2]; exact m⟩)
  · refine Or.inr (Or.inr ⟨a, h3 _ b, c, ?_⟩)
    unfold rR
    rw [(h4 _ b c).1, k1 _ b]
    exact e
theorem cD_g {ci ci' : Nat → Nat → Int32} {T T' : tS} (h : ∀ a, a < 73 → ci' a = ci a) (e : tW T' = tW T ∧ tI T' = tI T ∧ tK T' = tK T ∧ tL T' = tL T ∧ tB T' = tB T ∧ tR T' = tR T) (D : cD ci T) : cD ci' T' := by
  obtain ⟨e1, e2, e3, e4, e5, e6⟩ := e
  obtain ⟨d1, d2, d3, d4, d5, d6, d7⟩ := D
  unfold cD
  rw [e1, e2, e3, e4, e5, e6, h 32 (by decide), h 69 (by decide), h 70 (by decide), h 72 (by decide)]
  exact ⟨sc_fr d1 (fun a ha => h a (by omega)), wR_fr (fun x a b => h x (by omega)) d2, fun z => wR_fr (fun x a b => h x (by omega)) (d3 z), d4, d5, d6, d7⟩
/-- one's own state over a heap that others have changed -/
theorem cR_g {F F' : Nat → Prop} {ci ci' : Nat → Nat → Int32} {cj cj' : Nat → Nat → Int64} {g g' : am_G} {T : tS} (h1 : ∀ a, (F a ∨ a < 32) → g'.2.1 a = g.2.1 a) (h2 : ∀ a i, (F a ∨ a < 32) → gr g' a i = gr g a i) (h4 : ∀ a, (F a ∨ a < 32) → ci' a = ci a ∧ cj' a = cj a) (h3 : ∀ a, F a → F' a) (R : cR F ci cj g T) : cR F' ci' cj' g' T := by
  obtain ⟨L, D, C, E, P⟩ := R
  have hF := L.2.2.2.2.2.2.2
  refine ⟨cL_g h1 (fun a i h _ => h2 a i h) h3 L, cD_g (fun a ha => ?_) ⟨rfl, rfl, rfl, rfl, rfl, rfl⟩ D, fun s hs => cS_g (fun a h => h1 a (Or.inl h)) (fun a i h _ => h2 a i (Or.inl h)) h3 (fun a h _ => h4 a (Or.inl h)) (h2 71 s (Or.inl (hF 71 (by decide) (by decide)))) ⟨rfl, rfl, rfl, rfl, rfl, rfl⟩ (C s hs), ?_, P⟩
  · rcases Nat.lt_or_ge a 32 with z | z
    · exact (h4 a (Or.inr z)).1
    · exact (h4 a (Or.inl (hF a z ha))).1
  · intro s hs t ht hst a b
    have q1 := h2 71 s (Or.inl (hF 71 (by decide) (by decide)))
    have q2 := h2 71 t (Or.inl (hF 71 (by decide) (by decide)))
    have f1 : F (gr g 71 s) := by
      rcases C s hs with ⟨x, -⟩ | ⟨_, _, x, -⟩ | ⟨x, -⟩
      · omega
      · exact x
      · omega
    have f2 : F (gr g 71 t) := by
      rcases C t ht with ⟨x, -⟩ | ⟨_, _, x, -⟩ | ⟨x, -⟩
      · omega
      · exact x
      · omega
    rw [q1, q2, h2 _ 1 (Or.inl f1), h2 _ 1 (Or.inl f2)]
    exact E s hs t ht hst a b
/-- a row is made -/
def q_row (T : tS) (s of n : Int32) : Int32 × tS := if rg s 0 7 = true ∧ rg of 0 4 = true ∧ rg n 0 40 = true then (1, stH T (am_u1 (hK (tH T)) s.toNatClampNeg 1, am_u1 (rS (tH T)) s.toNatClampNeg of.toNatClampNeg, am_u1 (rN (tH T)) s.toNatClampNeg n.toNatClampNeg, am_u1 (rE (tH T)) s.toNatClampNeg (fun _ => 0), uK (tH T), uA (tH T))) else (rI 0, rfT T 0)
def q_rule (T : tS) (s κ a : Int32) : Int32 × tS := if rg s 0 7 = true ∧ rg κ 1 6 = true ∧ rg a 0 99 = true then (1, stH T (am_u1 (hK (tH T)) s.toNatClampNeg 2, rS (tH T), rN (tH T), rE (tH T), am_u1 (uK (tH T)) s.toNatClampNeg κ.toNatClampNeg, am_u1 (uA (tH T)) s.toNatClampNeg a.toNatClampNeg)) else (rI 0, rfT T 0)
/-- which number of boxes kept brings the most -/
def kpF (σ : wS) (n : Nat) : Nat → Nat × Int
  | 0 => (0, 0)
  | a + 1 => if a = 0 ∨ (kpF σ n a).2 < vst σ 2 a n then (a, vst σ 2 a n) else kpF σ n a
def q_keep (T : tS) (n : Int32) : Int32 × tS := if rg n 0 24 = true then (nI (kpF (tW T) n.toNatClampNeg 5).1, T) else (rI 0, rfT T 0)

