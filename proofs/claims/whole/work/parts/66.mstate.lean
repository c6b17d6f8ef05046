/-! THE MODEL: its state -/
def mOwn (M : Nat → Prop) (g : am_G) (a : Nat) : Prop := 141 ≤ a ∧ mo g a ∧ ∀ x, a ≤ x → x < a + 68 → M x
def mS (ci : Nat → Nat → Int32) (cj : Nat → Nat → Int64) (S : shS) (s : Nat) : Prop := ci 74 s = nI (hK S s) ∧ (hK S s = 1 → ci 75 s = nI (rS S s) ∧ ci 76 s = nI (rN S s) ∧ ∀ i, i < rN S s → cj (78 + s) i = rE S s i) ∧ (hK S s = 2 → ci 87 s = nI (uK S s) ∧ ci 88 s = nI (uA S s))
def mD (ci : Nat → Nat → Int32) (cj : Nat → Nat → Int64) (T : tS) : Prop := sc ci ∧ mW ci 73 (tW T) ∧ ci 73 8 = nI (tL T) ∧ (∀ i, i < tL T → ci 89 i = nI (tB T i)) ∧ (∀ i, i < 5 → ci 90 (i + 2) = tR T i) ∧ (∀ s, s < 8 → mS ci cj (tH T) s)
def mKp (M : Nat → Prop) (ci : Nat → Nat → Int32) (g : am_G) (T : tS) : Prop := (tI T = false ∧ gr g 73 18 = 0) ∨ (tI T = true ∧ mOwn M g (gr g 73 18) ∧ mW ci (gr g 73 18) (tK T))
def mTr (M : Nat → Prop) (g : am_G) : Prop := gr g 73 19 = 0 ∨ mOwn M g (gr g 73 19)
def mAp (g : am_G) : Prop := gr g 73 18 = 0 ∨ gr g 73 19 = 0 ∨ gr g 73 18 + 68 ≤ gr g 73 19 ∨ gr g 73 19 + 68 ≤ gr g 73 18
def mR (M : Nat → Prop) (ci : Nat → Nat → Int32) (cj : Nat → Nat → Int64) (g : am_G) (T : tS) : Prop := (so g ∧ mo g 73 ∧ ∀ a, 73 ≤ a → a < 141 → M a) ∧ mD ci cj T ∧ mKp M ci g T ∧ mTr M g ∧ mAp g ∧ tOK T
section MSTATE
variable {M : Nat → Prop} {ci ci' : Nat → Nat → Int32} {cj cj' : Nat → Nat → Int64} {g : am_G} {T : tS}
theorem mR_so (R : mR M ci cj g T) : so g := R.1.1
theorem mR_mo (R : mR M ci cj g T) : mo g 73 := R.1.2.1
theorem mR_M (R : mR M ci cj g T) : ∀ a, 73 ≤ a → a < 141 → M a := R.1.2.2
theorem mR_sc (R : mR M ci cj g T) : sc ci := R.2.1.1
theorem mR_w (R : mR M ci cj g T) : mW ci 73 (tW T) := R.2.1.2.1
theorem mR_O (R : mR M ci cj g T) : wOK (tW T) := R.2.2.2.2.2.1
theorem mR_s (R : mR M ci cj g T) {s : Nat} (hs : s < 8) : mS ci cj (tH T) s := R.2.1.2.2.2.2.2 s hs
theorem mR_hK (R : mR M ci cj g T) {s : Nat} (hs : s < 8) : ci 74 s = nI (hK (tH T) s) ∧ hK (tH T) s ≤ 2 := ⟨(mR_s R hs).1, (R.2.2.2.2.2.2.2.2.2 s hs).1⟩
/-- a cell of the model for trials -/
def inT (g : am_G) (x : Nat) : Prop := gr g 73 19 ≠ 0 ∧ gr g 73 19 ≤ x ∧ x < gr g 73 19 + 68
theorem frm_m (R : mR M ci cj g T) (h1 : ∀ x, (x < 73 ∨ 140 < x) → ¬ inT g x → ci' x = ci x) (h3 : ∀ x, (x < 73 ∨ 140 < x) → ¬ inT g x → cj' x = cj x) : frm M ci cj ci' cj' := by
  intro a h
  have a1 : a < 73 ∨ 140 < a := by
    rcases Nat.lt_or_ge a 73 with z | z
    · exact Or.inl z
    · rcases Nat.lt_or_ge a 141 with y | y
      · exact absurd (mR_M R a z y) h
      · exact Or.inr y
  have a2 : ¬ inT g a := fun z => by
    rcases R.2.2.2.1 with q | q
    · exact z.1 q
    · exact h (q.2.2 a z.2.1 z.2.2)
  exact ⟨h1 a a1 a2, h3 a a1 a2⟩
/-- the cells that the state doesn't speak of -/
theorem mR_scr (R : mR M ci cj g T) (h1 : ∀ x, x ≠ 73 → x ≠ 103 → ¬ (105 ≤ x ∧ x ≤ 110) → ¬ (138 ≤ x ∧ x ≤ 140) → ¬ inT g x → ci' x = ci x) (h2 : ci' 73 8 = ci 73 8 ∧ ci' 73 13 = ci 73 13 ∧ ci' 73 17 = ci 73 17) (h3 : ∀ x, x ≠ 73 → x ≠ 86 → ¬ (112 ≤ x ∧ x ≤ 137) → ¬ inT g x → cj' x = cj x) : mR M ci' cj' g T ∧ frm M ci cj ci' cj' := by
  have O := mR_O R
  refine ⟨?_, frm_m R (fun x a b => h1 x (by omega) (by omega) (by omega) (by omega) b) (fun x a b => h3 x (by omega) (by omega) (by omega) b)⟩
  obtain ⟨L, ⟨d1, d2, d3, d4, d5, d6⟩, K, Tr, A, P⟩ := R
  have nt : ∀ x, x < 141 → ¬ inT g x := fun x hx z => by
    rcases Tr with q | q
    · exact z.1 q
    · have := q.1; have := z.2.1; omega
  have i1 : ∀ x, x ≠ 73 → x ≠ 103 → ¬ (105 ≤ x ∧ x ≤ 110) → x < 138 → ci' x = ci x := fun x a b c e => h1 x a b c (by omega) (nt x (by omega))
  refine ⟨L, ⟨sc_fr d1 (fun a ha => i1 a (by omega) (by omega) (by omega) (by omega)), mW_fr O (fun x a b => i1 x (by omega) (by omega) (by omega) (by omega)) h2.2.1 h2.2.2 d2, ?_, ?_, ?_, ?_⟩, ?_, Tr, A, P⟩
  · rw [h2.1]; exact d3
  · rw [i1 89 (by decide) (by decide) (by decide) (by decide)]; exact d4
  · rw [i1 90 (by decide) (by decide) (by decide) (by decide)]; exact d5
  · intro s hs
    unfold mS
    rw [i1 74 (by decide) (by decide) (by decide) (by decide), i1 75 (by decide) (by decide) (by decide) (by decide), i1 76 (by decide) (by decide) (by decide) (by decide), i1 87 (by decide) (by decide) (by decide) (by decide), i1 88 (by decide) (by decide) (by decide) (by decide), h3 (78 + s) (by omega) (by omega) (by omega) (nt _ (by omega))]
    exact d6 s hs
  · rcases K with k | ⟨k1, k2, k3⟩
    · exact Or.inl k
    · have nk : ∀ x, gr g 73 18 ≤ x → x < gr g 73 18 + 68 → ci' x = ci x := fun x a b => h1 x (by have := k2.1; omega) (by have := k2.1; omega) (by have := k2.1; omega) (by have := k2.1; omega) (fun z => by
        obtain ⟨z1, z2, z3⟩ := z
        have := k2.1
        rcases A with q | q | q | q <;> omega)
      exact Or.inr ⟨k1, k2, mW_fr P.2.1 (fun x a b => nk x (by omega) (by omega)) (by rw [nk _ (by omega) (by omega)]) (by rw [nk _ (by omega) (by omega)]) k3⟩
/-- the wall changes -/
theorem mR_wall (R : mR M ci cj g T) {σ : wS} (O : wOK σ) (w : mW ci' 73 σ) (h1 : ∀ x, x ≠ 73 → (x < 91 ∨ 102 < x) → ci' x = ci x) (h2 : ci' 73 8 = ci 73 8) : mR M ci' cj g (stW T σ) ∧ frm M ci cj ci' cj := by
  refine ⟨?_, frm_m R (fun x a b => h1 x (by omega) (by omega)) (fun x a b => rfl)⟩
  obtain ⟨L, ⟨d1, d2, d3, d4, d5, d6⟩, K, Tr, A, P⟩ := R
  refine ⟨L, ⟨sc_fr d1 (fun a ha => h1 a (by omega) (by omega)), w, ?_, ?_, ?_, ?_⟩, ?_, Tr, A, ⟨O, P.2⟩⟩
  · rw [h2]; exact d3
  · rw [h1 89 (by decide) (by decide)]; exact d4
  · rw [h1 90 (by decide) (by decide)]; exact d5
  · intro s hs
    unfold mS
    rw [h1 74 (by decide) (by decide), h1 75 (by decide) (by decide), h1 76 (by decide) (by decide), h1 87 (by decide) (by decide), h1 88 (by decide) (by decide)]
    exact d6 s hs
  · rcases K with k | ⟨k1, k2, k3⟩
    · exact Or.inl k
    · have nk : ∀ x, gr g 73 18 ≤ x → ci' x = ci x := fun x a => h1 x (by have := k2.1; omega) (by have := k2.1; omega)
      exact Or.inr ⟨k1, k2, mW_fr P.2.1 (fun x a b => nk x (by omega)) (by rw [nk _ (by omega)]) (by rw [nk _ (by omega)]) k3⟩
theorem mR_rf (R : mR M ci cj g T) {κ : Nat} (hκ : κ < 5) : mR M (am_u2 ci (73 + 17) (κ + 2) (ci (73 + 17) (κ + 2) + 1)) cj g (rfT T κ) ∧ frm M ci cj (am_u2 ci (73 + 17) (κ + 2) (ci (73 + 17) (κ + 2) + 1)) cj := by
  have h1 : ∀ x, x ≠ 90 → am_u2 ci 90 (κ + 2) (ci 90 (κ + 2) + 1) x = ci x := fun x hx => u2_a _ _ hx
  refine ⟨?_, frm_m R (fun x a b => h1 x (by omega)) (fun x a b => rfl)⟩
  obtain ⟨L, ⟨d1, d2, d3, d4, d5, d6⟩, K, Tr, A, P⟩ := R
  refine ⟨L, ⟨sc_fr d1 (fun a ha => h1 a (by omega)), mW_fr P.1 (fun x a b => h1 x (by omega)) (by rw [h1 73 (by decide)]) (by rw [h1 73 (by decide)]) d2, ?_, ?_, ?_, ?_⟩, ?_, Tr, A, P⟩
  · rw [h1 73 (by decide)]; exact d3
  · rw [h1 89 (by decide)]; exact d4
  · intro i hi
    show am_u2 ci 90 (κ + 2) (ci 90 (κ + 2) + 1) 90 (i + 2) = am_u1 (tR T) κ (tR T κ + 1) i
    rw [u2_e, if_pos rfl]
    unfold am_u1
    by_cases z : i = κ
    · rw [if_pos (by omega), if_pos z, d5 κ hκ]
    · rw [if_neg (by omega), if_neg z]; exact d5 i hi
  · intro s hs
    unfold mS
    rw [h1 74 (by decide), h1 75 (by decide), h1 76 (by decide), h1 87 (by decide), h1 88 (by decide)]
    exact d6 s hs
  · rcases K with k | ⟨k1, k2, k3⟩
    · exact Or.inl k
    · have nk : ∀ x, gr g 73 18 ≤ x → am_u2 ci 90 (κ + 2) (ci 90 (κ + 2) + 1) x = ci x := fun x a => h1 x (by have := k2.1; omega)
      exact Or.inr ⟨k1, k2, mW_fr P.2.1 (fun x a b => nk x (by omega)) (by rw [nk _ (by omega)]) (by rw [nk _ (by omega)]) k3⟩
end MSTATE
/-- what a call of the model leaves -/
def Km (M : Nat → Prop) (ci : Nat → Nat → Int32) (cj : Nat → Nat → Int64) (g : am_G) (T : tS) (v : Value) (Q : Option Value → am_H → Prop) : Prop := ∀ ci' cj', mR M ci' cj' g T → frm M ci cj ci' cj' → Q (some v) (ci', cj', g)
def Ky (M : Nat → Prop) (ci : Nat → Nat → Int32) (cj : Nat → Nat → Int64) (g : am_G) (T : tS) (v : Value) (Q : Option Value → am_H → Prop) : Prop := ∀ M' ci' cj' g', mR M' ci' cj' g' T → gx M g M' g' → frm M' ci cj ci' cj' → Q (some v) (ci', cj', g')
section MKEEP
variable {d : Nat} {M : Nat → Prop} {ci ci' : Nat → Nat → Int32} {cj cj' : Nat → Nat → Int64} {g : am_G} {T : tS} {v : Value} {Q : Option Value → am_H → Prop}
theorem ky_km (k : Ky M ci cj g T v Q) : Km M ci cj g T v Q := fun ci' cj' R f => k M ci' cj' g R (gx_rfl M g) f
theorem km_id (R : mR M ci cj g T) (k : Km M ci cj g T v Q) : Q (some v) (ci, cj, g) := k ci cj R (frm_rfl _ _ _)
theorem km_rf {κ : Nat} (R : mR M ci cj g T) (hκ : κ < 5) (k : Km M ci cj g (rfT T κ) v Q) : Q (some v) (am_u2 ci (73 + 17) (κ + 2) (ci (73 + 17) (κ + 2) + 1), cj, g) := k _ _ (mR_rf R hκ).1 (mR_rf R hκ).2
theorem km_w (R : mR M ci cj g T) {σ : wS} (O : wOK σ) (w : mW ci' 73 σ) (h1 : ∀ x, x ≠ 73 → (x < 91 ∨ 102 < x) → ci' x = ci x) (h2 : ci' 73 8 = ci 73 8) (k : Km M ci cj g (stW T σ) v Q) : Q (some v) (ci', cj, g) := k _ _ (mR_wall R O w h1 h2).1 (mR_wall R O w h1 h2).2
/-- only solve and beWise have run -/
theorem km_s (R : mR M ci cj g T) (f1 : frW 73 ci ci') (f2 : frV 73 cj cj') (k : Km M ci cj g T v Q) : Q (some v) (ci', cj', g) := by
  obtain ⟨a, b⟩ := mR_scr R (ci' := ci') (cj' := cj') (fun x _ _ c _ _ => f1 x (by omega)) ⟨by rw [f1 73 (by decide)], by rw [f1 73 (by decide)], by rw [f1 73 (by decide)]⟩ (fun x _ _ c _ => f2 x (by omega))
  exact k _ _ a b
theorem mR_sv (R : mR M ci cj g T) (f1 : frW 73 ci ci') (f2 : frV 73 cj cj') : mR M ci' cj' g T ∧ frm M ci cj ci' cj' := mR_scr R (ci' := ci') (cj' := cj') (fun x _ _ c _ _ => f1 x (by omega)) ⟨by rw [f1 73 (by decide)], by rw [f1 73 (by decide)], by rw [f1 73 (by decide)]⟩ (fun x _ _ c _ => f2 x (by omega))
/-- in(s, 0, 7) and the like, of ints -/
theorem c_138i (s : Int32) (lo hi : Int64) : X d 138 (am_bk 138 0) [.long s.toInt64, .null, .long lo, .null, .long hi, .null] [] (ci, cj, g) Q ↔ Q (some (.int (bI (rg s lo.toInt hi.toInt)))) (ci, cj, g) := by
  rw [c_138, ti_l]
  exact Iff.rfl
end MKEEP
