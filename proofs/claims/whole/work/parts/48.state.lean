/-! THE STATE of a ThreeSizes, as calls show it -/
/-- shelves: what each holds (0 nothing, 1 a row, 2 a rule), a row's sort, size, elements, a rule's kind and number -/
abbrev shS : Type := (Nat → Nat) × (Nat → Nat) × (Nat → Nat) × (Nat → Nat → Int64) × (Nat → Nat) × (Nat → Nat)
def hK (S : shS) : Nat → Nat := S.1
def rS (S : shS) : Nat → Nat := S.2.1
def rN (S : shS) : Nat → Nat := S.2.2.1
def rE (S : shS) : Nat → Nat → Int64 := S.2.2.2.1
def uK (S : shS) : Nat → Nat := S.2.2.2.2.1
def uA (S : shS) : Nat → Nat := S.2.2.2.2.2
/-- the wall, whether an image is kept, the image, the tape's length and bytes, the shelves, the refusals -/
abbrev tS : Type := wS × Bool × wS × Nat × (Nat → Nat) × shS × (Nat → Int32)
def tW (T : tS) : wS := T.1
def tI (T : tS) : Bool := T.2.1
def tK (T : tS) : wS := T.2.2.1
def tL (T : tS) : Nat := T.2.2.2.1
def tB (T : tS) : Nat → Nat := T.2.2.2.2.1
def tH (T : tS) : shS := T.2.2.2.2.2.1
def tR (T : tS) : Nat → Int32 := T.2.2.2.2.2.2
def stW (T : tS) (σ : wS) : tS := (σ, tI T, tK T, tL T, tB T, tH T, tR T)
def stK (T : tS) : tS := (tW T, true, tW T, tL T, tB T, tH T, tR T)
def stT (T : tS) (l : Nat) (b : Nat → Nat) : tS := (tW T, tI T, tK T, l, b, tH T, tR T)
def stH (T : tS) (S : shS) : tS := (tW T, tI T, tK T, tL T, tB T, S, tR T)
/-- one more refusal of a kind -/
def rfT (T : tS) (κ : Nat) : tS := (tW T, tI T, tK T, tL T, tB T, tH T, am_u1 (tR T) κ (tR T κ + 1))
def hOK (S : shS) : Prop := ∀ s, s < 8 → hK S s ≤ 2 ∧ (hK S s = 1 → rS S s ≤ 4 ∧ rN S s ≤ 40) ∧ (hK S s = 2 → 1 ≤ uK S s ∧ uK S s ≤ 6 ∧ uA S s ≤ 99)
def tOK (T : tS) : Prop := wOK (tW T) ∧ wOK (tK T) ∧ tL T ≤ 200 ∧ (∀ i, i < tL T → tB T i < 256) ∧ hOK (tH T)
/-- a byte of the tape as the JVM holds it -/
def by8 (b : Nat) : Int32 := (nI b).toInt8.toInt32
/-- where the objects of a ThreeSizes lie -/
def cL (F : Nat → Prop) (g : am_G) : Prop := so g ∧ to g ∧ wo g 33 ∧ wo g 42 ∧ wo g 51 ∧ ho g ∧ ta g ∧ (∀ a, 32 ≤ a → a < 73 → F a)
/-- a shelf -/
def cS (F : Nat → Prop) (ci : Nat → Nat → Int32) (cj : Nat → Nat → Int64) (g : am_G) (S : shS) (s : Nat) : Prop :=
  (hK S s = 0 ∧ gr g 71 s = 0) ∨
  (hK S s = 1 ∧ gk g (gr g 71 s) = 5 ∧ F (gr g 71 s) ∧ 73 ≤ gr g 71 s ∧ ci (gr g 71 s) 0 = nI (rS S s) ∧ F (gr g (gr g 71 s) 1) ∧ 73 ≤ gr g (gr g 71 s) 1 ∧ gk g (gr g (gr g 71 s) 1) = 21 ∧ gn g (gr g (gr g 71 s) 1) = rN S s ∧ (∀ i, i < rN S s → cj (gr g (gr g 71 s) 1) i = rE S s i)) ∨
  (hK S s = 2 ∧ F (gr g 71 s) ∧ 73 ≤ gr g 71 s ∧ rR ci g (gr g 71 s) (uK S s) (uA S s))
def cD (ci : Nat → Nat → Int32) (T : tS) : Prop := sc ci ∧ wR ci 33 (tW T) ∧ (tI T = true → wR ci 51 (tK T)) ∧ ci 32 7 = bI (tI T) ∧ ci 69 0 = nI (tL T) ∧ (∀ i, i < tL T → ci 70 i = by8 (tB T i)) ∧ (∀ i, i < 5 → ci 72 i = tR T i)
/-- no two rows are one -/
def cX (g : am_G) (S : shS) : Prop := ∀ s, s < 8 → ∀ t, t < 8 → s ≠ t → hK S s = 1 → hK S t = 1 → gr g (gr g 71 s) 1 ≠ gr g (gr g 71 t) 1
def cR (F : Nat → Prop) (ci : Nat → Nat → Int32) (cj : Nat → Nat → Int64) (g : am_G) (T : tS) : Prop := cL F g ∧ cD ci T ∧ (∀ s, s < 8 → cS F ci cj g (tH T) s) ∧ cX g (tH T) ∧ tOK T
/-- what isn't one's own stays -/
def frm (F : Nat → Prop) (ci : Nat → Nat → Int32) (cj : Nat → Nat → Int64) (ci' : Nat → Nat → Int32) (cj' : Nat → Nat → Int64) : Prop := ∀ a, ¬ F a → ci' a = ci a ∧ cj' a = cj a
theorem frm_rfl (F : Nat → Prop) (ci : Nat → Nat → Int32) (cj : Nat → Nat → Int64) : frm F ci cj ci cj := fun _ _ => ⟨rfl, rfl⟩
theorem frm_tr {F : Nat → Prop} {ci ci1 ci2 : Nat → Nat → Int32} {cj cj1 cj2 : Nat → Nat → Int64} (h1 : frm F ci cj ci1 cj1) (h2 : frm F ci1 cj1 ci2 cj2) : frm F ci cj ci2 cj2 := fun a h => ⟨by rw [(h2 a h).1, (h1 a h).1], by rw [(h2 a h).2, (h1 a h).2]⟩
theorem frm_own {F : Nat → Prop} {ci ci' : Nat → Nat → Int32} {cj cj' : Nat → Nat → Int64} (hF : ∀ a, 32 ≤ a → a < 73 → F a) (h1 : ∀ x, (x < 32 ∨ 73 ≤ x) → ci' x = ci x) (h2 : ∀ x, (x < 32 ∨ 73 ≤ x) → cj' x = cj x) : frm F ci cj ci' cj' := by
  intro a h
  have : a < 32 ∨ 73 ≤ a := by
    rcases Nat.lt_or_ge a 32 with z | z
    · exact Or.inl z
    · rcases Nat.lt_or_ge a 73 with y | y
      · exact absurd (hF a z y) h
      · exact Or.inr y
  exact ⟨h1 a this, h2 a this⟩
theorem cS_fr {F : Nat → Prop} {ci ci' : Nat → Nat → Int32} {cj cj' : Nat → Nat → Int64} {g : am_G} {S : shS} {s : Nat} (h1 : ∀ x, 73 ≤ x → ci' x = ci x) (h2 : ∀ x, 73 ≤ x → cj' x = cj x) (h : cS F ci cj g S s) : cS F ci' cj' g S s := by
  rcases h with h | ⟨a, b, c, e, f, i, j, k, l, m⟩ | ⟨a, b, c, e⟩
  · exact Or.inl h
  · refine Or.inr (Or.inl ⟨a, b, c, e, ?_, i, j, k, l, ?_⟩)
    · rw [h1 _ e]; exact f
    · rw [h2 _ j]; exact m
  · refine Or.inr (Or.inr ⟨a, b, c, ?_⟩)
    unfold rR
    rw [h1 _ c]
    exact e
/-- a call that only uses the wall of trial and the hours -/
theorem cR_fr {F : Nat → Prop} {ci ci' : Nat → Nat → Int32} {cj cj' : Nat → Nat → Int64} {g : am_G} {T : tS} (R : cR F ci cj g T) (h1 : ∀ x, (x < 42 ∨ 50 < x) → (x < 60 ∨ 68 < x) → ci' x = ci x) (h2 : ∀ x, (x < 60 ∨ 68 < x) → cj' x = cj x) : cR F ci' cj' g T ∧ frm F ci cj ci' cj' := by
  obtain ⟨L, ⟨d1, d2, d3, d4, d5, d6, d7⟩, C, D, O⟩ := R
  refine ⟨⟨L, ⟨sc_fr d1 (fun a ha => h1 a (by omega) (by omega)), wR_fr (fun x a b => h1 x (by omega) (by omega)) d2, fun z => wR_fr (fun x a b => h1 x (by omega) (by omega)) (d3 z), ?_, ?_, ?_, ?_⟩, fun s hs => cS_fr (fun x hx => h1 x (by omega) (by omega)) (fun x hx => h2 x (by omega)) (C s hs), D, O⟩, frm_own L.2.2.2.2.2.2.2 (fun x hx => h1 x (by omega) (by omega)) (fun x hx => h2 x (by omega))⟩
  · rw [h1 32 (by decide) (by decide)]; exact d4
  · rw [h1 69 (by decide) (by decide)]; exact d5
  · rw [h1 70 (by decide) (by decide)]; exact d6
  · rw [h1 72 (by decide) (by decide)]; exact d7
theorem cR_so {F : Nat → Prop} {ci : Nat → Nat → Int32} {cj : Nat → Nat → Int64} {g : am_G} {T : tS} (R : cR F ci cj g T) : so g := R.1.1
theorem cR_to {F : Nat → Prop} {ci : Nat → Nat → Int32} {cj : Nat → Nat → Int64} {g : am_G} {T : tS} (R : cR F ci cj g T) : to g := R.1.2.1
theorem cR_w {F : Nat → Prop} {ci : Nat → Nat → Int32} {cj : Nat → Nat → Int64} {g : am_G} {T : tS} (R : cR F ci cj g T) : wo g 33 := R.1.2.2.1
theorem cR_w2 {F : Nat → Prop} {ci : Nat → Nat → Int32} {cj : Nat → Nat → Int64} {g : am_G} {T : tS} (R : cR F ci cj g T) : wo g 42 := R.1.2.2.2.1
theorem cR_w3 {F : Nat → Prop} {ci : Nat → Nat → Int32} {cj : Nat → Nat → Int64} {g : am_G} {T : tS} (R : cR F ci cj g T) : wo g 51 := R.1.2.2.2.2.1
theorem cR_ho {F : Nat → Prop} {ci : Nat → Nat → Int32} {cj : Nat → Nat → Int64} {g : am_G} {T : tS} (R : cR F ci cj g T) : ho g := R.1.2.2.2.2.2.1
theorem cR_ta {F : Nat → Prop} {ci : Nat → Nat → Int32} {cj : Nat → Nat → Int64} {g : am_G} {T : tS} (R : cR F ci cj g T) : ta g := R.1.2.2.2.2.2.2.1
theorem cR_F {F : Nat → Prop} {ci : Nat → Nat → Int32} {cj : Nat → Nat → Int64} {g : am_G} {T : tS} (R : cR F ci cj g T) : ∀ a, 32 ≤ a → a < 73 → F a := R.1.2.2.2.2.2.2.2
theorem cR_sc {F : Nat → Prop} {ci : Nat → Nat → Int32} {cj : Nat → Nat → Int64} {g : am_G} {T : tS} (R : cR F ci cj g T) : sc ci := R.2.1.1
theorem cR_wR {F : Nat → Prop} {ci : Nat → Nat → Int32} {cj : Nat → Nat → Int64} {g : am_G} {T : tS} (R : cR F ci cj g T) : wR ci 33 (tW T) := R.2.1.2.1
theorem cR_O {F : Nat → Prop} {ci : Nat → Nat → Int32} {cj : Nat → Nat → Int64} {g : am_G} {T : tS} (R : cR F ci cj g T) : wOK (tW T) := R.2.2.2.2.1
/-- the wall changes -/
theorem cR_wall {F : Nat → Prop} {ci ci' : Nat → Nat → Int32} {cj : Nat → Nat → Int64} {g : am_G} {T : tS} (R : cR F ci cj g T) {σ : wS} (O : wOK σ) (r : wR ci' 33 σ) (h1 : ∀ x, (x < 33 ∨ 41 < x) → ci' x = ci x) : cR F ci' cj g (stW T σ) ∧ frm F ci cj ci' cj := by
  obtain ⟨L, ⟨d1, d2, d3, d4, d5, d6, d7⟩, C, D, P⟩ := R
  refine ⟨⟨L, ⟨sc_fr d1 (fun a ha => h1 a (by omega)), r, fun z => wR_fr (fun x a b => h1 x (by omega)) (d3 z), ?_, ?_, ?_, ?_⟩, fun s hs => cS_fr (fun x hx => h1 x (by omega)) (fun x hx => rfl) (C s hs), D, ⟨O, P.2⟩⟩, frm_own L.2.2.2.2.2.2.2 (fun x hx => h1 x (by omega)) (fun x hx => rfl)⟩
  · rw [h1 32 (by decide)]; exact d4
  · rw [h1 69 (by decide)]; exact d5
  · rw [h1 70 (by decide)]; exact d6
  · rw [h1 72 (by decide)]; exact d7
theorem cR_rf {F : Nat → Prop} {ci : Nat → Nat → Int32} {cj : Nat → Nat → Int64} {g : am_G} {T : tS} (R : cR F ci cj g T) {κ : Nat} (hκ : κ < 5) : cR F (am_u2 ci 72 κ (ci 72 κ + 1)) cj g (rfT T κ) ∧ frm F ci cj (am_u2 ci 72 κ (ci 72 κ + 1)) cj := by
  obtain ⟨L, ⟨d1, d2, d3, d4, d5, d6, d7⟩, C, D, P⟩ := R
  have h1 : ∀ x, x ≠ 72 → am_u2 ci 72 κ (ci 72 κ + 1) x = ci x := fun x hx => u2_a _ _ hx
  refine ⟨⟨L, ⟨sc_fr d1 (fun a ha => h1 a (by omega)), wR_fr (fun x a b => h1 x (by omega)) d2, fun z => wR_fr (fun x a b => h1 x (by omega)) (d3 z), ?_, ?_, ?_, fun i hi => ?_⟩, fun s hs => cS_fr (fun x hx => h1 x (by omega)) (fun x hx => rfl) (C s hs), D, P⟩, frm_own L.2.2.2.2.2.2.2 (fun x hx => h1 x (by omega)) (fun x hx => rfl)⟩
  · rw [h1 32 (by decide)]; exact d4
  · rw [h1 69 (by decide)]; exact d5
  · rw [h1 70 (by decide)]; exact d6
  · show _ = am_u1 (tR T) κ (tR T κ + 1) i
    rw [u2_e, if_pos rfl]
    unfold am_u1
    split
    · rw [d7 κ hκ]
    · exact d7 i hi
/-- what a refusal answers -/
def rI (κ : Nat) : Int32 := iI (-2 - (κ : Int))
def rJ (κ : Nat) : Int64 := (-1000000000000 : Int64) + (rI κ).toInt64
theorem rI_0 : (-2 : Int32) = rI 0 := rfl
theorem rI_1 : (-3 : Int32) = rI 1 := rfl
theorem rI_2 : (-4 : Int32) = rI 2 := rfl
theorem rI_3 : (-5 : Int32) = rI 3 := rfl
theorem rI_4 : (-6 : Int32) = rI 4 := rfl
section STATE
variable {d : Nat} {ci : Nat → Nat → Int32} {cj : Nat → Nat → Int64} {g : am_G} {Q : Option Value → am_H → Prop} {F : Nat → Prop} {T : tS}
/-- refuse -/
theorem c_44 (R : cR F ci cj g T) {κ : Nat} (hκ : κ < 5) : X d 44 (am_bk 44 0) [.ref 32, .int (rI κ), .null] [] (ci, cj, g) Q ↔ Q (some (.int (rI κ))) (am_u2 ci 72 κ (ci 72 κ + 1), cj, g) := by
  have L := cR_to R
  have e : (-2 : Int32) - rI κ = nI κ := by
    unfold rI
    rw [show (-2 : Int32) = iI (-2) from rfl, iI_sub, nI_iI]
    congr 1
    omega
  have h1 : ¬ nI κ < 0 := by rw [lit_0, nI_lti (by omega) (by omega)]; omega
  have h2 : ¬ (5 : Int32) ≤ nI κ := nI_ge (b := 5) hκ (by decide)
  simp only [bk_44_0, bq_44_0, bk_44_1, bq_44_1, G_6, X_push, X_goto, X_fall, X_ifeq, X_ifne, X_iflt, X_ifge, X_ifgt, X_ifle, X_iceq, X_icne, X_iclt, X_icge, X_icgt, X_icle, X_ifnull, X_ifnonnull, X_switch, X_ireturn, X_lreturn, X_areturn, X_return, X_zreturn, X_iload, X_lload, X_aload, X_istore, X_astore, X_lstore, X_iinc, X_iadd, X_isub, X_imul, X_idiv, X_irem, X_iand, X_ior, X_ishl, X_ishr, X_iushr, X_ladd, X_lsub, X_lmul, X_ldiv, X_land, X_lor, X_lshl, X_lcmp, X_ineg, X_i2l, X_l2i, X_i2b, X_i2s, X_i2c, X_dupr, X_dupi, X_dup_x1, X_dup2, X_popi, X_popr, X_iaload, X_baload, X_laload, X_aaload, X_iastore, X_bastore, X_lastore, X_aastore, X_arraylength, am_wt_0, am_wt_int, am_wt_long, am_wt_ref, List.getElem?_cons_zero, List.getElem?_cons_succ, am_s1, am_s2, am_kill, List.set_cons_zero, List.set_cons_succ, List.length_cons, List.length_nil, Int.reduceToNat, Nat.reduceAdd, Nat.reduceLeDiff, Nat.reduceLT, Option.toList_some, Option.toList_none, List.cons_append, List.nil_append, true_and, and_true, true_or, or_true, false_or, or_false, and_self, false_and, not_false_eq_true, not_true_eq_false, to_k L, to_r0 L, to_r1 L, to_r2 L, to_r3 L, to_r4 L, to_r5 L, to_r6 L, to_a5 L, to_n5 L, to_a6 L, to_n6 L, e, h1, h2, if_false, in_nI hκ (show 5 < 2 ^ 31 by decide), tn_nI (show κ < 2 ^ 31 by omega)]
theorem c_45 (R : cR F ci cj g T) {κ : Nat} (hκ : κ < 5) : X (d + 1) 45 (am_bk 45 0) [.ref 32, .int (rI κ)] [] (ci, cj, g) Q ↔ Q (some (.long (rJ κ))) (am_u2 ci 72 κ (ci 72 κ + 1), cj, g) := by
  have L := cR_to R
  simp only [bk_45_0, bq_45_0, X_push, X_goto, X_fall, X_ifeq, X_ifne, X_iflt, X_ifge, X_ifgt, X_ifle, X_iceq, X_icne, X_iclt, X_icge, X_icgt, X_icle, X_ifnull, X_ifnonnull, X_switch, X_ireturn, X_lreturn, X_areturn, X_return, X_zreturn, X_iload, X_lload, X_aload, X_istore, X_astore, X_lstore, X_iinc, X_iadd, X_isub, X_imul, X_idiv, X_irem, X_iand, X_ior, X_ishl, X_ishr, X_iushr, X_ladd, X_lsub, X_lmul, X_ldiv, X_land, X_lor, X_lshl, X_lcmp, X_ineg, X_i2l, X_l2i, X_i2b, X_i2s, X_i2c, X_dupr, X_dupi, X_dup_x1, X_dup2, X_popi, X_popr, X_iaload, X_baload, X_laload, X_aaload, X_iastore, X_bastore, X_lastore, X_aastore, X_arraylength, am_wt_0, am_wt_int, am_wt_long, am_wt_ref, List.getElem?_cons_zero, List.getElem?_cons_succ, am_s1, am_s2, am_kill, List.set_cons_zero, List.set_cons_succ, List.length_cons, List.length_nil, Int.reduceToNat, Nat.reduceAdd, Nat.reduceLeDiff, Nat.reduceLT, Option.toList_some, Option.toList_none, List.cons_append, List.nil_append, true_and, and_true, true_or, or_true, false_or, or_false, and_self, false_and, not_false_eq_true, not_true_eq_false, to_k L, to_r0 L, to_r1 L, to_r2 L, to_r3 L, to_r4 L, to_r5 L, to_r6 L, to_a5 L, to_n5 L, to_a6 L, to_n6 L, C_44, c_44 R hκ]
  rfl
/-- the row in a shelf, or null -/
def rowH (g : am_G) (T : tS) (s : Int32) : Nat := if rg s 0 7 = true ∧ hK (tH T) s.toNatClampNeg = 1 then gr g 71 s.toNatClampNeg else 0
def rulH (g : am_G) (T : tS) (s : Int32) : Nat := if rg s 0 7 = true ∧ hK (tH T) s.toNatClampNeg = 2 then gr g 71 s.toNatClampNeg else 0
/-- 5 if it's a row, else the refusal that is due -/
def noRow (T : tS) (s : Int32) : Nat := if rg s 0 7 = true then (if hK (tH T) s.toNatClampNeg = 0 then 2 else if hK (tH T) s.toNatClampNeg = 1 then 5 else 1) else 0
def noRule (T : tS) (s : Int32) : Nat := if rg s 0 7 = true then (if hK (tH T) s.toNatClampNeg = 0 then 2 else if hK (tH T) s.toNatClampNeg = 2 then 5 else 1) else 0
theorem rg_nI {s : Int32} {n : Nat} (h : rg s 0 n = true) (hn : n < 2147483648) : ∃ k : Nat, k ≤ n ∧ s = nI k := by
  have h1 : 0 ≤ s.toInt ∧ s.toInt ≤ n := of_decide_eq_true h
  obtain ⟨k, hk, e⟩ := nI_ex h1.1
  refine ⟨k, ?_, e⟩
  rw [e, nI_ti hk] at h1
  omega
theorem rg_of {k n : Nat} (h : k ≤ n) (hn : n < 2147483648) : rg (nI k) 0 n = true := by
  refine rg_t ?_
  rw [nI_ti (by omega)]
  omega
theorem c_50 (R : cR F ci cj g T) (s : Int32) : X (d + 1) 50 (am_bk 50 0) [.ref 32, .int s, .null, .null] [] (ci, cj, g) Q ↔ Q (some (.ref (rowH g T s))) (ci, cj, g) := by
  have L := cR_to R
  unfold rowH
  by_cases h : rg s 0 7 = true
  · obtain ⟨k, hk, rfl⟩ := rg_nI (n := 7) h (by decide)
    have C := R.2.2.1 k (by omega)
    rw [tn_nI (by omega)]
    rcases C with ⟨a, b⟩ | ⟨a, b, c, e, -⟩ | ⟨a, b, c, e⟩
    · simp only [bk_50_0, bq_50_0, bk_50_1, bq_50_1, bk_50_2, bq_50_2, G_5, N_0, K_0, X_push, X_goto, X_fall, X_ifeq, X_ifne, X_iflt, X_ifge, X_ifgt, X_ifle, X_iceq, X_icne, X_iclt, X_icge, X_icgt, X_icle, X_ifnull, X_ifnonnull, X_switch, X_ireturn, X_lreturn, X_areturn, X_return, X_zreturn, X_iload, X_lload, X_aload, X_istore, X_astore, X_lstore, X_iinc, X_iadd, X_isub, X_imul, X_idiv, X_irem, X_iand, X_ior, X_ishl, X_ishr, X_iushr, X_ladd, X_lsub, X_lmul, X_ldiv, X_land, X_lor, X_lshl, X_lcmp, X_ineg, X_i2l, X_l2i, X_i2b, X_i2s, X_i2c, X_dupr, X_dupi, X_dup_x1, X_dup2, X_popi, X_popr, X_iaload, X_baload, X_laload, X_aaload, X_iastore, X_bastore, X_lastore, X_aastore, X_arraylength, am_wt_0, am_wt_int, am_wt_long, am_wt_ref, List.getElem?_cons_zero, List.getElem?_cons_succ, am_s1, am_s2, am_kill, List.set_cons_zero, List.set_cons_succ, List.length_cons, List.length_nil, Int.reduceToNat, Nat.reduceAdd, Nat.reduceLeDiff, Nat.reduceLT, Option.toList_some, Option.toList_none, List.cons_append, List.nil_append, true_and, and_true, true_or, or_true, false_or, or_false, and_self, false_and, not_false_eq_true, not_true_eq_false, to_k L, to_r0 L, to_r1 L, to_r2 L, to_r3 L, to_r4 L, to_r5 L, to_r6 L, to_a5 L, to_n5 L, to_a6 L, to_n6 L, C_46, c_46, h, bI_t, i10, if_false, in_nI (show k < 8 by omega) (show 8 < 2 ^ 31 by decide), tn_nI (show k < 2 ^ 31 by omega), b, ne_eq, if_true, a, Nat.reduceEqDiff]
    · simp only [bk_50_0, bq_50_0, bk_50_1, bq_50_1, bk_50_2, bq_50_2, G_5, N_0, K_0, X_push, X_goto, X_fall, X_ifeq, X_ifne, X_iflt, X_ifge, X_ifgt, X_ifle, X_iceq, X_icne, X_iclt, X_icge, X_icgt, X_icle, X_ifnull, X_ifnonnull, X_switch, X_ireturn, X_lreturn, X_areturn, X_return, X_zreturn, X_iload, X_lload, X_aload, X_istore, X_astore, X_lstore, X_iinc, X_iadd, X_isub, X_imul, X_idiv, X_irem, X_iand, X_ior, X_ishl, X_ishr, X_iushr, X_ladd, X_lsub, X_lmul, X_ldiv, X_land, X_lor, X_lshl, X_lcmp, X_ineg, X_i2l, X_l2i, X_i2b, X_i2s, X_i2c, X_dupr, X_dupi, X_dup_x1, X_dup2, X_popi, X_popr, X_iaload, X_baload, X_laload, X_aaload, X_iastore, X_bastore, X_lastore, X_aastore, X_arraylength, am_wt_0, am_wt_int, am_wt_long, am_wt_ref, List.getElem?_cons_zero, List.getElem?_cons_succ, am_s1, am_s2, am_kill, List.set_cons_zero, List.set_cons_succ, List.length_cons, List.length_nil, Int.reduceToNat, Nat.reduceAdd, Nat.reduceLeDiff, Nat.reduceLT, Option.toList_some, Option.toList_none, List.cons_append, List.nil_append, true_and, and_true, true_or, or_true, false_or, or_false, and_self, false_and, not_false_eq_true, not_true_eq_false, to_k L, to_r0 L, to_r1 L, to_r2 L, to_r3 L, to_r4 L, to_r5 L, to_r6 L, to_a5 L, to_n5 L, to_a6 L, to_n6 L, C_46, c_46, h, bI_t, i10, if_false, in_nI (show k < 8 by omega) (show 8 < 2 ^ 31 by decide), tn_nI (show k < 2 ^ 31 by omega), b, ne_eq, if_true, a, show ¬ gr g 71 k = 0 by omega]
    · have e1 := e.1
      have e2 := e.2.1
      have e3 := e.2.2.1
      simp only [bk_50_0, bq_50_0, bk_50_1, bq_50_1, bk_50_2, bq_50_2, G_5, N_0, K_0, X_push, X_goto, X_fall, X_ifeq, X_ifne, X_iflt, X_ifge, X_ifgt, X_ifle, X_iceq, X_icne, X_iclt, X_icge, X_icgt, X_icle, X_ifnull, X_ifnonnull, X_switch, X_ireturn, X_lreturn, X_areturn, X_return, X_zreturn, X_iload, X_lload, X_aload, X_istore, X_astore, X_lstore, X_iinc, X_iadd, X_isub, X_imul, X_idiv, X_irem, X_iand, X_ior, X_ishl, X_ishr, X_iushr, X_ladd, X_lsub, X_lmul, X_ldiv, X_land, X_lor, X_lshl, X_lcmp, X_ineg, X_i2l, X_l2i, X_i2b, X_i2s, X_i2c, X_dupr, X_dupi, X_dup_x1, X_dup2, X_popi, X_popr, X_iaload, X_baload, X_laload, X_aaload, X_iastore, X_bastore, X_lastore, X_aastore, X_arraylength, am_wt_0, am_wt_int, am_wt_long, am_wt_ref, List.getElem?_cons_zero, List.getElem?_cons_succ, am_s1, am_s2, am_kill, List.set_cons_zero, List.set_cons_succ, List.length_cons, List.length_nil, Int.reduceToNat, Nat.reduceAdd, Nat.reduceLeDiff, Nat.reduceLT, Option.toList_some, Option.toList_none, List.cons_append, List.nil_append, true_and, and_true, true_or, or_true, false_or, or_false, and_self, false_and, not_false_eq_true, not_true_eq_false, to_k L, to_r0 L, to_r1 L, to_r2 L, to_r3 L, to_r4 L, to_r5 L, to_r6 L, to_a5 L, to_n5 L, to_a6 L, to_n6 L, C_46, c_46, h, bI_t, i10, if_false, in_nI (show k < 8 by omega) (show 8 < 2 ^ 31 by decide), tn_nI (show k < 2 ^ 31 by omega), ne_eq, if_true, a, show ¬ gr g 71 k = 0 by omega, show 5 ≤ gk g (gr g 71 k) by omega, show gk g (gr g 71 k) ≤ 11 by omega, show ¬ gk g (gr g 71 k) ≤ 5 by omega, and_false, Nat.reduceEqDiff]
  · simp only [bk_50_0, bq_50_0, bk_50_1, bq_50_1, bk_50_2, bq_50_2, G_5, N_0, K_0, X_push, X_goto, X_fall, X_ifeq, X_ifne, X_iflt, X_ifge, X_ifgt, X_ifle, X_iceq, X_icne, X_iclt, X_icge, X_icgt, X_icle, X_ifnull, X_ifnonnull, X_switch, X_ireturn, X_lreturn, X_areturn, X_return, X_zreturn, X_iload, X_lload, X_aload, X_istore, X_astore, X_lstore, X_iinc, X_iadd, X_isub, X_imul, X_idiv, X_irem, X_iand, X_ior, X_ishl, X_ishr, X_iushr, X_ladd, X_lsub, X_lmul, X_ldiv, X_land, X_lor, X_lshl, X_lcmp, X_ineg, X_i2l, X_l2i, X_i2b, X_i2s, X_i2c, X_dupr, X_dupi, X_dup_x1, X_dup2, X_popi, X_popr, X_iaload, X_baload, X_laload, X_aaload, X_iastore, X_bastore, X_lastore, X_aastore, X_arraylength, am_wt_0, am_wt_int, am_wt_long, am_wt_ref, List.getElem?_cons_zero, List.getElem?_cons_succ, am_s1, am_s2, am_kill, List.set_cons_zero, List.set_cons_succ, List.length_cons, List.length_nil, Int.reduceToNat, Nat.reduceAdd, Nat.reduceLeDiff, Nat.reduceLT, Option.toList_some, Option.toList_none, List.cons_append, List.nil_append, true_and, and_true, true_or, or_true, false_or, or_false, and_self, false_and, not_false_eq_true, not_true_eq_false, to_k L, to_r0 L, to_r1 L, to_r2 L, to_r3 L, to_r4 L, to_r5 L, to_r6 L, to_a5 L, to_n5 L, to_a6 L, to_n6 L, C_46, c_46, h, bI_f, if_true, if_false, Bool.false_eq_true]
theorem c_51 (R : cR F ci cj g T) (s : Int32) : X (d + 1) 51 (am_bk 51 0) [.ref 32, .int s, .null, .null] [] (ci, cj, g) Q ↔ Q (some (.ref (rulH g T s))) (ci, cj, g) := by
  have L := cR_to R
  unfold rulH
  by_cases h : rg s 0 7 = true
  · obtain ⟨k, hk, rfl⟩ := rg_nI (n := 7) h (by decide)
    have C := R.2.2.1 k (by omega)
    rw [tn_nI (by omega)]
    rcases C with ⟨a, b⟩ | ⟨a, b, c, e, -⟩ | ⟨a, b, c, e⟩
    · simp only [bk_51_0, bq_51_0, bk_51_1, bq_51_1, bk_51_2, bq_51_2, G_5, N_1, K_1, X_push, X_goto, X_fall, X_ifeq, X_ifne, X_iflt, X_ifge, X_ifgt, X_ifle, X_iceq, X_icne, X_iclt, X_icge, X_icgt, X_icle, X_ifnull, X_ifnonnull, X_switch, X_ireturn, X_lreturn, X_areturn, X_return, X_zreturn, X_iload, X_lload, X_aload, X_istore, X_astore, X_lstore, X_iinc, X_iadd, X_isub, X_imul, X_idiv, X_irem, X_iand, X_ior, X_ishl, X_ishr, X_iushr, X_ladd, X_lsub, X_lmul, X_ldiv, X_land, X_lor, X_lshl, X_lcmp, X_ineg, X_i2l, X_l2i, X_i2b, X_i2s, X_i2c, X_dupr, X_dupi, X_dup_x1, X_dup2, X_popi, X_popr, X_iaload, X_baload, X_laload, X_aaload, X_iastore, X_bastore, X_lastore, X_aastore, X_arraylength, am_wt_0, am_wt_int, am_wt_long, am_wt_ref, List.getElem?_cons_zero, List.getElem?_cons_succ, am_s1, am_s2, am_kill, List.set_cons_zero, List.set_cons_succ, List.length_cons, List.length_nil, Int.reduceToNat, Nat.reduceAdd, Nat.reduceLeDiff, Nat.reduceLT, Option.toList_some, Option.toList_none, List.cons_append, List.nil_append, true_and, and_true, true_or, or_true, false_or, or_false, and_self, false_and, not_false_eq_true, not_true_eq_false, to_k L, to_r0 L, to_r1 L, to_r2 L, to_r3 L, to_r4 L, to_r5 L, to_r6 L, to_a5 L, to_n5 L, to_a6 L, to_n6 L, C_46, c_46, h, bI_t, i10, if_false, in_nI (show k < 8 by omega) (show 8 < 2 ^ 31 by decide), tn_nI (show k < 2 ^ 31 by omega), b, ne_eq, if_true, a, Nat.reduceEqDiff]
    · simp only [bk_51_0, bq_51_0, bk_51_1, bq_51_1, bk_51_2, bq_51_2, G_5, N_1, K_1, X_push, X_goto, X_fall, X_ifeq, X_ifne, X_iflt, X_ifge, X_ifgt, X_ifle, X_iceq, X_icne, X_iclt, X_icge, X_icgt, X_icle, X_ifnull, X_ifnonnull, X_switch, X_ireturn, X_lreturn, X_areturn, X_return, X_zreturn, X_iload, X_lload, X_aload, X_istore, X_astore, X_lstore, X_iinc, X_iadd, X_isub, X_imul, X_idiv, X_irem, X_iand, X_ior, X_ishl, X_ishr, X_iushr, X_ladd, X_lsub, X_lmul, X_ldiv, X_land, X_lor, X_lshl, X_lcmp, X_ineg, X_i2l, X_l2i, X_i2b, X_i2s, X_i2c, X_dupr, X_dupi, X_dup_x1, X_dup2, X_popi, X_popr, X_iaload, X_baload, X_laload, X_aaload, X_iastore, X_bastore, X_lastore, X_aastore, X_arraylength, am_wt_0, am_wt_int, am_wt_long, am_wt_ref, List.getElem?_cons_zero, List.getElem?_cons_succ, am_s1, am_s2, am_kill, List.set_cons_zero, List.set_cons_succ, List.length_cons, List.length_nil, Int.reduceToNat, Nat.reduceAdd, Nat.reduceLeDiff, Nat.reduceLT, Option.toList_some, Option.toList_none, List.cons_append, List.nil_append, true_and, and_true, true_or, or_true, false_or, or_false, and_self, false_and, not_false_eq_true, not_true_eq_false, to_k L, to_r0 L, to_r1 L, to_r2 L, to_r3 L, to_r4 L, to_r5 L, to_r6 L, to_a5 L, to_n5 L, to_a6 L, to_n6 L, C_46, c_46, h, bI_t, i10, if_false, in_nI (show k < 8 by omega) (show 8 < 2 ^ 31 by decide), tn_nI (show k < 2 ^ 31 by omega), b, ne_eq, if_true, a, show ¬ gr g 71 k = 0 by omega, and_false, Nat.reduceEqDiff]
    · have e1 := e.1
      have e2 := e.2.1
      have e3 := e.2.2.1
      simp only [bk_51_0, bq_51_0, bk_51_1, bq_51_1, bk_51_2, bq_51_2, G_5, N_1, K_1, X_push, X_goto, X_fall, X_ifeq, X_ifne, X_iflt, X_ifge, X_ifgt, X_ifle, X_iceq, X_icne, X_iclt, X_icge, X_icgt, X_icle, X_ifnull, X_ifnonnull, X_switch, X_ireturn, X_lreturn, X_areturn, X_return, X_zreturn, X_iload, X_lload, X_aload, X_istore, X_astore, X_lstore, X_iinc, X_iadd, X_isub, X_imul, X_idiv, X_irem, X_iand, X_ior, X_ishl, X_ishr, X_iushr, X_ladd, X_lsub, X_lmul, X_ldiv, X_land, X_lor, X_lshl, X_lcmp, X_ineg, X_i2l, X_l2i, X_i2b, X_i2s, X_i2c, X_dupr, X_dupi, X_dup_x1, X_dup2, X_popi, X_popr, X_iaload, X_baload, X_laload, X_aaload, X_iastore, X_bastore, X_lastore, X_aastore, X_arraylength, am_wt_0, am_wt_int, am_wt_long, am_wt_ref, List.getElem?_cons_zero, List.getElem?_cons_succ, am_s1, am_s2, am_kill, List.set_cons_zero, List.set_cons_succ, List.length_cons, List.length_nil, Int.reduceToNat, Nat.reduceAdd, Nat.reduceLeDiff, Nat.reduceLT, Option.toList_some, Option.toList_none, List.cons_append, List.nil_append, true_and, and_true, true_or, or_true, false_or, or_false, and_self, false_and, not_false_eq_true, not_true_eq_false, to_k L, to_r0 L, to_r1 L, to_r2 L, to_r3 L, to_r4 L, to_r5 L, to_r6 L, to_a5 L, to_n5 L, to_a6 L, to_n6 L, C_46, c_46, h, bI_t, i10, if_false, in_nI (show k < 8 by omega) (show 8 < 2 ^ 31 by decide), tn_nI (show k < 2 ^ 31 by omega), ne_eq, if_true, a, show ¬ gr g 71 k = 0 by omega, show 5 ≤ gk g (gr g 71 k) by omega, show gk g (gr g 71 k) ≤ 11 by omega, show 6 ≤ gk g (gr g 71 k) by omega]
  · simp only [bk_51_0, bq_51_0, bk_51_1, bq_51_1, bk_51_2, bq_51_2, G_5, N_1, K_1, X_push, X_goto, X_fall, X_ifeq, X_ifne, X_iflt, X_ifge, X_ifgt, X_ifle, X_iceq, X_icne, X_iclt, X_icge, X_icgt, X_icle, X_ifnull, X_ifnonnull, X_switch, X_ireturn, X_lreturn, X_areturn, X_return, X_zreturn, X_iload, X_lload, X_aload, X_istore, X_astore, X_lstore, X_iinc, X_iadd, X_isub, X_imul, X_idiv, X_irem, X_iand, X_ior, X_ishl, X_ishr, X_iushr, X_ladd, X_lsub, X_lmul, X_ldiv, X_land, X_lor, X_lshl, X_lcmp, X_ineg, X_i2l, X_l2i, X_i2b, X_i2s, X_i2c, X_dupr, X_dupi, X_dup_x1, X_dup2, X_popi, X_popr, X_iaload, X_baload, X_laload, X_aaload, X_iastore, X_bastore, X_lastore, X_aastore, X_arraylength, am_wt_0, am_wt_int, am_wt_long, am_wt_ref, List.getElem?_cons_zero, List.getElem?_cons_succ, am_s1, am_s2, am_kill, List.set_cons_zero, List.set_cons_succ, List.length_cons, List.length_nil, Int.reduceToNat, Nat.reduceAdd, Nat.reduceLeDiff, Nat.reduceLT, Option.toList_some, Option.toList_none, List.cons_append, List.nil_append, true_and, and_true, true_or, or_true, false_or, or_false, and_self, false_and, not_false_eq_true, not_true_eq_false, to_k L, to_r0 L, to_r1 L, to_r2 L, to_r3 L, to_r4 L, to_r5 L, to_r6 L, to_a5 L, to_n5 L, to_a6 L, to_n6 L, C_46, c_46, h, bI_f, if_true, if_false, Bool.false_eq_true]
theorem c_52 (R : cR F ci cj g T) (s : Int32) : X (d + 1) 52 (am_bk 52 0) [.ref 32, .int s] [] (ci, cj, g) Q ↔ Q (some (.int (if noRow T s = 5 then 0 else rI (noRow T s)))) (ci, cj, g) := by
  have L := cR_to R
  unfold noRow
  by_cases h : rg s 0 7 = true
  · obtain ⟨k, hk, rfl⟩ := rg_nI (n := 7) h (by decide)
    have C := R.2.2.1 k (by omega)
    rw [tn_nI (by omega)]
    rcases C with ⟨a, b⟩ | ⟨a, b, c, e, -⟩ | ⟨a, b, c, e⟩
    · simp only [bk_52_0, bq_52_0, bk_52_1, bq_52_1, bk_52_2, bq_52_2, bk_52_3, bq_52_3, bk_52_4, bq_52_4, G_5, N_0, X_push, X_goto, X_fall, X_ifeq, X_ifne, X_iflt, X_ifge, X_ifgt, X_ifle, X_iceq, X_icne, X_iclt, X_icge, X_icgt, X_icle, X_ifnull, X_ifnonnull, X_switch, X_ireturn, X_lreturn, X_areturn, X_return, X_zreturn, X_iload, X_lload, X_aload, X_istore, X_astore, X_lstore, X_iinc, X_iadd, X_isub, X_imul, X_idiv, X_irem, X_iand, X_ior, X_ishl, X_ishr, X_iushr, X_ladd, X_lsub, X_lmul, X_ldiv, X_land, X_lor, X_lshl, X_lcmp, X_ineg, X_i2l, X_l2i, X_i2b, X_i2s, X_i2c, X_dupr, X_dupi, X_dup_x1, X_dup2, X_popi, X_popr, X_iaload, X_baload, X_laload, X_aaload, X_iastore, X_bastore, X_lastore, X_aastore, X_arraylength, am_wt_0, am_wt_int, am_wt_long, am_wt_ref, List.getElem?_cons_zero, List.getElem?_cons_succ, am_s1, am_s2, am_kill, List.set_cons_zero, List.set_cons_succ, List.length_cons, List.length_nil, Int.reduceToNat, Nat.reduceAdd, Nat.reduceLeDiff, Nat.reduceLT, Option.toList_some, Option.toList_none, List.cons_append, List.nil_append, true_and, and_true, true_or, or_true, false_or, or_false, and_self, false_and, not_false_eq_true, not_true_eq_false, to_k L, to_r0 L, to_r1 L, to_r2 L, to_r3 L, to_r4 L, to_r5 L, to_r6 L, to_a5 L, to_n5 L, to_a6 L, to_n6 L, C_46, c_46, h, bI_t, i10, if_false, in_nI (show k < 8 by omega) (show 8 < 2 ^ 31 by decide), tn_nI (show k < 2 ^ 31 by omega), b, ne_eq, if_true, a, Nat.reduceEqDiff]
      rfl
    · simp only [bk_52_0, bq_52_0, bk_52_1, bq_52_1, bk_52_2, bq_52_2, bk_52_3, bq_52_3, bk_52_4, bq_52_4, G_5, N_0, X_push, X_goto, X_fall, X_ifeq, X_ifne, X_iflt, X_ifge, X_ifgt, X_ifle, X_iceq, X_icne, X_iclt, X_icge, X_icgt, X_icle, X_ifnull, X_ifnonnull, X_switch, X_ireturn, X_lreturn, X_areturn, X_return, X_zreturn, X_iload, X_lload, X_aload, X_istore, X_astore, X_lstore, X_iinc, X_iadd, X_isub, X_imul, X_idiv, X_irem, X_iand, X_ior, X_ishl, X_ishr, X_iushr, X_ladd, X_lsub, X_lmul, X_ldiv, X_land, X_lor, X_lshl, X_lcmp, X_ineg, X_i2l, X_l2i, X_i2b, X_i2s, X_i2c, X_dupr, X_dupi, X_dup_x1, X_dup2, X_popi, X_popr, X_iaload, X_baload, X_laload, X_aaload, X_iastore, X_bastore, X_lastore, X_aastore, X_arraylength, am_wt_0, am_wt_int, am_wt_long, am_wt_ref, List.getElem?_cons_zero, List.getElem?_cons_succ, am_s1, am_s2, am_kill, List.set_cons_zero, List.set_cons_succ, List.length_cons, List.length_nil, Int.reduceToNat, Nat.reduceAdd, Nat.reduceLeDiff, Nat.reduceLT, Option.toList_some, Option.toList_none, List.cons_append, List.nil_append, true_and, and_true, true_or, or_true, false_or, or_false, and_self, false_and, not_false_eq_true, not_true_eq_false, to_k L, to_r0 L, to_r1 L, to_r2 L, to_r3 L, to_r4 L, to_r5 L, to_r6 L, to_a5 L, to_n5 L, to_a6 L, to_n6 L, C_46, c_46, h, bI_t, i10, if_false, in_nI (show k < 8 by omega) (show 8 < 2 ^ 31 by decide), tn_nI (show k < 2 ^ 31 by omega), b, ne_eq, if_true, a, show ¬ gr g 71 k = 0 by omega, Nat.reduceEqDiff]
    · have e1 := e.1
      have e2 := e.2.1
      have e3 := e.2.2.1
      simp only [bk_52_0, bq_52_0, bk_52_1, bq_52_1, bk_52_2, bq_52_2, bk_52_3, bq_52_3, bk_52_4, bq_52_4, G_5, N_0, X_push, X_goto, X_fall, X_ifeq, X_ifne, X_iflt, X_ifge, X_ifgt, X_ifle, X_iceq, X_icne, X_iclt, X_icge, X_icgt, X_icle, X_ifnull, X_ifnonnull, X_switch, X_ireturn, X_lreturn, X_areturn, X_return, X_zreturn, X_iload, X_lload, X_aload, X_istore, X_astore, X_lstore, X_iinc, X_iadd, X_isub, X_imul, X_idiv, X_irem, X_iand, X_ior, X_ishl, X_ishr, X_iushr, X_ladd, X_lsub, X_lmul, X_ldiv, X_land, X_lor, X_lshl, X_lcmp, X_ineg, X_i2l, X_l2i, X_i2b, X_i2s, X_i2c, X_dupr, X_dupi, X_dup_x1, X_dup2, X_popi, X_popr, X_iaload, X_baload, X_laload, X_aaload, X_iastore, X_bastore, X_lastore, X_aastore, X_arraylength, am_wt_0, am_wt_int, am_wt_long, am_wt_ref, List.getElem?_cons_zero, List.getElem?_cons_succ, am_s1, am_s2, am_kill, List.set_cons_zero, List.set_cons_succ, List.length_cons, List.length_nil, Int.reduceToNat, Nat.reduceAdd, Nat.reduceLeDiff, Nat.reduceLT, Option.toList_some, Option.toList_none, List.cons_append, List.nil_append, true_and, and_true, true_or, or_true, false_or, or_false, and_self, false_and, not_false_eq_true, not_true_eq_false, to_k L, to_r0 L, to_r1 L, to_r2 L, to_r3 L, to_r4 L, to_r5 L, to_r6 L, to_a5 L, to_n5 L, to_a6 L, to_n6 L, C_46, c_46, h, bI_t, i10, if_false, in_nI (show k < 8 by omega) (show 8 < 2 ^ 31 by decide), tn_nI (show k < 2 ^ 31 by omega), ne_eq, if_true, a, show ¬ gr g 71 k = 0 by omega, show 5 ≤ gk g (gr g 71 k) by omega, show gk g (gr g 71 k) ≤ 11 by omega, show ¬ gk g (gr g 71 k) ≤ 5 by omega, and_false, Nat.reduceEqDiff]
      rfl
  · simp only [bk_52_0, bq_52_0, bk_52_1, bq_52_1, bk_52_2, bq_52_2, bk_52_3, bq_52_3, bk_52_4, bq_52_4, G_5, N_0, X_push, X_goto, X_fall, X_ifeq, X_ifne, X_iflt, X_ifge, X_ifgt, X_ifle, X_iceq, X_icne, X_iclt, X_icge, X_icgt, X_icle, X_ifnull, X_ifnonnull, X_switch, X_ireturn, X_lreturn, X_areturn, X_return, X_zreturn, X_iload, X_lload, X_aload, X_istore, X_astore, X_lstore, X_iinc, X_iadd, X_isub, X_imul, X_idiv, X_irem, X_iand, X_ior, X_ishl, X_ishr, X_iushr, X_ladd, X_lsub, X_lmul, X_ldiv, X_land, X_lor, X_lshl, X_lcmp, X_ineg, X_i2l, X_l2i, X_i2b, X_i2s, X_i2c, X_dupr, X_dupi, X_dup_x1, X_dup2, X_popi, X_popr, X_iaload, X_baload, X_laload, X_aaload, X_iastore, X_bastore, X_lastore, X_aastore, X_arraylength, am_wt_0, am_wt_int, am_wt_long, am_wt_ref, List.getElem?_cons_zero, List.getElem?_cons_succ, am_s1, am_s2, am_kill, List.set_cons_zero, List.set_cons_succ, List.length_cons, List.length_nil, Int.reduceToNat, Nat.reduceAdd, Nat.reduceLeDiff, Nat.reduceLT, Option.toList_some, Option.toList_none, List.cons_append, List.nil_append, true_and, and_true, true_or, or_true, false_or, or_false, and_self, false_and, not_false_eq_true, not_true_eq_false, to_k L, to_r0 L, to_r1 L, to_r2 L, to_r3 L, to_r4 L, to_r5 L, to_r6 L, to_a5 L, to_n5 L, to_a6 L, to_n6 L, C_46, c_46, h, bI_f, if_true, if_false, Nat.reduceEqDiff]
    rfl
theorem c_53 (R : cR F ci cj g T) (s : Int32) : X (d + 1) 53 (am_bk 53 0) [.ref 32, .int s] [] (ci, cj, g) Q ↔ Q (some (.int (if noRule T s = 5 then 0 else rI (noRule T s)))) (ci, cj, g) := by
  have L := cR_to R
  unfold noRule
  by_cases h : rg s 0 7 = true
  · obtain ⟨k, hk, rfl⟩ := rg_nI (n := 7) h (by decide)
    have C := R.2.2.1 k (by omega)
    rw [tn_nI (by omega)]
    rcases C with ⟨a, b⟩ | ⟨a, b, c, e, -⟩ | ⟨a, b, c, e⟩
    · simp only [bk_53_0, bq_53_0, bk_53_1, bq_53_1, bk_53_2, bq_53_2, bk_53_3, bq_53_3, bk_53_4, bq_53_4, G_5, N_1, X_push, X_goto, X_fall, X_ifeq, X_ifne, X_iflt, X_ifge, X_ifgt, X_ifle, X_iceq, X_icne, X_iclt, X_icge, X_icgt, X_icle, X_ifnull, X_ifnonnull, X_switch, X_ireturn, X_lreturn, X_areturn, X_return, X_zreturn, X_iload, X_lload, X_aload, X_istore, X_astore, X_lstore, X_iinc, X_iadd, X_isub, X_imul, X_idiv, X_irem, X_iand, X_ior, X_ishl, X_ishr, X_iushr, X_ladd, X_lsub, X_lmul, X_ldiv, X_land, X_lor, X_lshl, X_lcmp, X_ineg, X_i2l, X_l2i, X_i2b, X_i2s, X_i2c, X_dupr, X_dupi, X_dup_x1, X_dup2, X_popi, X_popr, X_iaload, X_baload, X_laload, X_aaload, X_iastore, X_bastore, X_lastore, X_aastore, X_arraylength, am_wt_0, am_wt_int, am_wt_long, am_wt_ref, List.getElem?_cons_zero, List.getElem?_cons_succ, am_s1, am_s2, am_kill, List.set_cons_zero, List.set_cons_succ, List.length_cons, List.length_nil, Int.reduceToNat, Nat.reduceAdd, Nat.reduceLeDiff, Nat.reduceLT, Option.toList_some, Option.toList_none, List.cons_append, List.nil_append, true_and, and_true, true_or, or_true, false_or, or_false, and_self, false_and, not_false_eq_true, not_true_eq_false, to_k L, to_r0 L, to_r1 L, to_r2 L, to_r3 L, to_r4 L, to_r5 L, to_r6 L, to_a5 L, to_n5 L, to_a6 L, to_n6 L, C_46, c_46, h, bI_t, i10, if_false, in_nI (show k < 8 by omega) (show 8 < 2 ^ 31 by decide), tn_nI (show k < 2 ^ 31 by omega), b, ne_eq, if_true, a, Nat.reduceEqDiff]
      rfl
    · simp only [bk_53_0, bq_53_0, bk_53_1, bq_53_1, bk_53_2, bq_53_2, bk_53_3, bq_53_3, bk_53_4, bq_53_4, G_5, N_1, X_push, X_goto, X_fall, X_ifeq, X_ifne, X_iflt, X_ifge, X_ifgt, X_ifle, X_iceq, X_icne, X_iclt, X_icge, X_icgt, X_icle, X_ifnull, X_ifnonnull, X_switch, X_ireturn, X_lreturn, X_areturn, X_return, X_zreturn, X_iload, X_lload, X_aload, X_istore, X_astore, X_lstore, X_iinc, X_iadd, X_isub, X_imul, X_idiv, X_irem, X_iand, X_ior, X_ishl, X_ishr, X_iushr, X_ladd, X_lsub, X_lmul, X_ldiv, X_land, X_lor, X_lshl, X_lcmp, X_ineg, X_i2l, X_l2i, X_i2b, X_i2s, X_i2c, X_dupr, X_dupi, X_dup_x1, X_dup2, X_popi, X_popr, X_iaload, X_baload, X_laload, X_aaload, X_iastore, X_bastore, X_lastore, X_aastore, X_arraylength, am_wt_0, am_wt_int, am_wt_long, am_wt_ref, List.getElem?_cons_zero, List.getElem?_cons_succ, am_s1, am_s2, am_kill, List.set_cons_zero, List.set_cons_succ, List.length_cons, List.length_nil, Int.reduceToNat, Nat.reduceAdd, Nat.reduceLeDiff, Nat.reduceLT, Option.toList_some, Option.toList_none, List.cons_append, List.nil_append, true_and, and_true, true_or, or_true, false_or, or_false, and_self, false_and, not_false_eq_true, not_true_eq_false, to_k L, to_r0 L, to_r1 L, to_r2 L, to_r3 L, to_r4 L, to_r5 L, to_r6 L, to_a5 L, to_n5 L, to_a6 L, to_n6 L, C_46, c_46, h, bI_t, i10, if_false, in_nI (show k < 8 by omega) (show 8 < 2 ^ 31 by decide), tn_nI (show k < 2 ^ 31 by omega), b, ne_eq, if_true, a, show ¬ gr g 71 k = 0 by omega, and_false, Nat.reduceEqDiff]
      rfl
    · have e1 := e.1
      have e2 := e.2.1
      have e3 := e.2.2.1
      simp only [bk_53_0, bq_53_0, bk_53_1, bq_53_1, bk_53_2, bq_53_2, bk_53_3, bq_53_3, bk_53_4, bq_53_4, G_5, N_1, X_push, X_goto, X_fall, X_ifeq, X_ifne, X_iflt, X_ifge, X_ifgt, X_ifle, X_iceq, X_icne, X_iclt, X_icge, X_icgt, X_icle, X_ifnull, X_ifnonnull, X_switch, X_ireturn, X_lreturn, X_areturn, X_return, X_zreturn, X_iload, X_lload, X_aload, X_istore, X_astore, X_lstore, X_iinc, X_iadd, X_isub, X_imul, X_idiv, X_irem, X_iand, X_ior, X_ishl, X_ishr, X_iushr, X_ladd, X_lsub, X_lmul, X_ldiv, X_land, X_lor, X_lshl, X_lcmp, X_ineg, X_i2l, X_l2i, X_i2b, X_i2s, X_i2c, X_dupr, X_dupi, X_dup_x1, X_dup2, X_popi, X_popr, X_iaload, X_baload, X_laload, X_aaload, X_iastore, X_bastore, X_lastore, X_aastore, X_arraylength, am_wt_0, am_wt_int, am_wt_long, am_wt_ref, List.getElem?_cons_zero, List.getElem?_cons_succ, am_s1, am_s2, am_kill, List.set_cons_zero, List.set_cons_succ, List.length_cons, List.length_nil, Int.reduceToNat, Nat.reduceAdd, Nat.reduceLeDiff, Nat.reduceLT, Option.toList_some, Option.toList_none, List.cons_append, List.nil_append, true_and, and_true, true_or, or_true, false_or, or_false, and_self, false_and, not_false_eq_true, not_true_eq_false, to_k L, to_r0 L, to_r1 L, to_r2 L, to_r3 L, to_r4 L, to_r5 L, to_r6 L, to_a5 L, to_n5 L, to_a6 L, to_n6 L, C_46, c_46, h, bI_t, i10, if_false, in_nI (show k < 8 by omega) (show 8 < 2 ^ 31 by decide), tn_nI (show k < 2 ^ 31 by omega), ne_eq, if_true, a, show ¬ gr g 71 k = 0 by omega, show 5 ≤ gk g (gr g 71 k) by omega, show gk g (gr g 71 k) ≤ 11 by omega, show 6 ≤ gk g (gr g 71 k) by omega, Nat.reduceEqDiff]
  · simp only [bk_53_0, bq_53_0, bk_53_1, bq_53_1, bk_53_2, bq_53_2, bk_53_3, bq_53_3, bk_53_4, bq_53_4, G_5, N_1, X_push, X_goto, X_fall, X_ifeq, X_ifne, X_iflt, X_ifge, X_ifgt, X_ifle, X_iceq, X_icne, X_iclt, X_icge, X_icgt, X_icle, X_ifnull, X_ifnonnull, X_switch, X_ireturn, X_lreturn, X_areturn, X_return, X_zreturn, X_iload, X_lload, X_aload, X_istore, X_astore, X_lstore, X_iinc, X_iadd, X_isub, X_imul, X_idiv, X_irem, X_iand, X_ior, X_ishl, X_ishr, X_iushr, X_ladd, X_lsub, X_lmul, X_ldiv, X_land, X_lor, X_lshl, X_lcmp, X_ineg, X_i2l, X_l2i, X_i2b, X_i2s, X_i2c, X_dupr, X_dupi, X_dup_x1, X_dup2, X_popi, X_popr, X_iaload, X_baload, X_laload, X_aaload, X_iastore, X_bastore, X_lastore, X_aastore, X_arraylength, am_wt_0, am_wt_int, am_wt_long, am_wt_ref, List.getElem?_cons_zero, List.getElem?_cons_succ, am_s1, am_s2, am_kill, List.set_cons_zero, List.set_cons_succ, List.length_cons, List.length_nil, Int.reduceToNat, Nat.reduceAdd, Nat.reduceLeDiff, Nat.reduceLT, Option.toList_some, Option.toList_none, List.cons_append, List.nil_append, true_and, and_true, true_or, or_true, false_or, or_false, and_self, false_and, not_false_eq_true, not_true_eq_false, to_k L, to_r0 L, to_r1 L, to_r2 L, to_r3 L, to_r4 L, to_r5 L, to_r6 L, to_a5 L, to_n5 L, to_a6 L, to_n6 L, C_46, c_46, h, bI_f, if_true, if_false, Nat.reduceEqDiff]
    rfl
end STATE
