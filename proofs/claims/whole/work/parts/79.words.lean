/-! THE TAPE: tokens, words, numbers; walls told by it -/
def knd (b : Nat) : Nat := if 97 ≤ b ∧ b ≤ 122 then 1 else if 48 ≤ b ∧ b ≤ 57 then 2 else if b = 59 then 3 else 4
def skp (B : Nat → Nat) : Nat → Nat → Nat
  | 0, i => i
  | n + 1, i => if B i = 32 then skp B n (i + 1) else i
def rnw (B : Nat → Nat) (κ : Nat) : Nat → Nat → Nat
  | 0, i => i
  | n + 1, i => if knd (B i) = κ then rnw B κ n (i + 1) else i
/-- a token: where it begins, its kind, where it ends -/
abbrev tk : Type := Nat × Nat × Nat
def nxt (B : Nat → Nat) (L e : Nat) : tk :=
  if skp B (L - e) e < L then (skp B (L - e) e, knd (B (skp B (L - e) e)), if knd (B (skp B (L - e) e)) = 1 ∨ knd (B (skp B (L - e) e)) = 2 then rnw B (knd (B (skp B (L - e) e))) (L - (skp B (L - e) e + 1)) (skp B (L - e) e + 1) else skp B (L - e) e + 1)
  else (skp B (L - e) e, 0, skp B (L - e) e)
theorem skp_b (B : Nat → Nat) : ∀ n i, i ≤ skp B n i ∧ skp B n i ≤ i + n := by
  intro n
  induction n with
  | zero => intro i; exact ⟨Nat.le_refl _, Nat.le_refl _⟩
  | succ n ih =>
    intro i
    unfold skp
    split
    · have := ih (i + 1); omega
    · omega
theorem rnw_b (B : Nat → Nat) (κ : Nat) : ∀ n i, i ≤ rnw B κ n i ∧ rnw B κ n i ≤ i + n ∧ ∀ j, i ≤ j → j < rnw B κ n i → knd (B j) = κ := by
  intro n
  induction n with
  | zero => intro i; exact ⟨Nat.le_refl _, Nat.le_refl _, fun j a b => absurd b (by show ¬ j < i; omega)⟩
  | succ n ih =>
    intro i
    unfold rnw
    split
    · rename_i h
      obtain ⟨a, b, c⟩ := ih (i + 1)
      refine ⟨by omega, by omega, fun j p q => ?_⟩
      by_cases z : j = i
      · rw [z]; exact h
      · exact c j (by omega) q
    · exact ⟨Nat.le_refl _, by omega, fun j a b => absurd b (by omega)⟩
theorem knd_le (b : Nat) : 1 ≤ knd b ∧ knd b ≤ 4 := by
  unfold knd
  split
  · omega
  · split
    · omega
    · split <;> omega
def tkO (B : Nat → Nat) (L : Nat) (t : tk) : Prop := t.1 ≤ t.2.2 ∧ t.2.2 ≤ L ∧ (t.2.1 ≠ 0 → t.1 < t.2.2) ∧ (t.2.1 = 1 ∨ t.2.1 = 2 → ∀ j, t.1 ≤ j → j < t.2.2 → knd (B j) = t.2.1) ∧ t.2.1 ≤ 4
theorem nxt_ok (B : Nat → Nat) {L e : Nat} (he : e ≤ L) : tkO B L (nxt B L e) ∧ e ≤ (nxt B L e).1 := by
  have sb := skp_b B (L - e) e
  unfold nxt
  generalize skp B (L - e) e = a at *
  by_cases h : a < L
  · rw [if_pos h]
    have kl := knd_le (B a)
    by_cases h2 : knd (B a) = 1 ∨ knd (B a) = 2
    · rw [if_pos h2]
      obtain ⟨r1, r2, r3⟩ := rnw_b B (knd (B a)) (L - (a + 1)) (a + 1)
      refine ⟨⟨by dsimp only; omega, by dsimp only; omega, fun _ => by dsimp only; omega, fun _ j p q => ?_, kl.2⟩, sb.1⟩
      by_cases z : j = a
      · rw [z]
      · exact r3 j (by show a + 1 ≤ j; have p' : a ≤ j := p; omega) q
    · rw [if_neg h2]
      exact ⟨⟨by show a ≤ a + 1; omega, by show a + 1 ≤ L; omega, fun _ => by show a < a + 1; omega, fun z => absurd z h2, kl.2⟩, sb.1⟩
  · rw [if_neg h]
    exact ⟨⟨Nat.le_refl _, by show a ≤ L; omega, fun z => absurd rfl z, (fun z => by rcases z with z | z <;> cases z), Nat.zero_le _⟩, sb.1⟩
/-- the letters of the words -/
def wl (i : Nat) : Nat := st_len.getD i 0
def wc (i j : Nat) : Int32 := (st_byt.getD i []).getD j 0
def cmW (B : Nat → Nat) (i a : Nat) : Nat → Nat → Bool
  | 0, _ => true
  | n + 1, j => if nI (B (a + j)) = wc i j then cmW B i a n (j + 1) else false
def isW (B : Nat → Nat) (t : tk) (i : Nat) : Bool := decide (t.2.1 = 1 ∧ t.2.2 - t.1 = wl i) && cmW B i t.1 (wl i) 0
/-- the number of some digits -/
def dg (B : Nat → Nat) : Nat → Nat → Nat → Nat
  | 0, _, v => v
  | n + 1, i, v => dg B n (i + 1) (10 * v + (B i - 48))
def nm (B : Nat → Nat) (t : tk) : Nat := dg B (t.2.2 - t.1) t.1 0
def nmO (B : Nat → Nat) (t : tk) (lo hi : Nat) : Bool := decide (t.2.1 = 2 ∧ t.2.2 - t.1 ≤ 3 ∧ lo ≤ nm B t ∧ nm B t ≤ hi)
/-- perhaps a word and a number: whether it may stand, the fault, the number, the token behind it -/
def pph (B : Nat → Nat) (L : Nat) (t : tk) (i lo un : Nat) : Bool × Nat × Nat × tk :=
  if isW B t i = true then (if nmO B (nxt B L t.2.2) lo 99 = true then (true, 0, nm B (nxt B L t.2.2), nxt B L (nxt B L t.2.2).2.2) else (false, (nxt B L t.2.2).1, 0, nxt B L t.2.2)) else (true, 0, un, t)
/-- a statement: whether it may stand, the fault, the wall, the token behind it -/
abbrev rsT : Type := Bool × Nat × wS × tk
def bad (σ : wS) (t : tk) : rsT := (false, t.1, σ, t)
def pS3 (B : Nat → Nat) (L : Nat) (σ : wS) (z c : Nat) (t : tk) : rsT :=
  if (pph B L t 2 1 10).1 = true then
    (if (pph B L (pph B L t 2 1 10).2.2.2 3 0 5).1 = true then (true, 0, addS σ z c (pph B L t 2 1 10).2.2.1 (pph B L (pph B L t 2 1 10).2.2.2 3 0 5).2.2.1, (pph B L (pph B L t 2 1 10).2.2.2 3 0 5).2.2.2)
    else (false, (pph B L (pph B L t 2 1 10).2.2.2 3 0 5).2.1, σ, t))
  else (false, (pph B L t 2 1 10).2.1, σ, t)
def pS2 (B : Nat → Nat) (L : Nat) (σ : wS) (z : Nat) (t : tk) : rsT :=
  if isW B t 1 = true then (if nmO B (nxt B L t.2.2) 0 (100 - csum (sCo σ) (sCn σ)) = true then pS3 B L σ z (nm B (nxt B L t.2.2)) (nxt B L (nxt B L t.2.2).2.2) else bad σ (nxt B L t.2.2)) else bad σ t
def pS1 (B : Nat → Nat) (L : Nat) (σ : wS) (t : tk) : rsT :=
  if nmO B t 0 2 = true then pS2 B L σ (nm B t) (nxt B L t.2.2) else bad σ t
def pB2 (B : Nat → Nat) (L : Nat) (σ : wS) (z : Nat) (t : tk) : rsT :=
  if nmO B t (sFl σ z) 4 = true then (true, 0, wBx σ (am_u1 (sBx σ) z (nm B t)), nxt B L t.2.2) else bad σ t
def pG2 (B : Nat → Nat) (L : Nat) (σ : wS) (z : Nat) (t : tk) : rsT :=
  if nmO B t 0 10 = true then (true, 0, wGs σ (am_u1 (sGo σ) z (nm B t)), nxt B L t.2.2) else bad σ t
def stm (B : Nat → Nat) (L : Nat) (σ : wS) (t : tk) : rsT :=
  if isW B t 0 = true then (if sCn σ < 6 then pS1 B L σ (nxt B L t.2.2) else bad σ t)
  else if isW B t 4 = true then (if nmO B (nxt B L t.2.2) 0 2 = true then pB2 B L σ (nm B (nxt B L t.2.2)) (nxt B L (nxt B L t.2.2).2.2) else bad σ (nxt B L t.2.2))
  else if isW B t 5 = true then (if nmO B (nxt B L t.2.2) 0 2 = true then pG2 B L σ (nm B (nxt B L t.2.2)) (nxt B L (nxt B L t.2.2).2.2) else bad σ (nxt B L t.2.2))
  else if isW B t 6 = true then (if nmO B (nxt B L t.2.2) 0 10 = true then (true, 0, wNe σ (nm B (nxt B L t.2.2)), nxt B L (nxt B L t.2.2).2.2) else bad σ (nxt B L t.2.2))
  else if isW B t 7 = true then (if nmO B (nxt B L t.2.2) 0 99 = true then (true, 0, wWa σ (nm B (nxt B L t.2.2)), nxt B L (nxt B L t.2.2).2.2) else bad σ (nxt B L t.2.2))
  else bad σ t
/-- statements: whether they may stand; how many, or the fault; the wall -/
def rdW (B : Nat → Nat) (L : Nat) : Nat → Nat → wS → tk → Bool × Nat × wS
  | 0, _, σ, _ => (false, L, σ)
  | n + 1, k, σ, t => if (stm B L σ t).1 = true then
      (if (stm B L σ t).2.2.2.2.1 = 0 then (true, k, (stm B L σ t).2.2.1)
      else if (stm B L σ t).2.2.2.2.1 = 3 then rdW B L n (k + 1) (stm B L σ t).2.2.1 (nxt B L (stm B L σ t).2.2.2.2.2)
      else (false, (stm B L σ t).2.2.2.1, σ))
    else (false, (stm B L σ t).2.1, σ)
def rdA (T : tS) : Bool × Nat × wS := rdW (tB T) (tL T) 200 1 (tW T) (nxt (tB T) (tL T) 0)
def q_wall (T : tS) : Int32 × tS := if (rdA T).1 = true then (nI (rdA T).2.1, stT (stW T (rdA T).2.2) 0 (tB T)) else ((-20 : Int32) - nI (rdA T).2.1, rfT (stT T 0 (tB T)) 0)
theorem pph_ok {B : Nat → Nat} {L : Nat} {t : tk} (ht : tkO B L t) (i lo un : Nat) : tkO B L (pph B L t i lo un).2.2.2 ∧ t.1 ≤ (pph B L t i lo un).2.2.2.1 ∧ (lo ≤ un → un ≤ 99 → (pph B L t i lo un).1 = true → lo ≤ (pph B L t i lo un).2.2.1 ∧ (pph B L t i lo un).2.2.1 ≤ 99) ∧ (pph B L t i lo un).2.1 ≤ L := by
  unfold pph
  have a := nxt_ok B ht.2.1
  have b := nxt_ok B a.1.2.1
  have t1 := ht.1
  have t2 := a.1.1
  have t3 := a.1.2.1
  split
  · split
    · rename_i h
      have h' := of_decide_eq_true h
      exact ⟨b.1, by dsimp only; omega, fun _ _ _ => ⟨h'.2.2.1, h'.2.2.2⟩, Nat.zero_le _⟩
    · exact ⟨a.1, by dsimp only; omega, (fun _ _ z => by cases z), by dsimp only; omega⟩
  · exact ⟨ht, Nat.le_refl _, fun p q _ => ⟨p, q⟩, Nat.zero_le _⟩
theorem isW_1 {B : Nat → Nat} {t : tk} {i : Nat} (h : isW B t i = true) : t.2.1 = 1 ∧ t.2.2 - t.1 = wl i := by
  unfold isW at h
  rw [Bool.and_eq_true] at h
  exact of_decide_eq_true h.1
theorem wl_3 : ∀ i, i < 8 → 3 ≤ wl i ∧ wl i ≤ 5 := by decide
/-- what a statement leaves -/
theorem stm_ok {B : Nat → Nat} {L : Nat} {σ : wS} {t : tk} (O : wOK σ) (ht : tkO B L t) : (stm B L σ t).2.1 ≤ L ∧ ((stm B L σ t).1 = true → wOK (stm B L σ t).2.2.1 ∧ tkO B L (stm B L σ t).2.2.2 ∧ t.1 + 3 ≤ (stm B L σ t).2.2.2.1) := by
  have a := nxt_ok B ht.2.1
  have b := nxt_ok B a.1.2.1
  have t0 := ht.1
  have t0' := ht.2.1
  have t1 := a.1.1
  have t2 := b.1.1
  have t3 := a.1.2.1
  have t4 := b.1.2.1
  have hs := O.2.2.2.1
  have bd : ∀ u : tk, u.1 ≤ L → (bad σ u).2.1 ≤ L ∧ ((bad σ u).1 = true → wOK (bad σ u).2.2.1 ∧ tkO B L (bad σ u).2.2.2 ∧ t.1 + 3 ≤ (bad σ u).2.2.2.1) := fun u hu => ⟨hu, fun z => by cases z⟩
  have w3 : ∀ i, i < 8 → isW B t i = true → t.1 + 3 ≤ t.2.2 := fun i hi h => by
    have := (isW_1 h).2
    have := (wl_3 i hi).1
    omega
  unfold stm
  split
  · rename_i h0
    have w := w3 0 (by decide) h0
    split
    · rename_i h6
      unfold pS1
      split
      · rename_i h1
        have v1 := of_decide_eq_true h1
        unfold pS2
        split
        · rename_i h2
          have c := nxt_ok B b.1.2.1
          have e := nxt_ok B c.1.2.1
          have t5 := c.1.1
          have t6 := c.1.2.1
          have t7 := e.1.1
          split
          · rename_i h3
            have v3 := of_decide_eq_true h3
            unfold pS3
            have p1 := pph_ok e.1 2 1 10
            have p2 := pph_ok p1.1 3 0 5
            split
            · rename_i h4
              split
              · rename_i h5
                have q1 := p1.2.2.1 (by decide) (by decide) h4
                have q2 := p2.2.2.1 (by decide) (by decide) h5
                refine ⟨Nat.zero_le _, fun _ => ⟨addS_ok O (by omega) (by omega) ⟨by omega, by omega⟩ (by omega) (by omega) h6, p2.1, ?_⟩⟩
                have := p1.2.1
                have := p2.2.1
                dsimp only
                omega
              · exact ⟨p2.2.2.2, fun z => by cases z⟩
            · exact ⟨p1.2.2.2, fun z => by cases z⟩
          · exact bd _ (by omega)
        · exact bd _ (by omega)
      · exact bd _ (by omega)
    · exact bd _ (by omega)
  · split
    · rename_i h0
      have w := w3 4 (by decide) h0
      split
      · rename_i h1
        have v1 := of_decide_eq_true h1
        unfold pB2
        have c := nxt_ok B b.1.2.1
        split
        · rename_i h2
          have v2 := of_decide_eq_true h2
          refine ⟨Nat.zero_le _, fun _ => ⟨wOK_bx O (fun j hj => ?_), c.1, by dsimp only; omega⟩⟩
          have o := O.1 j hj
          unfold am_u1
          split
          · subst_vars; omega
          · exact ⟨o.1, o.2.1⟩
        · exact bd _ (by omega)
      · exact bd _ (by omega)
    · split
      · rename_i h0
        have w := w3 5 (by decide) h0
        split
        · rename_i h1
          have v1 := of_decide_eq_true h1
          unfold pG2
          have c := nxt_ok B b.1.2.1
          split
          · rename_i h2
            have v2 := of_decide_eq_true h2
            refine ⟨Nat.zero_le _, fun _ => ⟨⟨fun j hj => ?_, O.2⟩, c.1, by dsimp only; omega⟩⟩
            have o := O.1 j hj
            refine ⟨o.1, o.2.1, ?_⟩
            show am_u1 (sGo σ) _ _ j ≤ 10
            unfold am_u1
            split
            · omega
            · exact o.2.2
          · exact bd _ (by omega)
        · exact bd _ (by omega)
      · split
        · rename_i h0
          have w := w3 6 (by decide) h0
          split
          · rename_i h1
            have v1 := of_decide_eq_true h1
            exact ⟨Nat.zero_le _, fun _ => ⟨⟨O.1, O.2.1, O.2.2.1, O.2.2.2.1, v1.2.2.2, O.2.2.2.2.2⟩, b.1, by dsimp only; omega⟩⟩
          · exact bd _ (by omega)
        · split
          · rename_i h0
            have w := w3 7 (by decide) h0
            split
            · rename_i h1
              have v1 := of_decide_eq_true h1
              exact ⟨Nat.zero_le _, fun _ => ⟨⟨O.1, O.2.1, O.2.2.1, O.2.2.2.1, O.2.2.2.2.1, v1.2.2.2⟩, b.1, by dsimp only; omega⟩⟩
            · exact bd _ (by omega)
          · exact bd _ (by omega)
theorem rdW_ok {B : Nat → Nat} {L : Nat} : ∀ n k σ t, wOK σ → tkO B L t → (rdW B L n k σ t).2.1 ≤ L + n + k ∧ ((rdW B L n k σ t).1 = true → wOK (rdW B L n k σ t).2.2 ∧ (rdW B L n k σ t).2.1 ≤ n + k) ∧ ((rdW B L n k σ t).1 = false → (rdW B L n k σ t).2.1 ≤ L) := by
  intro n
  induction n with
  | zero => intro k σ t O ht; exact ⟨by show L ≤ _; omega, fun z => (by cases z), fun _ => Nat.le_refl _⟩
  | succ n ih =>
    intro k σ t O ht
    obtain ⟨s1, s2⟩ := stm_ok O ht
    unfold rdW
    split
    · rename_i h
      obtain ⟨o1, o2, o3⟩ := s2 h
      split
      · exact ⟨by dsimp only; omega, fun _ => ⟨o1, by dsimp only; omega⟩, fun z => by cases z⟩
      · split
        · have nx := nxt_ok B o2.2.1
          obtain ⟨i1, i2, i3⟩ := ih (k + 1) _ _ o1 nx.1
          exact ⟨by omega, fun z => ⟨(i2 z).1, by have := (i2 z).2; omega⟩, i3⟩
        · have := o2.1
          have := o2.2.1
          exact ⟨by dsimp only; omega, fun z => (by cases z), fun _ => by dsimp only; omega⟩
    · exact ⟨by dsimp only; omega, fun z => (by cases z), fun _ => s1⟩
/-! the JDK's String -/
theorem wc_1 : ∀ i, i < 8 → ∀ j, j < wl i → ((wc i j &&& 255).toUInt32 % 65536).toInt32 = wc i j ∧ 97 ≤ (wc i j).toInt ∧ (wc i j).toInt ≤ 122 := by decide
theorem wc_2 : ∀ i, i < 8 → ∀ j, j < wl i → narrow .char (.int (wc i j)) = .int (wc i j) := by decide
theorem wl_s : ∀ i, i < 8 → nI (wl i) >>> ((0 : Int32) &&& 31) = nI (wl i) := by decide
section STR
variable {d : Nat} {ci : Nat → Nat → Int32} {cj : Nat → Nat → Int64} {g : am_G} {Q : Option Value → am_H → Prop}
theorem so_40 (G : so g) {i : Nat} (hi : i < 8) : gk g (2 + i) = 40 ∧ gr g (2 + i) 0 = 12 + i ∧ gk g (12 + i) = 31 ∧ gn g (12 + i) = wl i := ⟨G.2.2.1 i hi, G.2.2.2.1 i hi, G.2.2.2.2.1 i hi, G.2.2.2.2.2 i hi⟩
theorem c_242 (G : so g) {i : Nat} (hi : i < 8) : X (d + 1) 242 (am_bk 242 0) [.ref (2 + i)] [] (ci, cj, g) Q ↔ Q (some (.int (nI (wl i)))) (ci, cj, g) := by
  obtain ⟨a, b, c, e⟩ := so_40 G hi
  have h := wl_s i hi
  have c240 : ∀ Q' : Option Value → am_H → Prop, X d 240 (am_bk 240 0) [.ref (2 + i)] [] (ci, cj, g) Q' ↔ Q' (some (.int 0)) (ci, cj, g) := by
    intro Q'
    simp only [bk_240_0, bq_240_0, bk_240_2, bq_240_2, X_push, X_goto, X_fall, X_ifeq, X_ifne, X_iflt, X_ifge, X_ifgt, X_ifle, X_iceq, X_icne, X_iclt, X_icge, X_icgt, X_icle, X_ifnull, X_ifnonnull, X_switch, X_ireturn, X_lreturn, X_areturn, X_return, X_zreturn, X_iload, X_lload, X_aload, X_istore, X_astore, X_lstore, X_iinc, X_iadd, X_isub, X_imul, X_idiv, X_irem, X_iand, X_ior, X_ishl, X_ishr, X_iushr, X_ladd, X_lsub, X_lmul, X_ldiv, X_land, X_lor, X_lshl, X_lcmp, X_ineg, X_i2l, X_l2i, X_i2b, X_i2s, X_i2c, X_dupr, X_dupi, X_dup_x1, X_dup2, X_popi, X_popr, X_iaload, X_baload, X_laload, X_aaload, X_iastore, X_bastore, X_lastore, X_aastore, X_arraylength, am_wt_0, am_wt_int, am_wt_long, am_wt_ref, List.getElem?_cons_zero, List.getElem?_cons_succ, am_s1, am_s2, am_kill, List.set_cons_zero, List.set_cons_succ, List.length_cons, List.length_nil, Int.reduceToNat, Nat.reduceAdd, Nat.reduceLeDiff, Nat.reduceLT, Option.toList_some, Option.toList_none, List.cons_append, List.nil_append, true_and, and_true, true_or, or_true, false_or, or_false, and_self, false_and, not_false_eq_true, not_true_eq_false, X_strc, X_breturn, a, i10, if_false, show ((0 : Int32).toInt8.toInt32 = 0) = True from eq_true rfl]
  simp only [bk_242_0, bq_242_0, X_push, X_goto, X_fall, X_ifeq, X_ifne, X_iflt, X_ifge, X_ifgt, X_ifle, X_iceq, X_icne, X_iclt, X_icge, X_icgt, X_icle, X_ifnull, X_ifnonnull, X_switch, X_ireturn, X_lreturn, X_areturn, X_return, X_zreturn, X_iload, X_lload, X_aload, X_istore, X_astore, X_lstore, X_iinc, X_iadd, X_isub, X_imul, X_idiv, X_irem, X_iand, X_ior, X_ishl, X_ishr, X_iushr, X_ladd, X_lsub, X_lmul, X_ldiv, X_land, X_lor, X_lshl, X_lcmp, X_ineg, X_i2l, X_l2i, X_i2b, X_i2s, X_i2c, X_dupr, X_dupi, X_dup_x1, X_dup2, X_popi, X_popr, X_iaload, X_baload, X_laload, X_aaload, X_iastore, X_bastore, X_lastore, X_aastore, X_arraylength, am_wt_0, am_wt_int, am_wt_long, am_wt_ref, List.getElem?_cons_zero, List.getElem?_cons_succ, am_s1, am_s2, am_kill, List.set_cons_zero, List.set_cons_succ, List.length_cons, List.length_nil, Int.reduceToNat, Nat.reduceAdd, Nat.reduceLeDiff, Nat.reduceLT, Option.toList_some, Option.toList_none, List.cons_append, List.nil_append, true_and, and_true, true_or, or_true, false_or, or_false, and_self, false_and, not_false_eq_true, not_true_eq_false, X_strv, a, b, c, e, Nat.reduceLeDiff, C_240, c240, show Int32.ofNat (wl i) = nI (wl i) from rfl, h]
theorem c_238 (G : so g) (S : sc ci) {i j : Nat} (hi : i < 8) (hj : j < wl i) : X (d + 3) 238 (am_bk 238 0) [.ref (2 + i), .int (nI j)] [] (ci, cj, g) Q ↔ Q (some (.int (wc i j))) (ci, cj, g) := by
  obtain ⟨a, b, c, e⟩ := so_40 G hi
  obtain ⟨h1, -⟩ := wc_1 i hi j hj
  have h2 := wc_2 i hi j hj
  have h5 := (wl_3 i hi).2
  have hc : ci (12 + i) j = wc i j := S.2.2.2 i hi j
  have c241 : ∀ Q' : Option Value → am_H → Prop, X (d + 2) 241 (am_bk 241 0) [.ref (2 + i)] [] (ci, cj, g) Q' ↔ Q' (some (.int 1)) (ci, cj, g) := by
    intro Q'
    simp only [bk_241_0, bq_241_0, bk_241_2, bq_241_2, X_push, X_goto, X_fall, X_ifeq, X_ifne, X_iflt, X_ifge, X_ifgt, X_ifle, X_iceq, X_icne, X_iclt, X_icge, X_icgt, X_icle, X_ifnull, X_ifnonnull, X_switch, X_ireturn, X_lreturn, X_areturn, X_return, X_zreturn, X_iload, X_lload, X_aload, X_istore, X_astore, X_lstore, X_iinc, X_iadd, X_isub, X_imul, X_idiv, X_irem, X_iand, X_ior, X_ishl, X_ishr, X_iushr, X_ladd, X_lsub, X_lmul, X_ldiv, X_land, X_lor, X_lshl, X_lcmp, X_ineg, X_i2l, X_l2i, X_i2b, X_i2s, X_i2c, X_dupr, X_dupi, X_dup_x1, X_dup2, X_popi, X_popr, X_iaload, X_baload, X_laload, X_aaload, X_iastore, X_bastore, X_lastore, X_aastore, X_arraylength, am_wt_0, am_wt_int, am_wt_long, am_wt_ref, List.getElem?_cons_zero, List.getElem?_cons_succ, am_s1, am_s2, am_kill, List.set_cons_zero, List.set_cons_succ, List.length_cons, List.length_nil, Int.reduceToNat, Nat.reduceAdd, Nat.reduceLeDiff, Nat.reduceLT, Option.toList_some, Option.toList_none, List.cons_append, List.nil_append, true_and, and_true, true_or, or_true, false_or, or_false, and_self, false_and, not_false_eq_true, not_true_eq_false, X_strc, a, i10, if_false, not_true_eq_false]
  have g0 : ¬ nI j < 0 := by rw [lit_0, nI_lti (by omega) (by omega)]; omega
  have g1 : nI j < nI (wl i) := by rw [nI_lti (by omega) (by omega)]; omega
  have c244 : ∀ (z : UInt32) (Q' : Option Value → am_H → Prop), X d 244 (am_bk 244 0) [.int (nI j), .int (nI (wl i)), .float z] [] (ci, cj, g) Q' ↔ Q' (some (.int (nI j))) (ci, cj, g) := by
    intro z Q'
    simp only [bk_244_0, bq_244_0, bk_244_2, bq_244_2, X_push, X_goto, X_fall, X_ifeq, X_ifne, X_iflt, X_ifge, X_ifgt, X_ifle, X_iceq, X_icne, X_iclt, X_icge, X_icgt, X_icle, X_ifnull, X_ifnonnull, X_switch, X_ireturn, X_lreturn, X_areturn, X_return, X_zreturn, X_iload, X_lload, X_aload, X_istore, X_astore, X_lstore, X_iinc, X_iadd, X_isub, X_imul, X_idiv, X_irem, X_iand, X_ior, X_ishl, X_ishr, X_iushr, X_ladd, X_lsub, X_lmul, X_ldiv, X_land, X_lor, X_lshl, X_lcmp, X_ineg, X_i2l, X_l2i, X_i2b, X_i2s, X_i2c, X_dupr, X_dupi, X_dup_x1, X_dup2, X_popi, X_popr, X_iaload, X_baload, X_laload, X_aaload, X_iastore, X_bastore, X_lastore, X_aastore, X_arraylength, am_wt_0, am_wt_int, am_wt_long, am_wt_ref, List.getElem?_cons_zero, List.getElem?_cons_succ, am_s1, am_s2, am_kill, List.set_cons_zero, List.set_cons_succ, List.length_cons, List.length_nil, Int.reduceToNat, Nat.reduceAdd, Nat.reduceLeDiff, Nat.reduceLT, Option.toList_some, Option.toList_none, List.cons_append, List.nil_append, true_and, and_true, true_or, or_true, false_or, or_false, and_self, false_and, not_false_eq_true, not_true_eq_false, g0, g1, if_false, if_true]
  have c239 : ∀ Q' : Option Value → am_H → Prop, X (d + 1) 239 (am_bk 239 0) [.int (nI j), .int (nI (wl i))] [] (ci, cj, g) Q' ↔ Q' none (ci, cj, g) := by
    intro Q'
    simp only [bk_239_0, bq_239_0, X_push, X_goto, X_fall, X_ifeq, X_ifne, X_iflt, X_ifge, X_ifgt, X_ifle, X_iceq, X_icne, X_iclt, X_icge, X_icgt, X_icle, X_ifnull, X_ifnonnull, X_switch, X_ireturn, X_lreturn, X_areturn, X_return, X_zreturn, X_iload, X_lload, X_aload, X_istore, X_astore, X_lstore, X_iinc, X_iadd, X_isub, X_imul, X_idiv, X_irem, X_iand, X_ior, X_ishl, X_ishr, X_iushr, X_ladd, X_lsub, X_lmul, X_ldiv, X_land, X_lor, X_lshl, X_lcmp, X_ineg, X_i2l, X_l2i, X_i2b, X_i2s, X_i2c, X_dupr, X_dupi, X_dup_x1, X_dup2, X_popi, X_popr, X_iaload, X_baload, X_laload, X_aaload, X_iastore, X_bastore, X_lastore, X_aastore, X_arraylength, am_wt_0, am_wt_int, am_wt_long, am_wt_ref, List.getElem?_cons_zero, List.getElem?_cons_succ, am_s1, am_s2, am_kill, List.set_cons_zero, List.set_cons_succ, List.length_cons, List.length_nil, Int.reduceToNat, Nat.reduceAdd, Nat.reduceLeDiff, Nat.reduceLT, Option.toList_some, Option.toList_none, List.cons_append, List.nil_append, true_and, and_true, true_or, or_true, false_or, or_false, and_self, false_and, not_false_eq_true, not_true_eq_false, C_244, c244]
  have c243 : ∀ Q' : Option Value → am_H → Prop, X (d + 2) 243 (am_bk 243 0) [.ref (12 + i), .int (nI j)] [] (ci, cj, g) Q' ↔ Q' (some (.int (wc i j))) (ci, cj, g) := by
    intro Q'
    simp only [bk_243_0, bq_243_0, X_push, X_goto, X_fall, X_ifeq, X_ifne, X_iflt, X_ifge, X_ifgt, X_ifle, X_iceq, X_icne, X_iclt, X_icge, X_icgt, X_icle, X_ifnull, X_ifnonnull, X_switch, X_ireturn, X_lreturn, X_areturn, X_return, X_zreturn, X_iload, X_lload, X_aload, X_istore, X_astore, X_lstore, X_iinc, X_iadd, X_isub, X_imul, X_idiv, X_irem, X_iand, X_ior, X_ishl, X_ishr, X_iushr, X_ladd, X_lsub, X_lmul, X_ldiv, X_land, X_lor, X_lshl, X_lcmp, X_ineg, X_i2l, X_l2i, X_i2b, X_i2s, X_i2c, X_dupr, X_dupi, X_dup_x1, X_dup2, X_popi, X_popr, X_iaload, X_baload, X_laload, X_aaload, X_iastore, X_bastore, X_lastore, X_aastore, X_arraylength, am_wt_0, am_wt_int, am_wt_long, am_wt_ref, List.getElem?_cons_zero, List.getElem?_cons_succ, am_s1, am_s2, am_kill, List.set_cons_zero, List.set_cons_succ, List.length_cons, List.length_nil, Int.reduceToNat, Nat.reduceAdd, Nat.reduceLeDiff, Nat.reduceLT, Option.toList_some, Option.toList_none, List.cons_append, List.nil_append, true_and, and_true, true_or, or_true, false_or, or_false, and_self, false_and, not_false_eq_true, not_true_eq_false, X_creturn, c, e, Nat.reduceLeDiff, show Int32.ofNat (wl i) = nI (wl i) from rfl, C_239, c239, in_nI hj (show wl i < 2 ^ 31 by omega), tn_nI (show j < 2 ^ 31 by omega), hc, h1, h2]
  simp only [bk_238_0, bq_238_0, X_push, X_goto, X_fall, X_ifeq, X_ifne, X_iflt, X_ifge, X_ifgt, X_ifle, X_iceq, X_icne, X_iclt, X_icge, X_icgt, X_icle, X_ifnull, X_ifnonnull, X_switch, X_ireturn, X_lreturn, X_areturn, X_return, X_zreturn, X_iload, X_lload, X_aload, X_istore, X_astore, X_lstore, X_iinc, X_iadd, X_isub, X_imul, X_idiv, X_irem, X_iand, X_ior, X_ishl, X_ishr, X_iushr, X_ladd, X_lsub, X_lmul, X_ldiv, X_land, X_lor, X_lshl, X_lcmp, X_ineg, X_i2l, X_l2i, X_i2b, X_i2s, X_i2c, X_dupr, X_dupi, X_dup_x1, X_dup2, X_popi, X_popr, X_iaload, X_baload, X_laload, X_aaload, X_iastore, X_bastore, X_lastore, X_aastore, X_arraylength, am_wt_0, am_wt_int, am_wt_long, am_wt_ref, List.getElem?_cons_zero, List.getElem?_cons_succ, am_s1, am_s2, am_kill, List.set_cons_zero, List.set_cons_succ, List.length_cons, List.length_nil, Int.reduceToNat, Nat.reduceAdd, Nat.reduceLeDiff, Nat.reduceLT, Option.toList_some, Option.toList_none, List.cons_append, List.nil_append, true_and, and_true, true_or, or_true, false_or, or_false, and_self, false_and, not_false_eq_true, not_true_eq_false, X_strv, X_creturn, a, b, C_241, c241, i10, if_false, C_243, c243, h2]
end STR
