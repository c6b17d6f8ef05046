/-! BOTH: the class and the model side by side -/
theorem mR_g {M : Nat → Prop} {ci ci' : Nat → Nat → Int32} {cj cj' : Nat → Nat → Int64} {g g' : am_G} {T : tS} (h1 : ∀ a, (M a ∨ a < 32) → g'.2.1 a = g.2.1 a) (h2 : ∀ a i, (M a ∨ a < 32) → gr g' a i = gr g a i) (h4 : ∀ a, (M a ∨ a < 32) → ci' a = ci a ∧ cj' a = cj a) (R : mR M ci cj g T) : mR M ci' cj' g' T := by
  obtain ⟨⟨G, H, hM⟩, ⟨d1, d2, d3, d4, d5, d6⟩, K, Tr, A, P⟩ := R
  have c : ∀ x, 73 ≤ x → x < 141 → ci' x = ci x := fun x p q => (h4 x (Or.inl (hM x p q))).1
  have cc : ∀ x, 73 ≤ x → x < 141 → cj' x = cj x := fun x p q => (h4 x (Or.inl (hM x p q))).2
  have e18 : gr g' 73 18 = gr g 73 18 := h2 73 18 (Or.inl (hM 73 (by decide) (by decide)))
  have e19 : gr g' 73 19 = gr g 73 19 := h2 73 19 (Or.inl (hM 73 (by decide) (by decide)))
  have own : ∀ a, mOwn M g a → mOwn M g' a := fun a o => ⟨o.1, mo_g (fun x p q => h1 x (Or.inl (o.2.2 x p q))) (fun x i p q _ => h2 x i (Or.inl (o.2.2 x p q))) o.2.1, o.2.2⟩
  refine ⟨⟨so_g (fun x h => h1 x (Or.inr h)) (fun x y h => h2 x y (Or.inr h)) G, mo_g (fun x p q => h1 x (Or.inl (hM x p (by omega)))) (fun x i p q _ => h2 x i (Or.inl (hM x p (by omega)))) H, hM⟩, ⟨sc_fr d1 (fun a ha => (h4 a (Or.inr ha)).1), mW_fr P.1 (fun x a b => c x (by omega) (by omega)) (by rw [c 73 (by decide) (by decide)]) (by rw [c 73 (by decide) (by decide)]) d2, ?_, fun i hi => ?_, fun i hi => ?_, fun s hs => ?_⟩, ?_, ?_, ?_, P⟩
  · rw [c 73 (by decide) (by decide)]; exact d3
  · rw [c 89 (by decide) (by decide)]; exact d4 i hi
  · rw [c 90 (by decide) (by decide)]; exact d5 i hi
  · unfold mS
    rw [c 74 (by decide) (by decide), c 75 (by decide) (by decide), c 76 (by decide) (by decide), c 87 (by decide) (by decide), c 88 (by decide) (by decide), cc (78 + s) (by omega) (by omega)]
    exact d6 s hs
  · unfold mKp
    rw [e18]
    rcases K with k | ⟨k1, k2, k3⟩
    · exact Or.inl k
    · have o := k2.2.2
      exact Or.inr ⟨k1, own _ k2, mW_fr P.2.1 (fun x a b => (h4 x (Or.inl (o x (by omega) (by omega)))).1) (by rw [(h4 _ (Or.inl (o _ (Nat.le_refl _) (by omega)))).1]) (by rw [(h4 _ (Or.inl (o _ (Nat.le_refl _) (by omega)))).1]) k3⟩
  · unfold mTr
    rw [e19]
    rcases Tr with t | t
    · exact Or.inl t
    · exact Or.inr (own _ t)
  · unfold mAp
    rw [e18, e19]
    exact A
/-- both, behind n calls; the script L, xs is as it was -/
def bO (L : Nat) (xs : Nat → Int32) (n : Nat) (F M : Nat → Prop) (Tc Tm : tS) (ci : Nat → Nat → Int32) (cj : Nat → Nat → Int64) (g : am_G) : Prop := cR F ci cj g Tc ∧ mR M ci cj g Tm ∧ (∀ a, F a → 32 ≤ a ∧ a < g.2.2.1 + 32) ∧ (∀ a, M a → 32 ≤ a ∧ a < g.2.2.1 + 32) ∧ (∀ a, F a → M a → False) ∧ (109 ≤ g.2.2.1 ∧ g.2.2.1 ≤ 109 + 100 * n ∧ g.2.2.2 ≤ 10000 + 20000 * n) ∧ ci 10 = xs ∧ gk g 10 = 30 ∧ gn g 10 = L
section BOTH
variable {L : Nat} {xs : Nat → Int32} {n : Nat} {F F' M M' : Nat → Prop} {T T' : tS} {ci ci' : Nat → Nat → Int32} {cj cj' : Nat → Nat → Int64} {g g' : am_G}
theorem ls_c (S : bO L xs n F M T T ci cj g) (R : cR F' ci' cj' g' T') (G : gx F g F' g') (f : frm F' ci cj ci' cj') : bO L xs (n + 1) F' M T' T ci' cj' g' := by
  obtain ⟨s1, s2, s3, s4, s5, ⟨s6, s7, s8⟩, s9, s10, s11⟩ := S
  obtain ⟨g1, g2, g3, g4, g5, g6⟩ := G
  have nF : ∀ a, (M a ∨ a < 32) → ¬ F' a := fun a h z => by
    rcases g2 a z with y | y
    · rcases h with h | h
      · exact s5 a y h
      · have := s3 a y; omega
    · rcases h with h | h
      · have := s4 a h; omega
      · omega
  have q : 109 ≤ g'.2.2.1 ∧ g'.2.2.1 ≤ 109 + 100 * (n + 1) ∧ g'.2.2.2 ≤ 10000 + 20000 * (n + 1) := by
    refine ⟨Nat.le_trans s6 g4, ?_, ?_⟩
    · rw [Nat.mul_add]; exact Nat.le_trans g5 (by rw [← Nat.add_assoc]; exact Nat.add_le_add_right s7 _)
    · rw [Nat.mul_add]; exact Nat.le_trans g6 (by rw [← Nat.add_assoc]; exact Nat.add_le_add_right s8 _)
  refine ⟨R, mR_g (fun a h => (g3 a (nF a h)).2) (fun a i h => (g3 a (nF a h)).1 i) (fun a h => f a (nF a h)) s2, fun a h => ?_, fun a h => ?_, fun a h1 h2 => nF a (Or.inl h2) h1, q, ?_, ?_, ?_⟩
  · rcases g2 a h with y | y
    · have := s3 a y; omega
    · omega
  · have := s4 a h; omega
  · rw [(f 10 (nF 10 (Or.inr (by decide)))).1]; exact s9
  · have := (g3 10 (nF 10 (Or.inr (by decide)))).2
    unfold gk
    rw [this]
    exact s10
  · have := (g3 10 (nF 10 (Or.inr (by decide)))).2
    unfold gn
    rw [this]
    exact s11
theorem ls_m (S : bO L xs n F M T' T ci cj g) (R : mR M' ci' cj' g' T') (G : gx M g M' g') (f : frm M' ci cj ci' cj') : bO L xs (n + 1) F M' T' T' ci' cj' g' := by
  obtain ⟨s1, s2, s3, s4, s5, ⟨s6, s7, s8⟩, s9, s10, s11⟩ := S
  obtain ⟨g1, g2, g3, g4, g5, g6⟩ := G
  have nF : ∀ a, (F a ∨ a < 32) → ¬ M' a := fun a h z => by
    rcases g2 a z with y | y
    · rcases h with h | h
      · exact s5 a h y
      · have := s4 a y; omega
    · rcases h with h | h
      · have := s3 a h; omega
      · omega
  have q : 109 ≤ g'.2.2.1 ∧ g'.2.2.1 ≤ 109 + 100 * (n + 1) ∧ g'.2.2.2 ≤ 10000 + 20000 * (n + 1) := by
    refine ⟨Nat.le_trans s6 g4, ?_, ?_⟩
    · rw [Nat.mul_add]; exact Nat.le_trans g5 (by rw [← Nat.add_assoc]; exact Nat.add_le_add_right s7 _)
    · rw [Nat.mul_add]; exact Nat.le_trans g6 (by rw [← Nat.add_assoc]; exact Nat.add_le_add_right s8 _)
  refine ⟨cR_g (fun a h => (g3 a (nF a h)).2) (fun a i h => (g3 a (nF a h)).1 i) (fun a h => f a (nF a h)) (fun a h => h) s1, R, fun a h => ?_, fun a h => ?_, fun a h1 h2 => nF a (Or.inl h1) h2, q, ?_, ?_, ?_⟩
  · have := s3 a h; omega
  · rcases g2 a h with y | y
    · have := s4 a y; omega
    · omega
  · rw [(f 10 (nF 10 (Or.inr (by decide)))).1]; exact s9
  · have := (g3 10 (nF 10 (Or.inr (by decide)))).2
    unfold gk
    rw [this]
    exact s10
  · have := (g3 10 (nF 10 (Or.inr (by decide)))).2
    unfold gn
    rw [this]
    exact s11
theorem ls_rc (S : bO L xs n F M T T' ci cj g) (hn : n ≤ 200) : rm F g := by
  obtain ⟨s1, s2, s3, s4, s5, ⟨s6, s7, s8⟩, s9, s10, s11⟩ := S
  exact ⟨s3, by omega, by omega, by omega⟩
theorem ls_rM (S : bO L xs n F M T T' ci cj g) (hn : n ≤ 200) : rmM M g := by
  obtain ⟨s1, s2, s3, s4, s5, ⟨s6, s7, s8⟩, s9, s10, s11⟩ := S
  exact ⟨s4, by omega, by omega, by omega⟩
theorem ls_k (S : bO L xs n F M T T' ci cj g) : gk g 10 = 30 := S.2.2.2.2.2.2.2.1
theorem ls_n (S : bO L xs n F M T T' ci cj g) : gn g 10 = L := S.2.2.2.2.2.2.2.2
theorem ls_x (S : bO L xs n F M T T' ci cj g) : ci 10 = xs := S.2.2.2.2.2.2.1
theorem ls_32 (S : bO L xs n F M T T' ci cj g) : gk g 32 = 1 := to_k (cR_to S.1)
theorem ls_73 (S : bO L xs n F M T T' ci cj g) : gk g 73 = 12 := m7_k (mR_mo S.2.1)
end BOTH
