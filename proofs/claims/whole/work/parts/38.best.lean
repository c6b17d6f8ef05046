/-! HOURS: what BEST and VALUE are -/
theorem up_ind {M : Nat → Prop} {n : Nat} (h0 : M n) (h : ∀ i, i < n → M (i + 1) → M i) : ∀ i, i ≤ n → M i := by
  have q : ∀ k i, i + k = n → M i := by
    intro k
    induction k with
    | zero => intro i hi; obtain rfl : i = n := by omega
              exact h0
    | succ k ih => intro i hi; exact h i (by omega) (ih (i + 1) (by omega))
  intro i hi
  exact q (n - i) i (by omega)
/-- how many states there are below one -/
def cnt (σ : wS) : Nat → Nat
  | 0 => 0
  | s + 1 => cnt σ s + (if isS σ s = true then 1 else 0)
theorem cnt_t {σ : wS} {s : Nat} (h : isS σ s = true) : cnt σ (s + 1) = cnt σ s + 1 := by
  show cnt σ s + _ = _
  rw [if_pos h]
theorem cnt_f {σ : wS} {s : Nat} (h : ¬ isS σ s = true) : cnt σ (s + 1) = cnt σ s := by
  show cnt σ s + _ = _
  rw [if_neg h]; rfl
theorem cnt_le (σ : wS) (s : Nat) : cnt σ s ≤ s := by
  induction s with
  | zero => exact Nat.le_refl _
  | succ s ih =>
    by_cases h : isS σ s = true
    · rw [cnt_t h]; omega
    · rw [cnt_f h]; omega
theorem cnt_mono (σ : wS) {s t : Nat} (h : s ≤ t) : cnt σ s ≤ cnt σ t := by
  induction h with
  | refl => exact Nat.le_refl _
  | step _ ih => exact Nat.le_trans ih (Nat.le_add_right _ _)
theorem cnt_lt {σ : wS} {s t : Nat} (h : isS σ s = true) (h2 : s < t) : cnt σ s < cnt σ t := by
  have := cnt_mono σ (show s + 1 ≤ t from h2)
  rw [cnt_t h] at this
  omega
theorem isS_iff {σ : wS} {s : Nat} : isS σ s = true ↔ (s < 125 ∧ frI s 0 ≤ sBx σ 0 ∧ frI s 1 ≤ sBx σ 1 ∧ frI s 2 ≤ sBx σ 2) := by unfold isS; exact decide_eq_true_iff
theorem isS_lt {σ : wS} {s : Nat} (h : isS σ s = true) : s < 125 := (isS_iff.mp h).1
theorem st_ind {σ : wS} {M : Nat → Nat → Prop} (h0 : M (cnt σ 125) 125) (hv : ∀ s, isS σ s = true → cnt σ s < cnt σ 125 → M (cnt σ s + 1) (s + 1) → M (cnt σ s) s) (hn : ∀ s c, s < 125 → ¬ isS σ s = true → M c (s + 1) → M c s) : M 0 0 := by
  refine up_ind (M := fun s => M (cnt σ s) s) (n := 125) h0 (fun s hs ih => ?_) 0 (by decide)
  by_cases h : isS σ s = true
  · have ih' : M (cnt σ (s + 1)) (s + 1) := ih
    rw [cnt_t h] at ih'
    exact hv s h (cnt_lt h hs) ih'
  · have ih' : M (cnt σ (s + 1)) (s + 1) := ih
    rw [cnt_f h] at ih'
    exact hn s _ hs h ih'
theorem stp_0 : stp 0 = 1 := rfl
theorem stp_1 : stp 1 = 5 := rfl
theorem stp_2 : stp 2 = 25 := rfl
theorem frI_0 (s : Nat) : frI s 0 = s % 5 := by unfold frI; rw [stp_0, Nat.div_one]
theorem frI_1 (s : Nat) : frI s 1 = s / 5 % 5 := by unfold frI; rw [stp_1]
theorem frI_2 (s : Nat) : frI s 2 = s / 25 % 5 := by unfold frI; rw [stp_2]
theorem three {M : Nat → Prop} (h0 : M 0) (h1 : M 1) (h2 : M 2) : ∀ j, j < 3 → M j := by
  intro j hj
  match j, hj with
  | 0, _ => exact h0
  | 1, _ => exact h1
  | 2, _ => exact h2
  | j + 3, h => exact absurd h (by omega)
theorem fr_sub {s : Nat} (hs : s < 125) : ∀ j, j < 3 → 0 < frI s j → stp j ≤ s ∧ frI (s - stp j) 0 ≤ frI s 0 ∧ frI (s - stp j) 1 ≤ frI s 1 ∧ frI (s - stp j) 2 ≤ frI s 2 := by
  apply three
  · intro h; simp only [frI_0, frI_1, frI_2, stp_0] at *; omega
  · intro h; simp only [frI_0, frI_1, frI_2, stp_1] at *; omega
  · intro h; simp only [frI_0, frI_1, frI_2, stp_2] at *; omega
theorem isS_sub {σ : wS} {s j : Nat} (h : isS σ s = true) (hj : j < 3) (hf : 0 < frI s j) : isS σ (s - stp j) = true ∧ stp j ≤ s := by
  obtain ⟨a, b, c, e⟩ := isS_iff.mp h
  obtain ⟨x, y, z, u⟩ := fr_sub a j hj hf
  exact ⟨isS_iff.mpr ⟨by omega, by omega, by omega, by omega⟩, x⟩
theorem fr_add {s : Nat} (hs : s < 125) : ∀ j, j < 3 → frI s j < 4 → s + stp j < 125 ∧ (∀ i, i < 3 → frI (s + stp j) i = if i = j then frI s i + 1 else frI s i) := by
  apply three
  · intro h
    simp only [frI_0, stp_0] at *
    refine ⟨by omega, ?_⟩
    apply three
    · simp only [frI_0, if_true]; omega
    · simp only [frI_1, Nat.reduceEqDiff, if_false]; omega
    · simp only [frI_2, Nat.reduceEqDiff, if_false]; omega
  · intro h
    simp only [frI_1, stp_1] at *
    refine ⟨by omega, ?_⟩
    apply three
    · simp only [frI_0, Nat.reduceEqDiff, if_false]; omega
    · simp only [frI_1, if_true]; omega
    · simp only [frI_2, Nat.reduceEqDiff, if_false]; omega
  · intro h
    simp only [frI_2, stp_2] at *
    refine ⟨by omega, ?_⟩
    apply three
    · simp only [frI_0, Nat.reduceEqDiff, if_false]; omega
    · simp only [frI_1, Nat.reduceEqDiff, if_false]; omega
    · simp only [frI_2, if_true]; omega
theorem isS_add {σ : wS} (O : wOK σ) {s j : Nat} (h : isS σ s = true) (hj : j < 3) (hf : frI s j < sBx σ j) : isS σ (s + stp j) = true := by
  obtain ⟨a, b, c, e⟩ := isS_iff.mp h
  have := (O.1 j hj).2.1
  obtain ⟨x, y⟩ := fr_add a j hj (by omega)
  have y0 := y 0 (by decide)
  have y1 := y 1 (by decide)
  have y2 := y 2 (by decide)
  refine isS_iff.mpr ⟨x, ?_, ?_, ?_⟩
  · rw [y0]; split
    · rename_i z; subst z; omega
    · exact b
  · rw [y1]; split
    · rename_i z; subst z; omega
    · exact c
  · rw [y2]; split
    · rename_i z; subst z; omega
    · exact e
/-- what a sort brings in a state by a size, V ahead -/
def out (σ : wS) (k : Nat) (z : Int) (s : Nat) (V : Nat → Int) : Int := if z = -1 then lost σ k + V s else gain σ k + V (s - stp z.toNat)
def pzS (σ : wS) (k s : Nat) (V : Nat → Int) (j : Nat) (p : Int × Int) : Int × Int := if 0 < frI s j ∧ p.2 < gain σ k + V (s - stp j) then ((j : Int), gain σ k + V (s - stp j)) else p
def pzF (σ : wS) (k s : Nat) (V : Nat → Int) : Nat → Nat → Int × Int → Int × Int
  | 0, _, p => p
  | n + 1, j, p => pzF σ k s V n (j + 1) (pzS σ k s V j p)
def pz (σ : wS) (k s : Nat) (V : Nat → Int) : Int × Int := pzF σ k s V (3 - sSz σ k) (sSz σ k) (-1, lost σ k + V s)
def zsum (f : Nat → Int) : Nat → Int
  | 0 => 0
  | n + 1 => zsum f n + f n
def sumP (σ : wS) (P : Nat → Nat → Int) (V : Nat → Int) (s : Nat) : Int := (100 - (csum (sCo σ) (sCn σ) : Int)) * V s + zsum (fun k => (sCo σ k : Int) * out σ k (P k s) s V) (sCn σ)
def ft1 (σ : wS) (j : Nat) (B : Nat → Int) (s : Nat) : Int := if frI s j < sBx σ j then (sGo σ j : Int) * B (s + stp j) + (10 - (sGo σ j : Int)) * B s else 10 * B s
def ftc (σ : wS) (B : Nat → Int) : Nat → Int := ft1 σ 2 (ft1 σ 1 (ft1 σ 0 B))
def stepV (σ : wS) (P : Nat → Nat → Int) (V : Nat → Int) (s : Nat) : Int := (ftc σ (sumP σ P V) s).tdiv 100000
def itr (σ : wS) (P : (Nat → Int) → Nat → Nat → Int) : Nat → Nat → Int
  | 0 => fun _ => 0
  | n + 1 => stepV σ (P (itr σ P n)) (itr σ P n)
def pB (σ : wS) (V : Nat → Int) (k s : Nat) : Int := (pz σ k s V).1
/-- a plan that is one -/
def okP (σ : wS) (P : Nat → Nat → Int) : Prop := ∀ k, k < sCn σ → ∀ s, isS σ s = true → P k s = -1 ∨ ∃ j, j < 3 ∧ sSz σ k ≤ j ∧ P k s = (j : Int) ∧ 0 < frI s j
def bV (σ : wS) (V : Nat → Int) (M : Nat) : Prop := ∀ s, isS σ s = true → (V s).natAbs ≤ M
theorem lost_bd {σ : wS} (O : wOK σ) {k : Nat} (hk : k < sCn σ) : (lost σ k).natAbs ≤ 198000000 := by
  have := lost_in O hk
  unfold lost
  omega
theorem gain_bd {σ : wS} (O : wOK σ) {k : Nat} (hk : k < sCn σ) : (gain σ k).natAbs ≤ 99000000 ∧ 0 ≤ gain σ k := by
  have := (O.2.2.1 k hk).2.2.2.1
  unfold gain
  omega
theorem out_bd {σ : wS} (O : wOK σ) {k s : Nat} (hk : k < sCn σ) (hs : isS σ s = true) {P : Nat → Nat → Int} (hP : okP σ P) {V : Nat → Int} {M : Nat} (hV : bV σ V M) : (out σ k (P k s) s V).natAbs ≤ M + 200000000 := by
  have h1 := lost_bd O hk
  have h2 := (gain_bd O hk).1
  have h3 := hV s hs
  unfold out
  rcases hP k hk s hs with e | ⟨j, hj, -, e, hf⟩
  · rw [if_pos e]; omega
  · rw [if_neg (by omega), e]
    have h4 := hV _ (isS_sub hs hj hf).1
    rw [show ((j : Int)).toNat = j from rfl]
    omega
theorem zsum_bd {c : Nat → Nat} {f : Nat → Int} {B : Nat} : ∀ n, (∀ k, k < n → (f k).natAbs ≤ c k * B) → (zsum f n).natAbs ≤ csum c n * B := by
  intro n
  induction n with
  | zero => intro _; exact Nat.zero_le _
  | succ n ih =>
    intro h
    have a := ih (fun k hk => h k (by omega))
    have b := h n (by omega)
    have e : csum c (n + 1) * B = csum c n * B + c n * B := Nat.add_mul _ _ _
    show (zsum f n + f n).natAbs ≤ _
    omega
theorem sumP_bd {σ : wS} (O : wOK σ) {s : Nat} (hs : isS σ s = true) {P : Nat → Nat → Int} (hP : okP σ P) {V : Nat → Int} {M : Nat} (hV : bV σ V M) : (sumP σ P V s).natAbs ≤ 100 * (M + 200000000) := by
  have hc := O.2.2.2.1
  have a : (zsum (fun k => (sCo σ k : Int) * out σ k (P k s) s V) (sCn σ)).natAbs ≤ csum (sCo σ) (sCn σ) * (M + 200000000) := by
    refine zsum_bd _ (fun k hk => ?_)
    rw [Int.natAbs_mul]
    exact Nat.mul_le_mul (Nat.le_of_eq (Int.natAbs_natCast _)) (out_bd O hk hs hP hV)
  have b : ((100 - (csum (sCo σ) (sCn σ) : Int)) * V s).natAbs ≤ (100 - csum (sCo σ) (sCn σ)) * (M + 200000000) := by
    rw [Int.natAbs_mul]
    exact Nat.mul_le_mul (by omega) (Nat.le_trans (hV s hs) (by omega))
  have e : csum (sCo σ) (sCn σ) * (M + 200000000) + (100 - csum (sCo σ) (sCn σ)) * (M + 200000000) = 100 * (M + 200000000) := by
    rw [← Nat.add_mul]
    congr 1
    omega
  unfold sumP
  omega
theorem ft1_bd {σ : wS} (O : wOK σ) {j : Nat} (hj : j < 3) {B : Nat → Int} {M : Nat} (hB : bV σ B M) : bV σ (ft1 σ j B) (10 * M) := by
  intro s hs
  have hg := (O.1 j hj).2.2
  have h1 := hB s hs
  unfold ft1
  split
  · rename_i hf
    have h2 := hB _ (isS_add O hs hj hf)
    have a : ((sGo σ j : Int) * B (s + stp j)).natAbs ≤ sGo σ j * M := by
      rw [Int.natAbs_mul]
      exact Nat.mul_le_mul (Nat.le_of_eq (Int.natAbs_natCast _)) h2
    have b : ((10 - (sGo σ j : Int)) * B s).natAbs ≤ (10 - sGo σ j) * M := by
      rw [Int.natAbs_mul]
      exact Nat.mul_le_mul (by omega) h1
    have e : sGo σ j * M + (10 - sGo σ j) * M = 10 * M := by
      rw [← Nat.add_mul]
      congr 1
      omega
    omega
  · omega
theorem ftc_bd {σ : wS} (O : wOK σ) {B : Nat → Int} {M : Nat} (hB : bV σ B M) : bV σ (ftc σ B) (10 * (10 * (10 * M))) := ft1_bd O (by decide) (ft1_bd O (by decide) (ft1_bd O (by decide) hB))
theorem stepV_bd {σ : wS} (O : wOK σ) {P : Nat → Nat → Int} (hP : okP σ P) {V : Nat → Int} {M : Nat} (hV : bV σ V M) : bV σ (stepV σ P V) (M + 200000000) := by
  intro s hs
  have h := ftc_bd O (B := sumP σ P V) (M := 100 * (M + 200000000)) (fun t ht => sumP_bd O ht hP hV) s hs
  unfold stepV
  rw [Int.natAbs_tdiv]
  show (ftc σ (sumP σ P V) s).natAbs / 100000 ≤ _
  omega
theorem itr_bd {σ : wS} (O : wOK σ) {P : (Nat → Int) → Nat → Nat → Int} (hP : ∀ V, okP σ (P V)) : ∀ n, bV σ (itr σ P n) (n * 200000000) := by
  intro n
  induction n with
  | zero => intro s _; show (0 : Int).natAbs ≤ _; omega
  | succ n ih =>
    have := stepV_bd O (hP (itr σ P n)) ih
    rw [Nat.succ_mul]
    exact this
theorem pzF_ok {σ : wS} {k s : Nat} {V : Nat → Int} : ∀ (m j : Nat) (p : Int × Int), j + m = 3 → sSz σ k ≤ j → ((p.1 = -1 ∨ ∃ i, i < 3 ∧ sSz σ k ≤ i ∧ p.1 = (i : Int) ∧ 0 < frI s i) ∧ p.2 = out σ k p.1 s V) → (((pzF σ k s V m j p).1 = -1 ∨ ∃ i, i < 3 ∧ sSz σ k ≤ i ∧ (pzF σ k s V m j p).1 = (i : Int) ∧ 0 < frI s i) ∧ (pzF σ k s V m j p).2 = out σ k (pzF σ k s V m j p).1 s V) := by
  intro m
  induction m with
  | zero => intro j p _ _ h; exact h
  | succ m ih =>
    intro j p hj hz h
    show _ ∧ (pzF σ k s V m (j + 1) (pzS σ k s V j p)).2 = _
    refine ih (j + 1) _ (by omega) (by omega) ?_
    unfold pzS
    split
    · rename_i q
      refine ⟨Or.inr ⟨j, by omega, hz, rfl, q.1⟩, ?_⟩
      show _ = out σ k (j : Int) s V
      unfold out
      rw [if_neg (by omega)]
      rfl
    · exact h
theorem pz_ok {σ : wS} (O : wOK σ) {k s : Nat} (hk : k < sCn σ) {V : Nat → Int} : ((pz σ k s V).1 = -1 ∨ ∃ i, i < 3 ∧ sSz σ k ≤ i ∧ (pz σ k s V).1 = (i : Int) ∧ 0 < frI s i) ∧ (pz σ k s V).2 = out σ k (pz σ k s V).1 s V := by
  have hz := (O.2.2.1 k hk).1
  refine pzF_ok _ _ _ (by omega) (Nat.le_refl _) ⟨Or.inl rfl, ?_⟩
  unfold out
  rw [if_pos rfl]
theorem pB_ok {σ : wS} (O : wOK σ) (V : Nat → Int) : okP σ (pB σ V) := fun k hk s _ => (pz_ok O hk).1
/-- as the class finds it: the most that is left, by sizes -/
def mx2 (s : Nat) (V : Nat → Int) : Int := if 25 ≤ s then V (s - 25) else -1000000000000000
def mx1 (s : Nat) (V : Nat → Int) : Int := if 5 ≤ s % 25 then (if mx2 s V < V (s - 5) then V (s - 5) else mx2 s V) else mx2 s V
def mx0 (s : Nat) (V : Nat → Int) : Int := if 0 < s % 25 % 5 then (if mx1 s V < V (s - 1) then V (s - 1) else mx1 s V) else mx1 s V
def mxz (s : Nat) (V : Nat → Int) (j : Nat) : Int := if j = 0 then mx0 s V else if j = 1 then mx1 s V else mx2 s V
theorem pz_max {σ : wS} (O : wOK σ) {k s : Nat} (hk : k < sCn σ) (hs : isS σ s = true) {V : Nat → Int} {M : Nat} (hM : M ≤ 10000000000) (hV : bV σ V M) : (pz σ k s V).2 = if lost σ k + V s < gain σ k + mxz s V (sSz σ k) then gain σ k + mxz s V (sSz σ k) else lost σ k + V s := by
  have h1 := lost_bd O hk
  have h2 := gain_bd O hk
  have h3 := hV s hs
  have hlt := isS_lt hs
  have hz := (O.2.2.1 k hk).1
  have f0 : (0 < frI s 0) = (0 < s % 25 % 5) := by rw [frI_0]; exact propext ⟨by omega, by omega⟩
  have f1 : (0 < frI s 1) = (5 ≤ s % 25) := by rw [frI_1]; exact propext ⟨by omega, by omega⟩
  have f2 : (0 < frI s 2) = (25 ≤ s) := by rw [frI_2]; exact propext ⟨by omega, by omega⟩
  have v0 : 0 < frI s 0 → (V (s - 1)).natAbs ≤ M := fun h => hV _ (isS_sub hs (j := 0) (by decide) h).1
  have v1 : 0 < frI s 1 → (V (s - 5)).natAbs ≤ M := fun h => hV _ (isS_sub hs (j := 1) (by decide) h).1
  have v2 : 0 < frI s 2 → (V (s - 25)).natAbs ≤ M := fun h => hV _ (isS_sub hs (j := 2) (by decide) h).1
  rw [f0] at v0
  rw [f1] at v1
  rw [f2] at v2
  generalize hL : lost σ k = l at *
  generalize hG : gain σ k = q at *
  have st0 : ∀ p : Int × Int, pzS σ k s V 0 p = if 0 < s % 25 % 5 ∧ p.2 < q + V (s - 1) then (0, q + V (s - 1)) else p := by
    intro p; unfold pzS; rw [hG, stp_0]; simp only [f0]; rfl
  have st1 : ∀ p : Int × Int, pzS σ k s V 1 p = if 5 ≤ s % 25 ∧ p.2 < q + V (s - 5) then (1, q + V (s - 5)) else p := by
    intro p; unfold pzS; rw [hG, stp_1]; simp only [f1]; rfl
  have st2 : ∀ p : Int × Int, pzS σ k s V 2 p = if 25 ≤ s ∧ p.2 < q + V (s - 25) then (2, q + V (s - 25)) else p := by
    intro p; unfold pzS; rw [hG, stp_2]; simp only [f2]; rfl
  have e0 : sSz σ k = 0 ∨ sSz σ k = 1 ∨ sSz σ k = 2 := by omega
  unfold pz
  rw [hL]
  by_cases c0 : 0 < s % 25 % 5 <;> by_cases c1 : 5 ≤ s % 25 <;> by_cases c2 : 25 ≤ s <;> simp only [c0, c1, c2, true_and, false_and, if_true, if_false, true_implies, false_implies] at v0 v1 v2 st0 st1 st2
  all_goals
    rcases e0 with e | e | e
    all_goals
      rw [e]
      simp only [Nat.sub_zero, Nat.reduceSub, pzF, Nat.reduceAdd, st0, st1, st2, mxz, mx0, mx1, mx2, c0, c1, c2, if_true, if_false, Nat.reduceEqDiff]
      repeat' split
      all_goals first | omega | (simp only [] at *; omega)
