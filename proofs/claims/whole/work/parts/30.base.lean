/-! PURE ROWS for runs of the machine -/
theorem tn_nI {j : Nat} (h : j < 2 ^ 31) : (nI j).toNatClampNeg = j := nI_clamp h
theorem in_nI {j n : Nat} (h : j < n) (hn : n < 2 ^ 31) : am_in (nI j) n = true := by
  unfold am_in
  rw [nI_toInt (by omega)]
  exact decide_eq_true ⟨by omega, by omega⟩
theorem in_of {i : Int32} {n : Nat} (h : am_in i n = true) (hn : n < 2 ^ 31) : ∃ j : Nat, j < n ∧ i = nI j := vp_in_of (vp_in_iff.mpr (of_decide_eq_true h)) hn
theorem in_iff {j n : Nat} (hj : j < 2 ^ 31) : am_in (nI j) n = decide (j < n) := by
  unfold am_in
  rw [nI_toInt hj]
  by_cases h : j < n
  · rw [decide_eq_true h]; exact decide_eq_true ⟨by omega, by omega⟩
  · rw [decide_eq_false h]; exact decide_eq_false (fun z => h (by omega))
theorem lit_0 : (0 : Int32) = nI 0 := rfl
theorem lit_1 : (1 : Int32) = nI 1 := rfl
theorem lit_2 : (2 : Int32) = nI 2 := rfl
theorem lit_3 : (3 : Int32) = nI 3 := rfl
theorem lit_4 : (4 : Int32) = nI 4 := rfl
theorem lit_5 : (5 : Int32) = nI 5 := rfl
theorem lit_6 : (6 : Int32) = nI 6 := rfl
theorem lit_7 : (7 : Int32) = nI 7 := rfl
theorem lit_8 : (8 : Int32) = nI 8 := rfl
theorem lit_10 : (10 : Int32) = nI 10 := rfl
theorem lit_20 : (20 : Int32) = nI 20 := rfl
theorem lit_24 : (24 : Int32) = nI 24 := rfl
theorem lit_25 : (25 : Int32) = nI 25 := rfl
theorem lit_30 : (30 : Int32) = nI 30 := rfl
theorem lit_40 : (40 : Int32) = nI 40 := rfl
theorem lit_50 : (50 : Int32) = nI 50 := rfl
theorem lit_99 : (99 : Int32) = nI 99 := rfl
theorem lit_100 : (100 : Int32) = nI 100 := rfl
theorem lit_124 : (124 : Int32) = nI 124 := rfl
theorem lit_125 : (125 : Int32) = nI 125 := rfl
theorem lit_200 : (200 : Int32) = nI 200 := rfl
theorem oi_1 : Int32.ofInt 1 = nI 1 := rfl
theorem oi_4 : Int32.ofInt 4 = nI 4 := rfl
theorem oi_6 : Int32.ofInt 6 = nI 6 := rfl
theorem oi_m1 : Int32.ofInt (-1) = -1 := rfl
theorem u2_s {α : Type} (f : Nat → Nat → α) (a i : Nat) (v : α) : am_u2 f a i v a i = v := by simp [am_u2, am_u1]
theorem u2_a {α : Type} (f : Nat → Nat → α) {a i b : Nat} (v : α) (h : b ≠ a) : am_u2 f a i v b = f b := by simp [am_u2, am_u1, h]
theorem u2_i {α : Type} (f : Nat → Nat → α) {a i j : Nat} (v : α) (h : j ≠ i) : am_u2 f a i v a j = f a j := by simp [am_u2, am_u1, h]
theorem u2_e {α : Type} (f : Nat → Nat → α) (a i : Nat) (v : α) (b j : Nat) : am_u2 f a i v b j = if b = a then (if j = i then v else f b j) else f b j := by
  unfold am_u2 am_u1
  by_cases h : b = a
  · rw [if_pos h, if_pos h, h]
  · rw [if_neg h, if_neg h]
theorem u1_e {α : Type} (f : Nat → α) (a : Nat) (v : α) (b : Nat) : am_u1 f a v b = if b = a then v else f b := rfl
/-- a truth value on the stack -/
def bI (b : Bool) : Int32 := if b = true then 1 else 0
theorem bI_t : bI true = 1 := rfl
theorem bI_f : bI false = 0 := rfl
theorem bI_01 (b : Bool) : (bI b = 0 ∨ bI b = 1) = True := by
  cases b
  · exact eq_true (Or.inl rfl)
  · exact eq_true (Or.inr rfl)
theorem bI_0 (b : Bool) : (bI b = 0) = (b = false) := by
  cases b
  · exact propext ⟨fun _ => rfl, fun _ => rfl⟩
  · exact propext ⟨fun z => absurd z (by decide), fun z => by cases z⟩
theorem bI_n0 (b : Bool) : (¬ bI b = 0) = (b = true) := by
  rw [bI_0]
  cases b <;> simp
/-- an int from lo to hi -/
def rg (s : Int32) (lo hi : Int) : Bool := decide (lo ≤ s.toInt ∧ s.toInt ≤ hi)
def rgl (s : Int64) (lo hi : Int) : Bool := decide (lo ≤ s.toInt ∧ s.toInt ≤ hi)
theorem rg_t {s : Int32} {lo hi : Int} (h : lo ≤ s.toInt ∧ s.toInt ≤ hi) : rg s lo hi = true := decide_eq_true h
theorem rg_f {s : Int32} {lo hi : Int} (h : ¬ (lo ≤ s.toInt ∧ s.toInt ≤ hi)) : rg s lo hi = false := decide_eq_false h
theorem rgl_t {s : Int64} {lo hi : Int} (h : lo ≤ s.toInt ∧ s.toInt ≤ hi) : rgl s lo hi = true := decide_eq_true h
theorem rgl_f {s : Int64} {lo hi : Int} (h : ¬ (lo ≤ s.toInt ∧ s.toInt ≤ hi)) : rgl s lo hi = false := decide_eq_false h
theorem lt_ti (x y : Int32) : (x < y) = (x.toInt < y.toInt) := propext Int32.lt_iff_toInt_lt
theorem le_ti (x y : Int32) : (x ≤ y) = (x.toInt ≤ y.toInt) := propext Int32.le_iff_toInt_le
theorem lt_tl (x y : Int64) : (x < y) = (x.toInt < y.toInt) := propext Int64.lt_iff_toInt_lt
theorem le_tl (x y : Int64) : (x ≤ y) = (x.toInt ≤ y.toInt) := propext Int64.le_iff_toInt_le
theorem cmp_lt (x y : Int64) : (lg_cmp x y < 0) = (x.toInt < y.toInt) := by
  unfold lg_cmp
  rw [← lt_tl]
  by_cases h1 : x > y
  · rw [if_pos h1]
    exact propext ⟨fun z => absurd z (by decide), fun z => absurd (Int64.lt_trans z h1) (Int64.lt_irrefl)⟩
  · rw [if_neg h1]
    by_cases h2 : x = y
    · rw [if_pos h2]
      exact propext ⟨fun z => absurd z (by decide), fun z => by rw [h2] at z; exact absurd z Int64.lt_irrefl⟩
    · rw [if_neg h2]
      refine propext ⟨fun _ => ?_, fun _ => by decide⟩
      rw [lt_tl]
      have a : ¬ y.toInt < x.toInt := fun z => h1 (by show y < x; rw [lt_tl]; exact z)
      have b : x.toInt ≠ y.toInt := fun z => h2 (Int64.toInt_inj.mp z)
      omega
theorem cmp_le (x y : Int64) : (lg_cmp x y ≤ 0) = (x.toInt ≤ y.toInt) := by
  unfold lg_cmp
  rw [← le_tl]
  by_cases h1 : x > y
  · rw [if_pos h1]
    refine propext ⟨fun z => absurd z (by decide), fun z => ?_⟩
    have h3 : y.toInt < x.toInt := by rw [← lt_tl]; exact h1
    rw [le_tl] at z
    omega
  · rw [if_neg h1]
    have h3 : ¬ y.toInt < x.toInt := by rw [← lt_tl]; exact h1
    refine propext ⟨fun _ => by rw [le_tl]; omega, fun _ => ?_⟩
    split <;> decide
theorem cmp_gt (x y : Int64) : (0 < lg_cmp x y) = (y.toInt < x.toInt) := by
  have h := cmp_le x y
  rw [le_ti] at h
  rw [lt_ti]
  have h2 : ((lg_cmp x y).toInt ≤ 0) = (x.toInt ≤ y.toInt) := h
  show (0 < (lg_cmp x y).toInt) = _
  refine propext ⟨fun z => ?_, fun z => ?_⟩
  · rcases Int.lt_or_le y.toInt x.toInt with q | q
    · exact q
    · rw [← h2] at q; omega
  · rcases Int.lt_or_le 0 (lg_cmp x y).toInt with q | q
    · exact q
    · rw [h2] at q; omega
theorem cmp_ge (x y : Int64) : (0 ≤ lg_cmp x y) = (y.toInt ≤ x.toInt) := by
  have h := cmp_lt x y
  rw [lt_ti] at h
  rw [le_ti]
  have h2 : ((lg_cmp x y).toInt < 0) = (x.toInt < y.toInt) := h
  show (0 ≤ (lg_cmp x y).toInt) = _
  refine propext ⟨fun z => ?_, fun z => ?_⟩
  · rcases Int.lt_or_le x.toInt y.toInt with q | q
    · rw [← h2] at q; omega
    · exact q
  · rcases Int.lt_or_le (lg_cmp x y).toInt 0 with q | q
    · rw [h2] at q; omega
    · exact q
theorem cmp_eq (x y : Int64) : (lg_cmp x y = 0) = (x = y) := by
  unfold lg_cmp
  by_cases h1 : x > y
  · rw [if_pos h1]
    exact propext ⟨fun z => absurd z (by decide), fun z => by rw [z] at h1; exact absurd h1 Int64.lt_irrefl⟩
  · rw [if_neg h1]
    by_cases h2 : x = y
    · rw [if_pos h2]; exact propext ⟨fun _ => h2, fun _ => rfl⟩
    · rw [if_neg h2]; exact propext ⟨fun z => absurd z (by decide), fun z => absurd z h2⟩
theorem ti_l (x : Int32) : x.toInt64.toInt = x.toInt := by simp
theorem ti_0 : (0 : Int32).toInt = 0 := rfl
theorem ti_1 : (1 : Int32).toInt = 1 := rfl
theorem ti_2 : (2 : Int32).toInt = 2 := rfl
theorem ti_3 : (3 : Int32).toInt = 3 := rfl
theorem ti_4 : (4 : Int32).toInt = 4 := rfl
theorem ti_5 : (5 : Int32).toInt = 5 := rfl
theorem ti_6 : (6 : Int32).toInt = 6 := rfl
theorem ti_7 : (7 : Int32).toInt = 7 := rfl
theorem ti_8 : (8 : Int32).toInt = 8 := rfl
theorem ti_10 : (10 : Int32).toInt = 10 := rfl
theorem ti_11 : (11 : Int32).toInt = 11 := rfl
theorem ti_12 : (12 : Int32).toInt = 12 := rfl
theorem ti_16 : (16 : Int32).toInt = 16 := rfl
theorem ti_17 : (17 : Int32).toInt = 17 := rfl
theorem ti_20 : (20 : Int32).toInt = 20 := rfl
theorem ti_24 : (24 : Int32).toInt = 24 := rfl
theorem ti_25 : (25 : Int32).toInt = 25 := rfl
theorem ti_30 : (30 : Int32).toInt = 30 := rfl
theorem ti_40 : (40 : Int32).toInt = 40 := rfl
theorem ti_50 : (50 : Int32).toInt = 50 := rfl
theorem ti_99 : (99 : Int32).toInt = 99 := rfl
theorem ti_100 : (100 : Int32).toInt = 100 := rfl
theorem ti_120 : (120 : Int32).toInt = 120 := rfl
theorem ti_124 : (124 : Int32).toInt = 124 := rfl
theorem ti_125 : (125 : Int32).toInt = 125 := rfl
theorem ti_128 : (128 : Int32).toInt = 128 := rfl
theorem ti_200 : (200 : Int32).toInt = 200 := rfl
theorem ti_255 : (255 : Int32).toInt = 255 := rfl
theorem ti_m1 : ((-1) : Int32).toInt = -1 := rfl
theorem ti_m2 : ((-2) : Int32).toInt = -2 := rfl
theorem tl_0 : (0 : Int64).toInt = 0 := rfl
theorem tl_1 : (1 : Int64).toInt = 1 := rfl
theorem tl_2 : (2 : Int64).toInt = 2 := rfl
theorem tl_3 : (3 : Int64).toInt = 3 := rfl
theorem tl_4 : (4 : Int64).toInt = 4 := rfl
theorem tl_5 : (5 : Int64).toInt = 5 := rfl
theorem tl_6 : (6 : Int64).toInt = 6 := rfl
theorem tl_7 : (7 : Int64).toInt = 7 := rfl
theorem tl_10 : (10 : Int64).toInt = 10 := rfl
theorem tl_12 : (12 : Int64).toInt = 12 := rfl
theorem tl_16 : (16 : Int64).toInt = 16 := rfl
theorem tl_24 : (24 : Int64).toInt = 24 := rfl
theorem tl_30 : (30 : Int64).toInt = 30 := rfl
theorem tl_40 : (40 : Int64).toInt = 40 := rfl
theorem tl_50 : (50 : Int64).toInt = 50 := rfl
theorem tl_99 : (99 : Int64).toInt = 99 := rfl
theorem tl_100 : (100 : Int64).toInt = 100 := rfl
theorem tl_124 : (124 : Int64).toInt = 124 := rfl
theorem tl_200 : (200 : Int64).toInt = 200 := rfl
theorem tl_m1 : ((-1) : Int64).toInt = -1 := rfl
