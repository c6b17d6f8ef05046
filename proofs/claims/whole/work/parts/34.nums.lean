/-! numbers: Int as long and as int -/
theorem tn_0 : (0 : Int32).toNatClampNeg = 0 := rfl
theorem tn_1 : (1 : Int32).toNatClampNeg = 1 := rfl
theorem tn_2 : (2 : Int32).toNatClampNeg = 2 := rfl
theorem tn_3 : (3 : Int32).toNatClampNeg = 3 := rfl
theorem tn_4 : (4 : Int32).toNatClampNeg = 4 := rfl
theorem tn_5 : (5 : Int32).toNatClampNeg = 5 := rfl
theorem tn_6 : (6 : Int32).toNatClampNeg = 6 := rfl
theorem tn_7 : (7 : Int32).toNatClampNeg = 7 := rfl
theorem tn_8 : (8 : Int32).toNatClampNeg = 8 := rfl
theorem in_0_1 : am_in 0 1 = true := rfl
theorem in_0_2 : am_in 0 2 = true := rfl
theorem in_1_2 : am_in 1 2 = true := rfl
theorem in_0_3 : am_in 0 3 = true := rfl
theorem in_1_3 : am_in 1 3 = true := rfl
theorem in_2_3 : am_in 2 3 = true := rfl
theorem in_0_4 : am_in 0 4 = true := rfl
theorem in_1_4 : am_in 1 4 = true := rfl
theorem in_2_4 : am_in 2 4 = true := rfl
theorem in_3_4 : am_in 3 4 = true := rfl
theorem in_0_5 : am_in 0 5 = true := rfl
theorem in_1_5 : am_in 1 5 = true := rfl
theorem in_2_5 : am_in 2 5 = true := rfl
theorem in_3_5 : am_in 3 5 = true := rfl
theorem in_4_5 : am_in 4 5 = true := rfl
theorem in_0_6 : am_in 0 6 = true := rfl
theorem in_1_6 : am_in 1 6 = true := rfl
theorem in_2_6 : am_in 2 6 = true := rfl
theorem in_3_6 : am_in 3 6 = true := rfl
theorem in_4_6 : am_in 4 6 = true := rfl
theorem in_5_6 : am_in 5 6 = true := rfl
theorem in_0_8 : am_in 0 8 = true := rfl
theorem in_1_8 : am_in 1 8 = true := rfl
theorem in_2_8 : am_in 2 8 = true := rfl
theorem in_3_8 : am_in 3 8 = true := rfl
theorem in_4_8 : am_in 4 8 = true := rfl
theorem in_5_8 : am_in 5 8 = true := rfl
theorem in_6_8 : am_in 6 8 = true := rfl
theorem in_7_8 : am_in 7 8 = true := rfl
theorem le_3_0 : ((3 : Int32) ≤ 0) = False := eq_false (by decide)
theorem le_3_1 : ((3 : Int32) ≤ 1) = False := eq_false (by decide)
theorem le_3_2 : ((3 : Int32) ≤ 2) = False := eq_false (by decide)
theorem le_3_3 : ((3 : Int32) ≤ 3) = True := eq_true (by decide)
theorem ad_0 : (0 : Int32) + Int32.ofInt 1 = 1 := rfl
theorem ad_1 : (1 : Int32) + Int32.ofInt 1 = 2 := rfl
theorem ad_2 : (2 : Int32) + Int32.ofInt 1 = 3 := rfl
theorem ad_3 : (3 : Int32) + Int32.ofInt 1 = 4 := rfl
theorem ad_4 : (4 : Int32) + Int32.ofInt 1 = 5 := rfl
theorem ad_5 : (5 : Int32) + Int32.ofInt 1 = 6 := rfl
theorem ad_6 : (6 : Int32) + Int32.ofInt 1 = 7 := rfl
theorem ad_7 : (7 : Int32) + Int32.ofInt 1 = 8 := rfl
def jI (z : Int) : Int64 := Int64.ofInt z
def iI (z : Int) : Int32 := Int32.ofInt z
theorem jI_add (a b : Int) : jI a + jI b = jI (a + b) := (Int64.ofInt_add a b).symm
theorem jI_sub (a b : Int) : jI a - jI b = jI (a - b) := (Int64.ofInt_sub a b).symm
theorem jI_mul (a b : Int) : jI a * jI b = jI (a * b) := (Int64.ofInt_mul a b).symm
theorem iI_add (a b : Int) : iI a + iI b = iI (a + b) := (Int32.ofInt_add a b).symm
theorem iI_sub (a b : Int) : iI a - iI b = iI (a - b) := (Int32.ofInt_sub a b).symm
theorem iI_mul (a b : Int) : iI a * iI b = iI (a * b) := (Int32.ofInt_mul a b).symm
theorem jI_ti {z : Int} (h1 : -9223372036854775808 ≤ z) (h2 : z < 9223372036854775808) : (jI z).toInt = z := Int64.toInt_ofInt_of_le h1 h2
theorem iI_ti {z : Int} (h1 : -2147483648 ≤ z) (h2 : z < 2147483648) : (iI z).toInt = z := Int32.toInt_ofInt_of_le h1 h2
theorem iI_l {z : Int} (h1 : -2147483648 ≤ z) (h2 : z < 2147483648) : (iI z).toInt64 = jI z := by
  apply Int64.toInt_inj.mp
  rw [ti_l, iI_ti h1 h2, jI_ti (by omega) (by omega)]
theorem nI_iI (k : Nat) : nI k = iI k := rfl
theorem nI_j {k : Nat} (h : k < 2147483648) : (nI k).toInt64 = jI k := iI_l (z := (k : Int)) (by omega) (by omega)
theorem jI_of (x : Int64) : jI x.toInt = x := Int64.ofInt_toInt x
theorem nI_ti {k : Nat} (h : k < 2147483648) : (nI k).toInt = (k : Int) := nI_toInt h
/-- an int that isn't below 0 is a number -/
theorem nI_ex {x : Int32} (h : 0 ≤ x.toInt) : ∃ k : Nat, k < 2147483648 ∧ x = nI k := by
  refine ⟨x.toInt.toNat, ?_, ?_⟩
  · have := Int32.toInt_lt x
    omega
  · apply Int32.toInt_inj.mp
    have := Int32.toInt_lt x
    rw [nI_ti (by omega)]
    omega
theorem jI_tdiv {a b : Int} (h1 : -9223372036854775808 ≤ a) (h2 : a < 9223372036854775808) (h3 : 0 < b) (h4 : b < 9223372036854775808) : jI a / jI b = jI (a.tdiv b) := by
  refine (Int64.ofInt_tdiv (a := a) (b := b) ?_ ?_ ?_ ?_).symm
  · show (-9223372036854775808 : Int) ≤ a; exact h1
  · show a ≤ (9223372036854775807 : Int); omega
  · show (-9223372036854775808 : Int) ≤ b; omega
  · show b ≤ (9223372036854775807 : Int); omega
