/-! Int32 by whole numbers -/
def iI (z : Int) : Int32 := Int32.ofInt z
theorem iI_t {z : Int} (h1 : -2147483648 ≤ z) (h2 : z < 2147483648) : (iI z).toInt = z := Int32.toInt_ofInt_of_le (by omega) (by omega)
theorem iI_of (x : Int32) : ∃ z : Int, -2147483648 ≤ z ∧ z < 2147483648 ∧ x = iI z := ⟨x.toInt, by have := Int32.le_toInt x; omega, by have := Int32.toInt_lt x; omega, (Int32.ofInt_toInt x).symm⟩
theorem iI_add (a b : Int) : iI a + iI b = iI (a + b) := (Int32.ofInt_add a b).symm
theorem iI_sub (a b : Int) : iI a - iI b = iI (a - b) := (Int32.ofInt_sub a b).symm
theorem iI_mul (a b : Int) : iI a * iI b = iI (a * b) := (Int32.ofInt_mul a b).symm
theorem iI_le {a b : Int} (h1 : -2147483648 ≤ a) (h2 : a < 2147483648) (h3 : -2147483648 ≤ b) (h4 : b < 2147483648) : (iI a ≤ iI b) = (a ≤ b) := by
  rw [Int32.le_iff_toInt_le, iI_t h1 h2, iI_t h3 h4]
theorem iI_lt {a b : Int} (h1 : -2147483648 ≤ a) (h2 : a < 2147483648) (h3 : -2147483648 ≤ b) (h4 : b < 2147483648) : (iI a < iI b) = (a < b) := by
  rw [Int32.lt_iff_toInt_lt, iI_t h1 h2, iI_t h3 h4]
theorem iI_eq {a b : Int} (h1 : -2147483648 ≤ a) (h2 : a < 2147483648) (h3 : -2147483648 ≤ b) (h4 : b < 2147483648) : (iI a = iI b) = (a = b) := by
  rw [← Int32.toInt_inj, iI_t h1 h2, iI_t h3 h4]
theorem iI_tn {z : Int} (h0 : -2147483648 ≤ z) (h1 : z < 2147483648) : (iI z).toNatClampNeg = z.toNat := by
  show (iI z).toInt.toNat = z.toNat
  rw [iI_t h0 h1]
theorem iL0 : (0 : Int32) = iI 0 := rfl
theorem iL1 : (1 : Int32) = iI 1 := rfl
theorem iL2 : (2 : Int32) = iI 2 := rfl
theorem iL3 : (3 : Int32) = iI 3 := rfl
theorem iL4 : (4 : Int32) = iI 4 := rfl
theorem iL5 : (5 : Int32) = iI 5 := rfl
theorem iL6 : (6 : Int32) = iI 6 := rfl
theorem iL7 : (7 : Int32) = iI 7 := rfl
theorem iL8 : (8 : Int32) = iI 8 := rfl
theorem iL9 : (9 : Int32) = iI 9 := rfl
theorem iL10 : (10 : Int32) = iI 10 := rfl
theorem iL11 : (11 : Int32) = iI 11 := rfl
theorem iL15 : (15 : Int32) = iI 15 := rfl
theorem iL17 : (17 : Int32) = iI 17 := rfl
theorem iL23 : (23 : Int32) = iI 23 := rfl
theorem iL40 : (40 : Int32) = iI 40 := rfl
theorem iL99 : (99 : Int32) = iI 99 := rfl
theorem iL255 : (255 : Int32) = iI 255 := rfl
theorem iL999 : (999 : Int32) = iI 999 := rfl
theorem iLm1 : (-1 : Int32) = iI (-1) := by decide
theorem iLm2 : (-2 : Int32) = iI (-2) := by decide
theorem iLm3 : (-3 : Int32) = iI (-3) := by decide
theorem iLm9 : (-9 : Int32) = iI (-9) := by decide
theorem iLm10 : (-10 : Int32) = iI (-10) := by decide
theorem iI_inb {α : Type} {z : Int} {n : Nat} {B : Option α} (h0 : 0 ≤ z) (h1 : z < n) (hn : z < 2147483648) : (if iI z < 0 ∨ n ≤ (iI z).toNatClampNeg then none else B) = B := by
  rw [if_neg]
  rw [iL0, iI_lt (by omega) hn (by omega) (by omega), iI_tn (by omega) hn]
  omega
theorem iI_div {a b : Int} (h1 : 0 ≤ a) (h2 : a < 2147483648) (h3 : 0 < b) (h4 : b < 2147483648) : iI a / iI b = iI (a / b) := by
  have h := Int32.ofInt_tdiv (a := a) (b := b) (by show (-2147483648 : Int) ≤ a; omega) (by show a ≤ (2147483647 : Int); omega) (by show (-2147483648 : Int) ≤ b; omega) (by show b ≤ (2147483647 : Int); omega)
  rw [Int.tdiv_eq_ediv_of_nonneg h1] at h
  exact h.symm
theorem iI_rem {a b : Int} (h1 : 0 ≤ a) (h2 : a < 2147483648) (h3 : 0 < b) (h4 : b < 2147483648) : iI a - iI a / iI b * iI b = iI (a % b) := by
  rw [iI_div h1 h2 h3 h4, iI_mul, iI_sub, Int.emod_def, Int.mul_comm]
theorem iI_max {a b : Int} (h1 : -2147483648 ≤ a) (h2 : a < 2147483648) (h3 : -2147483648 ≤ b) (h4 : b < 2147483648) : iMax (iI a) (iI b) = iI (max a b) := by
  unfold iMax
  simp only [iI_lt h1 h2 h3 h4]
  by_cases c : a < b
  · rw [if_pos c, Int.max_eq_right (by omega)]
  · rw [if_neg c, Int.max_eq_left (by omega)]
theorem iI_min {a b : Int} (h1 : -2147483648 ≤ a) (h2 : a < 2147483648) (h3 : -2147483648 ≤ b) (h4 : b < 2147483648) : iMin (iI a) (iI b) = iI (min a b) := by
  unfold iMin
  simp only [iI_lt h3 h4 h1 h2]
  by_cases c : b < a
  · rw [if_pos c, Int.min_eq_right (by omega)]
  · rw [if_neg c, Int.min_eq_left (by omega)]
