/-! numbers: every int is xi_ of a whole number, every long xl_ of one; sums, products need no bounds, comparisons and quotients do -/
def xi_ (x : Int) : Int32 := Int32.ofInt x
def xl_ (x : Int) : Int64 := Int64.ofInt x
theorem xi_add (a b : Int) : xi_ (a + b) = xi_ a + xi_ b := Int32.ofInt_add a b
theorem xi_sub (a b : Int) : xi_ (a - b) = xi_ a - xi_ b := Int32.ofInt_sub a b
theorem xi_mul (a b : Int) : xi_ (a * b) = xi_ a * xi_ b := Int32.ofInt_mul a b
theorem xi_neg (a : Int) : xi_ (-a) = - xi_ a := Int32.ofInt_neg a
theorem xl_add (a b : Int) : xl_ (a + b) = xl_ a + xl_ b := Int64.ofInt_add a b
theorem xl_sub (a b : Int) : xl_ (a - b) = xl_ a - xl_ b := Int64.ofInt_sub a b
theorem xl_mul (a b : Int) : xl_ (a * b) = xl_ a * xl_ b := Int64.ofInt_mul a b
theorem xl_neg (a : Int) : xl_ (-a) = - xl_ a := Int64.ofInt_neg a
theorem xi_of (x : Int32) : xi_ x.toInt = x := Int32.ofInt_toInt x
theorem xl_of (x : Int64) : xl_ x.toInt = x := Int64.ofInt_toInt x
theorem xi_rng (x : Int32) : -2147483648 ≤ x.toInt ∧ x.toInt ≤ 2147483647 := by
  have h1 := Int32.toInt_lt x
  have h2 := Int32.le_toInt x
  omega
theorem xl_rng (x : Int64) : -9223372036854775808 ≤ x.toInt ∧ x.toInt ≤ 9223372036854775807 := by
  have h1 := Int64.toInt_lt x
  have h2 := Int64.le_toInt x
  omega
theorem xi_toInt {a : Int} (h : -2147483648 ≤ a ∧ a ≤ 2147483647) : (xi_ a).toInt = a := Int32.toInt_ofInt_of_le (by omega) (by omega)
theorem xl_toInt {a : Int} (h : -9223372036854775808 ≤ a ∧ a ≤ 9223372036854775807) : (xl_ a).toInt = a := Int64.toInt_ofInt_of_le (by omega) (by omega)
theorem xi_lt {a b : Int} (h : (-2147483648 ≤ a ∧ a ≤ 2147483647) ∧ (-2147483648 ≤ b ∧ b ≤ 2147483647)) : xi_ a < xi_ b ↔ a < b := by rw [Int32.lt_iff_toInt_lt, xi_toInt h.1, xi_toInt h.2]
theorem xi_le {a b : Int} (h : (-2147483648 ≤ a ∧ a ≤ 2147483647) ∧ (-2147483648 ≤ b ∧ b ≤ 2147483647)) : xi_ a ≤ xi_ b ↔ a ≤ b := by rw [Int32.le_iff_toInt_le, xi_toInt h.1, xi_toInt h.2]
theorem xi_eq {a b : Int} (h : (-2147483648 ≤ a ∧ a ≤ 2147483647) ∧ (-2147483648 ≤ b ∧ b ≤ 2147483647)) : xi_ a = xi_ b ↔ a = b := by rw [← Int32.toInt_inj, xi_toInt h.1, xi_toInt h.2]
theorem xl_lt {a b : Int} (h : (-9223372036854775808 ≤ a ∧ a ≤ 9223372036854775807) ∧ (-9223372036854775808 ≤ b ∧ b ≤ 9223372036854775807)) : xl_ a < xl_ b ↔ a < b := by rw [Int64.lt_iff_toInt_lt, xl_toInt h.1, xl_toInt h.2]
theorem xl_le {a b : Int} (h : (-9223372036854775808 ≤ a ∧ a ≤ 9223372036854775807) ∧ (-9223372036854775808 ≤ b ∧ b ≤ 9223372036854775807)) : xl_ a ≤ xl_ b ↔ a ≤ b := by rw [Int64.le_iff_toInt_le, xl_toInt h.1, xl_toInt h.2]
theorem xl_eq {a b : Int} (h : (-9223372036854775808 ≤ a ∧ a ≤ 9223372036854775807) ∧ (-9223372036854775808 ≤ b ∧ b ≤ 9223372036854775807)) : xl_ a = xl_ b ↔ a = b := by rw [← Int64.toInt_inj, xl_toInt h.1, xl_toInt h.2]
theorem xi_0 : (0 : Int32) = xi_ 0 := by decide
theorem xl_0 : (0 : Int64) = xl_ 0 := by decide
theorem xi_l {a : Int} (h : -2147483648 ≤ a ∧ a ≤ 2147483647) : (xi_ a).toInt64 = xl_ a := Int64.toInt_inj.mp (by rw [Int32.toInt_toInt64, xi_toInt h, xl_toInt (by omega)])
theorem xl_i (a : Int) : (xl_ a).toInt32 = xi_ a := Int64.toInt32_ofInt
theorem xi_nat (n : Nat) : nI n = xi_ (n : Int) := by
  show Int32.ofNat n = Int32.ofInt (n : Int)
  first | rfl | exact (Int32.ofInt_natCast n).symm | simp
theorem xi_cl {a : Int} (h : -2147483648 ≤ a ∧ a ≤ 2147483647) : (xi_ a).toNatClampNeg = a.toNat := Int32.toNatClampNeg_ofInt_of_le (by omega) (by omega)
theorem xi_in {a : Int} {n : Nat} (h : 0 ≤ a ∧ a < (n : Int) ∧ (n : Int) ≤ 2147483647) : vp_in (xi_ a) n := by
  rw [vp_in_iff, xi_toInt (by omega)]
  omega
theorem xi_div {a b : Int} (h : (-2147483647 ≤ a ∧ a ≤ 2147483647) ∧ (-2147483648 ≤ b ∧ b ≤ 2147483647)) : xi_ a / xi_ b = xi_ (a.tdiv b) := by
  show Int32.ofInt a / Int32.ofInt b = Int32.ofInt (a.tdiv b)
  refine Int32.toInt_inj.mp ?_
  have ea : (Int32.ofInt a).toInt = a := xi_toInt (a := a) (by omega)
  have eb : (Int32.ofInt b).toInt = b := xi_toInt (a := b) (by omega)
  have hq : -2147483648 ≤ a.tdiv b ∧ a.tdiv b ≤ 2147483647 := by
    have h1 : (a.tdiv b).natAbs ≤ a.natAbs := by rw [Int.natAbs_tdiv]; exact Nat.div_le_self _ _
    omega
  rw [Int32.toInt_div_of_ne_left _ _ (fun q => ?_), ea, eb]
  · exact (xi_toInt (a := a.tdiv b) hq).symm
  · have := congrArg Int32.toInt q
    rw [ea] at this
    have h2 : Int32.minValue.toInt = -2147483648 := by decide
    omega
theorem xl_div {a b : Int} (h : (-9223372036854775807 ≤ a ∧ a ≤ 9223372036854775807) ∧ (-9223372036854775808 ≤ b ∧ b ≤ 9223372036854775807)) : xl_ a / xl_ b = xl_ (a.tdiv b) := by
  show Int64.ofInt a / Int64.ofInt b = Int64.ofInt (a.tdiv b)
  refine Int64.toInt_inj.mp ?_
  have ea : (Int64.ofInt a).toInt = a := xl_toInt (a := a) (by omega)
  have eb : (Int64.ofInt b).toInt = b := xl_toInt (a := b) (by omega)
  have hq : -9223372036854775808 ≤ a.tdiv b ∧ a.tdiv b ≤ 9223372036854775807 := by
    have h1 : (a.tdiv b).natAbs ≤ a.natAbs := by rw [Int.natAbs_tdiv]; exact Nat.div_le_self _ _
    omega
  rw [Int64.toInt_div_of_ne_left _ _ (fun q => ?_), ea, eb]
  · exact (xl_toInt (a := a.tdiv b) hq).symm
  · have := congrArg Int64.toInt q
    rw [ea] at this
    have h2 : Int64.minValue.toInt = -9223372036854775808 := by decide
    omega
theorem xi_rem {a b : Int} (h : (-2147483647 ≤ a ∧ a ≤ 2147483647) ∧ (-2147483648 ≤ b ∧ b ≤ 2147483647)) : xi_ a - xi_ a / xi_ b * xi_ b = xi_ (a.tmod b) := by
  rw [xi_div h, ← xi_mul, ← xi_sub]
  congr 1
  rw [Int.tmod_def, Int.mul_comm]
theorem xl_rem {a b : Int} (h : (-9223372036854775807 ≤ a ∧ a ≤ 9223372036854775807) ∧ (-9223372036854775808 ≤ b ∧ b ≤ 9223372036854775807)) : xl_ a - xl_ a / xl_ b * xl_ b = xl_ (a.tmod b) := by
  rw [xl_div h, ← xl_mul, ← xl_sub]
  congr 1
  rw [Int.tmod_def, Int.mul_comm]
