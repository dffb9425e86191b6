/-! ===== whole numbers behind the ints ===== -/
theorem ji_add (a b : Int) : ji a + ji b = ji (a + b) := (Int32.ofInt_add a b).symm
theorem ji_sub (a b : Int) : ji a - ji b = ji (a - b) := (Int32.ofInt_sub a b).symm
theorem ji_mul (a b : Int) : ji a * ji b = ji (a * b) := (Int32.ofInt_mul a b).symm
theorem ji_neg (a : Int) : -ji a = ji (-a) := (Int32.ofInt_neg a).symm
theorem ji_toInt {a : Int} (h1 : -2147483648 ≤ a) (h2 : a < 2147483648) : (ji a).toInt = a := Int32.toInt_ofInt_of_le h1 h2
theorem ji_of (x : Int32) : x = ji x.toInt := (Int32.ofInt_toInt x).symm
theorem ji_lt {a b : Int} (h1 : -2147483648 ≤ a) (h2 : a < 2147483648) (h3 : -2147483648 ≤ b) (h4 : b < 2147483648) : (ji a < ji b) = (a < b) := by
  rw [Int32.lt_iff_toInt_lt, ji_toInt h1 h2, ji_toInt h3 h4]
theorem ji_le {a b : Int} (h1 : -2147483648 ≤ a) (h2 : a < 2147483648) (h3 : -2147483648 ≤ b) (h4 : b < 2147483648) : (ji a ≤ ji b) = (a ≤ b) := by
  rw [Int32.le_iff_toInt_le, ji_toInt h1 h2, ji_toInt h3 h4]
theorem ji_eq {a b : Int} (h1 : -2147483648 ≤ a) (h2 : a < 2147483648) (h3 : -2147483648 ≤ b) (h4 : b < 2147483648) : (ji a = ji b) = (a = b) := by
  apply propext
  constructor
  · intro h
    have := congrArg Int32.toInt h
    rwa [ji_toInt h1 h2, ji_toInt h3 h4] at this
  · intro h
    rw [h]
theorem ji_nat {a : Int} (h1 : -2147483648 ≤ a) (h2 : a < 2147483648) : (ji a).toNatClampNeg = a.toNat := by
  rw [← Int32.toNat_toInt, ji_toInt h1 h2]
theorem ji_in {a : Int} {n : Nat} (h1 : -2147483648 ≤ a) (h2 : a < 2147483648) : vp_in (ji a) n = (0 ≤ a ∧ a < n) := by
  apply propext
  unfold vp_in
  rw [ji_nat h1 h2]
  have : (ji a < 0) = (a < 0) := ji_lt (b := 0) h1 h2 (by omega) (by omega)
  rw [this]
  omega
theorem ji_lit0 : (0 : Int32) = ji 0 := rfl
theorem ji_ofNat (n : Nat) : Int32.ofNat n = ji n := (Int32.ofInt_eq_ofNat).symm
theorem ji_div {a b : Int} (h1 : 0 ≤ a) (h2 : a < 2147483648) (h3 : 0 < b) (h4 : b < 2147483648) : ji a / ji b = ji (a / b) := by
  sorry
theorem ji_rem {a b : Int} (h1 : 0 ≤ a) (h2 : a < 2147483648) (h3 : 0 < b) (h4 : b < 2147483648) : jrem (ji a) (ji b) = ji (a % b) := by
  unfold jrem
  rw [ji_div h1 h2 h3 h4, ji_mul, ji_sub]
  congr 1
  have := Int.emod_add_mul_ediv a b
  rw [Int.mul_comm] at this
  omega
theorem jl_of (a : Int) (h1 : -2147483648 ≤ a) (h2 : a < 2147483648) : (ji a).toInt64 = jl a := by
  sorry
theorem qV_at (k : XM → Prop) (μ : XM) : qV k none μ = k μ := rfl
theorem qI_at (k : Int32 → XM → Prop) (r : Int32) (μ : XM) : qI k (some (.int r)) μ = k r μ := rfl
theorem qJ_at (k : Int64 → XM → Prop) (r : Int64) (μ : XM) : qJ k (some (.long r)) μ = k r μ := rfl
theorem qD_at (k : UInt64 → XM → Prop) (r : UInt64) (μ : XM) : qD k (some (.double r)) μ = k r μ := rfl
theorem qA_at (k : Nat → XM → Prop) (kn : XM → Prop) (r : Nat) (μ : XM) : qA k kn (some (.ref r)) μ = k r μ := rfl
theorem qA_no (k : Nat → XM → Prop) (kn : XM → Prop) (μ : XM) : qA k kn (some .null) μ = kn μ := rfl
theorem nb0 : nb (ji 0) = True := eq_true (by unfold nb; decide)
theorem nb1 : nb (ji 1) = True := eq_true (by unfold nb; decide)
