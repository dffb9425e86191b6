/-! ===== whole numbers behind the ints ===== -/
theorem ji_add (a b : Int) : ji a + ji b = ji (a + b) := (Int32.ofInt_add a b).symm
theorem ji_sub (a b : Int) : ji a - ji b = ji (a - b) := (Int32.ofInt_sub a b).symm
theorem ji_mul (a b : Int) : ji a * ji b = ji (a * b) := (Int32.ofInt_mul a b).symm
theorem ji_neg (a : Int) : -ji a = ji (-a) := (Int32.ofInt_neg a).symm
theorem ji_toInt {a : Int} (h1 : -2147483648 ≤ a) (h2 : a < 2147483648) : (ji a).toInt = a := Int32.toInt_ofInt_of_le h1 h2
theorem ji_of (x : Int32) : x = ji x.toInt := (Int32.ofInt_toInt x).symm
theorem ji_lt {a b : Int} (h1 : -2147483648 ≤ a) (h2 : a < 2147483648) (h3 : -2147483648 ≤ b) (h4 : b < 2147483648) : (ji a < ji b) = (a < b) := by
  rw [Int32.lt_iff_toInt_lt, ji_toInt h1 h2, ji_toInt h3 h4]
theorem ji_le {a b : Int} (h1 : -2147483648 ≤ a) (h2 : a < 2147483648) (h3 : -2147483648 ≤ b) (h4 : b < 2147483648) : (ji a ≤ ji b) = (a ≤ b) := by
  rw [Int32.le_iff_toInt_le, ji_toInt h1 h2, ji_toInt h3 h4]
theorem ji_eq {a b : Int} (h1 : -2147483648 ≤ a) (h2 : a < 2147483648) (h3 : -2147483648 ≤ b) (h4 : b < 2147483648) : (ji a = ji b) = (a = b) := by
  apply propext
  constructor
  · intro h
    have := congrArg Int32.toInt h
    rwa [ji_toInt h1 h2, ji_toInt h3 h4] at this
  · intro h
    rw [h]
theorem ji_nat {a : Int} (h1 : -2147483648 ≤ a) (h2 : a < 2147483648) : (ji a).toNatClampNeg = a.toNat := by
  rw [← Int32.toNat_toInt, ji_toInt h1 h2]
theorem ji_in {a : Int} {n : Nat} (h1 : -2147483648 ≤ a) (h2 : a < 2147483648) : vp_in (ji a) n = (0 ≤ a ∧ a < n) := by
  apply propext
  unfold vp_in
  rw [ji_nat h1 h2]
  have : (ji a < 0) = (a < 0) := ji_lt (b := 0) h1 h2 (by omega) (by omega)
  rw [this]
  omega
theorem ji_lit0 : (0 : Int32) = ji 0 := rfl
theorem ji_ofNat (n : Nat) : Int32.ofNat n = ji n := (Int32.ofInt_eq_ofNat).symm
theorem ji_bv {a : Int} (h1 : 0 ≤ a) : (ji a).toBitVec = BitVec.ofNat 32 a.toNat := by
  obtain ⟨n, rfl⟩ : ∃ n : Nat, a = n := ⟨a.toNat, by omega⟩
  simp only [ji, Int.toNat_natCast]
  rfl
theorem ji_tn {a : Int} (h1 : 0 ≤ a) (h2 : a < 2147483648) : (ji a).toBitVec.toNat = a.toNat := by
  rw [ji_bv h1, BitVec.toNat_ofNat]
  omega
theorem ji_bw {n : Nat} : (ji (n : Int)).toBitVec = BitVec.ofNat 32 n := rfl
theorem ji_and {a b : Int} (h1 : 0 ≤ a) (h2 : a < 2147483648) (h3 : 0 ≤ b) (h4 : b < 2147483648) : ji a &&& ji b = ji ((a.toNat &&& b.toNat : Nat) : Int) := by
  apply Int32.toBitVec_inj.mp
  apply BitVec.eq_of_toNat_eq
  have : a.toNat &&& b.toNat ≤ a.toNat := Nat.and_le_left
  rw [Int32.toBitVec_and, BitVec.toNat_and, ji_tn h1 h2, ji_tn h3 h4, ji_tn (by omega) (by omega), Int.toNat_natCast]
theorem ji_and1 {a : Int} (h1 : 0 ≤ a) (h2 : a < 2147483648) : ji a &&& ji 1 = ji (a % 2) := by
  rw [ji_and h1 h2 (by omega) (by omega)]
  have : a.toNat &&& (1 : Int).toNat = a.toNat % 2 := Nat.and_one_is_mod _
  rw [this]
  congr 1
  omega
theorem jsh_amt {k : Int} (h1 : 0 ≤ k) (h2 : k < 32) : ji k &&& 31 = ji k := by
  have := ji_and (a := k) (b := 31) h1 (by omega) (by omega) (by omega)
  have e : (31 : Int32) = ji 31 := rfl
  rw [e, this]
  congr 1
  have : k.toNat &&& (31 : Int).toNat = k.toNat % 32 := Nat.and_two_pow_sub_one_eq_mod (n := 5) _
  rw [this]
  omega
theorem ji_shr {a k : Int} (h1 : 0 ≤ a) (h2 : a < 2147483648) (h3 : 0 ≤ k) (h4 : k < 32) : jshr (ji a) (ji k) = ji ((a.toNat >>> k.toNat : Nat) : Int) := by
  unfold jshr
  rw [jsh_amt h3 h4]
  have : a.toNat >>> k.toNat ≤ a.toNat := Nat.shiftRight_le _ _
  have e : (ji k).toBitVec.smod 32 = BitVec.ofNat 32 k.toNat := by
    obtain ⟨k', rfl⟩ : ∃ k' : Nat, k = k' := ⟨k.toNat, by omega⟩
    have h : ∀ k' : Fin 32, (ji ((k' : Nat) : Int)).toBitVec.smod 32 = BitVec.ofNat 32 (((k' : Nat) : Int).toNat) := by decide +kernel
    exact h ⟨k', by omega⟩
  apply Int32.toBitVec_inj.mp
  rw [Int32.toBitVec_shiftRight, e]
  have hk : (BitVec.ofNat 32 k.toNat).toNat = k.toNat := by rw [BitVec.toNat_ofNat]; omega
  have hm : (ji a).toBitVec.msb = false := by
    rw [BitVec.msb_eq_decide, ji_tn h1 h2]
    simp
    omega
  show (ji a).toBitVec.sshiftRight (BitVec.ofNat 32 k.toNat).toNat = _
  rw [hk, BitVec.sshiftRight_eq_of_msb_false hm]
  apply BitVec.eq_of_toNat_eq
  rw [BitVec.toNat_ushiftRight, ji_tn h1 h2, ji_tn (Int.natCast_nonneg _) (by omega), Int.toNat_natCast]
theorem ji_or {a b : Int} (h1 : 0 ≤ a) (h2 : a < 2147483648) (h3 : 0 ≤ b) (h4 : b < 2147483648) : ji a ||| ji b = ji ((a.toNat ||| b.toNat : Nat) : Int) := by
  apply Int32.toBitVec_inj.mp
  apply BitVec.eq_of_toNat_eq
  have : a.toNat ||| b.toNat < 2 ^ 31 := Nat.or_lt_two_pow (by omega) (by omega)
  rw [Int32.toBitVec_or, BitVec.toNat_or, ji_tn h1 h2, ji_tn h3 h4, ji_tn (Int.natCast_nonneg _) (by omega), Int.toNat_natCast]
theorem ji_shl1 {k : Int} (h3 : 0 ≤ k) (h4 : k < 31) : jshl (ji 1) (ji k) = ji ((2 ^ k.toNat : Nat) : Int) := by
  obtain ⟨k', rfl⟩ : ∃ k' : Nat, k = k' := ⟨k.toNat, by omega⟩
  have h : ∀ k' : Fin 31, jshl (ji 1) (ji ((k' : Nat) : Int)) = ji ((2 ^ (((k' : Nat) : Int).toNat) : Nat) : Int) := by decide +kernel
  exact h ⟨k', by omega⟩
theorem ji_shr1 {a : Int} (h1 : 0 ≤ a) (h2 : a < 2147483648) : jshr (ji a) (ji 1) = ji (a / 2) := by
  rw [ji_shr h1 h2 (by omega) (by omega)]
  have : a.toNat >>> (1 : Int).toNat = a.toNat / 2 := rfl
  rw [this]
  congr 1
  omega
theorem ji_div {a b : Int} (h1 : 0 ≤ a) (h2 : a < 2147483648) (h3 : 0 < b) (h4 : b < 2147483648) : ji a / ji b = ji (a / b) := by
  apply Int32.toInt_inj.mp
  rw [Int32.toInt_div]
  have h5 : 0 ≤ a / b := Int.ediv_nonneg h1 (by omega)
  have h6 : a / b ≤ a := Int.ediv_le_self b h1
  rw [ji_toInt (by omega) (by omega), ji_toInt (by omega) (by omega), ji_toInt (by omega) (by omega), Int.tdiv_eq_ediv_of_nonneg h1]
  apply Int.bmod_eq_of_le <;> omega
theorem ji_rem {a b : Int} (h1 : 0 ≤ a) (h2 : a < 2147483648) (h3 : 0 < b) (h4 : b < 2147483648) : jrem (ji a) (ji b) = ji (a % b) := by
  unfold jrem
  rw [ji_div h1 h2 h3 h4, ji_mul, ji_sub]
  congr 1
  have := Int.emod_add_mul_ediv a b
  rw [Int.mul_comm] at this
  omega
theorem jl_of (a : Int) (h1 : -2147483648 ≤ a) (h2 : a < 2147483648) : (ji a).toInt64 = jl a := by
  apply Int64.toInt_inj.mp
  rw [Int32.toInt_toInt64, ji_toInt h1 h2]
  exact (Int64.toInt_ofInt_of_le (by omega) (by omega)).symm
theorem qV_at (k : XM → Prop) (μ : XM) : qV k none μ = k μ := rfl
theorem qI_at (k : Int32 → XM → Prop) (r : Int32) (μ : XM) : qI k (some (.int r)) μ = k r μ := rfl
theorem qJ_at (k : Int64 → XM → Prop) (r : Int64) (μ : XM) : qJ k (some (.long r)) μ = k r μ := rfl
theorem qD_at (k : UInt64 → XM → Prop) (r : UInt64) (μ : XM) : qD k (some (.double r)) μ = k r μ := rfl
theorem qA_at (k : Nat → XM → Prop) (kn : XM → Prop) (r : Nat) (μ : XM) : qA k kn (some (.ref r)) μ = k r μ := rfl
theorem qA_no (k : Nat → XM → Prop) (kn : XM → Prop) (μ : XM) : qA k kn (some .null) μ = kn μ := rfl
theorem nb0 : nb (ji 0) = True := eq_true (by unfold nb; decide)
theorem nb1 : nb (ji 1) = True := eq_true (by unfold nb; decide)
theorem cat_r (a : Nat) : (Value.category (.ref a) = 1) = True := eq_true rfl
theorem cat_i (a : Int32) : (Value.category (.int a) = 1) = True := eq_true rfl
