/-! ===== how many bits are set: the JDK's way, by bytes ===== -/
def mkd (c : Nat) : Nat → Nat
  | 0 => 0
  | k + 1 => c + 256 * mkd c k
def dg (f : Nat → Nat) : Nat → Nat → Nat
  | 0, _ => 0
  | k + 1, x => f (x % 256) + 256 * dg f k (x / 256)
theorem and_dg {a c : Nat} (A C : Nat) (ha : a < 256) (hc : c < 256) : (a + 256 * A) &&& (c + 256 * C) = (a &&& c) + 256 * (A &&& C) := by
  have h0 : a &&& c < 2 ^ 8 := Nat.lt_of_le_of_lt Nat.and_le_left (by omega)
  apply Nat.eq_of_testBit_eq
  intro i
  have e1 : a + 256 * A = 2 ^ 8 * A + a := by omega
  have e2 : c + 256 * C = 2 ^ 8 * C + c := by omega
  have e3 : (a &&& c) + 256 * (A &&& C) = 2 ^ 8 * (A &&& C) + (a &&& c) := by omega
  rw [e1, e2, e3, Nat.testBit_and, Nat.testBit_two_pow_mul_add _ (by omega), Nat.testBit_two_pow_mul_add _ (by omega), Nat.testBit_two_pow_mul_add _ h0]
  by_cases h : i < 8
  · rw [if_pos h, if_pos h, if_pos h, Nat.testBit_and]
  · rw [if_neg h, if_neg h, if_neg h, Nat.testBit_and]
theorem and_mk {c : Nat} (hc : c < 256) : ∀ (k x : Nat), x &&& mkd c k = dg (fun a => a &&& c) k x := by
  intro k
  induction k with
  | zero => intro x; simp [mkd, dg]
  | succ k ih =>
    intro x
    have e : x = x % 256 + 256 * (x / 256) := by omega
    show x &&& (c + 256 * mkd c k) = (x % 256 &&& c) + 256 * dg (fun a => a &&& c) k (x / 256)
    rw [← ih (x / 256), ← and_dg _ _ (by omega) hc, ← e]
theorem dg_congr {f g : Nat → Nat} (h : ∀ a, a < 256 → f a = g a) : ∀ k x, dg f k x = dg g k x := by
  intro k
  induction k with
  | zero => intro x; rfl
  | succ k ih => intro x; rw [dg, dg, h _ (by omega), ih]
theorem half_mk : ∀ (k x : Nat), (x / 2) &&& mkd 85 k = dg (fun a => a / 2 &&& 85) k x := by
  intro k
  have F : ∀ a < 256, ∀ b < 2, (a / 2 + 128 * b) &&& 85 = a / 2 &&& 85 := by decide +kernel
  induction k with
  | zero => intro x; simp [mkd, dg]
  | succ k ih =>
    intro x
    have e : x / 2 = (x % 256 / 2 + 128 * (x / 256 % 2)) + 256 * (x / 256 / 2) := by omega
    show (x / 2) &&& (85 + 256 * mkd 85 k) = (x % 256 / 2 &&& 85) + 256 * dg _ k (x / 256)
    rw [e, and_dg _ _ (by omega) (by omega), ih, F _ (by omega) _ (by omega)]
theorem quar_mk : ∀ (k x : Nat), (x / 4) &&& mkd 51 k = dg (fun a => a / 4 &&& 51) k x := by
  intro k
  have F : ∀ a < 256, ∀ b < 4, (a / 4 + 64 * b) &&& 51 = a / 4 &&& 51 := by decide +kernel
  induction k with
  | zero => intro x; simp [mkd, dg]
  | succ k ih =>
    intro x
    have e : x / 4 = (x % 256 / 4 + 64 * (x / 256 % 4)) + 256 * (x / 256 / 4) := by omega
    show (x / 4) &&& (51 + 256 * mkd 51 k) = (x % 256 / 4 &&& 51) + 256 * dg _ k (x / 256)
    rw [e, and_dg _ _ (by omega) (by omega), ih, F _ (by omega) _ (by omega)]
theorem dg_le {f : Nat → Nat} (h : ∀ a, a < 256 → f a ≤ a) : ∀ k x, dg f k x ≤ x := by
  intro k
  induction k with
  | zero => intro x; exact Nat.zero_le _
  | succ k ih =>
    intro x
    have := ih (x / 256)
    have := h (x % 256) (by omega)
    rw [dg]
    omega
theorem dg_sub {f : Nat → Nat} (h : ∀ a, a < 256 → f a ≤ a) : ∀ k x, x < 256 ^ k → x - dg f k x = dg (fun a => a - f a) k x := by
  intro k
  induction k with
  | zero => intro x hx; simp [dg] at hx ⊢; omega
  | succ k ih =>
    intro x hx
    have h1 := ih (x / 256) (by rw [Nat.pow_succ] at hx; omega)
    have h2 := dg_le h k (x / 256)
    have h3 := h (x % 256) (by omega)
    rw [dg, dg]
    omega
theorem dg_add (f g : Nat → Nat) : ∀ k x, dg f k x + dg g k x = dg (fun a => f a + g a) k x := by
  intro k
  induction k with
  | zero => intro x; rfl
  | succ k ih =>
    intro x
    have := ih (x / 256)
    rw [dg, dg, dg]
    omega
theorem dg_comp (f : Nat → Nat) {g : Nat → Nat} (h : ∀ a, a < 256 → g a < 256) : ∀ k x, dg f k (dg g k x) = dg (fun a => f (g a)) k x := by
  intro k
  induction k with
  | zero => intro x; rfl
  | succ k ih =>
    intro x
    have h1 := h (x % 256) (by omega)
    have e1 : (g (x % 256) + 256 * dg g k (x / 256)) % 256 = g (x % 256) := by omega
    have e2 : (g (x % 256) + 256 * dg g k (x / 256)) / 256 = dg g k (x / 256) := by omega
    show f ((g (x % 256) + 256 * dg g k (x / 256)) % 256) + 256 * dg f k ((g (x % 256) + 256 * dg g k (x / 256)) / 256) = f (g (x % 256)) + 256 * dg _ k (x / 256)
    rw [e1, e2, ih]
theorem dg_nib {g : Nat → Nat} (h : ∀ a, a < 256 → g a % 16 ≤ 4 ∧ g a / 16 ≤ 4) : ∀ k x, dg (fun a => a &&& 15) k (dg g k x + dg g k x / 16) = dg (fun a => (g a + g a / 16) &&& 15) k x := by
  have F : ∀ a : Nat, a &&& 15 = a % 16 := fun a => Nat.and_two_pow_sub_one_eq_mod (n := 4) a
  have G : ∀ k x, dg g k x % 16 ≤ 4 := by
    intro k x
    cases k with
    | zero => simp [dg]
    | succ k =>
      have := (h (x % 256) (by omega)).1
      rw [dg]
      omega
  intro k
  induction k with
  | zero => intro x; rfl
  | succ k ih =>
    intro x
    have h1 := h (x % 256) (by omega)
    have hi := ih (x / 256)
    have h2 := G k (x / 256)
    have e : dg g (k + 1) x = g (x % 256) + 256 * dg g k (x / 256) := rfl
    generalize dg g k (x / 256) = B at *
    generalize hv : g (x % 256) = v at *
    have e1 : (dg g (k + 1) x + dg g (k + 1) x / 16) / 256 = B + B / 16 := by omega
    have e2 : (dg g (k + 1) x + dg g (k + 1) x / 16) % 256 % 16 = (v + v / 16) % 16 := by omega
    show ((dg g (k + 1) x + dg g (k + 1) x / 16) % 256 &&& 15) + 256 * dg _ k ((dg g (k + 1) x + dg g (k + 1) x / 16) / 256) = (g (x % 256) + g (x % 256) / 16 &&& 15) + 256 * dg _ k (x / 256)
    rw [e1, hi, F, F, e2, hv]
def pcn : Nat → Nat → Nat
  | 0, _ => 0
  | k + 1, x => x % 2 + pcn k (x / 2)
theorem pcn_add : ∀ (a b x : Nat), pcn (a + b) x = pcn a x + pcn b (x / 2 ^ a) := by
  intro a
  induction a with
  | zero => intro b x; simp [pcn]
  | succ a ih =>
    intro b x
    have e : a + 1 + b = (a + b) + 1 := by omega
    rw [e, pcn, ih, pcn, Nat.div_div_eq_div_mul, Nat.pow_succ, Nat.mul_comm 2]
    omega
theorem pcn_mod : ∀ k x : Nat, pcn k (x % 2 ^ k) = pcn k x := by
  intro k
  induction k with
  | zero => intro x; rfl
  | succ k ih =>
    intro x
    have e : x % 2 ^ (k + 1) / 2 = x / 2 % 2 ^ k := by rw [Nat.pow_succ, Nat.mul_comm, Nat.mod_mul_right_div_self]
    have e2 : x % 2 ^ (k + 1) % 2 = x % 2 := by
      rw [Nat.pow_succ, Nat.mul_comm]
      exact Nat.mod_mul_right_mod x 2 (2 ^ k)
    rw [pcn, pcn, e, e2, ih]
/-- the bits of a byte, the JDK's way -/
def p8 (a : Nat) : Nat := ((((a - (a / 2 &&& 85)) &&& 51) + ((a - (a / 2 &&& 85)) / 4 &&& 51)) + (((a - (a / 2 &&& 85)) &&& 51) + ((a - (a / 2 &&& 85)) / 4 &&& 51)) / 16) &&& 15
theorem p8_ok : ∀ a < 256, p8 a = pcn 8 a ∧ p8 a ≤ 8 ∧ (a / 2 &&& 85) ≤ a ∧ (((a - (a / 2 &&& 85)) &&& 51) + ((a - (a / 2 &&& 85)) / 4 &&& 51)) % 16 ≤ 4 ∧ (((a - (a / 2 &&& 85)) &&& 51) + ((a - (a / 2 &&& 85)) / 4 &&& 51)) / 16 ≤ 4 ∧ (a - (a / 2 &&& 85)) < 256 := by decide +kernel
def sw1 (k x : Nat) : Nat := x - (x / 2 &&& mkd 85 k)
def sw2 (k x : Nat) : Nat := (x &&& mkd 51 k) + (x / 4 &&& mkd 51 k)
def sw3 (k x : Nat) : Nat := (x + x / 16) &&& mkd 15 k
theorem sw_dg (k x : Nat) (hx : x < 256 ^ k) : sw3 k (sw2 k (sw1 k x)) = dg p8 k x := by
  have e1 : sw1 k x = dg (fun a => a - (a / 2 &&& 85)) k x := by
    unfold sw1
    rw [half_mk, dg_sub (fun a ha => (p8_ok a ha).2.2.1) k x hx]
  have e2 : sw2 k (sw1 k x) = dg (fun a => ((a - (a / 2 &&& 85)) &&& 51) + ((a - (a / 2 &&& 85)) / 4 &&& 51)) k x := by
    unfold sw2
    rw [and_mk (by omega), quar_mk, e1, dg_comp _ (fun a ha => (p8_ok a ha).2.2.2.2.2), dg_comp _ (fun a ha => (p8_ok a ha).2.2.2.2.2), dg_add]
  unfold sw3
  rw [and_mk (by omega), e2, dg_nib (fun a ha => ⟨(p8_ok a ha).2.2.2.1, (p8_ok a ha).2.2.2.2.1⟩)]
  rfl
theorem pcn_8 (k x : Nat) : pcn (8 + k) x = p8 (x % 256) + pcn k (x / 256) := by
  rw [pcn_add, (p8_ok (x % 256) (by omega)).1]
  have : (256 : Nat) = 2 ^ 8 := rfl
  rw [this, pcn_mod]
theorem sw64 (x : Nat) (hx : x < 256 ^ 8) : (dg p8 8 x + dg p8 8 x / 256 + (dg p8 8 x + dg p8 8 x / 256) / 65536 + (dg p8 8 x + dg p8 8 x / 256 + (dg p8 8 x + dg p8 8 x / 256) / 65536) / 4294967296) % 128 = pcn 64 x ∧ dg p8 8 x < 651342189133154560 := by
  have e : pcn 64 x = pcn (8 + (8 + (8 + (8 + (8 + (8 + (8 + (8 + 0)))))))) x := rfl
  rw [e, pcn_8, pcn_8, pcn_8, pcn_8, pcn_8, pcn_8, pcn_8, pcn_8]
  simp only [dg, pcn]
  have h0 := (p8_ok (x % 256) (by omega)).2.1
  have h1 := (p8_ok (x / 256 % 256) (by omega)).2.1
  have h2 := (p8_ok (x / 256 / 256 % 256) (by omega)).2.1
  have h3 := (p8_ok (x / 256 / 256 / 256 % 256) (by omega)).2.1
  have h4 := (p8_ok (x / 256 / 256 / 256 / 256 % 256) (by omega)).2.1
  have h5 := (p8_ok (x / 256 / 256 / 256 / 256 / 256 % 256) (by omega)).2.1
  have h6 := (p8_ok (x / 256 / 256 / 256 / 256 / 256 / 256 % 256) (by omega)).2.1
  have h7 := (p8_ok (x / 256 / 256 / 256 / 256 / 256 / 256 / 256 % 256) (by omega)).2.1
  generalize p8 (x % 256) = a0 at *
  generalize p8 (x / 256 % 256) = a1 at *
  generalize p8 (x / 256 / 256 % 256) = a2 at *
  generalize p8 (x / 256 / 256 / 256 % 256) = a3 at *
  generalize p8 (x / 256 / 256 / 256 / 256 % 256) = a4 at *
  generalize p8 (x / 256 / 256 / 256 / 256 / 256 % 256) = a5 at *
  generalize p8 (x / 256 / 256 / 256 / 256 / 256 / 256 % 256) = a6 at *
  generalize p8 (x / 256 / 256 / 256 / 256 / 256 / 256 / 256 % 256) = a7 at *
  clear e hx
  obtain ⟨D7, hD7⟩ : ∃ D, D = a7 + 256 * 0 := ⟨_, rfl⟩
  obtain ⟨D6, hD6⟩ : ∃ D, D = a6 + 256 * D7 := ⟨_, rfl⟩
  obtain ⟨D5, hD5⟩ : ∃ D, D = a5 + 256 * D6 := ⟨_, rfl⟩
  obtain ⟨D4, hD4⟩ : ∃ D, D = a4 + 256 * D5 := ⟨_, rfl⟩
  obtain ⟨D3, hD3⟩ : ∃ D, D = a3 + 256 * D4 := ⟨_, rfl⟩
  obtain ⟨D2, hD2⟩ : ∃ D, D = a2 + 256 * D3 := ⟨_, rfl⟩
  obtain ⟨D1, hD1⟩ : ∃ D, D = a1 + 256 * D2 := ⟨_, rfl⟩
  obtain ⟨D0, hD0⟩ : ∃ D, D = a0 + 256 * D1 := ⟨_, rfl⟩
  rw [← hD7, ← hD6, ← hD5, ← hD4, ← hD3, ← hD2, ← hD1, ← hD0]
  have q1 : D0 / 256 = D1 := by omega
  rw [q1]
  have q2 : (D0 + D1) / 65536 = D2 + D3 := by omega
  rw [q2]
  have q3 : (D0 + D1 + (D2 + D3)) / 4294967296 = D4 + D5 + D6 + D7 := by omega
  rw [q3]
  constructor
  · omega
  · omega
theorem sw32 (x : Nat) (hx : x < 256 ^ 4) : (dg p8 4 x + dg p8 4 x / 256 + (dg p8 4 x + dg p8 4 x / 256) / 65536) % 64 = pcn 32 x ∧ dg p8 4 x < 151650441 := by
  have e : pcn 32 x = pcn (8 + (8 + (8 + (8 + 0)))) x := rfl
  rw [e, pcn_8, pcn_8, pcn_8, pcn_8]
  simp only [dg, pcn]
  have h0 := (p8_ok (x % 256) (by omega)).2.1
  have h1 := (p8_ok (x / 256 % 256) (by omega)).2.1
  have h2 := (p8_ok (x / 256 / 256 % 256) (by omega)).2.1
  have h3 := (p8_ok (x / 256 / 256 / 256 % 256) (by omega)).2.1
  generalize p8 (x % 256) = a0 at *
  generalize p8 (x / 256 % 256) = a1 at *
  generalize p8 (x / 256 / 256 % 256) = a2 at *
  generalize p8 (x / 256 / 256 / 256 % 256) = a3 at *
  clear e hx
  obtain ⟨D3, hD3⟩ : ∃ D, D = a3 + 256 * 0 := ⟨_, rfl⟩
  obtain ⟨D2, hD2⟩ : ∃ D, D = a2 + 256 * D3 := ⟨_, rfl⟩
  obtain ⟨D1, hD1⟩ : ∃ D, D = a1 + 256 * D2 := ⟨_, rfl⟩
  obtain ⟨D0, hD0⟩ : ∃ D, D = a0 + 256 * D1 := ⟨_, rfl⟩
  rw [← hD3, ← hD2, ← hD1, ← hD0]
  have q1 : D0 / 256 = D1 := by omega
  rw [q1]
  have q2 : (D0 + D1) / 65536 = D2 + D3 := by omega
  rw [q2]
  constructor
  · omega
  · omega
