/-! ===== the JDK's bit counts on what the class gives them ===== -/
theorem jl_bw {n : Nat} : (jl (n : Int)).toBitVec = BitVec.ofNat 64 n := rfl
theorem jl_addn (a b : Nat) : jl (a : Int) + jl (b : Int) = jl ((a + b : Nat) : Int) := (Int64.ofInt_add a b).symm
theorem jl_subn {a b : Nat} (h : b ≤ a) : jl (a : Int) - jl (b : Int) = jl ((a - b : Nat) : Int) := by
  rw [Int.ofNat_sub h]
  exact (Int64.ofInt_sub a b).symm
theorem jl_andn (a b : Nat) : jl (a : Int) &&& jl (b : Int) = jl ((a &&& b : Nat) : Int) := by
  apply Int64.toBitVec_inj.mp
  rw [Int64.toBitVec_and, jl_bw, jl_bw, jl_bw, BitVec.ofNat_and]
theorem jl_ush {n : Nat} (k : Nat) (hk : k < 64) (hn : n < 2 ^ 64) : jlushr (jl (n : Int)) (ji (k : Int)) = jl ((n / 2 ^ k : Nat) : Int) := by
  have hs : ∀ k : Fin 64, ((ji (((k : Nat) : Int))).toInt64.toUInt64 &&& Int64.toUInt64 63).toNat % 64 = (k : Nat) := by decide +kernel
  apply Int64.toBitVec_inj.mp
  apply BitVec.eq_of_toNat_eq
  have e1 : (jl (n : Int)).toUInt64.toNat = n := by
    show (BitVec.ofNat 64 n).toNat = n
    rw [BitVec.toNat_ofNat, Nat.mod_eq_of_lt hn]
  show ((jl (n : Int)).toUInt64 >>> ((ji (k : Int)).toInt64.toUInt64 &&& Int64.toUInt64 63)).toNat = (BitVec.ofNat 64 (n / 2 ^ k)).toNat
  have h2 : n / 2 ^ k ≤ n := Nat.div_le_self _ _
  rw [UInt64.toNat_shiftRight, hs ⟨k, hk⟩, e1, Nat.shiftRight_eq_div_pow, BitVec.toNat_ofNat, Nat.mod_eq_of_lt (by omega)]
theorem ji_addn (a b : Nat) : ji (a : Int) + ji (b : Int) = ji ((a + b : Nat) : Int) := (Int32.ofInt_add a b).symm
theorem ji_subn {a b : Nat} (h : b ≤ a) : ji (a : Int) - ji (b : Int) = ji ((a - b : Nat) : Int) := by
  rw [Int.ofNat_sub h]
  exact (Int32.ofInt_sub a b).symm
theorem ji_andn (a b : Nat) : ji (a : Int) &&& ji (b : Int) = ji ((a &&& b : Nat) : Int) := by
  apply Int32.toBitVec_inj.mp
  rw [Int32.toBitVec_and, ji_bw, ji_bw, ji_bw, BitVec.ofNat_and]
theorem ji_ush {n : Nat} (k : Nat) (hk : k < 32) (hn : n < 2 ^ 32) : jushr (ji (n : Int)) (ji (k : Int)) = ji ((n / 2 ^ k : Nat) : Int) := by
  have hs : ∀ k : Fin 32, ((ji (((k : Nat) : Int))).toUInt32 &&& Int32.toUInt32 31).toNat % 32 = (k : Nat) := by decide +kernel
  apply Int32.toBitVec_inj.mp
  apply BitVec.eq_of_toNat_eq
  have e1 : (ji (n : Int)).toUInt32.toNat = n := by
    show (BitVec.ofNat 32 n).toNat = n
    rw [BitVec.toNat_ofNat, Nat.mod_eq_of_lt hn]
  show ((ji (n : Int)).toUInt32 >>> ((ji (k : Int)).toUInt32 &&& Int32.toUInt32 31)).toNat = (BitVec.ofNat 32 (n / 2 ^ k)).toNat
  have h2 : n / 2 ^ k ≤ n := Nat.div_le_self _ _
  rw [UInt32.toNat_shiftRight, hs ⟨k, hk⟩, e1, Nat.shiftRight_eq_div_pow, BitVec.toNat_ofNat, Nat.mod_eq_of_lt (by omega)]
theorem jl_i (n : Nat) : Int64.toInt32 (jl (n : Int)) = ji (n : Int) := by
  apply Int32.toBitVec_inj.mp
  apply BitVec.eq_of_toNat_eq
  show ((jl (n : Int)).toBitVec.signExtend 32).toNat = (BitVec.ofNat 32 n).toNat
  rw [BitVec.signExtend_eq_setWidth_of_le _ (by omega), BitVec.toNat_setWidth, jl_bw, BitVec.toNat_ofNat, BitVec.toNat_ofNat]
  omega
section
variable {μ : XM} {Q : XQ} {X : XX}
theorem e_bc64 {n : Nat} (hn : n < 2 ^ 63) : s_J13_bitCount_95d88 μ [.long (jl (n : Int))] Q X = Q (some (.int (ji ((pcn 64 n : Nat) : Int)))) μ := by
  have m1 : (6148914691236517205 : Int) = ((mkd 85 8 : Nat) : Int) := by decide +kernel
  have m2 : (3689348814741910323 : Int) = ((mkd 51 8 : Nat) : Int) := by decide +kernel
  have m3 : (1085102592571150095 : Int) = ((mkd 15 8 : Nat) : Int) := by decide +kernel
  have l1 : n / 2 &&& mkd 85 8 ≤ n := Nat.le_trans Nat.and_le_left (Nat.div_le_self _ _)
  have b1 : sw1 8 n < 2 ^ 63 := Nat.lt_of_le_of_lt (Nat.sub_le _ _) hn
  have s1 : jl (n : Int) - (jlushr (jl (n : Int)) (ji 1) &&& jl 6148914691236517205) = jl ((sw1 8 n : Nat) : Int) := by
    rw [m1, show (1 : Int) = ((1 : Nat) : Int) from rfl, jl_ush 1 (by omega) (by omega), jl_andn, jl_subn (by simpa using l1)]
    rfl
  have hs := sw_dg 8 n (by omega)
  have b2 : sw2 8 (sw1 8 n) < 2 ^ 64 := by
    have h1 : sw1 8 n &&& mkd 51 8 ≤ mkd 51 8 := Nat.and_le_right
    have h2 : sw1 8 n / 4 &&& mkd 51 8 ≤ mkd 51 8 := Nat.and_le_right
    have h3 : mkd 51 8 < 2 ^ 62 := by decide +kernel
    unfold sw2
    omega
  have s2 : (jl ((sw1 8 n : Nat) : Int) &&& jl 3689348814741910323) + (jlushr (jl ((sw1 8 n : Nat) : Int)) (ji 2) &&& jl 3689348814741910323) = jl ((sw2 8 (sw1 8 n) : Nat) : Int) := by
    rw [m2, show (2 : Int) = ((2 : Nat) : Int) from rfl, jl_ush 2 (by omega) (by omega), jl_andn, jl_andn, jl_addn]
    rfl
  have s3 : (jl ((sw2 8 (sw1 8 n) : Nat) : Int) + jlushr (jl ((sw2 8 (sw1 8 n) : Nat) : Int)) (ji 4)) &&& jl 1085102592571150095 = jl ((dg p8 8 n : Nat) : Int) := by
    rw [m3, show (4 : Int) = ((4 : Nat) : Int) from rfl, jl_ush 4 (by omega) (by omega), jl_addn, jl_andn, ← hs]
    rfl
  have hw := sw64 n (by omega)
  rw [u_J13_bitCount_95d88, s1, s2, s3]
  generalize dg p8 8 n = d at *
  have s4 : jl (d : Int) + jlushr (jl (d : Int)) (ji 8) = jl ((d + d / 256 : Nat) : Int) := by
    rw [show (8 : Int) = ((8 : Nat) : Int) from rfl, jl_ush 8 (by omega) (by omega), jl_addn]
  rw [s4]
  generalize hv : d + d / 256 = v at *
  have s5 : jl (v : Int) + jlushr (jl (v : Int)) (ji 16) = jl ((v + v / 65536 : Nat) : Int) := by
    rw [show (16 : Int) = ((16 : Nat) : Int) from rfl, jl_ush 16 (by omega) (by omega), jl_addn]
  rw [s5]
  generalize hu : v + v / 65536 = u at *
  have s6 : jl (u : Int) + jlushr (jl (u : Int)) (ji 32) = jl ((u + u / 4294967296 : Nat) : Int) := by
    rw [show (32 : Int) = ((32 : Nat) : Int) from rfl, jl_ush 32 (by omega) (by omega), jl_addn]
  rw [s6, jl_i, show (127 : Int) = ((127 : Nat) : Int) from rfl, ji_andn, show (127 : Nat) = 2 ^ 7 - 1 from rfl, Nat.and_two_pow_sub_one_eq_mod, show (2 : Nat) ^ 7 = 128 from rfl, hw.1]
theorem e_bc32 {n : Nat} (hn : n < 2 ^ 31) : s_J6_bitCount_0f7a4 μ [.int (ji (n : Int))] Q X = Q (some (.int (ji ((pcn 32 n : Nat) : Int)))) μ := by
  have m1 : (1431655765 : Int) = ((mkd 85 4 : Nat) : Int) := by decide +kernel
  have m2 : (858993459 : Int) = ((mkd 51 4 : Nat) : Int) := by decide +kernel
  have m3 : (252645135 : Int) = ((mkd 15 4 : Nat) : Int) := by decide +kernel
  have l1 : n / 2 &&& mkd 85 4 ≤ n := Nat.le_trans Nat.and_le_left (Nat.div_le_self _ _)
  have b1 : sw1 4 n < 2 ^ 31 := Nat.lt_of_le_of_lt (Nat.sub_le _ _) hn
  have s1 : ji (n : Int) - (jushr (ji (n : Int)) (ji 1) &&& ji 1431655765) = ji ((sw1 4 n : Nat) : Int) := by
    rw [m1, show (1 : Int) = ((1 : Nat) : Int) from rfl, ji_ush 1 (by omega) (by omega), ji_andn, ji_subn (by simpa using l1)]
    rfl
  have hs := sw_dg 4 n (by omega)
  have b2 : sw2 4 (sw1 4 n) < 2 ^ 32 := by
    have h1 : sw1 4 n &&& mkd 51 4 ≤ mkd 51 4 := Nat.and_le_right
    have h2 : sw1 4 n / 4 &&& mkd 51 4 ≤ mkd 51 4 := Nat.and_le_right
    have h3 : mkd 51 4 < 2 ^ 30 := by decide +kernel
    unfold sw2
    omega
  have s2 : (ji ((sw1 4 n : Nat) : Int) &&& ji 858993459) + (jushr (ji ((sw1 4 n : Nat) : Int)) (ji 2) &&& ji 858993459) = ji ((sw2 4 (sw1 4 n) : Nat) : Int) := by
    rw [m2, show (2 : Int) = ((2 : Nat) : Int) from rfl, ji_ush 2 (by omega) (by omega), ji_andn, ji_andn, ji_addn]
    rfl
  have s3 : (ji ((sw2 4 (sw1 4 n) : Nat) : Int) + jushr (ji ((sw2 4 (sw1 4 n) : Nat) : Int)) (ji 4)) &&& ji 252645135 = ji ((dg p8 4 n : Nat) : Int) := by
    rw [m3, show (4 : Int) = ((4 : Nat) : Int) from rfl, ji_ush 4 (by omega) (by omega), ji_addn, ji_andn, ← hs]
    rfl
  have hw := sw32 n (by omega)
  rw [u_J6_bitCount_0f7a4, s1, s2, s3]
  generalize dg p8 4 n = d at *
  have s4 : ji (d : Int) + jushr (ji (d : Int)) (ji 8) = ji ((d + d / 256 : Nat) : Int) := by
    rw [show (8 : Int) = ((8 : Nat) : Int) from rfl, ji_ush 8 (by omega) (by omega), ji_addn]
  rw [s4]
  generalize hv : d + d / 256 = v at *
  have s5 : ji (v : Int) + jushr (ji (v : Int)) (ji 16) = ji ((v + v / 65536 : Nat) : Int) := by
    rw [show (16 : Int) = ((16 : Nat) : Int) from rfl, ji_ush 16 (by omega) (by omega), ji_addn]
  rw [s5, show (63 : Int) = ((63 : Nat) : Int) from rfl, ji_andn, show (63 : Nat) = 2 ^ 6 - 1 from rfl, Nat.and_two_pow_sub_one_eq_mod, show (2 : Nat) ^ 6 = 64 from rfl, hw.1]
end
theorem cntz_bits (f : Int → Bool) : ∀ (k n : Nat) (l c : Int), (∀ i : Nat, i < k → f (l + i) = n.testBit i) → cntz f l k c = c + (pcn k n : Nat) := by
  intro k
  induction k with
  | zero => intro n l c _; simp [cntz, foldz, pcn]
  | succ k ih =>
    intro n l c h
    have h0 := h 0 (by omega)
    rw [Int.natCast_zero, Int.add_zero, Nat.testBit_zero] at h0
    have e : cntz f l (k + 1) c = cntz f (l + 1) k (if f l = true then c + 1 else c) := rfl
    rw [e, ih (n / 2) (l + 1) _ (fun i hi => by
      have := h (i + 1) (by omega)
      rw [Nat.testBit_succ] at this
      rw [← this]
      congr 1
      omega), h0, pcn]
    by_cases hb : n % 2 = 1
    · simp only [hb, decide_true, if_true]; omega
    · have : n % 2 = 0 := by omega
      simp [this]
/-- beyond, there are none -/
theorem cntz_cut (f : Int → Bool) : ∀ (d e : Nat) (l c : Int), (∀ k, l + d ≤ k → k < l + d + e → f k = false) → cntz f l (d + e) c = cntz f l d c := by
  intro d
  induction d with
  | zero =>
    intro e
    induction e with
    | zero => intro l c _; rfl
    | succ e ih =>
      intro l c h
      have h0 := h l (by omega) (by omega)
      rw [Nat.zero_add]
      have e1 : cntz f l (e + 1) c = cntz f (l + 1) e (if f l = true then c + 1 else c) := rfl
      have := ih (l + 1) c (fun k k0 k1 => h k (by omega) (by omega))
      rw [Nat.zero_add] at this
      rw [e1, h0]
      exact this
  | succ d ih =>
    intro e l c h
    rw [Nat.succ_add]
    exact ih e (l + 1) _ (fun k k0 k1 => h k (by omega) (by omega))
/-- a long out of its bits -/
theorem tb_jl {y : Int64} (h : ∀ n : Int, 36 ≤ n → n < 64 → tb y n = false) : ∃ n : Nat, n < 2 ^ 36 ∧ y = jl (n : Int) ∧ ∀ i : Nat, n.testBit i = tb y i := by
  have hlt : y.toBitVec.toNat < 2 ^ 36 := by
    apply Nat.lt_pow_two_of_testBit
    intro i hi
    by_cases h6 : i < 64
    · have := h (i : Int) (by omega) (by omega)
      unfold tb at this
      rw [Int.toNat_natCast] at this
      exact this
    · have := y.toBitVec.isLt
      exact Nat.testBit_lt_two_pow (Nat.lt_of_lt_of_le this (Nat.pow_le_pow_right (by omega) (by omega)))
  refine ⟨y.toBitVec.toNat, hlt, ?_, fun i => ?_⟩
  · apply Int64.toBitVec_inj.mp
    rw [jl_bw, BitVec.ofNat_toNat, BitVec.setWidth_eq]
  · unfold tb
    rw [Int.toNat_natCast]
    rfl
/-- a set of packets as a number -/
theorem set_n (f : Int → Bool) : ∀ d : Nat, d ≤ 25 → ∃ n : Nat, n < 2 ^ d ∧ foldz (fun k x => if f k = true then x ||| jshl (ji 1) (ji k) else x) 0 d (ji 0) = ji (n : Int) ∧ ∀ i : Nat, i < d → n.testBit i = f i := by
  intro d
  induction d with
  | zero => intro _; exact ⟨0, by omega, rfl, fun i hi => by omega⟩
  | succ d ih =>
    intro hd
    obtain ⟨n, n0, n1, n2⟩ := ih (by omega)
    have hp : 2 ^ d ≤ 2 ^ 25 := Nat.pow_le_pow_right (by omega) (by omega)
    have hs : (2 : Nat) ^ (d + 1) = 2 ^ d * 2 := Nat.pow_succ _ _
    rw [foldz_last, n1]
    have hd0 : (0 : Int) + (d : Int) = d := by omega
    rw [hd0]
    by_cases hf : f d = true
    · refine ⟨n ||| 2 ^ d, Nat.or_lt_two_pow (by omega) (by omega), ?_, fun i hi => ?_⟩
      · simp only [hf, if_true]
        rw [ji_shl1 (by omega) (by omega), Int.toNat_natCast, ji_or (by omega) (by omega) (by omega) (by omega)]
        simp only [Int.toNat_natCast]
      · rw [Nat.testBit_or, Nat.testBit_two_pow]
        by_cases hi2 : i = d
        · subst hi2; simp [hf]
        · rw [n2 i (by omega)]
          have : ¬ d = i := fun q => hi2 q.symm
          simp [this]
    · refine ⟨n, by omega, ?_, fun i hi => ?_⟩
      · simp only [hf, if_false]; rfl
      · by_cases hi2 : i = d
        · subst hi2
          rw [Nat.testBit_lt_two_pow n0]
          simpa using hf
        · exact n2 i (by omega)
/-- a packet's property -/
def prp (N : Int) (Z : Int → Int) (o k : Int) : Int := if k = 0 then Z o else if k = 1 then Z (o + 1) else if k = 2 then Z (o + 2) else if k = 3 then Z (o + 3) else if k = 4 then Z (o + 4) else if k = 5 then Z (o + 5) else if k = 6 then Z (o + 6) else if k = 7 then cntz (vis Z o) 0 N.toNat 0 else if k = 8 then cntz (fun l => decide (Z (o + 47 + l) ≠ -1)) 0 72 0 else if k = 9 then Z (o + 7) else if k = 10 then Z (o + 8) else -1
section
variable {μ : XM} {x : Nat} {w h N s : Int} {Z : Int → Int} {Q : XQ} {X : XX}
theorem e_visn {P : Nat} {o : Int} (hP : PW μ P Z o) (hN : 0 ≤ N ∧ N ≤ 36) (hv : ∀ n : Int, N ≤ n → n < 64 → vis Z o n = false) : s_J13_bitCount_95d88 μ [.long (gL μ 105 P)] Q X = Q (some (.int (ji (cntz (vis Z o) 0 N.toNat 0)))) μ := by
  have hb := hP.2.1
  obtain ⟨n, n0, n1, n2⟩ := tb_jl (y := gL μ 105 P) (fun i i0 i1 => by rw [hb i (by omega) i1]; exact hv i (by omega) i1)
  have e1 := cntz_cut (vis Z o) N.toNat (64 - N.toNat) 0 0 (fun k k0 k1 => hv k (by omega) (by omega))
  have e2 : N.toNat + (64 - N.toNat) = 64 := by omega
  rw [e2] at e1
  have e3 := cntz_bits (vis Z o) 64 n 0 0 (fun i hi => by
    rw [n2, Int.zero_add, hb (i : Int) (by omega) (by omega)])
  rw [n1, e_bc64 (by omega), ← e1, e3, Int.zero_add]
theorem e_property {P : Nat} {o k : Int} (hS : PS μ P) (hP : PW μ P Z o) (hB : BP N Z o) (hN : 0 ≤ N ∧ N ≤ 36) (hv : ∀ n : Int, N ≤ n → n < 64 → vis Z o n = false) (k1 : -2147483648 ≤ k) (k2 : k < 2147483648) : s_X3_property μ [.ref P, .int (ji k)] Q X = Q (some (.int (ji (prp N Z o k)))) μ := by
  have hP' := hP
  obtain ⟨⟨p0, p1, p2, p3, p4, p5, p6, p7, p8⟩, p9, p10, p11⟩ := hP'
  unfold prp
  by_cases c0 : k = 0
  · simp (disch := first | assumption | omega) only [WS_0, WS_1, WS_2, WS_3, WS_4, WS_5, WS_6, WS_7, WS_8, WS_9, WS_10, WS_11, WS_12, WS_13, WS_14, WS_15, WS_16, WS_17, WS_18, WS_19, WS_20, PS_0, PS_1, PS_2, PS_3, PS_4, PS_5, PS_6, ji_add, ji_sub, ji_mul, ji_neg, ji_lit0, ji_ofNat, ji_lt, ji_le, ji_eq, ji_nat, ji_in, qV_at, qI_at, qJ_at, qD_at, qA_at, qA_no, nb0, nb1, cat_r, cat_i, Option.some.injEq, exists_eq_left', true_and, and_true, if_true, if_false, ite_not, not_true_eq_false, not_false_eq_true, Sum.inr.injEq, exists_eq_right', true_or, or_true, and_self, Int.cast_ofNat_Int, reduceCtorEq, or_false, false_or, false_and, and_false, jb_zero, lt7_0, lt7_1, lt7_2, lt7_3, lt7_4, lt7_5, lt7_6, c_X3_property_1, c_X3_property_2, u_X3_property, c0, p0, ↓reduceIte, ilt_t, ilt_f, ile_t, ile_f, ieq_t, ieq_f, jb_T, jb_F, jb_t, jb_f]
  by_cases c1 : k = 1
  · simp (disch := first | assumption | omega) only [WS_0, WS_1, WS_2, WS_3, WS_4, WS_5, WS_6, WS_7, WS_8, WS_9, WS_10, WS_11, WS_12, WS_13, WS_14, WS_15, WS_16, WS_17, WS_18, WS_19, WS_20, PS_0, PS_1, PS_2, PS_3, PS_4, PS_5, PS_6, ji_add, ji_sub, ji_mul, ji_neg, ji_lit0, ji_ofNat, ji_lt, ji_le, ji_eq, ji_nat, ji_in, qV_at, qI_at, qJ_at, qD_at, qA_at, qA_no, nb0, nb1, cat_r, cat_i, Option.some.injEq, exists_eq_left', true_and, and_true, if_true, if_false, ite_not, not_true_eq_false, not_false_eq_true, Sum.inr.injEq, exists_eq_right', true_or, or_true, and_self, Int.cast_ofNat_Int, reduceCtorEq, or_false, false_or, false_and, and_false, jb_zero, lt7_0, lt7_1, lt7_2, lt7_3, lt7_4, lt7_5, lt7_6, c_X3_property_1, c_X3_property_2, u_X3_property, c1, p1, ↓reduceIte, ilt_t, ilt_f, ile_t, ile_f, ieq_t, ieq_f, jb_T, jb_F, jb_t, jb_f]
  by_cases c2 : k = 2
  · simp (disch := first | assumption | omega) only [WS_0, WS_1, WS_2, WS_3, WS_4, WS_5, WS_6, WS_7, WS_8, WS_9, WS_10, WS_11, WS_12, WS_13, WS_14, WS_15, WS_16, WS_17, WS_18, WS_19, WS_20, PS_0, PS_1, PS_2, PS_3, PS_4, PS_5, PS_6, ji_add, ji_sub, ji_mul, ji_neg, ji_lit0, ji_ofNat, ji_lt, ji_le, ji_eq, ji_nat, ji_in, qV_at, qI_at, qJ_at, qD_at, qA_at, qA_no, nb0, nb1, cat_r, cat_i, Option.some.injEq, exists_eq_left', true_and, and_true, if_true, if_false, ite_not, not_true_eq_false, not_false_eq_true, Sum.inr.injEq, exists_eq_right', true_or, or_true, and_self, Int.cast_ofNat_Int, reduceCtorEq, or_false, false_or, false_and, and_false, jb_zero, lt7_0, lt7_1, lt7_2, lt7_3, lt7_4, lt7_5, lt7_6, c_X3_property_1, c_X3_property_2, u_X3_property, c2, p2, ↓reduceIte, ilt_t, ilt_f, ile_t, ile_f, ieq_t, ieq_f, jb_T, jb_F, jb_t, jb_f]
  by_cases c3 : k = 3
  · simp (disch := first | assumption | omega) only [WS_0, WS_1, WS_2, WS_3, WS_4, WS_5, WS_6, WS_7, WS_8, WS_9, WS_10, WS_11, WS_12, WS_13, WS_14, WS_15, WS_16, WS_17, WS_18, WS_19, WS_20, PS_0, PS_1, PS_2, PS_3, PS_4, PS_5, PS_6, ji_add, ji_sub, ji_mul, ji_neg, ji_lit0, ji_ofNat, ji_lt, ji_le, ji_eq, ji_nat, ji_in, qV_at, qI_at, qJ_at, qD_at, qA_at, qA_no, nb0, nb1, cat_r, cat_i, Option.some.injEq, exists_eq_left', true_and, and_true, if_true, if_false, ite_not, not_true_eq_false, not_false_eq_true, Sum.inr.injEq, exists_eq_right', true_or, or_true, and_self, Int.cast_ofNat_Int, reduceCtorEq, or_false, false_or, false_and, and_false, jb_zero, lt7_0, lt7_1, lt7_2, lt7_3, lt7_4, lt7_5, lt7_6, c_X3_property_1, c_X3_property_2, u_X3_property, c3, p3, ↓reduceIte, ilt_t, ilt_f, ile_t, ile_f, ieq_t, ieq_f, jb_T, jb_F, jb_t, jb_f]
  by_cases c4 : k = 4
  · simp (disch := first | assumption | omega) only [WS_0, WS_1, WS_2, WS_3, WS_4, WS_5, WS_6, WS_7, WS_8, WS_9, WS_10, WS_11, WS_12, WS_13, WS_14, WS_15, WS_16, WS_17, WS_18, WS_19, WS_20, PS_0, PS_1, PS_2, PS_3, PS_4, PS_5, PS_6, ji_add, ji_sub, ji_mul, ji_neg, ji_lit0, ji_ofNat, ji_lt, ji_le, ji_eq, ji_nat, ji_in, qV_at, qI_at, qJ_at, qD_at, qA_at, qA_no, nb0, nb1, cat_r, cat_i, Option.some.injEq, exists_eq_left', true_and, and_true, if_true, if_false, ite_not, not_true_eq_false, not_false_eq_true, Sum.inr.injEq, exists_eq_right', true_or, or_true, and_self, Int.cast_ofNat_Int, reduceCtorEq, or_false, false_or, false_and, and_false, jb_zero, lt7_0, lt7_1, lt7_2, lt7_3, lt7_4, lt7_5, lt7_6, c_X3_property_1, c_X3_property_2, u_X3_property, c4, p4, ↓reduceIte, ilt_t, ilt_f, ile_t, ile_f, ieq_t, ieq_f, jb_T, jb_F, jb_t, jb_f]
  by_cases c5 : k = 5
  · simp (disch := first | assumption | omega) only [WS_0, WS_1, WS_2, WS_3, WS_4, WS_5, WS_6, WS_7, WS_8, WS_9, WS_10, WS_11, WS_12, WS_13, WS_14, WS_15, WS_16, WS_17, WS_18, WS_19, WS_20, PS_0, PS_1, PS_2, PS_3, PS_4, PS_5, PS_6, ji_add, ji_sub, ji_mul, ji_neg, ji_lit0, ji_ofNat, ji_lt, ji_le, ji_eq, ji_nat, ji_in, qV_at, qI_at, qJ_at, qD_at, qA_at, qA_no, nb0, nb1, cat_r, cat_i, Option.some.injEq, exists_eq_left', true_and, and_true, if_true, if_false, ite_not, not_true_eq_false, not_false_eq_true, Sum.inr.injEq, exists_eq_right', true_or, or_true, and_self, Int.cast_ofNat_Int, reduceCtorEq, or_false, false_or, false_and, and_false, jb_zero, lt7_0, lt7_1, lt7_2, lt7_3, lt7_4, lt7_5, lt7_6, c_X3_property_1, c_X3_property_2, u_X3_property, c5, p5, ↓reduceIte, ilt_t, ilt_f, ile_t, ile_f, ieq_t, ieq_f, jb_T, jb_F, jb_t, jb_f]
  by_cases c6 : k = 6
  · simp (disch := first | assumption | omega) only [WS_0, WS_1, WS_2, WS_3, WS_4, WS_5, WS_6, WS_7, WS_8, WS_9, WS_10, WS_11, WS_12, WS_13, WS_14, WS_15, WS_16, WS_17, WS_18, WS_19, WS_20, PS_0, PS_1, PS_2, PS_3, PS_4, PS_5, PS_6, ji_add, ji_sub, ji_mul, ji_neg, ji_lit0, ji_ofNat, ji_lt, ji_le, ji_eq, ji_nat, ji_in, qV_at, qI_at, qJ_at, qD_at, qA_at, qA_no, nb0, nb1, cat_r, cat_i, Option.some.injEq, exists_eq_left', true_and, and_true, if_true, if_false, ite_not, not_true_eq_false, not_false_eq_true, Sum.inr.injEq, exists_eq_right', true_or, or_true, and_self, Int.cast_ofNat_Int, reduceCtorEq, or_false, false_or, false_and, and_false, jb_zero, lt7_0, lt7_1, lt7_2, lt7_3, lt7_4, lt7_5, lt7_6, c_X3_property_1, c_X3_property_2, u_X3_property, c6, p6, ↓reduceIte, ilt_t, ilt_f, ile_t, ile_f, ieq_t, ieq_f, jb_T, jb_F, jb_t, jb_f]
  by_cases c7 : k = 7
  · simp (disch := first | assumption | omega) only [WS_0, WS_1, WS_2, WS_3, WS_4, WS_5, WS_6, WS_7, WS_8, WS_9, WS_10, WS_11, WS_12, WS_13, WS_14, WS_15, WS_16, WS_17, WS_18, WS_19, WS_20, PS_0, PS_1, PS_2, PS_3, PS_4, PS_5, PS_6, ji_add, ji_sub, ji_mul, ji_neg, ji_lit0, ji_ofNat, ji_lt, ji_le, ji_eq, ji_nat, ji_in, qV_at, qI_at, qJ_at, qD_at, qA_at, qA_no, nb0, nb1, cat_r, cat_i, Option.some.injEq, exists_eq_left', true_and, and_true, if_true, if_false, ite_not, not_true_eq_false, not_false_eq_true, Sum.inr.injEq, exists_eq_right', true_or, or_true, and_self, Int.cast_ofNat_Int, reduceCtorEq, or_false, false_or, false_and, and_false, jb_zero, lt7_0, lt7_1, lt7_2, lt7_3, lt7_4, lt7_5, lt7_6, c_X3_property_1, c_X3_property_2, u_X3_property, c7, e_visn hP hN hv, ↓reduceIte, ilt_t, ilt_f, ile_t, ile_f, ieq_t, ieq_f, jb_T, jb_F, jb_t, jb_f]
  by_cases c8 : k = 8
  · simp (disch := first | assumption | omega) only [WS_0, WS_1, WS_2, WS_3, WS_4, WS_5, WS_6, WS_7, WS_8, WS_9, WS_10, WS_11, WS_12, WS_13, WS_14, WS_15, WS_16, WS_17, WS_18, WS_19, WS_20, PS_0, PS_1, PS_2, PS_3, PS_4, PS_5, PS_6, ji_add, ji_sub, ji_mul, ji_neg, ji_lit0, ji_ofNat, ji_lt, ji_le, ji_eq, ji_nat, ji_in, qV_at, qI_at, qJ_at, qD_at, qA_at, qA_no, nb0, nb1, cat_r, cat_i, Option.some.injEq, exists_eq_left', true_and, and_true, if_true, if_false, ite_not, not_true_eq_false, not_false_eq_true, Sum.inr.injEq, exists_eq_right', true_or, or_true, and_self, Int.cast_ofNat_Int, reduceCtorEq, or_false, false_or, false_and, and_false, jb_zero, lt7_0, lt7_1, lt7_2, lt7_3, lt7_4, lt7_5, lt7_6, c_X3_property_1, c_X3_property_2, u_X3_property, c8, e_countFound hS hP hB, ↓reduceIte, ilt_t, ilt_f, ile_t, ile_f, ieq_t, ieq_f, jb_T, jb_F, jb_t, jb_f]
  by_cases c9 : k = 9
  · simp (disch := first | assumption | omega) only [WS_0, WS_1, WS_2, WS_3, WS_4, WS_5, WS_6, WS_7, WS_8, WS_9, WS_10, WS_11, WS_12, WS_13, WS_14, WS_15, WS_16, WS_17, WS_18, WS_19, WS_20, PS_0, PS_1, PS_2, PS_3, PS_4, PS_5, PS_6, ji_add, ji_sub, ji_mul, ji_neg, ji_lit0, ji_ofNat, ji_lt, ji_le, ji_eq, ji_nat, ji_in, qV_at, qI_at, qJ_at, qD_at, qA_at, qA_no, nb0, nb1, cat_r, cat_i, Option.some.injEq, exists_eq_left', true_and, and_true, if_true, if_false, ite_not, not_true_eq_false, not_false_eq_true, Sum.inr.injEq, exists_eq_right', true_or, or_true, and_self, Int.cast_ofNat_Int, reduceCtorEq, or_false, false_or, false_and, and_false, jb_zero, lt7_0, lt7_1, lt7_2, lt7_3, lt7_4, lt7_5, lt7_6, c_X3_property_1, c_X3_property_2, u_X3_property, c9, p7, ↓reduceIte, ilt_t, ilt_f, ile_t, ile_f, ieq_t, ieq_f, jb_T, jb_F, jb_t, jb_f]
  by_cases c10 : k = 10
  · simp (disch := first | assumption | omega) only [WS_0, WS_1, WS_2, WS_3, WS_4, WS_5, WS_6, WS_7, WS_8, WS_9, WS_10, WS_11, WS_12, WS_13, WS_14, WS_15, WS_16, WS_17, WS_18, WS_19, WS_20, PS_0, PS_1, PS_2, PS_3, PS_4, PS_5, PS_6, ji_add, ji_sub, ji_mul, ji_neg, ji_lit0, ji_ofNat, ji_lt, ji_le, ji_eq, ji_nat, ji_in, qV_at, qI_at, qJ_at, qD_at, qA_at, qA_no, nb0, nb1, cat_r, cat_i, Option.some.injEq, exists_eq_left', true_and, and_true, if_true, if_false, ite_not, not_true_eq_false, not_false_eq_true, Sum.inr.injEq, exists_eq_right', true_or, or_true, and_self, Int.cast_ofNat_Int, reduceCtorEq, or_false, false_or, false_and, and_false, jb_zero, lt7_0, lt7_1, lt7_2, lt7_3, lt7_4, lt7_5, lt7_6, c_X3_property_1, c_X3_property_2, u_X3_property, c10, p8, ↓reduceIte, ilt_t, ilt_f, ile_t, ile_f, ieq_t, ieq_f, jb_T, jb_F, jb_t, jb_f]
  · simp (disch := first | assumption | omega) only [WS_0, WS_1, WS_2, WS_3, WS_4, WS_5, WS_6, WS_7, WS_8, WS_9, WS_10, WS_11, WS_12, WS_13, WS_14, WS_15, WS_16, WS_17, WS_18, WS_19, WS_20, PS_0, PS_1, PS_2, PS_3, PS_4, PS_5, PS_6, ji_add, ji_sub, ji_mul, ji_neg, ji_lit0, ji_ofNat, ji_lt, ji_le, ji_eq, ji_nat, ji_in, qV_at, qI_at, qJ_at, qD_at, qA_at, qA_no, nb0, nb1, cat_r, cat_i, Option.some.injEq, exists_eq_left', true_and, and_true, if_true, if_false, ite_not, not_true_eq_false, not_false_eq_true, Sum.inr.injEq, exists_eq_right', true_or, or_true, and_self, Int.cast_ofNat_Int, reduceCtorEq, or_false, false_or, false_and, and_false, jb_zero, lt7_0, lt7_1, lt7_2, lt7_3, lt7_4, lt7_5, lt7_6, c_X3_property_1, c_X3_property_2, u_X3_property, ↓reduceIte, ilt_t, ilt_f, ile_t, ile_f, ieq_t, ieq_f, jb_T, jb_F, jb_t, jb_f]
theorem q_packet (hX : XW μ x w h N s Z) {n k : Int} (n1 : -2147483648 ≤ n) (n2 : n < 2147483648) (k1 : -2147483648 ≤ k) (k2 : k < 2147483648) : s_X8_packet μ [.ref x, .int (ji n), .int (ji k)] Q X = ocC Q X μ IOB IAE (oc1 (0 ≤ n ∧ n < Z 1) (prp N Z (2666 + 120 * n) k)) := by
  have hX' := hX
  obtain ⟨⟨X0, X1⟩, hS, hC, hI, htm, hpk⟩ := hX
  rw [ocC_1]
  have hw := hI.1.1
  by_cases hn : 0 ≤ n ∧ n < Z 1
  · have hps := WS_ps hS n hn.1 (by omega)
    have hp0 := PS_0 hps
    simp (disch := first | assumption | omega) only [WS_0, WS_1, WS_2, WS_3, WS_4, WS_5, WS_6, WS_7, WS_8, WS_9, WS_10, WS_11, WS_12, WS_13, WS_14, WS_15, WS_16, WS_17, WS_18, WS_19, WS_20, PS_0, PS_1, PS_2, PS_3, PS_4, PS_5, PS_6, ji_add, ji_sub, ji_mul, ji_neg, ji_lit0, ji_ofNat, ji_lt, ji_le, ji_eq, ji_nat, ji_in, qV_at, qI_at, qJ_at, qD_at, qA_at, qA_no, nb0, nb1, cat_r, cat_i, Option.some.injEq, exists_eq_left', true_and, and_true, if_true, if_false, ite_not, not_true_eq_false, not_false_eq_true, Sum.inr.injEq, exists_eq_right', true_or, or_true, and_self, Int.cast_ofNat_Int, reduceCtorEq, or_false, false_or, false_and, and_false, jb_zero, lt7_0, lt7_1, lt7_2, lt7_3, lt7_4, lt7_5, lt7_6, c_X8_packet_1, c_X8_packet_2, c_X8_packet_3, c_X8_packet_4, u_X8_packet, X0, X1, q_reqPacket hX', e_packetOf hS hC hI.1, e_property hps (CW_p hC n hn.1 hn.2) (BD_p hI.1 n hn.1 hn.2) (N := N) ⟨by omega, by omega⟩ (hI.2 n hn.1 hn.2).2.2.2.2 k1 k2, hn, hp0, Nat.reduceAdd, Nat.reduceLeDiff, ↓reduceIte, ilt_t, ilt_f, ile_t, ile_f, ieq_t, ieq_f, jb_T, jb_F, jb_t, jb_f]
  · simp (disch := first | assumption | omega) only [WS_0, WS_1, WS_2, WS_3, WS_4, WS_5, WS_6, WS_7, WS_8, WS_9, WS_10, WS_11, WS_12, WS_13, WS_14, WS_15, WS_16, WS_17, WS_18, WS_19, WS_20, PS_0, PS_1, PS_2, PS_3, PS_4, PS_5, PS_6, ji_add, ji_sub, ji_mul, ji_neg, ji_lit0, ji_ofNat, ji_lt, ji_le, ji_eq, ji_nat, ji_in, qV_at, qI_at, qJ_at, qD_at, qA_at, qA_no, nb0, nb1, cat_r, cat_i, Option.some.injEq, exists_eq_left', true_and, and_true, if_true, if_false, ite_not, not_true_eq_false, not_false_eq_true, Sum.inr.injEq, exists_eq_right', true_or, or_true, and_self, Int.cast_ofNat_Int, reduceCtorEq, or_false, false_or, false_and, and_false, jb_zero, lt7_0, lt7_1, lt7_2, lt7_3, lt7_4, lt7_5, lt7_6, c_X8_packet_1, c_X8_packet_2, c_X8_packet_3, c_X8_packet_4, u_X8_packet, X0, X1, q_reqPacket hX', hn, Nat.reduceAdd, Nat.reduceLeDiff, ↓reduceIte, ilt_t, ilt_f, ile_t, ile_f, ieq_t, ieq_f, jb_T, jb_F, jb_t, jb_f]
/-- how many move at a node -/
def mat (Z : Int → Int) (n : Int) : Int := cntz (fun k => act Z k && decide (Z ((2666 + 120 * k) + 4) = n)) 0 (Z 1).toNat 0
theorem e_busy (hB : BD w h N s Z) {n : Int} : s_J6_bitCount_0f7a4 μ [.int (foldz (fun k x => if (act Z k && decide (Z ((2666 + 120 * k) + 4) = n)) = true then x ||| jshl (ji 1) (ji k) else x) 0 (Z 1).toNat (ji 0))] Q X = Q (some (.int (ji (mat Z n)))) μ := by
  have hbz := hB.2.1
  obtain ⟨v, v0, v1, v2⟩ := set_n (fun k => act Z k && decide (Z ((2666 + 120 * k) + 4) = n)) (Z 1).toNat (by omega)
  have hp : 2 ^ (Z 1).toNat ≤ 2 ^ 25 := Nat.pow_le_pow_right (by omega) (by omega)
  have e2 := cntz_bits (fun k => decide (k < Z 1) && (act Z k && decide (Z ((2666 + 120 * k) + 4) = n))) 32 v 0 0 (fun i hi => by
    rw [Int.zero_add]
    by_cases h1 : (i : Int) < Z 1
    · rw [v2 i (by omega)]; simp [h1]
    · rw [Nat.testBit_lt_two_pow (Nat.lt_of_lt_of_le v0 (Nat.pow_le_pow_right (by omega) (by omega)))]; simp [h1])
  have e1 := cntz_cut (fun k => decide (k < Z 1) && (act Z k && decide (Z ((2666 + 120 * k) + 4) = n))) (Z 1).toNat (32 - (Z 1).toNat) 0 0 (fun k k0 k1 => by
    have : ¬ k < Z 1 := by omega
    simp [this])
  have e3 : (Z 1).toNat + (32 - (Z 1).toNat) = 32 := by omega
  rw [e3] at e1
  have e4 : mat Z n = cntz (fun k => decide (k < Z 1) && (act Z k && decide (Z ((2666 + 120 * k) + 4) = n))) 0 (Z 1).toNat 0 := cntz_congr _ _ _ (fun k k0 k1 => by
    have : k < Z 1 := by omega
    simp [this])
  rw [v1, e_bc32 (by omega), e4, ← e1, e2, Int.zero_add]
end
