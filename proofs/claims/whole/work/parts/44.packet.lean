/-! ===== a packet's reads ===== -/
section
variable {μ : XM} {P : Nat} {N : Int} {Z : Int → Int} {o : Int} {Q : XQ} {X : XX}
theorem e_isActive (hS : PS μ P) (hP : PW μ P Z o) (hB : BP N Z o) : s_X3_isActive μ [.ref P] Q X = Q (some (.int (jb (Z (o + 3) ≤ 2)))) μ := by
  obtain ⟨⟨p0, p1, p2, p3, p4, p5, p6, p7, p8⟩, p9, p10, p11⟩ := hP
  obtain ⟨b1, b2, b3, b4⟩ := hB
  by_cases hz : Z (o + 3) ≤ 2 <;> simp (disch := first | assumption | omega) only [WS_0, WS_1, WS_2, WS_3, WS_4, WS_5, WS_6, WS_7, WS_8, WS_9, WS_10, WS_11, WS_12, WS_13, WS_14, WS_15, WS_16, WS_17, WS_18, WS_19, WS_20, PS_0, PS_1, PS_2, PS_3, PS_4, PS_5, PS_6, ji_add, ji_sub, ji_mul, ji_neg, ji_lit0, ji_ofNat, ji_lt, ji_le, ji_eq, ji_nat, ji_in, qV_at, qI_at, qJ_at, qD_at, qA_at, qA_no, nb0, nb1, cat_r, cat_i, Option.some.injEq, exists_eq_left', true_and, and_true, if_true, if_false, ite_not, not_true_eq_false, not_false_eq_true, Sum.inr.injEq, exists_eq_right', true_or, or_true, and_self, Int.cast_ofNat_Int, reduceCtorEq, or_false, false_or, false_and, and_false, jb_zero, lt7_0, lt7_1, lt7_2, lt7_3, lt7_4, lt7_5, lt7_6, u_X3_isActive, p3, ↓reduceIte, ilt_t, ilt_f, ile_t, ile_f, ieq_t, ieq_f, jb_T, jb_F, jb_t, jb_f]
theorem e_isHome (hS : PS μ P) (hP : PW μ P Z o) (hB : BP N Z o) : s_X3_isHome μ [.ref P] Q X = Q (some (.int (jb (Z (o + 6) ≤ 1)))) μ := by
  obtain ⟨⟨p0, p1, p2, p3, p4, p5, p6, p7, p8⟩, p9, p10, p11⟩ := hP
  obtain ⟨b1, b2, b3, b4⟩ := hB
  by_cases hz : Z (o + 6) ≤ 1 <;> simp (disch := first | assumption | omega) only [WS_0, WS_1, WS_2, WS_3, WS_4, WS_5, WS_6, WS_7, WS_8, WS_9, WS_10, WS_11, WS_12, WS_13, WS_14, WS_15, WS_16, WS_17, WS_18, WS_19, WS_20, PS_0, PS_1, PS_2, PS_3, PS_4, PS_5, PS_6, ji_add, ji_sub, ji_mul, ji_neg, ji_lit0, ji_ofNat, ji_lt, ji_le, ji_eq, ji_nat, ji_in, qV_at, qI_at, qJ_at, qD_at, qA_at, qA_no, nb0, nb1, cat_r, cat_i, Option.some.injEq, exists_eq_left', true_and, and_true, if_true, if_false, ite_not, not_true_eq_false, not_false_eq_true, Sum.inr.injEq, exists_eq_right', true_or, or_true, and_self, Int.cast_ofNat_Int, reduceCtorEq, or_false, false_or, false_and, and_false, jb_zero, lt7_0, lt7_1, lt7_2, lt7_3, lt7_4, lt7_5, lt7_6, u_X3_isHome, p6, ↓reduceIte, ilt_t, ilt_f, ile_t, ile_f, ieq_t, ieq_f, jb_T, jb_F, jb_t, jb_f]
/-- a trail's node; none -/
def trn (Z : Int → Int) (o i : Int) : Int := if 0 ≤ i ∧ i < Z (o + 6) then Z (o + 11 + i) else -1
theorem e_trailNode (hS : PS μ P) (hP : PW μ P Z o) (hB : BP N Z o) {i : Int} (i1 : -2147483648 ≤ i) (i2 : i < 2147483648) : s_X3_trailNode μ [.ref P, .int (ji i)] Q X = Q (some (.int (ji (trn Z o i)))) μ := by
  obtain ⟨⟨p0, p1, p2, p3, p4, p5, p6, p7, p8⟩, p9, p10, p11⟩ := hP
  obtain ⟨b1, b2, b3, b4⟩ := hB
  unfold trn
  by_cases hz : 0 ≤ i ∧ i < Z (o + 6)
  · simp (disch := first | assumption | omega) only [WS_0, WS_1, WS_2, WS_3, WS_4, WS_5, WS_6, WS_7, WS_8, WS_9, WS_10, WS_11, WS_12, WS_13, WS_14, WS_15, WS_16, WS_17, WS_18, WS_19, WS_20, PS_0, PS_1, PS_2, PS_3, PS_4, PS_5, PS_6, ji_add, ji_sub, ji_mul, ji_neg, ji_lit0, ji_ofNat, ji_lt, ji_le, ji_eq, ji_nat, ji_in, qV_at, qI_at, qJ_at, qD_at, qA_at, qA_no, nb0, nb1, cat_r, cat_i, Option.some.injEq, exists_eq_left', true_and, and_true, if_true, if_false, ite_not, not_true_eq_false, not_false_eq_true, Sum.inr.injEq, exists_eq_right', true_or, or_true, and_self, Int.cast_ofNat_Int, reduceCtorEq, or_false, false_or, false_and, and_false, jb_zero, lt7_0, lt7_1, lt7_2, lt7_3, lt7_4, lt7_5, lt7_6, u_X3_trailNode, p6, p10 i hz.1 hz.2, ↓reduceIte, ilt_t, ilt_f, ile_t, ile_f, ieq_t, ieq_f, jb_T, jb_F, jb_t, jb_f]
  · rw [if_neg hz]
    simp (disch := first | assumption | omega) only [WS_0, WS_1, WS_2, WS_3, WS_4, WS_5, WS_6, WS_7, WS_8, WS_9, WS_10, WS_11, WS_12, WS_13, WS_14, WS_15, WS_16, WS_17, WS_18, WS_19, WS_20, PS_0, PS_1, PS_2, PS_3, PS_4, PS_5, PS_6, ji_add, ji_sub, ji_mul, ji_neg, ji_lit0, ji_ofNat, ji_lt, ji_le, ji_eq, ji_nat, ji_in, qV_at, qI_at, qJ_at, qD_at, qA_at, qA_no, nb0, nb1, cat_r, cat_i, Option.some.injEq, exists_eq_left', true_and, and_true, if_true, if_false, ite_not, not_true_eq_false, not_false_eq_true, Sum.inr.injEq, exists_eq_right', true_or, or_true, and_self, Int.cast_ofNat_Int, reduceCtorEq, or_false, false_or, false_and, and_false, jb_zero, lt7_0, lt7_1, lt7_2, lt7_3, lt7_4, lt7_5, lt7_6, u_X3_trailNode, p6]
    (repeat' split) <;> first | rfl | (exfalso; omega)
/-- a map's time; none -/
def fnd (Z : Int → Int) (o l : Int) : Int := if 0 ≤ l ∧ l < 72 then Z (o + 47 + l) else -1
theorem fnd_b (hB : BP N Z o) (l : Int) : -1 ≤ fnd Z o l ∧ fnd Z o l ≤ 31000 := by
  unfold fnd
  split
  · exact hB.2.2.2 l (by omega) (by omega)
  · omega
theorem e_foundTime (hS : PS μ P) (hP : PW μ P Z o) {l : Int} (i1 : -2147483648 ≤ l) (i2 : l < 2147483648) : s_X3_foundTime μ [.ref P, .int (ji l)] Q X = Q (some (.int (ji (fnd Z o l)))) μ := by
  obtain ⟨⟨p0, p1, p2, p3, p4, p5, p6, p7, p8⟩, p9, p10, p11⟩ := hP
  unfold fnd
  by_cases hz : 0 ≤ l ∧ l < 72
  · simp (disch := first | assumption | omega) only [WS_0, WS_1, WS_2, WS_3, WS_4, WS_5, WS_6, WS_7, WS_8, WS_9, WS_10, WS_11, WS_12, WS_13, WS_14, WS_15, WS_16, WS_17, WS_18, WS_19, WS_20, PS_0, PS_1, PS_2, PS_3, PS_4, PS_5, PS_6, ji_add, ji_sub, ji_mul, ji_neg, ji_lit0, ji_ofNat, ji_lt, ji_le, ji_eq, ji_nat, ji_in, qV_at, qI_at, qJ_at, qD_at, qA_at, qA_no, nb0, nb1, cat_r, cat_i, Option.some.injEq, exists_eq_left', true_and, and_true, if_true, if_false, ite_not, not_true_eq_false, not_false_eq_true, Sum.inr.injEq, exists_eq_right', true_or, or_true, and_self, Int.cast_ofNat_Int, reduceCtorEq, or_false, false_or, false_and, and_false, jb_zero, lt7_0, lt7_1, lt7_2, lt7_3, lt7_4, lt7_5, lt7_6, u_X3_foundTime, p11 l hz.1 hz.2, ↓reduceIte, ilt_t, ilt_f, ile_t, ile_f, ieq_t, ieq_f, jb_T, jb_F, jb_t, jb_f]
  · rw [if_neg hz]
    simp (disch := first | assumption | omega) only [WS_0, WS_1, WS_2, WS_3, WS_4, WS_5, WS_6, WS_7, WS_8, WS_9, WS_10, WS_11, WS_12, WS_13, WS_14, WS_15, WS_16, WS_17, WS_18, WS_19, WS_20, PS_0, PS_1, PS_2, PS_3, PS_4, PS_5, PS_6, ji_add, ji_sub, ji_mul, ji_neg, ji_lit0, ji_ofNat, ji_lt, ji_le, ji_eq, ji_nat, ji_in, qV_at, qI_at, qJ_at, qD_at, qA_at, qA_no, nb0, nb1, cat_r, cat_i, Option.some.injEq, exists_eq_left', true_and, and_true, if_true, if_false, ite_not, not_true_eq_false, not_false_eq_true, Sum.inr.injEq, exists_eq_right', true_or, or_true, and_self, Int.cast_ofNat_Int, reduceCtorEq, or_false, false_or, false_and, and_false, jb_zero, lt7_0, lt7_1, lt7_2, lt7_3, lt7_4, lt7_5, lt7_6, u_X3_foundTime]
    (repeat' split) <;> first | rfl | (exfalso; omega)
theorem e_countFound (hS : PS μ P) (hP : PW μ P Z o) (hB : BP N Z o) : s_X3_countFound μ [.ref P] Q X = Q (some (.int (ji (cntz (fun l => decide (Z (o + 47 + l) ≠ -1)) 0 72 0)))) μ := by
  obtain ⟨⟨p0, p1, p2, p3, p4, p5, p6, p7, p8⟩, p9, p10, p11⟩ := hP
  obtain ⟨b1, b2, b3, b4⟩ := hB
  rw [u_X3_countFound, l_X3_countFound_4, xseal_eq]
  refine fold_loop (fun mf x l => ln_X3_countFound_4 Q X mf [some (.ref P), some (.int (ji x)), some (.int (ji l))] [] μ 0 0) (fun x => Q (some (.int (ji x))) μ) (fun l x => if (decide (Z (o + 47 + l) ≠ -1)) = true then x + 1 else x) (fun l x => 0 ≤ x ∧ x ≤ l) (72) (fun mf x hx => ?_) (fun mf x l l0 l1 hx => ⟨?_, ?_⟩) _ 10000 (0) (0) (by omega) (by omega) (by omega) (by omega)
  · show ln_X3_countFound_4 Q X (mf + 1) [some (.ref P), some (.int (ji x)), some (.int (ji (72)))] [] μ 0 0 = Q (some (.int (ji x))) μ
    rw [ul_X3_countFound_4]
    simp (disch := first | assumption | omega) only [WS_0, WS_1, WS_2, WS_3, WS_4, WS_5, WS_6, WS_7, WS_8, WS_9, WS_10, WS_11, WS_12, WS_13, WS_14, WS_15, WS_16, WS_17, WS_18, WS_19, WS_20, PS_0, PS_1, PS_2, PS_3, PS_4, PS_5, PS_6, ji_add, ji_sub, ji_mul, ji_neg, ji_lit0, ji_ofNat, ji_lt, ji_le, ji_eq, ji_nat, ji_in, qV_at, qI_at, qJ_at, qD_at, qA_at, qA_no, nb0, nb1, cat_r, cat_i, Option.some.injEq, exists_eq_left', true_and, and_true, if_true, if_false, ite_not, not_true_eq_false, not_false_eq_true, Sum.inr.injEq, exists_eq_right', true_or, or_true, and_self, Int.cast_ofNat_Int, reduceCtorEq, or_false, false_or, false_and, and_false, jb_zero, lt7_0, lt7_1, lt7_2, lt7_3, lt7_4, lt7_5, lt7_6, ↓reduceIte, ilt_t, ilt_f, ile_t, ile_f, ieq_t, ieq_f, jb_T, jb_F, jb_t, jb_f]
  · show ln_X3_countFound_4 Q X (mf + 1) [some (.ref P), some (.int (ji x)), some (.int (ji l))] [] μ 0 0 = ln_X3_countFound_4 Q X mf [some (.ref P), some (.int (ji (if (decide (Z (o + 47 + l) ≠ -1)) = true then x + 1 else x))), some (.int (ji (l + 1)))] [] μ 0 0
    rw [ul_X3_countFound_4]
    have hb := b4 l l0 l1
    by_cases hw : Z (o + 47 + l) = -1
    · simp (disch := first | assumption | omega) only [WS_0, WS_1, WS_2, WS_3, WS_4, WS_5, WS_6, WS_7, WS_8, WS_9, WS_10, WS_11, WS_12, WS_13, WS_14, WS_15, WS_16, WS_17, WS_18, WS_19, WS_20, PS_0, PS_1, PS_2, PS_3, PS_4, PS_5, PS_6, ji_add, ji_sub, ji_mul, ji_neg, ji_lit0, ji_ofNat, ji_lt, ji_le, ji_eq, ji_nat, ji_in, qV_at, qI_at, qJ_at, qD_at, qA_at, qA_no, nb0, nb1, cat_r, cat_i, Option.some.injEq, exists_eq_left', true_and, and_true, if_true, if_false, ite_not, not_true_eq_false, not_false_eq_true, Sum.inr.injEq, exists_eq_right', true_or, or_true, and_self, Int.cast_ofNat_Int, reduceCtorEq, or_false, false_or, false_and, and_false, jb_zero, lt7_0, lt7_1, lt7_2, lt7_3, lt7_4, lt7_5, lt7_6, p11 l l0 l1, ↓reduceIte, ilt_t, ilt_f, ile_t, ile_f, ieq_t, ieq_f, jb_T, jb_F, jb_t, jb_f]; simp [hw]
    · simp (disch := first | assumption | omega) only [WS_0, WS_1, WS_2, WS_3, WS_4, WS_5, WS_6, WS_7, WS_8, WS_9, WS_10, WS_11, WS_12, WS_13, WS_14, WS_15, WS_16, WS_17, WS_18, WS_19, WS_20, PS_0, PS_1, PS_2, PS_3, PS_4, PS_5, PS_6, ji_add, ji_sub, ji_mul, ji_neg, ji_lit0, ji_ofNat, ji_lt, ji_le, ji_eq, ji_nat, ji_in, qV_at, qI_at, qJ_at, qD_at, qA_at, qA_no, nb0, nb1, cat_r, cat_i, Option.some.injEq, exists_eq_left', true_and, and_true, if_true, if_false, ite_not, not_true_eq_false, not_false_eq_true, Sum.inr.injEq, exists_eq_right', true_or, or_true, and_self, Int.cast_ofNat_Int, reduceCtorEq, or_false, false_or, false_and, and_false, jb_zero, lt7_0, lt7_1, lt7_2, lt7_3, lt7_4, lt7_5, lt7_6, p11 l l0 l1, ↓reduceIte, ilt_t, ilt_f, ile_t, ile_f, ieq_t, ieq_f, jb_T, jb_F, jb_t, jb_f]; simp [hw]
  · show 0 ≤ (if (decide (Z (o + 47 + l) ≠ -1)) = true then x + 1 else x) ∧ (if (decide (Z (o + 47 + l) ≠ -1)) = true then x + 1 else x) ≤ (l + 1)
    split <;> omega
theorem tb_or (x y : Int64) (n : Int) : tb (x ||| y) n = (tb x n || tb y n) := by
  unfold tb
  rw [Int64.toBitVec_or, BitVec.getLsbD_or]
theorem tb_zero (n : Int) : tb (jl 0) n = false := by
  unfold tb
  have : (jl 0).toBitVec = 0#64 := by decide
  rw [this, BitVec.getLsbD_zero]
theorem tb_one {k n : Int} (h1 : 0 ≤ k) (h2 : k < 64) (h3 : 0 ≤ n) (h4 : n < 64) : tb (jlshl (jl 1) (ji k)) n = decide (n = k) := by
  have e : (jlshl (jl 1) (ji k)).toBitVec = 1#64 <<< k.toNat := by
    obtain ⟨k', rfl⟩ : ∃ k' : Nat, k = k' := ⟨k.toNat, by omega⟩
    have h2' : k' < 64 := by omega
    clear h1 h2
    have : ∀ k' : Fin 64, (jlshl (jl 1) (ji ((k' : Nat) : Int))).toBitVec = 1#64 <<< (k' : Nat) := by decide +kernel
    have := this ⟨k', h2'⟩
    simpa using this
  unfold tb
  rw [e, BitVec.getLsbD_shiftLeft, BitVec.getLsbD_one]
  by_cases h : n = k
  · subst h; simp; omega
  · simp only [h, decide_false]
    by_cases hlt : n.toNat < k.toNat
    · simp [hlt]
    · have : ¬ (n.toNat - k.toNat = 0) := by omega
      simp [this]
theorem tb_and {x : Int64} {k : Int} (h1 : 0 ≤ k) (h2 : k < 64) : (x &&& jlshl (jl 1) (ji k) = jl 0) = (tb x k = false) := by
  apply propext
  have key : ∀ n : Int, 0 ≤ n → n < 64 → tb (x &&& jlshl (jl 1) (ji k)) n = (tb x n && decide (n = k)) := by
    intro n n1 n2
    rw [← tb_one h1 h2 n1 n2]
    unfold tb
    rw [Int64.toBitVec_and, BitVec.getLsbD_and]
  constructor
  · intro h
    have := key k h1 h2
    rw [h, tb_zero] at this
    simpa using this.symm
  · intro h
    apply Int64.toBitVec_inj.mp
    apply BitVec.eq_of_getLsbD_eq
    intro i hi
    have a := key (i : Int) (by omega) (by omega)
    have b := tb_zero (i : Int)
    unfold tb at a b
    simp only [Int.toNat_natCast] at a b
    rw [a, b]
    by_cases e : (i : Int) = k
    · subst e
      unfold tb at h
      simp only [Int.toNat_natCast] at h
      simp [h]
    · simp [e]
theorem xlc_eq (x y : Int64) : (lg_cmp x y = ji 0) = (x = y) := by
  apply propext
  unfold lg_cmp
  constructor
  · intro h
    (repeat' split at h) <;> first | assumption | (exact absurd h (by decide))
  · intro h
    subst h
    simp [ji]
theorem e_hasVisited (hS : PS μ P) (hP : PW μ P Z o) {n : Int} (i1 : 0 ≤ n) (i2 : n < 64) : s_X3_hasVisited μ [.ref P, .int (ji n)] Q X = Q (some (.int (jb (vis Z o n = true)))) μ := by
  obtain ⟨⟨p0, p1, p2, p3, p4, p5, p6, p7, p8⟩, p9, p10, p11⟩ := hP
  have hb := p9 n i1 i2
  cases hz : vis Z o n <;> rw [hz] at hb <;> simp (disch := first | assumption | omega) only [WS_0, WS_1, WS_2, WS_3, WS_4, WS_5, WS_6, WS_7, WS_8, WS_9, WS_10, WS_11, WS_12, WS_13, WS_14, WS_15, WS_16, WS_17, WS_18, WS_19, WS_20, PS_0, PS_1, PS_2, PS_3, PS_4, PS_5, PS_6, ji_add, ji_sub, ji_mul, ji_neg, ji_lit0, ji_ofNat, ji_lt, ji_le, ji_eq, ji_nat, ji_in, qV_at, qI_at, qJ_at, qD_at, qA_at, qA_no, nb0, nb1, cat_r, cat_i, Option.some.injEq, exists_eq_left', true_and, and_true, if_true, if_false, ite_not, not_true_eq_false, not_false_eq_true, Sum.inr.injEq, exists_eq_right', true_or, or_true, and_self, Int.cast_ofNat_Int, reduceCtorEq, or_false, false_or, false_and, and_false, jb_zero, lt7_0, lt7_1, lt7_2, lt7_3, lt7_4, lt7_5, lt7_6, u_X3_hasVisited, xlc_eq, tb_and i1 i2, hb, ↓reduceIte, ilt_t, ilt_f, ile_t, ile_f, ieq_t, ieq_f, jb_T, jb_F, jb_t, jb_f] <;> simp [nb0, nb1, jb]
end
section
variable {μ : XM} {W : Nat} {w h N s : Int} {Z : Int → Int} {Q : XQ} {X : XX}
theorem CW_p (hC : CW μ W w h N s Z) (k : Int) (h0 : 0 ≤ k) (h1 : k < Z 1) : PW μ (pka W k) Z ((2666 + 120 * k)) := hC.2.2.2.2.2.2 k h0 h1
theorem BD_p (hB : BD w h N s Z) (k : Int) (h0 : 0 ≤ k) (h1 : k < Z 1) : BP N Z ((2666 + 120 * k)) := hB.2.2.2.2 k h0 h1
/-- a packet that moves -/
def act (Z : Int → Int) (k : Int) : Bool := decide (Z ((2666 + 120 * k) + 3) ≤ 2)
theorem e_countActive (hS : WS μ W) (hC : CW μ W w h N s Z) (hB : BD w h N s Z) : s_X7_countActive μ [.ref W] Q X = Q (some (.int (ji (cntz (act Z) 0 (Z 1).toNat 0)))) μ := by
  have hC' := hC
  obtain ⟨hG, c1, c2, c3, c4, c5, c6⟩ := hC'
  have hB' := hB
  obtain ⟨b1, b2, b3, b4, b5⟩ := hB'
  rw [u_X7_countActive, l_X7_countActive_4, xseal_eq]
  refine fold_loop (fun mf x l => ln_X7_countActive_4 Q X mf [some (.ref W), some (.int (ji x)), some (.int (ji l)), none] [] μ 0 0) (fun x => Q (some (.int (ji x))) μ) (fun l x => if act Z l = true then x + 1 else x) (fun l x => 0 ≤ x ∧ x ≤ l) (Z 1) (fun mf x hx => ?_) (fun mf x l l0 l1 hx => ⟨?_, ?_⟩) _ 10000 (0) (0) (by omega) (by omega) (by omega) (by omega)
  · show ln_X7_countActive_4 Q X (mf + 1) [some (.ref W), some (.int (ji x)), some (.int (ji (Z 1))), none] [] μ 0 0 = Q (some (.int (ji x))) μ
    rw [ul_X7_countActive_4]
    simp (disch := first | assumption | omega) only [WS_0, WS_1, WS_2, WS_3, WS_4, WS_5, WS_6, WS_7, WS_8, WS_9, WS_10, WS_11, WS_12, WS_13, WS_14, WS_15, WS_16, WS_17, WS_18, WS_19, WS_20, PS_0, PS_1, PS_2, PS_3, PS_4, PS_5, PS_6, ji_add, ji_sub, ji_mul, ji_neg, ji_lit0, ji_ofNat, ji_lt, ji_le, ji_eq, ji_nat, ji_in, qV_at, qI_at, qJ_at, qD_at, qA_at, qA_no, nb0, nb1, cat_r, cat_i, Option.some.injEq, exists_eq_left', true_and, and_true, if_true, if_false, ite_not, not_true_eq_false, not_false_eq_true, Sum.inr.injEq, exists_eq_right', true_or, or_true, and_self, Int.cast_ofNat_Int, reduceCtorEq, or_false, false_or, false_and, and_false, jb_zero, lt7_0, lt7_1, lt7_2, lt7_3, lt7_4, lt7_5, lt7_6, c_X7_countActive_1, c_X7_countActive_2, c_X7_countActive_3, c3, ↓reduceIte, ilt_t, ilt_f, ile_t, ile_f, ieq_t, ieq_f, jb_T, jb_F, jb_t, jb_f]
  · show ln_X7_countActive_4 Q X (mf + 1) [some (.ref W), some (.int (ji x)), some (.int (ji l)), none] [] μ 0 0 = ln_X7_countActive_4 Q X mf [some (.ref W), some (.int (ji (if act Z l = true then x + 1 else x))), some (.int (ji (l + 1))), none] [] μ 0 0
    rw [ul_X7_countActive_4]
    have hps := WS_ps hS l l0 (by omega)
    have hbp := BD_p hB l l0 l1
    unfold act
    by_cases hw : Z ((2666 + 120 * l) + 3) ≤ 2 <;> simp (disch := first | assumption | omega) only [WS_0, WS_1, WS_2, WS_3, WS_4, WS_5, WS_6, WS_7, WS_8, WS_9, WS_10, WS_11, WS_12, WS_13, WS_14, WS_15, WS_16, WS_17, WS_18, WS_19, WS_20, PS_0, PS_1, PS_2, PS_3, PS_4, PS_5, PS_6, ji_add, ji_sub, ji_mul, ji_neg, ji_lit0, ji_ofNat, ji_lt, ji_le, ji_eq, ji_nat, ji_in, qV_at, qI_at, qJ_at, qD_at, qA_at, qA_no, nb0, nb1, cat_r, cat_i, Option.some.injEq, exists_eq_left', true_and, and_true, if_true, if_false, ite_not, not_true_eq_false, not_false_eq_true, Sum.inr.injEq, exists_eq_right', true_or, or_true, and_self, Int.cast_ofNat_Int, reduceCtorEq, or_false, false_or, false_and, and_false, jb_zero, lt7_0, lt7_1, lt7_2, lt7_3, lt7_4, lt7_5, lt7_6, c_X7_countActive_1, c_X7_countActive_2, c_X7_countActive_3, c3, e_packetOf hS hC hB, e_isActive hps (CW_p hC l l0 l1) hbp, hw, decide_true, decide_false, Bool.false_eq_true, ↓reduceIte, ilt_t, ilt_f, ile_t, ile_f, ieq_t, ieq_f, jb_T, jb_F, jb_t, jb_f]
  · show 0 ≤ (if act Z l = true then x + 1 else x) ∧ (if act Z l = true then x + 1 else x) ≤ (l + 1)
    split <;> omega
end
