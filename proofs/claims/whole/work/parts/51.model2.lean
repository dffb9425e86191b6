/-! ===== the reference's further reads ===== -/
theorem bit_t {a k : Int} (h1 : 0 ≤ a) (h2 : a < 2147483648) (h3 : 0 ≤ k) (h4 : k < 32) : (jshr (ji a) (ji k) &&& ji 1 = ji 1) = (a.toNat.testBit k.toNat = true) := by
  have hs : a.toNat >>> k.toNat ≤ a.toNat := Nat.shiftRight_le _ _
  rw [ji_shr h1 h2 h3 h4, ji_and1 (Int.natCast_nonneg _) (by omega), ji_eq (by omega) (by omega) (by omega) (by omega), Nat.testBit_eq_decide_div_mod_eq, ← Nat.shiftRight_eq_div_pow]
  apply propext
  rw [decide_eq_true_eq]
  omega
section
variable {μ : XM} {m : Nat} {w h N s : Int} {Z : Int → Int} {Q : XQ} {X : XX}
theorem f_of (hS : RS μ m) (hR : RW μ m w h s Z) {k j : Int} (k0 : 0 ≤ k) (k1 : k < 25) (j0 : 0 ≤ j) (j1 : j < 120) : s_X9_of μ [.ref m, .int (ji k), .int (ji j)] Q X = Q (some (.int (ji (Z (2666 + 120 * k + j))))) μ := by
  obtain ⟨r1, r2, r3, r4⟩ := hR
  simp (disch := first | assumption | omega) only [RS_0, RS_1, RS_2, RS_3, RS_4, RS_5, RS_6, RS_7, RS_8, RS_9, RS_10, RS_11, RS_12, RS_13, RS_14, RS_15, RS_16, RS_17, RS_18, RS_19, RS_20, RS_21, RS_22, RS_23, RS_24, RS_25, RS_26, RS_27, RS_28, RS_29, RS_30, RS_31, RS_32, RS_33, RS_34, RS_35, RS_36, ji_add, ji_sub, ji_mul, ji_neg, ji_lit0, ji_ofNat, ji_lt, ji_le, ji_eq, ji_nat, ji_in, ji_rem, ji_div, jl_of, xl_lt, xl_gt, xl_eq, qV_at, qI_at, qJ_at, qD_at, qA_at, qA_no, nb0, nb1, Option.some.injEq, exists_eq_left', true_and, and_true, if_true, if_false, ite_not, not_true_eq_false, not_false_eq_true, Sum.inr.injEq, exists_eq_right', true_or, or_true, and_self, Int.cast_ofNat_Int, reduceCtorEq, or_false, false_or, false_and, and_false, jb_zero, lt7_0, lt7_1, lt7_2, lt7_3, lt7_4, lt7_5, lt7_6, u_X9_of, r4 (2666 + 120 * k + j) (by omega) (by omega), ↓reduceIte, ilt_t, ilt_f, ile_t, ile_f, ieq_t, ieq_f, jb_T, jb_F, jb_t, jb_f]
theorem f_isPacket (hS : RS μ m) (hR : RW μ m w h s Z) (hB : BD w h N s Z) {z : Int} (z1 : -2147483648 ≤ z) (z2 : z < 2147483648) : s_X9_isPacket μ [.ref m, .int (ji z)] Q X = Q (some (.int (jb (0 ≤ z ∧ z < Z 1)))) μ := by
  have b2 := hB.2.1
  obtain ⟨r1, r2, r3, r4⟩ := hR
  have r0 := r4 1 (by omega) (by omega)
  by_cases hz : 0 ≤ z ∧ z < Z 1
  · simp (disch := first | assumption | omega) only [RS_0, RS_1, RS_2, RS_3, RS_4, RS_5, RS_6, RS_7, RS_8, RS_9, RS_10, RS_11, RS_12, RS_13, RS_14, RS_15, RS_16, RS_17, RS_18, RS_19, RS_20, RS_21, RS_22, RS_23, RS_24, RS_25, RS_26, RS_27, RS_28, RS_29, RS_30, RS_31, RS_32, RS_33, RS_34, RS_35, RS_36, ji_add, ji_sub, ji_mul, ji_neg, ji_lit0, ji_ofNat, ji_lt, ji_le, ji_eq, ji_nat, ji_in, ji_rem, ji_div, jl_of, xl_lt, xl_gt, xl_eq, qV_at, qI_at, qJ_at, qD_at, qA_at, qA_no, nb0, nb1, Option.some.injEq, exists_eq_left', true_and, and_true, if_true, if_false, ite_not, not_true_eq_false, not_false_eq_true, Sum.inr.injEq, exists_eq_right', true_or, or_true, and_self, Int.cast_ofNat_Int, reduceCtorEq, or_false, false_or, false_and, and_false, jb_zero, lt7_0, lt7_1, lt7_2, lt7_3, lt7_4, lt7_5, lt7_6, c_X9_isPacket_1, u_X9_isPacket, r0, f_inRange, ↓reduceIte, ilt_t, ilt_f, ile_t, ile_f, ieq_t, ieq_f, jb_T, jb_F, jb_t, jb_f]
  · simp (disch := first | assumption | omega) only [RS_0, RS_1, RS_2, RS_3, RS_4, RS_5, RS_6, RS_7, RS_8, RS_9, RS_10, RS_11, RS_12, RS_13, RS_14, RS_15, RS_16, RS_17, RS_18, RS_19, RS_20, RS_21, RS_22, RS_23, RS_24, RS_25, RS_26, RS_27, RS_28, RS_29, RS_30, RS_31, RS_32, RS_33, RS_34, RS_35, RS_36, ji_add, ji_sub, ji_mul, ji_neg, ji_lit0, ji_ofNat, ji_lt, ji_le, ji_eq, ji_nat, ji_in, ji_rem, ji_div, jl_of, xl_lt, xl_gt, xl_eq, qV_at, qI_at, qJ_at, qD_at, qA_at, qA_no, nb0, nb1, Option.some.injEq, exists_eq_left', true_and, and_true, if_true, if_false, ite_not, not_true_eq_false, not_false_eq_true, Sum.inr.injEq, exists_eq_right', true_or, or_true, and_self, Int.cast_ofNat_Int, reduceCtorEq, or_false, false_or, false_and, and_false, jb_zero, lt7_0, lt7_1, lt7_2, lt7_3, lt7_4, lt7_5, lt7_6, c_X9_isPacket_1, u_X9_isPacket, r0, f_inRange, ↓reduceIte, ilt_t, ilt_f, ile_t, ile_f, ieq_t, ieq_f]
    rw [jb_f _ (by omega), jb_f _ (by omega)]
    simp (disch := first | assumption | omega) only [RS_0, RS_1, RS_2, RS_3, RS_4, RS_5, RS_6, RS_7, RS_8, RS_9, RS_10, RS_11, RS_12, RS_13, RS_14, RS_15, RS_16, RS_17, RS_18, RS_19, RS_20, RS_21, RS_22, RS_23, RS_24, RS_25, RS_26, RS_27, RS_28, RS_29, RS_30, RS_31, RS_32, RS_33, RS_34, RS_35, RS_36, ji_add, ji_sub, ji_mul, ji_neg, ji_lit0, ji_ofNat, ji_lt, ji_le, ji_eq, ji_nat, ji_in, ji_rem, ji_div, jl_of, xl_lt, xl_gt, xl_eq, qV_at, qI_at, qJ_at, qD_at, qA_at, qA_no, nb0, nb1, Option.some.injEq, exists_eq_left', true_and, and_true, if_true, if_false, ite_not, not_true_eq_false, not_false_eq_true, Sum.inr.injEq, exists_eq_right', true_or, or_true, and_self, Int.cast_ofNat_Int, reduceCtorEq, or_false, false_or, false_and, and_false, jb_zero, lt7_0, lt7_1, lt7_2, lt7_3, lt7_4, lt7_5, lt7_6]
theorem f_isMoving (hS : RS μ m) (hR : RW μ m w h s Z) {k : Int} (k0 : 0 ≤ k) (k1 : k < 25) (hb : 0 ≤ Z ((2666 + 120 * k) + 3) ∧ Z ((2666 + 120 * k) + 3) ≤ 5) : s_X9_isMoving μ [.ref m, .int (ji k)] Q X = Q (some (.int (jb (act Z k = true)))) μ := by
  unfold act
  by_cases h1 : Z ((2666 + 120 * k) + 3) ≤ 2 <;> simp (disch := first | assumption | omega) only [RS_0, RS_1, RS_2, RS_3, RS_4, RS_5, RS_6, RS_7, RS_8, RS_9, RS_10, RS_11, RS_12, RS_13, RS_14, RS_15, RS_16, RS_17, RS_18, RS_19, RS_20, RS_21, RS_22, RS_23, RS_24, RS_25, RS_26, RS_27, RS_28, RS_29, RS_30, RS_31, RS_32, RS_33, RS_34, RS_35, RS_36, ji_add, ji_sub, ji_mul, ji_neg, ji_lit0, ji_ofNat, ji_lt, ji_le, ji_eq, ji_nat, ji_in, ji_rem, ji_div, jl_of, xl_lt, xl_gt, xl_eq, qV_at, qI_at, qJ_at, qD_at, qA_at, qA_no, nb0, nb1, Option.some.injEq, exists_eq_left', true_and, and_true, if_true, if_false, ite_not, not_true_eq_false, not_false_eq_true, Sum.inr.injEq, exists_eq_right', true_or, or_true, and_self, Int.cast_ofNat_Int, reduceCtorEq, or_false, false_or, false_and, and_false, jb_zero, lt7_0, lt7_1, lt7_2, lt7_3, lt7_4, lt7_5, lt7_6, c_X9_isMoving_1, u_X9_isMoving, f_of hS hR, h1, decide_true, decide_false, Bool.false_eq_true, ↓reduceIte, ilt_t, ilt_f, ile_t, ile_f, ieq_t, ieq_f, jb_T, jb_F, jb_t, jb_f]
theorem f_moving (hS : RS μ m) (hR : RW μ m w h s Z) (hB : BD w h N s Z) : s_X9_moving μ [.ref m] Q X = Q (some (.int (ji (cntz (act Z) 0 (Z 1).toNat 0)))) μ := by
  have b2 := hB.2.1
  have r0 := hR.2.2.2 1 (by omega) (by omega)
  rw [u_X9_moving, l_X9_moving_4, xseal_eq]
  refine fold_loop (fun mf x l => ln_X9_moving_4 Q X mf [some (.ref m), some (.int (ji x)), some (.int (ji l))] [] μ 0 0) (fun x => Q (some (.int (ji x))) μ) (fun l x => if act Z l = true then x + 1 else x) (fun l x => 0 ≤ x ∧ x ≤ l) (Z 1) (fun mf x hx => ?_) (fun mf x l l0 l1 hx => ⟨?_, ?_⟩) _ 10000 (0) (0) (by omega) (by omega) (by omega) (by omega)
  · show ln_X9_moving_4 Q X (mf + 1) [some (.ref m), some (.int (ji x)), some (.int (ji (Z 1)))] [] μ 0 0 = Q (some (.int (ji x))) μ
    rw [ul_X9_moving_4]
    simp (disch := first | assumption | omega) only [RS_0, RS_1, RS_2, RS_3, RS_4, RS_5, RS_6, RS_7, RS_8, RS_9, RS_10, RS_11, RS_12, RS_13, RS_14, RS_15, RS_16, RS_17, RS_18, RS_19, RS_20, RS_21, RS_22, RS_23, RS_24, RS_25, RS_26, RS_27, RS_28, RS_29, RS_30, RS_31, RS_32, RS_33, RS_34, RS_35, RS_36, ji_add, ji_sub, ji_mul, ji_neg, ji_lit0, ji_ofNat, ji_lt, ji_le, ji_eq, ji_nat, ji_in, ji_rem, ji_div, jl_of, xl_lt, xl_gt, xl_eq, qV_at, qI_at, qJ_at, qD_at, qA_at, qA_no, nb0, nb1, Option.some.injEq, exists_eq_left', true_and, and_true, if_true, if_false, ite_not, not_true_eq_false, not_false_eq_true, Sum.inr.injEq, exists_eq_right', true_or, or_true, and_self, Int.cast_ofNat_Int, reduceCtorEq, or_false, false_or, false_and, and_false, jb_zero, lt7_0, lt7_1, lt7_2, lt7_3, lt7_4, lt7_5, lt7_6, c_X9_moving_1, r0, ↓reduceIte, ilt_t, ilt_f, ile_t, ile_f, ieq_t, ieq_f, jb_T, jb_F, jb_t, jb_f]
  · show ln_X9_moving_4 Q X (mf + 1) [some (.ref m), some (.int (ji x)), some (.int (ji l))] [] μ 0 0 = ln_X9_moving_4 Q X mf [some (.ref m), some (.int (ji (if act Z l = true then x + 1 else x))), some (.int (ji (l + 1)))] [] μ 0 0
    rw [ul_X9_moving_4]
    have hb := (BD_p hB l l0 l1).1
    have hk : 0 ≤ Z ((2666 + 120 * l) + 3) ∧ Z ((2666 + 120 * l) + 3) ≤ 5 := by omega
    by_cases hw : act Z l = true <;> simp (disch := first | assumption | omega) only [RS_0, RS_1, RS_2, RS_3, RS_4, RS_5, RS_6, RS_7, RS_8, RS_9, RS_10, RS_11, RS_12, RS_13, RS_14, RS_15, RS_16, RS_17, RS_18, RS_19, RS_20, RS_21, RS_22, RS_23, RS_24, RS_25, RS_26, RS_27, RS_28, RS_29, RS_30, RS_31, RS_32, RS_33, RS_34, RS_35, RS_36, ji_add, ji_sub, ji_mul, ji_neg, ji_lit0, ji_ofNat, ji_lt, ji_le, ji_eq, ji_nat, ji_in, ji_rem, ji_div, jl_of, xl_lt, xl_gt, xl_eq, qV_at, qI_at, qJ_at, qD_at, qA_at, qA_no, nb0, nb1, Option.some.injEq, exists_eq_left', true_and, and_true, if_true, if_false, ite_not, not_true_eq_false, not_false_eq_true, Sum.inr.injEq, exists_eq_right', true_or, or_true, and_self, Int.cast_ofNat_Int, reduceCtorEq, or_false, false_or, false_and, and_false, jb_zero, lt7_0, lt7_1, lt7_2, lt7_3, lt7_4, lt7_5, lt7_6, c_X9_moving_1, r0, f_isMoving hS hR, hw, ↓reduceIte, ilt_t, ilt_f, ile_t, ile_f, ieq_t, ieq_f, jb_T, jb_F, jb_t, jb_f, Int.add_zero]
  · show 0 ≤ (if act Z l = true then x + 1 else x) ∧ (if act Z l = true then x + 1 else x) ≤ (l + 1)
    split <;> omega
theorem f_hopsNow (hS : RS μ m) (hR : RW μ m w h s Z) (hB : BD w h N s Z) : s_X9_hopsNow μ [.ref m] Q X = Q (some (.int (ji (foldz (fun k x => x + Z ((2666 + 120 * k) + 5)) 0 (Z 1).toNat 0)))) μ := by
  have b2 := hB.2.1
  have r0 := hR.2.2.2 1 (by omega) (by omega)
  rw [u_X9_hopsNow, l_X9_hopsNow_4, xseal_eq]
  refine fold_loop (fun mf x l => ln_X9_hopsNow_4 Q X mf [some (.ref m), some (.int (ji x)), some (.int (ji l))] [] μ 0 0) (fun x => Q (some (.int (ji x))) μ) (fun l x => x + Z ((2666 + 120 * l) + 5)) (fun l x => True) (Z 1) (fun mf x hx => ?_) (fun mf x l l0 l1 hx => ⟨?_, ?_⟩) _ 10000 (0) (0) (by omega) (by omega) (by omega) (trivial)
  · show ln_X9_hopsNow_4 Q X (mf + 1) [some (.ref m), some (.int (ji x)), some (.int (ji (Z 1)))] [] μ 0 0 = Q (some (.int (ji x))) μ
    rw [ul_X9_hopsNow_4]
    simp (disch := first | assumption | omega) only [RS_0, RS_1, RS_2, RS_3, RS_4, RS_5, RS_6, RS_7, RS_8, RS_9, RS_10, RS_11, RS_12, RS_13, RS_14, RS_15, RS_16, RS_17, RS_18, RS_19, RS_20, RS_21, RS_22, RS_23, RS_24, RS_25, RS_26, RS_27, RS_28, RS_29, RS_30, RS_31, RS_32, RS_33, RS_34, RS_35, RS_36, ji_add, ji_sub, ji_mul, ji_neg, ji_lit0, ji_ofNat, ji_lt, ji_le, ji_eq, ji_nat, ji_in, ji_rem, ji_div, jl_of, xl_lt, xl_gt, xl_eq, qV_at, qI_at, qJ_at, qD_at, qA_at, qA_no, nb0, nb1, Option.some.injEq, exists_eq_left', true_and, and_true, if_true, if_false, ite_not, not_true_eq_false, not_false_eq_true, Sum.inr.injEq, exists_eq_right', true_or, or_true, and_self, Int.cast_ofNat_Int, reduceCtorEq, or_false, false_or, false_and, and_false, jb_zero, lt7_0, lt7_1, lt7_2, lt7_3, lt7_4, lt7_5, lt7_6, c_X9_hopsNow_1, r0, ↓reduceIte, ilt_t, ilt_f, ile_t, ile_f, ieq_t, ieq_f, jb_T, jb_F, jb_t, jb_f]
  · show ln_X9_hopsNow_4 Q X (mf + 1) [some (.ref m), some (.int (ji x)), some (.int (ji l))] [] μ 0 0 = ln_X9_hopsNow_4 Q X mf [some (.ref m), some (.int (ji (x + Z ((2666 + 120 * l) + 5)))), some (.int (ji (l + 1)))] [] μ 0 0
    rw [ul_X9_hopsNow_4]
    simp (disch := first | assumption | omega) only [RS_0, RS_1, RS_2, RS_3, RS_4, RS_5, RS_6, RS_7, RS_8, RS_9, RS_10, RS_11, RS_12, RS_13, RS_14, RS_15, RS_16, RS_17, RS_18, RS_19, RS_20, RS_21, RS_22, RS_23, RS_24, RS_25, RS_26, RS_27, RS_28, RS_29, RS_30, RS_31, RS_32, RS_33, RS_34, RS_35, RS_36, ji_add, ji_sub, ji_mul, ji_neg, ji_lit0, ji_ofNat, ji_lt, ji_le, ji_eq, ji_nat, ji_in, ji_rem, ji_div, jl_of, xl_lt, xl_gt, xl_eq, qV_at, qI_at, qJ_at, qD_at, qA_at, qA_no, nb0, nb1, Option.some.injEq, exists_eq_left', true_and, and_true, if_true, if_false, ite_not, not_true_eq_false, not_false_eq_true, Sum.inr.injEq, exists_eq_right', true_or, or_true, and_self, Int.cast_ofNat_Int, reduceCtorEq, or_false, false_or, false_and, and_false, jb_zero, lt7_0, lt7_1, lt7_2, lt7_3, lt7_4, lt7_5, lt7_6, c_X9_hopsNow_1, r0, f_of hS hR, ↓reduceIte, ilt_t, ilt_f, ile_t, ile_f, ieq_t, ieq_f, jb_T, jb_F, jb_t, jb_f]
  · show True
    trivial
theorem f_isVisitedNow (hS : RS μ m) (hR : RW μ m w h s Z) {k n : Int} (k0 : 0 ≤ k) (k1 : k < 25) (hb : BP N Z (2666 + 120 * k)) (n0 : 0 ≤ n) (n1 : n < 36) : s_X9_isVisitedNow μ [.ref m, .int (ji k), .int (ji n)] Q X = Q (some (.int (jb (vis Z (2666 + 120 * k) n = true)))) μ := by
  have b2 := hb.2.1
  unfold vis
  by_cases h1 : n < 18
  · have e1 : n / 18 = 0 := by omega
    have e2 : n % 18 = n := by omega
    rw [if_pos h1]
    cases hv : (Z ((2666 + 120 * k) + 9)).toNat.testBit n.toNat <;> simp (disch := first | assumption | omega) only [RS_0, RS_1, RS_2, RS_3, RS_4, RS_5, RS_6, RS_7, RS_8, RS_9, RS_10, RS_11, RS_12, RS_13, RS_14, RS_15, RS_16, RS_17, RS_18, RS_19, RS_20, RS_21, RS_22, RS_23, RS_24, RS_25, RS_26, RS_27, RS_28, RS_29, RS_30, RS_31, RS_32, RS_33, RS_34, RS_35, RS_36, ji_add, ji_sub, ji_mul, ji_neg, ji_lit0, ji_ofNat, ji_lt, ji_le, ji_eq, ji_nat, ji_in, ji_rem, ji_div, jl_of, xl_lt, xl_gt, xl_eq, qV_at, qI_at, qJ_at, qD_at, qA_at, qA_no, nb0, nb1, Option.some.injEq, exists_eq_left', true_and, and_true, if_true, if_false, ite_not, not_true_eq_false, not_false_eq_true, Sum.inr.injEq, exists_eq_right', true_or, or_true, and_self, Int.cast_ofNat_Int, reduceCtorEq, or_false, false_or, false_and, and_false, jb_zero, lt7_0, lt7_1, lt7_2, lt7_3, lt7_4, lt7_5, lt7_6, c_X9_isVisitedNow_1, u_X9_isVisitedNow, f_of hS hR, e1, e2, bit_t, Int.add_zero, hv, Bool.false_eq_true, ↓reduceIte, ilt_t, ilt_f, ile_t, ile_f, ieq_t, ieq_f, jb_T, jb_F, jb_t, jb_f]
  · have e1 : n / 18 = 1 := by omega
    have e2 : n % 18 = n - 18 := by omega
    have e3 : (9 : Int) + 1 = 10 := rfl
    rw [if_neg h1, if_pos n1]
    cases hv : (Z ((2666 + 120 * k) + 10)).toNat.testBit (n - 18).toNat <;> simp (disch := first | assumption | omega) only [RS_0, RS_1, RS_2, RS_3, RS_4, RS_5, RS_6, RS_7, RS_8, RS_9, RS_10, RS_11, RS_12, RS_13, RS_14, RS_15, RS_16, RS_17, RS_18, RS_19, RS_20, RS_21, RS_22, RS_23, RS_24, RS_25, RS_26, RS_27, RS_28, RS_29, RS_30, RS_31, RS_32, RS_33, RS_34, RS_35, RS_36, ji_add, ji_sub, ji_mul, ji_neg, ji_lit0, ji_ofNat, ji_lt, ji_le, ji_eq, ji_nat, ji_in, ji_rem, ji_div, jl_of, xl_lt, xl_gt, xl_eq, qV_at, qI_at, qJ_at, qD_at, qA_at, qA_no, nb0, nb1, Option.some.injEq, exists_eq_left', true_and, and_true, if_true, if_false, ite_not, not_true_eq_false, not_false_eq_true, Sum.inr.injEq, exists_eq_right', true_or, or_true, and_self, Int.cast_ofNat_Int, reduceCtorEq, or_false, false_or, false_and, and_false, jb_zero, lt7_0, lt7_1, lt7_2, lt7_3, lt7_4, lt7_5, lt7_6, c_X9_isVisitedNow_1, u_X9_isVisitedNow, f_of hS hR, e1, e2, e3, bit_t, hv, Bool.false_eq_true, ↓reduceIte, ilt_t, ilt_f, ile_t, ile_f, ieq_t, ieq_f, jb_T, jb_F, jb_t, jb_f]
theorem f_barred (hS : RS μ m) (hR : RW μ m w h s Z) (hz : SZ w h N s) (hB : BD w h N s Z) {k y : Int} (k0 : 0 ≤ k) (k1 : k < Z 1) (y0 : 0 ≤ y) (y1 : y < 4) : s_X9_barred μ [.ref m, .int (ji k), .int (ji y)] Q X = Q (some (.int (ji (obs w h N s Z (2666 + 120 * k) y)))) μ := by
  have hbp := BD_p hB k k0 k1
  have b2 := hB.2.1
  have q4 : 0 ≤ Z ((2666 + 120 * k) + 4) ∧ Z ((2666 + 120 * k) + 4) < N ∧ N ≤ 36 := by
    have := hbp.1
    have := hB.1
    omega
  have g := hz.g
  have hlb := lka_b (z := Z ((2666 + 120 * k) + 4)) (y := y) g
  have hlz := lka_no (z := Z ((2666 + 120 * k) + 4)) (y := y) g
  have hnb := nx_b g q4.1 q4.2.1 y0 y1
  have hno := nxt_in (w := w) (h := h) q4.1 q4.2.1 y0 y1
  have hk25 : k < 25 := by omega
  unfold obs
  generalize hL : lka w h N (Z ((2666 + 120 * k) + 4)) y = L at hlb hlz ⊢
  have hL' : lka w h N (Z (2666 + 120 * k + 4)) y = L := hL
  by_cases c1 : L = -1
  · simp (disch := first | assumption | omega) only [RS_0, RS_1, RS_2, RS_3, RS_4, RS_5, RS_6, RS_7, RS_8, RS_9, RS_10, RS_11, RS_12, RS_13, RS_14, RS_15, RS_16, RS_17, RS_18, RS_19, RS_20, RS_21, RS_22, RS_23, RS_24, RS_25, RS_26, RS_27, RS_28, RS_29, RS_30, RS_31, RS_32, RS_33, RS_34, RS_35, RS_36, ji_add, ji_sub, ji_mul, ji_neg, ji_lit0, ji_ofNat, ji_lt, ji_le, ji_eq, ji_nat, ji_in, ji_rem, ji_div, jl_of, xl_lt, xl_gt, xl_eq, qV_at, qI_at, qJ_at, qD_at, qA_at, qA_no, nb0, nb1, Option.some.injEq, exists_eq_left', true_and, and_true, if_true, if_false, ite_not, not_true_eq_false, not_false_eq_true, Sum.inr.injEq, exists_eq_right', true_or, or_true, and_self, Int.cast_ofNat_Int, reduceCtorEq, or_false, false_or, false_and, and_false, jb_zero, lt7_0, lt7_1, lt7_2, lt7_3, lt7_4, lt7_5, lt7_6, c_X9_barred_1, c_X9_barred_2, c_X9_barred_3, c_X9_barred_4, c_X9_barred_5, c_X9_barred_6, u_X9_barred, f_of hS hR, f_linkOf hS hR hz, hL', c1, ↓reduceIte, ilt_t, ilt_f, ile_t, ile_f, ieq_t, ieq_f, jb_T, jb_F, jb_t, jb_f]
  · rw [hno] at hlz
    have hnn : 0 ≤ nx w h (Z ((2666 + 120 * k) + 4)) y := by omega
    have hf := fnd_b hbp L
    have e47 : Z (2666 + 120 * k + (47 + L)) = fnd Z (2666 + 120 * k) L := by rw [fnd_in (by omega) (by omega), Int.add_assoc (2666 + 120 * k)]
    by_cases c2 : fnd Z (2666 + 120 * k) L = -1
    · by_cases c3 : hol s Z (Z ((2666 + 120 * k) + 4)) L = true
      · simp (disch := first | assumption | omega) only [RS_0, RS_1, RS_2, RS_3, RS_4, RS_5, RS_6, RS_7, RS_8, RS_9, RS_10, RS_11, RS_12, RS_13, RS_14, RS_15, RS_16, RS_17, RS_18, RS_19, RS_20, RS_21, RS_22, RS_23, RS_24, RS_25, RS_26, RS_27, RS_28, RS_29, RS_30, RS_31, RS_32, RS_33, RS_34, RS_35, RS_36, ji_add, ji_sub, ji_mul, ji_neg, ji_lit0, ji_ofNat, ji_lt, ji_le, ji_eq, ji_nat, ji_in, ji_rem, ji_div, jl_of, xl_lt, xl_gt, xl_eq, qV_at, qI_at, qJ_at, qD_at, qA_at, qA_no, nb0, nb1, Option.some.injEq, exists_eq_left', true_and, and_true, if_true, if_false, ite_not, not_true_eq_false, not_false_eq_true, Sum.inr.injEq, exists_eq_right', true_or, or_true, and_self, Int.cast_ofNat_Int, reduceCtorEq, or_false, false_or, false_and, and_false, jb_zero, lt7_0, lt7_1, lt7_2, lt7_3, lt7_4, lt7_5, lt7_6, c_X9_barred_1, c_X9_barred_2, c_X9_barred_3, c_X9_barred_4, c_X9_barred_5, c_X9_barred_6, u_X9_barred, f_of hS hR, f_linkOf hS hR hz, hL', e47, c2, c3, f_holds hS hR hB, ne_eq, ↓reduceIte, ilt_t, ilt_f, ile_t, ile_f, ieq_t, ieq_f, jb_T, jb_F, jb_t, jb_f]
      · rw [hno]
        by_cases c4 : vis Z (2666 + 120 * k) (nx w h (Z ((2666 + 120 * k) + 4)) y) = true <;> simp (disch := first | assumption | omega) only [RS_0, RS_1, RS_2, RS_3, RS_4, RS_5, RS_6, RS_7, RS_8, RS_9, RS_10, RS_11, RS_12, RS_13, RS_14, RS_15, RS_16, RS_17, RS_18, RS_19, RS_20, RS_21, RS_22, RS_23, RS_24, RS_25, RS_26, RS_27, RS_28, RS_29, RS_30, RS_31, RS_32, RS_33, RS_34, RS_35, RS_36, ji_add, ji_sub, ji_mul, ji_neg, ji_lit0, ji_ofNat, ji_lt, ji_le, ji_eq, ji_nat, ji_in, ji_rem, ji_div, jl_of, xl_lt, xl_gt, xl_eq, qV_at, qI_at, qJ_at, qD_at, qA_at, qA_no, nb0, nb1, Option.some.injEq, exists_eq_left', true_and, and_true, if_true, if_false, ite_not, not_true_eq_false, not_false_eq_true, Sum.inr.injEq, exists_eq_right', true_or, or_true, and_self, Int.cast_ofNat_Int, reduceCtorEq, or_false, false_or, false_and, and_false, jb_zero, lt7_0, lt7_1, lt7_2, lt7_3, lt7_4, lt7_5, lt7_6, c_X9_barred_1, c_X9_barred_2, c_X9_barred_3, c_X9_barred_4, c_X9_barred_5, c_X9_barred_6, u_X9_barred, f_of hS hR, f_linkOf hS hR hz, hL', e47, c2, c3, c4, f_holds hS hR hB, f_nextTo hS hR hz, f_isVisitedNow hS hR k0 hk25 hbp, ne_eq, ↓reduceIte, ilt_t, ilt_f, ile_t, ile_f, ieq_t, ieq_f, jb_T, jb_F, jb_t, jb_f]
    · simp (disch := first | assumption | omega) only [RS_0, RS_1, RS_2, RS_3, RS_4, RS_5, RS_6, RS_7, RS_8, RS_9, RS_10, RS_11, RS_12, RS_13, RS_14, RS_15, RS_16, RS_17, RS_18, RS_19, RS_20, RS_21, RS_22, RS_23, RS_24, RS_25, RS_26, RS_27, RS_28, RS_29, RS_30, RS_31, RS_32, RS_33, RS_34, RS_35, RS_36, ji_add, ji_sub, ji_mul, ji_neg, ji_lit0, ji_ofNat, ji_lt, ji_le, ji_eq, ji_nat, ji_in, ji_rem, ji_div, jl_of, xl_lt, xl_gt, xl_eq, qV_at, qI_at, qJ_at, qD_at, qA_at, qA_no, nb0, nb1, Option.some.injEq, exists_eq_left', true_and, and_true, if_true, if_false, ite_not, not_true_eq_false, not_false_eq_true, Sum.inr.injEq, exists_eq_right', true_or, or_true, and_self, Int.cast_ofNat_Int, reduceCtorEq, or_false, false_or, false_and, and_false, jb_zero, lt7_0, lt7_1, lt7_2, lt7_3, lt7_4, lt7_5, lt7_6, c_X9_barred_1, c_X9_barred_2, c_X9_barred_3, c_X9_barred_4, c_X9_barred_5, c_X9_barred_6, u_X9_barred, f_of hS hR, f_linkOf hS hR hz, hL', e47, ne_eq, ↓reduceIte, ilt_t, ilt_f, ile_t, ile_f, ieq_t, ieq_f, jb_T, jb_F, jb_t, jb_f]
theorem f_chosen (hS : RS μ m) (hR : RW μ m w h s Z) (hz : SZ w h N s) (hB : BD w h N s Z) {k : Int} (k0 : 0 ≤ k) (k1 : k < Z 1) : s_X9_chosen μ [.ref m, .int (ji k)] Q X = Q (some (.int (ji (bst w h N s Z (2666 + 120 * k))))) μ := by
  have hbp := BD_p hB k k0 k1
  have b2 := hB.2.1
  have q4 : 0 ≤ Z ((2666 + 120 * k) + 4) ∧ Z ((2666 + 120 * k) + 4) < N ∧ N ≤ 36 ∧ 0 ≤ Z ((2666 + 120 * k) + 1) ∧ Z ((2666 + 120 * k) + 1) < N := by
    have := hbp.1
    have := hB.1
    omega
  have g := hz.g
  unfold bst
  rw [u_X9_chosen, l_X9_chosen_7, xseal_eq]
  refine fold_loop (fun mf x l => ln_X9_chosen_7 Q X mf [some (.ref m), some (.int (ji k)), some (.int (ji x.1)), some (.int (ji x.2)), some (.int (ji l)), none] [] μ 0 0) (fun x => Q (some (.int (ji x.1))) μ) (fun l x => bsg w h N s Z (2666 + 120 * k) l x) (fun l x => -1 ≤ x.1 ∧ x.1 < 4 ∧ 0 ≤ x.2 ∧ x.2 ≤ 10) (4) (fun mf x hx => ?_) (fun mf x l l0 l1 hx => ⟨?_, ?_⟩) _ 10000 (0) ((-1, 0)) (by omega) (by omega) (by omega) (by decide)
  · show ln_X9_chosen_7 Q X (mf + 1) [some (.ref m), some (.int (ji k)), some (.int (ji x.1)), some (.int (ji x.2)), some (.int (ji (4))), none] [] μ 0 0 = Q (some (.int (ji x.1))) μ
    rw [ul_X9_chosen_7]
    simp (disch := first | assumption | omega) only [WS_0, WS_1, WS_2, WS_3, WS_4, WS_5, WS_6, WS_7, WS_8, WS_9, WS_10, WS_11, WS_12, WS_13, WS_14, WS_15, WS_16, WS_17, WS_18, WS_19, WS_20, PS_0, PS_1, PS_2, PS_3, PS_4, PS_5, PS_6, ji_add, ji_sub, ji_mul, ji_neg, ji_lit0, ji_ofNat, ji_lt, ji_le, ji_eq, ji_nat, ji_in, qV_at, qI_at, qJ_at, qD_at, qA_at, qA_no, nb0, nb1, Option.some.injEq, exists_eq_left', true_and, and_true, if_true, if_false, ite_not, not_true_eq_false, not_false_eq_true, Sum.inr.injEq, exists_eq_right', true_or, or_true, and_self, Int.cast_ofNat_Int, reduceCtorEq, or_false, false_or, false_and, and_false, jb_zero, lt7_0, lt7_1, lt7_2, lt7_3, lt7_4, lt7_5, lt7_6, c_X9_chosen_1, c_X9_chosen_2, c_X9_chosen_3, c_X9_chosen_4, c_X9_chosen_5, ↓reduceIte, ilt_t, ilt_f, ile_t, ile_f, ieq_t, ieq_f, jb_T, jb_F, jb_t, jb_f]
  · show ln_X9_chosen_7 Q X (mf + 1) [some (.ref m), some (.int (ji k)), some (.int (ji x.1)), some (.int (ji x.2)), some (.int (ji l)), none] [] μ 0 0 = ln_X9_chosen_7 Q X mf [some (.ref m), some (.int (ji k)), some (.int (ji (bsg w h N s Z (2666 + 120 * k) l x).1)), some (.int (ji (bsg w h N s Z (2666 + 120 * k) l x).2)), some (.int (ji (l + 1))), none] [] μ 0 0
    rw [ul_X9_chosen_7]
    unfold bsg
    have hob := obs_b (w := w) (h := h) (N := N) (s := s) (Z := Z) (2666 + 120 * k) l
    by_cases h0 : obs w h N s Z (2666 + 120 * k) l = 0
    · have hz0 := obs_0 g h0
      have hno := nxt_in (w := w) (h := h) q4.1 q4.2.1 l0 l1
      have hnb := nx_b g q4.1 q4.2.1 l0 l1
      rw [hno] at hz0
      have hd := dst_z (a := nx w h (Z ((2666 + 120 * k) + 4)) l) (b := Z ((2666 + 120 * k) + 1)) g (by omega) (by omega) (by omega) (by omega)
      rw [hno]
      by_cases h1 : x.1 = -1
      · simp (disch := first | assumption | omega) only [RS_0, RS_1, RS_2, RS_3, RS_4, RS_5, RS_6, RS_7, RS_8, RS_9, RS_10, RS_11, RS_12, RS_13, RS_14, RS_15, RS_16, RS_17, RS_18, RS_19, RS_20, RS_21, RS_22, RS_23, RS_24, RS_25, RS_26, RS_27, RS_28, RS_29, RS_30, RS_31, RS_32, RS_33, RS_34, RS_35, RS_36, ji_add, ji_sub, ji_mul, ji_neg, ji_lit0, ji_ofNat, ji_lt, ji_le, ji_eq, ji_nat, ji_in, ji_rem, ji_div, jl_of, xl_lt, xl_gt, xl_eq, qV_at, qI_at, qJ_at, qD_at, qA_at, qA_no, nb0, nb1, Option.some.injEq, exists_eq_left', true_and, and_true, if_true, if_false, ite_not, not_true_eq_false, not_false_eq_true, Sum.inr.injEq, exists_eq_right', true_or, or_true, and_self, Int.cast_ofNat_Int, reduceCtorEq, or_false, false_or, false_and, and_false, jb_zero, lt7_0, lt7_1, lt7_2, lt7_3, lt7_4, lt7_5, lt7_6, c_X9_chosen_1, c_X9_chosen_2, c_X9_chosen_3, c_X9_chosen_4, c_X9_chosen_5, f_barred hS hR hz hB k0 k1, f_of hS hR, f_nextTo hS hR hz, f_distanceOf hS hR hz, h0, h1, ↓reduceIte, ilt_t, ilt_f, ile_t, ile_f, ieq_t, ieq_f, jb_T, jb_F, jb_t, jb_f]
      · by_cases h2 : dst w (nx w h (Z ((2666 + 120 * k) + 4)) l) (Z ((2666 + 120 * k) + 1)) < x.2 <;> simp (disch := first | assumption | omega) only [RS_0, RS_1, RS_2, RS_3, RS_4, RS_5, RS_6, RS_7, RS_8, RS_9, RS_10, RS_11, RS_12, RS_13, RS_14, RS_15, RS_16, RS_17, RS_18, RS_19, RS_20, RS_21, RS_22, RS_23, RS_24, RS_25, RS_26, RS_27, RS_28, RS_29, RS_30, RS_31, RS_32, RS_33, RS_34, RS_35, RS_36, ji_add, ji_sub, ji_mul, ji_neg, ji_lit0, ji_ofNat, ji_lt, ji_le, ji_eq, ji_nat, ji_in, ji_rem, ji_div, jl_of, xl_lt, xl_gt, xl_eq, qV_at, qI_at, qJ_at, qD_at, qA_at, qA_no, nb0, nb1, Option.some.injEq, exists_eq_left', true_and, and_true, if_true, if_false, ite_not, not_true_eq_false, not_false_eq_true, Sum.inr.injEq, exists_eq_right', true_or, or_true, and_self, Int.cast_ofNat_Int, reduceCtorEq, or_false, false_or, false_and, and_false, jb_zero, lt7_0, lt7_1, lt7_2, lt7_3, lt7_4, lt7_5, lt7_6, c_X9_chosen_1, c_X9_chosen_2, c_X9_chosen_3, c_X9_chosen_4, c_X9_chosen_5, f_barred hS hR hz hB k0 k1, f_of hS hR, f_nextTo hS hR hz, f_distanceOf hS hR hz, h0, h1, h2, ↓reduceIte, ilt_t, ilt_f, ile_t, ile_f, ieq_t, ieq_f, jb_T, jb_F, jb_t, jb_f]
    · simp (disch := first | assumption | omega) only [RS_0, RS_1, RS_2, RS_3, RS_4, RS_5, RS_6, RS_7, RS_8, RS_9, RS_10, RS_11, RS_12, RS_13, RS_14, RS_15, RS_16, RS_17, RS_18, RS_19, RS_20, RS_21, RS_22, RS_23, RS_24, RS_25, RS_26, RS_27, RS_28, RS_29, RS_30, RS_31, RS_32, RS_33, RS_34, RS_35, RS_36, ji_add, ji_sub, ji_mul, ji_neg, ji_lit0, ji_ofNat, ji_lt, ji_le, ji_eq, ji_nat, ji_in, ji_rem, ji_div, jl_of, xl_lt, xl_gt, xl_eq, qV_at, qI_at, qJ_at, qD_at, qA_at, qA_no, nb0, nb1, Option.some.injEq, exists_eq_left', true_and, and_true, if_true, if_false, ite_not, not_true_eq_false, not_false_eq_true, Sum.inr.injEq, exists_eq_right', true_or, or_true, and_self, Int.cast_ofNat_Int, reduceCtorEq, or_false, false_or, false_and, and_false, jb_zero, lt7_0, lt7_1, lt7_2, lt7_3, lt7_4, lt7_5, lt7_6, c_X9_chosen_1, c_X9_chosen_2, c_X9_chosen_3, c_X9_chosen_4, c_X9_chosen_5, f_barred hS hR hz hB k0 k1, h0, ↓reduceIte, ilt_t, ilt_f, ile_t, ile_f, ieq_t, ieq_f, jb_T, jb_F, jb_t, jb_f]
  · show -1 ≤ (bsg w h N s Z (2666 + 120 * k) l x).1 ∧ (bsg w h N s Z (2666 + 120 * k) l x).1 < 4 ∧ 0 ≤ (bsg w h N s Z (2666 + 120 * k) l x).2 ∧ (bsg w h N s Z (2666 + 120 * k) l x).2 ≤ 10
    unfold bsg
    by_cases h0 : obs w h N s Z (2666 + 120 * k) l = 0
    · have hz0 := obs_0 g h0
      have hno := nxt_in (w := w) (h := h) q4.1 q4.2.1 l0 l1
      have hnb := nx_b g q4.1 q4.2.1 l0 l1
      rw [hno] at hz0
      have hd := dst_z (a := nx w h (Z ((2666 + 120 * k) + 4)) l) (b := Z ((2666 + 120 * k) + 1)) g (by omega) (by omega) (by omega) (by omega)
      rw [hno]
      split
      · show -1 ≤ l ∧ l < 4 ∧ 0 ≤ dst w (nx w h (Z ((2666 + 120 * k) + 4)) l) (Z ((2666 + 120 * k) + 1)) ∧ dst w (nx w h (Z ((2666 + 120 * k) + 4)) l) (Z ((2666 + 120 * k) + 1)) ≤ 10
        omega
      · omega
    · rw [if_neg (fun q => h0 q.1)]
      omega
end
