/-! ===== the reference answers ===== -/
section
variable {μ ν : XM} {m : Nat} {Q : XQ} {X : XX} {A : AS}
theorem RP.a {v : Int} (hQ : RP μ m Q (A, (0, v))) (c : CH (inM m) ν μ) (hM : MS ν m A) (h0 : gI ν 298 m = ji 0) : Q (some (.int (ji v))) ν := hQ ν c hM h0
theorem r_lessons (hM : MS μ m A) (hi : INV A) {n : Int} (n1 : -2147483648 ≤ n) (n2 : n < 2147483648) (hQ : RQ μ m Q (A, oc1 (0 ≤ n ∧ n < A.1.2.2.1) (cntz (lsn A.1.2.2.2 A.2.1 0 n) 0 72 0))) : s_X9_lessons μ [.ref m, .int (ji n)] Q X := by
  have hS := hM.1
  have hB := hi.1.1.1
  have hz := hB.z
  have hw := hB.1
  have hbz := hB.2.1
  rw [u_X9_lessons]
  refine ⟨RS_0 hS, ?_⟩
  obtain ⟨hS1, hR1, hM1, h0, c⟩ := hM.nul hi
  generalize sI μ 298 m (ji 0) = ν at *
  unfold oc1 at hQ
  by_cases hn : 0 ≤ n ∧ n < A.1.2.2.1
  · rw [if_pos hn] at hQ
    have hq := hQ.a c hM1 h0
    simp (disch := first | assumption | omega) only [RS_0, RS_1, RS_2, RS_3, RS_4, RS_5, RS_6, RS_7, RS_8, RS_9, RS_10, RS_11, RS_12, RS_13, RS_14, RS_15, RS_16, RS_17, RS_18, RS_19, RS_20, RS_21, RS_22, RS_23, RS_24, RS_25, RS_26, RS_27, RS_28, RS_29, RS_30, RS_31, RS_32, RS_33, RS_34, RS_35, RS_36, ji_add, ji_sub, ji_mul, ji_neg, ji_lit0, ji_ofNat, ji_lt, ji_le, ji_eq, ji_nat, ji_in, ji_rem, ji_div, jl_of, xl_lt, xl_gt, xl_eq, qV_at, qI_at, qJ_at, qD_at, qA_at, qA_no, nb0, nb1, cat_r, cat_i, Option.some.injEq, exists_eq_left', true_and, and_true, if_true, if_false, ite_not, not_true_eq_false, not_false_eq_true, Sum.inr.injEq, exists_eq_right', true_or, or_true, and_self, Int.cast_ofNat_Int, reduceCtorEq, or_false, false_or, false_and, and_false, jb_zero, lt7_0, lt7_1, lt7_2, lt7_3, lt7_4, lt7_5, lt7_6, c_X9_lessons_1, c_X9_lessons_2, c_X9_lessons_3, c_X9_lessons_4, c_X9_lessons_5, g_isNode hS1 hR1 hi, hn, g_t0 hS1, g_lessonsOf hS1 hR1 hB, ↓reduceIte, ilt_t, ilt_f, ile_t, ile_f, ieq_t, ieq_f, jb_T, jb_F, jb_t, jb_f]
    exact hq
  · rw [if_neg hn] at hQ
    simp (disch := first | assumption | omega) only [RS_0, RS_1, RS_2, RS_3, RS_4, RS_5, RS_6, RS_7, RS_8, RS_9, RS_10, RS_11, RS_12, RS_13, RS_14, RS_15, RS_16, RS_17, RS_18, RS_19, RS_20, RS_21, RS_22, RS_23, RS_24, RS_25, RS_26, RS_27, RS_28, RS_29, RS_30, RS_31, RS_32, RS_33, RS_34, RS_35, RS_36, ji_add, ji_sub, ji_mul, ji_neg, ji_lit0, ji_ofNat, ji_lt, ji_le, ji_eq, ji_nat, ji_in, ji_rem, ji_div, jl_of, xl_lt, xl_gt, xl_eq, qV_at, qI_at, qJ_at, qD_at, qA_at, qA_no, nb0, nb1, cat_r, cat_i, Option.some.injEq, exists_eq_left', true_and, and_true, if_true, if_false, ite_not, not_true_eq_false, not_false_eq_true, Sum.inr.injEq, exists_eq_right', true_or, or_true, and_self, Int.cast_ofNat_Int, reduceCtorEq, or_false, false_or, false_and, and_false, jb_zero, lt7_0, lt7_1, lt7_2, lt7_3, lt7_4, lt7_5, lt7_6, c_X9_lessons_1, c_X9_lessons_2, c_X9_lessons_3, c_X9_lessons_4, c_X9_lessons_5, g_isNode hS1 hR1 hi, jb_eqf hn, g_t1 hS1, ↓reduceIte, ilt_t, ilt_f, ile_t, ile_f, ieq_t, ieq_f, jb_T, jb_F, jb_t, jb_f]
    exact hQ.x (by decide) c hM1 _
theorem r_knowers (hM : MS μ m A) (hi : INV A) {n : Int} (n1 : -2147483648 ≤ n) (n2 : n < 2147483648) (hQ : RQ μ m Q (A, oc1 (isl A.1.1 A.1.2.1 A.1.2.2.1 n = true) (cntz (fun k => hol A.1.2.2.2 A.2.1 k n) 0 A.1.2.2.1.toNat 0))) : s_X9_knowers μ [.ref m, .int (ji n)] Q X := by
  have hS := hM.1
  have hB := hi.1.1.1
  have hz := hB.z
  have hw := hB.1
  have hbz := hB.2.1
  rw [u_X9_knowers]
  refine ⟨RS_0 hS, ?_⟩
  obtain ⟨hS1, hR1, hM1, h0, c⟩ := hM.nul hi
  generalize sI μ 298 m (ji 0) = ν at *
  unfold oc1 at hQ
  by_cases hn : isl A.1.1 A.1.2.1 A.1.2.2.1 n = true
  · rw [if_pos hn] at hQ
    have hb := isl_b hB.g hn
    have hq := hQ.a c hM1 h0
    simp (disch := first | assumption | omega) only [RS_0, RS_1, RS_2, RS_3, RS_4, RS_5, RS_6, RS_7, RS_8, RS_9, RS_10, RS_11, RS_12, RS_13, RS_14, RS_15, RS_16, RS_17, RS_18, RS_19, RS_20, RS_21, RS_22, RS_23, RS_24, RS_25, RS_26, RS_27, RS_28, RS_29, RS_30, RS_31, RS_32, RS_33, RS_34, RS_35, RS_36, ji_add, ji_sub, ji_mul, ji_neg, ji_lit0, ji_ofNat, ji_lt, ji_le, ji_eq, ji_nat, ji_in, ji_rem, ji_div, jl_of, xl_lt, xl_gt, xl_eq, qV_at, qI_at, qJ_at, qD_at, qA_at, qA_no, nb0, nb1, cat_r, cat_i, Option.some.injEq, exists_eq_left', true_and, and_true, if_true, if_false, ite_not, not_true_eq_false, not_false_eq_true, Sum.inr.injEq, exists_eq_right', true_or, or_true, and_self, Int.cast_ofNat_Int, reduceCtorEq, or_false, false_or, false_and, and_false, jb_zero, lt7_0, lt7_1, lt7_2, lt7_3, lt7_4, lt7_5, lt7_6, c_X9_knowers_1, c_X9_knowers_2, c_X9_knowers_3, c_X9_knowers_4, c_X9_knowers_5, f_isLink hS1 hR1 hz, hn, g_t0 hS1, ↓reduceIte, ilt_t, ilt_f, ile_t, ile_f, ieq_t, ieq_f, jb_T, jb_F, jb_t, jb_f]
    rw [g_knowers hS1 hR1 hz hB hb.1 hb.2]
    exact hq
  · rw [if_neg hn] at hQ
    simp (disch := first | assumption | omega) only [RS_0, RS_1, RS_2, RS_3, RS_4, RS_5, RS_6, RS_7, RS_8, RS_9, RS_10, RS_11, RS_12, RS_13, RS_14, RS_15, RS_16, RS_17, RS_18, RS_19, RS_20, RS_21, RS_22, RS_23, RS_24, RS_25, RS_26, RS_27, RS_28, RS_29, RS_30, RS_31, RS_32, RS_33, RS_34, RS_35, RS_36, ji_add, ji_sub, ji_mul, ji_neg, ji_lit0, ji_ofNat, ji_lt, ji_le, ji_eq, ji_nat, ji_in, ji_rem, ji_div, jl_of, xl_lt, xl_gt, xl_eq, qV_at, qI_at, qJ_at, qD_at, qA_at, qA_no, nb0, nb1, cat_r, cat_i, Option.some.injEq, exists_eq_left', true_and, and_true, if_true, if_false, ite_not, not_true_eq_false, not_false_eq_true, Sum.inr.injEq, exists_eq_right', true_or, or_true, and_self, Int.cast_ofNat_Int, reduceCtorEq, or_false, false_or, false_and, and_false, jb_zero, lt7_0, lt7_1, lt7_2, lt7_3, lt7_4, lt7_5, lt7_6, c_X9_knowers_1, c_X9_knowers_2, c_X9_knowers_3, c_X9_knowers_4, c_X9_knowers_5, f_isLink hS1 hR1 hz, jb_eqf hn, g_t1 hS1, ↓reduceIte, ilt_t, ilt_f, ile_t, ile_f, ieq_t, ieq_f, jb_T, jb_F, jb_t, jb_f]
    exact hQ.x (by decide) c hM1 _
theorem r_wrongLessons (hM : MS μ m A) (hi : INV A) {n : Int} (n1 : -2147483648 ≤ n) (n2 : n < 2147483648) (hQ : RQ μ m Q (A, oc1 (0 ≤ n ∧ n < A.1.2.2.1) (cntz (lsn A.1.2.2.2 A.2.1 1 n) 0 72 0))) : s_X9_wrongLessons μ [.ref m, .int (ji n)] Q X := by
  have hS := hM.1
  have hB := hi.1.1.1
  have hz := hB.z
  have hw := hB.1
  have hbz := hB.2.1
  rw [u_X9_wrongLessons]
  refine ⟨RS_0 hS, ?_⟩
  obtain ⟨hS1, hR1, hM1, h0, c⟩ := hM.nul hi
  generalize sI μ 298 m (ji 0) = ν at *
  unfold oc1 at hQ
  by_cases hn : 0 ≤ n ∧ n < A.1.2.2.1
  · rw [if_pos hn] at hQ
    have hq := hQ.a c hM1 h0
    simp (disch := first | assumption | omega) only [RS_0, RS_1, RS_2, RS_3, RS_4, RS_5, RS_6, RS_7, RS_8, RS_9, RS_10, RS_11, RS_12, RS_13, RS_14, RS_15, RS_16, RS_17, RS_18, RS_19, RS_20, RS_21, RS_22, RS_23, RS_24, RS_25, RS_26, RS_27, RS_28, RS_29, RS_30, RS_31, RS_32, RS_33, RS_34, RS_35, RS_36, ji_add, ji_sub, ji_mul, ji_neg, ji_lit0, ji_ofNat, ji_lt, ji_le, ji_eq, ji_nat, ji_in, ji_rem, ji_div, jl_of, xl_lt, xl_gt, xl_eq, qV_at, qI_at, qJ_at, qD_at, qA_at, qA_no, nb0, nb1, cat_r, cat_i, Option.some.injEq, exists_eq_left', true_and, and_true, if_true, if_false, ite_not, not_true_eq_false, not_false_eq_true, Sum.inr.injEq, exists_eq_right', true_or, or_true, and_self, Int.cast_ofNat_Int, reduceCtorEq, or_false, false_or, false_and, and_false, jb_zero, lt7_0, lt7_1, lt7_2, lt7_3, lt7_4, lt7_5, lt7_6, c_X9_wrongLessons_1, c_X9_wrongLessons_2, c_X9_wrongLessons_3, c_X9_wrongLessons_4, c_X9_wrongLessons_5, g_isNode hS1 hR1 hi, hn, g_t0 hS1, ↓reduceIte, ilt_t, ilt_f, ile_t, ile_f, ieq_t, ieq_f, jb_T, jb_F, jb_t, jb_f]
    rw [g_wrongLessons hS1 hR1 hB hn.1 (by omega)]
    exact hq
  · rw [if_neg hn] at hQ
    simp (disch := first | assumption | omega) only [RS_0, RS_1, RS_2, RS_3, RS_4, RS_5, RS_6, RS_7, RS_8, RS_9, RS_10, RS_11, RS_12, RS_13, RS_14, RS_15, RS_16, RS_17, RS_18, RS_19, RS_20, RS_21, RS_22, RS_23, RS_24, RS_25, RS_26, RS_27, RS_28, RS_29, RS_30, RS_31, RS_32, RS_33, RS_34, RS_35, RS_36, ji_add, ji_sub, ji_mul, ji_neg, ji_lit0, ji_ofNat, ji_lt, ji_le, ji_eq, ji_nat, ji_in, ji_rem, ji_div, jl_of, xl_lt, xl_gt, xl_eq, qV_at, qI_at, qJ_at, qD_at, qA_at, qA_no, nb0, nb1, cat_r, cat_i, Option.some.injEq, exists_eq_left', true_and, and_true, if_true, if_false, ite_not, not_true_eq_false, not_false_eq_true, Sum.inr.injEq, exists_eq_right', true_or, or_true, and_self, Int.cast_ofNat_Int, reduceCtorEq, or_false, false_or, false_and, and_false, jb_zero, lt7_0, lt7_1, lt7_2, lt7_3, lt7_4, lt7_5, lt7_6, c_X9_wrongLessons_1, c_X9_wrongLessons_2, c_X9_wrongLessons_3, c_X9_wrongLessons_4, c_X9_wrongLessons_5, g_isNode hS1 hR1 hi, jb_eqf hn, g_t1 hS1, ↓reduceIte, ilt_t, ilt_f, ile_t, ile_f, ieq_t, ieq_f, jb_T, jb_F, jb_t, jb_f]
    exact hQ.x (by decide) c hM1 _
theorem r_packetsAt (hM : MS μ m A) (hi : INV A) {n : Int} (n1 : -2147483648 ≤ n) (n2 : n < 2147483648) (hQ : RQ μ m Q (A, oc1 (0 ≤ n ∧ n < A.1.2.2.1) ((foldz (fun k x => if (act A.2.1 k && decide (A.2.1 ((2666 + 120 * k) + 4) = n)) = true then x ||| jshl (ji 1) (ji k) else x) 0 (A.2.1 1).toNat (ji 0)).toInt))) : s_X9_packetsAt μ [.ref m, .int (ji n)] Q X := by
  have hS := hM.1
  have hB := hi.1.1.1
  have hz := hB.z
  have hw := hB.1
  have hbz := hB.2.1
  rw [u_X9_packetsAt]
  refine ⟨RS_0 hS, ?_⟩
  obtain ⟨hS1, hR1, hM1, h0, c⟩ := hM.nul hi
  generalize sI μ 298 m (ji 0) = ν at *
  unfold oc1 at hQ
  by_cases hn : 0 ≤ n ∧ n < A.1.2.2.1
  · rw [if_pos hn] at hQ
    have hq := hQ.a c hM1 h0
    rw [← ji_of] at hq
    simp (disch := first | assumption | omega) only [RS_0, RS_1, RS_2, RS_3, RS_4, RS_5, RS_6, RS_7, RS_8, RS_9, RS_10, RS_11, RS_12, RS_13, RS_14, RS_15, RS_16, RS_17, RS_18, RS_19, RS_20, RS_21, RS_22, RS_23, RS_24, RS_25, RS_26, RS_27, RS_28, RS_29, RS_30, RS_31, RS_32, RS_33, RS_34, RS_35, RS_36, ji_add, ji_sub, ji_mul, ji_neg, ji_lit0, ji_ofNat, ji_lt, ji_le, ji_eq, ji_nat, ji_in, ji_rem, ji_div, jl_of, xl_lt, xl_gt, xl_eq, qV_at, qI_at, qJ_at, qD_at, qA_at, qA_no, nb0, nb1, cat_r, cat_i, Option.some.injEq, exists_eq_left', true_and, and_true, if_true, if_false, ite_not, not_true_eq_false, not_false_eq_true, Sum.inr.injEq, exists_eq_right', true_or, or_true, and_self, Int.cast_ofNat_Int, reduceCtorEq, or_false, false_or, false_and, and_false, jb_zero, lt7_0, lt7_1, lt7_2, lt7_3, lt7_4, lt7_5, lt7_6, c_X9_packetsAt_1, c_X9_packetsAt_2, c_X9_packetsAt_3, c_X9_packetsAt_4, c_X9_packetsAt_5, g_isNode hS1 hR1 hi, hn, g_t0 hS1, ↓reduceIte, ilt_t, ilt_f, ile_t, ile_f, ieq_t, ieq_f, jb_T, jb_F, jb_t, jb_f]
    rw [g_packetsAt hS1 hR1 hB hn.1 (by omega)]
    exact hq
  · rw [if_neg hn] at hQ
    simp (disch := first | assumption | omega) only [RS_0, RS_1, RS_2, RS_3, RS_4, RS_5, RS_6, RS_7, RS_8, RS_9, RS_10, RS_11, RS_12, RS_13, RS_14, RS_15, RS_16, RS_17, RS_18, RS_19, RS_20, RS_21, RS_22, RS_23, RS_24, RS_25, RS_26, RS_27, RS_28, RS_29, RS_30, RS_31, RS_32, RS_33, RS_34, RS_35, RS_36, ji_add, ji_sub, ji_mul, ji_neg, ji_lit0, ji_ofNat, ji_lt, ji_le, ji_eq, ji_nat, ji_in, ji_rem, ji_div, jl_of, xl_lt, xl_gt, xl_eq, qV_at, qI_at, qJ_at, qD_at, qA_at, qA_no, nb0, nb1, cat_r, cat_i, Option.some.injEq, exists_eq_left', true_and, and_true, if_true, if_false, ite_not, not_true_eq_false, not_false_eq_true, Sum.inr.injEq, exists_eq_right', true_or, or_true, and_self, Int.cast_ofNat_Int, reduceCtorEq, or_false, false_or, false_and, and_false, jb_zero, lt7_0, lt7_1, lt7_2, lt7_3, lt7_4, lt7_5, lt7_6, c_X9_packetsAt_1, c_X9_packetsAt_2, c_X9_packetsAt_3, c_X9_packetsAt_4, c_X9_packetsAt_5, g_isNode hS1 hR1 hi, jb_eqf hn, g_t1 hS1, ↓reduceIte, ilt_t, ilt_f, ile_t, ile_f, ieq_t, ieq_f, jb_T, jb_F, jb_t, jb_f]
    exact hQ.x (by decide) c hM1 _
theorem r_packetsTo (hM : MS μ m A) (hi : INV A) {n : Int} (n1 : -2147483648 ≤ n) (n2 : n < 2147483648) (hQ : RQ μ m Q (A, oc1 (0 ≤ n ∧ n < A.1.2.2.1) ((pin A.2.1 1 n).toInt))) : s_X9_packetsTo μ [.ref m, .int (ji n)] Q X := by
  have hS := hM.1
  have hB := hi.1.1.1
  have hz := hB.z
  have hw := hB.1
  have hbz := hB.2.1
  rw [u_X9_packetsTo]
  refine ⟨RS_0 hS, ?_⟩
  obtain ⟨hS1, hR1, hM1, h0, c⟩ := hM.nul hi
  generalize sI μ 298 m (ji 0) = ν at *
  unfold oc1 at hQ
  by_cases hn : 0 ≤ n ∧ n < A.1.2.2.1
  · rw [if_pos hn] at hQ
    have hq := hQ.a c hM1 h0
    rw [← ji_of] at hq
    simp (disch := first | assumption | omega) only [RS_0, RS_1, RS_2, RS_3, RS_4, RS_5, RS_6, RS_7, RS_8, RS_9, RS_10, RS_11, RS_12, RS_13, RS_14, RS_15, RS_16, RS_17, RS_18, RS_19, RS_20, RS_21, RS_22, RS_23, RS_24, RS_25, RS_26, RS_27, RS_28, RS_29, RS_30, RS_31, RS_32, RS_33, RS_34, RS_35, RS_36, ji_add, ji_sub, ji_mul, ji_neg, ji_lit0, ji_ofNat, ji_lt, ji_le, ji_eq, ji_nat, ji_in, ji_rem, ji_div, jl_of, xl_lt, xl_gt, xl_eq, qV_at, qI_at, qJ_at, qD_at, qA_at, qA_no, nb0, nb1, cat_r, cat_i, Option.some.injEq, exists_eq_left', true_and, and_true, if_true, if_false, ite_not, not_true_eq_false, not_false_eq_true, Sum.inr.injEq, exists_eq_right', true_or, or_true, and_self, Int.cast_ofNat_Int, reduceCtorEq, or_false, false_or, false_and, and_false, jb_zero, lt7_0, lt7_1, lt7_2, lt7_3, lt7_4, lt7_5, lt7_6, c_X9_packetsTo_1, c_X9_packetsTo_2, c_X9_packetsTo_3, c_X9_packetsTo_4, g_isNode hS1 hR1 hi, hn, g_t0 hS1, ↓reduceIte, ilt_t, ilt_f, ile_t, ile_f, ieq_t, ieq_f, jb_T, jb_F, jb_t, jb_f]
    rw [g_packetsTo hS1 hR1 hB hn.1 (by omega)]
    exact hq
  · rw [if_neg hn] at hQ
    simp (disch := first | assumption | omega) only [RS_0, RS_1, RS_2, RS_3, RS_4, RS_5, RS_6, RS_7, RS_8, RS_9, RS_10, RS_11, RS_12, RS_13, RS_14, RS_15, RS_16, RS_17, RS_18, RS_19, RS_20, RS_21, RS_22, RS_23, RS_24, RS_25, RS_26, RS_27, RS_28, RS_29, RS_30, RS_31, RS_32, RS_33, RS_34, RS_35, RS_36, ji_add, ji_sub, ji_mul, ji_neg, ji_lit0, ji_ofNat, ji_lt, ji_le, ji_eq, ji_nat, ji_in, ji_rem, ji_div, jl_of, xl_lt, xl_gt, xl_eq, qV_at, qI_at, qJ_at, qD_at, qA_at, qA_no, nb0, nb1, cat_r, cat_i, Option.some.injEq, exists_eq_left', true_and, and_true, if_true, if_false, ite_not, not_true_eq_false, not_false_eq_true, Sum.inr.injEq, exists_eq_right', true_or, or_true, and_self, Int.cast_ofNat_Int, reduceCtorEq, or_false, false_or, false_and, and_false, jb_zero, lt7_0, lt7_1, lt7_2, lt7_3, lt7_4, lt7_5, lt7_6, c_X9_packetsTo_1, c_X9_packetsTo_2, c_X9_packetsTo_3, c_X9_packetsTo_4, g_isNode hS1 hR1 hi, jb_eqf hn, g_t1 hS1, ↓reduceIte, ilt_t, ilt_f, ile_t, ile_f, ieq_t, ieq_f, jb_T, jb_F, jb_t, jb_f]
    exact hQ.x (by decide) c hM1 _
theorem r_packetsIn (hM : MS μ m A) (hi : INV A) {n : Int} (n1 : -2147483648 ≤ n) (n2 : n < 2147483648) (hQ : RQ μ m Q (A, oc1 (0 ≤ n ∧ n ≤ 5) ((pin A.2.1 3 n).toInt))) : s_X9_packetsIn μ [.ref m, .int (ji n)] Q X := by
  have hS := hM.1
  have hB := hi.1.1.1
  have hz := hB.z
  have hw := hB.1
  have hbz := hB.2.1
  rw [u_X9_packetsIn]
  refine ⟨RS_0 hS, ?_⟩
  obtain ⟨hS1, hR1, hM1, h0, c⟩ := hM.nul hi
  generalize sI μ 298 m (ji 0) = ν at *
  unfold oc1 at hQ
  by_cases hn : 0 ≤ n ∧ n ≤ 5
  · rw [if_pos hn] at hQ
    have hq := hQ.a c hM1 h0
    rw [← ji_of] at hq
    simp (disch := first | assumption | omega) only [RS_0, RS_1, RS_2, RS_3, RS_4, RS_5, RS_6, RS_7, RS_8, RS_9, RS_10, RS_11, RS_12, RS_13, RS_14, RS_15, RS_16, RS_17, RS_18, RS_19, RS_20, RS_21, RS_22, RS_23, RS_24, RS_25, RS_26, RS_27, RS_28, RS_29, RS_30, RS_31, RS_32, RS_33, RS_34, RS_35, RS_36, ji_add, ji_sub, ji_mul, ji_neg, ji_lit0, ji_ofNat, ji_lt, ji_le, ji_eq, ji_nat, ji_in, ji_rem, ji_div, jl_of, xl_lt, xl_gt, xl_eq, qV_at, qI_at, qJ_at, qD_at, qA_at, qA_no, nb0, nb1, cat_r, cat_i, Option.some.injEq, exists_eq_left', true_and, and_true, if_true, if_false, ite_not, not_true_eq_false, not_false_eq_true, Sum.inr.injEq, exists_eq_right', true_or, or_true, and_self, Int.cast_ofNat_Int, reduceCtorEq, or_false, false_or, false_and, and_false, jb_zero, lt7_0, lt7_1, lt7_2, lt7_3, lt7_4, lt7_5, lt7_6, c_X9_packetsIn_1, c_X9_packetsIn_2, c_X9_packetsIn_3, c_X9_packetsIn_4, f_inRange, hn, g_t0 hS1, ↓reduceIte, ilt_t, ilt_f, ile_t, ile_f, ieq_t, ieq_f, jb_T, jb_F, jb_t, jb_f]
    rw [g_packetsIn hS1 hR1 hB hn.1 hn.2]
    exact hq
  · rw [if_neg hn] at hQ
    simp (disch := first | assumption | omega) only [RS_0, RS_1, RS_2, RS_3, RS_4, RS_5, RS_6, RS_7, RS_8, RS_9, RS_10, RS_11, RS_12, RS_13, RS_14, RS_15, RS_16, RS_17, RS_18, RS_19, RS_20, RS_21, RS_22, RS_23, RS_24, RS_25, RS_26, RS_27, RS_28, RS_29, RS_30, RS_31, RS_32, RS_33, RS_34, RS_35, RS_36, ji_add, ji_sub, ji_mul, ji_neg, ji_lit0, ji_ofNat, ji_lt, ji_le, ji_eq, ji_nat, ji_in, ji_rem, ji_div, jl_of, xl_lt, xl_gt, xl_eq, qV_at, qI_at, qJ_at, qD_at, qA_at, qA_no, nb0, nb1, cat_r, cat_i, Option.some.injEq, exists_eq_left', true_and, and_true, if_true, if_false, ite_not, not_true_eq_false, not_false_eq_true, Sum.inr.injEq, exists_eq_right', true_or, or_true, and_self, Int.cast_ofNat_Int, reduceCtorEq, or_false, false_or, false_and, and_false, jb_zero, lt7_0, lt7_1, lt7_2, lt7_3, lt7_4, lt7_5, lt7_6, c_X9_packetsIn_1, c_X9_packetsIn_2, c_X9_packetsIn_3, c_X9_packetsIn_4, f_inRange, jb_eqf hn, g_t1 hS1, ↓reduceIte, ilt_t, ilt_f, ile_t, ile_f, ieq_t, ieq_f, jb_T, jb_F, jb_t, jb_f]
    exact hQ.x (by decide) c hM1 _
theorem r_unvisited (hM : MS μ m A) (hi : INV A) {n : Int} (n1 : -2147483648 ≤ n) (n2 : n < 2147483648) (hQ : RQ μ m Q (A, oc1 (0 ≤ n) (unf A.2.1 A.1.2.2.1 n))) : s_X9_unvisited μ [.ref m, .int (ji n)] Q X := by
  have hS := hM.1
  have hB := hi.1.1.1
  have hz := hB.z
  have hw := hB.1
  have hbz := hB.2.1
  rw [u_X9_unvisited]
  refine ⟨RS_0 hS, ?_⟩
  obtain ⟨hS1, hR1, hM1, h0, c⟩ := hM.nul hi
  generalize sI μ 298 m (ji 0) = ν at *
  unfold oc1 at hQ
  by_cases hn : 0 ≤ n
  · rw [if_pos hn] at hQ
    have hq := hQ.a c hM1 h0
    simp (disch := first | assumption | omega) only [RS_0, RS_1, RS_2, RS_3, RS_4, RS_5, RS_6, RS_7, RS_8, RS_9, RS_10, RS_11, RS_12, RS_13, RS_14, RS_15, RS_16, RS_17, RS_18, RS_19, RS_20, RS_21, RS_22, RS_23, RS_24, RS_25, RS_26, RS_27, RS_28, RS_29, RS_30, RS_31, RS_32, RS_33, RS_34, RS_35, RS_36, ji_add, ji_sub, ji_mul, ji_neg, ji_lit0, ji_ofNat, ji_lt, ji_le, ji_eq, ji_nat, ji_in, ji_rem, ji_div, jl_of, xl_lt, xl_gt, xl_eq, qV_at, qI_at, qJ_at, qD_at, qA_at, qA_no, nb0, nb1, cat_r, cat_i, Option.some.injEq, exists_eq_left', true_and, and_true, if_true, if_false, ite_not, not_true_eq_false, not_false_eq_true, Sum.inr.injEq, exists_eq_right', true_or, or_true, and_self, Int.cast_ofNat_Int, reduceCtorEq, or_false, false_or, false_and, and_false, jb_zero, lt7_0, lt7_1, lt7_2, lt7_3, lt7_4, lt7_5, lt7_6, c_X9_unvisited_1, c_X9_unvisited_2, c_X9_unvisited_3, c_X9_unvisited_4, jb_T, hn, g_t0 hS1, ↓reduceIte, ilt_t, ilt_f, ile_t, ile_f, ieq_t, ieq_f, jb_T, jb_F, jb_t, jb_f]
    rw [g_unvisited hS1 hR1 hz hB hn n2]
    exact hq
  · rw [if_neg hn] at hQ
    simp (disch := first | assumption | omega) only [RS_0, RS_1, RS_2, RS_3, RS_4, RS_5, RS_6, RS_7, RS_8, RS_9, RS_10, RS_11, RS_12, RS_13, RS_14, RS_15, RS_16, RS_17, RS_18, RS_19, RS_20, RS_21, RS_22, RS_23, RS_24, RS_25, RS_26, RS_27, RS_28, RS_29, RS_30, RS_31, RS_32, RS_33, RS_34, RS_35, RS_36, ji_add, ji_sub, ji_mul, ji_neg, ji_lit0, ji_ofNat, ji_lt, ji_le, ji_eq, ji_nat, ji_in, ji_rem, ji_div, jl_of, xl_lt, xl_gt, xl_eq, qV_at, qI_at, qJ_at, qD_at, qA_at, qA_no, nb0, nb1, cat_r, cat_i, Option.some.injEq, exists_eq_left', true_and, and_true, if_true, if_false, ite_not, not_true_eq_false, not_false_eq_true, Sum.inr.injEq, exists_eq_right', true_or, or_true, and_self, Int.cast_ofNat_Int, reduceCtorEq, or_false, false_or, false_and, and_false, jb_zero, lt7_0, lt7_1, lt7_2, lt7_3, lt7_4, lt7_5, lt7_6, c_X9_unvisited_1, c_X9_unvisited_2, c_X9_unvisited_3, c_X9_unvisited_4, jb_T, jb_F, g_t1 hS1, ↓reduceIte, ilt_t, ilt_f, ile_t, ile_f, ieq_t, ieq_f, jb_T, jb_F, jb_t, jb_f]
    exact hQ.x (by decide) c hM1 _
theorem r_healed (hM : MS μ m A) (hi : INV A) {n : Int} (n1 : -2147483648 ≤ n) (n2 : n < 2147483648) (hQ : RQ μ m Q (A, oc1 (0 ≤ n ∧ n < A.2.1 1) (cntz (fun l => decide (A.2.1 (2666 + 120 * n + 47 + l) ≠ -1 ∧ A.2.1 (2 + l) = 0)) 0 72 0))) : s_X9_healed μ [.ref m, .int (ji n)] Q X := by
  have hS := hM.1
  have hB := hi.1.1.1
  have hz := hB.z
  have hw := hB.1
  have hbz := hB.2.1
  rw [u_X9_healed]
  refine ⟨RS_0 hS, ?_⟩
  obtain ⟨hS1, hR1, hM1, h0, c⟩ := hM.nul hi
  generalize sI μ 298 m (ji 0) = ν at *
  unfold oc1 at hQ
  by_cases hn : 0 ≤ n ∧ n < A.2.1 1
  · rw [if_pos hn] at hQ
    have hq := hQ.a c hM1 h0
    simp (disch := first | assumption | omega) only [RS_0, RS_1, RS_2, RS_3, RS_4, RS_5, RS_6, RS_7, RS_8, RS_9, RS_10, RS_11, RS_12, RS_13, RS_14, RS_15, RS_16, RS_17, RS_18, RS_19, RS_20, RS_21, RS_22, RS_23, RS_24, RS_25, RS_26, RS_27, RS_28, RS_29, RS_30, RS_31, RS_32, RS_33, RS_34, RS_35, RS_36, ji_add, ji_sub, ji_mul, ji_neg, ji_lit0, ji_ofNat, ji_lt, ji_le, ji_eq, ji_nat, ji_in, ji_rem, ji_div, jl_of, xl_lt, xl_gt, xl_eq, qV_at, qI_at, qJ_at, qD_at, qA_at, qA_no, nb0, nb1, cat_r, cat_i, Option.some.injEq, exists_eq_left', true_and, and_true, if_true, if_false, ite_not, not_true_eq_false, not_false_eq_true, Sum.inr.injEq, exists_eq_right', true_or, or_true, and_self, Int.cast_ofNat_Int, reduceCtorEq, or_false, false_or, false_and, and_false, jb_zero, lt7_0, lt7_1, lt7_2, lt7_3, lt7_4, lt7_5, lt7_6, c_X9_healed_1, c_X9_healed_2, c_X9_healed_3, c_X9_healed_4, c_X9_healed_5, g_isPacket hS1 hR1 hi, hn, g_t0 hS1, ↓reduceIte, ilt_t, ilt_f, ile_t, ile_f, ieq_t, ieq_f, jb_T, jb_F, jb_t, jb_f]
    rw [g_healed hS1 hR1 hB hn.1 hn.2]
    exact hq
  · rw [if_neg hn] at hQ
    simp (disch := first | assumption | omega) only [RS_0, RS_1, RS_2, RS_3, RS_4, RS_5, RS_6, RS_7, RS_8, RS_9, RS_10, RS_11, RS_12, RS_13, RS_14, RS_15, RS_16, RS_17, RS_18, RS_19, RS_20, RS_21, RS_22, RS_23, RS_24, RS_25, RS_26, RS_27, RS_28, RS_29, RS_30, RS_31, RS_32, RS_33, RS_34, RS_35, RS_36, ji_add, ji_sub, ji_mul, ji_neg, ji_lit0, ji_ofNat, ji_lt, ji_le, ji_eq, ji_nat, ji_in, ji_rem, ji_div, jl_of, xl_lt, xl_gt, xl_eq, qV_at, qI_at, qJ_at, qD_at, qA_at, qA_no, nb0, nb1, cat_r, cat_i, Option.some.injEq, exists_eq_left', true_and, and_true, if_true, if_false, ite_not, not_true_eq_false, not_false_eq_true, Sum.inr.injEq, exists_eq_right', true_or, or_true, and_self, Int.cast_ofNat_Int, reduceCtorEq, or_false, false_or, false_and, and_false, jb_zero, lt7_0, lt7_1, lt7_2, lt7_3, lt7_4, lt7_5, lt7_6, c_X9_healed_1, c_X9_healed_2, c_X9_healed_3, c_X9_healed_4, c_X9_healed_5, g_isPacket hS1 hR1 hi, jb_eqf hn, g_t1 hS1, ↓reduceIte, ilt_t, ilt_f, ile_t, ile_f, ieq_t, ieq_f, jb_T, jb_F, jb_t, jb_f]
    exact hQ.x (by decide) c hM1 _
theorem r_deadHome (hM : MS μ m A) (hi : INV A) {n : Int} (n1 : -2147483648 ≤ n) (n2 : n < 2147483648) (hQ : RQ μ m Q (A, oc1 (0 ≤ n ∧ n < A.2.1 1) (dhm A.1.1 A.2.1 (2666 + 120 * n) (A.2.1 (2666 + 120 * n + 6) - 1).toNat))) : s_X9_deadHome μ [.ref m, .int (ji n)] Q X := by
  have hS := hM.1
  have hB := hi.1.1.1
  have hz := hB.z
  have hw := hB.1
  have hbz := hB.2.1
  rw [u_X9_deadHome]
  refine ⟨RS_0 hS, ?_⟩
  obtain ⟨hS1, hR1, hM1, h0, c⟩ := hM.nul hi
  generalize sI μ 298 m (ji 0) = ν at *
  unfold oc1 at hQ
  by_cases hn : 0 ≤ n ∧ n < A.2.1 1
  · rw [if_pos hn] at hQ
    have hb := (BD_p hB n hn.1 hn.2).1
    have hof := fun Q X => f_of (Q := Q) (X := X) hS1 hR1 hn.1 (show n < 25 by omega) (j := 6) (by omega) (by omega)
    have hk := fun mf => g_deadHome (Q := Q) (X := X) hS1 hR1 hz hi.1.1 hn.1 hn.2 (A.2.1 (2666 + 120 * n + 6) - 1).toNat mf
    rw [Int.toNat_of_nonneg (by omega)] at hk
    have hq := hQ.a c hM1 h0
    simp (disch := first | assumption | omega) only [RS_0, RS_1, RS_2, RS_3, RS_4, RS_5, RS_6, RS_7, RS_8, RS_9, RS_10, RS_11, RS_12, RS_13, RS_14, RS_15, RS_16, RS_17, RS_18, RS_19, RS_20, RS_21, RS_22, RS_23, RS_24, RS_25, RS_26, RS_27, RS_28, RS_29, RS_30, RS_31, RS_32, RS_33, RS_34, RS_35, RS_36, ji_add, ji_sub, ji_mul, ji_neg, ji_lit0, ji_ofNat, ji_lt, ji_le, ji_eq, ji_nat, ji_in, ji_rem, ji_div, jl_of, xl_lt, xl_gt, xl_eq, qV_at, qI_at, qJ_at, qD_at, qA_at, qA_no, nb0, nb1, cat_r, cat_i, Option.some.injEq, exists_eq_left', true_and, and_true, if_true, if_false, ite_not, not_true_eq_false, not_false_eq_true, Sum.inr.injEq, exists_eq_right', true_or, or_true, and_self, Int.cast_ofNat_Int, reduceCtorEq, or_false, false_or, false_and, and_false, jb_zero, lt7_0, lt7_1, lt7_2, lt7_3, lt7_4, lt7_5, lt7_6, uj_X9_deadHome_19, c_X9_deadHome_1, c_X9_deadHome_2, c_X9_deadHome_3, uj_X9_deadHome_19, c_X9_deadHome_4, c_X9_deadHome_5, c_X9_deadHome_6, c_X9_deadHome_7, c_X9_deadHome_8, g_isPacket hS1 hR1 hi, hn, g_t0 hS1, hof, ↓reduceIte, ilt_t, ilt_f, ile_t, ile_f, ieq_t, ieq_f, jb_T, jb_F, jb_t, jb_f]
    rw [l_X9_deadHome_38, xseal_eq, hk 10000 (by omega) (by omega)]
    exact hq
  · rw [if_neg hn] at hQ
    simp (disch := first | assumption | omega) only [RS_0, RS_1, RS_2, RS_3, RS_4, RS_5, RS_6, RS_7, RS_8, RS_9, RS_10, RS_11, RS_12, RS_13, RS_14, RS_15, RS_16, RS_17, RS_18, RS_19, RS_20, RS_21, RS_22, RS_23, RS_24, RS_25, RS_26, RS_27, RS_28, RS_29, RS_30, RS_31, RS_32, RS_33, RS_34, RS_35, RS_36, ji_add, ji_sub, ji_mul, ji_neg, ji_lit0, ji_ofNat, ji_lt, ji_le, ji_eq, ji_nat, ji_in, ji_rem, ji_div, jl_of, xl_lt, xl_gt, xl_eq, qV_at, qI_at, qJ_at, qD_at, qA_at, qA_no, nb0, nb1, cat_r, cat_i, Option.some.injEq, exists_eq_left', true_and, and_true, if_true, if_false, ite_not, not_true_eq_false, not_false_eq_true, Sum.inr.injEq, exists_eq_right', true_or, or_true, and_self, Int.cast_ofNat_Int, reduceCtorEq, or_false, false_or, false_and, and_false, jb_zero, lt7_0, lt7_1, lt7_2, lt7_3, lt7_4, lt7_5, lt7_6, uj_X9_deadHome_19, c_X9_deadHome_1, c_X9_deadHome_2, c_X9_deadHome_3, uj_X9_deadHome_19, c_X9_deadHome_4, c_X9_deadHome_5, c_X9_deadHome_6, c_X9_deadHome_7, c_X9_deadHome_8, g_isPacket hS1 hR1 hi, jb_eqf hn, g_t1 hS1, ↓reduceIte, ilt_t, ilt_f, ile_t, ile_f, ieq_t, ieq_f, jb_T, jb_F, jb_t, jb_f]
    exact hQ.x (by decide) c hM1 _
theorem r_packet (hM : MS μ m A) (hi : INV A) {n k : Int} (n1 : -2147483648 ≤ n) (n2 : n < 2147483648) (k1 : -2147483648 ≤ k) (k2 : k < 2147483648) (hQ : RQ μ m Q (A, oc1 (0 ≤ n ∧ n < A.2.1 1) (prp A.1.2.2.1 A.2.1 (2666 + 120 * n) k))) : s_X9_packet μ [.ref m, .int (ji n), .int (ji k)] Q X := by
  have hS := hM.1
  have hB := hi.1.1.1
  have hz := hB.z
  have hw := hB.1
  have hbz := hB.2.1
  rw [u_X9_packet]
  refine ⟨RS_0 hS, ?_⟩
  obtain ⟨hS1, hR1, hM1, h0, c⟩ := hM.nul hi
  generalize sI μ 298 m (ji 0) = ν at *
  unfold oc1 at hQ
  by_cases hn : 0 ≤ n ∧ n < A.2.1 1
  · rw [if_pos hn] at hQ
    have hof0 := fun Q X => f_of (Q := Q) (X := X) hS1 hR1 hn.1 (show n < 25 by omega) (j := 0) (by omega) (by omega)
    have hof1 := fun Q X => f_of (Q := Q) (X := X) hS1 hR1 hn.1 (show n < 25 by omega) (j := 1) (by omega) (by omega)
    have hof2 := fun Q X => f_of (Q := Q) (X := X) hS1 hR1 hn.1 (show n < 25 by omega) (j := 2) (by omega) (by omega)
    have hof3 := fun Q X => f_of (Q := Q) (X := X) hS1 hR1 hn.1 (show n < 25 by omega) (j := 3) (by omega) (by omega)
    have hof4 := fun Q X => f_of (Q := Q) (X := X) hS1 hR1 hn.1 (show n < 25 by omega) (j := 4) (by omega) (by omega)
    have hof5 := fun Q X => f_of (Q := Q) (X := X) hS1 hR1 hn.1 (show n < 25 by omega) (j := 5) (by omega) (by omega)
    have hof6 := fun Q X => f_of (Q := Q) (X := X) hS1 hR1 hn.1 (show n < 25 by omega) (j := 6) (by omega) (by omega)
    have hof7 := fun Q X => f_of (Q := Q) (X := X) hS1 hR1 hn.1 (show n < 25 by omega) (j := 7) (by omega) (by omega)
    have hof8 := fun Q X => f_of (Q := Q) (X := X) hS1 hR1 hn.1 (show n < 25 by omega) (j := 8) (by omega) (by omega)
    have hq := hQ.a c hM1 h0
    unfold prp at hq
    have hk : k = 0 ∨ k = 1 ∨ k = 2 ∨ k = 3 ∨ k = 4 ∨ k = 5 ∨ k = 6 ∨ k = 7 ∨ k = 8 ∨ k = 9 ∨ k = 10 ∨ (k < 0 ∨ 10 < k) := by omega
    rcases hk with rfl | rfl | rfl | rfl | rfl | rfl | rfl | rfl | rfl | rfl | rfl | hk
    · simp (disch := first | assumption | omega) only [RS_0, RS_1, RS_2, RS_3, RS_4, RS_5, RS_6, RS_7, RS_8, RS_9, RS_10, RS_11, RS_12, RS_13, RS_14, RS_15, RS_16, RS_17, RS_18, RS_19, RS_20, RS_21, RS_22, RS_23, RS_24, RS_25, RS_26, RS_27, RS_28, RS_29, RS_30, RS_31, RS_32, RS_33, RS_34, RS_35, RS_36, ji_add, ji_sub, ji_mul, ji_neg, ji_lit0, ji_ofNat, ji_lt, ji_le, ji_eq, ji_nat, ji_in, ji_rem, ji_div, jl_of, xl_lt, xl_gt, xl_eq, qV_at, qI_at, qJ_at, qD_at, qA_at, qA_no, nb0, nb1, cat_r, cat_i, Option.some.injEq, exists_eq_left', true_and, and_true, if_true, if_false, ite_not, not_true_eq_false, not_false_eq_true, Sum.inr.injEq, exists_eq_right', true_or, or_true, and_self, Int.cast_ofNat_Int, reduceCtorEq, or_false, false_or, false_and, and_false, jb_zero, lt7_0, lt7_1, lt7_2, lt7_3, lt7_4, lt7_5, lt7_6, uj_X9_packet_19, c_X9_packet_1, c_X9_packet_2, c_X9_packet_3, c_X9_packet_4, c_X9_packet_5, c_X9_packet_6, c_X9_packet_7, c_X9_packet_8, c_X9_packet_9, c_X9_packet_10, c_X9_packet_11, c_X9_packet_12, c_X9_packet_13, uj_X9_packet_19, g_isPacket hS1 hR1 hi, hn, g_t0 hS1, hof0, Int.add_zero, ↓reduceIte, ilt_t, ilt_f, ile_t, ile_f, ieq_t, ieq_f, jb_T, jb_F, jb_t, jb_f]
      simpa using hq
    · simp (disch := first | assumption | omega) only [RS_0, RS_1, RS_2, RS_3, RS_4, RS_5, RS_6, RS_7, RS_8, RS_9, RS_10, RS_11, RS_12, RS_13, RS_14, RS_15, RS_16, RS_17, RS_18, RS_19, RS_20, RS_21, RS_22, RS_23, RS_24, RS_25, RS_26, RS_27, RS_28, RS_29, RS_30, RS_31, RS_32, RS_33, RS_34, RS_35, RS_36, ji_add, ji_sub, ji_mul, ji_neg, ji_lit0, ji_ofNat, ji_lt, ji_le, ji_eq, ji_nat, ji_in, ji_rem, ji_div, jl_of, xl_lt, xl_gt, xl_eq, qV_at, qI_at, qJ_at, qD_at, qA_at, qA_no, nb0, nb1, cat_r, cat_i, Option.some.injEq, exists_eq_left', true_and, and_true, if_true, if_false, ite_not, not_true_eq_false, not_false_eq_true, Sum.inr.injEq, exists_eq_right', true_or, or_true, and_self, Int.cast_ofNat_Int, reduceCtorEq, or_false, false_or, false_and, and_false, jb_zero, lt7_0, lt7_1, lt7_2, lt7_3, lt7_4, lt7_5, lt7_6, uj_X9_packet_19, c_X9_packet_1, c_X9_packet_2, c_X9_packet_3, c_X9_packet_4, c_X9_packet_5, c_X9_packet_6, c_X9_packet_7, c_X9_packet_8, c_X9_packet_9, c_X9_packet_10, c_X9_packet_11, c_X9_packet_12, c_X9_packet_13, uj_X9_packet_19, g_isPacket hS1 hR1 hi, hn, g_t0 hS1, hof1, Int.add_zero, ↓reduceIte, ilt_t, ilt_f, ile_t, ile_f, ieq_t, ieq_f, jb_T, jb_F, jb_t, jb_f]
      simpa using hq
    · simp (disch := first | assumption | omega) only [RS_0, RS_1, RS_2, RS_3, RS_4, RS_5, RS_6, RS_7, RS_8, RS_9, RS_10, RS_11, RS_12, RS_13, RS_14, RS_15, RS_16, RS_17, RS_18, RS_19, RS_20, RS_21, RS_22, RS_23, RS_24, RS_25, RS_26, RS_27, RS_28, RS_29, RS_30, RS_31, RS_32, RS_33, RS_34, RS_35, RS_36, ji_add, ji_sub, ji_mul, ji_neg, ji_lit0, ji_ofNat, ji_lt, ji_le, ji_eq, ji_nat, ji_in, ji_rem, ji_div, jl_of, xl_lt, xl_gt, xl_eq, qV_at, qI_at, qJ_at, qD_at, qA_at, qA_no, nb0, nb1, cat_r, cat_i, Option.some.injEq, exists_eq_left', true_and, and_true, if_true, if_false, ite_not, not_true_eq_false, not_false_eq_true, Sum.inr.injEq, exists_eq_right', true_or, or_true, and_self, Int.cast_ofNat_Int, reduceCtorEq, or_false, false_or, false_and, and_false, jb_zero, lt7_0, lt7_1, lt7_2, lt7_3, lt7_4, lt7_5, lt7_6, uj_X9_packet_19, c_X9_packet_1, c_X9_packet_2, c_X9_packet_3, c_X9_packet_4, c_X9_packet_5, c_X9_packet_6, c_X9_packet_7, c_X9_packet_8, c_X9_packet_9, c_X9_packet_10, c_X9_packet_11, c_X9_packet_12, c_X9_packet_13, uj_X9_packet_19, g_isPacket hS1 hR1 hi, hn, g_t0 hS1, hof2, Int.add_zero, ↓reduceIte, ilt_t, ilt_f, ile_t, ile_f, ieq_t, ieq_f, jb_T, jb_F, jb_t, jb_f]
      simpa using hq
    · simp (disch := first | assumption | omega) only [RS_0, RS_1, RS_2, RS_3, RS_4, RS_5, RS_6, RS_7, RS_8, RS_9, RS_10, RS_11, RS_12, RS_13, RS_14, RS_15, RS_16, RS_17, RS_18, RS_19, RS_20, RS_21, RS_22, RS_23, RS_24, RS_25, RS_26, RS_27, RS_28, RS_29, RS_30, RS_31, RS_32, RS_33, RS_34, RS_35, RS_36, ji_add, ji_sub, ji_mul, ji_neg, ji_lit0, ji_ofNat, ji_lt, ji_le, ji_eq, ji_nat, ji_in, ji_rem, ji_div, jl_of, xl_lt, xl_gt, xl_eq, qV_at, qI_at, qJ_at, qD_at, qA_at, qA_no, nb0, nb1, cat_r, cat_i, Option.some.injEq, exists_eq_left', true_and, and_true, if_true, if_false, ite_not, not_true_eq_false, not_false_eq_true, Sum.inr.injEq, exists_eq_right', true_or, or_true, and_self, Int.cast_ofNat_Int, reduceCtorEq, or_false, false_or, false_and, and_false, jb_zero, lt7_0, lt7_1, lt7_2, lt7_3, lt7_4, lt7_5, lt7_6, uj_X9_packet_19, c_X9_packet_1, c_X9_packet_2, c_X9_packet_3, c_X9_packet_4, c_X9_packet_5, c_X9_packet_6, c_X9_packet_7, c_X9_packet_8, c_X9_packet_9, c_X9_packet_10, c_X9_packet_11, c_X9_packet_12, c_X9_packet_13, uj_X9_packet_19, g_isPacket hS1 hR1 hi, hn, g_t0 hS1, hof3, Int.add_zero, ↓reduceIte, ilt_t, ilt_f, ile_t, ile_f, ieq_t, ieq_f, jb_T, jb_F, jb_t, jb_f]
      simpa using hq
    · simp (disch := first | assumption | omega) only [RS_0, RS_1, RS_2, RS_3, RS_4, RS_5, RS_6, RS_7, RS_8, RS_9, RS_10, RS_11, RS_12, RS_13, RS_14, RS_15, RS_16, RS_17, RS_18, RS_19, RS_20, RS_21, RS_22, RS_23, RS_24, RS_25, RS_26, RS_27, RS_28, RS_29, RS_30, RS_31, RS_32, RS_33, RS_34, RS_35, RS_36, ji_add, ji_sub, ji_mul, ji_neg, ji_lit0, ji_ofNat, ji_lt, ji_le, ji_eq, ji_nat, ji_in, ji_rem, ji_div, jl_of, xl_lt, xl_gt, xl_eq, qV_at, qI_at, qJ_at, qD_at, qA_at, qA_no, nb0, nb1, cat_r, cat_i, Option.some.injEq, exists_eq_left', true_and, and_true, if_true, if_false, ite_not, not_true_eq_false, not_false_eq_true, Sum.inr.injEq, exists_eq_right', true_or, or_true, and_self, Int.cast_ofNat_Int, reduceCtorEq, or_false, false_or, false_and, and_false, jb_zero, lt7_0, lt7_1, lt7_2, lt7_3, lt7_4, lt7_5, lt7_6, uj_X9_packet_19, c_X9_packet_1, c_X9_packet_2, c_X9_packet_3, c_X9_packet_4, c_X9_packet_5, c_X9_packet_6, c_X9_packet_7, c_X9_packet_8, c_X9_packet_9, c_X9_packet_10, c_X9_packet_11, c_X9_packet_12, c_X9_packet_13, uj_X9_packet_19, g_isPacket hS1 hR1 hi, hn, g_t0 hS1, hof4, Int.add_zero, ↓reduceIte, ilt_t, ilt_f, ile_t, ile_f, ieq_t, ieq_f, jb_T, jb_F, jb_t, jb_f]
      simpa using hq
    · simp (disch := first | assumption | omega) only [RS_0, RS_1, RS_2, RS_3, RS_4, RS_5, RS_6, RS_7, RS_8, RS_9, RS_10, RS_11, RS_12, RS_13, RS_14, RS_15, RS_16, RS_17, RS_18, RS_19, RS_20, RS_21, RS_22, RS_23, RS_24, RS_25, RS_26, RS_27, RS_28, RS_29, RS_30, RS_31, RS_32, RS_33, RS_34, RS_35, RS_36, ji_add, ji_sub, ji_mul, ji_neg, ji_lit0, ji_ofNat, ji_lt, ji_le, ji_eq, ji_nat, ji_in, ji_rem, ji_div, jl_of, xl_lt, xl_gt, xl_eq, qV_at, qI_at, qJ_at, qD_at, qA_at, qA_no, nb0, nb1, cat_r, cat_i, Option.some.injEq, exists_eq_left', true_and, and_true, if_true, if_false, ite_not, not_true_eq_false, not_false_eq_true, Sum.inr.injEq, exists_eq_right', true_or, or_true, and_self, Int.cast_ofNat_Int, reduceCtorEq, or_false, false_or, false_and, and_false, jb_zero, lt7_0, lt7_1, lt7_2, lt7_3, lt7_4, lt7_5, lt7_6, uj_X9_packet_19, c_X9_packet_1, c_X9_packet_2, c_X9_packet_3, c_X9_packet_4, c_X9_packet_5, c_X9_packet_6, c_X9_packet_7, c_X9_packet_8, c_X9_packet_9, c_X9_packet_10, c_X9_packet_11, c_X9_packet_12, c_X9_packet_13, uj_X9_packet_19, g_isPacket hS1 hR1 hi, hn, g_t0 hS1, hof5, Int.add_zero, ↓reduceIte, ilt_t, ilt_f, ile_t, ile_f, ieq_t, ieq_f, jb_T, jb_F, jb_t, jb_f]
      simpa using hq
    · simp (disch := first | assumption | omega) only [RS_0, RS_1, RS_2, RS_3, RS_4, RS_5, RS_6, RS_7, RS_8, RS_9, RS_10, RS_11, RS_12, RS_13, RS_14, RS_15, RS_16, RS_17, RS_18, RS_19, RS_20, RS_21, RS_22, RS_23, RS_24, RS_25, RS_26, RS_27, RS_28, RS_29, RS_30, RS_31, RS_32, RS_33, RS_34, RS_35, RS_36, ji_add, ji_sub, ji_mul, ji_neg, ji_lit0, ji_ofNat, ji_lt, ji_le, ji_eq, ji_nat, ji_in, ji_rem, ji_div, jl_of, xl_lt, xl_gt, xl_eq, qV_at, qI_at, qJ_at, qD_at, qA_at, qA_no, nb0, nb1, cat_r, cat_i, Option.some.injEq, exists_eq_left', true_and, and_true, if_true, if_false, ite_not, not_true_eq_false, not_false_eq_true, Sum.inr.injEq, exists_eq_right', true_or, or_true, and_self, Int.cast_ofNat_Int, reduceCtorEq, or_false, false_or, false_and, and_false, jb_zero, lt7_0, lt7_1, lt7_2, lt7_3, lt7_4, lt7_5, lt7_6, uj_X9_packet_19, c_X9_packet_1, c_X9_packet_2, c_X9_packet_3, c_X9_packet_4, c_X9_packet_5, c_X9_packet_6, c_X9_packet_7, c_X9_packet_8, c_X9_packet_9, c_X9_packet_10, c_X9_packet_11, c_X9_packet_12, c_X9_packet_13, uj_X9_packet_19, g_isPacket hS1 hR1 hi, hn, g_t0 hS1, hof6, Int.add_zero, ↓reduceIte, ilt_t, ilt_f, ile_t, ile_f, ieq_t, ieq_f, jb_T, jb_F, jb_t, jb_f]
      simpa using hq
    · simp (disch := first | assumption | omega) only [RS_0, RS_1, RS_2, RS_3, RS_4, RS_5, RS_6, RS_7, RS_8, RS_9, RS_10, RS_11, RS_12, RS_13, RS_14, RS_15, RS_16, RS_17, RS_18, RS_19, RS_20, RS_21, RS_22, RS_23, RS_24, RS_25, RS_26, RS_27, RS_28, RS_29, RS_30, RS_31, RS_32, RS_33, RS_34, RS_35, RS_36, ji_add, ji_sub, ji_mul, ji_neg, ji_lit0, ji_ofNat, ji_lt, ji_le, ji_eq, ji_nat, ji_in, ji_rem, ji_div, jl_of, xl_lt, xl_gt, xl_eq, qV_at, qI_at, qJ_at, qD_at, qA_at, qA_no, nb0, nb1, cat_r, cat_i, Option.some.injEq, exists_eq_left', true_and, and_true, if_true, if_false, ite_not, not_true_eq_false, not_false_eq_true, Sum.inr.injEq, exists_eq_right', true_or, or_true, and_self, Int.cast_ofNat_Int, reduceCtorEq, or_false, false_or, false_and, and_false, jb_zero, lt7_0, lt7_1, lt7_2, lt7_3, lt7_4, lt7_5, lt7_6, uj_X9_packet_19, c_X9_packet_1, c_X9_packet_2, c_X9_packet_3, c_X9_packet_4, c_X9_packet_5, c_X9_packet_6, c_X9_packet_7, c_X9_packet_8, c_X9_packet_9, c_X9_packet_10, c_X9_packet_11, c_X9_packet_12, c_X9_packet_13, uj_X9_packet_19, g_isPacket hS1 hR1 hi, hn, g_t0 hS1, g_visitedBy hS1 hR1 hz hB hn.1 hn.2, Int.add_zero, ↓reduceIte, ilt_t, ilt_f, ile_t, ile_f, ieq_t, ieq_f, jb_T, jb_F, jb_t, jb_f]
      simpa using hq
    · simp (disch := first | assumption | omega) only [RS_0, RS_1, RS_2, RS_3, RS_4, RS_5, RS_6, RS_7, RS_8, RS_9, RS_10, RS_11, RS_12, RS_13, RS_14, RS_15, RS_16, RS_17, RS_18, RS_19, RS_20, RS_21, RS_22, RS_23, RS_24, RS_25, RS_26, RS_27, RS_28, RS_29, RS_30, RS_31, RS_32, RS_33, RS_34, RS_35, RS_36, ji_add, ji_sub, ji_mul, ji_neg, ji_lit0, ji_ofNat, ji_lt, ji_le, ji_eq, ji_nat, ji_in, ji_rem, ji_div, jl_of, xl_lt, xl_gt, xl_eq, qV_at, qI_at, qJ_at, qD_at, qA_at, qA_no, nb0, nb1, cat_r, cat_i, Option.some.injEq, exists_eq_left', true_and, and_true, if_true, if_false, ite_not, not_true_eq_false, not_false_eq_true, Sum.inr.injEq, exists_eq_right', true_or, or_true, and_self, Int.cast_ofNat_Int, reduceCtorEq, or_false, false_or, false_and, and_false, jb_zero, lt7_0, lt7_1, lt7_2, lt7_3, lt7_4, lt7_5, lt7_6, uj_X9_packet_19, c_X9_packet_1, c_X9_packet_2, c_X9_packet_3, c_X9_packet_4, c_X9_packet_5, c_X9_packet_6, c_X9_packet_7, c_X9_packet_8, c_X9_packet_9, c_X9_packet_10, c_X9_packet_11, c_X9_packet_12, c_X9_packet_13, uj_X9_packet_19, g_isPacket hS1 hR1 hi, hn, g_t0 hS1, g_foundBy hS1 hR1 hB hn.1 hn.2, Int.add_zero, ↓reduceIte, ilt_t, ilt_f, ile_t, ile_f, ieq_t, ieq_f, jb_T, jb_F, jb_t, jb_f]
      simpa using hq
    · simp (disch := first | assumption | omega) only [RS_0, RS_1, RS_2, RS_3, RS_4, RS_5, RS_6, RS_7, RS_8, RS_9, RS_10, RS_11, RS_12, RS_13, RS_14, RS_15, RS_16, RS_17, RS_18, RS_19, RS_20, RS_21, RS_22, RS_23, RS_24, RS_25, RS_26, RS_27, RS_28, RS_29, RS_30, RS_31, RS_32, RS_33, RS_34, RS_35, RS_36, ji_add, ji_sub, ji_mul, ji_neg, ji_lit0, ji_ofNat, ji_lt, ji_le, ji_eq, ji_nat, ji_in, ji_rem, ji_div, jl_of, xl_lt, xl_gt, xl_eq, qV_at, qI_at, qJ_at, qD_at, qA_at, qA_no, nb0, nb1, cat_r, cat_i, Option.some.injEq, exists_eq_left', true_and, and_true, if_true, if_false, ite_not, not_true_eq_false, not_false_eq_true, Sum.inr.injEq, exists_eq_right', true_or, or_true, and_self, Int.cast_ofNat_Int, reduceCtorEq, or_false, false_or, false_and, and_false, jb_zero, lt7_0, lt7_1, lt7_2, lt7_3, lt7_4, lt7_5, lt7_6, uj_X9_packet_19, c_X9_packet_1, c_X9_packet_2, c_X9_packet_3, c_X9_packet_4, c_X9_packet_5, c_X9_packet_6, c_X9_packet_7, c_X9_packet_8, c_X9_packet_9, c_X9_packet_10, c_X9_packet_11, c_X9_packet_12, c_X9_packet_13, uj_X9_packet_19, g_isPacket hS1 hR1 hi, hn, g_t0 hS1, hof7, Int.add_zero, ↓reduceIte, ilt_t, ilt_f, ile_t, ile_f, ieq_t, ieq_f, jb_T, jb_F, jb_t, jb_f]
      simpa using hq
    · simp (disch := first | assumption | omega) only [RS_0, RS_1, RS_2, RS_3, RS_4, RS_5, RS_6, RS_7, RS_8, RS_9, RS_10, RS_11, RS_12, RS_13, RS_14, RS_15, RS_16, RS_17, RS_18, RS_19, RS_20, RS_21, RS_22, RS_23, RS_24, RS_25, RS_26, RS_27, RS_28, RS_29, RS_30, RS_31, RS_32, RS_33, RS_34, RS_35, RS_36, ji_add, ji_sub, ji_mul, ji_neg, ji_lit0, ji_ofNat, ji_lt, ji_le, ji_eq, ji_nat, ji_in, ji_rem, ji_div, jl_of, xl_lt, xl_gt, xl_eq, qV_at, qI_at, qJ_at, qD_at, qA_at, qA_no, nb0, nb1, cat_r, cat_i, Option.some.injEq, exists_eq_left', true_and, and_true, if_true, if_false, ite_not, not_true_eq_false, not_false_eq_true, Sum.inr.injEq, exists_eq_right', true_or, or_true, and_self, Int.cast_ofNat_Int, reduceCtorEq, or_false, false_or, false_and, and_false, jb_zero, lt7_0, lt7_1, lt7_2, lt7_3, lt7_4, lt7_5, lt7_6, uj_X9_packet_19, c_X9_packet_1, c_X9_packet_2, c_X9_packet_3, c_X9_packet_4, c_X9_packet_5, c_X9_packet_6, c_X9_packet_7, c_X9_packet_8, c_X9_packet_9, c_X9_packet_10, c_X9_packet_11, c_X9_packet_12, c_X9_packet_13, uj_X9_packet_19, g_isPacket hS1 hR1 hi, hn, g_t0 hS1, hof8, Int.add_zero, ↓reduceIte, ilt_t, ilt_f, ile_t, ile_f, ieq_t, ieq_f, jb_T, jb_F, jb_t, jb_f]
      simpa using hq
    · rw [if_neg (by omega), if_neg (by omega), if_neg (by omega), if_neg (by omega), if_neg (by omega), if_neg (by omega), if_neg (by omega), if_neg (by omega), if_neg (by omega), if_neg (by omega), if_neg (by omega)] at hq
      simp (disch := first | assumption | omega) only [RS_0, RS_1, RS_2, RS_3, RS_4, RS_5, RS_6, RS_7, RS_8, RS_9, RS_10, RS_11, RS_12, RS_13, RS_14, RS_15, RS_16, RS_17, RS_18, RS_19, RS_20, RS_21, RS_22, RS_23, RS_24, RS_25, RS_26, RS_27, RS_28, RS_29, RS_30, RS_31, RS_32, RS_33, RS_34, RS_35, RS_36, ji_add, ji_sub, ji_mul, ji_neg, ji_lit0, ji_ofNat, ji_lt, ji_le, ji_eq, ji_nat, ji_in, ji_rem, ji_div, jl_of, xl_lt, xl_gt, xl_eq, qV_at, qI_at, qJ_at, qD_at, qA_at, qA_no, nb0, nb1, cat_r, cat_i, Option.some.injEq, exists_eq_left', true_and, and_true, if_true, if_false, ite_not, not_true_eq_false, not_false_eq_true, Sum.inr.injEq, exists_eq_right', true_or, or_true, and_self, Int.cast_ofNat_Int, reduceCtorEq, or_false, false_or, false_and, and_false, jb_zero, lt7_0, lt7_1, lt7_2, lt7_3, lt7_4, lt7_5, lt7_6, uj_X9_packet_19, c_X9_packet_1, c_X9_packet_2, c_X9_packet_3, c_X9_packet_4, c_X9_packet_5, c_X9_packet_6, c_X9_packet_7, c_X9_packet_8, c_X9_packet_9, c_X9_packet_10, c_X9_packet_11, c_X9_packet_12, c_X9_packet_13, uj_X9_packet_19, g_isPacket hS1 hR1 hi, hn, g_t0 hS1, ↓reduceIte, ilt_t, ilt_f, ile_t, ile_f, ieq_t, ieq_f, jb_T, jb_F, jb_t, jb_f]
      exact hq
  · rw [if_neg hn] at hQ
    simp (disch := first | assumption | omega) only [RS_0, RS_1, RS_2, RS_3, RS_4, RS_5, RS_6, RS_7, RS_8, RS_9, RS_10, RS_11, RS_12, RS_13, RS_14, RS_15, RS_16, RS_17, RS_18, RS_19, RS_20, RS_21, RS_22, RS_23, RS_24, RS_25, RS_26, RS_27, RS_28, RS_29, RS_30, RS_31, RS_32, RS_33, RS_34, RS_35, RS_36, ji_add, ji_sub, ji_mul, ji_neg, ji_lit0, ji_ofNat, ji_lt, ji_le, ji_eq, ji_nat, ji_in, ji_rem, ji_div, jl_of, xl_lt, xl_gt, xl_eq, qV_at, qI_at, qJ_at, qD_at, qA_at, qA_no, nb0, nb1, cat_r, cat_i, Option.some.injEq, exists_eq_left', true_and, and_true, if_true, if_false, ite_not, not_true_eq_false, not_false_eq_true, Sum.inr.injEq, exists_eq_right', true_or, or_true, and_self, Int.cast_ofNat_Int, reduceCtorEq, or_false, false_or, false_and, and_false, jb_zero, lt7_0, lt7_1, lt7_2, lt7_3, lt7_4, lt7_5, lt7_6, uj_X9_packet_19, c_X9_packet_1, c_X9_packet_2, c_X9_packet_3, c_X9_packet_4, c_X9_packet_5, c_X9_packet_6, c_X9_packet_7, c_X9_packet_8, c_X9_packet_9, c_X9_packet_10, c_X9_packet_11, c_X9_packet_12, c_X9_packet_13, uj_X9_packet_19, g_isPacket hS1 hR1 hi, jb_eqf hn, g_t1 hS1, ↓reduceIte, ilt_t, ilt_f, ile_t, ile_f, ieq_t, ieq_f, jb_T, jb_F, jb_t, jb_f]
    exact hQ.x (by decide) c hM1 _
theorem r_wisest (hM : MS μ m A) (hi : INV A) (hQ : RP μ m Q (A, (0, wis A.1.2.2.2 A.1.2.2.1 A.2.1))) : s_X9_wisest μ [.ref m] Q X := by
  have hS := hM.1
  have hB := hi.1.1.1
  have hz := hB.z
  have hw := hB.1
  have hbz := hB.2.1
  rw [u_X9_wisest]
  refine ⟨RS_0 hS, ?_⟩
  obtain ⟨hS1, hR1, hM1, h0, c⟩ := hM.nul hi
  generalize sI μ 298 m (ji 0) = ν at *
  have hq := hQ.a c hM1 h0
  rw [g_wisest hS1 hR1 hz hB]
  exact hq
theorem r_nextStale (hM : MS μ m A) (hi : INV A) (hQ : RP μ m Q (A, (0, stl A.1.2.2.2 (nsf A.1.2.2.2 A.1.2.2.1 A.2.1)))) : s_X9_nextStale μ [.ref m] Q X := by
  have hS := hM.1
  have hB := hi.1.1.1
  have hz := hB.z
  have hw := hB.1
  have hbz := hB.2.1
  rw [u_X9_nextStale]
  refine ⟨RS_0 hS, ?_⟩
  obtain ⟨hS1, hR1, hM1, h0, c⟩ := hM.nul hi
  generalize sI μ 298 m (ji 0) = ν at *
  have hq := hQ.a c hM1 h0
  rw [g_nextStale hS1 hR1 hz hB]
  exact hq
theorem r_busiest (hM : MS μ m A) (hi : INV A) (hQ : RP μ m Q (A, (0, mxf (mat A.2.1) A.1.2.2.1.toNat))) : s_X9_busiest μ [.ref m] Q X := by
  have hS := hM.1
  have hB := hi.1.1.1
  have hz := hB.z
  have hw := hB.1
  have hbz := hB.2.1
  rw [u_X9_busiest]
  refine ⟨RS_0 hS, ?_⟩
  obtain ⟨hS1, hR1, hM1, h0, c⟩ := hM.nul hi
  generalize sI μ 298 m (ji 0) = ν at *
  have hq := hQ.a c hM1 h0
  rw [g_busiest hS1 hR1 hz hB]
  exact hq
theorem r_mostFound (hM : MS μ m A) (hi : INV A) (hQ : RP μ m Q (A, (0, mxf (fcn A.2.1) 72))) : s_X9_mostFound μ [.ref m] Q X := by
  have hS := hM.1
  have hB := hi.1.1.1
  have hz := hB.z
  have hw := hB.1
  have hbz := hB.2.1
  rw [u_X9_mostFound]
  refine ⟨RS_0 hS, ?_⟩
  obtain ⟨hS1, hR1, hM1, h0, c⟩ := hM.nul hi
  generalize sI μ 298 m (ji 0) = ν at *
  have hq := hQ.a c hM1 h0
  rw [g_mostFound hS1 hR1 hB]
  exact hq
theorem r_digest (hM : MS μ m A) (hi : INV A) (hQ : RP μ m Q (A, (0, dig A.1.1 A.1.2.1 A.1.2.2.1 A.1.2.2.2 A.2.1))) : s_X9_digest μ [.ref m] Q X := by
  have hS := hM.1
  have hB := hi.1.1.1
  have hz := hB.z
  have hw := hB.1
  have hbz := hB.2.1
  rw [u_X9_digest]
  refine ⟨RS_0 hS, ?_⟩
  obtain ⟨hS1, hR1, hM1, h0, c⟩ := hM.nul hi
  generalize sI μ 298 m (ji 0) = ν at *
  have hq := hQ.a c hM1 h0
  have r0 := hR1.2.2.2 0 (by omega) (by omega)
  simp (disch := first | assumption | omega) only [RS_0, RS_1, RS_2, RS_3, RS_4, RS_5, RS_6, RS_7, RS_8, RS_9, RS_10, RS_11, RS_12, RS_13, RS_14, RS_15, RS_16, RS_17, RS_18, RS_19, RS_20, RS_21, RS_22, RS_23, RS_24, RS_25, RS_26, RS_27, RS_28, RS_29, RS_30, RS_31, RS_32, RS_33, RS_34, RS_35, RS_36, ji_add, ji_sub, ji_mul, ji_neg, ji_lit0, ji_ofNat, ji_lt, ji_le, ji_eq, ji_nat, ji_in, ji_rem, ji_div, jl_of, xl_lt, xl_gt, xl_eq, qV_at, qI_at, qJ_at, qD_at, qA_at, qA_no, nb0, nb1, cat_r, cat_i, Option.some.injEq, exists_eq_left', true_and, and_true, if_true, if_false, ite_not, not_true_eq_false, not_false_eq_true, Sum.inr.injEq, exists_eq_right', true_or, or_true, and_self, Int.cast_ofNat_Int, reduceCtorEq, or_false, false_or, false_and, and_false, jb_zero, lt7_0, lt7_1, lt7_2, lt7_3, lt7_4, lt7_5, lt7_6, r0, ↓reduceIte, ilt_t, ilt_f, ile_t, ile_f, ieq_t, ieq_f, jb_T, jb_F, jb_t, jb_f]
  rw [g_digest17 hS1 hR1 hz hB]
  exact hq
theorem r_count (hM : MS μ m A) (hi : INV A) {k : Int} (k1 : -2147483648 ≤ k) (k2 : k < 2147483648) (hQ : RP μ m Q (A, (0, cnt A.1.1 A.1.2.1 A.1.2.2.1 A.1.2.2.2 A.2.2.1.1 A.2.1 k))) : s_X9_count μ [.ref m, .int (ji k)] Q X := by
  have hS := hM.1
  have hB := hi.1.1.1
  have hz := hB.z
  have hw := hB.1
  have hbz := hB.2.1
  rw [u_X9_count]
  refine ⟨RS_0 hS, ?_⟩
  obtain ⟨hS1, hR1, hM1, h0, c⟩ := hM.nul hi
  generalize sI μ 298 m (ji 0) = ν at *
  have hq := hQ.a c hM1 h0
  unfold cnt at hq
  rw [cnt_4, cnt_5 hi.1, lkn_at hB] at hq
  have g8 := hR1.1
  have g9 := hR1.2.1
  have g10 := hR1.2.2.1
  have r0 := hR1.2.2.2 0 (by omega) (by omega)
  have r1 := hR1.2.2.2 1 (by omega) (by omega)
  have g11 : gI ν 291 m = ji A.2.2.1.1 := by
    obtain ⟨_, F, h2, h3, _⟩ := hM1
    rw [h2, h3.2.2.2.1]
  have hk : k = 0 ∨ k = 1 ∨ k = 2 ∨ k = 3 ∨ k = 4 ∨ k = 5 ∨ k = 6 ∨ k = 7 ∨ k = 8 ∨ k = 9 ∨ k = 10 ∨ k = 11 ∨ (k < 0 ∨ 11 < k) := by omega
  rcases hk with rfl | rfl | rfl | rfl | rfl | rfl | rfl | rfl | rfl | rfl | rfl | rfl | hk
  · simp (disch := first | assumption | omega) only [RS_0, RS_1, RS_2, RS_3, RS_4, RS_5, RS_6, RS_7, RS_8, RS_9, RS_10, RS_11, RS_12, RS_13, RS_14, RS_15, RS_16, RS_17, RS_18, RS_19, RS_20, RS_21, RS_22, RS_23, RS_24, RS_25, RS_26, RS_27, RS_28, RS_29, RS_30, RS_31, RS_32, RS_33, RS_34, RS_35, RS_36, ji_add, ji_sub, ji_mul, ji_neg, ji_lit0, ji_ofNat, ji_lt, ji_le, ji_eq, ji_nat, ji_in, ji_rem, ji_div, jl_of, xl_lt, xl_gt, xl_eq, qV_at, qI_at, qJ_at, qD_at, qA_at, qA_no, nb0, nb1, cat_r, cat_i, Option.some.injEq, exists_eq_left', true_and, and_true, if_true, if_false, ite_not, not_true_eq_false, not_false_eq_true, Sum.inr.injEq, exists_eq_right', true_or, or_true, and_self, Int.cast_ofNat_Int, reduceCtorEq, or_false, false_or, false_and, and_false, jb_zero, lt7_0, lt7_1, lt7_2, lt7_3, lt7_4, lt7_5, lt7_6, c_X9_count_1, c_X9_count_2, c_X9_count_3, c_X9_count_4, c_X9_count_5, c_X9_count_6, g8, ↓reduceIte, ilt_t, ilt_f, ile_t, ile_f, ieq_t, ieq_f, jb_T, jb_F, jb_t, jb_f]
    simpa using hq
  · simp (disch := first | assumption | omega) only [RS_0, RS_1, RS_2, RS_3, RS_4, RS_5, RS_6, RS_7, RS_8, RS_9, RS_10, RS_11, RS_12, RS_13, RS_14, RS_15, RS_16, RS_17, RS_18, RS_19, RS_20, RS_21, RS_22, RS_23, RS_24, RS_25, RS_26, RS_27, RS_28, RS_29, RS_30, RS_31, RS_32, RS_33, RS_34, RS_35, RS_36, ji_add, ji_sub, ji_mul, ji_neg, ji_lit0, ji_ofNat, ji_lt, ji_le, ji_eq, ji_nat, ji_in, ji_rem, ji_div, jl_of, xl_lt, xl_gt, xl_eq, qV_at, qI_at, qJ_at, qD_at, qA_at, qA_no, nb0, nb1, cat_r, cat_i, Option.some.injEq, exists_eq_left', true_and, and_true, if_true, if_false, ite_not, not_true_eq_false, not_false_eq_true, Sum.inr.injEq, exists_eq_right', true_or, or_true, and_self, Int.cast_ofNat_Int, reduceCtorEq, or_false, false_or, false_and, and_false, jb_zero, lt7_0, lt7_1, lt7_2, lt7_3, lt7_4, lt7_5, lt7_6, c_X9_count_1, c_X9_count_2, c_X9_count_3, c_X9_count_4, c_X9_count_5, c_X9_count_6, g9, ↓reduceIte, ilt_t, ilt_f, ile_t, ile_f, ieq_t, ieq_f, jb_T, jb_F, jb_t, jb_f]
    simpa using hq
  · simp (disch := first | assumption | omega) only [RS_0, RS_1, RS_2, RS_3, RS_4, RS_5, RS_6, RS_7, RS_8, RS_9, RS_10, RS_11, RS_12, RS_13, RS_14, RS_15, RS_16, RS_17, RS_18, RS_19, RS_20, RS_21, RS_22, RS_23, RS_24, RS_25, RS_26, RS_27, RS_28, RS_29, RS_30, RS_31, RS_32, RS_33, RS_34, RS_35, RS_36, ji_add, ji_sub, ji_mul, ji_neg, ji_lit0, ji_ofNat, ji_lt, ji_le, ji_eq, ji_nat, ji_in, ji_rem, ji_div, jl_of, xl_lt, xl_gt, xl_eq, qV_at, qI_at, qJ_at, qD_at, qA_at, qA_no, nb0, nb1, cat_r, cat_i, Option.some.injEq, exists_eq_left', true_and, and_true, if_true, if_false, ite_not, not_true_eq_false, not_false_eq_true, Sum.inr.injEq, exists_eq_right', true_or, or_true, and_self, Int.cast_ofNat_Int, reduceCtorEq, or_false, false_or, false_and, and_false, jb_zero, lt7_0, lt7_1, lt7_2, lt7_3, lt7_4, lt7_5, lt7_6, c_X9_count_1, c_X9_count_2, c_X9_count_3, c_X9_count_4, c_X9_count_5, c_X9_count_6, g10, ↓reduceIte, ilt_t, ilt_f, ile_t, ile_f, ieq_t, ieq_f, jb_T, jb_F, jb_t, jb_f]
    simpa using hq
  · simp (disch := first | assumption | omega) only [RS_0, RS_1, RS_2, RS_3, RS_4, RS_5, RS_6, RS_7, RS_8, RS_9, RS_10, RS_11, RS_12, RS_13, RS_14, RS_15, RS_16, RS_17, RS_18, RS_19, RS_20, RS_21, RS_22, RS_23, RS_24, RS_25, RS_26, RS_27, RS_28, RS_29, RS_30, RS_31, RS_32, RS_33, RS_34, RS_35, RS_36, ji_add, ji_sub, ji_mul, ji_neg, ji_lit0, ji_ofNat, ji_lt, ji_le, ji_eq, ji_nat, ji_in, ji_rem, ji_div, jl_of, xl_lt, xl_gt, xl_eq, qV_at, qI_at, qJ_at, qD_at, qA_at, qA_no, nb0, nb1, cat_r, cat_i, Option.some.injEq, exists_eq_left', true_and, and_true, if_true, if_false, ite_not, not_true_eq_false, not_false_eq_true, Sum.inr.injEq, exists_eq_right', true_or, or_true, and_self, Int.cast_ofNat_Int, reduceCtorEq, or_false, false_or, false_and, and_false, jb_zero, lt7_0, lt7_1, lt7_2, lt7_3, lt7_4, lt7_5, lt7_6, c_X9_count_1, c_X9_count_2, c_X9_count_3, c_X9_count_4, c_X9_count_5, c_X9_count_6, r0, ↓reduceIte, ilt_t, ilt_f, ile_t, ile_f, ieq_t, ieq_f, jb_T, jb_F, jb_t, jb_f]
    simpa using hq
  · simp (disch := first | assumption | omega) only [RS_0, RS_1, RS_2, RS_3, RS_4, RS_5, RS_6, RS_7, RS_8, RS_9, RS_10, RS_11, RS_12, RS_13, RS_14, RS_15, RS_16, RS_17, RS_18, RS_19, RS_20, RS_21, RS_22, RS_23, RS_24, RS_25, RS_26, RS_27, RS_28, RS_29, RS_30, RS_31, RS_32, RS_33, RS_34, RS_35, RS_36, ji_add, ji_sub, ji_mul, ji_neg, ji_lit0, ji_ofNat, ji_lt, ji_le, ji_eq, ji_nat, ji_in, ji_rem, ji_div, jl_of, xl_lt, xl_gt, xl_eq, qV_at, qI_at, qJ_at, qD_at, qA_at, qA_no, nb0, nb1, cat_r, cat_i, Option.some.injEq, exists_eq_left', true_and, and_true, if_true, if_false, ite_not, not_true_eq_false, not_false_eq_true, Sum.inr.injEq, exists_eq_right', true_or, or_true, and_self, Int.cast_ofNat_Int, reduceCtorEq, or_false, false_or, false_and, and_false, jb_zero, lt7_0, lt7_1, lt7_2, lt7_3, lt7_4, lt7_5, lt7_6, c_X9_count_1, c_X9_count_2, c_X9_count_3, c_X9_count_4, c_X9_count_5, c_X9_count_6, u_X9_linksNow, g8, g9, ↓reduceIte, ilt_t, ilt_f, ile_t, ile_f, ieq_t, ieq_f, jb_T, jb_F, jb_t, jb_f]
    simpa using hq
  · simp (disch := first | assumption | omega) only [RS_0, RS_1, RS_2, RS_3, RS_4, RS_5, RS_6, RS_7, RS_8, RS_9, RS_10, RS_11, RS_12, RS_13, RS_14, RS_15, RS_16, RS_17, RS_18, RS_19, RS_20, RS_21, RS_22, RS_23, RS_24, RS_25, RS_26, RS_27, RS_28, RS_29, RS_30, RS_31, RS_32, RS_33, RS_34, RS_35, RS_36, ji_add, ji_sub, ji_mul, ji_neg, ji_lit0, ji_ofNat, ji_lt, ji_le, ji_eq, ji_nat, ji_in, ji_rem, ji_div, jl_of, xl_lt, xl_gt, xl_eq, qV_at, qI_at, qJ_at, qD_at, qA_at, qA_no, nb0, nb1, cat_r, cat_i, Option.some.injEq, exists_eq_left', true_and, and_true, if_true, if_false, ite_not, not_true_eq_false, not_false_eq_true, Sum.inr.injEq, exists_eq_right', true_or, or_true, and_self, Int.cast_ofNat_Int, reduceCtorEq, or_false, false_or, false_and, and_false, jb_zero, lt7_0, lt7_1, lt7_2, lt7_3, lt7_4, lt7_5, lt7_6, c_X9_count_1, c_X9_count_2, c_X9_count_3, c_X9_count_4, c_X9_count_5, c_X9_count_6, g_deadLinks hS1 hR1 hB, ↓reduceIte, ilt_t, ilt_f, ile_t, ile_f, ieq_t, ieq_f, jb_T, jb_F, jb_t, jb_f]
    simpa using hq
  · simp (disch := first | assumption | omega) only [RS_0, RS_1, RS_2, RS_3, RS_4, RS_5, RS_6, RS_7, RS_8, RS_9, RS_10, RS_11, RS_12, RS_13, RS_14, RS_15, RS_16, RS_17, RS_18, RS_19, RS_20, RS_21, RS_22, RS_23, RS_24, RS_25, RS_26, RS_27, RS_28, RS_29, RS_30, RS_31, RS_32, RS_33, RS_34, RS_35, RS_36, ji_add, ji_sub, ji_mul, ji_neg, ji_lit0, ji_ofNat, ji_lt, ji_le, ji_eq, ji_nat, ji_in, ji_rem, ji_div, jl_of, xl_lt, xl_gt, xl_eq, qV_at, qI_at, qJ_at, qD_at, qA_at, qA_no, nb0, nb1, cat_r, cat_i, Option.some.injEq, exists_eq_left', true_and, and_true, if_true, if_false, ite_not, not_true_eq_false, not_false_eq_true, Sum.inr.injEq, exists_eq_right', true_or, or_true, and_self, Int.cast_ofNat_Int, reduceCtorEq, or_false, false_or, false_and, and_false, jb_zero, lt7_0, lt7_1, lt7_2, lt7_3, lt7_4, lt7_5, lt7_6, c_X9_count_1, c_X9_count_2, c_X9_count_3, c_X9_count_4, c_X9_count_5, c_X9_count_6, r1, ↓reduceIte, ilt_t, ilt_f, ile_t, ile_f, ieq_t, ieq_f, jb_T, jb_F, jb_t, jb_f]
    simpa using hq
  · simp (disch := first | assumption | omega) only [RS_0, RS_1, RS_2, RS_3, RS_4, RS_5, RS_6, RS_7, RS_8, RS_9, RS_10, RS_11, RS_12, RS_13, RS_14, RS_15, RS_16, RS_17, RS_18, RS_19, RS_20, RS_21, RS_22, RS_23, RS_24, RS_25, RS_26, RS_27, RS_28, RS_29, RS_30, RS_31, RS_32, RS_33, RS_34, RS_35, RS_36, ji_add, ji_sub, ji_mul, ji_neg, ji_lit0, ji_ofNat, ji_lt, ji_le, ji_eq, ji_nat, ji_in, ji_rem, ji_div, jl_of, xl_lt, xl_gt, xl_eq, qV_at, qI_at, qJ_at, qD_at, qA_at, qA_no, nb0, nb1, cat_r, cat_i, Option.some.injEq, exists_eq_left', true_and, and_true, if_true, if_false, ite_not, not_true_eq_false, not_false_eq_true, Sum.inr.injEq, exists_eq_right', true_or, or_true, and_self, Int.cast_ofNat_Int, reduceCtorEq, or_false, false_or, false_and, and_false, jb_zero, lt7_0, lt7_1, lt7_2, lt7_3, lt7_4, lt7_5, lt7_6, c_X9_count_1, c_X9_count_2, c_X9_count_3, c_X9_count_4, c_X9_count_5, c_X9_count_6, f_moving hS1 hR1 hB, ↓reduceIte, ilt_t, ilt_f, ile_t, ile_f, ieq_t, ieq_f, jb_T, jb_F, jb_t, jb_f]
    simpa using hq
  · simp (disch := first | assumption | omega) only [RS_0, RS_1, RS_2, RS_3, RS_4, RS_5, RS_6, RS_7, RS_8, RS_9, RS_10, RS_11, RS_12, RS_13, RS_14, RS_15, RS_16, RS_17, RS_18, RS_19, RS_20, RS_21, RS_22, RS_23, RS_24, RS_25, RS_26, RS_27, RS_28, RS_29, RS_30, RS_31, RS_32, RS_33, RS_34, RS_35, RS_36, ji_add, ji_sub, ji_mul, ji_neg, ji_lit0, ji_ofNat, ji_lt, ji_le, ji_eq, ji_nat, ji_in, ji_rem, ji_div, jl_of, xl_lt, xl_gt, xl_eq, qV_at, qI_at, qJ_at, qD_at, qA_at, qA_no, nb0, nb1, cat_r, cat_i, Option.some.injEq, exists_eq_left', true_and, and_true, if_true, if_false, ite_not, not_true_eq_false, not_false_eq_true, Sum.inr.injEq, exists_eq_right', true_or, or_true, and_self, Int.cast_ofNat_Int, reduceCtorEq, or_false, false_or, false_and, and_false, jb_zero, lt7_0, lt7_1, lt7_2, lt7_3, lt7_4, lt7_5, lt7_6, c_X9_count_1, c_X9_count_2, c_X9_count_3, c_X9_count_4, c_X9_count_5, c_X9_count_6, g_lessonsNow hS1 hR1 hz hB, ↓reduceIte, ilt_t, ilt_f, ile_t, ile_f, ieq_t, ieq_f, jb_T, jb_F, jb_t, jb_f]
    simpa using hq
  · simp (disch := first | assumption | omega) only [RS_0, RS_1, RS_2, RS_3, RS_4, RS_5, RS_6, RS_7, RS_8, RS_9, RS_10, RS_11, RS_12, RS_13, RS_14, RS_15, RS_16, RS_17, RS_18, RS_19, RS_20, RS_21, RS_22, RS_23, RS_24, RS_25, RS_26, RS_27, RS_28, RS_29, RS_30, RS_31, RS_32, RS_33, RS_34, RS_35, RS_36, ji_add, ji_sub, ji_mul, ji_neg, ji_lit0, ji_ofNat, ji_lt, ji_le, ji_eq, ji_nat, ji_in, ji_rem, ji_div, jl_of, xl_lt, xl_gt, xl_eq, qV_at, qI_at, qJ_at, qD_at, qA_at, qA_no, nb0, nb1, cat_r, cat_i, Option.some.injEq, exists_eq_left', true_and, and_true, if_true, if_false, ite_not, not_true_eq_false, not_false_eq_true, Sum.inr.injEq, exists_eq_right', true_or, or_true, and_self, Int.cast_ofNat_Int, reduceCtorEq, or_false, false_or, false_and, and_false, jb_zero, lt7_0, lt7_1, lt7_2, lt7_3, lt7_4, lt7_5, lt7_6, c_X9_count_1, c_X9_count_2, c_X9_count_3, c_X9_count_4, c_X9_count_5, c_X9_count_6, g_lessonsNow hS1 hR1 hz hB, ↓reduceIte, ilt_t, ilt_f, ile_t, ile_f, ieq_t, ieq_f, jb_T, jb_F, jb_t, jb_f]
    simpa using hq
  · simp (disch := first | assumption | omega) only [RS_0, RS_1, RS_2, RS_3, RS_4, RS_5, RS_6, RS_7, RS_8, RS_9, RS_10, RS_11, RS_12, RS_13, RS_14, RS_15, RS_16, RS_17, RS_18, RS_19, RS_20, RS_21, RS_22, RS_23, RS_24, RS_25, RS_26, RS_27, RS_28, RS_29, RS_30, RS_31, RS_32, RS_33, RS_34, RS_35, RS_36, ji_add, ji_sub, ji_mul, ji_neg, ji_lit0, ji_ofNat, ji_lt, ji_le, ji_eq, ji_nat, ji_in, ji_rem, ji_div, jl_of, xl_lt, xl_gt, xl_eq, qV_at, qI_at, qJ_at, qD_at, qA_at, qA_no, nb0, nb1, cat_r, cat_i, Option.some.injEq, exists_eq_left', true_and, and_true, if_true, if_false, ite_not, not_true_eq_false, not_false_eq_true, Sum.inr.injEq, exists_eq_right', true_or, or_true, and_self, Int.cast_ofNat_Int, reduceCtorEq, or_false, false_or, false_and, and_false, jb_zero, lt7_0, lt7_1, lt7_2, lt7_3, lt7_4, lt7_5, lt7_6, c_X9_count_1, c_X9_count_2, c_X9_count_3, c_X9_count_4, c_X9_count_5, c_X9_count_6, f_hopsNow hS1 hR1 hB, ↓reduceIte, ilt_t, ilt_f, ile_t, ile_f, ieq_t, ieq_f, jb_T, jb_F, jb_t, jb_f]
    simpa using hq
  · simp (disch := first | assumption | omega) only [RS_0, RS_1, RS_2, RS_3, RS_4, RS_5, RS_6, RS_7, RS_8, RS_9, RS_10, RS_11, RS_12, RS_13, RS_14, RS_15, RS_16, RS_17, RS_18, RS_19, RS_20, RS_21, RS_22, RS_23, RS_24, RS_25, RS_26, RS_27, RS_28, RS_29, RS_30, RS_31, RS_32, RS_33, RS_34, RS_35, RS_36, ji_add, ji_sub, ji_mul, ji_neg, ji_lit0, ji_ofNat, ji_lt, ji_le, ji_eq, ji_nat, ji_in, ji_rem, ji_div, jl_of, xl_lt, xl_gt, xl_eq, qV_at, qI_at, qJ_at, qD_at, qA_at, qA_no, nb0, nb1, cat_r, cat_i, Option.some.injEq, exists_eq_left', true_and, and_true, if_true, if_false, ite_not, not_true_eq_false, not_false_eq_true, Sum.inr.injEq, exists_eq_right', true_or, or_true, and_self, Int.cast_ofNat_Int, reduceCtorEq, or_false, false_or, false_and, and_false, jb_zero, lt7_0, lt7_1, lt7_2, lt7_3, lt7_4, lt7_5, lt7_6, c_X9_count_1, c_X9_count_2, c_X9_count_3, c_X9_count_4, c_X9_count_5, c_X9_count_6, g11, ↓reduceIte, ilt_t, ilt_f, ile_t, ile_f, ieq_t, ieq_f, jb_T, jb_F, jb_t, jb_f]
    simpa using hq
  · rw [if_neg (by omega), if_neg (by omega), if_neg (by omega), if_neg (by omega), if_neg (by omega), if_neg (by omega), if_neg (by omega), if_neg (by omega), if_neg (by omega), if_neg (by omega), if_neg (by omega), if_neg (by omega)] at hq
    simp (disch := first | assumption | omega) only [RS_0, RS_1, RS_2, RS_3, RS_4, RS_5, RS_6, RS_7, RS_8, RS_9, RS_10, RS_11, RS_12, RS_13, RS_14, RS_15, RS_16, RS_17, RS_18, RS_19, RS_20, RS_21, RS_22, RS_23, RS_24, RS_25, RS_26, RS_27, RS_28, RS_29, RS_30, RS_31, RS_32, RS_33, RS_34, RS_35, RS_36, ji_add, ji_sub, ji_mul, ji_neg, ji_lit0, ji_ofNat, ji_lt, ji_le, ji_eq, ji_nat, ji_in, ji_rem, ji_div, jl_of, xl_lt, xl_gt, xl_eq, qV_at, qI_at, qJ_at, qD_at, qA_at, qA_no, nb0, nb1, cat_r, cat_i, Option.some.injEq, exists_eq_left', true_and, and_true, if_true, if_false, ite_not, not_true_eq_false, not_false_eq_true, Sum.inr.injEq, exists_eq_right', true_or, or_true, and_self, Int.cast_ofNat_Int, reduceCtorEq, or_false, false_or, false_and, and_false, jb_zero, lt7_0, lt7_1, lt7_2, lt7_3, lt7_4, lt7_5, lt7_6, c_X9_count_1, c_X9_count_2, c_X9_count_3, c_X9_count_4, c_X9_count_5, c_X9_count_6, ↓reduceIte, ilt_t, ilt_f, ile_t, ile_f, ieq_t, ieq_f, jb_T, jb_F, jb_t, jb_f]
    exact hq
end
