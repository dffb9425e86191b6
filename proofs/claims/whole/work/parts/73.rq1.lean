/-! ===== the reference's questions, those without loops ===== -/
section
variable {μ ν : XM} {m : Nat} {Q : XQ} {X : XX} {A : AS} {w h N s : Int} {Z : Int → Int}
theorem MS.t (hM : MS ν m A) (k : Int) : MS (sI ν 298 m (ji k)) m A := by
  obtain ⟨F, hF, hR, e, hS⟩ := hM.get
  rw [← e, pzf_w]
  exact MS.mk (F := fu F 298 k) hS hF hR
theorem MS.rw (hM : MS ν m A) : RW ν m A.1.1 A.1.2.1 A.1.2.2.2 A.2.1 := by
  obtain ⟨h1, F, h2, h3, h4, h5⟩ := hM
  refine ⟨by rw [h2, h3.1], by rw [h2, h3.2.1], by rw [h2, h3.2.2.1], fun i i0 i1 => ?_⟩
  rw [h5 i.toNat (by omega), Int.toNat_of_nonneg i0]
theorem MS.nul (hM : MS μ m A) (hi : INV A) : RS (sI μ 298 m (ji 0)) m ∧ RW (sI μ 298 m (ji 0)) m A.1.1 A.1.2.1 A.1.2.2.2 A.2.1 ∧ MS (sI μ 298 m (ji 0)) m A ∧ gI (sI μ 298 m (ji 0)) 298 m = ji 0 ∧ CH (inM m) (sI μ 298 m (ji 0)) μ :=
  ⟨(hM.t 0).1, (hM.t 0).rw, hM.t 0, gI_sI_at _ _ _ _, (CH.refl _ _).sI _ _ _ (by unfold inM; omega)⟩
theorem RQ.a {v : Int} (hQ : RQ μ m Q (A, (0, v))) (c : CH (inM m) ν μ) (hM : MS ν m A) (h0 : gI ν 298 m = ji 0) : Q (some (.int (ji v))) ν := hQ ν v c hM h0 (fun _ => rfl)
theorem RQ.x {k v : Int} (hQ : RQ μ m Q (A, (k, v))) (hk : k ≠ 0) (c : CH (inM m) ν μ) (hM : MS ν m A) (z : Int) : Q (some (.int (ji z))) (sI ν 298 m (ji k)) := hQ _ z (c.sI _ _ _ (by unfold inM; omega)) (hM.t k) (gI_sI_at _ _ _ _) (fun q => absurd q hk)
theorem g_t0 (hS : RS ν m) {k : Int} : s_X9_throwsIf ν [.ref m, .int (ji 0), .int (ji k)] Q X = Q (some (.int (ji 0))) ν := by
  simp (disch := first | assumption | omega) only [RS_0, RS_1, RS_2, RS_3, RS_4, RS_5, RS_6, RS_7, RS_8, RS_9, RS_10, RS_11, RS_12, RS_13, RS_14, RS_15, RS_16, RS_17, RS_18, RS_19, RS_20, RS_21, RS_22, RS_23, RS_24, RS_25, RS_26, RS_27, RS_28, RS_29, RS_30, RS_31, RS_32, RS_33, RS_34, RS_35, RS_36, ji_add, ji_sub, ji_mul, ji_neg, ji_lit0, ji_ofNat, ji_lt, ji_le, ji_eq, ji_nat, ji_in, ji_rem, ji_div, jl_of, xl_lt, xl_gt, xl_eq, qV_at, qI_at, qJ_at, qD_at, qA_at, qA_no, nb0, nb1, cat_r, cat_i, Option.some.injEq, exists_eq_left', true_and, and_true, if_true, if_false, ite_not, not_true_eq_false, not_false_eq_true, Sum.inr.injEq, exists_eq_right', true_or, or_true, and_self, Int.cast_ofNat_Int, reduceCtorEq, or_false, false_or, false_and, and_false, jb_zero, lt7_0, lt7_1, lt7_2, lt7_3, lt7_4, lt7_5, lt7_6, u_X9_throwsIf, nb0, ↓reduceIte, ilt_t, ilt_f, ile_t, ile_f, ieq_t, ieq_f, jb_T, jb_F, jb_t, jb_f]
theorem g_t1 (hS : RS ν m) {k : Int} : s_X9_throwsIf ν [.ref m, .int (ji 1), .int (ji k)] Q X = Q (some (.int (ji 1))) (sI ν 298 m (ji k)) := by
  simp (disch := first | assumption | omega) only [RS_0, RS_1, RS_2, RS_3, RS_4, RS_5, RS_6, RS_7, RS_8, RS_9, RS_10, RS_11, RS_12, RS_13, RS_14, RS_15, RS_16, RS_17, RS_18, RS_19, RS_20, RS_21, RS_22, RS_23, RS_24, RS_25, RS_26, RS_27, RS_28, RS_29, RS_30, RS_31, RS_32, RS_33, RS_34, RS_35, RS_36, ji_add, ji_sub, ji_mul, ji_neg, ji_lit0, ji_ofNat, ji_lt, ji_le, ji_eq, ji_nat, ji_in, ji_rem, ji_div, jl_of, xl_lt, xl_gt, xl_eq, qV_at, qI_at, qJ_at, qD_at, qA_at, qA_no, nb0, nb1, cat_r, cat_i, Option.some.injEq, exists_eq_left', true_and, and_true, if_true, if_false, ite_not, not_true_eq_false, not_false_eq_true, Sum.inr.injEq, exists_eq_right', true_or, or_true, and_self, Int.cast_ofNat_Int, reduceCtorEq, or_false, false_or, false_and, and_false, jb_zero, lt7_0, lt7_1, lt7_2, lt7_3, lt7_4, lt7_5, lt7_6, u_X9_throwsIf, nb1, ↓reduceIte, ilt_t, ilt_f, ile_t, ile_f, ieq_t, ieq_f, jb_T, jb_F, jb_t, jb_f]
theorem g_isNode (hS : RS ν m) (hR : RW ν m A.1.1 A.1.2.1 A.1.2.2.2 A.2.1) (hi : INV A) {z : Int} (z1 : -2147483648 ≤ z) (z2 : z < 2147483648) : s_X9_isNode ν [.ref m, .int (ji z)] Q X = Q (some (.int (jb (0 ≤ z ∧ z < A.1.2.2.1)))) ν := by
  have hz := hi.1.1.1.z
  have hz' := hz
  unfold SZ at hz'
  exact f_isNode hS hR hz.g.2.2.2.2.2.2 (by omega) z1 z2
theorem g_noTwo (hS : RS ν m) (hR : RW ν m A.1.1 A.1.2.1 A.1.2.2.2 A.2.1) (hi : INV A) {a b : Int} (a0 : -2147483648 ≤ a) (a1 : a < 2147483648) (b0 : -2147483648 ≤ b) (b1 : b < 2147483648) : s_X9_noTwo ν [.ref m, .int (ji a), .int (ji b)] Q X = if (0 ≤ a ∧ a < A.1.2.2.1) ∧ 0 ≤ b ∧ b < A.1.2.2.1 then Q (some (.int (ji 0))) ν else Q (some (.int (ji 1))) (sI ν 298 m (ji 1)) := by
  have n1 := fun Q X => g_isNode (Q := Q) (X := X) hS hR hi a0 a1
  have n2 := fun Q X => g_isNode (Q := Q) (X := X) hS hR hi b0 b1
  by_cases h1 : 0 ≤ a ∧ a < A.1.2.2.1
  · rw [jb_t _ h1] at n1
    by_cases h2 : 0 ≤ b ∧ b < A.1.2.2.1
    · rw [jb_t _ h2] at n2
      rw [if_pos ⟨h1, h2⟩]
      simp (disch := first | assumption | omega) only [RS_0, RS_1, RS_2, RS_3, RS_4, RS_5, RS_6, RS_7, RS_8, RS_9, RS_10, RS_11, RS_12, RS_13, RS_14, RS_15, RS_16, RS_17, RS_18, RS_19, RS_20, RS_21, RS_22, RS_23, RS_24, RS_25, RS_26, RS_27, RS_28, RS_29, RS_30, RS_31, RS_32, RS_33, RS_34, RS_35, RS_36, ji_add, ji_sub, ji_mul, ji_neg, ji_lit0, ji_ofNat, ji_lt, ji_le, ji_eq, ji_nat, ji_in, ji_rem, ji_div, jl_of, xl_lt, xl_gt, xl_eq, qV_at, qI_at, qJ_at, qD_at, qA_at, qA_no, nb0, nb1, cat_r, cat_i, Option.some.injEq, exists_eq_left', true_and, and_true, if_true, if_false, ite_not, not_true_eq_false, not_false_eq_true, Sum.inr.injEq, exists_eq_right', true_or, or_true, and_self, Int.cast_ofNat_Int, reduceCtorEq, or_false, false_or, false_and, and_false, jb_zero, lt7_0, lt7_1, lt7_2, lt7_3, lt7_4, lt7_5, lt7_6, c_X9_noTwo_1, c_X9_noTwo_2, c_X9_noTwo_3, c_X9_noTwo_4, c_X9_noTwo_5, u_X9_noTwo, n1, n2, g_t0 hS, nb0, ↓reduceIte, ilt_t, ilt_f, ile_t, ile_f, ieq_t, ieq_f, jb_T, jb_F, jb_t, jb_f]
    · rw [jb_f _ h2] at n2
      rw [if_neg (fun q => h2 q.2)]
      simp (disch := first | assumption | omega) only [RS_0, RS_1, RS_2, RS_3, RS_4, RS_5, RS_6, RS_7, RS_8, RS_9, RS_10, RS_11, RS_12, RS_13, RS_14, RS_15, RS_16, RS_17, RS_18, RS_19, RS_20, RS_21, RS_22, RS_23, RS_24, RS_25, RS_26, RS_27, RS_28, RS_29, RS_30, RS_31, RS_32, RS_33, RS_34, RS_35, RS_36, ji_add, ji_sub, ji_mul, ji_neg, ji_lit0, ji_ofNat, ji_lt, ji_le, ji_eq, ji_nat, ji_in, ji_rem, ji_div, jl_of, xl_lt, xl_gt, xl_eq, qV_at, qI_at, qJ_at, qD_at, qA_at, qA_no, nb0, nb1, cat_r, cat_i, Option.some.injEq, exists_eq_left', true_and, and_true, if_true, if_false, ite_not, not_true_eq_false, not_false_eq_true, Sum.inr.injEq, exists_eq_right', true_or, or_true, and_self, Int.cast_ofNat_Int, reduceCtorEq, or_false, false_or, false_and, and_false, jb_zero, lt7_0, lt7_1, lt7_2, lt7_3, lt7_4, lt7_5, lt7_6, c_X9_noTwo_1, c_X9_noTwo_2, c_X9_noTwo_3, c_X9_noTwo_4, c_X9_noTwo_5, u_X9_noTwo, n1, n2, g_t1 hS, nb1, ↓reduceIte, ilt_t, ilt_f, ile_t, ile_f, ieq_t, ieq_f, jb_T, jb_F, jb_t, jb_f]
  · rw [jb_f _ h1] at n1
    rw [if_neg (fun q => h1 q.1)]
    simp (disch := first | assumption | omega) only [RS_0, RS_1, RS_2, RS_3, RS_4, RS_5, RS_6, RS_7, RS_8, RS_9, RS_10, RS_11, RS_12, RS_13, RS_14, RS_15, RS_16, RS_17, RS_18, RS_19, RS_20, RS_21, RS_22, RS_23, RS_24, RS_25, RS_26, RS_27, RS_28, RS_29, RS_30, RS_31, RS_32, RS_33, RS_34, RS_35, RS_36, ji_add, ji_sub, ji_mul, ji_neg, ji_lit0, ji_ofNat, ji_lt, ji_le, ji_eq, ji_nat, ji_in, ji_rem, ji_div, jl_of, xl_lt, xl_gt, xl_eq, qV_at, qI_at, qJ_at, qD_at, qA_at, qA_no, nb0, nb1, cat_r, cat_i, Option.some.injEq, exists_eq_left', true_and, and_true, if_true, if_false, ite_not, not_true_eq_false, not_false_eq_true, Sum.inr.injEq, exists_eq_right', true_or, or_true, and_self, Int.cast_ofNat_Int, reduceCtorEq, or_false, false_or, false_and, and_false, jb_zero, lt7_0, lt7_1, lt7_2, lt7_3, lt7_4, lt7_5, lt7_6, c_X9_noTwo_1, c_X9_noTwo_2, c_X9_noTwo_3, c_X9_noTwo_4, c_X9_noTwo_5, u_X9_noTwo, n1, g_t1 hS, nb1, ↓reduceIte, ilt_t, ilt_f, ile_t, ile_f, ieq_t, ieq_f, jb_T, jb_F, jb_t, jb_f]
theorem jb_eqt {p : Prop} [Decidable p] (h : p) : jb p = ji 1 := jb_t p h
theorem jb_eqf {p : Prop} [Decidable p] (h : ¬ p) : jb p = ji 0 := jb_f p h
theorem r_link (hM : MS μ m A) (hi : INV A) {n y : Int} (n1 : -2147483648 ≤ n) (n2 : n < 2147483648) (y1 : -2147483648 ≤ y) (y2 : y < 2147483648) (hQ : RQ μ m Q (A, oc2 (0 ≤ n ∧ n < A.1.2.2.1) (0 ≤ y ∧ y < 4) (lka A.1.1 A.1.2.1 A.1.2.2.1 n y))) : s_X9_link μ [.ref m, .int (ji n), .int (ji y)] Q X := by
  have hS := hM.1
  have hB := hi.1.1.1
  have hz := hB.z
  have hw := hB.1
  have hbz := hB.2.1
  rw [u_X9_link]
  refine ⟨RS_0 hS, ?_⟩
  obtain ⟨hS1, hR1, hM1, h0, c⟩ := hM.nul hi
  generalize sI μ 298 m (ji 0) = ν at *
  unfold oc2 at hQ
  by_cases hn : 0 ≤ n ∧ n < A.1.2.2.1
  · rw [if_pos hn] at hQ
    by_cases hy : 0 ≤ y ∧ y < 4
    · rw [if_pos hy] at hQ
      simp (disch := first | assumption | omega) only [RS_0, RS_1, RS_2, RS_3, RS_4, RS_5, RS_6, RS_7, RS_8, RS_9, RS_10, RS_11, RS_12, RS_13, RS_14, RS_15, RS_16, RS_17, RS_18, RS_19, RS_20, RS_21, RS_22, RS_23, RS_24, RS_25, RS_26, RS_27, RS_28, RS_29, RS_30, RS_31, RS_32, RS_33, RS_34, RS_35, RS_36, ji_add, ji_sub, ji_mul, ji_neg, ji_lit0, ji_ofNat, ji_lt, ji_le, ji_eq, ji_nat, ji_in, ji_rem, ji_div, jl_of, xl_lt, xl_gt, xl_eq, qV_at, qI_at, qJ_at, qD_at, qA_at, qA_no, nb0, nb1, cat_r, cat_i, Option.some.injEq, exists_eq_left', true_and, and_true, if_true, if_false, ite_not, not_true_eq_false, not_false_eq_true, Sum.inr.injEq, exists_eq_right', true_or, or_true, and_self, Int.cast_ofNat_Int, reduceCtorEq, or_false, false_or, false_and, and_false, jb_zero, lt7_0, lt7_1, lt7_2, lt7_3, lt7_4, lt7_5, lt7_6, uj_X9_link_19, c_X9_link_1, c_X9_link_2, c_X9_link_3, c_X9_link_4, c_X9_link_5, c_X9_link_6, c_X9_link_7, uj_X9_link_19, g_isNode hS1 hR1 hi, hn, f_isWay, hy, g_t0 hS1, f_linkOf hS1 hR1 hz, ↓reduceIte, ilt_t, ilt_f, ile_t, ile_f, ieq_t, ieq_f, jb_T, jb_F, jb_t, jb_f]
      exact hQ.a c hM1 h0
    · rw [if_neg hy] at hQ
      simp (disch := first | assumption | omega) only [RS_0, RS_1, RS_2, RS_3, RS_4, RS_5, RS_6, RS_7, RS_8, RS_9, RS_10, RS_11, RS_12, RS_13, RS_14, RS_15, RS_16, RS_17, RS_18, RS_19, RS_20, RS_21, RS_22, RS_23, RS_24, RS_25, RS_26, RS_27, RS_28, RS_29, RS_30, RS_31, RS_32, RS_33, RS_34, RS_35, RS_36, ji_add, ji_sub, ji_mul, ji_neg, ji_lit0, ji_ofNat, ji_lt, ji_le, ji_eq, ji_nat, ji_in, ji_rem, ji_div, jl_of, xl_lt, xl_gt, xl_eq, qV_at, qI_at, qJ_at, qD_at, qA_at, qA_no, nb0, nb1, cat_r, cat_i, Option.some.injEq, exists_eq_left', true_and, and_true, if_true, if_false, ite_not, not_true_eq_false, not_false_eq_true, Sum.inr.injEq, exists_eq_right', true_or, or_true, and_self, Int.cast_ofNat_Int, reduceCtorEq, or_false, false_or, false_and, and_false, jb_zero, lt7_0, lt7_1, lt7_2, lt7_3, lt7_4, lt7_5, lt7_6, uj_X9_link_19, c_X9_link_1, c_X9_link_2, c_X9_link_3, c_X9_link_4, c_X9_link_5, c_X9_link_6, c_X9_link_7, uj_X9_link_19, g_isNode hS1 hR1 hi, hn, f_isWay, jb_eqf hy, g_t0 hS1, g_t1 hS1, ↓reduceIte, ilt_t, ilt_f, ile_t, ile_f, ieq_t, ieq_f, jb_T, jb_F, jb_t, jb_f]
      exact hQ.x (by decide) c hM1 _
  · rw [if_neg hn] at hQ
    simp (disch := first | assumption | omega) only [RS_0, RS_1, RS_2, RS_3, RS_4, RS_5, RS_6, RS_7, RS_8, RS_9, RS_10, RS_11, RS_12, RS_13, RS_14, RS_15, RS_16, RS_17, RS_18, RS_19, RS_20, RS_21, RS_22, RS_23, RS_24, RS_25, RS_26, RS_27, RS_28, RS_29, RS_30, RS_31, RS_32, RS_33, RS_34, RS_35, RS_36, ji_add, ji_sub, ji_mul, ji_neg, ji_lit0, ji_ofNat, ji_lt, ji_le, ji_eq, ji_nat, ji_in, ji_rem, ji_div, jl_of, xl_lt, xl_gt, xl_eq, qV_at, qI_at, qJ_at, qD_at, qA_at, qA_no, nb0, nb1, cat_r, cat_i, Option.some.injEq, exists_eq_left', true_and, and_true, if_true, if_false, ite_not, not_true_eq_false, not_false_eq_true, Sum.inr.injEq, exists_eq_right', true_or, or_true, and_self, Int.cast_ofNat_Int, reduceCtorEq, or_false, false_or, false_and, and_false, jb_zero, lt7_0, lt7_1, lt7_2, lt7_3, lt7_4, lt7_5, lt7_6, uj_X9_link_19, c_X9_link_1, c_X9_link_2, c_X9_link_3, c_X9_link_4, c_X9_link_5, c_X9_link_6, c_X9_link_7, uj_X9_link_19, g_isNode hS1 hR1 hi, jb_eqf hn, g_t1 hS1, ↓reduceIte, ilt_t, ilt_f, ile_t, ile_f, ieq_t, ieq_f, jb_T, jb_F, jb_t, jb_f]
    exact hQ.x (by decide) c hM1 _
theorem r_isDead (hM : MS μ m A) (hi : INV A) {l : Int} (n1 : -2147483648 ≤ l) (n2 : l < 2147483648) (hQ : RQ μ m Q (A, oc1 (isl A.1.1 A.1.2.1 A.1.2.2.1 l = true) (if A.2.1 (2 + l) ≠ 0 then 1 else 0))) : s_X9_isDead μ [.ref m, .int (ji l)] Q X := by
  have hS := hM.1
  have hB := hi.1.1.1
  have hz := hB.z
  have hw := hB.1
  have hbz := hB.2.1
  rw [u_X9_isDead]
  refine ⟨RS_0 hS, ?_⟩
  obtain ⟨hS1, hR1, hM1, h0, c⟩ := hM.nul hi
  generalize sI μ 298 m (ji 0) = ν at *
  unfold oc1 at hQ
  by_cases hn : isl A.1.1 A.1.2.1 A.1.2.2.1 l = true
  · rw [if_pos hn] at hQ
    have hb := isl_b hB.g hn
    by_cases hd : A.2.1 (2 + l) = 0
    · rw [if_neg (fun q => q hd)] at hQ
      simp (disch := first | assumption | omega) only [RS_0, RS_1, RS_2, RS_3, RS_4, RS_5, RS_6, RS_7, RS_8, RS_9, RS_10, RS_11, RS_12, RS_13, RS_14, RS_15, RS_16, RS_17, RS_18, RS_19, RS_20, RS_21, RS_22, RS_23, RS_24, RS_25, RS_26, RS_27, RS_28, RS_29, RS_30, RS_31, RS_32, RS_33, RS_34, RS_35, RS_36, ji_add, ji_sub, ji_mul, ji_neg, ji_lit0, ji_ofNat, ji_lt, ji_le, ji_eq, ji_nat, ji_in, ji_rem, ji_div, jl_of, xl_lt, xl_gt, xl_eq, qV_at, qI_at, qJ_at, qD_at, qA_at, qA_no, nb0, nb1, cat_r, cat_i, Option.some.injEq, exists_eq_left', true_and, and_true, if_true, if_false, ite_not, not_true_eq_false, not_false_eq_true, Sum.inr.injEq, exists_eq_right', true_or, or_true, and_self, Int.cast_ofNat_Int, reduceCtorEq, or_false, false_or, false_and, and_false, jb_zero, lt7_0, lt7_1, lt7_2, lt7_3, lt7_4, lt7_5, lt7_6, uj_X9_isDead_19, c_X9_isDead_1, c_X9_isDead_2, c_X9_isDead_3, uj_X9_isDead_19, f_isLink hS1 hR1 hz, hn, g_t0 hS1, f_isDeadNow hS1 hR1 _ _ (hB.2.2.1 l hb.1 hb.2), hd, ne_eq, nb0, ↓reduceIte, ilt_t, ilt_f, ile_t, ile_f, ieq_t, ieq_f, jb_T, jb_F, jb_t, jb_f]
      exact hQ.a c hM1 h0
    · rw [if_pos hd] at hQ
      simp (disch := first | assumption | omega) only [RS_0, RS_1, RS_2, RS_3, RS_4, RS_5, RS_6, RS_7, RS_8, RS_9, RS_10, RS_11, RS_12, RS_13, RS_14, RS_15, RS_16, RS_17, RS_18, RS_19, RS_20, RS_21, RS_22, RS_23, RS_24, RS_25, RS_26, RS_27, RS_28, RS_29, RS_30, RS_31, RS_32, RS_33, RS_34, RS_35, RS_36, ji_add, ji_sub, ji_mul, ji_neg, ji_lit0, ji_ofNat, ji_lt, ji_le, ji_eq, ji_nat, ji_in, ji_rem, ji_div, jl_of, xl_lt, xl_gt, xl_eq, qV_at, qI_at, qJ_at, qD_at, qA_at, qA_no, nb0, nb1, cat_r, cat_i, Option.some.injEq, exists_eq_left', true_and, and_true, if_true, if_false, ite_not, not_true_eq_false, not_false_eq_true, Sum.inr.injEq, exists_eq_right', true_or, or_true, and_self, Int.cast_ofNat_Int, reduceCtorEq, or_false, false_or, false_and, and_false, jb_zero, lt7_0, lt7_1, lt7_2, lt7_3, lt7_4, lt7_5, lt7_6, uj_X9_isDead_19, c_X9_isDead_1, c_X9_isDead_2, c_X9_isDead_3, uj_X9_isDead_19, f_isLink hS1 hR1 hz, hn, g_t0 hS1, f_isDeadNow hS1 hR1 _ _ (hB.2.2.1 l hb.1 hb.2), hd, ne_eq, nb1, ↓reduceIte, ilt_t, ilt_f, ile_t, ile_f, ieq_t, ieq_f, jb_T, jb_F, jb_t, jb_f]
      exact hQ.a c hM1 h0
  · rw [if_neg hn] at hQ
    simp (disch := first | assumption | omega) only [RS_0, RS_1, RS_2, RS_3, RS_4, RS_5, RS_6, RS_7, RS_8, RS_9, RS_10, RS_11, RS_12, RS_13, RS_14, RS_15, RS_16, RS_17, RS_18, RS_19, RS_20, RS_21, RS_22, RS_23, RS_24, RS_25, RS_26, RS_27, RS_28, RS_29, RS_30, RS_31, RS_32, RS_33, RS_34, RS_35, RS_36, ji_add, ji_sub, ji_mul, ji_neg, ji_lit0, ji_ofNat, ji_lt, ji_le, ji_eq, ji_nat, ji_in, ji_rem, ji_div, jl_of, xl_lt, xl_gt, xl_eq, qV_at, qI_at, qJ_at, qD_at, qA_at, qA_no, nb0, nb1, cat_r, cat_i, Option.some.injEq, exists_eq_left', true_and, and_true, if_true, if_false, ite_not, not_true_eq_false, not_false_eq_true, Sum.inr.injEq, exists_eq_right', true_or, or_true, and_self, Int.cast_ofNat_Int, reduceCtorEq, or_false, false_or, false_and, and_false, jb_zero, lt7_0, lt7_1, lt7_2, lt7_3, lt7_4, lt7_5, lt7_6, uj_X9_isDead_19, c_X9_isDead_1, c_X9_isDead_2, c_X9_isDead_3, uj_X9_isDead_19, f_isLink hS1 hR1 hz, jb_eqf hn, g_t1 hS1, nb0, ↓reduceIte, ilt_t, ilt_f, ile_t, ile_f, ieq_t, ieq_f, jb_T, jb_F, jb_t, jb_f]
    exact hQ.x (by decide) c hM1 _
theorem r_end (hM : MS μ m A) (hi : INV A) {l g : Int} (n1 : -2147483648 ≤ l) (n2 : l < 2147483648) (hg : g = 0 ∨ g = 1) (hQ : RQ μ m Q (A, oc1 (isl A.1.1 A.1.2.1 A.1.2.2.1 l = true) (if g = 0 then l / 2 else nxt A.1.1 A.1.2.1 A.1.2.2.1 (l / 2) (l % 2)))) : s_X9_end μ [.ref m, .int (ji l), .int (ji g)] Q X := by
  have hS := hM.1
  have hB := hi.1.1.1
  have hz := hB.z
  have hw := hB.1
  have hbz := hB.2.1
  rw [u_X9_end]
  refine ⟨RS_0 hS, ?_⟩
  obtain ⟨hS1, hR1, hM1, h0, c⟩ := hM.nul hi
  generalize sI μ 298 m (ji 0) = ν at *
  unfold oc1 at hQ
  by_cases hn : isl A.1.1 A.1.2.1 A.1.2.2.1 l = true
  · rw [if_pos hn] at hQ
    have hb := isl_b hB.g hn
    have hq : nxt A.1.1 A.1.2.1 A.1.2.2.1 (l / 2) (l % 2) ≠ -1 := by
      unfold isl at hn
      rw [decide_eq_true_eq] at hn
      exact hn.2
    have hx := (nxt_b hB.g).2.2 hq
    rw [nxt_in hx.1 hx.2.1 hx.2.2.1 hx.2.2.2.1] at hQ
    by_cases hd : g = 0
    · rw [if_pos hd] at hQ
      simp (disch := first | assumption | omega) only [RS_0, RS_1, RS_2, RS_3, RS_4, RS_5, RS_6, RS_7, RS_8, RS_9, RS_10, RS_11, RS_12, RS_13, RS_14, RS_15, RS_16, RS_17, RS_18, RS_19, RS_20, RS_21, RS_22, RS_23, RS_24, RS_25, RS_26, RS_27, RS_28, RS_29, RS_30, RS_31, RS_32, RS_33, RS_34, RS_35, RS_36, ji_add, ji_sub, ji_mul, ji_neg, ji_lit0, ji_ofNat, ji_lt, ji_le, ji_eq, ji_nat, ji_in, ji_rem, ji_div, jl_of, xl_lt, xl_gt, xl_eq, qV_at, qI_at, qJ_at, qD_at, qA_at, qA_no, nb0, nb1, cat_r, cat_i, Option.some.injEq, exists_eq_left', true_and, and_true, if_true, if_false, ite_not, not_true_eq_false, not_false_eq_true, Sum.inr.injEq, exists_eq_right', true_or, or_true, and_self, Int.cast_ofNat_Int, reduceCtorEq, or_false, false_or, false_and, and_false, jb_zero, lt7_0, lt7_1, lt7_2, lt7_3, lt7_4, lt7_5, lt7_6, uj_X9_end_19, c_X9_end_1, c_X9_end_2, c_X9_end_3, uj_X9_end_19, f_isLink hS1 hR1 hz, hn, g_t0 hS1, hd, ↓reduceIte, ilt_t, ilt_f, ile_t, ile_f, ieq_t, ieq_f, jb_T, jb_F, jb_t, jb_f]
      exact hQ.a c hM1 h0
    · rw [if_neg hd] at hQ
      simp (disch := first | assumption | omega) only [RS_0, RS_1, RS_2, RS_3, RS_4, RS_5, RS_6, RS_7, RS_8, RS_9, RS_10, RS_11, RS_12, RS_13, RS_14, RS_15, RS_16, RS_17, RS_18, RS_19, RS_20, RS_21, RS_22, RS_23, RS_24, RS_25, RS_26, RS_27, RS_28, RS_29, RS_30, RS_31, RS_32, RS_33, RS_34, RS_35, RS_36, ji_add, ji_sub, ji_mul, ji_neg, ji_lit0, ji_ofNat, ji_lt, ji_le, ji_eq, ji_nat, ji_in, ji_rem, ji_div, jl_of, xl_lt, xl_gt, xl_eq, qV_at, qI_at, qJ_at, qD_at, qA_at, qA_no, nb0, nb1, cat_r, cat_i, Option.some.injEq, exists_eq_left', true_and, and_true, if_true, if_false, ite_not, not_true_eq_false, not_false_eq_true, Sum.inr.injEq, exists_eq_right', true_or, or_true, and_self, Int.cast_ofNat_Int, reduceCtorEq, or_false, false_or, false_and, and_false, jb_zero, lt7_0, lt7_1, lt7_2, lt7_3, lt7_4, lt7_5, lt7_6, uj_X9_end_19, c_X9_end_1, c_X9_end_2, c_X9_end_3, uj_X9_end_19, f_isLink hS1 hR1 hz, hn, g_t0 hS1, f_nextTo hS1 hR1 hz hx.1 hx.2.1, hd, ↓reduceIte, ilt_t, ilt_f, ile_t, ile_f, ieq_t, ieq_f, jb_T, jb_F, jb_t, jb_f]
      exact hQ.a c hM1 h0
  · rw [if_neg hn] at hQ
    simp (disch := first | assumption | omega) only [RS_0, RS_1, RS_2, RS_3, RS_4, RS_5, RS_6, RS_7, RS_8, RS_9, RS_10, RS_11, RS_12, RS_13, RS_14, RS_15, RS_16, RS_17, RS_18, RS_19, RS_20, RS_21, RS_22, RS_23, RS_24, RS_25, RS_26, RS_27, RS_28, RS_29, RS_30, RS_31, RS_32, RS_33, RS_34, RS_35, RS_36, ji_add, ji_sub, ji_mul, ji_neg, ji_lit0, ji_ofNat, ji_lt, ji_le, ji_eq, ji_nat, ji_in, ji_rem, ji_div, jl_of, xl_lt, xl_gt, xl_eq, qV_at, qI_at, qJ_at, qD_at, qA_at, qA_no, nb0, nb1, cat_r, cat_i, Option.some.injEq, exists_eq_left', true_and, and_true, if_true, if_false, ite_not, not_true_eq_false, not_false_eq_true, Sum.inr.injEq, exists_eq_right', true_or, or_true, and_self, Int.cast_ofNat_Int, reduceCtorEq, or_false, false_or, false_and, and_false, jb_zero, lt7_0, lt7_1, lt7_2, lt7_3, lt7_4, lt7_5, lt7_6, uj_X9_end_19, c_X9_end_1, c_X9_end_2, c_X9_end_3, uj_X9_end_19, f_isLink hS1 hR1 hz, jb_eqf hn, g_t1 hS1, ↓reduceIte, ilt_t, ilt_f, ile_t, ile_f, ieq_t, ieq_f, jb_T, jb_F, jb_t, jb_f]
    exact hQ.x (by decide) c hM1 _
theorem r_lesson (hM : MS μ m A) (hi : INV A) {n l : Int} (n1 : -2147483648 ≤ n) (n2 : n < 2147483648) (l1 : -2147483648 ≤ l) (l2 : l < 2147483648) (hQ : RQ μ m Q (A, oc1 ((0 ≤ n ∧ n < A.1.2.2.1) ∧ isl A.1.1 A.1.2.1 A.1.2.2.1 l = true) (les A.2.1 n l))) : s_X9_lesson μ [.ref m, .int (ji n), .int (ji l)] Q X := by
  have hS := hM.1
  have hB := hi.1.1.1
  have hz := hB.z
  have hw := hB.1
  have hbz := hB.2.1
  rw [u_X9_lesson]
  refine ⟨RS_0 hS, ?_⟩
  obtain ⟨hS1, hR1, hM1, h0, c⟩ := hM.nul hi
  generalize sI μ 298 m (ji 0) = ν at *
  unfold oc1 at hQ
  by_cases hn : 0 ≤ n ∧ n < A.1.2.2.1
  · by_cases hl : isl A.1.1 A.1.2.1 A.1.2.2.1 l = true
    · rw [if_pos ⟨hn, hl⟩] at hQ
      have hb := isl_b hB.g hl
      simp (disch := first | assumption | omega) only [RS_0, RS_1, RS_2, RS_3, RS_4, RS_5, RS_6, RS_7, RS_8, RS_9, RS_10, RS_11, RS_12, RS_13, RS_14, RS_15, RS_16, RS_17, RS_18, RS_19, RS_20, RS_21, RS_22, RS_23, RS_24, RS_25, RS_26, RS_27, RS_28, RS_29, RS_30, RS_31, RS_32, RS_33, RS_34, RS_35, RS_36, ji_add, ji_sub, ji_mul, ji_neg, ji_lit0, ji_ofNat, ji_lt, ji_le, ji_eq, ji_nat, ji_in, ji_rem, ji_div, jl_of, xl_lt, xl_gt, xl_eq, qV_at, qI_at, qJ_at, qD_at, qA_at, qA_no, nb0, nb1, cat_r, cat_i, Option.some.injEq, exists_eq_left', true_and, and_true, if_true, if_false, ite_not, not_true_eq_false, not_false_eq_true, Sum.inr.injEq, exists_eq_right', true_or, or_true, and_self, Int.cast_ofNat_Int, reduceCtorEq, or_false, false_or, false_and, and_false, jb_zero, lt7_0, lt7_1, lt7_2, lt7_3, lt7_4, lt7_5, lt7_6, uj_X9_lesson_22, c_X9_lesson_1, c_X9_lesson_2, c_X9_lesson_3, c_X9_lesson_4, c_X9_lesson_5, c_X9_lesson_6, uj_X9_lesson_22, g_isNode hS1 hR1 hi, f_isLink hS1 hR1 hz, hn, hl, g_t0 hS1, f_lessonOf hS1 hR1, ↓reduceIte, ilt_t, ilt_f, ile_t, ile_f, ieq_t, ieq_f, jb_T, jb_F, jb_t, jb_f]
      exact hQ.a c hM1 h0
    · rw [if_neg (fun q => hl q.2)] at hQ
      simp (disch := first | assumption | omega) only [RS_0, RS_1, RS_2, RS_3, RS_4, RS_5, RS_6, RS_7, RS_8, RS_9, RS_10, RS_11, RS_12, RS_13, RS_14, RS_15, RS_16, RS_17, RS_18, RS_19, RS_20, RS_21, RS_22, RS_23, RS_24, RS_25, RS_26, RS_27, RS_28, RS_29, RS_30, RS_31, RS_32, RS_33, RS_34, RS_35, RS_36, ji_add, ji_sub, ji_mul, ji_neg, ji_lit0, ji_ofNat, ji_lt, ji_le, ji_eq, ji_nat, ji_in, ji_rem, ji_div, jl_of, xl_lt, xl_gt, xl_eq, qV_at, qI_at, qJ_at, qD_at, qA_at, qA_no, nb0, nb1, cat_r, cat_i, Option.some.injEq, exists_eq_left', true_and, and_true, if_true, if_false, ite_not, not_true_eq_false, not_false_eq_true, Sum.inr.injEq, exists_eq_right', true_or, or_true, and_self, Int.cast_ofNat_Int, reduceCtorEq, or_false, false_or, false_and, and_false, jb_zero, lt7_0, lt7_1, lt7_2, lt7_3, lt7_4, lt7_5, lt7_6, uj_X9_lesson_22, c_X9_lesson_1, c_X9_lesson_2, c_X9_lesson_3, c_X9_lesson_4, c_X9_lesson_5, c_X9_lesson_6, uj_X9_lesson_22, g_isNode hS1 hR1 hi, f_isLink hS1 hR1 hz, hn, jb_eqf hl, g_t1 hS1, ↓reduceIte, ilt_t, ilt_f, ile_t, ile_f, ieq_t, ieq_f, jb_T, jb_F, jb_t, jb_f]
      exact hQ.x (by decide) c hM1 _
  · rw [if_neg (fun q => hn q.1)] at hQ
    simp (disch := first | assumption | omega) only [RS_0, RS_1, RS_2, RS_3, RS_4, RS_5, RS_6, RS_7, RS_8, RS_9, RS_10, RS_11, RS_12, RS_13, RS_14, RS_15, RS_16, RS_17, RS_18, RS_19, RS_20, RS_21, RS_22, RS_23, RS_24, RS_25, RS_26, RS_27, RS_28, RS_29, RS_30, RS_31, RS_32, RS_33, RS_34, RS_35, RS_36, ji_add, ji_sub, ji_mul, ji_neg, ji_lit0, ji_ofNat, ji_lt, ji_le, ji_eq, ji_nat, ji_in, ji_rem, ji_div, jl_of, xl_lt, xl_gt, xl_eq, qV_at, qI_at, qJ_at, qD_at, qA_at, qA_no, nb0, nb1, cat_r, cat_i, Option.some.injEq, exists_eq_left', true_and, and_true, if_true, if_false, ite_not, not_true_eq_false, not_false_eq_true, Sum.inr.injEq, exists_eq_right', true_or, or_true, and_self, Int.cast_ofNat_Int, reduceCtorEq, or_false, false_or, false_and, and_false, jb_zero, lt7_0, lt7_1, lt7_2, lt7_3, lt7_4, lt7_5, lt7_6, uj_X9_lesson_22, c_X9_lesson_1, c_X9_lesson_2, c_X9_lesson_3, c_X9_lesson_4, c_X9_lesson_5, c_X9_lesson_6, uj_X9_lesson_22, g_isNode hS1 hR1 hi, jb_eqf hn, g_t1 hS1, ↓reduceIte, ilt_t, ilt_f, ile_t, ile_f, ieq_t, ieq_f, jb_T, jb_F, jb_t, jb_f]
    exact hQ.x (by decide) c hM1 _
theorem r_distance (hM : MS μ m A) (hi : INV A) {n l : Int} (n1 : -2147483648 ≤ n) (n2 : n < 2147483648) (l1 : -2147483648 ≤ l) (l2 : l < 2147483648) (hQ : RQ μ m Q (A, oc1 ((0 ≤ n ∧ n < A.1.2.2.1) ∧ 0 ≤ l ∧ l < A.1.2.2.1) (dst A.1.1 n l))) : s_X9_distance μ [.ref m, .int (ji n), .int (ji l)] Q X := by
  have hS := hM.1
  have hB := hi.1.1.1
  have hz := hB.z
  have hw := hB.1
  have hbz := hB.2.1
  rw [u_X9_distance]
  refine ⟨RS_0 hS, ?_⟩
  obtain ⟨hS1, hR1, hM1, h0, c⟩ := hM.nul hi
  generalize sI μ 298 m (ji 0) = ν at *
  unfold oc1 at hQ
  have hno := fun Q X => g_noTwo (Q := Q) (X := X) hS1 hR1 hi n1 n2 l1 l2
  by_cases hn : (0 ≤ n ∧ n < A.1.2.2.1) ∧ 0 ≤ l ∧ l < A.1.2.2.1
  · rw [if_pos hn] at hQ
    simp (disch := first | assumption | omega) only [RS_0, RS_1, RS_2, RS_3, RS_4, RS_5, RS_6, RS_7, RS_8, RS_9, RS_10, RS_11, RS_12, RS_13, RS_14, RS_15, RS_16, RS_17, RS_18, RS_19, RS_20, RS_21, RS_22, RS_23, RS_24, RS_25, RS_26, RS_27, RS_28, RS_29, RS_30, RS_31, RS_32, RS_33, RS_34, RS_35, RS_36, ji_add, ji_sub, ji_mul, ji_neg, ji_lit0, ji_ofNat, ji_lt, ji_le, ji_eq, ji_nat, ji_in, ji_rem, ji_div, jl_of, xl_lt, xl_gt, xl_eq, qV_at, qI_at, qJ_at, qD_at, qA_at, qA_no, nb0, nb1, cat_r, cat_i, Option.some.injEq, exists_eq_left', true_and, and_true, if_true, if_false, ite_not, not_true_eq_false, not_false_eq_true, Sum.inr.injEq, exists_eq_right', true_or, or_true, and_self, Int.cast_ofNat_Int, reduceCtorEq, or_false, false_or, false_and, and_false, jb_zero, lt7_0, lt7_1, lt7_2, lt7_3, lt7_4, lt7_5, lt7_6, c_X9_distance_1, c_X9_distance_2, hno, hn, f_distanceOf hS1 hR1 hz, ↓reduceIte, ilt_t, ilt_f, ile_t, ile_f, ieq_t, ieq_f, jb_T, jb_F, jb_t, jb_f]
    exact hQ.a c hM1 h0
  · rw [if_neg hn] at hQ
    simp (disch := first | assumption | omega) only [RS_0, RS_1, RS_2, RS_3, RS_4, RS_5, RS_6, RS_7, RS_8, RS_9, RS_10, RS_11, RS_12, RS_13, RS_14, RS_15, RS_16, RS_17, RS_18, RS_19, RS_20, RS_21, RS_22, RS_23, RS_24, RS_25, RS_26, RS_27, RS_28, RS_29, RS_30, RS_31, RS_32, RS_33, RS_34, RS_35, RS_36, ji_add, ji_sub, ji_mul, ji_neg, ji_lit0, ji_ofNat, ji_lt, ji_le, ji_eq, ji_nat, ji_in, ji_rem, ji_div, jl_of, xl_lt, xl_gt, xl_eq, qV_at, qI_at, qJ_at, qD_at, qA_at, qA_no, nb0, nb1, cat_r, cat_i, Option.some.injEq, exists_eq_left', true_and, and_true, if_true, if_false, ite_not, not_true_eq_false, not_false_eq_true, Sum.inr.injEq, exists_eq_right', true_or, or_true, and_self, Int.cast_ofNat_Int, reduceCtorEq, or_false, false_or, false_and, and_false, jb_zero, lt7_0, lt7_1, lt7_2, lt7_3, lt7_4, lt7_5, lt7_6, c_X9_distance_1, c_X9_distance_2, hno, hn, ↓reduceIte, ilt_t, ilt_f, ile_t, ile_f, ieq_t, ieq_f, jb_T, jb_F, jb_t, jb_f]
    exact hQ.x (by decide) c hM1 _
theorem g_isPacket (hS : RS ν m) (hR : RW ν m A.1.1 A.1.2.1 A.1.2.2.2 A.2.1) (hi : INV A) {z : Int} (z1 : -2147483648 ≤ z) (z2 : z < 2147483648) : s_X9_isPacket ν [.ref m, .int (ji z)] Q X = Q (some (.int (jb (0 ≤ z ∧ z < A.2.1 1)))) ν := f_isPacket hS hR hi.1.1.1 z1 z2
theorem r_trail (hM : MS μ m A) (hi : INV A) {n l : Int} (n1 : -2147483648 ≤ n) (n2 : n < 2147483648) (l1 : -2147483648 ≤ l) (l2 : l < 2147483648) (hQ : RQ μ m Q (A, oc1 ((0 ≤ n ∧ n < A.2.1 1) ∧ 0 ≤ l) (trn A.2.1 (2666 + 120 * n) l))) : s_X9_trail μ [.ref m, .int (ji n), .int (ji l)] Q X := by
  have hS := hM.1
  have hB := hi.1.1.1
  have hz := hB.z
  have hw := hB.1
  have hbz := hB.2.1
  rw [u_X9_trail]
  refine ⟨RS_0 hS, ?_⟩
  obtain ⟨hS1, hR1, hM1, h0, c⟩ := hM.nul hi
  generalize sI μ 298 m (ji 0) = ν at *
  unfold oc1 at hQ
  by_cases hn : 0 ≤ n ∧ n < A.2.1 1
  · have hb := (BD_p hB n hn.1 hn.2).1
    have hof := fun Q X j j0 j1 => f_of (Q := Q) (X := X) hS1 hR1 hn.1 (show n < 25 by omega) (j := j) j0 j1
    by_cases hl : 0 ≤ l
    · rw [if_pos ⟨hn, hl⟩] at hQ
      unfold trn at hQ
      by_cases ht : l < A.2.1 (2666 + 120 * n + 6)
      · rw [if_pos ⟨hl, ht⟩, show 2666 + 120 * n + 11 + l = 2666 + 120 * n + (11 + l) from by omega] at hQ
        simp (disch := first | assumption | omega) only [RS_0, RS_1, RS_2, RS_3, RS_4, RS_5, RS_6, RS_7, RS_8, RS_9, RS_10, RS_11, RS_12, RS_13, RS_14, RS_15, RS_16, RS_17, RS_18, RS_19, RS_20, RS_21, RS_22, RS_23, RS_24, RS_25, RS_26, RS_27, RS_28, RS_29, RS_30, RS_31, RS_32, RS_33, RS_34, RS_35, RS_36, ji_add, ji_sub, ji_mul, ji_neg, ji_lit0, ji_ofNat, ji_lt, ji_le, ji_eq, ji_nat, ji_in, ji_rem, ji_div, jl_of, xl_lt, xl_gt, xl_eq, qV_at, qI_at, qJ_at, qD_at, qA_at, qA_no, nb0, nb1, cat_r, cat_i, Option.some.injEq, exists_eq_left', true_and, and_true, if_true, if_false, ite_not, not_true_eq_false, not_false_eq_true, Sum.inr.injEq, exists_eq_right', true_or, or_true, and_self, Int.cast_ofNat_Int, reduceCtorEq, or_false, false_or, false_and, and_false, jb_zero, lt7_0, lt7_1, lt7_2, lt7_3, lt7_4, lt7_5, lt7_6, uj_X9_trail_23, c_X9_trail_1, c_X9_trail_2, c_X9_trail_3, c_X9_trail_4, uj_X9_trail_23, g_isPacket hS1 hR1 hi, hn, g_t0 hS1, hof, ↓reduceIte, ilt_t, ilt_f, ile_t, ile_f, ieq_t, ieq_f, jb_T, jb_F, jb_t, jb_f]
        exact hQ.a c hM1 h0
      · rw [if_neg (fun q => ht q.2)] at hQ
        simp (disch := first | assumption | omega) only [RS_0, RS_1, RS_2, RS_3, RS_4, RS_5, RS_6, RS_7, RS_8, RS_9, RS_10, RS_11, RS_12, RS_13, RS_14, RS_15, RS_16, RS_17, RS_18, RS_19, RS_20, RS_21, RS_22, RS_23, RS_24, RS_25, RS_26, RS_27, RS_28, RS_29, RS_30, RS_31, RS_32, RS_33, RS_34, RS_35, RS_36, ji_add, ji_sub, ji_mul, ji_neg, ji_lit0, ji_ofNat, ji_lt, ji_le, ji_eq, ji_nat, ji_in, ji_rem, ji_div, jl_of, xl_lt, xl_gt, xl_eq, qV_at, qI_at, qJ_at, qD_at, qA_at, qA_no, nb0, nb1, cat_r, cat_i, Option.some.injEq, exists_eq_left', true_and, and_true, if_true, if_false, ite_not, not_true_eq_false, not_false_eq_true, Sum.inr.injEq, exists_eq_right', true_or, or_true, and_self, Int.cast_ofNat_Int, reduceCtorEq, or_false, false_or, false_and, and_false, jb_zero, lt7_0, lt7_1, lt7_2, lt7_3, lt7_4, lt7_5, lt7_6, uj_X9_trail_23, c_X9_trail_1, c_X9_trail_2, c_X9_trail_3, c_X9_trail_4, uj_X9_trail_23, g_isPacket hS1 hR1 hi, hn, g_t0 hS1, hof, ↓reduceIte, ilt_t, ilt_f, ile_t, ile_f, ieq_t, ieq_f, jb_T, jb_F, jb_t, jb_f]
        exact hQ.a c hM1 h0
    · rw [if_neg (fun q => hl q.2)] at hQ
      simp (disch := first | assumption | omega) only [RS_0, RS_1, RS_2, RS_3, RS_4, RS_5, RS_6, RS_7, RS_8, RS_9, RS_10, RS_11, RS_12, RS_13, RS_14, RS_15, RS_16, RS_17, RS_18, RS_19, RS_20, RS_21, RS_22, RS_23, RS_24, RS_25, RS_26, RS_27, RS_28, RS_29, RS_30, RS_31, RS_32, RS_33, RS_34, RS_35, RS_36, ji_add, ji_sub, ji_mul, ji_neg, ji_lit0, ji_ofNat, ji_lt, ji_le, ji_eq, ji_nat, ji_in, ji_rem, ji_div, jl_of, xl_lt, xl_gt, xl_eq, qV_at, qI_at, qJ_at, qD_at, qA_at, qA_no, nb0, nb1, cat_r, cat_i, Option.some.injEq, exists_eq_left', true_and, and_true, if_true, if_false, ite_not, not_true_eq_false, not_false_eq_true, Sum.inr.injEq, exists_eq_right', true_or, or_true, and_self, Int.cast_ofNat_Int, reduceCtorEq, or_false, false_or, false_and, and_false, jb_zero, lt7_0, lt7_1, lt7_2, lt7_3, lt7_4, lt7_5, lt7_6, uj_X9_trail_23, c_X9_trail_1, c_X9_trail_2, c_X9_trail_3, c_X9_trail_4, uj_X9_trail_23, g_isPacket hS1 hR1 hi, hn, g_t1 hS1, ↓reduceIte, ilt_t, ilt_f, ile_t, ile_f, ieq_t, ieq_f, jb_T, jb_F, jb_t, jb_f]
      exact hQ.x (by decide) c hM1 _
  · rw [if_neg (fun q => hn q.1)] at hQ
    simp (disch := first | assumption | omega) only [RS_0, RS_1, RS_2, RS_3, RS_4, RS_5, RS_6, RS_7, RS_8, RS_9, RS_10, RS_11, RS_12, RS_13, RS_14, RS_15, RS_16, RS_17, RS_18, RS_19, RS_20, RS_21, RS_22, RS_23, RS_24, RS_25, RS_26, RS_27, RS_28, RS_29, RS_30, RS_31, RS_32, RS_33, RS_34, RS_35, RS_36, ji_add, ji_sub, ji_mul, ji_neg, ji_lit0, ji_ofNat, ji_lt, ji_le, ji_eq, ji_nat, ji_in, ji_rem, ji_div, jl_of, xl_lt, xl_gt, xl_eq, qV_at, qI_at, qJ_at, qD_at, qA_at, qA_no, nb0, nb1, cat_r, cat_i, Option.some.injEq, exists_eq_left', true_and, and_true, if_true, if_false, ite_not, not_true_eq_false, not_false_eq_true, Sum.inr.injEq, exists_eq_right', true_or, or_true, and_self, Int.cast_ofNat_Int, reduceCtorEq, or_false, false_or, false_and, and_false, jb_zero, lt7_0, lt7_1, lt7_2, lt7_3, lt7_4, lt7_5, lt7_6, uj_X9_trail_23, c_X9_trail_1, c_X9_trail_2, c_X9_trail_3, c_X9_trail_4, uj_X9_trail_23, g_isPacket hS1 hR1 hi, jb_eqf hn, g_t1 hS1, ↓reduceIte, ilt_t, ilt_f, ile_t, ile_f, ieq_t, ieq_f, jb_T, jb_F, jb_t, jb_f]
    exact hQ.x (by decide) c hM1 _
theorem r_isVisited (hM : MS μ m A) (hi : INV A) {n l : Int} (n1 : -2147483648 ≤ n) (n2 : n < 2147483648) (l1 : -2147483648 ≤ l) (l2 : l < 2147483648) (hQ : RQ μ m Q (A, oc1 ((0 ≤ n ∧ n < A.2.1 1) ∧ 0 ≤ l ∧ l < A.1.2.2.1) (if vis A.2.1 (2666 + 120 * n) l = true then 1 else 0))) : s_X9_isVisited μ [.ref m, .int (ji n), .int (ji l)] Q X := by
  have hS := hM.1
  have hB := hi.1.1.1
  have hz := hB.z
  have hw := hB.1
  have hbz := hB.2.1
  rw [u_X9_isVisited]
  refine ⟨RS_0 hS, ?_⟩
  obtain ⟨hS1, hR1, hM1, h0, c⟩ := hM.nul hi
  generalize sI μ 298 m (ji 0) = ν at *
  unfold oc1 at hQ
  by_cases hn : 0 ≤ n ∧ n < A.2.1 1
  · by_cases hl : 0 ≤ l ∧ l < A.1.2.2.1
    · rw [if_pos ⟨hn, hl⟩] at hQ
      have hv := fun Q X => f_isVisitedNow (Q := Q) (X := X) hS1 hR1 hn.1 (show n < 25 by omega) (BD_p hB n hn.1 hn.2) hl.1 (show l < 36 by omega)
      by_cases hd : vis A.2.1 (2666 + 120 * n) l = true
      · rw [if_pos hd] at hQ
        simp (disch := first | assumption | omega) only [RS_0, RS_1, RS_2, RS_3, RS_4, RS_5, RS_6, RS_7, RS_8, RS_9, RS_10, RS_11, RS_12, RS_13, RS_14, RS_15, RS_16, RS_17, RS_18, RS_19, RS_20, RS_21, RS_22, RS_23, RS_24, RS_25, RS_26, RS_27, RS_28, RS_29, RS_30, RS_31, RS_32, RS_33, RS_34, RS_35, RS_36, ji_add, ji_sub, ji_mul, ji_neg, ji_lit0, ji_ofNat, ji_lt, ji_le, ji_eq, ji_nat, ji_in, ji_rem, ji_div, jl_of, xl_lt, xl_gt, xl_eq, qV_at, qI_at, qJ_at, qD_at, qA_at, qA_no, nb0, nb1, cat_r, cat_i, Option.some.injEq, exists_eq_left', true_and, and_true, if_true, if_false, ite_not, not_true_eq_false, not_false_eq_true, Sum.inr.injEq, exists_eq_right', true_or, or_true, and_self, Int.cast_ofNat_Int, reduceCtorEq, or_false, false_or, false_and, and_false, jb_zero, lt7_0, lt7_1, lt7_2, lt7_3, lt7_4, lt7_5, lt7_6, uj_X9_isVisited_27, c_X9_isVisited_1, c_X9_isVisited_2, c_X9_isVisited_3, c_X9_isVisited_4, uj_X9_isVisited_27, g_isPacket hS1 hR1 hi, g_isNode hS1 hR1 hi, hn, hl, g_t0 hS1, hv, hd, nb1, ↓reduceIte, ilt_t, ilt_f, ile_t, ile_f, ieq_t, ieq_f, jb_T, jb_F, jb_t, jb_f]
        exact hQ.a c hM1 h0
      · rw [if_neg hd] at hQ
        simp (disch := first | assumption | omega) only [RS_0, RS_1, RS_2, RS_3, RS_4, RS_5, RS_6, RS_7, RS_8, RS_9, RS_10, RS_11, RS_12, RS_13, RS_14, RS_15, RS_16, RS_17, RS_18, RS_19, RS_20, RS_21, RS_22, RS_23, RS_24, RS_25, RS_26, RS_27, RS_28, RS_29, RS_30, RS_31, RS_32, RS_33, RS_34, RS_35, RS_36, ji_add, ji_sub, ji_mul, ji_neg, ji_lit0, ji_ofNat, ji_lt, ji_le, ji_eq, ji_nat, ji_in, ji_rem, ji_div, jl_of, xl_lt, xl_gt, xl_eq, qV_at, qI_at, qJ_at, qD_at, qA_at, qA_no, nb0, nb1, cat_r, cat_i, Option.some.injEq, exists_eq_left', true_and, and_true, if_true, if_false, ite_not, not_true_eq_false, not_false_eq_true, Sum.inr.injEq, exists_eq_right', true_or, or_true, and_self, Int.cast_ofNat_Int, reduceCtorEq, or_false, false_or, false_and, and_false, jb_zero, lt7_0, lt7_1, lt7_2, lt7_3, lt7_4, lt7_5, lt7_6, uj_X9_isVisited_27, c_X9_isVisited_1, c_X9_isVisited_2, c_X9_isVisited_3, c_X9_isVisited_4, uj_X9_isVisited_27, g_isPacket hS1 hR1 hi, g_isNode hS1 hR1 hi, hn, hl, g_t0 hS1, hv, jb_eqf hd, nb0, ↓reduceIte, ilt_t, ilt_f, ile_t, ile_f, ieq_t, ieq_f, jb_T, jb_F, jb_t, jb_f]
        exact hQ.a c hM1 h0
    · rw [if_neg (fun q => hl q.2)] at hQ
      simp (disch := first | assumption | omega) only [RS_0, RS_1, RS_2, RS_3, RS_4, RS_5, RS_6, RS_7, RS_8, RS_9, RS_10, RS_11, RS_12, RS_13, RS_14, RS_15, RS_16, RS_17, RS_18, RS_19, RS_20, RS_21, RS_22, RS_23, RS_24, RS_25, RS_26, RS_27, RS_28, RS_29, RS_30, RS_31, RS_32, RS_33, RS_34, RS_35, RS_36, ji_add, ji_sub, ji_mul, ji_neg, ji_lit0, ji_ofNat, ji_lt, ji_le, ji_eq, ji_nat, ji_in, ji_rem, ji_div, jl_of, xl_lt, xl_gt, xl_eq, qV_at, qI_at, qJ_at, qD_at, qA_at, qA_no, nb0, nb1, cat_r, cat_i, Option.some.injEq, exists_eq_left', true_and, and_true, if_true, if_false, ite_not, not_true_eq_false, not_false_eq_true, Sum.inr.injEq, exists_eq_right', true_or, or_true, and_self, Int.cast_ofNat_Int, reduceCtorEq, or_false, false_or, false_and, and_false, jb_zero, lt7_0, lt7_1, lt7_2, lt7_3, lt7_4, lt7_5, lt7_6, uj_X9_isVisited_27, c_X9_isVisited_1, c_X9_isVisited_2, c_X9_isVisited_3, c_X9_isVisited_4, uj_X9_isVisited_27, g_isPacket hS1 hR1 hi, g_isNode hS1 hR1 hi, hn, jb_eqf hl, g_t1 hS1, nb0, ↓reduceIte, ilt_t, ilt_f, ile_t, ile_f, ieq_t, ieq_f, jb_T, jb_F, jb_t, jb_f]
      exact hQ.x (by decide) c hM1 _
  · rw [if_neg (fun q => hn q.1)] at hQ
    simp (disch := first | assumption | omega) only [RS_0, RS_1, RS_2, RS_3, RS_4, RS_5, RS_6, RS_7, RS_8, RS_9, RS_10, RS_11, RS_12, RS_13, RS_14, RS_15, RS_16, RS_17, RS_18, RS_19, RS_20, RS_21, RS_22, RS_23, RS_24, RS_25, RS_26, RS_27, RS_28, RS_29, RS_30, RS_31, RS_32, RS_33, RS_34, RS_35, RS_36, ji_add, ji_sub, ji_mul, ji_neg, ji_lit0, ji_ofNat, ji_lt, ji_le, ji_eq, ji_nat, ji_in, ji_rem, ji_div, jl_of, xl_lt, xl_gt, xl_eq, qV_at, qI_at, qJ_at, qD_at, qA_at, qA_no, nb0, nb1, cat_r, cat_i, Option.some.injEq, exists_eq_left', true_and, and_true, if_true, if_false, ite_not, not_true_eq_false, not_false_eq_true, Sum.inr.injEq, exists_eq_right', true_or, or_true, and_self, Int.cast_ofNat_Int, reduceCtorEq, or_false, false_or, false_and, and_false, jb_zero, lt7_0, lt7_1, lt7_2, lt7_3, lt7_4, lt7_5, lt7_6, uj_X9_isVisited_27, c_X9_isVisited_1, c_X9_isVisited_2, c_X9_isVisited_3, c_X9_isVisited_4, uj_X9_isVisited_27, g_isPacket hS1 hR1 hi, jb_eqf hn, g_t1 hS1, nb0, ↓reduceIte, ilt_t, ilt_f, ile_t, ile_f, ieq_t, ieq_f, jb_T, jb_F, jb_t, jb_f]
    exact hQ.x (by decide) c hM1 _
theorem r_found (hM : MS μ m A) (hi : INV A) {n l : Int} (n1 : -2147483648 ≤ n) (n2 : n < 2147483648) (l1 : -2147483648 ≤ l) (l2 : l < 2147483648) (hQ : RQ μ m Q (A, oc1 ((0 ≤ n ∧ n < A.2.1 1) ∧ isl A.1.1 A.1.2.1 A.1.2.2.1 l = true) (fnd A.2.1 (2666 + 120 * n) l))) : s_X9_found μ [.ref m, .int (ji n), .int (ji l)] Q X := by
  have hS := hM.1
  have hB := hi.1.1.1
  have hz := hB.z
  have hw := hB.1
  have hbz := hB.2.1
  rw [u_X9_found]
  refine ⟨RS_0 hS, ?_⟩
  obtain ⟨hS1, hR1, hM1, h0, c⟩ := hM.nul hi
  generalize sI μ 298 m (ji 0) = ν at *
  unfold oc1 at hQ
  by_cases hn : 0 ≤ n ∧ n < A.2.1 1
  · by_cases hl : isl A.1.1 A.1.2.1 A.1.2.2.1 l = true
    · rw [if_pos ⟨hn, hl⟩] at hQ
      have hb := isl_b hB.g hl
      have hof := fun Q X => f_of (Q := Q) (X := X) hS1 hR1 hn.1 (show n < 25 by omega) (j := 47 + l) (by omega) (by omega)
      rw [fnd_in hb.1 hb.2, show 2666 + 120 * n + 47 + l = 2666 + 120 * n + (47 + l) from by omega] at hQ
      simp (disch := first | assumption | omega) only [RS_0, RS_1, RS_2, RS_3, RS_4, RS_5, RS_6, RS_7, RS_8, RS_9, RS_10, RS_11, RS_12, RS_13, RS_14, RS_15, RS_16, RS_17, RS_18, RS_19, RS_20, RS_21, RS_22, RS_23, RS_24, RS_25, RS_26, RS_27, RS_28, RS_29, RS_30, RS_31, RS_32, RS_33, RS_34, RS_35, RS_36, ji_add, ji_sub, ji_mul, ji_neg, ji_lit0, ji_ofNat, ji_lt, ji_le, ji_eq, ji_nat, ji_in, ji_rem, ji_div, jl_of, xl_lt, xl_gt, xl_eq, qV_at, qI_at, qJ_at, qD_at, qA_at, qA_no, nb0, nb1, cat_r, cat_i, Option.some.injEq, exists_eq_left', true_and, and_true, if_true, if_false, ite_not, not_true_eq_false, not_false_eq_true, Sum.inr.injEq, exists_eq_right', true_or, or_true, and_self, Int.cast_ofNat_Int, reduceCtorEq, or_false, false_or, false_and, and_false, jb_zero, lt7_0, lt7_1, lt7_2, lt7_3, lt7_4, lt7_5, lt7_6, uj_X9_found_27, c_X9_found_1, c_X9_found_2, c_X9_found_3, c_X9_found_4, uj_X9_found_27, g_isPacket hS1 hR1 hi, f_isLink hS1 hR1 hz, hn, hl, g_t0 hS1, hof, ↓reduceIte, ilt_t, ilt_f, ile_t, ile_f, ieq_t, ieq_f, jb_T, jb_F, jb_t, jb_f]
      exact hQ.a c hM1 h0
    · rw [if_neg (fun q => hl q.2)] at hQ
      simp (disch := first | assumption | omega) only [RS_0, RS_1, RS_2, RS_3, RS_4, RS_5, RS_6, RS_7, RS_8, RS_9, RS_10, RS_11, RS_12, RS_13, RS_14, RS_15, RS_16, RS_17, RS_18, RS_19, RS_20, RS_21, RS_22, RS_23, RS_24, RS_25, RS_26, RS_27, RS_28, RS_29, RS_30, RS_31, RS_32, RS_33, RS_34, RS_35, RS_36, ji_add, ji_sub, ji_mul, ji_neg, ji_lit0, ji_ofNat, ji_lt, ji_le, ji_eq, ji_nat, ji_in, ji_rem, ji_div, jl_of, xl_lt, xl_gt, xl_eq, qV_at, qI_at, qJ_at, qD_at, qA_at, qA_no, nb0, nb1, cat_r, cat_i, Option.some.injEq, exists_eq_left', true_and, and_true, if_true, if_false, ite_not, not_true_eq_false, not_false_eq_true, Sum.inr.injEq, exists_eq_right', true_or, or_true, and_self, Int.cast_ofNat_Int, reduceCtorEq, or_false, false_or, false_and, and_false, jb_zero, lt7_0, lt7_1, lt7_2, lt7_3, lt7_4, lt7_5, lt7_6, uj_X9_found_27, c_X9_found_1, c_X9_found_2, c_X9_found_3, c_X9_found_4, uj_X9_found_27, g_isPacket hS1 hR1 hi, f_isLink hS1 hR1 hz, hn, jb_eqf hl, g_t1 hS1, ↓reduceIte, ilt_t, ilt_f, ile_t, ile_f, ieq_t, ieq_f, jb_T, jb_F, jb_t, jb_f]
      exact hQ.x (by decide) c hM1 _
  · rw [if_neg (fun q => hn q.1)] at hQ
    simp (disch := first | assumption | omega) only [RS_0, RS_1, RS_2, RS_3, RS_4, RS_5, RS_6, RS_7, RS_8, RS_9, RS_10, RS_11, RS_12, RS_13, RS_14, RS_15, RS_16, RS_17, RS_18, RS_19, RS_20, RS_21, RS_22, RS_23, RS_24, RS_25, RS_26, RS_27, RS_28, RS_29, RS_30, RS_31, RS_32, RS_33, RS_34, RS_35, RS_36, ji_add, ji_sub, ji_mul, ji_neg, ji_lit0, ji_ofNat, ji_lt, ji_le, ji_eq, ji_nat, ji_in, ji_rem, ji_div, jl_of, xl_lt, xl_gt, xl_eq, qV_at, qI_at, qJ_at, qD_at, qA_at, qA_no, nb0, nb1, cat_r, cat_i, Option.some.injEq, exists_eq_left', true_and, and_true, if_true, if_false, ite_not, not_true_eq_false, not_false_eq_true, Sum.inr.injEq, exists_eq_right', true_or, or_true, and_self, Int.cast_ofNat_Int, reduceCtorEq, or_false, false_or, false_and, and_false, jb_zero, lt7_0, lt7_1, lt7_2, lt7_3, lt7_4, lt7_5, lt7_6, uj_X9_found_27, c_X9_found_1, c_X9_found_2, c_X9_found_3, c_X9_found_4, uj_X9_found_27, g_isPacket hS1 hR1 hi, jb_eqf hn, g_t1 hS1, ↓reduceIte, ilt_t, ilt_f, ile_t, ile_f, ieq_t, ieq_f, jb_T, jb_F, jb_t, jb_f]
    exact hQ.x (by decide) c hM1 _
theorem r_choice (hM : MS μ m A) (hi : INV A) {n : Int} (n1 : -2147483648 ≤ n) (n2 : n < 2147483648) (hQ : RQ μ m Q (A, oc1 (0 ≤ n ∧ n < A.2.1 1) (if A.2.1 (2666 + 120 * n + 3) = 0 then bst A.1.1 A.1.2.1 A.1.2.2.1 A.1.2.2.2 A.2.1 (2666 + 120 * n) else -1))) : s_X9_choice μ [.ref m, .int (ji n)] Q X := by
  have hS := hM.1
  have hB := hi.1.1.1
  have hz := hB.z
  have hw := hB.1
  have hbz := hB.2.1
  rw [u_X9_choice]
  refine ⟨RS_0 hS, ?_⟩
  obtain ⟨hS1, hR1, hM1, h0, c⟩ := hM.nul hi
  generalize sI μ 298 m (ji 0) = ν at *
  unfold oc1 at hQ
  by_cases hn : 0 ≤ n ∧ n < A.2.1 1
  · rw [if_pos hn] at hQ
    have hb := (BD_p hB n hn.1 hn.2).1
    have hof := fun Q X => f_of (Q := Q) (X := X) hS1 hR1 hn.1 (show n < 25 by omega) (j := 3) (by omega) (by omega)
    by_cases h3 : A.2.1 (2666 + 120 * n + 3) = 0
    · rw [if_pos h3] at hQ
      simp (disch := first | assumption | omega) only [RS_0, RS_1, RS_2, RS_3, RS_4, RS_5, RS_6, RS_7, RS_8, RS_9, RS_10, RS_11, RS_12, RS_13, RS_14, RS_15, RS_16, RS_17, RS_18, RS_19, RS_20, RS_21, RS_22, RS_23, RS_24, RS_25, RS_26, RS_27, RS_28, RS_29, RS_30, RS_31, RS_32, RS_33, RS_34, RS_35, RS_36, ji_add, ji_sub, ji_mul, ji_neg, ji_lit0, ji_ofNat, ji_lt, ji_le, ji_eq, ji_nat, ji_in, ji_rem, ji_div, jl_of, xl_lt, xl_gt, xl_eq, qV_at, qI_at, qJ_at, qD_at, qA_at, qA_no, nb0, nb1, cat_r, cat_i, Option.some.injEq, exists_eq_left', true_and, and_true, if_true, if_false, ite_not, not_true_eq_false, not_false_eq_true, Sum.inr.injEq, exists_eq_right', true_or, or_true, and_self, Int.cast_ofNat_Int, reduceCtorEq, or_false, false_or, false_and, and_false, jb_zero, lt7_0, lt7_1, lt7_2, lt7_3, lt7_4, lt7_5, lt7_6, uj_X9_choice_19, c_X9_choice_1, c_X9_choice_2, c_X9_choice_3, c_X9_choice_4, uj_X9_choice_19, g_isPacket hS1 hR1 hi, hn, g_t0 hS1, hof, h3, f_chosen hS1 hR1 hz hB hn.1 hn.2, ↓reduceIte, ilt_t, ilt_f, ile_t, ile_f, ieq_t, ieq_f, jb_T, jb_F, jb_t, jb_f]
      exact hQ.a c hM1 h0
    · rw [if_neg h3] at hQ
      simp (disch := first | assumption | omega) only [RS_0, RS_1, RS_2, RS_3, RS_4, RS_5, RS_6, RS_7, RS_8, RS_9, RS_10, RS_11, RS_12, RS_13, RS_14, RS_15, RS_16, RS_17, RS_18, RS_19, RS_20, RS_21, RS_22, RS_23, RS_24, RS_25, RS_26, RS_27, RS_28, RS_29, RS_30, RS_31, RS_32, RS_33, RS_34, RS_35, RS_36, ji_add, ji_sub, ji_mul, ji_neg, ji_lit0, ji_ofNat, ji_lt, ji_le, ji_eq, ji_nat, ji_in, ji_rem, ji_div, jl_of, xl_lt, xl_gt, xl_eq, qV_at, qI_at, qJ_at, qD_at, qA_at, qA_no, nb0, nb1, cat_r, cat_i, Option.some.injEq, exists_eq_left', true_and, and_true, if_true, if_false, ite_not, not_true_eq_false, not_false_eq_true, Sum.inr.injEq, exists_eq_right', true_or, or_true, and_self, Int.cast_ofNat_Int, reduceCtorEq, or_false, false_or, false_and, and_false, jb_zero, lt7_0, lt7_1, lt7_2, lt7_3, lt7_4, lt7_5, lt7_6, uj_X9_choice_19, c_X9_choice_1, c_X9_choice_2, c_X9_choice_3, c_X9_choice_4, uj_X9_choice_19, g_isPacket hS1 hR1 hi, hn, g_t0 hS1, hof, h3, ↓reduceIte, ilt_t, ilt_f, ile_t, ile_f, ieq_t, ieq_f, jb_T, jb_F, jb_t, jb_f]
      exact hQ.a c hM1 h0
  · rw [if_neg hn] at hQ
    simp (disch := first | assumption | omega) only [RS_0, RS_1, RS_2, RS_3, RS_4, RS_5, RS_6, RS_7, RS_8, RS_9, RS_10, RS_11, RS_12, RS_13, RS_14, RS_15, RS_16, RS_17, RS_18, RS_19, RS_20, RS_21, RS_22, RS_23, RS_24, RS_25, RS_26, RS_27, RS_28, RS_29, RS_30, RS_31, RS_32, RS_33, RS_34, RS_35, RS_36, ji_add, ji_sub, ji_mul, ji_neg, ji_lit0, ji_ofNat, ji_lt, ji_le, ji_eq, ji_nat, ji_in, ji_rem, ji_div, jl_of, xl_lt, xl_gt, xl_eq, qV_at, qI_at, qJ_at, qD_at, qA_at, qA_no, nb0, nb1, cat_r, cat_i, Option.some.injEq, exists_eq_left', true_and, and_true, if_true, if_false, ite_not, not_true_eq_false, not_false_eq_true, Sum.inr.injEq, exists_eq_right', true_or, or_true, and_self, Int.cast_ofNat_Int, reduceCtorEq, or_false, false_or, false_and, and_false, jb_zero, lt7_0, lt7_1, lt7_2, lt7_3, lt7_4, lt7_5, lt7_6, uj_X9_choice_19, c_X9_choice_1, c_X9_choice_2, c_X9_choice_3, c_X9_choice_4, uj_X9_choice_19, g_isPacket hS1 hR1 hi, jb_eqf hn, g_t1 hS1, ↓reduceIte, ilt_t, ilt_f, ile_t, ile_f, ieq_t, ieq_f, jb_T, jb_F, jb_t, jb_f]
    exact hQ.x (by decide) c hM1 _
theorem g_reasonNow (hS : RS ν m) (hR : RW ν m w h s Z) (hz : SZ w h N s) (hB : BD w h N s Z) {n y : Int} (hn : 0 ≤ n ∧ n < Z 1) (y0 : 0 ≤ y) (y1 : y < 4) : s_X9_reasonNow ν [.ref m, .int (ji n), .int (ji y)] Q X = Q (some (.int (ji (rsn w h N s Z (2666 + 120 * n) y)))) ν := by
  have hbz := hB.2.1
  have hb := (BD_p hB n hn.1 hn.2).1
  have hof := fun Q X => f_of (Q := Q) (X := X) hS hR hn.1 (show n < 25 by omega) (j := 3) (by omega) (by omega)
  have hob := obs_b (w := w) (h := h) (N := N) (s := s) (Z := Z) (2666 + 120 * n) y
  have hbb := bst_b hB (2666 + 120 * n)
  unfold rsn
  by_cases h3 : Z (2666 + 120 * n + 3) = 0
  · by_cases ho : obs w h N s Z (2666 + 120 * n) y = 0
    · by_cases h1 : bst w h N s Z (2666 + 120 * n) = y <;> simp (disch := first | assumption | omega) only [RS_0, RS_1, RS_2, RS_3, RS_4, RS_5, RS_6, RS_7, RS_8, RS_9, RS_10, RS_11, RS_12, RS_13, RS_14, RS_15, RS_16, RS_17, RS_18, RS_19, RS_20, RS_21, RS_22, RS_23, RS_24, RS_25, RS_26, RS_27, RS_28, RS_29, RS_30, RS_31, RS_32, RS_33, RS_34, RS_35, RS_36, ji_add, ji_sub, ji_mul, ji_neg, ji_lit0, ji_ofNat, ji_lt, ji_le, ji_eq, ji_nat, ji_in, ji_rem, ji_div, jl_of, xl_lt, xl_gt, xl_eq, qV_at, qI_at, qJ_at, qD_at, qA_at, qA_no, nb0, nb1, cat_r, cat_i, Option.some.injEq, exists_eq_left', true_and, and_true, if_true, if_false, ite_not, not_true_eq_false, not_false_eq_true, Sum.inr.injEq, exists_eq_right', true_or, or_true, and_self, Int.cast_ofNat_Int, reduceCtorEq, or_false, false_or, false_and, and_false, jb_zero, lt7_0, lt7_1, lt7_2, lt7_3, lt7_4, lt7_5, lt7_6, c_X9_reasonNow_1, c_X9_reasonNow_2, c_X9_reasonNow_3, u_X9_reasonNow, hof, h3, ho, f_barred hS hR hz hB hn.1 hn.2, f_chosen hS hR hz hB hn.1 hn.2, h1, ↓reduceIte, ilt_t, ilt_f, ile_t, ile_f, ieq_t, ieq_f, jb_T, jb_F, jb_t, jb_f]
    · simp (disch := first | assumption | omega) only [RS_0, RS_1, RS_2, RS_3, RS_4, RS_5, RS_6, RS_7, RS_8, RS_9, RS_10, RS_11, RS_12, RS_13, RS_14, RS_15, RS_16, RS_17, RS_18, RS_19, RS_20, RS_21, RS_22, RS_23, RS_24, RS_25, RS_26, RS_27, RS_28, RS_29, RS_30, RS_31, RS_32, RS_33, RS_34, RS_35, RS_36, ji_add, ji_sub, ji_mul, ji_neg, ji_lit0, ji_ofNat, ji_lt, ji_le, ji_eq, ji_nat, ji_in, ji_rem, ji_div, jl_of, xl_lt, xl_gt, xl_eq, qV_at, qI_at, qJ_at, qD_at, qA_at, qA_no, nb0, nb1, cat_r, cat_i, Option.some.injEq, exists_eq_left', true_and, and_true, if_true, if_false, ite_not, not_true_eq_false, not_false_eq_true, Sum.inr.injEq, exists_eq_right', true_or, or_true, and_self, Int.cast_ofNat_Int, reduceCtorEq, or_false, false_or, false_and, and_false, jb_zero, lt7_0, lt7_1, lt7_2, lt7_3, lt7_4, lt7_5, lt7_6, c_X9_reasonNow_1, c_X9_reasonNow_2, c_X9_reasonNow_3, u_X9_reasonNow, hof, h3, f_barred hS hR hz hB hn.1 hn.2, ↓reduceIte, ilt_t, ilt_f, ile_t, ile_f, ieq_t, ieq_f, jb_T, jb_F, jb_t, jb_f]
  · simp (disch := first | assumption | omega) only [RS_0, RS_1, RS_2, RS_3, RS_4, RS_5, RS_6, RS_7, RS_8, RS_9, RS_10, RS_11, RS_12, RS_13, RS_14, RS_15, RS_16, RS_17, RS_18, RS_19, RS_20, RS_21, RS_22, RS_23, RS_24, RS_25, RS_26, RS_27, RS_28, RS_29, RS_30, RS_31, RS_32, RS_33, RS_34, RS_35, RS_36, ji_add, ji_sub, ji_mul, ji_neg, ji_lit0, ji_ofNat, ji_lt, ji_le, ji_eq, ji_nat, ji_in, ji_rem, ji_div, jl_of, xl_lt, xl_gt, xl_eq, qV_at, qI_at, qJ_at, qD_at, qA_at, qA_no, nb0, nb1, cat_r, cat_i, Option.some.injEq, exists_eq_left', true_and, and_true, if_true, if_false, ite_not, not_true_eq_false, not_false_eq_true, Sum.inr.injEq, exists_eq_right', true_or, or_true, and_self, Int.cast_ofNat_Int, reduceCtorEq, or_false, false_or, false_and, and_false, jb_zero, lt7_0, lt7_1, lt7_2, lt7_3, lt7_4, lt7_5, lt7_6, c_X9_reasonNow_1, c_X9_reasonNow_2, c_X9_reasonNow_3, u_X9_reasonNow, hof, ↓reduceIte, ilt_t, ilt_f, ile_t, ile_f, ieq_t, ieq_f, jb_T, jb_F, jb_t, jb_f]
theorem r_reason (hM : MS μ m A) (hi : INV A) {n y : Int} (n1 : -2147483648 ≤ n) (n2 : n < 2147483648) (y1 : -2147483648 ≤ y) (y2 : y < 2147483648) (hQ : RQ μ m Q (A, oc2 (0 ≤ n ∧ n < A.2.1 1) (0 ≤ y ∧ y < 4) (rsn A.1.1 A.1.2.1 A.1.2.2.1 A.1.2.2.2 A.2.1 (2666 + 120 * n) y))) : s_X9_reason μ [.ref m, .int (ji n), .int (ji y)] Q X := by
  have hS := hM.1
  have hB := hi.1.1.1
  have hz := hB.z
  have hw := hB.1
  have hbz := hB.2.1
  rw [u_X9_reason]
  refine ⟨RS_0 hS, ?_⟩
  obtain ⟨hS1, hR1, hM1, h0, c⟩ := hM.nul hi
  generalize sI μ 298 m (ji 0) = ν at *
  unfold oc2 at hQ
  by_cases hn : 0 ≤ n ∧ n < A.2.1 1
  · rw [if_pos hn] at hQ
    by_cases hy : 0 ≤ y ∧ y < 4
    · rw [if_pos hy] at hQ
      simp (disch := first | assumption | omega) only [RS_0, RS_1, RS_2, RS_3, RS_4, RS_5, RS_6, RS_7, RS_8, RS_9, RS_10, RS_11, RS_12, RS_13, RS_14, RS_15, RS_16, RS_17, RS_18, RS_19, RS_20, RS_21, RS_22, RS_23, RS_24, RS_25, RS_26, RS_27, RS_28, RS_29, RS_30, RS_31, RS_32, RS_33, RS_34, RS_35, RS_36, ji_add, ji_sub, ji_mul, ji_neg, ji_lit0, ji_ofNat, ji_lt, ji_le, ji_eq, ji_nat, ji_in, ji_rem, ji_div, jl_of, xl_lt, xl_gt, xl_eq, qV_at, qI_at, qJ_at, qD_at, qA_at, qA_no, nb0, nb1, cat_r, cat_i, Option.some.injEq, exists_eq_left', true_and, and_true, if_true, if_false, ite_not, not_true_eq_false, not_false_eq_true, Sum.inr.injEq, exists_eq_right', true_or, or_true, and_self, Int.cast_ofNat_Int, reduceCtorEq, or_false, false_or, false_and, and_false, jb_zero, lt7_0, lt7_1, lt7_2, lt7_3, lt7_4, lt7_5, lt7_6, uj_X9_reason_19, c_X9_reason_1, c_X9_reason_2, c_X9_reason_3, c_X9_reason_4, c_X9_reason_5, c_X9_reason_6, c_X9_reason_7, uj_X9_reason_19, g_isPacket hS1 hR1 hi, hn, f_isWay, hy, g_t0 hS1, g_reasonNow hS1 hR1 hz hB hn hy.1 hy.2, ↓reduceIte, ilt_t, ilt_f, ile_t, ile_f, ieq_t, ieq_f, jb_T, jb_F, jb_t, jb_f]
      exact hQ.a c hM1 h0
    · rw [if_neg hy] at hQ
      simp (disch := first | assumption | omega) only [RS_0, RS_1, RS_2, RS_3, RS_4, RS_5, RS_6, RS_7, RS_8, RS_9, RS_10, RS_11, RS_12, RS_13, RS_14, RS_15, RS_16, RS_17, RS_18, RS_19, RS_20, RS_21, RS_22, RS_23, RS_24, RS_25, RS_26, RS_27, RS_28, RS_29, RS_30, RS_31, RS_32, RS_33, RS_34, RS_35, RS_36, ji_add, ji_sub, ji_mul, ji_neg, ji_lit0, ji_ofNat, ji_lt, ji_le, ji_eq, ji_nat, ji_in, ji_rem, ji_div, jl_of, xl_lt, xl_gt, xl_eq, qV_at, qI_at, qJ_at, qD_at, qA_at, qA_no, nb0, nb1, cat_r, cat_i, Option.some.injEq, exists_eq_left', true_and, and_true, if_true, if_false, ite_not, not_true_eq_false, not_false_eq_true, Sum.inr.injEq, exists_eq_right', true_or, or_true, and_self, Int.cast_ofNat_Int, reduceCtorEq, or_false, false_or, false_and, and_false, jb_zero, lt7_0, lt7_1, lt7_2, lt7_3, lt7_4, lt7_5, lt7_6, uj_X9_reason_19, c_X9_reason_1, c_X9_reason_2, c_X9_reason_3, c_X9_reason_4, c_X9_reason_5, c_X9_reason_6, c_X9_reason_7, uj_X9_reason_19, g_isPacket hS1 hR1 hi, hn, f_isWay, jb_eqf hy, g_t0 hS1, g_t1 hS1, ↓reduceIte, ilt_t, ilt_f, ile_t, ile_f, ieq_t, ieq_f, jb_T, jb_F, jb_t, jb_f]
      exact hQ.x (by decide) c hM1 _
  · rw [if_neg hn] at hQ
    simp (disch := first | assumption | omega) only [RS_0, RS_1, RS_2, RS_3, RS_4, RS_5, RS_6, RS_7, RS_8, RS_9, RS_10, RS_11, RS_12, RS_13, RS_14, RS_15, RS_16, RS_17, RS_18, RS_19, RS_20, RS_21, RS_22, RS_23, RS_24, RS_25, RS_26, RS_27, RS_28, RS_29, RS_30, RS_31, RS_32, RS_33, RS_34, RS_35, RS_36, ji_add, ji_sub, ji_mul, ji_neg, ji_lit0, ji_ofNat, ji_lt, ji_le, ji_eq, ji_nat, ji_in, ji_rem, ji_div, jl_of, xl_lt, xl_gt, xl_eq, qV_at, qI_at, qJ_at, qD_at, qA_at, qA_no, nb0, nb1, cat_r, cat_i, Option.some.injEq, exists_eq_left', true_and, and_true, if_true, if_false, ite_not, not_true_eq_false, not_false_eq_true, Sum.inr.injEq, exists_eq_right', true_or, or_true, and_self, Int.cast_ofNat_Int, reduceCtorEq, or_false, false_or, false_and, and_false, jb_zero, lt7_0, lt7_1, lt7_2, lt7_3, lt7_4, lt7_5, lt7_6, uj_X9_reason_19, c_X9_reason_1, c_X9_reason_2, c_X9_reason_3, c_X9_reason_4, c_X9_reason_5, c_X9_reason_6, c_X9_reason_7, uj_X9_reason_19, g_isPacket hS1 hR1 hi, jb_eqf hn, g_t1 hS1, ↓reduceIte, ilt_t, ilt_f, ile_t, ile_f, ieq_t, ieq_f, jb_T, jb_F, jb_t, jb_f]
    exact hQ.x (by decide) c hM1 _
theorem g_causeNow (hS : RS ν m) (hR : RW ν m w h s Z) (hz : SZ w h N s) (hB : BD w h N s Z) {n y : Int} (hn : 0 ≤ n ∧ n < Z 1) (y0 : 0 ≤ y) (y1 : y < 4) : s_X9_causeNow ν [.ref m, .int (ji n), .int (ji y)] Q X = Q (some (.int (ji (cau w h N s Z (2666 + 120 * n) y)))) ν := by
  have hbz := hB.2.1
  have hw := hB.1
  have hb := (BD_p hB n hn.1 hn.2).1
  have hof := fun Q X j j0 j1 => f_of (Q := Q) (X := X) hS hR hn.1 (show n < 25 by omega) (j := j) j0 j1
  have hr := rsn_b (w := w) (h := h) (N := N) (s := s) (Z := Z) (2666 + 120 * n) y
  have hl := lka_b (z := Z (2666 + 120 * n + 4)) (y := y) hB.g
  have hrn := fun Q X => g_reasonNow (Q := Q) (X := X) hS hR hz hB hn y0 y1
  have hlk := fun Q X => f_linkOf (Q := Q) (X := X) hS hR hz (n := Z (2666 + 120 * n + 4)) (y := y) (by omega) (by omega) y0 y1
  have ob : rsn w h N s Z (2666 + 120 * n) y = 2 ∨ rsn w h N s Z (2666 + 120 * n) y = 3 → lka w h N (Z (2666 + 120 * n + 4)) y ≠ -1 := by
    intro q z
    unfold rsn obs at q
    rw [if_pos z] at q
    (repeat' split at q) <;> omega
  unfold cau
  by_cases r2 : rsn w h N s Z (2666 + 120 * n) y = 2
  · have hl2 := ob (Or.inl r2)
    rw [if_pos r2, fnd_in (by omega) (by omega), show 2666 + 120 * n + 47 + lka w h N (Z (2666 + 120 * n + 4)) y = 2666 + 120 * n + (47 + lka w h N (Z (2666 + 120 * n + 4)) y) from by omega]
    simp (disch := first | assumption | omega) only [RS_0, RS_1, RS_2, RS_3, RS_4, RS_5, RS_6, RS_7, RS_8, RS_9, RS_10, RS_11, RS_12, RS_13, RS_14, RS_15, RS_16, RS_17, RS_18, RS_19, RS_20, RS_21, RS_22, RS_23, RS_24, RS_25, RS_26, RS_27, RS_28, RS_29, RS_30, RS_31, RS_32, RS_33, RS_34, RS_35, RS_36, ji_add, ji_sub, ji_mul, ji_neg, ji_lit0, ji_ofNat, ji_lt, ji_le, ji_eq, ji_nat, ji_in, ji_rem, ji_div, jl_of, xl_lt, xl_gt, xl_eq, qV_at, qI_at, qJ_at, qD_at, qA_at, qA_no, nb0, nb1, cat_r, cat_i, Option.some.injEq, exists_eq_left', true_and, and_true, if_true, if_false, ite_not, not_true_eq_false, not_false_eq_true, Sum.inr.injEq, exists_eq_right', true_or, or_true, and_self, Int.cast_ofNat_Int, reduceCtorEq, or_false, false_or, false_and, and_false, jb_zero, lt7_0, lt7_1, lt7_2, lt7_3, lt7_4, lt7_5, lt7_6, c_X9_causeNow_1, c_X9_causeNow_2, c_X9_causeNow_3, c_X9_causeNow_4, c_X9_causeNow_5, c_X9_causeNow_6, c_X9_causeNow_7, u_X9_causeNow, hrn, r2, hof, hlk, ↓reduceIte, ilt_t, ilt_f, ile_t, ile_f, ieq_t, ieq_f, jb_T, jb_F, jb_t, jb_f]
  · by_cases r3 : rsn w h N s Z (2666 + 120 * n) y = 3
    · have hl2 := ob (Or.inr r3)
      simp (disch := first | assumption | omega) only [RS_0, RS_1, RS_2, RS_3, RS_4, RS_5, RS_6, RS_7, RS_8, RS_9, RS_10, RS_11, RS_12, RS_13, RS_14, RS_15, RS_16, RS_17, RS_18, RS_19, RS_20, RS_21, RS_22, RS_23, RS_24, RS_25, RS_26, RS_27, RS_28, RS_29, RS_30, RS_31, RS_32, RS_33, RS_34, RS_35, RS_36, ji_add, ji_sub, ji_mul, ji_neg, ji_lit0, ji_ofNat, ji_lt, ji_le, ji_eq, ji_nat, ji_in, ji_rem, ji_div, jl_of, xl_lt, xl_gt, xl_eq, qV_at, qI_at, qJ_at, qD_at, qA_at, qA_no, nb0, nb1, cat_r, cat_i, Option.some.injEq, exists_eq_left', true_and, and_true, if_true, if_false, ite_not, not_true_eq_false, not_false_eq_true, Sum.inr.injEq, exists_eq_right', true_or, or_true, and_self, Int.cast_ofNat_Int, reduceCtorEq, or_false, false_or, false_and, and_false, jb_zero, lt7_0, lt7_1, lt7_2, lt7_3, lt7_4, lt7_5, lt7_6, c_X9_causeNow_1, c_X9_causeNow_2, c_X9_causeNow_3, c_X9_causeNow_4, c_X9_causeNow_5, c_X9_causeNow_6, c_X9_causeNow_7, u_X9_causeNow, hrn, r3, hof, hlk, f_lessonOf hS hR, ↓reduceIte, ilt_t, ilt_f, ile_t, ile_f, ieq_t, ieq_f, jb_T, jb_F, jb_t, jb_f]
    · by_cases r5 : rsn w h N s Z (2666 + 120 * n) y = 5
      · simp (disch := first | assumption | omega) only [RS_0, RS_1, RS_2, RS_3, RS_4, RS_5, RS_6, RS_7, RS_8, RS_9, RS_10, RS_11, RS_12, RS_13, RS_14, RS_15, RS_16, RS_17, RS_18, RS_19, RS_20, RS_21, RS_22, RS_23, RS_24, RS_25, RS_26, RS_27, RS_28, RS_29, RS_30, RS_31, RS_32, RS_33, RS_34, RS_35, RS_36, ji_add, ji_sub, ji_mul, ji_neg, ji_lit0, ji_ofNat, ji_lt, ji_le, ji_eq, ji_nat, ji_in, ji_rem, ji_div, jl_of, xl_lt, xl_gt, xl_eq, qV_at, qI_at, qJ_at, qD_at, qA_at, qA_no, nb0, nb1, cat_r, cat_i, Option.some.injEq, exists_eq_left', true_and, and_true, if_true, if_false, ite_not, not_true_eq_false, not_false_eq_true, Sum.inr.injEq, exists_eq_right', true_or, or_true, and_self, Int.cast_ofNat_Int, reduceCtorEq, or_false, false_or, false_and, and_false, jb_zero, lt7_0, lt7_1, lt7_2, lt7_3, lt7_4, lt7_5, lt7_6, c_X9_causeNow_1, c_X9_causeNow_2, c_X9_causeNow_3, c_X9_causeNow_4, c_X9_causeNow_5, c_X9_causeNow_6, c_X9_causeNow_7, u_X9_causeNow, hrn, r5, hof, hlk, f_chosen hS hR hz hB hn.1 hn.2, ↓reduceIte, ilt_t, ilt_f, ile_t, ile_f, ieq_t, ieq_f, jb_T, jb_F, jb_t, jb_f]
      · simp (disch := first | assumption | omega) only [RS_0, RS_1, RS_2, RS_3, RS_4, RS_5, RS_6, RS_7, RS_8, RS_9, RS_10, RS_11, RS_12, RS_13, RS_14, RS_15, RS_16, RS_17, RS_18, RS_19, RS_20, RS_21, RS_22, RS_23, RS_24, RS_25, RS_26, RS_27, RS_28, RS_29, RS_30, RS_31, RS_32, RS_33, RS_34, RS_35, RS_36, ji_add, ji_sub, ji_mul, ji_neg, ji_lit0, ji_ofNat, ji_lt, ji_le, ji_eq, ji_nat, ji_in, ji_rem, ji_div, jl_of, xl_lt, xl_gt, xl_eq, qV_at, qI_at, qJ_at, qD_at, qA_at, qA_no, nb0, nb1, cat_r, cat_i, Option.some.injEq, exists_eq_left', true_and, and_true, if_true, if_false, ite_not, not_true_eq_false, not_false_eq_true, Sum.inr.injEq, exists_eq_right', true_or, or_true, and_self, Int.cast_ofNat_Int, reduceCtorEq, or_false, false_or, false_and, and_false, jb_zero, lt7_0, lt7_1, lt7_2, lt7_3, lt7_4, lt7_5, lt7_6, c_X9_causeNow_1, c_X9_causeNow_2, c_X9_causeNow_3, c_X9_causeNow_4, c_X9_causeNow_5, c_X9_causeNow_6, c_X9_causeNow_7, u_X9_causeNow, hrn, r2, r3, r5, hof, hlk, ↓reduceIte, ilt_t, ilt_f, ile_t, ile_f, ieq_t, ieq_f, jb_T, jb_F, jb_t, jb_f]
theorem r_cause (hM : MS μ m A) (hi : INV A) {n y : Int} (n1 : -2147483648 ≤ n) (n2 : n < 2147483648) (y1 : -2147483648 ≤ y) (y2 : y < 2147483648) (hQ : RQ μ m Q (A, oc2 (0 ≤ n ∧ n < A.2.1 1) (0 ≤ y ∧ y < 4) (cau A.1.1 A.1.2.1 A.1.2.2.1 A.1.2.2.2 A.2.1 (2666 + 120 * n) y))) : s_X9_cause μ [.ref m, .int (ji n), .int (ji y)] Q X := by
  have hS := hM.1
  have hB := hi.1.1.1
  have hz := hB.z
  have hw := hB.1
  have hbz := hB.2.1
  rw [u_X9_cause]
  refine ⟨RS_0 hS, ?_⟩
  obtain ⟨hS1, hR1, hM1, h0, c⟩ := hM.nul hi
  generalize sI μ 298 m (ji 0) = ν at *
  unfold oc2 at hQ
  by_cases hn : 0 ≤ n ∧ n < A.2.1 1
  · rw [if_pos hn] at hQ
    by_cases hy : 0 ≤ y ∧ y < 4
    · rw [if_pos hy] at hQ
      simp (disch := first | assumption | omega) only [RS_0, RS_1, RS_2, RS_3, RS_4, RS_5, RS_6, RS_7, RS_8, RS_9, RS_10, RS_11, RS_12, RS_13, RS_14, RS_15, RS_16, RS_17, RS_18, RS_19, RS_20, RS_21, RS_22, RS_23, RS_24, RS_25, RS_26, RS_27, RS_28, RS_29, RS_30, RS_31, RS_32, RS_33, RS_34, RS_35, RS_36, ji_add, ji_sub, ji_mul, ji_neg, ji_lit0, ji_ofNat, ji_lt, ji_le, ji_eq, ji_nat, ji_in, ji_rem, ji_div, jl_of, xl_lt, xl_gt, xl_eq, qV_at, qI_at, qJ_at, qD_at, qA_at, qA_no, nb0, nb1, cat_r, cat_i, Option.some.injEq, exists_eq_left', true_and, and_true, if_true, if_false, ite_not, not_true_eq_false, not_false_eq_true, Sum.inr.injEq, exists_eq_right', true_or, or_true, and_self, Int.cast_ofNat_Int, reduceCtorEq, or_false, false_or, false_and, and_false, jb_zero, lt7_0, lt7_1, lt7_2, lt7_3, lt7_4, lt7_5, lt7_6, uj_X9_cause_19, c_X9_cause_1, c_X9_cause_2, c_X9_cause_3, c_X9_cause_4, c_X9_cause_5, c_X9_cause_6, c_X9_cause_7, uj_X9_cause_19, g_isPacket hS1 hR1 hi, hn, f_isWay, hy, g_t0 hS1, g_causeNow hS1 hR1 hz hB hn hy.1 hy.2, ↓reduceIte, ilt_t, ilt_f, ile_t, ile_f, ieq_t, ieq_f, jb_T, jb_F, jb_t, jb_f]
      exact hQ.a c hM1 h0
    · rw [if_neg hy] at hQ
      simp (disch := first | assumption | omega) only [RS_0, RS_1, RS_2, RS_3, RS_4, RS_5, RS_6, RS_7, RS_8, RS_9, RS_10, RS_11, RS_12, RS_13, RS_14, RS_15, RS_16, RS_17, RS_18, RS_19, RS_20, RS_21, RS_22, RS_23, RS_24, RS_25, RS_26, RS_27, RS_28, RS_29, RS_30, RS_31, RS_32, RS_33, RS_34, RS_35, RS_36, ji_add, ji_sub, ji_mul, ji_neg, ji_lit0, ji_ofNat, ji_lt, ji_le, ji_eq, ji_nat, ji_in, ji_rem, ji_div, jl_of, xl_lt, xl_gt, xl_eq, qV_at, qI_at, qJ_at, qD_at, qA_at, qA_no, nb0, nb1, cat_r, cat_i, Option.some.injEq, exists_eq_left', true_and, and_true, if_true, if_false, ite_not, not_true_eq_false, not_false_eq_true, Sum.inr.injEq, exists_eq_right', true_or, or_true, and_self, Int.cast_ofNat_Int, reduceCtorEq, or_false, false_or, false_and, and_false, jb_zero, lt7_0, lt7_1, lt7_2, lt7_3, lt7_4, lt7_5, lt7_6, uj_X9_cause_19, c_X9_cause_1, c_X9_cause_2, c_X9_cause_3, c_X9_cause_4, c_X9_cause_5, c_X9_cause_6, c_X9_cause_7, uj_X9_cause_19, g_isPacket hS1 hR1 hi, hn, f_isWay, jb_eqf hy, g_t0 hS1, g_t1 hS1, ↓reduceIte, ilt_t, ilt_f, ile_t, ile_f, ieq_t, ieq_f, jb_T, jb_F, jb_t, jb_f]
      exact hQ.x (by decide) c hM1 _
  · rw [if_neg hn] at hQ
    simp (disch := first | assumption | omega) only [RS_0, RS_1, RS_2, RS_3, RS_4, RS_5, RS_6, RS_7, RS_8, RS_9, RS_10, RS_11, RS_12, RS_13, RS_14, RS_15, RS_16, RS_17, RS_18, RS_19, RS_20, RS_21, RS_22, RS_23, RS_24, RS_25, RS_26, RS_27, RS_28, RS_29, RS_30, RS_31, RS_32, RS_33, RS_34, RS_35, RS_36, ji_add, ji_sub, ji_mul, ji_neg, ji_lit0, ji_ofNat, ji_lt, ji_le, ji_eq, ji_nat, ji_in, ji_rem, ji_div, jl_of, xl_lt, xl_gt, xl_eq, qV_at, qI_at, qJ_at, qD_at, qA_at, qA_no, nb0, nb1, cat_r, cat_i, Option.some.injEq, exists_eq_left', true_and, and_true, if_true, if_false, ite_not, not_true_eq_false, not_false_eq_true, Sum.inr.injEq, exists_eq_right', true_or, or_true, and_self, Int.cast_ofNat_Int, reduceCtorEq, or_false, false_or, false_and, and_false, jb_zero, lt7_0, lt7_1, lt7_2, lt7_3, lt7_4, lt7_5, lt7_6, uj_X9_cause_19, c_X9_cause_1, c_X9_cause_2, c_X9_cause_3, c_X9_cause_4, c_X9_cause_5, c_X9_cause_6, c_X9_cause_7, uj_X9_cause_19, g_isPacket hS1 hR1 hi, jb_eqf hn, g_t1 hS1, ↓reduceIte, ilt_t, ilt_f, ile_t, ile_f, ieq_t, ieq_f, jb_T, jb_F, jb_t, jb_f]
    exact hQ.x (by decide) c hM1 _
end
