section
variable {μ : XM} {m : Nat} {w h N s : Int} {Z : Int → Int} {Q : XQ} {X : XX}
theorem g_mapsWith (hS : RS μ m) (hR : RW μ m w h s Z) (hB : BD w h N s Z) {v : Int} (v0 : 0 ≤ v) (v1 : v < 72) : s_X9_mapsWith μ [.ref m, .int (ji v)] Q X = Q (some (.int (ji (fcn Z v)))) μ := by
  have hbz := hB.2.1
  have r0 := hR.2.2.2 1 (by omega) (by omega)
  have e : fcn Z v = cntz (fun k => decide (Z ((2666 + 120 * k) + (47 + v)) ≠ -1)) 0 (Z 1).toNat 0 := cntz_congr _ _ _ (fun k k0 k1 => by
    rw [fnd_in v0 v1, Int.add_assoc])
  rw [e]
  rw [u_X9_mapsWith, l_X9_mapsWith_4, xseal_eq]
  refine fold_loop (fun mf x l => ln_X9_mapsWith_4 Q X mf [some (.ref m), some (.int (ji v)), some (.int (ji x)), some (.int (ji l))] [] μ 0 0) (fun x => Q (some (.int (ji x))) μ) (fun l x => if decide (Z ((2666 + 120 * l) + (47 + v)) ≠ -1) = true then x + 1 else x) (fun l x => 0 ≤ x ∧ x ≤ l) (Z 1) (fun mf x hx => ?_) (fun mf x l l0 l1 hx => ⟨?_, ?_⟩) _ 10000 (0) (0) (by omega) (by omega) (by omega) (by omega)
  · show ln_X9_mapsWith_4 Q X (mf + 1) [some (.ref m), some (.int (ji v)), some (.int (ji x)), some (.int (ji (Z 1)))] [] μ 0 0 = Q (some (.int (ji x))) μ
    rw [ul_X9_mapsWith_4]
    simp (disch := first | assumption | omega) only [RS_0, RS_1, RS_2, RS_3, RS_4, RS_5, RS_6, RS_7, RS_8, RS_9, RS_10, RS_11, RS_12, RS_13, RS_14, RS_15, RS_16, RS_17, RS_18, RS_19, RS_20, RS_21, RS_22, RS_23, RS_24, RS_25, RS_26, RS_27, RS_28, RS_29, RS_30, RS_31, RS_32, RS_33, RS_34, RS_35, RS_36, ji_add, ji_sub, ji_mul, ji_neg, ji_lit0, ji_ofNat, ji_lt, ji_le, ji_eq, ji_nat, ji_in, ji_rem, ji_div, jl_of, xl_lt, xl_gt, xl_eq, qV_at, qI_at, qJ_at, qD_at, qA_at, qA_no, nb0, nb1, cat_r, cat_i, Option.some.injEq, exists_eq_left', true_and, and_true, if_true, if_false, ite_not, not_true_eq_false, not_false_eq_true, Sum.inr.injEq, exists_eq_right', true_or, or_true, and_self, Int.cast_ofNat_Int, reduceCtorEq, or_false, false_or, false_and, and_false, jb_zero, lt7_0, lt7_1, lt7_2, lt7_3, lt7_4, lt7_5, lt7_6, c_X9_mapsWith_1, r0, ↓reduceIte, ilt_t, ilt_f, ile_t, ile_f, ieq_t, ieq_f, jb_T, jb_F, jb_t, jb_f]
  · show ln_X9_mapsWith_4 Q X (mf + 1) [some (.ref m), some (.int (ji v)), some (.int (ji x)), some (.int (ji l))] [] μ 0 0 = ln_X9_mapsWith_4 Q X mf [some (.ref m), some (.int (ji v)), some (.int (ji (if decide (Z ((2666 + 120 * l) + (47 + v)) ≠ -1) = true then x + 1 else x))), some (.int (ji (l + 1)))] [] μ 0 0
    rw [ul_X9_mapsWith_4]
    have hb := (BD_p hB l l0 l1).2.2.2 v v0 v1
    rw [Int.add_assoc (2666 + 120 * l)] at hb
    by_cases hv : Z ((2666 + 120 * l) + (47 + v)) = -1 <;> simp (disch := first | assumption | omega) only [RS_0, RS_1, RS_2, RS_3, RS_4, RS_5, RS_6, RS_7, RS_8, RS_9, RS_10, RS_11, RS_12, RS_13, RS_14, RS_15, RS_16, RS_17, RS_18, RS_19, RS_20, RS_21, RS_22, RS_23, RS_24, RS_25, RS_26, RS_27, RS_28, RS_29, RS_30, RS_31, RS_32, RS_33, RS_34, RS_35, RS_36, ji_add, ji_sub, ji_mul, ji_neg, ji_lit0, ji_ofNat, ji_lt, ji_le, ji_eq, ji_nat, ji_in, ji_rem, ji_div, jl_of, xl_lt, xl_gt, xl_eq, qV_at, qI_at, qJ_at, qD_at, qA_at, qA_no, nb0, nb1, cat_r, cat_i, Option.some.injEq, exists_eq_left', true_and, and_true, if_true, if_false, ite_not, not_true_eq_false, not_false_eq_true, Sum.inr.injEq, exists_eq_right', true_or, or_true, and_self, Int.cast_ofNat_Int, reduceCtorEq, or_false, false_or, false_and, and_false, jb_zero, lt7_0, lt7_1, lt7_2, lt7_3, lt7_4, lt7_5, lt7_6, c_X9_mapsWith_1, r0, f_of hS hR, hv, ne_eq, ↓reduceIte, ilt_t, ilt_f, ile_t, ile_f, ieq_t, ieq_f, jb_T, jb_F, jb_t, jb_f, Int.add_zero] <;> simp
  · show 0 ≤ (if decide (Z ((2666 + 120 * l) + (47 + v)) ≠ -1) = true then x + 1 else x) ∧ (if decide (Z ((2666 + 120 * l) + (47 + v)) ≠ -1) = true then x + 1 else x) ≤ (l + 1)
    split <;> omega
theorem fcn_b (hB : BD w h N s Z) (v : Int) : 0 ≤ fcn Z v ∧ fcn Z v ≤ 25 := by
  have := cntz_b (fun k => decide (fnd Z ((2666 + 120 * k)) v ≠ -1)) (Z 1).toNat 0 0
  have := hB.2.1
  unfold fcn
  omega
theorem g_mostFound (hS : RS μ m) (hR : RW μ m w h s Z) (hB : BD w h N s Z) : l_X9_mostFound_11 Q X [some (.ref m), some (.int (ji (-1))), some (.int (ji 0)), some (.int (ji 0))] [] μ 0 0 = Q (some (.int (ji (mxf (fcn Z) 72)))) μ := by
  unfold mxf
  rw [l_X9_mostFound_11, xseal_eq]
  refine fold_loop (fun mf x l => ln_X9_mostFound_11 Q X mf [some (.ref m), some (.int (ji x.1)), some (.int (ji x.2)), some (.int (ji l))] [] μ 0 0) (fun x => Q (some (.int (ji x.1))) μ) (fun l x => mxs (fcn Z) l x) (fun l x => -1 ≤ x.1 ∧ x.1 < 72 ∧ 0 ≤ x.2 ∧ x.2 ≤ 25) (72) (fun mf x hx => ?_) (fun mf x l l0 l1 hx => ⟨?_, ?_⟩) _ 10000 (0) ((-1, 0)) (by omega) (by omega) (by omega) (by decide)
  · show ln_X9_mostFound_11 Q X (mf + 1) [some (.ref m), some (.int (ji x.1)), some (.int (ji x.2)), some (.int (ji (72)))] [] μ 0 0 = Q (some (.int (ji x.1))) μ
    rw [ul_X9_mostFound_11]
    simp (disch := first | assumption | omega) only [RS_0, RS_1, RS_2, RS_3, RS_4, RS_5, RS_6, RS_7, RS_8, RS_9, RS_10, RS_11, RS_12, RS_13, RS_14, RS_15, RS_16, RS_17, RS_18, RS_19, RS_20, RS_21, RS_22, RS_23, RS_24, RS_25, RS_26, RS_27, RS_28, RS_29, RS_30, RS_31, RS_32, RS_33, RS_34, RS_35, RS_36, ji_add, ji_sub, ji_mul, ji_neg, ji_lit0, ji_ofNat, ji_lt, ji_le, ji_eq, ji_nat, ji_in, ji_rem, ji_div, jl_of, xl_lt, xl_gt, xl_eq, qV_at, qI_at, qJ_at, qD_at, qA_at, qA_no, nb0, nb1, cat_r, cat_i, Option.some.injEq, exists_eq_left', true_and, and_true, if_true, if_false, ite_not, not_true_eq_false, not_false_eq_true, Sum.inr.injEq, exists_eq_right', true_or, or_true, and_self, Int.cast_ofNat_Int, reduceCtorEq, or_false, false_or, false_and, and_false, jb_zero, lt7_0, lt7_1, lt7_2, lt7_3, lt7_4, lt7_5, lt7_6, c_X9_mostFound_1, c_X9_mostFound_2, ↓reduceIte, ilt_t, ilt_f, ile_t, ile_f, ieq_t, ieq_f, jb_T, jb_F, jb_t, jb_f]
  · show ln_X9_mostFound_11 Q X (mf + 1) [some (.ref m), some (.int (ji x.1)), some (.int (ji x.2)), some (.int (ji l))] [] μ 0 0 = ln_X9_mostFound_11 Q X mf [some (.ref m), some (.int (ji (mxs (fcn Z) l x).1)), some (.int (ji (mxs (fcn Z) l x).2)), some (.int (ji (l + 1)))] [] μ 0 0
    rw [ul_X9_mostFound_11]
    have hc := fcn_b hB l
    unfold mxs
    by_cases hm : x.2 < fcn Z l <;> simp (disch := first | assumption | omega) only [RS_0, RS_1, RS_2, RS_3, RS_4, RS_5, RS_6, RS_7, RS_8, RS_9, RS_10, RS_11, RS_12, RS_13, RS_14, RS_15, RS_16, RS_17, RS_18, RS_19, RS_20, RS_21, RS_22, RS_23, RS_24, RS_25, RS_26, RS_27, RS_28, RS_29, RS_30, RS_31, RS_32, RS_33, RS_34, RS_35, RS_36, ji_add, ji_sub, ji_mul, ji_neg, ji_lit0, ji_ofNat, ji_lt, ji_le, ji_eq, ji_nat, ji_in, ji_rem, ji_div, jl_of, xl_lt, xl_gt, xl_eq, qV_at, qI_at, qJ_at, qD_at, qA_at, qA_no, nb0, nb1, cat_r, cat_i, Option.some.injEq, exists_eq_left', true_and, and_true, if_true, if_false, ite_not, not_true_eq_false, not_false_eq_true, Sum.inr.injEq, exists_eq_right', true_or, or_true, and_self, Int.cast_ofNat_Int, reduceCtorEq, or_false, false_or, false_and, and_false, jb_zero, lt7_0, lt7_1, lt7_2, lt7_3, lt7_4, lt7_5, lt7_6, c_X9_mostFound_1, c_X9_mostFound_2, g_mapsWith hS hR hB, hm, ↓reduceIte, ilt_t, ilt_f, ile_t, ile_f, ieq_t, ieq_f, jb_T, jb_F, jb_t, jb_f]
  · show -1 ≤ (mxs (fcn Z) l x).1 ∧ (mxs (fcn Z) l x).1 < 72 ∧ 0 ≤ (mxs (fcn Z) l x).2 ∧ (mxs (fcn Z) l x).2 ≤ 25
    have hc := fcn_b hB l
    unfold mxs
    split
    · show -1 ≤ l ∧ l < 72 ∧ 0 ≤ fcn Z l ∧ fcn Z l ≤ 25
      omega
    · exact hx
theorem g_visitedBy (hS : RS μ m) (hR : RW μ m w h s Z) (hz : SZ w h N s) (hB : BD w h N s Z) {k : Int} (k0 : 0 ≤ k) (k1 : k < Z 1) : s_X9_visitedBy μ [.ref m, .int (ji k)] Q X = Q (some (.int (ji (cntz (vis Z (2666 + 120 * k)) 0 N.toNat 0)))) μ := by
  have hN := hz.g.2.2.2.2.2.2
  have hw := hB.1
  have hbz := hB.2.1
  rw [u_X9_visitedBy, l_X9_visitedBy_4, xseal_eq]
  refine fold_loop (fun mf x l => ln_X9_visitedBy_4 Q X mf [some (.ref m), some (.int (ji k)), some (.int (ji x)), some (.int (ji l))] [] μ 0 0) (fun x => Q (some (.int (ji x))) μ) (fun l x => if vis Z (2666 + 120 * k) l = true then x + 1 else x) (fun l x => 0 ≤ x ∧ x ≤ l) (N) (fun mf x hx => ?_) (fun mf x l l0 l1 hx => ⟨?_, ?_⟩) _ 10000 (0) (0) (by omega) (by omega) (by omega) (by omega)
  · show ln_X9_visitedBy_4 Q X (mf + 1) [some (.ref m), some (.int (ji k)), some (.int (ji x)), some (.int (ji (N)))] [] μ 0 0 = Q (some (.int (ji x))) μ
    rw [ul_X9_visitedBy_4]
    simp (disch := first | assumption | omega) only [RS_0, RS_1, RS_2, RS_3, RS_4, RS_5, RS_6, RS_7, RS_8, RS_9, RS_10, RS_11, RS_12, RS_13, RS_14, RS_15, RS_16, RS_17, RS_18, RS_19, RS_20, RS_21, RS_22, RS_23, RS_24, RS_25, RS_26, RS_27, RS_28, RS_29, RS_30, RS_31, RS_32, RS_33, RS_34, RS_35, RS_36, ji_add, ji_sub, ji_mul, ji_neg, ji_lit0, ji_ofNat, ji_lt, ji_le, ji_eq, ji_nat, ji_in, ji_rem, ji_div, jl_of, xl_lt, xl_gt, xl_eq, qV_at, qI_at, qJ_at, qD_at, qA_at, qA_no, nb0, nb1, cat_r, cat_i, Option.some.injEq, exists_eq_left', true_and, and_true, if_true, if_false, ite_not, not_true_eq_false, not_false_eq_true, Sum.inr.injEq, exists_eq_right', true_or, or_true, and_self, Int.cast_ofNat_Int, reduceCtorEq, or_false, false_or, false_and, and_false, jb_zero, lt7_0, lt7_1, lt7_2, lt7_3, lt7_4, lt7_5, lt7_6, c_X9_visitedBy_1, c_X9_visitedBy_2, f_nodes hS hR hN, ↓reduceIte, ilt_t, ilt_f, ile_t, ile_f, ieq_t, ieq_f, jb_T, jb_F, jb_t, jb_f]
  · show ln_X9_visitedBy_4 Q X (mf + 1) [some (.ref m), some (.int (ji k)), some (.int (ji x)), some (.int (ji l))] [] μ 0 0 = ln_X9_visitedBy_4 Q X mf [some (.ref m), some (.int (ji k)), some (.int (ji (if vis Z (2666 + 120 * k) l = true then x + 1 else x))), some (.int (ji (l + 1)))] [] μ 0 0
    rw [ul_X9_visitedBy_4]
    have hv := fun Q X => f_isVisitedNow (Q := Q) (X := X) hS hR k0 (show k < 25 by omega) (BD_p hB k k0 k1) l0 (show l < 36 by omega)
    by_cases h1 : vis Z (2666 + 120 * k) l = true <;> simp (disch := first | assumption | omega) only [RS_0, RS_1, RS_2, RS_3, RS_4, RS_5, RS_6, RS_7, RS_8, RS_9, RS_10, RS_11, RS_12, RS_13, RS_14, RS_15, RS_16, RS_17, RS_18, RS_19, RS_20, RS_21, RS_22, RS_23, RS_24, RS_25, RS_26, RS_27, RS_28, RS_29, RS_30, RS_31, RS_32, RS_33, RS_34, RS_35, RS_36, ji_add, ji_sub, ji_mul, ji_neg, ji_lit0, ji_ofNat, ji_lt, ji_le, ji_eq, ji_nat, ji_in, ji_rem, ji_div, jl_of, xl_lt, xl_gt, xl_eq, qV_at, qI_at, qJ_at, qD_at, qA_at, qA_no, nb0, nb1, cat_r, cat_i, Option.some.injEq, exists_eq_left', true_and, and_true, if_true, if_false, ite_not, not_true_eq_false, not_false_eq_true, Sum.inr.injEq, exists_eq_right', true_or, or_true, and_self, Int.cast_ofNat_Int, reduceCtorEq, or_false, false_or, false_and, and_false, jb_zero, lt7_0, lt7_1, lt7_2, lt7_3, lt7_4, lt7_5, lt7_6, c_X9_visitedBy_1, c_X9_visitedBy_2, f_nodes hS hR hN, hv, h1, Bool.false_eq_true, ↓reduceIte, ilt_t, ilt_f, ile_t, ile_f, ieq_t, ieq_f, jb_T, jb_F, jb_t, jb_f, Int.add_zero]
  · show 0 ≤ (if vis Z (2666 + 120 * k) l = true then x + 1 else x) ∧ (if vis Z (2666 + 120 * k) l = true then x + 1 else x) ≤ (l + 1)
    split <;> omega
theorem g_foundBy (hS : RS μ m) (hR : RW μ m w h s Z) (hB : BD w h N s Z) {k : Int} (k0 : 0 ≤ k) (k1 : k < Z 1) : s_X9_foundBy μ [.ref m, .int (ji k)] Q X = Q (some (.int (ji (cntz (fun l => decide (Z (2666 + 120 * k + 47 + l) ≠ -1)) 0 72 0)))) μ := by
  have hbz := hB.2.1
  rw [u_X9_foundBy, l_X9_foundBy_4, xseal_eq]
  refine fold_loop (fun mf x l => ln_X9_foundBy_4 Q X mf [some (.ref m), some (.int (ji k)), some (.int (ji x)), some (.int (ji l))] [] μ 0 0) (fun x => Q (some (.int (ji x))) μ) (fun l x => if decide (Z (2666 + 120 * k + 47 + l) ≠ -1) = true then x + 1 else x) (fun l x => 0 ≤ x ∧ x ≤ l) (72) (fun mf x hx => ?_) (fun mf x l l0 l1 hx => ⟨?_, ?_⟩) _ 10000 (0) (0) (by omega) (by omega) (by omega) (by omega)
  · show ln_X9_foundBy_4 Q X (mf + 1) [some (.ref m), some (.int (ji k)), some (.int (ji x)), some (.int (ji (72)))] [] μ 0 0 = Q (some (.int (ji x))) μ
    rw [ul_X9_foundBy_4]
    simp (disch := first | assumption | omega) only [RS_0, RS_1, RS_2, RS_3, RS_4, RS_5, RS_6, RS_7, RS_8, RS_9, RS_10, RS_11, RS_12, RS_13, RS_14, RS_15, RS_16, RS_17, RS_18, RS_19, RS_20, RS_21, RS_22, RS_23, RS_24, RS_25, RS_26, RS_27, RS_28, RS_29, RS_30, RS_31, RS_32, RS_33, RS_34, RS_35, RS_36, ji_add, ji_sub, ji_mul, ji_neg, ji_lit0, ji_ofNat, ji_lt, ji_le, ji_eq, ji_nat, ji_in, ji_rem, ji_div, jl_of, xl_lt, xl_gt, xl_eq, qV_at, qI_at, qJ_at, qD_at, qA_at, qA_no, nb0, nb1, cat_r, cat_i, Option.some.injEq, exists_eq_left', true_and, and_true, if_true, if_false, ite_not, not_true_eq_false, not_false_eq_true, Sum.inr.injEq, exists_eq_right', true_or, or_true, and_self, Int.cast_ofNat_Int, reduceCtorEq, or_false, false_or, false_and, and_false, jb_zero, lt7_0, lt7_1, lt7_2, lt7_3, lt7_4, lt7_5, lt7_6, c_X9_foundBy_1, ↓reduceIte, ilt_t, ilt_f, ile_t, ile_f, ieq_t, ieq_f, jb_T, jb_F, jb_t, jb_f]
  · show ln_X9_foundBy_4 Q X (mf + 1) [some (.ref m), some (.int (ji k)), some (.int (ji x)), some (.int (ji l))] [] μ 0 0 = ln_X9_foundBy_4 Q X mf [some (.ref m), some (.int (ji k)), some (.int (ji (if decide (Z (2666 + 120 * k + 47 + l) ≠ -1) = true then x + 1 else x))), some (.int (ji (l + 1)))] [] μ 0 0
    rw [ul_X9_foundBy_4]
    have hb := (BD_p hB k k0 k1).2.2.2 l l0 l1
    rw [Int.add_assoc (2666 + 120 * k)] at hb ⊢
    have hof := fun Q X => f_of (Q := Q) (X := X) hS hR k0 (show k < 25 by omega) (j := 47 + l) (by omega) (by omega)
    by_cases hv : Z (2666 + 120 * k + (47 + l)) = -1 <;> simp (disch := first | assumption | omega) only [RS_0, RS_1, RS_2, RS_3, RS_4, RS_5, RS_6, RS_7, RS_8, RS_9, RS_10, RS_11, RS_12, RS_13, RS_14, RS_15, RS_16, RS_17, RS_18, RS_19, RS_20, RS_21, RS_22, RS_23, RS_24, RS_25, RS_26, RS_27, RS_28, RS_29, RS_30, RS_31, RS_32, RS_33, RS_34, RS_35, RS_36, ji_add, ji_sub, ji_mul, ji_neg, ji_lit0, ji_ofNat, ji_lt, ji_le, ji_eq, ji_nat, ji_in, ji_rem, ji_div, jl_of, xl_lt, xl_gt, xl_eq, qV_at, qI_at, qJ_at, qD_at, qA_at, qA_no, nb0, nb1, cat_r, cat_i, Option.some.injEq, exists_eq_left', true_and, and_true, if_true, if_false, ite_not, not_true_eq_false, not_false_eq_true, Sum.inr.injEq, exists_eq_right', true_or, or_true, and_self, Int.cast_ofNat_Int, reduceCtorEq, or_false, false_or, false_and, and_false, jb_zero, lt7_0, lt7_1, lt7_2, lt7_3, lt7_4, lt7_5, lt7_6, c_X9_foundBy_1, hof, hv, ne_eq, ↓reduceIte, ilt_t, ilt_f, ile_t, ile_f, ieq_t, ieq_f, jb_T, jb_F, jb_t, jb_f, Int.add_zero] <;> simp
  · show 0 ≤ (if decide (Z (2666 + 120 * k + 47 + l) ≠ -1) = true then x + 1 else x) ∧ (if decide (Z (2666 + 120 * k + 47 + l) ≠ -1) = true then x + 1 else x) ≤ (l + 1)
    split <;> omega
theorem g_healed (hS : RS μ m) (hR : RW μ m w h s Z) (hB : BD w h N s Z) {k : Int} (k0 : 0 ≤ k) (k1 : k < Z 1) : l_X9_healed_32 Q X [some (.ref m), some (.int (ji k)), some (.int (ji 0)), some (.int (ji 0))] [] μ 0 0 = Q (some (.int (ji (cntz (fun l => decide (Z (2666 + 120 * k + 47 + l) ≠ -1 ∧ Z (2 + l) = 0)) 0 72 0)))) μ := by
  have hbz := hB.2.1
  rw [l_X9_healed_32, xseal_eq]
  refine fold_loop (fun mf x l => ln_X9_healed_32 Q X mf [some (.ref m), some (.int (ji k)), some (.int (ji x)), some (.int (ji l))] [] μ 0 0) (fun x => Q (some (.int (ji x))) μ) (fun l x => if decide (Z (2666 + 120 * k + 47 + l) ≠ -1 ∧ Z (2 + l) = 0) = true then x + 1 else x) (fun l x => 0 ≤ x ∧ x ≤ l) (72) (fun mf x hx => ?_) (fun mf x l l0 l1 hx => ⟨?_, ?_⟩) _ 10000 (0) (0) (by omega) (by omega) (by omega) (by omega)
  · show ln_X9_healed_32 Q X (mf + 1) [some (.ref m), some (.int (ji k)), some (.int (ji x)), some (.int (ji (72)))] [] μ 0 0 = Q (some (.int (ji x))) μ
    rw [ul_X9_healed_32]
    simp (disch := first | assumption | omega) only [RS_0, RS_1, RS_2, RS_3, RS_4, RS_5, RS_6, RS_7, RS_8, RS_9, RS_10, RS_11, RS_12, RS_13, RS_14, RS_15, RS_16, RS_17, RS_18, RS_19, RS_20, RS_21, RS_22, RS_23, RS_24, RS_25, RS_26, RS_27, RS_28, RS_29, RS_30, RS_31, RS_32, RS_33, RS_34, RS_35, RS_36, ji_add, ji_sub, ji_mul, ji_neg, ji_lit0, ji_ofNat, ji_lt, ji_le, ji_eq, ji_nat, ji_in, ji_rem, ji_div, jl_of, xl_lt, xl_gt, xl_eq, qV_at, qI_at, qJ_at, qD_at, qA_at, qA_no, nb0, nb1, cat_r, cat_i, Option.some.injEq, exists_eq_left', true_and, and_true, if_true, if_false, ite_not, not_true_eq_false, not_false_eq_true, Sum.inr.injEq, exists_eq_right', true_or, or_true, and_self, Int.cast_ofNat_Int, reduceCtorEq, or_false, false_or, false_and, and_false, jb_zero, lt7_0, lt7_1, lt7_2, lt7_3, lt7_4, lt7_5, lt7_6, c_X9_healed_1, c_X9_healed_2, c_X9_healed_3, c_X9_healed_4, c_X9_healed_5, ↓reduceIte, ilt_t, ilt_f, ile_t, ile_f, ieq_t, ieq_f, jb_T, jb_F, jb_t, jb_f]
  · show ln_X9_healed_32 Q X (mf + 1) [some (.ref m), some (.int (ji k)), some (.int (ji x)), some (.int (ji l))] [] μ 0 0 = ln_X9_healed_32 Q X mf [some (.ref m), some (.int (ji k)), some (.int (ji (if decide (Z (2666 + 120 * k + 47 + l) ≠ -1 ∧ Z (2 + l) = 0) = true then x + 1 else x))), some (.int (ji (l + 1)))] [] μ 0 0
    rw [ul_X9_healed_32]
    have hb := (BD_p hB k k0 k1).2.2.2 l l0 l1
    have hd := hB.2.2.1 l l0 l1
    rw [Int.add_assoc (2666 + 120 * k)] at hb ⊢
    have hof := fun Q X => f_of (Q := Q) (X := X) hS hR k0 (show k < 25 by omega) (j := 47 + l) (by omega) (by omega)
    by_cases hv : Z (2666 + 120 * k + (47 + l)) = -1 <;> by_cases hd0 : Z (2 + l) = 0 <;> simp (disch := first | assumption | omega) only [RS_0, RS_1, RS_2, RS_3, RS_4, RS_5, RS_6, RS_7, RS_8, RS_9, RS_10, RS_11, RS_12, RS_13, RS_14, RS_15, RS_16, RS_17, RS_18, RS_19, RS_20, RS_21, RS_22, RS_23, RS_24, RS_25, RS_26, RS_27, RS_28, RS_29, RS_30, RS_31, RS_32, RS_33, RS_34, RS_35, RS_36, ji_add, ji_sub, ji_mul, ji_neg, ji_lit0, ji_ofNat, ji_lt, ji_le, ji_eq, ji_nat, ji_in, ji_rem, ji_div, jl_of, xl_lt, xl_gt, xl_eq, qV_at, qI_at, qJ_at, qD_at, qA_at, qA_no, nb0, nb1, cat_r, cat_i, Option.some.injEq, exists_eq_left', true_and, and_true, if_true, if_false, ite_not, not_true_eq_false, not_false_eq_true, Sum.inr.injEq, exists_eq_right', true_or, or_true, and_self, Int.cast_ofNat_Int, reduceCtorEq, or_false, false_or, false_and, and_false, jb_zero, lt7_0, lt7_1, lt7_2, lt7_3, lt7_4, lt7_5, lt7_6, c_X9_healed_1, c_X9_healed_2, c_X9_healed_3, c_X9_healed_4, c_X9_healed_5, hof, f_isDeadNow hS hR _ _ hd, hv, hd0, ne_eq, ↓reduceIte, ilt_t, ilt_f, ile_t, ile_f, ieq_t, ieq_f, jb_T, jb_F, jb_t, jb_f, Int.add_zero] <;> simp
  · show 0 ≤ (if decide (Z (2666 + 120 * k + 47 + l) ≠ -1 ∧ Z (2 + l) = 0) = true then x + 1 else x) ∧ (if decide (Z (2666 + 120 * k + 47 + l) ≠ -1 ∧ Z (2 + l) = 0) = true then x + 1 else x) ≤ (l + 1)
    split <;> omega
theorem g_deadHome (hS : RS μ m) (hR : RW μ m w h s Z) (hz : SZ w h N s) (hI : IV w h N s Z) {k : Int} (k0 : 0 ≤ k) (k1 : k < Z 1) : ∀ (i mf : Nat), i < mf → (i : Int) < Z (2666 + 120 * k + 6) → ln_X9_deadHome_38 Q X mf [some (.ref m), some (.int (ji k)), some (.int (ji i)), none, none] [] μ 0 0 = Q (some (.int (ji (dhm w Z (2666 + 120 * k) i)))) μ := by
  have hB := hI.1
  have hbz := hB.2.1
  have hw := hB.1
  have hb := BD_p hB k k0 k1
  have hb1 := hb.1
  have ht := hI.2 k k0 k1
  have hof := fun Q X j j0 j1 => f_of (Q := Q) (X := X) hS hR k0 (show k < 25 by omega) (j := j) j0 j1
  intro i
  induction i with
  | zero =>
    intro mf h1 h2
    obtain ⟨mf, rfl⟩ : ∃ j, mf = j + 1 := ⟨mf - 1, by omega⟩
    rw [ul_X9_deadHome_38]
    simp (disch := first | assumption | omega) only [RS_0, RS_1, RS_2, RS_3, RS_4, RS_5, RS_6, RS_7, RS_8, RS_9, RS_10, RS_11, RS_12, RS_13, RS_14, RS_15, RS_16, RS_17, RS_18, RS_19, RS_20, RS_21, RS_22, RS_23, RS_24, RS_25, RS_26, RS_27, RS_28, RS_29, RS_30, RS_31, RS_32, RS_33, RS_34, RS_35, RS_36, ji_add, ji_sub, ji_mul, ji_neg, ji_lit0, ji_ofNat, ji_lt, ji_le, ji_eq, ji_nat, ji_in, ji_rem, ji_div, jl_of, xl_lt, xl_gt, xl_eq, qV_at, qI_at, qJ_at, qD_at, qA_at, qA_no, nb0, nb1, cat_r, cat_i, Option.some.injEq, exists_eq_left', true_and, and_true, if_true, if_false, ite_not, not_true_eq_false, not_false_eq_true, Sum.inr.injEq, exists_eq_right', true_or, or_true, and_self, Int.cast_ofNat_Int, reduceCtorEq, or_false, false_or, false_and, and_false, jb_zero, lt7_0, lt7_1, lt7_2, lt7_3, lt7_4, lt7_5, lt7_6, Int.natCast_zero, Int.ofNat_zero, ↓reduceIte, ilt_t, ilt_f, ile_t, ile_f, ieq_t, ieq_f, jb_T, jb_F, jb_t, jb_f]
    rfl
  | succ i ih =>
    intro mf h1 h2
    obtain ⟨mf, rfl⟩ : ∃ j, mf = j + 1 := ⟨mf - 1, by omega⟩
    have e1 : ((i + 1 : Nat) : Int) = (i : Int) + 1 := by omega
    rw [e1] at h2 ⊢
    have ia := hb.2.2.1 (i + 1) (by omega) h2
    have ib := hb.2.2.1 i (by omega) (by omega)
    have hx := ht.2.1 i (by omega) h2
    have hl := adj_l hB.g ib.1 ib.2 (b := Z (2666 + 120 * k + 11 + (i + 1))) ia.1 hx
    have hrec := ih mf (by omega) (by omega)
    have e3 : (i : Int) + 1 + -1 = i := by omega
    have e4 : 2666 + 120 * k + (11 + ((i : Int) + 1)) = 2666 + 120 * k + 11 + (i + 1) := by omega
    have e5 : 2666 + 120 * k + (11 + ((i : Int) + 1) - 1) = 2666 + 120 * k + 11 + i := by omega
    obtain ⟨w1, w2, w3, w4⟩ := f_wayTo hS hR hz ia.1 ia.2 ib.1 (by omega) hl.2.2
    have el : lka w h N (Z (2666 + 120 * k + 11 + (i + 1))) (wto w h N (Z (2666 + 120 * k + 11 + (i + 1))) (Z (2666 + 120 * k + 11 + i))) = lkb w (Z (2666 + 120 * k + 11 + (i + 1))) (Z (2666 + 120 * k + 11 + i)) := by
      unfold lka
      rw [nxt_in ia.1 ia.2 w1 w2, w3, if_neg (by omega)]
    have hlk := fun Q X => f_linkOf (Q := Q) (X := X) hS hR hz ia.1 ia.2 w1 w2
    rw [el] at hlk
    have hd := hB.2.2.1 _ hl.1 hl.2.1
    rw [ul_X9_deadHome_38, dhm]
    by_cases hd0 : Z (2 + lkb w (Z (2666 + 120 * k + 11 + (i + 1))) (Z (2666 + 120 * k + 11 + i))) = 0
    · simp (disch := first | assumption | omega) only [RS_0, RS_1, RS_2, RS_3, RS_4, RS_5, RS_6, RS_7, RS_8, RS_9, RS_10, RS_11, RS_12, RS_13, RS_14, RS_15, RS_16, RS_17, RS_18, RS_19, RS_20, RS_21, RS_22, RS_23, RS_24, RS_25, RS_26, RS_27, RS_28, RS_29, RS_30, RS_31, RS_32, RS_33, RS_34, RS_35, RS_36, ji_add, ji_sub, ji_mul, ji_neg, ji_lit0, ji_ofNat, ji_lt, ji_le, ji_eq, ji_nat, ji_in, ji_rem, ji_div, jl_of, xl_lt, xl_gt, xl_eq, qV_at, qI_at, qJ_at, qD_at, qA_at, qA_no, nb0, nb1, cat_r, cat_i, Option.some.injEq, exists_eq_left', true_and, and_true, if_true, if_false, ite_not, not_true_eq_false, not_false_eq_true, Sum.inr.injEq, exists_eq_right', true_or, or_true, and_self, Int.cast_ofNat_Int, reduceCtorEq, or_false, false_or, false_and, and_false, jb_zero, lt7_0, lt7_1, lt7_2, lt7_3, lt7_4, lt7_5, lt7_6, c_X9_deadHome_1, c_X9_deadHome_2, c_X9_deadHome_3, uj_X9_deadHome_19, c_X9_deadHome_4, c_X9_deadHome_5, c_X9_deadHome_6, c_X9_deadHome_7, c_X9_deadHome_8, hof, e4, e5, w4, hlk, f_isDeadNow hS hR _ _ hd, hd0, ne_eq, e3, ↓reduceIte, ilt_t, ilt_f, ile_t, ile_f, ieq_t, ieq_f, jb_T, jb_F, jb_t, jb_f]
      exact hrec
    · simp (disch := first | assumption | omega) only [RS_0, RS_1, RS_2, RS_3, RS_4, RS_5, RS_6, RS_7, RS_8, RS_9, RS_10, RS_11, RS_12, RS_13, RS_14, RS_15, RS_16, RS_17, RS_18, RS_19, RS_20, RS_21, RS_22, RS_23, RS_24, RS_25, RS_26, RS_27, RS_28, RS_29, RS_30, RS_31, RS_32, RS_33, RS_34, RS_35, RS_36, ji_add, ji_sub, ji_mul, ji_neg, ji_lit0, ji_ofNat, ji_lt, ji_le, ji_eq, ji_nat, ji_in, ji_rem, ji_div, jl_of, xl_lt, xl_gt, xl_eq, qV_at, qI_at, qJ_at, qD_at, qA_at, qA_no, nb0, nb1, cat_r, cat_i, Option.some.injEq, exists_eq_left', true_and, and_true, if_true, if_false, ite_not, not_true_eq_false, not_false_eq_true, Sum.inr.injEq, exists_eq_right', true_or, or_true, and_self, Int.cast_ofNat_Int, reduceCtorEq, or_false, false_or, false_and, and_false, jb_zero, lt7_0, lt7_1, lt7_2, lt7_3, lt7_4, lt7_5, lt7_6, c_X9_deadHome_1, c_X9_deadHome_2, c_X9_deadHome_3, uj_X9_deadHome_19, c_X9_deadHome_4, c_X9_deadHome_5, c_X9_deadHome_6, c_X9_deadHome_7, c_X9_deadHome_8, hof, e4, e5, w4, hlk, f_isDeadNow hS hR _ _ hd, hd0, ne_eq, e3, ↓reduceIte, ilt_t, ilt_f, ile_t, ile_f, ieq_t, ieq_f, jb_T, jb_F, jb_t, jb_f]
def mhS (Q : XQ) (m : Nat) (μ : XM) (p : Int × Int) : Prop := if p.2 = 0 then Q (some (.double FP.dconst0)) (sI μ 298 m (ji 1)) else Q (some (.double (dvq p.1 p.2))) μ
theorem g_meanHops (hS : RS μ m) (hR : RW μ m w h s Z) (hB : BD w h N s Z) : l_X9_meanHops_11 Q X [some (.ref m), some (.int (ji 0)), some (.int (ji 0)), some (.int (ji 0))] [] μ 0 0 = mhS Q m μ (mhf Z) := by
  have hbz := hB.2.1
  have r0 := hR.2.2.2 1 (by omega) (by omega)
  have key := fold_loop (fun mf x l => ln_X9_meanHops_11 Q X mf [some (.ref m), some (.int (ji x.1)), some (.int (ji x.2)), some (.int (ji l))] [] μ 0 0) (fun x => mhS Q m μ x) (fun l x => mhg Z l x) (fun l x => 0 ≤ x.1 ∧ x.1 ≤ 200 * l ∧ 0 ≤ x.2 ∧ x.2 ≤ l) (Z 1) (fun mf x hx => by
    show ln_X9_meanHops_11 Q X (mf + 1) [some (.ref m), some (.int (ji x.1)), some (.int (ji x.2)), some (.int (ji (Z 1)))] [] μ 0 0 = mhS Q m μ x
    obtain ⟨x1, x2⟩ := x
    simp only at hx
    show ln_X9_meanHops_11 Q X (mf + 1) [some (.ref m), some (.int (ji x1)), some (.int (ji x2)), some (.int (ji (Z 1)))] [] μ 0 0 = if x2 = 0 then Q (some (.double FP.dconst0)) (sI μ 298 m (ji 1)) else Q (some (.double (dvq x1 x2))) μ
    rw [ul_X9_meanHops_11]
    by_cases h0 : x2 = 0
    · simp (disch := first | assumption | omega) only [RS_0, RS_1, RS_2, RS_3, RS_4, RS_5, RS_6, RS_7, RS_8, RS_9, RS_10, RS_11, RS_12, RS_13, RS_14, RS_15, RS_16, RS_17, RS_18, RS_19, RS_20, RS_21, RS_22, RS_23, RS_24, RS_25, RS_26, RS_27, RS_28, RS_29, RS_30, RS_31, RS_32, RS_33, RS_34, RS_35, RS_36, ji_add, ji_sub, ji_mul, ji_neg, ji_lit0, ji_ofNat, ji_lt, ji_le, ji_eq, ji_nat, ji_in, ji_rem, ji_div, jl_of, xl_lt, xl_gt, xl_eq, qV_at, qI_at, qJ_at, qD_at, qA_at, qA_no, nb0, nb1, cat_r, cat_i, Option.some.injEq, exists_eq_left', true_and, and_true, if_true, if_false, ite_not, not_true_eq_false, not_false_eq_true, Sum.inr.injEq, exists_eq_right', true_or, or_true, and_self, Int.cast_ofNat_Int, reduceCtorEq, or_false, false_or, false_and, and_false, jb_zero, lt7_0, lt7_1, lt7_2, lt7_3, lt7_4, lt7_5, lt7_6, c_X9_meanHops_1, r0, h0, g_t1 hS, ↓reduceIte, ilt_t, ilt_f, ile_t, ile_f, ieq_t, ieq_f, jb_T, jb_F, jb_t, jb_f]
    · have hv := dvq_ok x1 (b := x2) (fun q => h0 (by rwa [ji_eq (by omega) (by omega) (by omega) (by omega)] at q))
      simp (disch := first | assumption | omega) only [RS_0, RS_1, RS_2, RS_3, RS_4, RS_5, RS_6, RS_7, RS_8, RS_9, RS_10, RS_11, RS_12, RS_13, RS_14, RS_15, RS_16, RS_17, RS_18, RS_19, RS_20, RS_21, RS_22, RS_23, RS_24, RS_25, RS_26, RS_27, RS_28, RS_29, RS_30, RS_31, RS_32, RS_33, RS_34, RS_35, RS_36, ji_add, ji_sub, ji_mul, ji_neg, ji_lit0, ji_ofNat, ji_lt, ji_le, ji_eq, ji_nat, ji_in, ji_rem, ji_div, jl_of, xl_lt, xl_gt, xl_eq, qV_at, qI_at, qJ_at, qD_at, qA_at, qA_no, nb0, nb1, cat_r, cat_i, Option.some.injEq, exists_eq_left', true_and, and_true, if_true, if_false, ite_not, not_true_eq_false, not_false_eq_true, Sum.inr.injEq, exists_eq_right', true_or, or_true, and_self, Int.cast_ofNat_Int, reduceCtorEq, or_false, false_or, false_and, and_false, jb_zero, lt7_0, lt7_1, lt7_2, lt7_3, lt7_4, lt7_5, lt7_6, c_X9_meanHops_2, r0, h0, g_t0 hS, dvq_r, hv, ↓reduceIte, ilt_t, ilt_f, ile_t, ile_f, ieq_t, ieq_f, jb_T, jb_F, jb_t, jb_f]) (fun mf x l l0 l1 hx => by
    show ln_X9_meanHops_11 Q X (mf + 1) [some (.ref m), some (.int (ji x.1)), some (.int (ji x.2)), some (.int (ji l))] [] μ 0 0 = ln_X9_meanHops_11 Q X mf [some (.ref m), some (.int (ji (mhg Z l x).1)), some (.int (ji (mhg Z l x).2)), some (.int (ji (l + 1)))] [] μ 0 0 ∧ 0 ≤ (mhg Z l x).1 ∧ (mhg Z l x).1 ≤ 200 * (l + 1) ∧ 0 ≤ (mhg Z l x).2 ∧ (mhg Z l x).2 ≤ l + 1
    obtain ⟨x1, x2⟩ := x
    simp only at hx
    have hb1 := (BD_p hB l l0 l1).1
    unfold mhg
    by_cases hv : Z ((2666 + 120 * l) + 3) = 3
    · rw [if_pos hv]
      refine ⟨?_, by simp only; omega⟩
      rw [ul_X9_meanHops_11]
      simp (disch := first | assumption | omega) only [RS_0, RS_1, RS_2, RS_3, RS_4, RS_5, RS_6, RS_7, RS_8, RS_9, RS_10, RS_11, RS_12, RS_13, RS_14, RS_15, RS_16, RS_17, RS_18, RS_19, RS_20, RS_21, RS_22, RS_23, RS_24, RS_25, RS_26, RS_27, RS_28, RS_29, RS_30, RS_31, RS_32, RS_33, RS_34, RS_35, RS_36, ji_add, ji_sub, ji_mul, ji_neg, ji_lit0, ji_ofNat, ji_lt, ji_le, ji_eq, ji_nat, ji_in, ji_rem, ji_div, jl_of, xl_lt, xl_gt, xl_eq, qV_at, qI_at, qJ_at, qD_at, qA_at, qA_no, nb0, nb1, cat_r, cat_i, Option.some.injEq, exists_eq_left', true_and, and_true, if_true, if_false, ite_not, not_true_eq_false, not_false_eq_true, Sum.inr.injEq, exists_eq_right', true_or, or_true, and_self, Int.cast_ofNat_Int, reduceCtorEq, or_false, false_or, false_and, and_false, jb_zero, lt7_0, lt7_1, lt7_2, lt7_3, lt7_4, lt7_5, lt7_6, c_X9_meanHops_3, c_X9_meanHops_4, r0, f_of hS hR, hv, ↓reduceIte, ilt_t, ilt_f, ile_t, ile_f, ieq_t, ieq_f, jb_T, jb_F, jb_t, jb_f]
    · rw [if_neg hv]
      refine ⟨?_, by simp only; omega⟩
      rw [ul_X9_meanHops_11]
      simp (disch := first | assumption | omega) only [RS_0, RS_1, RS_2, RS_3, RS_4, RS_5, RS_6, RS_7, RS_8, RS_9, RS_10, RS_11, RS_12, RS_13, RS_14, RS_15, RS_16, RS_17, RS_18, RS_19, RS_20, RS_21, RS_22, RS_23, RS_24, RS_25, RS_26, RS_27, RS_28, RS_29, RS_30, RS_31, RS_32, RS_33, RS_34, RS_35, RS_36, ji_add, ji_sub, ji_mul, ji_neg, ji_lit0, ji_ofNat, ji_lt, ji_le, ji_eq, ji_nat, ji_in, ji_rem, ji_div, jl_of, xl_lt, xl_gt, xl_eq, qV_at, qI_at, qJ_at, qD_at, qA_at, qA_no, nb0, nb1, cat_r, cat_i, Option.some.injEq, exists_eq_left', true_and, and_true, if_true, if_false, ite_not, not_true_eq_false, not_false_eq_true, Sum.inr.injEq, exists_eq_right', true_or, or_true, and_self, Int.cast_ofNat_Int, reduceCtorEq, or_false, false_or, false_and, and_false, jb_zero, lt7_0, lt7_1, lt7_2, lt7_3, lt7_4, lt7_5, lt7_6, c_X9_meanHops_3, c_X9_meanHops_4, r0, f_of hS hR, hv, ↓reduceIte, ilt_t, ilt_f, ile_t, ile_f, ieq_t, ieq_f, jb_T, jb_F, jb_t, jb_f]) (Z 1).toNat 10000 0 (0, 0) (by omega) (by omega) (by omega) ⟨by decide, by decide, by decide, by decide⟩
  rw [l_X9_meanHops_11, xseal_eq]
  exact key
theorem g_digest57 (hS : RS μ m) (hR : RW μ m w h s Z) (hz : SZ w h N s) (hB : BD w h N s Z) (v : Int) : l_X9_digest_57 Q X [some (.ref m), some (.int (ji v)), some (.int (ji 0))] [] μ 0 0 = Q (some (.int (ji (31 * foldz (dgk Z) 0 (Z 1).toNat v + alc s N 0 Z)))) μ := by
  have hbz := hB.2.1
  have r0 := hR.2.2.2 1 (by omega) (by omega)
  rw [l_X9_digest_57, xseal_eq]
  refine fold_loop (fun mf x l => ln_X9_digest_57 Q X mf [some (.ref m), some (.int (ji x)), some (.int (ji l))] [] μ 0 0) (fun x => Q (some (.int (ji (31 * x + alc s N 0 Z)))) μ) (fun l x => dgk Z l x) (fun l x => True) (Z 1) (fun mf x hx => ?_) (fun mf x l l0 l1 hx => ⟨?_, ?_⟩) _ 10000 (0) (v) (by omega) (by omega) (by omega) (trivial)
  · show ln_X9_digest_57 Q X (mf + 1) [some (.ref m), some (.int (ji x)), some (.int (ji (Z 1)))] [] μ 0 0 = Q (some (.int (ji (31 * x + alc s N 0 Z)))) μ
    rw [ul_X9_digest_57]
    simp (disch := first | assumption | omega) only [RS_0, RS_1, RS_2, RS_3, RS_4, RS_5, RS_6, RS_7, RS_8, RS_9, RS_10, RS_11, RS_12, RS_13, RS_14, RS_15, RS_16, RS_17, RS_18, RS_19, RS_20, RS_21, RS_22, RS_23, RS_24, RS_25, RS_26, RS_27, RS_28, RS_29, RS_30, RS_31, RS_32, RS_33, RS_34, RS_35, RS_36, ji_add, ji_sub, ji_mul, ji_neg, ji_lit0, ji_ofNat, ji_lt, ji_le, ji_eq, ji_nat, ji_in, ji_rem, ji_div, jl_of, xl_lt, xl_gt, xl_eq, qV_at, qI_at, qJ_at, qD_at, qA_at, qA_no, nb0, nb1, cat_r, cat_i, Option.some.injEq, exists_eq_left', true_and, and_true, if_true, if_false, ite_not, not_true_eq_false, not_false_eq_true, Sum.inr.injEq, exists_eq_right', true_or, or_true, and_self, Int.cast_ofNat_Int, reduceCtorEq, or_false, false_or, false_and, and_false, jb_zero, lt7_0, lt7_1, lt7_2, lt7_3, lt7_4, lt7_5, lt7_6, c_X9_digest_1, c_X9_digest_2, c_X9_digest_3, c_X9_digest_4, c_X9_digest_5, r0, g_lessonsNow hS hR hz hB, ↓reduceIte, ilt_t, ilt_f, ile_t, ile_f, ieq_t, ieq_f, jb_T, jb_F, jb_t, jb_f]
  · show ln_X9_digest_57 Q X (mf + 1) [some (.ref m), some (.int (ji x)), some (.int (ji l))] [] μ 0 0 = ln_X9_digest_57 Q X mf [some (.ref m), some (.int (ji (dgk Z l x))), some (.int (ji (l + 1)))] [] μ 0 0
    rw [ul_X9_digest_57]
    unfold dgk
    simp (disch := first | assumption | omega) only [RS_0, RS_1, RS_2, RS_3, RS_4, RS_5, RS_6, RS_7, RS_8, RS_9, RS_10, RS_11, RS_12, RS_13, RS_14, RS_15, RS_16, RS_17, RS_18, RS_19, RS_20, RS_21, RS_22, RS_23, RS_24, RS_25, RS_26, RS_27, RS_28, RS_29, RS_30, RS_31, RS_32, RS_33, RS_34, RS_35, RS_36, ji_add, ji_sub, ji_mul, ji_neg, ji_lit0, ji_ofNat, ji_lt, ji_le, ji_eq, ji_nat, ji_in, ji_rem, ji_div, jl_of, xl_lt, xl_gt, xl_eq, qV_at, qI_at, qJ_at, qD_at, qA_at, qA_no, nb0, nb1, cat_r, cat_i, Option.some.injEq, exists_eq_left', true_and, and_true, if_true, if_false, ite_not, not_true_eq_false, not_false_eq_true, Sum.inr.injEq, exists_eq_right', true_or, or_true, and_self, Int.cast_ofNat_Int, reduceCtorEq, or_false, false_or, false_and, and_false, jb_zero, lt7_0, lt7_1, lt7_2, lt7_3, lt7_4, lt7_5, lt7_6, c_X9_digest_1, c_X9_digest_2, c_X9_digest_3, c_X9_digest_4, c_X9_digest_5, r0, f_of hS hR, ↓reduceIte, ilt_t, ilt_f, ile_t, ile_f, ieq_t, ieq_f, jb_T, jb_F, jb_t, jb_f]
  · show True
    trivial
theorem g_digest17 (hS : RS μ m) (hR : RW μ m w h s Z) (hz : SZ w h N s) (hB : BD w h N s Z) : l_X9_digest_17 Q X [some (.ref m), some (.int (ji (31 + Z 0))), some (.int (ji 0))] [] μ 0 0 = Q (some (.int (ji (dig w h N s Z)))) μ := by
  have hbz := hB.2.1
  unfold dig
  rw [← g_digest57 (Q := Q) (X := X) hS hR hz hB]
  rw [l_X9_digest_17, xseal_eq]
  refine fold_loop (fun mf x l => ln_X9_digest_17 Q X mf [some (.ref m), some (.int (ji x)), some (.int (ji l))] [] μ 0 0) (fun x => l_X9_digest_57 Q X [some (.ref m), some (.int (ji x)), some (.int (ji 0))] [] μ 0 0) (fun l x => dgl w h N Z l x) (fun l x => True) (72) (fun mf x hx => ?_) (fun mf x l l0 l1 hx => ⟨?_, ?_⟩) _ 10000 (0) (31 + Z 0) (by omega) (by omega) (by omega) (trivial)
  · show ln_X9_digest_17 Q X (mf + 1) [some (.ref m), some (.int (ji x)), some (.int (ji (72)))] [] μ 0 0 = l_X9_digest_57 Q X [some (.ref m), some (.int (ji x)), some (.int (ji 0))] [] μ 0 0
    rw [ul_X9_digest_17]
    simp (disch := first | assumption | omega) only [RS_0, RS_1, RS_2, RS_3, RS_4, RS_5, RS_6, RS_7, RS_8, RS_9, RS_10, RS_11, RS_12, RS_13, RS_14, RS_15, RS_16, RS_17, RS_18, RS_19, RS_20, RS_21, RS_22, RS_23, RS_24, RS_25, RS_26, RS_27, RS_28, RS_29, RS_30, RS_31, RS_32, RS_33, RS_34, RS_35, RS_36, ji_add, ji_sub, ji_mul, ji_neg, ji_lit0, ji_ofNat, ji_lt, ji_le, ji_eq, ji_nat, ji_in, ji_rem, ji_div, jl_of, xl_lt, xl_gt, xl_eq, qV_at, qI_at, qJ_at, qD_at, qA_at, qA_no, nb0, nb1, cat_r, cat_i, Option.some.injEq, exists_eq_left', true_and, and_true, if_true, if_false, ite_not, not_true_eq_false, not_false_eq_true, Sum.inr.injEq, exists_eq_right', true_or, or_true, and_self, Int.cast_ofNat_Int, reduceCtorEq, or_false, false_or, false_and, and_false, jb_zero, lt7_0, lt7_1, lt7_2, lt7_3, lt7_4, lt7_5, lt7_6, c_X9_digest_1, c_X9_digest_2, c_X9_digest_3, c_X9_digest_4, c_X9_digest_5, ↓reduceIte, ilt_t, ilt_f, ile_t, ile_f, ieq_t, ieq_f, jb_T, jb_F, jb_t, jb_f]
  · show ln_X9_digest_17 Q X (mf + 1) [some (.ref m), some (.int (ji x)), some (.int (ji l))] [] μ 0 0 = ln_X9_digest_17 Q X mf [some (.ref m), some (.int (ji (dgl w h N Z l x))), some (.int (ji (l + 1)))] [] μ 0 0
    rw [ul_X9_digest_17]
    unfold dgl
    have hd := hB.2.2.1 l l0 l1
    have r2 := hR.2.2.2 (2 + l) (by omega) (by omega)
    by_cases hl : isl w h N l = true <;> rcases hd with hd | hd <;> simp (disch := first | assumption | omega) only [RS_0, RS_1, RS_2, RS_3, RS_4, RS_5, RS_6, RS_7, RS_8, RS_9, RS_10, RS_11, RS_12, RS_13, RS_14, RS_15, RS_16, RS_17, RS_18, RS_19, RS_20, RS_21, RS_22, RS_23, RS_24, RS_25, RS_26, RS_27, RS_28, RS_29, RS_30, RS_31, RS_32, RS_33, RS_34, RS_35, RS_36, ji_add, ji_sub, ji_mul, ji_neg, ji_lit0, ji_ofNat, ji_lt, ji_le, ji_eq, ji_nat, ji_in, ji_rem, ji_div, jl_of, xl_lt, xl_gt, xl_eq, qV_at, qI_at, qJ_at, qD_at, qA_at, qA_no, nb0, nb1, cat_r, cat_i, Option.some.injEq, exists_eq_left', true_and, and_true, if_true, if_false, ite_not, not_true_eq_false, not_false_eq_true, Sum.inr.injEq, exists_eq_right', true_or, or_true, and_self, Int.cast_ofNat_Int, reduceCtorEq, or_false, false_or, false_and, and_false, jb_zero, lt7_0, lt7_1, lt7_2, lt7_3, lt7_4, lt7_5, lt7_6, c_X9_digest_1, c_X9_digest_2, c_X9_digest_3, c_X9_digest_4, c_X9_digest_5, f_isLink hS hR hz, r2, hl, hd, ne_eq, Bool.false_eq_true, Int.add_zero, ↓reduceIte, ilt_t, ilt_f, ile_t, ile_f, ieq_t, ieq_f, jb_T, jb_F, jb_t, jb_f]
  · show True
    trivial
def lkn (w h : Int) : Bool := decide (1 ≤ w → 1 ≤ h → cntz (fun l => isl w h (w * h) l) 0 72 0 = w * (h - 1) + h * (w - 1))
theorem lkn_ok : ∀ w < 7, ∀ h < 7, lkn (w : Nat) (h : Nat) = true := by decide +kernel
theorem lkn_at (hB : BD w h N s Z) : cntz (fun l => isl w h N l) 0 72 0 = w * (h - 1) + h * (w - 1) := by
  have hw := hB.1
  have := lkn_ok w.toNat (by omega) h.toNat (by omega)
  rw [Int.toNat_of_nonneg (by omega), Int.toNat_of_nonneg (by omega)] at this
  unfold lkn at this
  rw [decide_eq_true_eq, ← hw.2.2.2.2.2.2] at this
  exact this (by omega) (by omega)
theorem cnt_4 : cntz (fun l => isl w h N l && (decide ((0 : Int) = 0) || decide (Z (2 + l) ≠ 0))) 0 72 0 = cntz (fun l => isl w h N l) 0 72 0 := cntz_congr _ _ _ (fun k _ _ => by simp)
theorem cnt_5 (hk : OK w h N s Z) : cntz (fun l => isl w h N l && (decide ((1 : Int) = 0) || decide (Z (2 + l) ≠ 0))) 0 72 0 = dcn Z := by
  refine cntz_congr 72 0 0 (fun k k0 k1 => ?_)
  have := hk.2.2.2 k k0 (by omega)
  by_cases hz : Z (2 + k) = 0
  · simp [hz]
  · simp [hz, this hz]
end
