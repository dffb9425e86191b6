/-! ===== the reference: the statements of load ===== -/
section
variable {μ ν ξ : XM} {m : Nat} {l p e q k : Int} {T : Int → Int} {S : YS} {Q : XQ} {X : XX} {w v : Int}
theorem f_readGrid {b : Int} (hS : RS μ m) (h : QL ν μ m l T S p e q) (hb : b = 0 ∨ b = 1) (hK : QT μ m l T e q Q (if b = 1 then yG l T S (tE l T (tB l T p)) else .inl (4, tB l T p))) : s_X9_readGrid ν [.ref m, .int (ji b)] Q X := by
  have hS2 := hS.mono h.1.1.1
  have g314 := h.2.1.2.2.1
  rcases hb with rfl | rfl
  · rw [if_neg (by omega)] at hK
    simp (disch := first | assumption | omega) only [RS_0, RS_1, RS_2, RS_3, RS_4, RS_5, RS_6, RS_7, RS_8, RS_9, RS_10, RS_11, RS_12, RS_13, RS_14, RS_15, RS_16, RS_17, RS_18, RS_19, RS_20, RS_21, RS_22, RS_23, RS_24, RS_25, RS_26, RS_27, RS_28, RS_29, RS_30, RS_31, RS_32, RS_33, RS_34, RS_35, RS_36, ji_add, ji_sub, ji_mul, ji_neg, ji_lit0, ji_ofNat, ji_lt, ji_le, ji_eq, ji_nat, ji_in, ji_rem, ji_div, jl_of, xl_lt, xl_gt, xl_eq, qV_at, qI_at, qJ_at, qD_at, qA_at, qA_no, nb0, nb1, cat_r, cat_i, Option.some.injEq, exists_eq_left', true_and, and_true, if_true, if_false, ite_not, not_true_eq_false, not_false_eq_true, Sum.inr.injEq, exists_eq_right', true_or, or_true, and_self, Int.cast_ofNat_Int, reduceCtorEq, or_false, false_or, false_and, and_false, jb_zero, lt7_0, lt7_1, lt7_2, lt7_3, lt7_4, lt7_5, lt7_6, c_X9_readGrid_1, c_X9_readGrid_2, c_X9_readGrid_3, c_X9_readGrid_4, c_X9_readGrid_5, u_X9_readGrid, ↓reduceIte, ilt_t, ilt_f, ile_t, ile_f, ieq_t, ieq_f, jb_T, jb_F, jb_t, jb_f]
    refine f_fail hS2 g314 (fun ξ k h1 h2 => ?_)
    have hq := hK ξ (h.toM k h1 h2)
    simp (disch := first | assumption | omega) only [RS_0, RS_1, RS_2, RS_3, RS_4, RS_5, RS_6, RS_7, RS_8, RS_9, RS_10, RS_11, RS_12, RS_13, RS_14, RS_15, RS_16, RS_17, RS_18, RS_19, RS_20, RS_21, RS_22, RS_23, RS_24, RS_25, RS_26, RS_27, RS_28, RS_29, RS_30, RS_31, RS_32, RS_33, RS_34, RS_35, RS_36, ji_add, ji_sub, ji_mul, ji_neg, ji_lit0, ji_ofNat, ji_lt, ji_le, ji_eq, ji_nat, ji_in, ji_rem, ji_div, jl_of, xl_lt, xl_gt, xl_eq, qV_at, qI_at, qJ_at, qD_at, qA_at, qA_no, nb0, nb1, cat_r, cat_i, Option.some.injEq, exists_eq_left', true_and, and_true, if_true, if_false, ite_not, not_true_eq_false, not_false_eq_true, Sum.inr.injEq, exists_eq_right', true_or, or_true, and_self, Int.cast_ofNat_Int, reduceCtorEq, or_false, false_or, false_and, and_false, jb_zero, lt7_0, lt7_1, lt7_2, lt7_3, lt7_4, lt7_5, lt7_6, c_X9_readGrid_1, nb0, ↓reduceIte, ilt_t, ilt_f, ile_t, ile_f, ieq_t, ieq_f, jb_T, jb_F, jb_t, jb_f]
    exact hq
  · rw [if_pos rfl] at hK
    unfold yG at hK
    simp (disch := first | assumption | omega) only [RS_0, RS_1, RS_2, RS_3, RS_4, RS_5, RS_6, RS_7, RS_8, RS_9, RS_10, RS_11, RS_12, RS_13, RS_14, RS_15, RS_16, RS_17, RS_18, RS_19, RS_20, RS_21, RS_22, RS_23, RS_24, RS_25, RS_26, RS_27, RS_28, RS_29, RS_30, RS_31, RS_32, RS_33, RS_34, RS_35, RS_36, ji_add, ji_sub, ji_mul, ji_neg, ji_lit0, ji_ofNat, ji_lt, ji_le, ji_eq, ji_nat, ji_in, ji_rem, ji_div, jl_of, xl_lt, xl_gt, xl_eq, qV_at, qI_at, qJ_at, qD_at, qA_at, qA_no, nb0, nb1, cat_r, cat_i, Option.some.injEq, exists_eq_left', true_and, and_true, if_true, if_false, ite_not, not_true_eq_false, not_false_eq_true, Sum.inr.injEq, exists_eq_right', true_or, or_true, and_self, Int.cast_ofNat_Int, reduceCtorEq, or_false, false_or, false_and, and_false, jb_zero, lt7_0, lt7_1, lt7_2, lt7_3, lt7_4, lt7_5, lt7_6, c_X9_readGrid_1, c_X9_readGrid_2, c_X9_readGrid_3, c_X9_readGrid_4, c_X9_readGrid_5, u_X9_readGrid, ↓reduceIte, ilt_t, ilt_f, ile_t, ile_f, ieq_t, ieq_f, jb_T, jb_F, jb_t, jb_f]
    refine f_next hS2 h.2.1 (fun ξ k h1 => ?_)
    have hs := h.ky k.y h1
    have hS3 := hS.mono hs.1.1.1
    simp (disch := first | assumption | omega) only [RS_0, RS_1, RS_2, RS_3, RS_4, RS_5, RS_6, RS_7, RS_8, RS_9, RS_10, RS_11, RS_12, RS_13, RS_14, RS_15, RS_16, RS_17, RS_18, RS_19, RS_20, RS_21, RS_22, RS_23, RS_24, RS_25, RS_26, RS_27, RS_28, RS_29, RS_30, RS_31, RS_32, RS_33, RS_34, RS_35, RS_36, ji_add, ji_sub, ji_mul, ji_neg, ji_lit0, ji_ofNat, ji_lt, ji_le, ji_eq, ji_nat, ji_in, ji_rem, ji_div, jl_of, xl_lt, xl_gt, xl_eq, qV_at, qI_at, qJ_at, qD_at, qA_at, qA_no, nb0, nb1, cat_r, cat_i, Option.some.injEq, exists_eq_left', true_and, and_true, if_true, if_false, ite_not, not_true_eq_false, not_false_eq_true, Sum.inr.injEq, exists_eq_right', true_or, or_true, and_self, Int.cast_ofNat_Int, reduceCtorEq, or_false, false_or, false_and, and_false, jb_zero, lt7_0, lt7_1, lt7_2, lt7_3, lt7_4, lt7_5, lt7_6, c_X9_readGrid_5, ↓reduceIte, ilt_t, ilt_f, ile_t, ile_f, ieq_t, ieq_f, jb_T, jb_F, jb_t, jb_f]
    refine f_readNumber hS3 hs.2.1 (by omega) (by omega) (by omega) (by omega) ?_
    cases hr : pN l T 1 6 (tE l T (tB l T p)) with
    | inl r =>
      obtain ⟨c, s⟩ := r
      rw [hr] at hK
      intro ξ k h1 h2
      have hq := hK ξ (hs.toM k h1 h2)
      simp (disch := first | assumption | omega) only [RS_0, RS_1, RS_2, RS_3, RS_4, RS_5, RS_6, RS_7, RS_8, RS_9, RS_10, RS_11, RS_12, RS_13, RS_14, RS_15, RS_16, RS_17, RS_18, RS_19, RS_20, RS_21, RS_22, RS_23, RS_24, RS_25, RS_26, RS_27, RS_28, RS_29, RS_30, RS_31, RS_32, RS_33, RS_34, RS_35, RS_36, ji_add, ji_sub, ji_mul, ji_neg, ji_lit0, ji_ofNat, ji_lt, ji_le, ji_eq, ji_nat, ji_in, ji_rem, ji_div, jl_of, xl_lt, xl_gt, xl_eq, qV_at, qI_at, qJ_at, qD_at, qA_at, qA_no, nb0, nb1, cat_r, cat_i, Option.some.injEq, exists_eq_left', true_and, and_true, if_true, if_false, ite_not, not_true_eq_false, not_false_eq_true, Sum.inr.injEq, exists_eq_right', true_or, or_true, and_self, Int.cast_ofNat_Int, reduceCtorEq, or_false, false_or, false_and, and_false, jb_zero, lt7_0, lt7_1, lt7_2, lt7_3, lt7_4, lt7_5, lt7_6, c_X9_readGrid_4, nb0, ↓reduceIte, ilt_t, ilt_f, ile_t, ile_f, ieq_t, ieq_f, jb_T, jb_F, jb_t, jb_f]
      exact hq
    | inr r =>
      obtain ⟨w, p1⟩ := r
      rw [hr, bd_j] at hK
      simp only at hK
      intro ξ k h1 h2
      have g := h2 rfl
      have hs2 := (hs.ky k h1).fld (S' := (w, S.2.1, S.2.2.1, S.2.2.2)) (z := w) (f := 295) (Or.inl rfl) rfl rfl rfl rfl
      have hS4 := hS.mono (hs.ky k h1).1.1.1
      have hS5 := hS.mono hs2.1.1.1
      simp (disch := first | assumption | omega) only [RS_0, RS_1, RS_2, RS_3, RS_4, RS_5, RS_6, RS_7, RS_8, RS_9, RS_10, RS_11, RS_12, RS_13, RS_14, RS_15, RS_16, RS_17, RS_18, RS_19, RS_20, RS_21, RS_22, RS_23, RS_24, RS_25, RS_26, RS_27, RS_28, RS_29, RS_30, RS_31, RS_32, RS_33, RS_34, RS_35, RS_36, ji_add, ji_sub, ji_mul, ji_neg, ji_lit0, ji_ofNat, ji_lt, ji_le, ji_eq, ji_nat, ji_in, ji_rem, ji_div, jl_of, xl_lt, xl_gt, xl_eq, qV_at, qI_at, qJ_at, qD_at, qA_at, qA_no, nb0, nb1, cat_r, cat_i, Option.some.injEq, exists_eq_left', true_and, and_true, if_true, if_false, ite_not, not_true_eq_false, not_false_eq_true, Sum.inr.injEq, exists_eq_right', true_or, or_true, and_self, Int.cast_ofNat_Int, reduceCtorEq, or_false, false_or, false_and, and_false, jb_zero, lt7_0, lt7_1, lt7_2, lt7_3, lt7_4, lt7_5, lt7_6, c_X9_readGrid_4, g, ↓reduceIte, ilt_t, ilt_f, ile_t, ile_f, ieq_t, ieq_f, jb_T, jb_F, jb_t, jb_f]
      refine f_readNumber hS5 hs2.2.1 (by omega) (by omega) (by omega) (by omega) ?_
      cases hr2 : pN l T 1 6 p1 with
      | inl r =>
        obtain ⟨c, s⟩ := r
        rw [hr2] at hK
        intro ξ k h1 h2
        have hq := hK ξ (hs2.toM k h1 h2)
        simp (disch := first | assumption | omega) only [RS_0, RS_1, RS_2, RS_3, RS_4, RS_5, RS_6, RS_7, RS_8, RS_9, RS_10, RS_11, RS_12, RS_13, RS_14, RS_15, RS_16, RS_17, RS_18, RS_19, RS_20, RS_21, RS_22, RS_23, RS_24, RS_25, RS_26, RS_27, RS_28, RS_29, RS_30, RS_31, RS_32, RS_33, RS_34, RS_35, RS_36, ji_add, ji_sub, ji_mul, ji_neg, ji_lit0, ji_ofNat, ji_lt, ji_le, ji_eq, ji_nat, ji_in, ji_rem, ji_div, jl_of, xl_lt, xl_gt, xl_eq, qV_at, qI_at, qJ_at, qD_at, qA_at, qA_no, nb0, nb1, cat_r, cat_i, Option.some.injEq, exists_eq_left', true_and, and_true, if_true, if_false, ite_not, not_true_eq_false, not_false_eq_true, Sum.inr.injEq, exists_eq_right', true_or, or_true, and_self, Int.cast_ofNat_Int, reduceCtorEq, or_false, false_or, false_and, and_false, jb_zero, lt7_0, lt7_1, lt7_2, lt7_3, lt7_4, lt7_5, lt7_6, c_X9_readGrid_3, nb0, ↓reduceIte, ilt_t, ilt_f, ile_t, ile_f, ieq_t, ieq_f, jb_T, jb_F, jb_t, jb_f]
        exact hq
      | inr r =>
        obtain ⟨v, p2⟩ := r
        rw [hr2, bd_j] at hK
        simp only at hK
        intro ξ k h1 h2
        have g := h2 rfl
        have hs3 := (hs2.ky k h1).fld (S' := (w, v, S.2.2.1, S.2.2.2)) (z := v) (f := 296) (Or.inr (Or.inl rfl)) rfl rfl rfl rfl
        have hS6 := hS.mono (hs2.ky k h1).1.1.1
        have hS7 := hS.mono hs3.1.1.1
        simp (disch := first | assumption | omega) only [RS_0, RS_1, RS_2, RS_3, RS_4, RS_5, RS_6, RS_7, RS_8, RS_9, RS_10, RS_11, RS_12, RS_13, RS_14, RS_15, RS_16, RS_17, RS_18, RS_19, RS_20, RS_21, RS_22, RS_23, RS_24, RS_25, RS_26, RS_27, RS_28, RS_29, RS_30, RS_31, RS_32, RS_33, RS_34, RS_35, RS_36, ji_add, ji_sub, ji_mul, ji_neg, ji_lit0, ji_ofNat, ji_lt, ji_le, ji_eq, ji_nat, ji_in, ji_rem, ji_div, jl_of, xl_lt, xl_gt, xl_eq, qV_at, qI_at, qJ_at, qD_at, qA_at, qA_no, nb0, nb1, cat_r, cat_i, Option.some.injEq, exists_eq_left', true_and, and_true, if_true, if_false, ite_not, not_true_eq_false, not_false_eq_true, Sum.inr.injEq, exists_eq_right', true_or, or_true, and_self, Int.cast_ofNat_Int, reduceCtorEq, or_false, false_or, false_and, and_false, jb_zero, lt7_0, lt7_1, lt7_2, lt7_3, lt7_4, lt7_5, lt7_6, c_X9_readGrid_3, g, ↓reduceIte, ilt_t, ilt_f, ile_t, ile_f, ieq_t, ieq_f, jb_T, jb_F, jb_t, jb_f]
        exact f_end hS hs3 (fun _ _ => rfl) hK
theorem f_readStale (hS : RS μ m) (h : QL ν μ m l T S p e q) (hi : yI k S) (hK : QT μ m l T e q Q (if S.2.2.1 = -1 then yT l T S (tE l T (tB l T p)) else .inl (4, tB l T p))) : s_X9_readStale ν [.ref m] Q X := by
  have hS2 := hS.mono h.1.1.1
  have g314 := h.2.1.2.2.1
  have g297 := h.2.2.1.2.2
  have hsb := hi.2.2.2.1
  have hsc := sst_b hi
  unfold sst at hsc
  by_cases hb : S.2.2.1 = -1
  · rw [if_pos hb] at hK
    rw [hb] at g297
    unfold yT at hK
    simp (disch := first | assumption | omega) only [RS_0, RS_1, RS_2, RS_3, RS_4, RS_5, RS_6, RS_7, RS_8, RS_9, RS_10, RS_11, RS_12, RS_13, RS_14, RS_15, RS_16, RS_17, RS_18, RS_19, RS_20, RS_21, RS_22, RS_23, RS_24, RS_25, RS_26, RS_27, RS_28, RS_29, RS_30, RS_31, RS_32, RS_33, RS_34, RS_35, RS_36, ji_add, ji_sub, ji_mul, ji_neg, ji_lit0, ji_ofNat, ji_lt, ji_le, ji_eq, ji_nat, ji_in, ji_rem, ji_div, jl_of, xl_lt, xl_gt, xl_eq, qV_at, qI_at, qJ_at, qD_at, qA_at, qA_no, nb0, nb1, cat_r, cat_i, Option.some.injEq, exists_eq_left', true_and, and_true, if_true, if_false, ite_not, not_true_eq_false, not_false_eq_true, Sum.inr.injEq, exists_eq_right', true_or, or_true, and_self, Int.cast_ofNat_Int, reduceCtorEq, or_false, false_or, false_and, and_false, jb_zero, lt7_0, lt7_1, lt7_2, lt7_3, lt7_4, lt7_5, lt7_6, c_X9_readStale_1, c_X9_readStale_2, c_X9_readStale_3, c_X9_readStale_4, u_X9_readStale, g297, ↓reduceIte, ilt_t, ilt_f, ile_t, ile_f, ieq_t, ieq_f, jb_T, jb_F, jb_t, jb_f]
    refine f_next hS2 h.2.1 (fun ξ k h1 => ?_)
    have hs := h.ky k.y h1
    have hS3 := hS.mono hs.1.1.1
    simp (disch := first | assumption | omega) only [RS_0, RS_1, RS_2, RS_3, RS_4, RS_5, RS_6, RS_7, RS_8, RS_9, RS_10, RS_11, RS_12, RS_13, RS_14, RS_15, RS_16, RS_17, RS_18, RS_19, RS_20, RS_21, RS_22, RS_23, RS_24, RS_25, RS_26, RS_27, RS_28, RS_29, RS_30, RS_31, RS_32, RS_33, RS_34, RS_35, RS_36, ji_add, ji_sub, ji_mul, ji_neg, ji_lit0, ji_ofNat, ji_lt, ji_le, ji_eq, ji_nat, ji_in, ji_rem, ji_div, jl_of, xl_lt, xl_gt, xl_eq, qV_at, qI_at, qJ_at, qD_at, qA_at, qA_no, nb0, nb1, cat_r, cat_i, Option.some.injEq, exists_eq_left', true_and, and_true, if_true, if_false, ite_not, not_true_eq_false, not_false_eq_true, Sum.inr.injEq, exists_eq_right', true_or, or_true, and_self, Int.cast_ofNat_Int, reduceCtorEq, or_false, false_or, false_and, and_false, jb_zero, lt7_0, lt7_1, lt7_2, lt7_3, lt7_4, lt7_5, lt7_6, c_X9_readStale_3, ↓reduceIte, ilt_t, ilt_f, ile_t, ile_f, ieq_t, ieq_f, jb_T, jb_F, jb_t, jb_f]
    refine f_readNumber hS3 hs.2.1 (by omega) (by omega) (by omega) (by omega) ?_
    cases hr : pN l T 1 1000 (tE l T (tB l T p)) with
    | inl r =>
      obtain ⟨c, s⟩ := r
      rw [hr] at hK
      intro ξ k h1 h2
      have hq := hK ξ (hs.toM k h1 h2)
      simp (disch := first | assumption | omega) only [RS_0, RS_1, RS_2, RS_3, RS_4, RS_5, RS_6, RS_7, RS_8, RS_9, RS_10, RS_11, RS_12, RS_13, RS_14, RS_15, RS_16, RS_17, RS_18, RS_19, RS_20, RS_21, RS_22, RS_23, RS_24, RS_25, RS_26, RS_27, RS_28, RS_29, RS_30, RS_31, RS_32, RS_33, RS_34, RS_35, RS_36, ji_add, ji_sub, ji_mul, ji_neg, ji_lit0, ji_ofNat, ji_lt, ji_le, ji_eq, ji_nat, ji_in, ji_rem, ji_div, jl_of, xl_lt, xl_gt, xl_eq, qV_at, qI_at, qJ_at, qD_at, qA_at, qA_no, nb0, nb1, cat_r, cat_i, Option.some.injEq, exists_eq_left', true_and, and_true, if_true, if_false, ite_not, not_true_eq_false, not_false_eq_true, Sum.inr.injEq, exists_eq_right', true_or, or_true, and_self, Int.cast_ofNat_Int, reduceCtorEq, or_false, false_or, false_and, and_false, jb_zero, lt7_0, lt7_1, lt7_2, lt7_3, lt7_4, lt7_5, lt7_6, c_X9_readStale_2, nb0, ↓reduceIte, ilt_t, ilt_f, ile_t, ile_f, ieq_t, ieq_f, jb_T, jb_F, jb_t, jb_f]
      exact hq
    | inr r =>
      obtain ⟨w, p1⟩ := r
      rw [hr, bd_j] at hK
      simp only at hK
      intro ξ k h1 h2
      have g := h2 rfl
      have hs2 := (hs.ky k h1).fld (S' := (S.1, S.2.1, w, S.2.2.2)) (z := w) (f := 297) (Or.inr (Or.inr (Or.inl rfl))) rfl rfl rfl rfl
      have hS4 := hS.mono (hs.ky k h1).1.1.1
      have hS5 := hS.mono hs2.1.1.1
      simp (disch := first | assumption | omega) only [RS_0, RS_1, RS_2, RS_3, RS_4, RS_5, RS_6, RS_7, RS_8, RS_9, RS_10, RS_11, RS_12, RS_13, RS_14, RS_15, RS_16, RS_17, RS_18, RS_19, RS_20, RS_21, RS_22, RS_23, RS_24, RS_25, RS_26, RS_27, RS_28, RS_29, RS_30, RS_31, RS_32, RS_33, RS_34, RS_35, RS_36, ji_add, ji_sub, ji_mul, ji_neg, ji_lit0, ji_ofNat, ji_lt, ji_le, ji_eq, ji_nat, ji_in, ji_rem, ji_div, jl_of, xl_lt, xl_gt, xl_eq, qV_at, qI_at, qJ_at, qD_at, qA_at, qA_no, nb0, nb1, cat_r, cat_i, Option.some.injEq, exists_eq_left', true_and, and_true, if_true, if_false, ite_not, not_true_eq_false, not_false_eq_true, Sum.inr.injEq, exists_eq_right', true_or, or_true, and_self, Int.cast_ofNat_Int, reduceCtorEq, or_false, false_or, false_and, and_false, jb_zero, lt7_0, lt7_1, lt7_2, lt7_3, lt7_4, lt7_5, lt7_6, c_X9_readStale_2, g, ↓reduceIte, ilt_t, ilt_f, ile_t, ile_f, ieq_t, ieq_f, jb_T, jb_F, jb_t, jb_f]
      exact f_end hS hs2 (fun _ _ => rfl) hK
  · rw [if_neg hb] at hK
    rw [if_neg hb] at hsc
    simp (disch := first | assumption | omega) only [RS_0, RS_1, RS_2, RS_3, RS_4, RS_5, RS_6, RS_7, RS_8, RS_9, RS_10, RS_11, RS_12, RS_13, RS_14, RS_15, RS_16, RS_17, RS_18, RS_19, RS_20, RS_21, RS_22, RS_23, RS_24, RS_25, RS_26, RS_27, RS_28, RS_29, RS_30, RS_31, RS_32, RS_33, RS_34, RS_35, RS_36, ji_add, ji_sub, ji_mul, ji_neg, ji_lit0, ji_ofNat, ji_lt, ji_le, ji_eq, ji_nat, ji_in, ji_rem, ji_div, jl_of, xl_lt, xl_gt, xl_eq, qV_at, qI_at, qJ_at, qD_at, qA_at, qA_no, nb0, nb1, cat_r, cat_i, Option.some.injEq, exists_eq_left', true_and, and_true, if_true, if_false, ite_not, not_true_eq_false, not_false_eq_true, Sum.inr.injEq, exists_eq_right', true_or, or_true, and_self, Int.cast_ofNat_Int, reduceCtorEq, or_false, false_or, false_and, and_false, jb_zero, lt7_0, lt7_1, lt7_2, lt7_3, lt7_4, lt7_5, lt7_6, c_X9_readStale_1, c_X9_readStale_2, c_X9_readStale_3, c_X9_readStale_4, u_X9_readStale, g297, hb, ↓reduceIte, ilt_t, ilt_f, ile_t, ile_f, ieq_t, ieq_f, jb_T, jb_F, jb_t, jb_f]
    refine f_fail hS2 g314 (fun ξ k h1 h2 => ?_)
    have hq := hK ξ (h.toM k h1 h2)
    simp (disch := first | assumption | omega) only [RS_0, RS_1, RS_2, RS_3, RS_4, RS_5, RS_6, RS_7, RS_8, RS_9, RS_10, RS_11, RS_12, RS_13, RS_14, RS_15, RS_16, RS_17, RS_18, RS_19, RS_20, RS_21, RS_22, RS_23, RS_24, RS_25, RS_26, RS_27, RS_28, RS_29, RS_30, RS_31, RS_32, RS_33, RS_34, RS_35, RS_36, ji_add, ji_sub, ji_mul, ji_neg, ji_lit0, ji_ofNat, ji_lt, ji_le, ji_eq, ji_nat, ji_in, ji_rem, ji_div, jl_of, xl_lt, xl_gt, xl_eq, qV_at, qI_at, qJ_at, qD_at, qA_at, qA_no, nb0, nb1, cat_r, cat_i, Option.some.injEq, exists_eq_left', true_and, and_true, if_true, if_false, ite_not, not_true_eq_false, not_false_eq_true, Sum.inr.injEq, exists_eq_right', true_or, or_true, and_self, Int.cast_ofNat_Int, reduceCtorEq, or_false, false_or, false_and, and_false, jb_zero, lt7_0, lt7_1, lt7_2, lt7_3, lt7_4, lt7_5, lt7_6, c_X9_readStale_4, nb0, ↓reduceIte, ilt_t, ilt_f, ile_t, ile_f, ieq_t, ieq_f, jb_T, jb_F, jb_t, jb_f]
    exact hq
theorem f_readDead (hS : RS μ m) (h : QL ν μ m l T S p e q) (hi : yI k S) (hK : QT μ m l T e q Q (yD l T S (tE l T (tB l T p)))) : s_X9_readDead ν [.ref m] Q X := by
  have hS2 := hS.mono h.1.1.1
  have hN := hi.1.1.1.1
  have hg := hi.1.1.1.g
  unfold yD yK at hK
  simp (disch := first | assumption | omega) only [RS_0, RS_1, RS_2, RS_3, RS_4, RS_5, RS_6, RS_7, RS_8, RS_9, RS_10, RS_11, RS_12, RS_13, RS_14, RS_15, RS_16, RS_17, RS_18, RS_19, RS_20, RS_21, RS_22, RS_23, RS_24, RS_25, RS_26, RS_27, RS_28, RS_29, RS_30, RS_31, RS_32, RS_33, RS_34, RS_35, RS_36, ji_add, ji_sub, ji_mul, ji_neg, ji_lit0, ji_ofNat, ji_lt, ji_le, ji_eq, ji_nat, ji_in, ji_rem, ji_div, jl_of, xl_lt, xl_gt, xl_eq, qV_at, qI_at, qJ_at, qD_at, qA_at, qA_no, nb0, nb1, cat_r, cat_i, Option.some.injEq, exists_eq_left', true_and, and_true, if_true, if_false, ite_not, not_true_eq_false, not_false_eq_true, Sum.inr.injEq, exists_eq_right', true_or, or_true, and_self, Int.cast_ofNat_Int, reduceCtorEq, or_false, false_or, false_and, and_false, jb_zero, lt7_0, lt7_1, lt7_2, lt7_3, lt7_4, lt7_5, lt7_6, c_X9_readDead_1, c_X9_readDead_2, c_X9_readDead_3, c_X9_readDead_4, c_X9_readDead_5, u_X9_readDead, ↓reduceIte, ilt_t, ilt_f, ile_t, ile_f, ieq_t, ieq_f, jb_T, jb_F, jb_t, jb_f]
  refine f_next hS2 h.2.1 (fun ξ k1 h1 => ?_)
  have hs := h.ky k1.y h1
  have hS3 := hS.mono hs.1.1.1
  have hp1 := h1.1.2
  simp (disch := first | assumption | omega) only [RS_0, RS_1, RS_2, RS_3, RS_4, RS_5, RS_6, RS_7, RS_8, RS_9, RS_10, RS_11, RS_12, RS_13, RS_14, RS_15, RS_16, RS_17, RS_18, RS_19, RS_20, RS_21, RS_22, RS_23, RS_24, RS_25, RS_26, RS_27, RS_28, RS_29, RS_30, RS_31, RS_32, RS_33, RS_34, RS_35, RS_36, ji_add, ji_sub, ji_mul, ji_neg, ji_lit0, ji_ofNat, ji_lt, ji_le, ji_eq, ji_nat, ji_in, ji_rem, ji_div, jl_of, xl_lt, xl_gt, xl_eq, qV_at, qI_at, qJ_at, qD_at, qA_at, qA_no, nb0, nb1, cat_r, cat_i, Option.some.injEq, exists_eq_left', true_and, and_true, if_true, if_false, ite_not, not_true_eq_false, not_false_eq_true, Sum.inr.injEq, exists_eq_right', true_or, or_true, and_self, Int.cast_ofNat_Int, reduceCtorEq, or_false, false_or, false_and, and_false, jb_zero, lt7_0, lt7_1, lt7_2, lt7_3, lt7_4, lt7_5, lt7_6, c_X9_readDead_5, f_lastNode hS hs hi, c_X9_readDead_4, ↓reduceIte, ilt_t, ilt_f, ile_t, ile_f, ieq_t, ieq_f, jb_T, jb_F, jb_t, jb_f]
  refine f_readNumber hS3 hs.2.1 (by omega) (by omega) (by omega) (by omega) ?_
  cases hr : pN l T 0 (S.1 * S.2.1 - 1) (tE l T (tB l T p)) with
  | inl r =>
    obtain ⟨c, s⟩ := r
    rw [hr, bd_i, bd_i] at hK
    intro ξ k h1 h2
    have hq := hK ξ (hs.toM k h1 h2)
    simp (disch := first | assumption | omega) only [RS_0, RS_1, RS_2, RS_3, RS_4, RS_5, RS_6, RS_7, RS_8, RS_9, RS_10, RS_11, RS_12, RS_13, RS_14, RS_15, RS_16, RS_17, RS_18, RS_19, RS_20, RS_21, RS_22, RS_23, RS_24, RS_25, RS_26, RS_27, RS_28, RS_29, RS_30, RS_31, RS_32, RS_33, RS_34, RS_35, RS_36, ji_add, ji_sub, ji_mul, ji_neg, ji_lit0, ji_ofNat, ji_lt, ji_le, ji_eq, ji_nat, ji_in, ji_rem, ji_div, jl_of, xl_lt, xl_gt, xl_eq, qV_at, qI_at, qJ_at, qD_at, qA_at, qA_no, nb0, nb1, cat_r, cat_i, Option.some.injEq, exists_eq_left', true_and, and_true, if_true, if_false, ite_not, not_true_eq_false, not_false_eq_true, Sum.inr.injEq, exists_eq_right', true_or, or_true, and_self, Int.cast_ofNat_Int, reduceCtorEq, or_false, false_or, false_and, and_false, jb_zero, lt7_0, lt7_1, lt7_2, lt7_3, lt7_4, lt7_5, lt7_6, c_X9_readDead_3, nb0, ↓reduceIte, ilt_t, ilt_f, ile_t, ile_f, ieq_t, ieq_f, jb_T, jb_F, jb_t, jb_f]
    exact hq
  | inr r =>
    obtain ⟨n, p1⟩ := r
    have bn := pN_b hr
    have bp := pN_p hp1.2 hr
    rw [hr, bd_j] at hK
    simp only at hK bp
    intro ξ k2 h3 h4
    have g := h4 rfl
    have hs2 := hs.ky k2 h3
    have hS4 := hS.mono hs2.1.1.1
    simp (disch := first | assumption | omega) only [RS_0, RS_1, RS_2, RS_3, RS_4, RS_5, RS_6, RS_7, RS_8, RS_9, RS_10, RS_11, RS_12, RS_13, RS_14, RS_15, RS_16, RS_17, RS_18, RS_19, RS_20, RS_21, RS_22, RS_23, RS_24, RS_25, RS_26, RS_27, RS_28, RS_29, RS_30, RS_31, RS_32, RS_33, RS_34, RS_35, RS_36, ji_add, ji_sub, ji_mul, ji_neg, ji_lit0, ji_ofNat, ji_lt, ji_le, ji_eq, ji_nat, ji_in, ji_rem, ji_div, jl_of, xl_lt, xl_gt, xl_eq, qV_at, qI_at, qJ_at, qD_at, qA_at, qA_no, nb0, nb1, cat_r, cat_i, Option.some.injEq, exists_eq_left', true_and, and_true, if_true, if_false, ite_not, not_true_eq_false, not_false_eq_true, Sum.inr.injEq, exists_eq_right', true_or, or_true, and_self, Int.cast_ofNat_Int, reduceCtorEq, or_false, false_or, false_and, and_false, jb_zero, lt7_0, lt7_1, lt7_2, lt7_3, lt7_4, lt7_5, lt7_6, c_X9_readDead_3, g, ↓reduceIte, ilt_t, ilt_f, ile_t, ile_f, ieq_t, ieq_f, jb_T, jb_F, jb_t, jb_f]
    refine f_readLink hS hs2 hi bn.1 (by omega) (Or.inr rfl) ?_
    cases hr2 : yN l T S.1 S.2.1 n p1 with
    | inl r =>
      obtain ⟨c, s⟩ := r
      rw [hr2, bd_i] at hK
      intro ξ hf
      have hq := hK ξ hf
      simp (disch := first | assumption | omega) only [RS_0, RS_1, RS_2, RS_3, RS_4, RS_5, RS_6, RS_7, RS_8, RS_9, RS_10, RS_11, RS_12, RS_13, RS_14, RS_15, RS_16, RS_17, RS_18, RS_19, RS_20, RS_21, RS_22, RS_23, RS_24, RS_25, RS_26, RS_27, RS_28, RS_29, RS_30, RS_31, RS_32, RS_33, RS_34, RS_35, RS_36, ji_add, ji_sub, ji_mul, ji_neg, ji_lit0, ji_ofNat, ji_lt, ji_le, ji_eq, ji_nat, ji_in, ji_rem, ji_div, jl_of, xl_lt, xl_gt, xl_eq, qV_at, qI_at, qJ_at, qD_at, qA_at, qA_no, nb0, nb1, cat_r, cat_i, Option.some.injEq, exists_eq_left', true_and, and_true, if_true, if_false, ite_not, not_true_eq_false, not_false_eq_true, Sum.inr.injEq, exists_eq_right', true_or, or_true, and_self, Int.cast_ofNat_Int, reduceCtorEq, or_false, false_or, false_and, and_false, jb_zero, lt7_0, lt7_1, lt7_2, lt7_3, lt7_4, lt7_5, lt7_6, c_X9_readDead_2, nb0, ↓reduceIte, ilt_t, ilt_f, ile_t, ile_f, ieq_t, ieq_f, jb_T, jb_F, jb_t, jb_f]
      exact hq
    | inr r =>
      obtain ⟨r, s, p2⟩ := r
      rw [hr2, bd_j] at hK
      simp only at hK
      have hb := yK_b (T := T) (l := l) (w := S.1) (s := S.2.1) (p := tE l T (tB l T p)) (a := (r, s, p2)) hp1.2 (by unfold yK; rw [hr, bd_j]; exact hr2)
      obtain ⟨-, n', y', -, -, e1, e2⟩ := hb
      simp only at e1 e2
      have lb := lka_b (z := n') (y := y') hg
      refine ⟨fun _ hd ξ hf => ?_, fun hd ξ hf g318 => ?_⟩
      · rw [if_pos hd] at hK
        have hq := hK ξ hf
        simp (disch := first | assumption | omega) only [RS_0, RS_1, RS_2, RS_3, RS_4, RS_5, RS_6, RS_7, RS_8, RS_9, RS_10, RS_11, RS_12, RS_13, RS_14, RS_15, RS_16, RS_17, RS_18, RS_19, RS_20, RS_21, RS_22, RS_23, RS_24, RS_25, RS_26, RS_27, RS_28, RS_29, RS_30, RS_31, RS_32, RS_33, RS_34, RS_35, RS_36, ji_add, ji_sub, ji_mul, ji_neg, ji_lit0, ji_ofNat, ji_lt, ji_le, ji_eq, ji_nat, ji_in, ji_rem, ji_div, jl_of, xl_lt, xl_gt, xl_eq, qV_at, qI_at, qJ_at, qD_at, qA_at, qA_no, nb0, nb1, cat_r, cat_i, Option.some.injEq, exists_eq_left', true_and, and_true, if_true, if_false, ite_not, not_true_eq_false, not_false_eq_true, Sum.inr.injEq, exists_eq_right', true_or, or_true, and_self, Int.cast_ofNat_Int, reduceCtorEq, or_false, false_or, false_and, and_false, jb_zero, lt7_0, lt7_1, lt7_2, lt7_3, lt7_4, lt7_5, lt7_6, c_X9_readDead_2, nb0, ↓reduceIte, ilt_t, ilt_f, ile_t, ile_f, ieq_t, ieq_f, jb_T, jb_F, jb_t, jb_f]
        exact hq
      · rw [if_neg (hd rfl)] at hK
        have hf2 := hf.put (i := r) (z := 1) (by omega)
        have hS5 := hS.mono hf.1.1.1
        have hS6 := hS.mono hf2.1.1.1
        simp (disch := first | assumption | omega) only [RS_0, RS_1, RS_2, RS_3, RS_4, RS_5, RS_6, RS_7, RS_8, RS_9, RS_10, RS_11, RS_12, RS_13, RS_14, RS_15, RS_16, RS_17, RS_18, RS_19, RS_20, RS_21, RS_22, RS_23, RS_24, RS_25, RS_26, RS_27, RS_28, RS_29, RS_30, RS_31, RS_32, RS_33, RS_34, RS_35, RS_36, ji_add, ji_sub, ji_mul, ji_neg, ji_lit0, ji_ofNat, ji_lt, ji_le, ji_eq, ji_nat, ji_in, ji_rem, ji_div, jl_of, xl_lt, xl_gt, xl_eq, qV_at, qI_at, qJ_at, qD_at, qA_at, qA_no, nb0, nb1, cat_r, cat_i, Option.some.injEq, exists_eq_left', true_and, and_true, if_true, if_false, ite_not, not_true_eq_false, not_false_eq_true, Sum.inr.injEq, exists_eq_right', true_or, or_true, and_self, Int.cast_ofNat_Int, reduceCtorEq, or_false, false_or, false_and, and_false, jb_zero, lt7_0, lt7_1, lt7_2, lt7_3, lt7_4, lt7_5, lt7_6, c_X9_readDead_2, g318, ↓reduceIte, ilt_t, ilt_f, ile_t, ile_f, ieq_t, ieq_f, jb_T, jb_F, jb_t, jb_f]
        exact f_end hS hf2 (fun _ _ => rfl) hK
theorem f_readLesson (hS : RS μ m) (h : QL ν μ m l T S p e q) (hi : yI k S) (hK : QT μ m l T e q Q (yE l T S (tE l T (tB l T p)))) : s_X9_readLesson ν [.ref m] Q X := by
  have hS2 := hS.mono h.1.1.1
  have hN := hi.1.1.1.1
  have hg := hi.1.1.1.g
  unfold yE yK at hK
  simp (disch := first | assumption | omega) only [RS_0, RS_1, RS_2, RS_3, RS_4, RS_5, RS_6, RS_7, RS_8, RS_9, RS_10, RS_11, RS_12, RS_13, RS_14, RS_15, RS_16, RS_17, RS_18, RS_19, RS_20, RS_21, RS_22, RS_23, RS_24, RS_25, RS_26, RS_27, RS_28, RS_29, RS_30, RS_31, RS_32, RS_33, RS_34, RS_35, RS_36, ji_add, ji_sub, ji_mul, ji_neg, ji_lit0, ji_ofNat, ji_lt, ji_le, ji_eq, ji_nat, ji_in, ji_rem, ji_div, jl_of, xl_lt, xl_gt, xl_eq, qV_at, qI_at, qJ_at, qD_at, qA_at, qA_no, nb0, nb1, cat_r, cat_i, Option.some.injEq, exists_eq_left', true_and, and_true, if_true, if_false, ite_not, not_true_eq_false, not_false_eq_true, Sum.inr.injEq, exists_eq_right', true_or, or_true, and_self, Int.cast_ofNat_Int, reduceCtorEq, or_false, false_or, false_and, and_false, jb_zero, lt7_0, lt7_1, lt7_2, lt7_3, lt7_4, lt7_5, lt7_6, c_X9_readLesson_1, c_X9_readLesson_2, c_X9_readLesson_3, c_X9_readLesson_4, c_X9_readLesson_5, c_X9_readLesson_6, c_X9_readLesson_7, u_X9_readLesson, ↓reduceIte, ilt_t, ilt_f, ile_t, ile_f, ieq_t, ieq_f, jb_T, jb_F, jb_t, jb_f]
  refine f_next hS2 h.2.1 (fun ξ k1 h1 => ?_)
  have hs := h.ky k1.y h1
  have hS3 := hS.mono hs.1.1.1
  have hp1 := h1.1.2
  simp (disch := first | assumption | omega) only [RS_0, RS_1, RS_2, RS_3, RS_4, RS_5, RS_6, RS_7, RS_8, RS_9, RS_10, RS_11, RS_12, RS_13, RS_14, RS_15, RS_16, RS_17, RS_18, RS_19, RS_20, RS_21, RS_22, RS_23, RS_24, RS_25, RS_26, RS_27, RS_28, RS_29, RS_30, RS_31, RS_32, RS_33, RS_34, RS_35, RS_36, ji_add, ji_sub, ji_mul, ji_neg, ji_lit0, ji_ofNat, ji_lt, ji_le, ji_eq, ji_nat, ji_in, ji_rem, ji_div, jl_of, xl_lt, xl_gt, xl_eq, qV_at, qI_at, qJ_at, qD_at, qA_at, qA_no, nb0, nb1, cat_r, cat_i, Option.some.injEq, exists_eq_left', true_and, and_true, if_true, if_false, ite_not, not_true_eq_false, not_false_eq_true, Sum.inr.injEq, exists_eq_right', true_or, or_true, and_self, Int.cast_ofNat_Int, reduceCtorEq, or_false, false_or, false_and, and_false, jb_zero, lt7_0, lt7_1, lt7_2, lt7_3, lt7_4, lt7_5, lt7_6, c_X9_readLesson_7, f_lastNode hS hs hi, c_X9_readLesson_6, ↓reduceIte, ilt_t, ilt_f, ile_t, ile_f, ieq_t, ieq_f, jb_T, jb_F, jb_t, jb_f]
  refine f_readNumber hS3 hs.2.1 (by omega) (by omega) (by omega) (by omega) ?_
  cases hr : pN l T 0 (S.1 * S.2.1 - 1) (tE l T (tB l T p)) with
  | inl r =>
    obtain ⟨c, s⟩ := r
    rw [hr, bd_i] at hK
    intro ξ k h1 h2
    have hq := hK ξ (hs.toM k h1 h2)
    simp (disch := first | assumption | omega) only [RS_0, RS_1, RS_2, RS_3, RS_4, RS_5, RS_6, RS_7, RS_8, RS_9, RS_10, RS_11, RS_12, RS_13, RS_14, RS_15, RS_16, RS_17, RS_18, RS_19, RS_20, RS_21, RS_22, RS_23, RS_24, RS_25, RS_26, RS_27, RS_28, RS_29, RS_30, RS_31, RS_32, RS_33, RS_34, RS_35, RS_36, ji_add, ji_sub, ji_mul, ji_neg, ji_lit0, ji_ofNat, ji_lt, ji_le, ji_eq, ji_nat, ji_in, ji_rem, ji_div, jl_of, xl_lt, xl_gt, xl_eq, qV_at, qI_at, qJ_at, qD_at, qA_at, qA_no, nb0, nb1, cat_r, cat_i, Option.some.injEq, exists_eq_left', true_and, and_true, if_true, if_false, ite_not, not_true_eq_false, not_false_eq_true, Sum.inr.injEq, exists_eq_right', true_or, or_true, and_self, Int.cast_ofNat_Int, reduceCtorEq, or_false, false_or, false_and, and_false, jb_zero, lt7_0, lt7_1, lt7_2, lt7_3, lt7_4, lt7_5, lt7_6, c_X9_readLesson_5, nb0, ↓reduceIte, ilt_t, ilt_f, ile_t, ile_f, ieq_t, ieq_f, jb_T, jb_F, jb_t, jb_f]
    exact hq
  | inr r =>
    obtain ⟨n, p1⟩ := r
    have bn := pN_b hr
    have bp := pN_p hp1.2 hr
    rw [hr, bd_j] at hK
    simp only at hK bp
    intro ξ k2 h3 h4
    have g := h4 rfl
    have hs2 := hs.ky k2 h3
    have hS4 := hS.mono hs2.1.1.1
    simp (disch := first | assumption | omega) only [RS_0, RS_1, RS_2, RS_3, RS_4, RS_5, RS_6, RS_7, RS_8, RS_9, RS_10, RS_11, RS_12, RS_13, RS_14, RS_15, RS_16, RS_17, RS_18, RS_19, RS_20, RS_21, RS_22, RS_23, RS_24, RS_25, RS_26, RS_27, RS_28, RS_29, RS_30, RS_31, RS_32, RS_33, RS_34, RS_35, RS_36, ji_add, ji_sub, ji_mul, ji_neg, ji_lit0, ji_ofNat, ji_lt, ji_le, ji_eq, ji_nat, ji_in, ji_rem, ji_div, jl_of, xl_lt, xl_gt, xl_eq, qV_at, qI_at, qJ_at, qD_at, qA_at, qA_no, nb0, nb1, cat_r, cat_i, Option.some.injEq, exists_eq_left', true_and, and_true, if_true, if_false, ite_not, not_true_eq_false, not_false_eq_true, Sum.inr.injEq, exists_eq_right', true_or, or_true, and_self, Int.cast_ofNat_Int, reduceCtorEq, or_false, false_or, false_and, and_false, jb_zero, lt7_0, lt7_1, lt7_2, lt7_3, lt7_4, lt7_5, lt7_6, c_X9_readLesson_5, f_lastNode hS hs2 hi, c_X9_readLesson_4, ↓reduceIte, ilt_t, ilt_f, ile_t, ile_f, ieq_t, ieq_f, jb_T, jb_F, jb_t, jb_f]
    refine f_readNumber hS4 hs2.2.1 (by omega) (by omega) (by omega) (by omega) ?_
    cases hr3 : pN l T 0 (S.1 * S.2.1 - 1) p1 with
    | inl r =>
      obtain ⟨c, s⟩ := r
      rw [hr3, bd_i, bd_i] at hK
      intro ξ k h1 h2
      have hq := hK ξ (hs2.toM k h1 h2)
      simp (disch := first | assumption | omega) only [RS_0, RS_1, RS_2, RS_3, RS_4, RS_5, RS_6, RS_7, RS_8, RS_9, RS_10, RS_11, RS_12, RS_13, RS_14, RS_15, RS_16, RS_17, RS_18, RS_19, RS_20, RS_21, RS_22, RS_23, RS_24, RS_25, RS_26, RS_27, RS_28, RS_29, RS_30, RS_31, RS_32, RS_33, RS_34, RS_35, RS_36, ji_add, ji_sub, ji_mul, ji_neg, ji_lit0, ji_ofNat, ji_lt, ji_le, ji_eq, ji_nat, ji_in, ji_rem, ji_div, jl_of, xl_lt, xl_gt, xl_eq, qV_at, qI_at, qJ_at, qD_at, qA_at, qA_no, nb0, nb1, cat_r, cat_i, Option.some.injEq, exists_eq_left', true_and, and_true, if_true, if_false, ite_not, not_true_eq_false, not_false_eq_true, Sum.inr.injEq, exists_eq_right', true_or, or_true, and_self, Int.cast_ofNat_Int, reduceCtorEq, or_false, false_or, false_and, and_false, jb_zero, lt7_0, lt7_1, lt7_2, lt7_3, lt7_4, lt7_5, lt7_6, c_X9_readLesson_3, nb0, ↓reduceIte, ilt_t, ilt_f, ile_t, ile_f, ieq_t, ieq_f, jb_T, jb_F, jb_t, jb_f]
      exact hq
    | inr r =>
      obtain ⟨n2, p2⟩ := r
      have bn2 := pN_b hr3
      rw [hr3, bd_j] at hK
      simp only at hK
      intro ξ2 k3 h5 h6
      have gg := h6 rfl
      have hs3 := hs2.ky k3 h5
      have hS5 := hS.mono hs3.1.1.1
      simp (disch := first | assumption | omega) only [RS_0, RS_1, RS_2, RS_3, RS_4, RS_5, RS_6, RS_7, RS_8, RS_9, RS_10, RS_11, RS_12, RS_13, RS_14, RS_15, RS_16, RS_17, RS_18, RS_19, RS_20, RS_21, RS_22, RS_23, RS_24, RS_25, RS_26, RS_27, RS_28, RS_29, RS_30, RS_31, RS_32, RS_33, RS_34, RS_35, RS_36, ji_add, ji_sub, ji_mul, ji_neg, ji_lit0, ji_ofNat, ji_lt, ji_le, ji_eq, ji_nat, ji_in, ji_rem, ji_div, jl_of, xl_lt, xl_gt, xl_eq, qV_at, qI_at, qJ_at, qD_at, qA_at, qA_no, nb0, nb1, cat_r, cat_i, Option.some.injEq, exists_eq_left', true_and, and_true, if_true, if_false, ite_not, not_true_eq_false, not_false_eq_true, Sum.inr.injEq, exists_eq_right', true_or, or_true, and_self, Int.cast_ofNat_Int, reduceCtorEq, or_false, false_or, false_and, and_false, jb_zero, lt7_0, lt7_1, lt7_2, lt7_3, lt7_4, lt7_5, lt7_6, c_X9_readLesson_3, gg, ↓reduceIte, ilt_t, ilt_f, ile_t, ile_f, ieq_t, ieq_f, jb_T, jb_F, jb_t, jb_f]
      refine f_readLink hS hs3 hi bn2.1 (by omega) (Or.inl rfl) ?_
      cases hr2 : yN l T S.1 S.2.1 n2 p2 with
      | inl r =>
        obtain ⟨c, s⟩ := r
        rw [hr2, bd_i] at hK
        intro ξ hf
        have hq := hK ξ hf
        simp (disch := first | assumption | omega) only [RS_0, RS_1, RS_2, RS_3, RS_4, RS_5, RS_6, RS_7, RS_8, RS_9, RS_10, RS_11, RS_12, RS_13, RS_14, RS_15, RS_16, RS_17, RS_18, RS_19, RS_20, RS_21, RS_22, RS_23, RS_24, RS_25, RS_26, RS_27, RS_28, RS_29, RS_30, RS_31, RS_32, RS_33, RS_34, RS_35, RS_36, ji_add, ji_sub, ji_mul, ji_neg, ji_lit0, ji_ofNat, ji_lt, ji_le, ji_eq, ji_nat, ji_in, ji_rem, ji_div, jl_of, xl_lt, xl_gt, xl_eq, qV_at, qI_at, qJ_at, qD_at, qA_at, qA_no, nb0, nb1, cat_r, cat_i, Option.some.injEq, exists_eq_left', true_and, and_true, if_true, if_false, ite_not, not_true_eq_false, not_false_eq_true, Sum.inr.injEq, exists_eq_right', true_or, or_true, and_self, Int.cast_ofNat_Int, reduceCtorEq, or_false, false_or, false_and, and_false, jb_zero, lt7_0, lt7_1, lt7_2, lt7_3, lt7_4, lt7_5, lt7_6, c_X9_readLesson_2, nb0, ↓reduceIte, ilt_t, ilt_f, ile_t, ile_f, ieq_t, ieq_f, jb_T, jb_F, jb_t, jb_f]
        exact hq
      | inr r =>
        obtain ⟨r, s, p3⟩ := r
        rw [hr2, bd_j] at hK
        simp only at hK
        have hb := yK_b (T := T) (l := l) (w := S.1) (s := S.2.1) (p := p1) (a := (r, s, p3)) bp.2 (by unfold yK; rw [hr3, bd_j]; exact hr2)
        obtain ⟨-, n', y', -, -, e1, e2⟩ := hb
        simp only at e1 e2
        have lb := lka_b (z := n') (y := y') hg
        refine ⟨fun z => absurd z (by decide), fun hd ξ hf g318 => ?_⟩
        have hf2 := hf.put (i := 72 + 72 * n + r) (z := 0) (by omega)
        have ez := zlrn_0 (n := n) (m := r) hi.2.2.1 bn.1 (by omega) (by omega) (by omega)
        rw [ez, show (74 : Int) + 72 * n + r = 2 + (72 + 72 * n + r) by omega] at hK
        have hS6 := hS.mono hf.1.1.1
        have hS7 := hS.mono hf2.1.1.1
        simp (disch := first | assumption | omega) only [RS_0, RS_1, RS_2, RS_3, RS_4, RS_5, RS_6, RS_7, RS_8, RS_9, RS_10, RS_11, RS_12, RS_13, RS_14, RS_15, RS_16, RS_17, RS_18, RS_19, RS_20, RS_21, RS_22, RS_23, RS_24, RS_25, RS_26, RS_27, RS_28, RS_29, RS_30, RS_31, RS_32, RS_33, RS_34, RS_35, RS_36, ji_add, ji_sub, ji_mul, ji_neg, ji_lit0, ji_ofNat, ji_lt, ji_le, ji_eq, ji_nat, ji_in, ji_rem, ji_div, jl_of, xl_lt, xl_gt, xl_eq, qV_at, qI_at, qJ_at, qD_at, qA_at, qA_no, nb0, nb1, cat_r, cat_i, Option.some.injEq, exists_eq_left', true_and, and_true, if_true, if_false, ite_not, not_true_eq_false, not_false_eq_true, Sum.inr.injEq, exists_eq_right', true_or, or_true, and_self, Int.cast_ofNat_Int, reduceCtorEq, or_false, false_or, false_and, and_false, jb_zero, lt7_0, lt7_1, lt7_2, lt7_3, lt7_4, lt7_5, lt7_6, c_X9_readLesson_2, g, g318, ↓reduceIte, ilt_t, ilt_f, ile_t, ile_f, ieq_t, ieq_f, jb_T, jb_F, jb_t, jb_f]
        exact f_end hS hf2 (fun _ _ => rfl) hK
theorem f_statement (hS : RS μ m) (h : QL ν μ m l T S p e q) (hi : yI k S) (k0 : 0 ≤ k) (hK : QT μ m l T e q Q (yL l T k S p)) : s_X9_readStatement ν [.ref m, .int (jb (k = 0))] Q X := by
  have hS2 := hS.mono h.1.1.1
  have g314 := h.2.1.2.2.1
  have ht := RS_0 hS2
  have hr : ∀ (Q : XQ) (X : XX) v, (tg ν m = some (.inl 9) ∧ s_X9_isWord ν [.ref m, .long v] Q X) = s_X9_isWord ν [.ref m, .long v] Q X := fun Q X v => by rw [ht]; apply propext; exact ⟨fun z => z.2, fun z => ⟨rfl, z⟩⟩
  have pass : ∀ {G : Int32 → XM → Prop} {r : YP}, (∀ r y, G r y = (nb r ∧ Q (some (.int r)) y)) → QT μ m l T e q Q r → QT μ m l T e q (qI G) r := fun {G} {r} hG hq => by
    match r with
    | .inl (c, s) =>
      intro y hy
      show G (ji 0) y
      rw [hG, nb0, true_and]
      exact hq y hy
    | .inr (S', p') =>
      intro y hy
      show G (ji 1) y
      rw [hG, nb1, true_and]
      exact hq y hy
  unfold yL at hK
  rw [u_X9_readStatement]
  refine f_word (k := 0) (X := fun _ _ => False) hS2 h.2.1 (by decide) (by decide) (fun v => hr _ _ v) (fun w => ?_) (fun w0 => ?_)
  · rw [if_pos w] at hK
    simp (disch := first | assumption | omega) only [RS_0, RS_1, RS_2, RS_3, RS_4, RS_5, RS_6, RS_7, RS_8, RS_9, RS_10, RS_11, RS_12, RS_13, RS_14, RS_15, RS_16, RS_17, RS_18, RS_19, RS_20, RS_21, RS_22, RS_23, RS_24, RS_25, RS_26, RS_27, RS_28, RS_29, RS_30, RS_31, RS_32, RS_33, RS_34, RS_35, RS_36, ji_add, ji_sub, ji_mul, ji_neg, ji_lit0, ji_ofNat, ji_lt, ji_le, ji_eq, ji_nat, ji_in, ji_rem, ji_div, jl_of, xl_lt, xl_gt, xl_eq, qV_at, qI_at, qJ_at, qD_at, qA_at, qA_no, nb0, nb1, cat_r, cat_i, Option.some.injEq, exists_eq_left', true_and, and_true, if_true, if_false, ite_not, not_true_eq_false, not_false_eq_true, Sum.inr.injEq, exists_eq_right', true_or, or_true, and_self, Int.cast_ofNat_Int, reduceCtorEq, or_false, false_or, false_and, and_false, jb_zero, lt7_0, lt7_1, lt7_2, lt7_3, lt7_4, lt7_5, lt7_6, c_X9_readStatement_12, ↓reduceIte, ilt_t, ilt_f, ile_t, ile_f, ieq_t, ieq_f, jb_T, jb_F, jb_t, jb_f]
    by_cases hk : k = 0
    · rw [if_pos hk] at hK
      rw [jb_t _ hk]
      exact f_readGrid hS h (Or.inr rfl) (pass (fun _ _ => rfl) (by rw [if_pos rfl]; exact hK))
    · rw [if_neg hk] at hK
      rw [jb_f _ hk]
      exact f_readGrid hS h (Or.inl rfl) (pass (fun _ _ => rfl) (by rw [if_neg (by decide)]; exact hK))
  rw [if_neg w0] at hK
  simp (disch := first | assumption | omega) only [RS_0, RS_1, RS_2, RS_3, RS_4, RS_5, RS_6, RS_7, RS_8, RS_9, RS_10, RS_11, RS_12, RS_13, RS_14, RS_15, RS_16, RS_17, RS_18, RS_19, RS_20, RS_21, RS_22, RS_23, RS_24, RS_25, RS_26, RS_27, RS_28, RS_29, RS_30, RS_31, RS_32, RS_33, RS_34, RS_35, RS_36, ji_add, ji_sub, ji_mul, ji_neg, ji_lit0, ji_ofNat, ji_lt, ji_le, ji_eq, ji_nat, ji_in, ji_rem, ji_div, jl_of, xl_lt, xl_gt, xl_eq, qV_at, qI_at, qJ_at, qD_at, qA_at, qA_no, nb0, nb1, cat_r, cat_i, Option.some.injEq, exists_eq_left', true_and, and_true, if_true, if_false, ite_not, not_true_eq_false, not_false_eq_true, Sum.inr.injEq, exists_eq_right', true_or, or_true, and_self, Int.cast_ofNat_Int, reduceCtorEq, or_false, false_or, false_and, and_false, jb_zero, lt7_0, lt7_1, lt7_2, lt7_3, lt7_4, lt7_5, lt7_6, c_X9_readStatement_12, ↓reduceIte, ilt_t, ilt_f, ile_t, ile_f, ieq_t, ieq_f, jb_T, jb_F, jb_t, jb_f]
  refine f_word (k := 1) (X := fun _ _ => False) hS2 h.2.1 (by decide) (by decide) (fun v => hr _ _ v) (fun w => ?_) (fun w1 => ?_)
  · rw [if_pos w] at hK
    simp (disch := first | assumption | omega) only [RS_0, RS_1, RS_2, RS_3, RS_4, RS_5, RS_6, RS_7, RS_8, RS_9, RS_10, RS_11, RS_12, RS_13, RS_14, RS_15, RS_16, RS_17, RS_18, RS_19, RS_20, RS_21, RS_22, RS_23, RS_24, RS_25, RS_26, RS_27, RS_28, RS_29, RS_30, RS_31, RS_32, RS_33, RS_34, RS_35, RS_36, ji_add, ji_sub, ji_mul, ji_neg, ji_lit0, ji_ofNat, ji_lt, ji_le, ji_eq, ji_nat, ji_in, ji_rem, ji_div, jl_of, xl_lt, xl_gt, xl_eq, qV_at, qI_at, qJ_at, qD_at, qA_at, qA_no, nb0, nb1, cat_r, cat_i, Option.some.injEq, exists_eq_left', true_and, and_true, if_true, if_false, ite_not, not_true_eq_false, not_false_eq_true, Sum.inr.injEq, exists_eq_right', true_or, or_true, and_self, Int.cast_ofNat_Int, reduceCtorEq, or_false, false_or, false_and, and_false, jb_zero, lt7_0, lt7_1, lt7_2, lt7_3, lt7_4, lt7_5, lt7_6, c_X9_readStatement_9, ↓reduceIte, ilt_t, ilt_f, ile_t, ile_f, ieq_t, ieq_f, jb_T, jb_F, jb_t, jb_f]
    exact f_readStale hS h hi (pass (fun _ _ => rfl) hK)
  rw [if_neg w1] at hK
  simp (disch := first | assumption | omega) only [RS_0, RS_1, RS_2, RS_3, RS_4, RS_5, RS_6, RS_7, RS_8, RS_9, RS_10, RS_11, RS_12, RS_13, RS_14, RS_15, RS_16, RS_17, RS_18, RS_19, RS_20, RS_21, RS_22, RS_23, RS_24, RS_25, RS_26, RS_27, RS_28, RS_29, RS_30, RS_31, RS_32, RS_33, RS_34, RS_35, RS_36, ji_add, ji_sub, ji_mul, ji_neg, ji_lit0, ji_ofNat, ji_lt, ji_le, ji_eq, ji_nat, ji_in, ji_rem, ji_div, jl_of, xl_lt, xl_gt, xl_eq, qV_at, qI_at, qJ_at, qD_at, qA_at, qA_no, nb0, nb1, cat_r, cat_i, Option.some.injEq, exists_eq_left', true_and, and_true, if_true, if_false, ite_not, not_true_eq_false, not_false_eq_true, Sum.inr.injEq, exists_eq_right', true_or, or_true, and_self, Int.cast_ofNat_Int, reduceCtorEq, or_false, false_or, false_and, and_false, jb_zero, lt7_0, lt7_1, lt7_2, lt7_3, lt7_4, lt7_5, lt7_6, c_X9_readStatement_9, ↓reduceIte, ilt_t, ilt_f, ile_t, ile_f, ieq_t, ieq_f, jb_T, jb_F, jb_t, jb_f]
  refine f_word (k := 2) (X := fun _ _ => False) hS2 h.2.1 (by decide) (by decide) (fun v => hr _ _ v) (fun w => ?_) (fun w2 => ?_)
  · rw [if_pos w] at hK
    simp (disch := first | assumption | omega) only [RS_0, RS_1, RS_2, RS_3, RS_4, RS_5, RS_6, RS_7, RS_8, RS_9, RS_10, RS_11, RS_12, RS_13, RS_14, RS_15, RS_16, RS_17, RS_18, RS_19, RS_20, RS_21, RS_22, RS_23, RS_24, RS_25, RS_26, RS_27, RS_28, RS_29, RS_30, RS_31, RS_32, RS_33, RS_34, RS_35, RS_36, ji_add, ji_sub, ji_mul, ji_neg, ji_lit0, ji_ofNat, ji_lt, ji_le, ji_eq, ji_nat, ji_in, ji_rem, ji_div, jl_of, xl_lt, xl_gt, xl_eq, qV_at, qI_at, qJ_at, qD_at, qA_at, qA_no, nb0, nb1, cat_r, cat_i, Option.some.injEq, exists_eq_left', true_and, and_true, if_true, if_false, ite_not, not_true_eq_false, not_false_eq_true, Sum.inr.injEq, exists_eq_right', true_or, or_true, and_self, Int.cast_ofNat_Int, reduceCtorEq, or_false, false_or, false_and, and_false, jb_zero, lt7_0, lt7_1, lt7_2, lt7_3, lt7_4, lt7_5, lt7_6, c_X9_readStatement_6, ↓reduceIte, ilt_t, ilt_f, ile_t, ile_f, ieq_t, ieq_f, jb_T, jb_F, jb_t, jb_f]
    exact f_readDead hS h hi (pass (fun _ _ => rfl) hK)
  rw [if_neg w2] at hK
  simp (disch := first | assumption | omega) only [RS_0, RS_1, RS_2, RS_3, RS_4, RS_5, RS_6, RS_7, RS_8, RS_9, RS_10, RS_11, RS_12, RS_13, RS_14, RS_15, RS_16, RS_17, RS_18, RS_19, RS_20, RS_21, RS_22, RS_23, RS_24, RS_25, RS_26, RS_27, RS_28, RS_29, RS_30, RS_31, RS_32, RS_33, RS_34, RS_35, RS_36, ji_add, ji_sub, ji_mul, ji_neg, ji_lit0, ji_ofNat, ji_lt, ji_le, ji_eq, ji_nat, ji_in, ji_rem, ji_div, jl_of, xl_lt, xl_gt, xl_eq, qV_at, qI_at, qJ_at, qD_at, qA_at, qA_no, nb0, nb1, cat_r, cat_i, Option.some.injEq, exists_eq_left', true_and, and_true, if_true, if_false, ite_not, not_true_eq_false, not_false_eq_true, Sum.inr.injEq, exists_eq_right', true_or, or_true, and_self, Int.cast_ofNat_Int, reduceCtorEq, or_false, false_or, false_and, and_false, jb_zero, lt7_0, lt7_1, lt7_2, lt7_3, lt7_4, lt7_5, lt7_6, c_X9_readStatement_6, ↓reduceIte, ilt_t, ilt_f, ile_t, ile_f, ieq_t, ieq_f, jb_T, jb_F, jb_t, jb_f]
  refine f_word (k := 7) (X := fun _ _ => False) hS2 h.2.1 (by decide) (by decide) (fun v => hr _ _ v) (fun w => ?_) (fun w7 => ?_)
  · rw [if_pos w] at hK
    simp (disch := first | assumption | omega) only [RS_0, RS_1, RS_2, RS_3, RS_4, RS_5, RS_6, RS_7, RS_8, RS_9, RS_10, RS_11, RS_12, RS_13, RS_14, RS_15, RS_16, RS_17, RS_18, RS_19, RS_20, RS_21, RS_22, RS_23, RS_24, RS_25, RS_26, RS_27, RS_28, RS_29, RS_30, RS_31, RS_32, RS_33, RS_34, RS_35, RS_36, ji_add, ji_sub, ji_mul, ji_neg, ji_lit0, ji_ofNat, ji_lt, ji_le, ji_eq, ji_nat, ji_in, ji_rem, ji_div, jl_of, xl_lt, xl_gt, xl_eq, qV_at, qI_at, qJ_at, qD_at, qA_at, qA_no, nb0, nb1, cat_r, cat_i, Option.some.injEq, exists_eq_left', true_and, and_true, if_true, if_false, ite_not, not_true_eq_false, not_false_eq_true, Sum.inr.injEq, exists_eq_right', true_or, or_true, and_self, Int.cast_ofNat_Int, reduceCtorEq, or_false, false_or, false_and, and_false, jb_zero, lt7_0, lt7_1, lt7_2, lt7_3, lt7_4, lt7_5, lt7_6, c_X9_readStatement_3, ↓reduceIte, ilt_t, ilt_f, ile_t, ile_f, ieq_t, ieq_f, jb_T, jb_F, jb_t, jb_f]
    exact f_readLesson hS h hi (pass (fun _ _ => rfl) hK)
  rw [if_neg w7] at hK
  simp (disch := first | assumption | omega) only [RS_0, RS_1, RS_2, RS_3, RS_4, RS_5, RS_6, RS_7, RS_8, RS_9, RS_10, RS_11, RS_12, RS_13, RS_14, RS_15, RS_16, RS_17, RS_18, RS_19, RS_20, RS_21, RS_22, RS_23, RS_24, RS_25, RS_26, RS_27, RS_28, RS_29, RS_30, RS_31, RS_32, RS_33, RS_34, RS_35, RS_36, ji_add, ji_sub, ji_mul, ji_neg, ji_lit0, ji_ofNat, ji_lt, ji_le, ji_eq, ji_nat, ji_in, ji_rem, ji_div, jl_of, xl_lt, xl_gt, xl_eq, qV_at, qI_at, qJ_at, qD_at, qA_at, qA_no, nb0, nb1, cat_r, cat_i, Option.some.injEq, exists_eq_left', true_and, and_true, if_true, if_false, ite_not, not_true_eq_false, not_false_eq_true, Sum.inr.injEq, exists_eq_right', true_or, or_true, and_self, Int.cast_ofNat_Int, reduceCtorEq, or_false, false_or, false_and, and_false, jb_zero, lt7_0, lt7_1, lt7_2, lt7_3, lt7_4, lt7_5, lt7_6, c_X9_readStatement_3, ↓reduceIte, ilt_t, ilt_f, ile_t, ile_f, ieq_t, ieq_f, jb_T, jb_F, jb_t, jb_f]
  refine f_fail hS2 g314 (fun ξ k h1 h2 => ?_)
  have hq := hK ξ (h.toM k h1 h2)
  simp (disch := first | assumption | omega) only [RS_0, RS_1, RS_2, RS_3, RS_4, RS_5, RS_6, RS_7, RS_8, RS_9, RS_10, RS_11, RS_12, RS_13, RS_14, RS_15, RS_16, RS_17, RS_18, RS_19, RS_20, RS_21, RS_22, RS_23, RS_24, RS_25, RS_26, RS_27, RS_28, RS_29, RS_30, RS_31, RS_32, RS_33, RS_34, RS_35, RS_36, ji_add, ji_sub, ji_mul, ji_neg, ji_lit0, ji_ofNat, ji_lt, ji_le, ji_eq, ji_nat, ji_in, ji_rem, ji_div, jl_of, xl_lt, xl_gt, xl_eq, qV_at, qI_at, qJ_at, qD_at, qA_at, qA_no, nb0, nb1, cat_r, cat_i, Option.some.injEq, exists_eq_left', true_and, and_true, if_true, if_false, ite_not, not_true_eq_false, not_false_eq_true, Sum.inr.injEq, exists_eq_right', true_or, or_true, and_self, Int.cast_ofNat_Int, reduceCtorEq, or_false, false_or, false_and, and_false, jb_zero, lt7_0, lt7_1, lt7_2, lt7_3, lt7_4, lt7_5, lt7_6, c_X9_readStatement_1, nb0, ↓reduceIte, ilt_t, ilt_f, ile_t, ile_f, ieq_t, ieq_f, jb_T, jb_F, jb_t, jb_f]
  exact hq
end
