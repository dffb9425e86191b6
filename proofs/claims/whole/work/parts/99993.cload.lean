/-! ===== the class: load ===== -/
theorem fits0 : (fits .boolean (.int (ji 0)) = true) = True := by decide +kernel
theorem fits1 : (fits .boolean (.int (ji 1)) = true) = True := by decide +kernel
def CAs (μ : XM) (x : Nat) (l : Int) (T : Int → Int) (e q s : Int) (no : Int) (Q : XQ) : PR → Prop
  | .inl (c, s') => ∀ ν p, CT ν μ x l T p c s' → Q (some (.int (ji no))) ν
  | .inr (v, p) => ∀ ν, CT ν μ x l T p e q → gI ν 196 (x + 1171) = ji s → Q (some (.int (ji v))) ν
abbrev atL (x a : Nat) : Prop := inW (x + 84) a ∨ a = x + 1171 ∨ a = x + 1173
def LK (ν μ : XM) (x : Nat) (l : Int) (T : Int → Int) (S : YS) (p e q : Int) : Prop := CH (atL x) ν μ ∧ TX ν x l T p ∧ gI ν 198 (x + 1171) = ji e ∧ gI ν 199 (x + 1171) = ji q ∧ gI ν 64 (x + 1173) = ji (if S.2.2.1 = -1 then 0 else 1) ∧ CW ν (x + 84) S.1 S.2.1 (S.1 * S.2.1) (sst S.2.2.1) S.2.2.2
def LF (ν μ : XM) (x : Nat) (c s : Int) : Prop := CH (atL x) ν μ ∧ gI ν 198 (x + 1171) = ji c ∧ gI ν 199 (x + 1171) = ji s ∧ GX ν (x + 84)
def LA (μ : XM) (x : Nat) (l : Int) (T : Int → Int) (e q : Int) (Q : XQ) : YP → Prop
  | .inl (c, s) => ∀ ν, LF ν μ x c s → Q (some (.int (ji 0))) ν
  | .inr (S, p) => ∀ ν, LK ν μ x l T S p e q → Q (some (.int (ji 1))) ν
def LB (μ : XM) (x : Nat) (l : Int) (T : Int → Int) (S : YS) (e q : Int) (Q : XQ) : (Int × Int) ⊕ (Int × Int × Int) → Prop
  | .inl (c, s) => ∀ ν, LF ν μ x c s → Q (some (.int (ji (-1)))) ν
  | .inr (n, s, p) => ∀ ν, LK ν μ x l T S p e q → gI ν 196 (x + 1171) = ji s → Q (some (.int (ji n))) ν
section
variable {μ ν ξ : XM} {x : Nat} {l p e q k : Int} {T : Int → Int} {S : YS} {Q : XQ} {X : XX} {w v : Int}
theorem e_readWay5 (hL : XL μ x) (hSC : SC μ x) (hT : TX μ x l T p) (he : gI μ 198 (x + 1171) = ji e) (hq : gI μ 199 (x + 1171) = ji q) (hK : CAs μ x l T e q (tB l T p) (-1) Q (pW l T p)) : s_X6_readWay μ [.ref (x + 1171)] Q X := by
  simp (disch := first | assumption | omega) only [XL_0, XL_1, XL_2, XL_3, XL_4, XL_5, XL_6, XL_7, XL_8, XL_9, XL_10, XL_11, XL_12, XL_13, XL_14, XL_15, XL_16, XL_17, XL_18, XL_19, XL_20, XL_21, XL_22, XL_23, XL_24, XL_25, XL_26, XL_27, XL_28, XL_29, XL_30, XL_31, XL_32, XL_33, XL_34, XL_35, XL_36, XL_37, XL_38, XL_39, XL_40, XL_41, XL_42, XL_43, XL_44, XL_45, XL_46, XL_47, WS_0, WS_1, WS_2, WS_3, WS_4, WS_5, WS_6, WS_7, WS_8, WS_9, WS_10, WS_11, WS_12, WS_13, WS_14, WS_15, WS_16, WS_17, WS_18, WS_19, WS_20, PS_0, PS_1, PS_2, PS_3, PS_4, PS_5, PS_6, ji_add, ji_sub, ji_mul, ji_neg, ji_lit0, ji_ofNat, ji_lt, ji_le, ji_eq, ji_nat, ji_in, qV_at, qI_at, qJ_at, qD_at, qA_at, qA_no, nb0, nb1, cat_r, cat_i, Option.some.injEq, exists_eq_left', true_and, and_true, if_true, if_false, ite_not, not_true_eq_false, not_false_eq_true, Sum.inr.injEq, exists_eq_right', true_or, or_true, and_self, Int.cast_ofNat_Int, reduceCtorEq, or_false, false_or, false_and, and_false, jb_zero, lt7_0, lt7_1, lt7_2, lt7_3, lt7_4, lt7_5, lt7_6, Nat.reduceAdd, Nat.reduceLeDiff, c_X6_readWay_1, c_X6_readWay_2, c_X6_readWay_3, c_X6_readWay_4, c_X6_readWay_5, c_X6_readWay_6, u_X6_readWay, ↓reduceIte, ilt_t, ilt_f, ile_t, ile_f, ieq_t, ieq_f, jb_T, jb_F, jb_t, jb_f]
  refine e_readToken hL hT (fun ν r => ?_)
  obtain ⟨r1, r2, r3, r4, r5⟩ := r
  have hL2 := hL.mono r1.1.1
  have ct := RT.ct (e := e) (q := q) ⟨r1, r2, r3, r4, r5⟩ he hq
  have sb := tB_b (l := l) (T := T) hT.1.2.2.2
  have hS2 : SC ν x := hSC.frame r1.1 (fun a ha => by omega)
  obtain ⟨a3, b31, b32, b33, b34, b35⟩ := hS2 3 (by omega)
  obtain ⟨a4, b41, b42, b43, b44, b45⟩ := hS2 4 (by omega)
  obtain ⟨a5, b51, b52, b53, b54, b55⟩ := hS2 5 (by omega)
  obtain ⟨a6, b61, b62, b63, b64, b65⟩ := hS2 6 (by omega)
  have hp := hT.1
  unfold pW at hK
  simp (disch := first | assumption | omega) only [XL_0, XL_1, XL_2, XL_3, XL_4, XL_5, XL_6, XL_7, XL_8, XL_9, XL_10, XL_11, XL_12, XL_13, XL_14, XL_15, XL_16, XL_17, XL_18, XL_19, XL_20, XL_21, XL_22, XL_23, XL_24, XL_25, XL_26, XL_27, XL_28, XL_29, XL_30, XL_31, XL_32, XL_33, XL_34, XL_35, XL_36, XL_37, XL_38, XL_39, XL_40, XL_41, XL_42, XL_43, XL_44, XL_45, XL_46, XL_47, WS_0, WS_1, WS_2, WS_3, WS_4, WS_5, WS_6, WS_7, WS_8, WS_9, WS_10, WS_11, WS_12, WS_13, WS_14, WS_15, WS_16, WS_17, WS_18, WS_19, WS_20, PS_0, PS_1, PS_2, PS_3, PS_4, PS_5, PS_6, ji_add, ji_sub, ji_mul, ji_neg, ji_lit0, ji_ofNat, ji_lt, ji_le, ji_eq, ji_nat, ji_in, qV_at, qI_at, qJ_at, qD_at, qA_at, qA_no, nb0, nb1, cat_r, cat_i, Option.some.injEq, exists_eq_left', true_and, and_true, if_true, if_false, ite_not, not_true_eq_false, not_false_eq_true, Sum.inr.injEq, exists_eq_right', true_or, or_true, and_self, Int.cast_ofNat_Int, reduceCtorEq, or_false, false_or, false_and, and_false, jb_zero, lt7_0, lt7_1, lt7_2, lt7_3, lt7_4, lt7_5, lt7_6, Nat.reduceAdd, Nat.reduceLeDiff, c_X6_readWay_1, c_X6_readWay_2, c_X6_readWay_3, c_X6_readWay_4, c_X6_readWay_5, c_X6_readWay_6, b32, ↓reduceIte, ilt_t, ilt_f, ile_t, ile_f, ieq_t, ieq_f, jb_T, jb_F, jb_t, jb_f]
  refine e_isWord hL2 (by omega : 3 < 14) b33 b34 b35 r2 r3 r4 (by omega) sb.2 rfl (fun w => ?_) (fun w3 => ?_)
  · rw [if_pos w] at hK
    have hq := hK ν ct r4
    simp (disch := first | assumption | omega) only [XL_0, XL_1, XL_2, XL_3, XL_4, XL_5, XL_6, XL_7, XL_8, XL_9, XL_10, XL_11, XL_12, XL_13, XL_14, XL_15, XL_16, XL_17, XL_18, XL_19, XL_20, XL_21, XL_22, XL_23, XL_24, XL_25, XL_26, XL_27, XL_28, XL_29, XL_30, XL_31, XL_32, XL_33, XL_34, XL_35, XL_36, XL_37, XL_38, XL_39, XL_40, XL_41, XL_42, XL_43, XL_44, XL_45, XL_46, XL_47, WS_0, WS_1, WS_2, WS_3, WS_4, WS_5, WS_6, WS_7, WS_8, WS_9, WS_10, WS_11, WS_12, WS_13, WS_14, WS_15, WS_16, WS_17, WS_18, WS_19, WS_20, PS_0, PS_1, PS_2, PS_3, PS_4, PS_5, PS_6, ji_add, ji_sub, ji_mul, ji_neg, ji_lit0, ji_ofNat, ji_lt, ji_le, ji_eq, ji_nat, ji_in, qV_at, qI_at, qJ_at, qD_at, qA_at, qA_no, nb0, nb1, cat_r, cat_i, Option.some.injEq, exists_eq_left', true_and, and_true, if_true, if_false, ite_not, not_true_eq_false, not_false_eq_true, Sum.inr.injEq, exists_eq_right', true_or, or_true, and_self, Int.cast_ofNat_Int, reduceCtorEq, or_false, false_or, false_and, and_false, jb_zero, lt7_0, lt7_1, lt7_2, lt7_3, lt7_4, lt7_5, lt7_6, Nat.reduceAdd, Nat.reduceLeDiff, c_X6_readWay_1, c_X6_readWay_2, c_X6_readWay_3, c_X6_readWay_4, c_X6_readWay_5, c_X6_readWay_6, ↓reduceIte, ilt_t, ilt_f, ile_t, ile_f, ieq_t, ieq_f, jb_T, jb_F, jb_t, jb_f]
    exact hq
  rw [if_neg w3] at hK
  simp (disch := first | assumption | omega) only [XL_0, XL_1, XL_2, XL_3, XL_4, XL_5, XL_6, XL_7, XL_8, XL_9, XL_10, XL_11, XL_12, XL_13, XL_14, XL_15, XL_16, XL_17, XL_18, XL_19, XL_20, XL_21, XL_22, XL_23, XL_24, XL_25, XL_26, XL_27, XL_28, XL_29, XL_30, XL_31, XL_32, XL_33, XL_34, XL_35, XL_36, XL_37, XL_38, XL_39, XL_40, XL_41, XL_42, XL_43, XL_44, XL_45, XL_46, XL_47, WS_0, WS_1, WS_2, WS_3, WS_4, WS_5, WS_6, WS_7, WS_8, WS_9, WS_10, WS_11, WS_12, WS_13, WS_14, WS_15, WS_16, WS_17, WS_18, WS_19, WS_20, PS_0, PS_1, PS_2, PS_3, PS_4, PS_5, PS_6, ji_add, ji_sub, ji_mul, ji_neg, ji_lit0, ji_ofNat, ji_lt, ji_le, ji_eq, ji_nat, ji_in, qV_at, qI_at, qJ_at, qD_at, qA_at, qA_no, nb0, nb1, cat_r, cat_i, Option.some.injEq, exists_eq_left', true_and, and_true, if_true, if_false, ite_not, not_true_eq_false, not_false_eq_true, Sum.inr.injEq, exists_eq_right', true_or, or_true, and_self, Int.cast_ofNat_Int, reduceCtorEq, or_false, false_or, false_and, and_false, jb_zero, lt7_0, lt7_1, lt7_2, lt7_3, lt7_4, lt7_5, lt7_6, Nat.reduceAdd, Nat.reduceLeDiff, c_X6_readWay_1, c_X6_readWay_2, c_X6_readWay_3, c_X6_readWay_4, c_X6_readWay_5, c_X6_readWay_6, b42, ↓reduceIte, ilt_t, ilt_f, ile_t, ile_f, ieq_t, ieq_f, jb_T, jb_F, jb_t, jb_f]
  refine e_isWord hL2 (by omega : 4 < 14) b43 b44 b45 r2 r3 r4 (by omega) sb.2 rfl (fun w => ?_) (fun w4 => ?_)
  · rw [if_pos w] at hK
    have hq := hK ν ct r4
    simp (disch := first | assumption | omega) only [XL_0, XL_1, XL_2, XL_3, XL_4, XL_5, XL_6, XL_7, XL_8, XL_9, XL_10, XL_11, XL_12, XL_13, XL_14, XL_15, XL_16, XL_17, XL_18, XL_19, XL_20, XL_21, XL_22, XL_23, XL_24, XL_25, XL_26, XL_27, XL_28, XL_29, XL_30, XL_31, XL_32, XL_33, XL_34, XL_35, XL_36, XL_37, XL_38, XL_39, XL_40, XL_41, XL_42, XL_43, XL_44, XL_45, XL_46, XL_47, WS_0, WS_1, WS_2, WS_3, WS_4, WS_5, WS_6, WS_7, WS_8, WS_9, WS_10, WS_11, WS_12, WS_13, WS_14, WS_15, WS_16, WS_17, WS_18, WS_19, WS_20, PS_0, PS_1, PS_2, PS_3, PS_4, PS_5, PS_6, ji_add, ji_sub, ji_mul, ji_neg, ji_lit0, ji_ofNat, ji_lt, ji_le, ji_eq, ji_nat, ji_in, qV_at, qI_at, qJ_at, qD_at, qA_at, qA_no, nb0, nb1, cat_r, cat_i, Option.some.injEq, exists_eq_left', true_and, and_true, if_true, if_false, ite_not, not_true_eq_false, not_false_eq_true, Sum.inr.injEq, exists_eq_right', true_or, or_true, and_self, Int.cast_ofNat_Int, reduceCtorEq, or_false, false_or, false_and, and_false, jb_zero, lt7_0, lt7_1, lt7_2, lt7_3, lt7_4, lt7_5, lt7_6, Nat.reduceAdd, Nat.reduceLeDiff, c_X6_readWay_1, c_X6_readWay_2, c_X6_readWay_3, c_X6_readWay_4, c_X6_readWay_5, c_X6_readWay_6, ↓reduceIte, ilt_t, ilt_f, ile_t, ile_f, ieq_t, ieq_f, jb_T, jb_F, jb_t, jb_f]
    exact hq
  rw [if_neg w4] at hK
  simp (disch := first | assumption | omega) only [XL_0, XL_1, XL_2, XL_3, XL_4, XL_5, XL_6, XL_7, XL_8, XL_9, XL_10, XL_11, XL_12, XL_13, XL_14, XL_15, XL_16, XL_17, XL_18, XL_19, XL_20, XL_21, XL_22, XL_23, XL_24, XL_25, XL_26, XL_27, XL_28, XL_29, XL_30, XL_31, XL_32, XL_33, XL_34, XL_35, XL_36, XL_37, XL_38, XL_39, XL_40, XL_41, XL_42, XL_43, XL_44, XL_45, XL_46, XL_47, WS_0, WS_1, WS_2, WS_3, WS_4, WS_5, WS_6, WS_7, WS_8, WS_9, WS_10, WS_11, WS_12, WS_13, WS_14, WS_15, WS_16, WS_17, WS_18, WS_19, WS_20, PS_0, PS_1, PS_2, PS_3, PS_4, PS_5, PS_6, ji_add, ji_sub, ji_mul, ji_neg, ji_lit0, ji_ofNat, ji_lt, ji_le, ji_eq, ji_nat, ji_in, qV_at, qI_at, qJ_at, qD_at, qA_at, qA_no, nb0, nb1, cat_r, cat_i, Option.some.injEq, exists_eq_left', true_and, and_true, if_true, if_false, ite_not, not_true_eq_false, not_false_eq_true, Sum.inr.injEq, exists_eq_right', true_or, or_true, and_self, Int.cast_ofNat_Int, reduceCtorEq, or_false, false_or, false_and, and_false, jb_zero, lt7_0, lt7_1, lt7_2, lt7_3, lt7_4, lt7_5, lt7_6, Nat.reduceAdd, Nat.reduceLeDiff, c_X6_readWay_1, c_X6_readWay_2, c_X6_readWay_3, c_X6_readWay_4, c_X6_readWay_5, c_X6_readWay_6, b52, ↓reduceIte, ilt_t, ilt_f, ile_t, ile_f, ieq_t, ieq_f, jb_T, jb_F, jb_t, jb_f]
  refine e_isWord hL2 (by omega : 5 < 14) b53 b54 b55 r2 r3 r4 (by omega) sb.2 rfl (fun w => ?_) (fun w5 => ?_)
  · rw [if_pos w] at hK
    have hq := hK ν ct r4
    simp (disch := first | assumption | omega) only [XL_0, XL_1, XL_2, XL_3, XL_4, XL_5, XL_6, XL_7, XL_8, XL_9, XL_10, XL_11, XL_12, XL_13, XL_14, XL_15, XL_16, XL_17, XL_18, XL_19, XL_20, XL_21, XL_22, XL_23, XL_24, XL_25, XL_26, XL_27, XL_28, XL_29, XL_30, XL_31, XL_32, XL_33, XL_34, XL_35, XL_36, XL_37, XL_38, XL_39, XL_40, XL_41, XL_42, XL_43, XL_44, XL_45, XL_46, XL_47, WS_0, WS_1, WS_2, WS_3, WS_4, WS_5, WS_6, WS_7, WS_8, WS_9, WS_10, WS_11, WS_12, WS_13, WS_14, WS_15, WS_16, WS_17, WS_18, WS_19, WS_20, PS_0, PS_1, PS_2, PS_3, PS_4, PS_5, PS_6, ji_add, ji_sub, ji_mul, ji_neg, ji_lit0, ji_ofNat, ji_lt, ji_le, ji_eq, ji_nat, ji_in, qV_at, qI_at, qJ_at, qD_at, qA_at, qA_no, nb0, nb1, cat_r, cat_i, Option.some.injEq, exists_eq_left', true_and, and_true, if_true, if_false, ite_not, not_true_eq_false, not_false_eq_true, Sum.inr.injEq, exists_eq_right', true_or, or_true, and_self, Int.cast_ofNat_Int, reduceCtorEq, or_false, false_or, false_and, and_false, jb_zero, lt7_0, lt7_1, lt7_2, lt7_3, lt7_4, lt7_5, lt7_6, Nat.reduceAdd, Nat.reduceLeDiff, c_X6_readWay_1, c_X6_readWay_2, c_X6_readWay_3, c_X6_readWay_4, c_X6_readWay_5, c_X6_readWay_6, ↓reduceIte, ilt_t, ilt_f, ile_t, ile_f, ieq_t, ieq_f, jb_T, jb_F, jb_t, jb_f]
    exact hq
  rw [if_neg w5] at hK
  simp (disch := first | assumption | omega) only [XL_0, XL_1, XL_2, XL_3, XL_4, XL_5, XL_6, XL_7, XL_8, XL_9, XL_10, XL_11, XL_12, XL_13, XL_14, XL_15, XL_16, XL_17, XL_18, XL_19, XL_20, XL_21, XL_22, XL_23, XL_24, XL_25, XL_26, XL_27, XL_28, XL_29, XL_30, XL_31, XL_32, XL_33, XL_34, XL_35, XL_36, XL_37, XL_38, XL_39, XL_40, XL_41, XL_42, XL_43, XL_44, XL_45, XL_46, XL_47, WS_0, WS_1, WS_2, WS_3, WS_4, WS_5, WS_6, WS_7, WS_8, WS_9, WS_10, WS_11, WS_12, WS_13, WS_14, WS_15, WS_16, WS_17, WS_18, WS_19, WS_20, PS_0, PS_1, PS_2, PS_3, PS_4, PS_5, PS_6, ji_add, ji_sub, ji_mul, ji_neg, ji_lit0, ji_ofNat, ji_lt, ji_le, ji_eq, ji_nat, ji_in, qV_at, qI_at, qJ_at, qD_at, qA_at, qA_no, nb0, nb1, cat_r, cat_i, Option.some.injEq, exists_eq_left', true_and, and_true, if_true, if_false, ite_not, not_true_eq_false, not_false_eq_true, Sum.inr.injEq, exists_eq_right', true_or, or_true, and_self, Int.cast_ofNat_Int, reduceCtorEq, or_false, false_or, false_and, and_false, jb_zero, lt7_0, lt7_1, lt7_2, lt7_3, lt7_4, lt7_5, lt7_6, Nat.reduceAdd, Nat.reduceLeDiff, c_X6_readWay_1, c_X6_readWay_2, c_X6_readWay_3, c_X6_readWay_4, c_X6_readWay_5, c_X6_readWay_6, b62, ↓reduceIte, ilt_t, ilt_f, ile_t, ile_f, ieq_t, ieq_f, jb_T, jb_F, jb_t, jb_f]
  refine e_isWord hL2 (by omega : 6 < 14) b63 b64 b65 r2 r3 r4 (by omega) sb.2 rfl (fun w => ?_) (fun w6 => ?_)
  · rw [if_pos w] at hK
    have hq := hK ν ct r4
    simp (disch := first | assumption | omega) only [XL_0, XL_1, XL_2, XL_3, XL_4, XL_5, XL_6, XL_7, XL_8, XL_9, XL_10, XL_11, XL_12, XL_13, XL_14, XL_15, XL_16, XL_17, XL_18, XL_19, XL_20, XL_21, XL_22, XL_23, XL_24, XL_25, XL_26, XL_27, XL_28, XL_29, XL_30, XL_31, XL_32, XL_33, XL_34, XL_35, XL_36, XL_37, XL_38, XL_39, XL_40, XL_41, XL_42, XL_43, XL_44, XL_45, XL_46, XL_47, WS_0, WS_1, WS_2, WS_3, WS_4, WS_5, WS_6, WS_7, WS_8, WS_9, WS_10, WS_11, WS_12, WS_13, WS_14, WS_15, WS_16, WS_17, WS_18, WS_19, WS_20, PS_0, PS_1, PS_2, PS_3, PS_4, PS_5, PS_6, ji_add, ji_sub, ji_mul, ji_neg, ji_lit0, ji_ofNat, ji_lt, ji_le, ji_eq, ji_nat, ji_in, qV_at, qI_at, qJ_at, qD_at, qA_at, qA_no, nb0, nb1, cat_r, cat_i, Option.some.injEq, exists_eq_left', true_and, and_true, if_true, if_false, ite_not, not_true_eq_false, not_false_eq_true, Sum.inr.injEq, exists_eq_right', true_or, or_true, and_self, Int.cast_ofNat_Int, reduceCtorEq, or_false, false_or, false_and, and_false, jb_zero, lt7_0, lt7_1, lt7_2, lt7_3, lt7_4, lt7_5, lt7_6, Nat.reduceAdd, Nat.reduceLeDiff, c_X6_readWay_1, c_X6_readWay_2, c_X6_readWay_3, c_X6_readWay_4, c_X6_readWay_5, c_X6_readWay_6, ↓reduceIte, ilt_t, ilt_f, ile_t, ile_f, ieq_t, ieq_f, jb_T, jb_F, jb_t, jb_f]
    exact hq
  rw [if_neg w6] at hK
  simp (disch := first | assumption | omega) only [XL_0, XL_1, XL_2, XL_3, XL_4, XL_5, XL_6, XL_7, XL_8, XL_9, XL_10, XL_11, XL_12, XL_13, XL_14, XL_15, XL_16, XL_17, XL_18, XL_19, XL_20, XL_21, XL_22, XL_23, XL_24, XL_25, XL_26, XL_27, XL_28, XL_29, XL_30, XL_31, XL_32, XL_33, XL_34, XL_35, XL_36, XL_37, XL_38, XL_39, XL_40, XL_41, XL_42, XL_43, XL_44, XL_45, XL_46, XL_47, WS_0, WS_1, WS_2, WS_3, WS_4, WS_5, WS_6, WS_7, WS_8, WS_9, WS_10, WS_11, WS_12, WS_13, WS_14, WS_15, WS_16, WS_17, WS_18, WS_19, WS_20, PS_0, PS_1, PS_2, PS_3, PS_4, PS_5, PS_6, ji_add, ji_sub, ji_mul, ji_neg, ji_lit0, ji_ofNat, ji_lt, ji_le, ji_eq, ji_nat, ji_in, qV_at, qI_at, qJ_at, qD_at, qA_at, qA_no, nb0, nb1, cat_r, cat_i, Option.some.injEq, exists_eq_left', true_and, and_true, if_true, if_false, ite_not, not_true_eq_false, not_false_eq_true, Sum.inr.injEq, exists_eq_right', true_or, or_true, and_self, Int.cast_ofNat_Int, reduceCtorEq, or_false, false_or, false_and, and_false, jb_zero, lt7_0, lt7_1, lt7_2, lt7_3, lt7_4, lt7_5, lt7_6, Nat.reduceAdd, Nat.reduceLeDiff, c_X6_readWay_1, c_X6_readWay_2, c_X6_readWay_3, c_X6_readWay_4, c_X6_readWay_5, c_X6_readWay_6, ↓reduceIte, ilt_t, ilt_f, ile_t, ile_f, ieq_t, ieq_f, jb_T, jb_F, jb_t, jb_f]
  refine e_fail hL r1.1 r2 r4 (fun ξ h1 => ?_)
  have hq := hK ξ _ h1
  simp (disch := first | assumption | omega) only [XL_0, XL_1, XL_2, XL_3, XL_4, XL_5, XL_6, XL_7, XL_8, XL_9, XL_10, XL_11, XL_12, XL_13, XL_14, XL_15, XL_16, XL_17, XL_18, XL_19, XL_20, XL_21, XL_22, XL_23, XL_24, XL_25, XL_26, XL_27, XL_28, XL_29, XL_30, XL_31, XL_32, XL_33, XL_34, XL_35, XL_36, XL_37, XL_38, XL_39, XL_40, XL_41, XL_42, XL_43, XL_44, XL_45, XL_46, XL_47, WS_0, WS_1, WS_2, WS_3, WS_4, WS_5, WS_6, WS_7, WS_8, WS_9, WS_10, WS_11, WS_12, WS_13, WS_14, WS_15, WS_16, WS_17, WS_18, WS_19, WS_20, PS_0, PS_1, PS_2, PS_3, PS_4, PS_5, PS_6, ji_add, ji_sub, ji_mul, ji_neg, ji_lit0, ji_ofNat, ji_lt, ji_le, ji_eq, ji_nat, ji_in, qV_at, qI_at, qJ_at, qD_at, qA_at, qA_no, nb0, nb1, cat_r, cat_i, Option.some.injEq, exists_eq_left', true_and, and_true, if_true, if_false, ite_not, not_true_eq_false, not_false_eq_true, Sum.inr.injEq, exists_eq_right', true_or, or_true, and_self, Int.cast_ofNat_Int, reduceCtorEq, or_false, false_or, false_and, and_false, jb_zero, lt7_0, lt7_1, lt7_2, lt7_3, lt7_4, lt7_5, lt7_6, Nat.reduceAdd, Nat.reduceLeDiff, c_X6_readWay_1, c_X6_readWay_2, c_X6_readWay_3, c_X6_readWay_4, c_X6_readWay_5, c_X6_readWay_6, ↓reduceIte, ilt_t, ilt_f, ile_t, ile_f, ieq_t, ieq_f, jb_T, jb_F, jb_t, jb_f]
  exact hq
theorem LK.ct {p' e' q' : Int} (h : LK ν μ x l T S p e q) (hi : yI k S) (c : CT ξ ν x l T p' e' q') : LK ξ μ x l T S p' e' q' := by
  obtain ⟨h1, h2, h3, h4, h5, h6⟩ := h
  obtain ⟨c1, c2, c3, c4⟩ := c
  exact ⟨CH.trans (c1.mono (fun a ha => Or.inr (Or.inl ha))) h1, c2, c3, c4, ((c1.2 (x + 1173) (by omega)).1 64).trans h5, h6.frame hi.1.1.1 c1 (fun a a0 a1 => by omega)⟩
theorem LK.f (h : LK ν μ x l T S p e q) : LF ν μ x e q := ⟨h.1, h.2.2.1, h.2.2.2.1, h.2.2.2.2.2.g⟩
theorem LK.cw {S' : YS} (h : LK ν μ x l T S p e q) (c : CH (inW (x + 84)) ξ ν) (e1 : S'.2.2.1 = S.2.2.1) (hC : CW ξ (x + 84) S'.1 S'.2.1 (S'.1 * S'.2.1) (sst S'.2.2.1) S'.2.2.2) : LK ξ μ x l T S' p e q := by
  obtain ⟨h1, h2, h3, h4, h5, h6⟩ := h
  have g := (c.2 (x + 1171) (by unfold inW; omega)).1
  refine ⟨CH.trans (c.mono (fun a ha => Or.inl ha)) h1, ⟨h2.1, (g 193).trans h2.2.1, (g 194).trans h2.2.2.1, fun i i0 i1 => ?_⟩, (g 198).trans h3, (g 199).trans h4, ?_, hC⟩
  · rw [(c.2 (x + 1172) (by unfold inW; omega)).2.2.1]; exact h2.2.2.2 i i0 i1
  · rw [e1]; exact ((c.2 (x + 1173) (by unfold inW; omega)).1 64).trans h5
theorem LK.st {t : Int} (h : LK ν μ x l T S p e q) (hi : yI k S) (t0 : 1 ≤ t) : LK (sI (sI ν 64 (x + 1173) (ji 1)) 228 (x + 84) (ji t)) μ x l T (S.1, S.2.1, t, S.2.2.2) p e q := by
  obtain ⟨h1, h2, h3, h4, h5, h6⟩ := h
  have z1 := hi.2.1.2
  obtain ⟨c1, c2, c3, c4, c5, c6, c7⟩ := h6
  have e1 : sst t = t := if_neg (by omega)
  have g : ∀ k, gI (sI (sI ν 64 (x + 1173) (ji 1)) 228 (x + 84) (ji t)) k (x + 1171) = gI ν k (x + 1171) := fun k => (gI_sI_a _ _ _ _ _ _ (by omega)).trans (gI_sI_a _ _ _ _ _ _ (by omega))
  refine ⟨(h1.sI _ _ _ (Or.inr (Or.inr rfl))).sI _ _ _ (Or.inl (by unfold inW; omega)), ⟨h2.1, (g 193).trans h2.2.1, (g 194).trans h2.2.2.1, h2.2.2.2⟩, (g 198).trans h3, (g 199).trans h4, ?_, ?_⟩
  · rw [gI_sI_k _ _ _ _ _ _ (by omega), gI_sI_at]
    show ji 1 = ji (if t = -1 then 0 else 1)
    rw [if_neg (by omega)]
  · show CW _ (x + 84) S.1 S.2.1 (S.1 * S.2.1) (sst t) S.2.2.2
    rw [e1]
    refine ⟨c1.same (fun a a0 a1 => ⟨fun k => (gI_sI_a _ _ _ _ _ _ (by omega)).trans (gI_sI_a _ _ _ _ _ _ (by omega)), fun i => rfl⟩), gI_sI_at _ _ _ _, ?_, ?_, c5, c6, fun k k0 k1 => by omega⟩
    · rw [gI_sI_k _ _ _ _ _ _ (by omega), gI_sI_a _ _ _ _ _ _ (by omega)]; exact c3
    · rw [gI_sI_k _ _ _ _ _ _ (by omega), gI_sI_a _ _ _ _ _ _ (by omega)]; exact c4
theorem pS_v {a : Int × Int} (h : pS l T p = .inr a) : a.1 = 1 := by
  unfold pS at h
  split at h <;> simp at h
  rw [← h]
theorem e_semi (hL : XL μ x) (h : LK ν μ x l T S p e q) (hi : yI k S) {G : Int32 → XM → Prop} (hG : ∀ r ξ, G r ξ = (nb r ∧ Q (some (.int r)) ξ)) (hK : LA μ x l T e q Q (yQ l T S p)) : s_X6_readSemicolon ν [.ref (x + 1171)] (qI G) X := by
  have hL2 := hL.mono h.1.1
  refine e_readSemicolon hL2 h.2.1 h.2.2.1 h.2.2.2.1 ?_
  unfold yQ at hK
  cases hr : pS l T p with
  | inl r =>
    obtain ⟨c, s⟩ := r
    rw [hr] at hK
    intro ξ p' hct
    show G (ji 0) ξ
    rw [hG, nb0, true_and]
    exact hK ξ (h.ct hi hct).f
  | inr r =>
    have hv := pS_v hr
    obtain ⟨z, p'⟩ := r
    simp only at hv
    subst hv
    rw [hr] at hK
    intro ξ hct
    show G (ji 1) ξ
    rw [hG, nb1, true_and]
    exact hK ξ (h.ct hi hct)
theorem e_readLink (hL : XL μ x) (hSC : SC μ x) (h : LK ν μ x l T S p e q) (hi : yI k S) (hK : LB μ x l T S e q Q (yK l T S.1 S.2.1 p)) : s_X2_readLink ν [.ref (x + 1173), .ref (x + 1171), .ref (x + 84)] Q X := by
  have hL2 := hL.mono h.1.1
  have hT := h.2.1
  have hB := hi.1.1.1
  have hG := h.2.2.2.2.2.1
  have hW := hL2.f
  have g2 := hG.2.2.2.1
  have hN := hB.1
  unfold yK at hK
  simp (disch := first | assumption | omega) only [XL_0, XL_1, XL_2, XL_3, XL_4, XL_5, XL_6, XL_7, XL_8, XL_9, XL_10, XL_11, XL_12, XL_13, XL_14, XL_15, XL_16, XL_17, XL_18, XL_19, XL_20, XL_21, XL_22, XL_23, XL_24, XL_25, XL_26, XL_27, XL_28, XL_29, XL_30, XL_31, XL_32, XL_33, XL_34, XL_35, XL_36, XL_37, XL_38, XL_39, XL_40, XL_41, XL_42, XL_43, XL_44, XL_45, XL_46, XL_47, WS_0, WS_1, WS_2, WS_3, WS_4, WS_5, WS_6, WS_7, WS_8, WS_9, WS_10, WS_11, WS_12, WS_13, WS_14, WS_15, WS_16, WS_17, WS_18, WS_19, WS_20, PS_0, PS_1, PS_2, PS_3, PS_4, PS_5, PS_6, ji_add, ji_sub, ji_mul, ji_neg, ji_lit0, ji_ofNat, ji_lt, ji_le, ji_eq, ji_nat, ji_in, qV_at, qI_at, qJ_at, qD_at, qA_at, qA_no, nb0, nb1, cat_r, cat_i, Option.some.injEq, exists_eq_left', true_and, and_true, if_true, if_false, ite_not, not_true_eq_false, not_false_eq_true, Sum.inr.injEq, exists_eq_right', true_or, or_true, and_self, Int.cast_ofNat_Int, reduceCtorEq, or_false, false_or, false_and, and_false, jb_zero, lt7_0, lt7_1, lt7_2, lt7_3, lt7_4, lt7_5, lt7_6, Nat.reduceAdd, Nat.reduceLeDiff, c_X2_readLink_1, c_X2_readLink_2, u_X2_readLink, c_X2_readLink_3, c_X2_readLink_4, uj_X2_readLink_28, g2, ↓reduceIte, ilt_t, ilt_f, ile_t, ile_f, ieq_t, ieq_f, jb_T, jb_F, jb_t, jb_f]
  refine e_readNumber hL2 hT h.2.2.1 h.2.2.2.1 (by omega) (by omega) (by omega) (by omega) ?_ (fun hk => tV_b (tB_b hT.1.2.2.2).2 hk)
  cases hr : pN l T 0 (S.1 * S.2.1 - 1) p with
  | inl r =>
    obtain ⟨c, s⟩ := r
    rw [hr] at hK
    intro ξ p' hct
    have hq := hK ξ (h.ct hi hct).f
    simp (disch := first | assumption | omega) only [XL_0, XL_1, XL_2, XL_3, XL_4, XL_5, XL_6, XL_7, XL_8, XL_9, XL_10, XL_11, XL_12, XL_13, XL_14, XL_15, XL_16, XL_17, XL_18, XL_19, XL_20, XL_21, XL_22, XL_23, XL_24, XL_25, XL_26, XL_27, XL_28, XL_29, XL_30, XL_31, XL_32, XL_33, XL_34, XL_35, XL_36, XL_37, XL_38, XL_39, XL_40, XL_41, XL_42, XL_43, XL_44, XL_45, XL_46, XL_47, WS_0, WS_1, WS_2, WS_3, WS_4, WS_5, WS_6, WS_7, WS_8, WS_9, WS_10, WS_11, WS_12, WS_13, WS_14, WS_15, WS_16, WS_17, WS_18, WS_19, WS_20, PS_0, PS_1, PS_2, PS_3, PS_4, PS_5, PS_6, ji_add, ji_sub, ji_mul, ji_neg, ji_lit0, ji_ofNat, ji_lt, ji_le, ji_eq, ji_nat, ji_in, qV_at, qI_at, qJ_at, qD_at, qA_at, qA_no, nb0, nb1, cat_r, cat_i, Option.some.injEq, exists_eq_left', true_and, and_true, if_true, if_false, ite_not, not_true_eq_false, not_false_eq_true, Sum.inr.injEq, exists_eq_right', true_or, or_true, and_self, Int.cast_ofNat_Int, reduceCtorEq, or_false, false_or, false_and, and_false, jb_zero, lt7_0, lt7_1, lt7_2, lt7_3, lt7_4, lt7_5, lt7_6, Nat.reduceAdd, Nat.reduceLeDiff, c_X2_readLink_1, c_X2_readLink_2, c_X2_readLink_3, c_X2_readLink_4, uj_X2_readLink_28, ↓reduceIte, ilt_t, ilt_f, ile_t, ile_f, ieq_t, ieq_f, jb_T, jb_F, jb_t, jb_f]
    exact hq
  | inr r =>
    obtain ⟨n, p1⟩ := r
    have bn := pN_b hr
    rw [hr, bd_j] at hK
    unfold yN at hK
    intro ξ hct
    have hs := h.ct hi hct
    have hL3 := hL.mono hs.1.1
    have hS3 : SC ξ x := hSC.frame hs.1 (fun a ha => by unfold atL inW; omega)
    have hT3 := hs.2.1
    have nn : ¬ n = -1 := by omega
    simp (disch := first | assumption | omega) only [XL_0, XL_1, XL_2, XL_3, XL_4, XL_5, XL_6, XL_7, XL_8, XL_9, XL_10, XL_11, XL_12, XL_13, XL_14, XL_15, XL_16, XL_17, XL_18, XL_19, XL_20, XL_21, XL_22, XL_23, XL_24, XL_25, XL_26, XL_27, XL_28, XL_29, XL_30, XL_31, XL_32, XL_33, XL_34, XL_35, XL_36, XL_37, XL_38, XL_39, XL_40, XL_41, XL_42, XL_43, XL_44, XL_45, XL_46, XL_47, WS_0, WS_1, WS_2, WS_3, WS_4, WS_5, WS_6, WS_7, WS_8, WS_9, WS_10, WS_11, WS_12, WS_13, WS_14, WS_15, WS_16, WS_17, WS_18, WS_19, WS_20, PS_0, PS_1, PS_2, PS_3, PS_4, PS_5, PS_6, ji_add, ji_sub, ji_mul, ji_neg, ji_lit0, ji_ofNat, ji_lt, ji_le, ji_eq, ji_nat, ji_in, qV_at, qI_at, qJ_at, qD_at, qA_at, qA_no, nb0, nb1, cat_r, cat_i, Option.some.injEq, exists_eq_left', true_and, and_true, if_true, if_false, ite_not, not_true_eq_false, not_false_eq_true, Sum.inr.injEq, exists_eq_right', true_or, or_true, and_self, Int.cast_ofNat_Int, reduceCtorEq, or_false, false_or, false_and, and_false, jb_zero, lt7_0, lt7_1, lt7_2, lt7_3, lt7_4, lt7_5, lt7_6, Nat.reduceAdd, Nat.reduceLeDiff, c_X2_readLink_2, nn, ↓reduceIte, ilt_t, ilt_f, ile_t, ile_f, ieq_t, ieq_f, jb_T, jb_F, jb_t, jb_f]
    refine e_readWay5 hL3 hS3 hT3 hs.2.2.1 hs.2.2.2.1 ?_
    cases hr2 : pW l T p1 with
    | inl r =>
      obtain ⟨c, s⟩ := r
      simp only [hr2, bd_i] at hK
      intro ξ2 p' hct2
      have hq := hK ξ2 (hs.ct hi hct2).f
      simp (disch := first | assumption | omega) only [XL_0, XL_1, XL_2, XL_3, XL_4, XL_5, XL_6, XL_7, XL_8, XL_9, XL_10, XL_11, XL_12, XL_13, XL_14, XL_15, XL_16, XL_17, XL_18, XL_19, XL_20, XL_21, XL_22, XL_23, XL_24, XL_25, XL_26, XL_27, XL_28, XL_29, XL_30, XL_31, XL_32, XL_33, XL_34, XL_35, XL_36, XL_37, XL_38, XL_39, XL_40, XL_41, XL_42, XL_43, XL_44, XL_45, XL_46, XL_47, WS_0, WS_1, WS_2, WS_3, WS_4, WS_5, WS_6, WS_7, WS_8, WS_9, WS_10, WS_11, WS_12, WS_13, WS_14, WS_15, WS_16, WS_17, WS_18, WS_19, WS_20, PS_0, PS_1, PS_2, PS_3, PS_4, PS_5, PS_6, ji_add, ji_sub, ji_mul, ji_neg, ji_lit0, ji_ofNat, ji_lt, ji_le, ji_eq, ji_nat, ji_in, qV_at, qI_at, qJ_at, qD_at, qA_at, qA_no, nb0, nb1, cat_r, cat_i, Option.some.injEq, exists_eq_left', true_and, and_true, if_true, if_false, ite_not, not_true_eq_false, not_false_eq_true, Sum.inr.injEq, exists_eq_right', true_or, or_true, and_self, Int.cast_ofNat_Int, reduceCtorEq, or_false, false_or, false_and, and_false, jb_zero, lt7_0, lt7_1, lt7_2, lt7_3, lt7_4, lt7_5, lt7_6, Nat.reduceAdd, Nat.reduceLeDiff, c_X2_readLink_1, c_X2_readLink_2, c_X2_readLink_3, c_X2_readLink_4, uj_X2_readLink_28, ↓reduceIte, ilt_t, ilt_f, ile_t, ile_f, ieq_t, ieq_f, jb_T, jb_F, jb_t, jb_f]
      exact hq
    | inr r =>
      obtain ⟨y, p2⟩ := r
      have yb := pW_e hr2
      simp only at yb
      simp only [hr2, bd_j] at hK
      intro ξ2 hct2 g6
      have hs2 := hs.ct hi hct2
      have hL4 := hL.mono hs2.1.1
      have hW4 := hL4.f
      have hG4 := hs2.2.2.2.2.2.1
      have yy : ¬ y = -1 := by omega
      have el := fun (Q : XQ) X => e_linkAt (Q := Q) (X := X) hW4 hG4 (z := n) (y := y) (by omega) (by omega) (by omega) (by omega)
      have lb := lka_b (z := n) (y := y) hB.g
      generalize lka S.1 S.2.1 (S.1 * S.2.1) n y = r at *
      by_cases hl : r = -1
      · rw [if_pos hl] at hK
        simp (disch := first | assumption | omega) only [XL_0, XL_1, XL_2, XL_3, XL_4, XL_5, XL_6, XL_7, XL_8, XL_9, XL_10, XL_11, XL_12, XL_13, XL_14, XL_15, XL_16, XL_17, XL_18, XL_19, XL_20, XL_21, XL_22, XL_23, XL_24, XL_25, XL_26, XL_27, XL_28, XL_29, XL_30, XL_31, XL_32, XL_33, XL_34, XL_35, XL_36, XL_37, XL_38, XL_39, XL_40, XL_41, XL_42, XL_43, XL_44, XL_45, XL_46, XL_47, WS_0, WS_1, WS_2, WS_3, WS_4, WS_5, WS_6, WS_7, WS_8, WS_9, WS_10, WS_11, WS_12, WS_13, WS_14, WS_15, WS_16, WS_17, WS_18, WS_19, WS_20, PS_0, PS_1, PS_2, PS_3, PS_4, PS_5, PS_6, ji_add, ji_sub, ji_mul, ji_neg, ji_lit0, ji_ofNat, ji_lt, ji_le, ji_eq, ji_nat, ji_in, qV_at, qI_at, qJ_at, qD_at, qA_at, qA_no, nb0, nb1, cat_r, cat_i, Option.some.injEq, exists_eq_left', true_and, and_true, if_true, if_false, ite_not, not_true_eq_false, not_false_eq_true, Sum.inr.injEq, exists_eq_right', true_or, or_true, and_self, Int.cast_ofNat_Int, reduceCtorEq, or_false, false_or, false_and, and_false, jb_zero, lt7_0, lt7_1, lt7_2, lt7_3, lt7_4, lt7_5, lt7_6, Nat.reduceAdd, Nat.reduceLeDiff, c_X2_readLink_1, c_X2_readLink_2, c_X2_readLink_3, c_X2_readLink_4, uj_X2_readLink_28, el, yy, hl, ↓reduceIte, ilt_t, ilt_f, ile_t, ile_f, ieq_t, ieq_f, jb_T, jb_F, jb_t, jb_f]
        refine e_fail hL4 (CH.refl _ _) hs2.2.1 g6 (fun ξ3 hct3 => ?_)
        have hq := hK ξ3 (hs2.ct hi hct3).f
        simp (disch := first | assumption | omega) only [XL_0, XL_1, XL_2, XL_3, XL_4, XL_5, XL_6, XL_7, XL_8, XL_9, XL_10, XL_11, XL_12, XL_13, XL_14, XL_15, XL_16, XL_17, XL_18, XL_19, XL_20, XL_21, XL_22, XL_23, XL_24, XL_25, XL_26, XL_27, XL_28, XL_29, XL_30, XL_31, XL_32, XL_33, XL_34, XL_35, XL_36, XL_37, XL_38, XL_39, XL_40, XL_41, XL_42, XL_43, XL_44, XL_45, XL_46, XL_47, WS_0, WS_1, WS_2, WS_3, WS_4, WS_5, WS_6, WS_7, WS_8, WS_9, WS_10, WS_11, WS_12, WS_13, WS_14, WS_15, WS_16, WS_17, WS_18, WS_19, WS_20, PS_0, PS_1, PS_2, PS_3, PS_4, PS_5, PS_6, ji_add, ji_sub, ji_mul, ji_neg, ji_lit0, ji_ofNat, ji_lt, ji_le, ji_eq, ji_nat, ji_in, qV_at, qI_at, qJ_at, qD_at, qA_at, qA_no, nb0, nb1, cat_r, cat_i, Option.some.injEq, exists_eq_left', true_and, and_true, if_true, if_false, ite_not, not_true_eq_false, not_false_eq_true, Sum.inr.injEq, exists_eq_right', true_or, or_true, and_self, Int.cast_ofNat_Int, reduceCtorEq, or_false, false_or, false_and, and_false, jb_zero, lt7_0, lt7_1, lt7_2, lt7_3, lt7_4, lt7_5, lt7_6, Nat.reduceAdd, Nat.reduceLeDiff, c_X2_readLink_1, c_X2_readLink_2, c_X2_readLink_3, c_X2_readLink_4, uj_X2_readLink_28, ↓reduceIte, ilt_t, ilt_f, ile_t, ile_f, ieq_t, ieq_f, jb_T, jb_F, jb_t, jb_f]
        exact hq
      · rw [if_neg hl] at hK
        have hq := hK ξ2 hs2 g6
        simp (disch := first | assumption | omega) only [XL_0, XL_1, XL_2, XL_3, XL_4, XL_5, XL_6, XL_7, XL_8, XL_9, XL_10, XL_11, XL_12, XL_13, XL_14, XL_15, XL_16, XL_17, XL_18, XL_19, XL_20, XL_21, XL_22, XL_23, XL_24, XL_25, XL_26, XL_27, XL_28, XL_29, XL_30, XL_31, XL_32, XL_33, XL_34, XL_35, XL_36, XL_37, XL_38, XL_39, XL_40, XL_41, XL_42, XL_43, XL_44, XL_45, XL_46, XL_47, WS_0, WS_1, WS_2, WS_3, WS_4, WS_5, WS_6, WS_7, WS_8, WS_9, WS_10, WS_11, WS_12, WS_13, WS_14, WS_15, WS_16, WS_17, WS_18, WS_19, WS_20, PS_0, PS_1, PS_2, PS_3, PS_4, PS_5, PS_6, ji_add, ji_sub, ji_mul, ji_neg, ji_lit0, ji_ofNat, ji_lt, ji_le, ji_eq, ji_nat, ji_in, qV_at, qI_at, qJ_at, qD_at, qA_at, qA_no, nb0, nb1, cat_r, cat_i, Option.some.injEq, exists_eq_left', true_and, and_true, if_true, if_false, ite_not, not_true_eq_false, not_false_eq_true, Sum.inr.injEq, exists_eq_right', true_or, or_true, and_self, Int.cast_ofNat_Int, reduceCtorEq, or_false, false_or, false_and, and_false, jb_zero, lt7_0, lt7_1, lt7_2, lt7_3, lt7_4, lt7_5, lt7_6, Nat.reduceAdd, Nat.reduceLeDiff, c_X2_readLink_1, c_X2_readLink_2, c_X2_readLink_3, c_X2_readLink_4, uj_X2_readLink_28, el, yy, hl, ↓reduceIte, ilt_t, ilt_f, ile_t, ile_f, ieq_t, ieq_f, jb_T, jb_F, jb_t, jb_f]
        exact hq
theorem e_readGrid (hL : XL μ x) (h : LK ν μ x l T S p e q) (hi : yI 0 S) (hK : LA μ x l T e q Q (yG l T S p)) : s_X2_readGrid ν [.ref (x + 1173), .ref (x + 1171), .ref (x + 84)] Q X := by
  have hL2 := hL.mono h.1.1
  have hT := h.2.1
  unfold yG at hK
  simp (disch := first | assumption | omega) only [XL_0, XL_1, XL_2, XL_3, XL_4, XL_5, XL_6, XL_7, XL_8, XL_9, XL_10, XL_11, XL_12, XL_13, XL_14, XL_15, XL_16, XL_17, XL_18, XL_19, XL_20, XL_21, XL_22, XL_23, XL_24, XL_25, XL_26, XL_27, XL_28, XL_29, XL_30, XL_31, XL_32, XL_33, XL_34, XL_35, XL_36, XL_37, XL_38, XL_39, XL_40, XL_41, XL_42, XL_43, XL_44, XL_45, XL_46, XL_47, WS_0, WS_1, WS_2, WS_3, WS_4, WS_5, WS_6, WS_7, WS_8, WS_9, WS_10, WS_11, WS_12, WS_13, WS_14, WS_15, WS_16, WS_17, WS_18, WS_19, WS_20, PS_0, PS_1, PS_2, PS_3, PS_4, PS_5, PS_6, ji_add, ji_sub, ji_mul, ji_neg, ji_lit0, ji_ofNat, ji_lt, ji_le, ji_eq, ji_nat, ji_in, qV_at, qI_at, qJ_at, qD_at, qA_at, qA_no, nb0, nb1, cat_r, cat_i, Option.some.injEq, exists_eq_left', true_and, and_true, if_true, if_false, ite_not, not_true_eq_false, not_false_eq_true, Sum.inr.injEq, exists_eq_right', true_or, or_true, and_self, Int.cast_ofNat_Int, reduceCtorEq, or_false, false_or, false_and, and_false, jb_zero, lt7_0, lt7_1, lt7_2, lt7_3, lt7_4, lt7_5, lt7_6, Nat.reduceAdd, Nat.reduceLeDiff, c_X2_readGrid_1, c_X2_readGrid_2, u_X2_readGrid, c_X2_readGrid_3, c_X2_readGrid_4, uj_X2_readGrid_24, ↓reduceIte, ilt_t, ilt_f, ile_t, ile_f, ieq_t, ieq_f, jb_T, jb_F, jb_t, jb_f]
  refine e_readNumber hL2 hT h.2.2.1 h.2.2.2.1 (by omega) (by omega) (by omega) (by omega) ?_ (fun hk => tV_b (tB_b hT.1.2.2.2).2 hk)
  cases hr : pN l T 1 6 p with
  | inl r =>
    obtain ⟨c, s⟩ := r
    rw [hr] at hK
    intro ξ p' hct
    have hq := hK ξ (h.ct hi hct).f
    simp (disch := first | assumption | omega) only [XL_0, XL_1, XL_2, XL_3, XL_4, XL_5, XL_6, XL_7, XL_8, XL_9, XL_10, XL_11, XL_12, XL_13, XL_14, XL_15, XL_16, XL_17, XL_18, XL_19, XL_20, XL_21, XL_22, XL_23, XL_24, XL_25, XL_26, XL_27, XL_28, XL_29, XL_30, XL_31, XL_32, XL_33, XL_34, XL_35, XL_36, XL_37, XL_38, XL_39, XL_40, XL_41, XL_42, XL_43, XL_44, XL_45, XL_46, XL_47, WS_0, WS_1, WS_2, WS_3, WS_4, WS_5, WS_6, WS_7, WS_8, WS_9, WS_10, WS_11, WS_12, WS_13, WS_14, WS_15, WS_16, WS_17, WS_18, WS_19, WS_20, PS_0, PS_1, PS_2, PS_3, PS_4, PS_5, PS_6, ji_add, ji_sub, ji_mul, ji_neg, ji_lit0, ji_ofNat, ji_lt, ji_le, ji_eq, ji_nat, ji_in, qV_at, qI_at, qJ_at, qD_at, qA_at, qA_no, nb0, nb1, cat_r, cat_i, Option.some.injEq, exists_eq_left', true_and, and_true, if_true, if_false, ite_not, not_true_eq_false, not_false_eq_true, Sum.inr.injEq, exists_eq_right', true_or, or_true, and_self, Int.cast_ofNat_Int, reduceCtorEq, or_false, false_or, false_and, and_false, jb_zero, lt7_0, lt7_1, lt7_2, lt7_3, lt7_4, lt7_5, lt7_6, Nat.reduceAdd, Nat.reduceLeDiff, c_X2_readGrid_1, c_X2_readGrid_2, c_X2_readGrid_3, c_X2_readGrid_4, uj_X2_readGrid_24, nb0, ↓reduceIte, ilt_t, ilt_f, ile_t, ile_f, ieq_t, ieq_f, jb_T, jb_F, jb_t, jb_f]
    exact hq
  | inr r =>
    obtain ⟨w, p1⟩ := r
    have wb := pN_b hr
    rw [hr, bd_j] at hK
    intro ξ hct
    have hs := h.ct hi hct
    have hL3 := hL.mono hs.1.1
    have hT3 := hs.2.1
    have nn : ¬ w = -1 := by omega
    simp (disch := first | assumption | omega) only [XL_0, XL_1, XL_2, XL_3, XL_4, XL_5, XL_6, XL_7, XL_8, XL_9, XL_10, XL_11, XL_12, XL_13, XL_14, XL_15, XL_16, XL_17, XL_18, XL_19, XL_20, XL_21, XL_22, XL_23, XL_24, XL_25, XL_26, XL_27, XL_28, XL_29, XL_30, XL_31, XL_32, XL_33, XL_34, XL_35, XL_36, XL_37, XL_38, XL_39, XL_40, XL_41, XL_42, XL_43, XL_44, XL_45, XL_46, XL_47, WS_0, WS_1, WS_2, WS_3, WS_4, WS_5, WS_6, WS_7, WS_8, WS_9, WS_10, WS_11, WS_12, WS_13, WS_14, WS_15, WS_16, WS_17, WS_18, WS_19, WS_20, PS_0, PS_1, PS_2, PS_3, PS_4, PS_5, PS_6, ji_add, ji_sub, ji_mul, ji_neg, ji_lit0, ji_ofNat, ji_lt, ji_le, ji_eq, ji_nat, ji_in, qV_at, qI_at, qJ_at, qD_at, qA_at, qA_no, nb0, nb1, cat_r, cat_i, Option.some.injEq, exists_eq_left', true_and, and_true, if_true, if_false, ite_not, not_true_eq_false, not_false_eq_true, Sum.inr.injEq, exists_eq_right', true_or, or_true, and_self, Int.cast_ofNat_Int, reduceCtorEq, or_false, false_or, false_and, and_false, jb_zero, lt7_0, lt7_1, lt7_2, lt7_3, lt7_4, lt7_5, lt7_6, Nat.reduceAdd, Nat.reduceLeDiff, c_X2_readGrid_2, nn, ↓reduceIte, ilt_t, ilt_f, ile_t, ile_f, ieq_t, ieq_f, jb_T, jb_F, jb_t, jb_f]
    refine e_readNumber hL3 hT3 hs.2.2.1 hs.2.2.2.1 (by omega) (by omega) (by omega) (by omega) ?_ (fun hk => tV_b (tB_b hT3.1.2.2.2).2 hk)
    cases hr2 : pN l T 1 6 p1 with
    | inl r =>
      obtain ⟨c, s⟩ := r
      simp only [hr2, bd_i] at hK
      intro ξ2 p' hct2
      have hq := hK ξ2 (hs.ct hi hct2).f
      simp (disch := first | assumption | omega) only [XL_0, XL_1, XL_2, XL_3, XL_4, XL_5, XL_6, XL_7, XL_8, XL_9, XL_10, XL_11, XL_12, XL_13, XL_14, XL_15, XL_16, XL_17, XL_18, XL_19, XL_20, XL_21, XL_22, XL_23, XL_24, XL_25, XL_26, XL_27, XL_28, XL_29, XL_30, XL_31, XL_32, XL_33, XL_34, XL_35, XL_36, XL_37, XL_38, XL_39, XL_40, XL_41, XL_42, XL_43, XL_44, XL_45, XL_46, XL_47, WS_0, WS_1, WS_2, WS_3, WS_4, WS_5, WS_6, WS_7, WS_8, WS_9, WS_10, WS_11, WS_12, WS_13, WS_14, WS_15, WS_16, WS_17, WS_18, WS_19, WS_20, PS_0, PS_1, PS_2, PS_3, PS_4, PS_5, PS_6, ji_add, ji_sub, ji_mul, ji_neg, ji_lit0, ji_ofNat, ji_lt, ji_le, ji_eq, ji_nat, ji_in, qV_at, qI_at, qJ_at, qD_at, qA_at, qA_no, nb0, nb1, cat_r, cat_i, Option.some.injEq, exists_eq_left', true_and, and_true, if_true, if_false, ite_not, not_true_eq_false, not_false_eq_true, Sum.inr.injEq, exists_eq_right', true_or, or_true, and_self, Int.cast_ofNat_Int, reduceCtorEq, or_false, false_or, false_and, and_false, jb_zero, lt7_0, lt7_1, lt7_2, lt7_3, lt7_4, lt7_5, lt7_6, Nat.reduceAdd, Nat.reduceLeDiff, c_X2_readGrid_1, c_X2_readGrid_2, c_X2_readGrid_3, c_X2_readGrid_4, uj_X2_readGrid_24, nb0, ↓reduceIte, ilt_t, ilt_f, ile_t, ile_f, ieq_t, ieq_f, jb_T, jb_F, jb_t, jb_f]
      exact hq
    | inr r =>
      obtain ⟨v, p2⟩ := r
      have vb := pN_b hr2
      simp only [hr2, bd_j] at hK
      intro ξ2 hct2
      have hs2 := hs.ct hi hct2
      have hL4 := hL.mono hs2.1.1
      have hW4 := hL4.f
      have vv : ¬ v = -1 := by omega
      simp (disch := first | assumption | omega) only [XL_0, XL_1, XL_2, XL_3, XL_4, XL_5, XL_6, XL_7, XL_8, XL_9, XL_10, XL_11, XL_12, XL_13, XL_14, XL_15, XL_16, XL_17, XL_18, XL_19, XL_20, XL_21, XL_22, XL_23, XL_24, XL_25, XL_26, XL_27, XL_28, XL_29, XL_30, XL_31, XL_32, XL_33, XL_34, XL_35, XL_36, XL_37, XL_38, XL_39, XL_40, XL_41, XL_42, XL_43, XL_44, XL_45, XL_46, XL_47, WS_0, WS_1, WS_2, WS_3, WS_4, WS_5, WS_6, WS_7, WS_8, WS_9, WS_10, WS_11, WS_12, WS_13, WS_14, WS_15, WS_16, WS_17, WS_18, WS_19, WS_20, PS_0, PS_1, PS_2, PS_3, PS_4, PS_5, PS_6, ji_add, ji_sub, ji_mul, ji_neg, ji_lit0, ji_ofNat, ji_lt, ji_le, ji_eq, ji_nat, ji_in, qV_at, qI_at, qJ_at, qD_at, qA_at, qA_no, nb0, nb1, cat_r, cat_i, Option.some.injEq, exists_eq_left', true_and, and_true, if_true, if_false, ite_not, not_true_eq_false, not_false_eq_true, Sum.inr.injEq, exists_eq_right', true_or, or_true, and_self, Int.cast_ofNat_Int, reduceCtorEq, or_false, false_or, false_and, and_false, jb_zero, lt7_0, lt7_1, lt7_2, lt7_3, lt7_4, lt7_5, lt7_6, Nat.reduceAdd, Nat.reduceLeDiff, c_X2_readGrid_1, c_X2_readGrid_2, c_X2_readGrid_3, c_X2_readGrid_4, uj_X2_readGrid_24, vv, ↓reduceIte, ilt_t, ilt_f, ile_t, ile_f, ieq_t, ieq_f, jb_T, jb_F, jb_t, jb_f]
      refine e_shape hW4 wb.1 wb.2 vb.1 vb.2 (fun y y1 y2 => ?_)
      have c84 : CH (inW (x + 84)) y ξ2 := y1.mono (fun a ha => by unfold atG at ha; unfold inW; omega)
      have hC := hs2.2.2.2.2.2
      have hs3 : LK y μ x l T (w, v, S.2.2.1, S.2.2.2) p2 e q := hs2.cw c84 rfl (by
        have g := y1.2 (x + 84) (by unfold atG; omega)
        refine ⟨y2, (g.1 228).trans hC.2.1, (g.1 229).trans hC.2.2.1, (g.1 230).trans hC.2.2.2.1, fun i i0 i1 => ?_, fun i i0 i1 => ?_, fun k k0 k1 => ?_⟩
        · rw [(y1.2 (x + 84 + 5) (by unfold atG; omega)).2.2.1]; exact hC.2.2.2.2.1 i i0 i1
        · rw [(y1.2 (x + 84 + 6) (by unfold atG; omega)).2.2.1]; exact hC.2.2.2.2.2.1 i i0 i1
        · have := hi.2.1.2
          simp only at k1
          omega)
      have hL5 := hL.mono hs3.1.1
      have hi3 := hi.grid wb.1 wb.2 vb.1 vb.2
      simp (disch := first | assumption | omega) only [XL_0, XL_1, XL_2, XL_3, XL_4, XL_5, XL_6, XL_7, XL_8, XL_9, XL_10, XL_11, XL_12, XL_13, XL_14, XL_15, XL_16, XL_17, XL_18, XL_19, XL_20, XL_21, XL_22, XL_23, XL_24, XL_25, XL_26, XL_27, XL_28, XL_29, XL_30, XL_31, XL_32, XL_33, XL_34, XL_35, XL_36, XL_37, XL_38, XL_39, XL_40, XL_41, XL_42, XL_43, XL_44, XL_45, XL_46, XL_47, WS_0, WS_1, WS_2, WS_3, WS_4, WS_5, WS_6, WS_7, WS_8, WS_9, WS_10, WS_11, WS_12, WS_13, WS_14, WS_15, WS_16, WS_17, WS_18, WS_19, WS_20, PS_0, PS_1, PS_2, PS_3, PS_4, PS_5, PS_6, ji_add, ji_sub, ji_mul, ji_neg, ji_lit0, ji_ofNat, ji_lt, ji_le, ji_eq, ji_nat, ji_in, qV_at, qI_at, qJ_at, qD_at, qA_at, qA_no, nb0, nb1, cat_r, cat_i, Option.some.injEq, exists_eq_left', true_and, and_true, if_true, if_false, ite_not, not_true_eq_false, not_false_eq_true, Sum.inr.injEq, exists_eq_right', true_or, or_true, and_self, Int.cast_ofNat_Int, reduceCtorEq, or_false, false_or, false_and, and_false, jb_zero, lt7_0, lt7_1, lt7_2, lt7_3, lt7_4, lt7_5, lt7_6, Nat.reduceAdd, Nat.reduceLeDiff, c_X2_readGrid_4, ↓reduceIte, ilt_t, ilt_f, ile_t, ile_f, ieq_t, ieq_f, jb_T, jb_F, jb_t, jb_f]
      exact e_semi hL hs3 hi3 (fun _ _ => rfl) hK
theorem e_readStale (hL : XL μ x) (h : LK ν μ x l T S p e q) (hi : yI k S) (k0 : 0 ≤ k) (hK : LA μ x l T e q Q (yT l T S p)) : s_X2_readStale ν [.ref (x + 1173), .ref (x + 1171), .ref (x + 84)] Q X := by
  have hL2 := hL.mono h.1.1
  have hT := h.2.1
  unfold yT at hK
  simp (disch := first | assumption | omega) only [XL_0, XL_1, XL_2, XL_3, XL_4, XL_5, XL_6, XL_7, XL_8, XL_9, XL_10, XL_11, XL_12, XL_13, XL_14, XL_15, XL_16, XL_17, XL_18, XL_19, XL_20, XL_21, XL_22, XL_23, XL_24, XL_25, XL_26, XL_27, XL_28, XL_29, XL_30, XL_31, XL_32, XL_33, XL_34, XL_35, XL_36, XL_37, XL_38, XL_39, XL_40, XL_41, XL_42, XL_43, XL_44, XL_45, XL_46, XL_47, WS_0, WS_1, WS_2, WS_3, WS_4, WS_5, WS_6, WS_7, WS_8, WS_9, WS_10, WS_11, WS_12, WS_13, WS_14, WS_15, WS_16, WS_17, WS_18, WS_19, WS_20, PS_0, PS_1, PS_2, PS_3, PS_4, PS_5, PS_6, ji_add, ji_sub, ji_mul, ji_neg, ji_lit0, ji_ofNat, ji_lt, ji_le, ji_eq, ji_nat, ji_in, qV_at, qI_at, qJ_at, qD_at, qA_at, qA_no, nb0, nb1, cat_r, cat_i, Option.some.injEq, exists_eq_left', true_and, and_true, if_true, if_false, ite_not, not_true_eq_false, not_false_eq_true, Sum.inr.injEq, exists_eq_right', true_or, or_true, and_self, Int.cast_ofNat_Int, reduceCtorEq, or_false, false_or, false_and, and_false, jb_zero, lt7_0, lt7_1, lt7_2, lt7_3, lt7_4, lt7_5, lt7_6, Nat.reduceAdd, Nat.reduceLeDiff, c_X2_readStale_1, c_X2_readStale_2, u_X2_readStale, ↓reduceIte, ilt_t, ilt_f, ile_t, ile_f, ieq_t, ieq_f, jb_T, jb_F, jb_t, jb_f]
  refine e_readNumber hL2 hT h.2.2.1 h.2.2.2.1 (by omega) (by omega) (by omega) (by omega) ?_ (fun hk => tV_b (tB_b hT.1.2.2.2).2 hk)
  cases hr : pN l T 1 1000 p with
  | inl r =>
    obtain ⟨c, s⟩ := r
    rw [hr] at hK
    intro ξ p' hct
    have hq := hK ξ (h.ct hi hct).f
    simp (disch := first | assumption | omega) only [XL_0, XL_1, XL_2, XL_3, XL_4, XL_5, XL_6, XL_7, XL_8, XL_9, XL_10, XL_11, XL_12, XL_13, XL_14, XL_15, XL_16, XL_17, XL_18, XL_19, XL_20, XL_21, XL_22, XL_23, XL_24, XL_25, XL_26, XL_27, XL_28, XL_29, XL_30, XL_31, XL_32, XL_33, XL_34, XL_35, XL_36, XL_37, XL_38, XL_39, XL_40, XL_41, XL_42, XL_43, XL_44, XL_45, XL_46, XL_47, WS_0, WS_1, WS_2, WS_3, WS_4, WS_5, WS_6, WS_7, WS_8, WS_9, WS_10, WS_11, WS_12, WS_13, WS_14, WS_15, WS_16, WS_17, WS_18, WS_19, WS_20, PS_0, PS_1, PS_2, PS_3, PS_4, PS_5, PS_6, ji_add, ji_sub, ji_mul, ji_neg, ji_lit0, ji_ofNat, ji_lt, ji_le, ji_eq, ji_nat, ji_in, qV_at, qI_at, qJ_at, qD_at, qA_at, qA_no, nb0, nb1, cat_r, cat_i, Option.some.injEq, exists_eq_left', true_and, and_true, if_true, if_false, ite_not, not_true_eq_false, not_false_eq_true, Sum.inr.injEq, exists_eq_right', true_or, or_true, and_self, Int.cast_ofNat_Int, reduceCtorEq, or_false, false_or, false_and, and_false, jb_zero, lt7_0, lt7_1, lt7_2, lt7_3, lt7_4, lt7_5, lt7_6, Nat.reduceAdd, Nat.reduceLeDiff, c_X2_readStale_1, c_X2_readStale_2, nb0, ↓reduceIte, ilt_t, ilt_f, ile_t, ile_f, ieq_t, ieq_f, jb_T, jb_F, jb_t, jb_f]
    exact hq
  | inr r =>
    obtain ⟨w, p1⟩ := r
    have wb := pN_b hr
    rw [hr, bd_j] at hK
    intro ξ hct
    have hs := h.ct hi hct
    have hL3 := hL.mono hs.1.1
    have hW3 := hL3.f
    have nn : ¬ w = -1 := by omega
    have hs2 := hs.st (t := w) hi wb.1
    have hL4 : XL (sI ξ 64 (x + 1173) (ji 1)) x := hL3.sI _ _ _
    have hW4 := hL4.f
    have hL5 : XL (sI (sI ξ 64 (x + 1173) (ji 1)) 228 (x + 84) (ji w)) x := hL4.sI _ _ _
    have hi2 := hi.stale k0 wb.1 wb.2
    simp (disch := first | assumption | omega) only [XL_0, XL_1, XL_2, XL_3, XL_4, XL_5, XL_6, XL_7, XL_8, XL_9, XL_10, XL_11, XL_12, XL_13, XL_14, XL_15, XL_16, XL_17, XL_18, XL_19, XL_20, XL_21, XL_22, XL_23, XL_24, XL_25, XL_26, XL_27, XL_28, XL_29, XL_30, XL_31, XL_32, XL_33, XL_34, XL_35, XL_36, XL_37, XL_38, XL_39, XL_40, XL_41, XL_42, XL_43, XL_44, XL_45, XL_46, XL_47, WS_0, WS_1, WS_2, WS_3, WS_4, WS_5, WS_6, WS_7, WS_8, WS_9, WS_10, WS_11, WS_12, WS_13, WS_14, WS_15, WS_16, WS_17, WS_18, WS_19, WS_20, PS_0, PS_1, PS_2, PS_3, PS_4, PS_5, PS_6, ji_add, ji_sub, ji_mul, ji_neg, ji_lit0, ji_ofNat, ji_lt, ji_le, ji_eq, ji_nat, ji_in, qV_at, qI_at, qJ_at, qD_at, qA_at, qA_no, nb0, nb1, cat_r, cat_i, Option.some.injEq, exists_eq_left', true_and, and_true, if_true, if_false, ite_not, not_true_eq_false, not_false_eq_true, Sum.inr.injEq, exists_eq_right', true_or, or_true, and_self, Int.cast_ofNat_Int, reduceCtorEq, or_false, false_or, false_and, and_false, jb_zero, lt7_0, lt7_1, lt7_2, lt7_3, lt7_4, lt7_5, lt7_6, Nat.reduceAdd, Nat.reduceLeDiff, c_X2_readStale_2, nn, nb1, fits1, ↓reduceIte, ilt_t, ilt_f, ile_t, ile_f, ieq_t, ieq_f, jb_T, jb_F, jb_t, jb_f]
    exact e_semi hL hs2 hi2 (fun _ _ => rfl) hK
theorem e_readDead (hL : XL μ x) (hSC : SC μ x) (h : LK ν μ x l T S p e q) (hi : yI k S) (k0 : 0 ≤ k) (hK : LA μ x l T e q Q (yD l T S p)) : s_X2_readDead ν [.ref (x + 1173), .ref (x + 1171), .ref (x + 84)] Q X := by
  have hL2 := hL.mono h.1.1
  have hB := hi.1.1.1
  unfold yD at hK
  simp (disch := first | assumption | omega) only [XL_0, XL_1, XL_2, XL_3, XL_4, XL_5, XL_6, XL_7, XL_8, XL_9, XL_10, XL_11, XL_12, XL_13, XL_14, XL_15, XL_16, XL_17, XL_18, XL_19, XL_20, XL_21, XL_22, XL_23, XL_24, XL_25, XL_26, XL_27, XL_28, XL_29, XL_30, XL_31, XL_32, XL_33, XL_34, XL_35, XL_36, XL_37, XL_38, XL_39, XL_40, XL_41, XL_42, XL_43, XL_44, XL_45, XL_46, XL_47, WS_0, WS_1, WS_2, WS_3, WS_4, WS_5, WS_6, WS_7, WS_8, WS_9, WS_10, WS_11, WS_12, WS_13, WS_14, WS_15, WS_16, WS_17, WS_18, WS_19, WS_20, PS_0, PS_1, PS_2, PS_3, PS_4, PS_5, PS_6, ji_add, ji_sub, ji_mul, ji_neg, ji_lit0, ji_ofNat, ji_lt, ji_le, ji_eq, ji_nat, ji_in, qV_at, qI_at, qJ_at, qD_at, qA_at, qA_no, nb0, nb1, cat_r, cat_i, Option.some.injEq, exists_eq_left', true_and, and_true, if_true, if_false, ite_not, not_true_eq_false, not_false_eq_true, Sum.inr.injEq, exists_eq_right', true_or, or_true, and_self, Int.cast_ofNat_Int, reduceCtorEq, or_false, false_or, false_and, and_false, jb_zero, lt7_0, lt7_1, lt7_2, lt7_3, lt7_4, lt7_5, lt7_6, Nat.reduceAdd, Nat.reduceLeDiff, c_X2_readDead_1, c_X2_readDead_2, c_X2_readDead_3, c_X2_readDead_4, c_X2_readDead_5, u_X2_readDead, ↓reduceIte, ilt_t, ilt_f, ile_t, ile_f, ieq_t, ieq_f, jb_T, jb_F, jb_t, jb_f]
  refine e_readLink hL hSC h hi ?_
  cases hr : yK l T S.1 S.2.1 p with
  | inl r =>
    obtain ⟨c, s⟩ := r
    rw [hr] at hK
    intro ξ hf
    have hq := hK ξ hf
    simp (disch := first | assumption | omega) only [XL_0, XL_1, XL_2, XL_3, XL_4, XL_5, XL_6, XL_7, XL_8, XL_9, XL_10, XL_11, XL_12, XL_13, XL_14, XL_15, XL_16, XL_17, XL_18, XL_19, XL_20, XL_21, XL_22, XL_23, XL_24, XL_25, XL_26, XL_27, XL_28, XL_29, XL_30, XL_31, XL_32, XL_33, XL_34, XL_35, XL_36, XL_37, XL_38, XL_39, XL_40, XL_41, XL_42, XL_43, XL_44, XL_45, XL_46, XL_47, WS_0, WS_1, WS_2, WS_3, WS_4, WS_5, WS_6, WS_7, WS_8, WS_9, WS_10, WS_11, WS_12, WS_13, WS_14, WS_15, WS_16, WS_17, WS_18, WS_19, WS_20, PS_0, PS_1, PS_2, PS_3, PS_4, PS_5, PS_6, ji_add, ji_sub, ji_mul, ji_neg, ji_lit0, ji_ofNat, ji_lt, ji_le, ji_eq, ji_nat, ji_in, qV_at, qI_at, qJ_at, qD_at, qA_at, qA_no, nb0, nb1, cat_r, cat_i, Option.some.injEq, exists_eq_left', true_and, and_true, if_true, if_false, ite_not, not_true_eq_false, not_false_eq_true, Sum.inr.injEq, exists_eq_right', true_or, or_true, and_self, Int.cast_ofNat_Int, reduceCtorEq, or_false, false_or, false_and, and_false, jb_zero, lt7_0, lt7_1, lt7_2, lt7_3, lt7_4, lt7_5, lt7_6, Nat.reduceAdd, Nat.reduceLeDiff, c_X2_readDead_1, c_X2_readDead_2, c_X2_readDead_3, c_X2_readDead_4, c_X2_readDead_5, nb0, ↓reduceIte, ilt_t, ilt_f, ile_t, ile_f, ieq_t, ieq_f, jb_T, jb_F, jb_t, jb_f]
    exact hq
  | inr r =>
    obtain ⟨n, s, p1⟩ := r
    have hb := yK_b (T := T) h.2.1.1.2.2.2 hr
    obtain ⟨-, n', y', -, -, e1, e2⟩ := hb
    simp only at e1 e2
    have lb := lka_b (z := n') (y := y') hB.g
    rw [hr, bd_j] at hK
    simp only at hK
    intro ξ hs g6
    have hL3 := hL.mono hs.1.1
    have hW3 := hL3.f
    have hC3 := hs.2.2.2.2.2
    have nn : ¬ n = -1 := by omega
    have bz := hB.2.2.1 n (by omega) (by omega)
    have ed := fun (Q : XQ) X => e_isLinkDead (Q := Q) (X := X) hW3 hC3 hB (z := n) (by omega) (by omega)
    by_cases hd : S.2.2.2 (2 + n) = 1
    · rw [if_pos hd] at hK
      have ej : jb (0 ≤ n ∧ n < 72 ∧ S.2.2.2 (2 + n) ≠ 0) = ji 1 := jb_t _ (by omega)
      rw [ej] at ed
      simp (disch := first | assumption | omega) only [XL_0, XL_1, XL_2, XL_3, XL_4, XL_5, XL_6, XL_7, XL_8, XL_9, XL_10, XL_11, XL_12, XL_13, XL_14, XL_15, XL_16, XL_17, XL_18, XL_19, XL_20, XL_21, XL_22, XL_23, XL_24, XL_25, XL_26, XL_27, XL_28, XL_29, XL_30, XL_31, XL_32, XL_33, XL_34, XL_35, XL_36, XL_37, XL_38, XL_39, XL_40, XL_41, XL_42, XL_43, XL_44, XL_45, XL_46, XL_47, WS_0, WS_1, WS_2, WS_3, WS_4, WS_5, WS_6, WS_7, WS_8, WS_9, WS_10, WS_11, WS_12, WS_13, WS_14, WS_15, WS_16, WS_17, WS_18, WS_19, WS_20, PS_0, PS_1, PS_2, PS_3, PS_4, PS_5, PS_6, ji_add, ji_sub, ji_mul, ji_neg, ji_lit0, ji_ofNat, ji_lt, ji_le, ji_eq, ji_nat, ji_in, qV_at, qI_at, qJ_at, qD_at, qA_at, qA_no, nb0, nb1, cat_r, cat_i, Option.some.injEq, exists_eq_left', true_and, and_true, if_true, if_false, ite_not, not_true_eq_false, not_false_eq_true, Sum.inr.injEq, exists_eq_right', true_or, or_true, and_self, Int.cast_ofNat_Int, reduceCtorEq, or_false, false_or, false_and, and_false, jb_zero, lt7_0, lt7_1, lt7_2, lt7_3, lt7_4, lt7_5, lt7_6, Nat.reduceAdd, Nat.reduceLeDiff, c_X2_readDead_5, c_X2_readDead_4, ed, nn, ↓reduceIte, ilt_t, ilt_f, ile_t, ile_f, ieq_t, ieq_f, jb_T, jb_F, jb_t, jb_f]
      refine e_refuse hL3 (CH.refl _ _) hs.2.1 g6 (fun ξ2 hct2 => ?_)
      have hq := hK ξ2 (hs.ct hi hct2).f
      simp (disch := first | assumption | omega) only [XL_0, XL_1, XL_2, XL_3, XL_4, XL_5, XL_6, XL_7, XL_8, XL_9, XL_10, XL_11, XL_12, XL_13, XL_14, XL_15, XL_16, XL_17, XL_18, XL_19, XL_20, XL_21, XL_22, XL_23, XL_24, XL_25, XL_26, XL_27, XL_28, XL_29, XL_30, XL_31, XL_32, XL_33, XL_34, XL_35, XL_36, XL_37, XL_38, XL_39, XL_40, XL_41, XL_42, XL_43, XL_44, XL_45, XL_46, XL_47, WS_0, WS_1, WS_2, WS_3, WS_4, WS_5, WS_6, WS_7, WS_8, WS_9, WS_10, WS_11, WS_12, WS_13, WS_14, WS_15, WS_16, WS_17, WS_18, WS_19, WS_20, PS_0, PS_1, PS_2, PS_3, PS_4, PS_5, PS_6, ji_add, ji_sub, ji_mul, ji_neg, ji_lit0, ji_ofNat, ji_lt, ji_le, ji_eq, ji_nat, ji_in, qV_at, qI_at, qJ_at, qD_at, qA_at, qA_no, nb0, nb1, cat_r, cat_i, Option.some.injEq, exists_eq_left', true_and, and_true, if_true, if_false, ite_not, not_true_eq_false, not_false_eq_true, Sum.inr.injEq, exists_eq_right', true_or, or_true, and_self, Int.cast_ofNat_Int, reduceCtorEq, or_false, false_or, false_and, and_false, jb_zero, lt7_0, lt7_1, lt7_2, lt7_3, lt7_4, lt7_5, lt7_6, Nat.reduceAdd, Nat.reduceLeDiff, c_X2_readDead_3, nb0, ↓reduceIte, ilt_t, ilt_f, ile_t, ile_f, ieq_t, ieq_f, jb_T, jb_F, jb_t, jb_f]
      exact hq
    · rw [if_neg hd] at hK
      have ej : jb (0 ≤ n ∧ n < 72 ∧ S.2.2.2 (2 + n) ≠ 0) = ji 0 := jb_f _ (by omega)
      rw [ej] at ed
      simp (disch := first | assumption | omega) only [XL_0, XL_1, XL_2, XL_3, XL_4, XL_5, XL_6, XL_7, XL_8, XL_9, XL_10, XL_11, XL_12, XL_13, XL_14, XL_15, XL_16, XL_17, XL_18, XL_19, XL_20, XL_21, XL_22, XL_23, XL_24, XL_25, XL_26, XL_27, XL_28, XL_29, XL_30, XL_31, XL_32, XL_33, XL_34, XL_35, XL_36, XL_37, XL_38, XL_39, XL_40, XL_41, XL_42, XL_43, XL_44, XL_45, XL_46, XL_47, WS_0, WS_1, WS_2, WS_3, WS_4, WS_5, WS_6, WS_7, WS_8, WS_9, WS_10, WS_11, WS_12, WS_13, WS_14, WS_15, WS_16, WS_17, WS_18, WS_19, WS_20, PS_0, PS_1, PS_2, PS_3, PS_4, PS_5, PS_6, ji_add, ji_sub, ji_mul, ji_neg, ji_lit0, ji_ofNat, ji_lt, ji_le, ji_eq, ji_nat, ji_in, qV_at, qI_at, qJ_at, qD_at, qA_at, qA_no, nb0, nb1, cat_r, cat_i, Option.some.injEq, exists_eq_left', true_and, and_true, if_true, if_false, ite_not, not_true_eq_false, not_false_eq_true, Sum.inr.injEq, exists_eq_right', true_or, or_true, and_self, Int.cast_ofNat_Int, reduceCtorEq, or_false, false_or, false_and, and_false, jb_zero, lt7_0, lt7_1, lt7_2, lt7_3, lt7_4, lt7_5, lt7_6, Nat.reduceAdd, Nat.reduceLeDiff, c_X2_readDead_5, c_X2_readDead_4, ed, nn, ↓reduceIte, ilt_t, ilt_f, ile_t, ile_f, ieq_t, ieq_f, jb_T, jb_F, jb_t, jb_f]
      refine e_setDead hW3 hC3 hB (by omega) (by omega) (Or.inr rfl) (fun y y1 y2 => ?_)
      have hs2 : LK y μ x l T (S.1, S.2.1, S.2.2.1, zu S.2.2.2 (2 + n) 1) p1 e q := hs.cw (y1.mono (fun a ha => by unfold inW; omega)) rfl y2
      have hL4 := hL.mono hs2.1.1
      have hi2 : yI (k + 1) (S.1, S.2.1, S.2.2.1, zu S.2.2.2 (2 + n) 1) := by
        have := hi.dead (n := n') (y := y') k0 (by omega)
        rw [e1] at this
        exact this
      simp (disch := first | assumption | omega) only [XL_0, XL_1, XL_2, XL_3, XL_4, XL_5, XL_6, XL_7, XL_8, XL_9, XL_10, XL_11, XL_12, XL_13, XL_14, XL_15, XL_16, XL_17, XL_18, XL_19, XL_20, XL_21, XL_22, XL_23, XL_24, XL_25, XL_26, XL_27, XL_28, XL_29, XL_30, XL_31, XL_32, XL_33, XL_34, XL_35, XL_36, XL_37, XL_38, XL_39, XL_40, XL_41, XL_42, XL_43, XL_44, XL_45, XL_46, XL_47, WS_0, WS_1, WS_2, WS_3, WS_4, WS_5, WS_6, WS_7, WS_8, WS_9, WS_10, WS_11, WS_12, WS_13, WS_14, WS_15, WS_16, WS_17, WS_18, WS_19, WS_20, PS_0, PS_1, PS_2, PS_3, PS_4, PS_5, PS_6, ji_add, ji_sub, ji_mul, ji_neg, ji_lit0, ji_ofNat, ji_lt, ji_le, ji_eq, ji_nat, ji_in, qV_at, qI_at, qJ_at, qD_at, qA_at, qA_no, nb0, nb1, cat_r, cat_i, Option.some.injEq, exists_eq_left', true_and, and_true, if_true, if_false, ite_not, not_true_eq_false, not_false_eq_true, Sum.inr.injEq, exists_eq_right', true_or, or_true, and_self, Int.cast_ofNat_Int, reduceCtorEq, or_false, false_or, false_and, and_false, jb_zero, lt7_0, lt7_1, lt7_2, lt7_3, lt7_4, lt7_5, lt7_6, Nat.reduceAdd, Nat.reduceLeDiff, c_X2_readDead_2, ↓reduceIte, ilt_t, ilt_f, ile_t, ile_f, ieq_t, ieq_f, jb_T, jb_F, jb_t, jb_f]
      exact e_semi hL hs2 hi2 (fun _ _ => rfl) hK
theorem e_readLesson (hL : XL μ x) (hSC : SC μ x) (h : LK ν μ x l T S p e q) (hi : yI k S) (k0 : 0 ≤ k) (hK : LA μ x l T e q Q (yE l T S p)) : s_X2_readLesson ν [.ref (x + 1173), .ref (x + 1171), .ref (x + 84)] Q X := by
  have hL2 := hL.mono h.1.1
  have hT := h.2.1
  have hB := hi.1.1.1
  have hG := h.2.2.2.2.2.1
  have hW := hL2.f
  have g2 := hG.2.2.2.1
  have hN := hB.1
  unfold yE at hK
  simp (disch := first | assumption | omega) only [XL_0, XL_1, XL_2, XL_3, XL_4, XL_5, XL_6, XL_7, XL_8, XL_9, XL_10, XL_11, XL_12, XL_13, XL_14, XL_15, XL_16, XL_17, XL_18, XL_19, XL_20, XL_21, XL_22, XL_23, XL_24, XL_25, XL_26, XL_27, XL_28, XL_29, XL_30, XL_31, XL_32, XL_33, XL_34, XL_35, XL_36, XL_37, XL_38, XL_39, XL_40, XL_41, XL_42, XL_43, XL_44, XL_45, XL_46, XL_47, WS_0, WS_1, WS_2, WS_3, WS_4, WS_5, WS_6, WS_7, WS_8, WS_9, WS_10, WS_11, WS_12, WS_13, WS_14, WS_15, WS_16, WS_17, WS_18, WS_19, WS_20, PS_0, PS_1, PS_2, PS_3, PS_4, PS_5, PS_6, ji_add, ji_sub, ji_mul, ji_neg, ji_lit0, ji_ofNat, ji_lt, ji_le, ji_eq, ji_nat, ji_in, qV_at, qI_at, qJ_at, qD_at, qA_at, qA_no, nb0, nb1, cat_r, cat_i, Option.some.injEq, exists_eq_left', true_and, and_true, if_true, if_false, ite_not, not_true_eq_false, not_false_eq_true, Sum.inr.injEq, exists_eq_right', true_or, or_true, and_self, Int.cast_ofNat_Int, reduceCtorEq, or_false, false_or, false_and, and_false, jb_zero, lt7_0, lt7_1, lt7_2, lt7_3, lt7_4, lt7_5, lt7_6, Nat.reduceAdd, Nat.reduceLeDiff, c_X2_readLesson_1, c_X2_readLesson_2, u_X2_readLesson, c_X2_readLesson_3, c_X2_readLesson_4, uj_X2_readLesson_30, g2, ↓reduceIte, ilt_t, ilt_f, ile_t, ile_f, ieq_t, ieq_f, jb_T, jb_F, jb_t, jb_f]
  refine e_readNumber hL2 hT h.2.2.1 h.2.2.2.1 (by omega) (by omega) (by omega) (by omega) ?_ (fun hk => tV_b (tB_b hT.1.2.2.2).2 hk)
  cases hr : pN l T 0 (S.1 * S.2.1 - 1) p with
  | inl r =>
    obtain ⟨c, s⟩ := r
    rw [hr] at hK
    intro ξ p' hct
    have hq := hK ξ (h.ct hi hct).f
    simp (disch := first | assumption | omega) only [XL_0, XL_1, XL_2, XL_3, XL_4, XL_5, XL_6, XL_7, XL_8, XL_9, XL_10, XL_11, XL_12, XL_13, XL_14, XL_15, XL_16, XL_17, XL_18, XL_19, XL_20, XL_21, XL_22, XL_23, XL_24, XL_25, XL_26, XL_27, XL_28, XL_29, XL_30, XL_31, XL_32, XL_33, XL_34, XL_35, XL_36, XL_37, XL_38, XL_39, XL_40, XL_41, XL_42, XL_43, XL_44, XL_45, XL_46, XL_47, WS_0, WS_1, WS_2, WS_3, WS_4, WS_5, WS_6, WS_7, WS_8, WS_9, WS_10, WS_11, WS_12, WS_13, WS_14, WS_15, WS_16, WS_17, WS_18, WS_19, WS_20, PS_0, PS_1, PS_2, PS_3, PS_4, PS_5, PS_6, ji_add, ji_sub, ji_mul, ji_neg, ji_lit0, ji_ofNat, ji_lt, ji_le, ji_eq, ji_nat, ji_in, qV_at, qI_at, qJ_at, qD_at, qA_at, qA_no, nb0, nb1, cat_r, cat_i, Option.some.injEq, exists_eq_left', true_and, and_true, if_true, if_false, ite_not, not_true_eq_false, not_false_eq_true, Sum.inr.injEq, exists_eq_right', true_or, or_true, and_self, Int.cast_ofNat_Int, reduceCtorEq, or_false, false_or, false_and, and_false, jb_zero, lt7_0, lt7_1, lt7_2, lt7_3, lt7_4, lt7_5, lt7_6, Nat.reduceAdd, Nat.reduceLeDiff, c_X2_readLesson_1, c_X2_readLesson_2, c_X2_readLesson_3, c_X2_readLesson_4, uj_X2_readLesson_30, nb0, ↓reduceIte, ilt_t, ilt_f, ile_t, ile_f, ieq_t, ieq_f, jb_T, jb_F, jb_t, jb_f]
    exact hq
  | inr r =>
    obtain ⟨n, p1⟩ := r
    have bn := pN_b hr
    have pb := pN_p hT.1.2.2.2 hr
    rw [hr, bd_j] at hK
    simp only at hK pb
    intro ξ hct
    have hs := h.ct hi hct
    have hL3 := hL.mono hs.1.1
    have nn : ¬ n = -1 := by omega
    simp (disch := first | assumption | omega) only [XL_0, XL_1, XL_2, XL_3, XL_4, XL_5, XL_6, XL_7, XL_8, XL_9, XL_10, XL_11, XL_12, XL_13, XL_14, XL_15, XL_16, XL_17, XL_18, XL_19, XL_20, XL_21, XL_22, XL_23, XL_24, XL_25, XL_26, XL_27, XL_28, XL_29, XL_30, XL_31, XL_32, XL_33, XL_34, XL_35, XL_36, XL_37, XL_38, XL_39, XL_40, XL_41, XL_42, XL_43, XL_44, XL_45, XL_46, XL_47, WS_0, WS_1, WS_2, WS_3, WS_4, WS_5, WS_6, WS_7, WS_8, WS_9, WS_10, WS_11, WS_12, WS_13, WS_14, WS_15, WS_16, WS_17, WS_18, WS_19, WS_20, PS_0, PS_1, PS_2, PS_3, PS_4, PS_5, PS_6, ji_add, ji_sub, ji_mul, ji_neg, ji_lit0, ji_ofNat, ji_lt, ji_le, ji_eq, ji_nat, ji_in, qV_at, qI_at, qJ_at, qD_at, qA_at, qA_no, nb0, nb1, cat_r, cat_i, Option.some.injEq, exists_eq_left', true_and, and_true, if_true, if_false, ite_not, not_true_eq_false, not_false_eq_true, Sum.inr.injEq, exists_eq_right', true_or, or_true, and_self, Int.cast_ofNat_Int, reduceCtorEq, or_false, false_or, false_and, and_false, jb_zero, lt7_0, lt7_1, lt7_2, lt7_3, lt7_4, lt7_5, lt7_6, Nat.reduceAdd, Nat.reduceLeDiff, c_X2_readLesson_2, nn, ↓reduceIte, ilt_t, ilt_f, ile_t, ile_f, ieq_t, ieq_f, jb_T, jb_F, jb_t, jb_f]
    refine e_readLink hL hSC hs hi ?_
    cases hr2 : yK l T S.1 S.2.1 p1 with
    | inl r =>
      obtain ⟨c, s⟩ := r
      rw [hr2] at hK
      intro ξ2 hf
      have hq := hK ξ2 hf
      simp (disch := first | assumption | omega) only [XL_0, XL_1, XL_2, XL_3, XL_4, XL_5, XL_6, XL_7, XL_8, XL_9, XL_10, XL_11, XL_12, XL_13, XL_14, XL_15, XL_16, XL_17, XL_18, XL_19, XL_20, XL_21, XL_22, XL_23, XL_24, XL_25, XL_26, XL_27, XL_28, XL_29, XL_30, XL_31, XL_32, XL_33, XL_34, XL_35, XL_36, XL_37, XL_38, XL_39, XL_40, XL_41, XL_42, XL_43, XL_44, XL_45, XL_46, XL_47, WS_0, WS_1, WS_2, WS_3, WS_4, WS_5, WS_6, WS_7, WS_8, WS_9, WS_10, WS_11, WS_12, WS_13, WS_14, WS_15, WS_16, WS_17, WS_18, WS_19, WS_20, PS_0, PS_1, PS_2, PS_3, PS_4, PS_5, PS_6, ji_add, ji_sub, ji_mul, ji_neg, ji_lit0, ji_ofNat, ji_lt, ji_le, ji_eq, ji_nat, ji_in, qV_at, qI_at, qJ_at, qD_at, qA_at, qA_no, nb0, nb1, cat_r, cat_i, Option.some.injEq, exists_eq_left', true_and, and_true, if_true, if_false, ite_not, not_true_eq_false, not_false_eq_true, Sum.inr.injEq, exists_eq_right', true_or, or_true, and_self, Int.cast_ofNat_Int, reduceCtorEq, or_false, false_or, false_and, and_false, jb_zero, lt7_0, lt7_1, lt7_2, lt7_3, lt7_4, lt7_5, lt7_6, Nat.reduceAdd, Nat.reduceLeDiff, c_X2_readLesson_1, c_X2_readLesson_2, c_X2_readLesson_3, c_X2_readLesson_4, uj_X2_readLesson_30, nb0, ↓reduceIte, ilt_t, ilt_f, ile_t, ile_f, ieq_t, ieq_f, jb_T, jb_F, jb_t, jb_f]
      exact hq
    | inr r =>
      obtain ⟨m, s, p2⟩ := r
      have hb := yK_b (T := T) pb.2 hr2
      obtain ⟨-, n', y', -, -, e1, e2⟩ := hb
      simp only at e1 e2
      have lb := lka_b (z := n') (y := y') hB.g
      rw [hr2, bd_j] at hK
      simp only at hK
      intro ξ2 hs2 g6
      have hL4 := hL.mono hs2.1.1
      have hW4 := hL4.f
      have hC4 := hs2.2.2.2.2.2
      have mm : ¬ m = -1 := by omega
      simp (disch := first | assumption | omega) only [XL_0, XL_1, XL_2, XL_3, XL_4, XL_5, XL_6, XL_7, XL_8, XL_9, XL_10, XL_11, XL_12, XL_13, XL_14, XL_15, XL_16, XL_17, XL_18, XL_19, XL_20, XL_21, XL_22, XL_23, XL_24, XL_25, XL_26, XL_27, XL_28, XL_29, XL_30, XL_31, XL_32, XL_33, XL_34, XL_35, XL_36, XL_37, XL_38, XL_39, XL_40, XL_41, XL_42, XL_43, XL_44, XL_45, XL_46, XL_47, WS_0, WS_1, WS_2, WS_3, WS_4, WS_5, WS_6, WS_7, WS_8, WS_9, WS_10, WS_11, WS_12, WS_13, WS_14, WS_15, WS_16, WS_17, WS_18, WS_19, WS_20, PS_0, PS_1, PS_2, PS_3, PS_4, PS_5, PS_6, ji_add, ji_sub, ji_mul, ji_neg, ji_lit0, ji_ofNat, ji_lt, ji_le, ji_eq, ji_nat, ji_in, qV_at, qI_at, qJ_at, qD_at, qA_at, qA_no, nb0, nb1, cat_r, cat_i, Option.some.injEq, exists_eq_left', true_and, and_true, if_true, if_false, ite_not, not_true_eq_false, not_false_eq_true, Sum.inr.injEq, exists_eq_right', true_or, or_true, and_self, Int.cast_ofNat_Int, reduceCtorEq, or_false, false_or, false_and, and_false, jb_zero, lt7_0, lt7_1, lt7_2, lt7_3, lt7_4, lt7_5, lt7_6, Nat.reduceAdd, Nat.reduceLeDiff, c_X2_readLesson_1, c_X2_readLesson_2, c_X2_readLesson_3, c_X2_readLesson_4, uj_X2_readLesson_30, mm, ↓reduceIte, ilt_t, ilt_f, ile_t, ile_f, ieq_t, ieq_f, jb_T, jb_F, jb_t, jb_f]
      refine e_learn hW4 hC4 hB bn.1 (by omega) (by omega) (by omega) (by omega) (by omega) (fun y y1 y2 => ?_)
      have hs3 : LK y μ x l T (S.1, S.2.1, S.2.2.1, zlrn S.2.2.2 n m 0) p2 e q := hs2.cw (y1.mono (fun a ha => by unfold inW; omega)) rfl y2
      have hL5 := hL.mono hs3.1.1
      have hi2 := hi.les (n := n) (m := m) k0 bn.1 (by omega) (by omega) (by omega)
      simp (disch := first | assumption | omega) only [XL_0, XL_1, XL_2, XL_3, XL_4, XL_5, XL_6, XL_7, XL_8, XL_9, XL_10, XL_11, XL_12, XL_13, XL_14, XL_15, XL_16, XL_17, XL_18, XL_19, XL_20, XL_21, XL_22, XL_23, XL_24, XL_25, XL_26, XL_27, XL_28, XL_29, XL_30, XL_31, XL_32, XL_33, XL_34, XL_35, XL_36, XL_37, XL_38, XL_39, XL_40, XL_41, XL_42, XL_43, XL_44, XL_45, XL_46, XL_47, WS_0, WS_1, WS_2, WS_3, WS_4, WS_5, WS_6, WS_7, WS_8, WS_9, WS_10, WS_11, WS_12, WS_13, WS_14, WS_15, WS_16, WS_17, WS_18, WS_19, WS_20, PS_0, PS_1, PS_2, PS_3, PS_4, PS_5, PS_6, ji_add, ji_sub, ji_mul, ji_neg, ji_lit0, ji_ofNat, ji_lt, ji_le, ji_eq, ji_nat, ji_in, qV_at, qI_at, qJ_at, qD_at, qA_at, qA_no, nb0, nb1, cat_r, cat_i, Option.some.injEq, exists_eq_left', true_and, and_true, if_true, if_false, ite_not, not_true_eq_false, not_false_eq_true, Sum.inr.injEq, exists_eq_right', true_or, or_true, and_self, Int.cast_ofNat_Int, reduceCtorEq, or_false, false_or, false_and, and_false, jb_zero, lt7_0, lt7_1, lt7_2, lt7_3, lt7_4, lt7_5, lt7_6, Nat.reduceAdd, Nat.reduceLeDiff, c_X2_readLesson_4, ↓reduceIte, ilt_t, ilt_f, ile_t, ile_f, ieq_t, ieq_f, jb_T, jb_F, jb_t, jb_f]
      exact e_semi hL hs3 hi2 (fun _ _ => rfl) hK
end
