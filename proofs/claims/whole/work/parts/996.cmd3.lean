/-! ===== the class: all commands ===== -/
abbrev PA : Type := (Int × Int) ⊕ (Int × (Int → Int × Int × Int × Int))
noncomputable def pA (l : Int) (T : Int → Int) : Nat → Int → Int → (Int → Int × Int × Int × Int) → PA
  | 0, _, n, K => .inr (n, K)
  | d + 1, p, n, K => if tK l T (tB l T p) = 0 then .inr (n, K) else match pC l T n p with
    | .inl e => .inl e
    | .inr (r, p1) => pA l T d p1 (n + 1) (fun k => if k = n then r else K k)
/-- what is owed after a command -/
def KD (μ : XM) (x : Nat) (l : Int) (T : Int → Int) (n : Int) (R : Int → Int) (e q : Int) (Q : XQ) : PC → Prop
  | .inl (c, s) => ∀ ν, KF ν μ x l T c s → Q (some (.int (ji 0))) ν
  | .inr (r, p) => ∀ ν R', KS ν μ x l T n R' p e q → (∀ i, i < 4 * n → R' i = R i) → RO R' n r → Q (some (.int (ji 1))) ν
/-- what is owed after all -/
def KE (μ : XM) (x : Nat) (l : Int) (T : Int → Int) (e q : Int) (Q : XQ) : PA → Prop
  | .inl (c, s) => ∀ ν, KF ν μ x l T c s → Q (some (.int (ji 0))) ν
  | .inr (n, K) => ∀ ν R p, KS ν μ x l T n R p e q → (0 ≤ n ∧ n ≤ 40) → (∀ k, 0 ≤ k → k < n → RO R k (K k)) → Q (some (.int (ji 1))) ν
section
variable {μ ν : XM} {x : Nat} {l p n e q s : Int} {T R : Int → Int} {Q : XQ} {X : XX}
theorem KS.fl {ξ : XM} {p' c s : Int} (h : KS ν μ x l T n R p e q) (g : CT ξ ν x l T p' c s) : KF ξ μ x l T c s := (h.ct g).f
theorem e_readCommand (hL : XL μ x) (hSC : SC μ x) (h : KS ν μ x l T n R (tE l T (tB l T p)) e q) (n0 : 0 ≤ n) (n1 : n ≤ 40) (p0 : 0 ≤ p) (p1 : p ≤ l) (h5 : gI ν 195 (x + 1171) = ji (tK l T (tB l T p))) (h6 : gI ν 196 (x + 1171) = ji (tB l T p)) (hK : KD μ x l T n R e q Q (pC l T n p)) : s_X5_readCommand ν [.ref (x + 1174), .ref (x + 1171)] Q X := by
  have hL2 := hL.mono h.1.1
  have sb := tB_b (l := l) (T := T) p1
  have vb := pV_b (l := l) (T := T) (s := tB l T p)
  have hS2 : SC ν x := hSC.frame h.1 (fun a ha => by omega)
  have g161 := h.2.2.2.2.1
  unfold pC at hK
  simp (disch := first | assumption | omega) only [XL_0, XL_1, XL_2, XL_3, XL_4, XL_5, XL_6, XL_7, XL_8, XL_9, XL_10, XL_11, XL_12, XL_13, XL_14, XL_15, XL_16, XL_17, XL_18, XL_19, XL_20, XL_21, XL_22, XL_23, XL_24, XL_25, XL_26, XL_27, XL_28, XL_29, XL_30, XL_31, XL_32, XL_33, XL_34, XL_35, XL_36, XL_37, XL_38, XL_39, XL_40, XL_41, XL_42, XL_43, XL_44, XL_45, XL_46, XL_47, WS_0, WS_1, WS_2, WS_3, WS_4, WS_5, WS_6, WS_7, WS_8, WS_9, WS_10, WS_11, WS_12, WS_13, WS_14, WS_15, WS_16, WS_17, WS_18, WS_19, WS_20, PS_0, PS_1, PS_2, PS_3, PS_4, PS_5, PS_6, ji_add, ji_sub, ji_mul, ji_neg, ji_lit0, ji_ofNat, ji_lt, ji_le, ji_eq, ji_nat, ji_in, qV_at, qI_at, qJ_at, qD_at, qA_at, qA_no, nb0, nb1, cat_r, cat_i, Option.some.injEq, exists_eq_left', true_and, and_true, if_true, if_false, ite_not, not_true_eq_false, not_false_eq_true, Sum.inr.injEq, exists_eq_right', true_or, or_true, and_self, Int.cast_ofNat_Int, reduceCtorEq, or_false, false_or, false_and, and_false, jb_zero, lt7_0, lt7_1, lt7_2, lt7_3, lt7_4, lt7_5, lt7_6, Nat.reduceAdd, Nat.reduceLeDiff, c_X5_readCommand_1, c_X5_readCommand_2, c_X5_readCommand_3, c_X5_readCommand_4, c_X5_readCommand_5, c_X5_readCommand_6, u_X5_readCommand, ↓reduceIte, ilt_t, ilt_f, ile_t, ile_f, ieq_t, ieq_f, jb_T, jb_F, jb_t, jb_f]
  refine e_verbOf hL2 hS2 h.2.1 h5 h6 (by omega) sb.2 ?_
  generalize pV l T (tB l T p) = v at *
  by_cases hv : v = -1
  · rw [if_pos hv] at hK
    simp (disch := first | assumption | omega) only [XL_0, XL_1, XL_2, XL_3, XL_4, XL_5, XL_6, XL_7, XL_8, XL_9, XL_10, XL_11, XL_12, XL_13, XL_14, XL_15, XL_16, XL_17, XL_18, XL_19, XL_20, XL_21, XL_22, XL_23, XL_24, XL_25, XL_26, XL_27, XL_28, XL_29, XL_30, XL_31, XL_32, XL_33, XL_34, XL_35, XL_36, XL_37, XL_38, XL_39, XL_40, XL_41, XL_42, XL_43, XL_44, XL_45, XL_46, XL_47, WS_0, WS_1, WS_2, WS_3, WS_4, WS_5, WS_6, WS_7, WS_8, WS_9, WS_10, WS_11, WS_12, WS_13, WS_14, WS_15, WS_16, WS_17, WS_18, WS_19, WS_20, PS_0, PS_1, PS_2, PS_3, PS_4, PS_5, PS_6, ji_add, ji_sub, ji_mul, ji_neg, ji_lit0, ji_ofNat, ji_lt, ji_le, ji_eq, ji_nat, ji_in, qV_at, qI_at, qJ_at, qD_at, qA_at, qA_no, nb0, nb1, cat_r, cat_i, Option.some.injEq, exists_eq_left', true_and, and_true, if_true, if_false, ite_not, not_true_eq_false, not_false_eq_true, Sum.inr.injEq, exists_eq_right', true_or, or_true, and_self, Int.cast_ofNat_Int, reduceCtorEq, or_false, false_or, false_and, and_false, jb_zero, lt7_0, lt7_1, lt7_2, lt7_3, lt7_4, lt7_5, lt7_6, Nat.reduceAdd, Nat.reduceLeDiff, c_X5_readCommand_6, hv, ↓reduceIte, ilt_t, ilt_f, ile_t, ile_f, ieq_t, ieq_f, jb_T, jb_F, jb_t, jb_f]
    refine e_refuse hL2 (CH.refl _ _) h.2.1 h6 (fun ξ hct => ?_)
    have hq := hK ξ (h.fl hct)
    simp (disch := first | assumption | omega) only [XL_0, XL_1, XL_2, XL_3, XL_4, XL_5, XL_6, XL_7, XL_8, XL_9, XL_10, XL_11, XL_12, XL_13, XL_14, XL_15, XL_16, XL_17, XL_18, XL_19, XL_20, XL_21, XL_22, XL_23, XL_24, XL_25, XL_26, XL_27, XL_28, XL_29, XL_30, XL_31, XL_32, XL_33, XL_34, XL_35, XL_36, XL_37, XL_38, XL_39, XL_40, XL_41, XL_42, XL_43, XL_44, XL_45, XL_46, XL_47, WS_0, WS_1, WS_2, WS_3, WS_4, WS_5, WS_6, WS_7, WS_8, WS_9, WS_10, WS_11, WS_12, WS_13, WS_14, WS_15, WS_16, WS_17, WS_18, WS_19, WS_20, PS_0, PS_1, PS_2, PS_3, PS_4, PS_5, PS_6, ji_add, ji_sub, ji_mul, ji_neg, ji_lit0, ji_ofNat, ji_lt, ji_le, ji_eq, ji_nat, ji_in, qV_at, qI_at, qJ_at, qD_at, qA_at, qA_no, nb0, nb1, cat_r, cat_i, Option.some.injEq, exists_eq_left', true_and, and_true, if_true, if_false, ite_not, not_true_eq_false, not_false_eq_true, Sum.inr.injEq, exists_eq_right', true_or, or_true, and_self, Int.cast_ofNat_Int, reduceCtorEq, or_false, false_or, false_and, and_false, jb_zero, lt7_0, lt7_1, lt7_2, lt7_3, lt7_4, lt7_5, lt7_6, Nat.reduceAdd, Nat.reduceLeDiff, c_X5_readCommand_1, nb0, ↓reduceIte, ilt_t, ilt_f, ile_t, ile_f, ieq_t, ieq_f, jb_T, jb_F, jb_t, jb_f]
    exact hq
  · rw [if_neg hv] at hK
    by_cases h40 : 40 ≤ n
    · rw [if_pos h40] at hK
      simp (disch := first | assumption | omega) only [XL_0, XL_1, XL_2, XL_3, XL_4, XL_5, XL_6, XL_7, XL_8, XL_9, XL_10, XL_11, XL_12, XL_13, XL_14, XL_15, XL_16, XL_17, XL_18, XL_19, XL_20, XL_21, XL_22, XL_23, XL_24, XL_25, XL_26, XL_27, XL_28, XL_29, XL_30, XL_31, XL_32, XL_33, XL_34, XL_35, XL_36, XL_37, XL_38, XL_39, XL_40, XL_41, XL_42, XL_43, XL_44, XL_45, XL_46, XL_47, WS_0, WS_1, WS_2, WS_3, WS_4, WS_5, WS_6, WS_7, WS_8, WS_9, WS_10, WS_11, WS_12, WS_13, WS_14, WS_15, WS_16, WS_17, WS_18, WS_19, WS_20, PS_0, PS_1, PS_2, PS_3, PS_4, PS_5, PS_6, ji_add, ji_sub, ji_mul, ji_neg, ji_lit0, ji_ofNat, ji_lt, ji_le, ji_eq, ji_nat, ji_in, qV_at, qI_at, qJ_at, qD_at, qA_at, qA_no, nb0, nb1, cat_r, cat_i, Option.some.injEq, exists_eq_left', true_and, and_true, if_true, if_false, ite_not, not_true_eq_false, not_false_eq_true, Sum.inr.injEq, exists_eq_right', true_or, or_true, and_self, Int.cast_ofNat_Int, reduceCtorEq, or_false, false_or, false_and, and_false, jb_zero, lt7_0, lt7_1, lt7_2, lt7_3, lt7_4, lt7_5, lt7_6, Nat.reduceAdd, Nat.reduceLeDiff, c_X5_readCommand_6, hv, g161, h40, ↓reduceIte, ilt_t, ilt_f, ile_t, ile_f, ieq_t, ieq_f, jb_T, jb_F, jb_t, jb_f]
      refine e_refuse hL2 (CH.refl _ _) h.2.1 h6 (fun ξ hct => ?_)
      have hq := hK ξ (h.fl hct)
      simp (disch := first | assumption | omega) only [XL_0, XL_1, XL_2, XL_3, XL_4, XL_5, XL_6, XL_7, XL_8, XL_9, XL_10, XL_11, XL_12, XL_13, XL_14, XL_15, XL_16, XL_17, XL_18, XL_19, XL_20, XL_21, XL_22, XL_23, XL_24, XL_25, XL_26, XL_27, XL_28, XL_29, XL_30, XL_31, XL_32, XL_33, XL_34, XL_35, XL_36, XL_37, XL_38, XL_39, XL_40, XL_41, XL_42, XL_43, XL_44, XL_45, XL_46, XL_47, WS_0, WS_1, WS_2, WS_3, WS_4, WS_5, WS_6, WS_7, WS_8, WS_9, WS_10, WS_11, WS_12, WS_13, WS_14, WS_15, WS_16, WS_17, WS_18, WS_19, WS_20, PS_0, PS_1, PS_2, PS_3, PS_4, PS_5, PS_6, ji_add, ji_sub, ji_mul, ji_neg, ji_lit0, ji_ofNat, ji_lt, ji_le, ji_eq, ji_nat, ji_in, qV_at, qI_at, qJ_at, qD_at, qA_at, qA_no, nb0, nb1, cat_r, cat_i, Option.some.injEq, exists_eq_left', true_and, and_true, if_true, if_false, ite_not, not_true_eq_false, not_false_eq_true, Sum.inr.injEq, exists_eq_right', true_or, or_true, and_self, Int.cast_ofNat_Int, reduceCtorEq, or_false, false_or, false_and, and_false, jb_zero, lt7_0, lt7_1, lt7_2, lt7_3, lt7_4, lt7_5, lt7_6, Nat.reduceAdd, Nat.reduceLeDiff, c_X5_readCommand_5, nb0, ↓reduceIte, ilt_t, ilt_f, ile_t, ile_f, ieq_t, ieq_f, jb_T, jb_F, jb_t, jb_f]
      exact hq
    · rw [if_neg h40] at hK
      have hp := h.put (col := 0) (v := v) n0 (by omega)
      have hL3 := hL.mono hp.1.1
      have ek := fun (Q : XQ) X => e_keep (Q := Q) (X := X) (col := 0) (v := v) hL2 n0 (by omega) (by omega) (by omega) (by omega) (by omega) g161
      rw [jb_t _ hv] at ek
      simp (disch := first | assumption | omega) only [XL_0, XL_1, XL_2, XL_3, XL_4, XL_5, XL_6, XL_7, XL_8, XL_9, XL_10, XL_11, XL_12, XL_13, XL_14, XL_15, XL_16, XL_17, XL_18, XL_19, XL_20, XL_21, XL_22, XL_23, XL_24, XL_25, XL_26, XL_27, XL_28, XL_29, XL_30, XL_31, XL_32, XL_33, XL_34, XL_35, XL_36, XL_37, XL_38, XL_39, XL_40, XL_41, XL_42, XL_43, XL_44, XL_45, XL_46, XL_47, WS_0, WS_1, WS_2, WS_3, WS_4, WS_5, WS_6, WS_7, WS_8, WS_9, WS_10, WS_11, WS_12, WS_13, WS_14, WS_15, WS_16, WS_17, WS_18, WS_19, WS_20, PS_0, PS_1, PS_2, PS_3, PS_4, PS_5, PS_6, ji_add, ji_sub, ji_mul, ji_neg, ji_lit0, ji_ofNat, ji_lt, ji_le, ji_eq, ji_nat, ji_in, qV_at, qI_at, qJ_at, qD_at, qA_at, qA_no, nb0, nb1, cat_r, cat_i, Option.some.injEq, exists_eq_left', true_and, and_true, if_true, if_false, ite_not, not_true_eq_false, not_false_eq_true, Sum.inr.injEq, exists_eq_right', true_or, or_true, and_self, Int.cast_ofNat_Int, reduceCtorEq, or_false, false_or, false_and, and_false, jb_zero, lt7_0, lt7_1, lt7_2, lt7_3, lt7_4, lt7_5, lt7_6, Nat.reduceAdd, Nat.reduceLeDiff, c_X5_readCommand_6, hv, g161, h40, ek, ↓reduceIte, ilt_t, ilt_f, ile_t, ile_f, ieq_t, ieq_f, jb_T, jb_F, jb_t, jb_f]
      rw [Int.add_zero] at *
      simp (disch := first | assumption | omega) only [XL_0, XL_1, XL_2, XL_3, XL_4, XL_5, XL_6, XL_7, XL_8, XL_9, XL_10, XL_11, XL_12, XL_13, XL_14, XL_15, XL_16, XL_17, XL_18, XL_19, XL_20, XL_21, XL_22, XL_23, XL_24, XL_25, XL_26, XL_27, XL_28, XL_29, XL_30, XL_31, XL_32, XL_33, XL_34, XL_35, XL_36, XL_37, XL_38, XL_39, XL_40, XL_41, XL_42, XL_43, XL_44, XL_45, XL_46, XL_47, WS_0, WS_1, WS_2, WS_3, WS_4, WS_5, WS_6, WS_7, WS_8, WS_9, WS_10, WS_11, WS_12, WS_13, WS_14, WS_15, WS_16, WS_17, WS_18, WS_19, WS_20, PS_0, PS_1, PS_2, PS_3, PS_4, PS_5, PS_6, ji_add, ji_sub, ji_mul, ji_neg, ji_lit0, ji_ofNat, ji_lt, ji_le, ji_eq, ji_nat, ji_in, qV_at, qI_at, qJ_at, qD_at, qA_at, qA_no, nb0, nb1, cat_r, cat_i, Option.some.injEq, exists_eq_left', true_and, and_true, if_true, if_false, ite_not, not_true_eq_false, not_false_eq_true, Sum.inr.injEq, exists_eq_right', true_or, or_true, and_self, Int.cast_ofNat_Int, reduceCtorEq, or_false, false_or, false_and, and_false, jb_zero, lt7_0, lt7_1, lt7_2, lt7_3, lt7_4, lt7_5, lt7_6, Nat.reduceAdd, Nat.reduceLeDiff, c_X5_readCommand_4, ↓reduceIte, ilt_t, ilt_f, ile_t, ile_f, ieq_t, ieq_f, jb_T, jb_F, jb_t, jb_f]
      refine e_readParts hL hSC hp n0 (by omega) (by omega) vb.2 ?_
      cases hr : pP l T v (tE l T (tB l T p)) with
      | inl r =>
        obtain ⟨c, s⟩ := r
        rw [hr] at hK
        intro ξ hf
        have hq := hK ξ hf
        simp (disch := first | assumption | omega) only [XL_0, XL_1, XL_2, XL_3, XL_4, XL_5, XL_6, XL_7, XL_8, XL_9, XL_10, XL_11, XL_12, XL_13, XL_14, XL_15, XL_16, XL_17, XL_18, XL_19, XL_20, XL_21, XL_22, XL_23, XL_24, XL_25, XL_26, XL_27, XL_28, XL_29, XL_30, XL_31, XL_32, XL_33, XL_34, XL_35, XL_36, XL_37, XL_38, XL_39, XL_40, XL_41, XL_42, XL_43, XL_44, XL_45, XL_46, XL_47, WS_0, WS_1, WS_2, WS_3, WS_4, WS_5, WS_6, WS_7, WS_8, WS_9, WS_10, WS_11, WS_12, WS_13, WS_14, WS_15, WS_16, WS_17, WS_18, WS_19, WS_20, PS_0, PS_1, PS_2, PS_3, PS_4, PS_5, PS_6, ji_add, ji_sub, ji_mul, ji_neg, ji_lit0, ji_ofNat, ji_lt, ji_le, ji_eq, ji_nat, ji_in, qV_at, qI_at, qJ_at, qD_at, qA_at, qA_no, nb0, nb1, cat_r, cat_i, Option.some.injEq, exists_eq_left', true_and, and_true, if_true, if_false, ite_not, not_true_eq_false, not_false_eq_true, Sum.inr.injEq, exists_eq_right', true_or, or_true, and_self, Int.cast_ofNat_Int, reduceCtorEq, or_false, false_or, false_and, and_false, jb_zero, lt7_0, lt7_1, lt7_2, lt7_3, lt7_4, lt7_5, lt7_6, Nat.reduceAdd, Nat.reduceLeDiff, c_X5_readCommand_3, nb0, ↓reduceIte, ilt_t, ilt_f, ile_t, ile_f, ieq_t, ieq_f, jb_T, jb_F, jb_t, jb_f]
        exact hq
      | inr r =>
        obtain ⟨⟨a, b, c⟩, p2⟩ := r
        rw [hr] at hK
        intro ξ R' hf w1 w2 w3 w4
        have hL4 := hL.mono hf.1.1
        simp (disch := first | assumption | omega) only [XL_0, XL_1, XL_2, XL_3, XL_4, XL_5, XL_6, XL_7, XL_8, XL_9, XL_10, XL_11, XL_12, XL_13, XL_14, XL_15, XL_16, XL_17, XL_18, XL_19, XL_20, XL_21, XL_22, XL_23, XL_24, XL_25, XL_26, XL_27, XL_28, XL_29, XL_30, XL_31, XL_32, XL_33, XL_34, XL_35, XL_36, XL_37, XL_38, XL_39, XL_40, XL_41, XL_42, XL_43, XL_44, XL_45, XL_46, XL_47, WS_0, WS_1, WS_2, WS_3, WS_4, WS_5, WS_6, WS_7, WS_8, WS_9, WS_10, WS_11, WS_12, WS_13, WS_14, WS_15, WS_16, WS_17, WS_18, WS_19, WS_20, PS_0, PS_1, PS_2, PS_3, PS_4, PS_5, PS_6, ji_add, ji_sub, ji_mul, ji_neg, ji_lit0, ji_ofNat, ji_lt, ji_le, ji_eq, ji_nat, ji_in, qV_at, qI_at, qJ_at, qD_at, qA_at, qA_no, nb0, nb1, cat_r, cat_i, Option.some.injEq, exists_eq_left', true_and, and_true, if_true, if_false, ite_not, not_true_eq_false, not_false_eq_true, Sum.inr.injEq, exists_eq_right', true_or, or_true, and_self, Int.cast_ofNat_Int, reduceCtorEq, or_false, false_or, false_and, and_false, jb_zero, lt7_0, lt7_1, lt7_2, lt7_3, lt7_4, lt7_5, lt7_6, Nat.reduceAdd, Nat.reduceLeDiff, c_X5_readCommand_3, ↓reduceIte, ilt_t, ilt_f, ile_t, ile_f, ieq_t, ieq_f, jb_T, jb_F, jb_t, jb_f]
        refine e_readSemicolon hL4 hf.2.1 hf.2.2.1 hf.2.2.2.1 ?_
        have hK : KD μ x l T n R e q Q (match pS l T p2 with | .inl e => .inl e | .inr (_, p2) => .inr ((v, (a, b, c)), p2)) := hK
        cases hr2 : pS l T p2 with
        | inl r =>
          obtain ⟨c, s⟩ := r
          rw [hr2] at hK
          intro ξ2 p' hct
          have hq := hK ξ2 (hf.fl hct)
          show c_X5_readCommand_2 Q (ji 0) ξ2
          simp (disch := first | assumption | omega) only [XL_0, XL_1, XL_2, XL_3, XL_4, XL_5, XL_6, XL_7, XL_8, XL_9, XL_10, XL_11, XL_12, XL_13, XL_14, XL_15, XL_16, XL_17, XL_18, XL_19, XL_20, XL_21, XL_22, XL_23, XL_24, XL_25, XL_26, XL_27, XL_28, XL_29, XL_30, XL_31, XL_32, XL_33, XL_34, XL_35, XL_36, XL_37, XL_38, XL_39, XL_40, XL_41, XL_42, XL_43, XL_44, XL_45, XL_46, XL_47, WS_0, WS_1, WS_2, WS_3, WS_4, WS_5, WS_6, WS_7, WS_8, WS_9, WS_10, WS_11, WS_12, WS_13, WS_14, WS_15, WS_16, WS_17, WS_18, WS_19, WS_20, PS_0, PS_1, PS_2, PS_3, PS_4, PS_5, PS_6, ji_add, ji_sub, ji_mul, ji_neg, ji_lit0, ji_ofNat, ji_lt, ji_le, ji_eq, ji_nat, ji_in, qV_at, qI_at, qJ_at, qD_at, qA_at, qA_no, nb0, nb1, cat_r, cat_i, Option.some.injEq, exists_eq_left', true_and, and_true, if_true, if_false, ite_not, not_true_eq_false, not_false_eq_true, Sum.inr.injEq, exists_eq_right', true_or, or_true, and_self, Int.cast_ofNat_Int, reduceCtorEq, or_false, false_or, false_and, and_false, jb_zero, lt7_0, lt7_1, lt7_2, lt7_3, lt7_4, lt7_5, lt7_6, Nat.reduceAdd, Nat.reduceLeDiff, c_X5_readCommand_2, nb0, ↓reduceIte, ilt_t, ilt_f, ile_t, ile_f, ieq_t, ieq_f, jb_T, jb_F, jb_t, jb_f]
          exact hq
        | inr r =>
          obtain ⟨one, p3⟩ := r
          rw [hr2] at hK
          intro ξ2 hct
          have hq := hK ξ2 R' (hf.ct hct) (fun i hi => by rw [w1 i (by omega), zu_ne (by omega)]) ⟨by rw [w1 (4 * n) (by omega), zu_at], w2, w3, w4⟩
          have ho : one = 1 := by
            unfold pS at hr2
            (repeat' split at hr2) <;> simp at hr2
            omega
          show c_X5_readCommand_2 Q (ji one) ξ2
          rw [ho]
          simp (disch := first | assumption | omega) only [XL_0, XL_1, XL_2, XL_3, XL_4, XL_5, XL_6, XL_7, XL_8, XL_9, XL_10, XL_11, XL_12, XL_13, XL_14, XL_15, XL_16, XL_17, XL_18, XL_19, XL_20, XL_21, XL_22, XL_23, XL_24, XL_25, XL_26, XL_27, XL_28, XL_29, XL_30, XL_31, XL_32, XL_33, XL_34, XL_35, XL_36, XL_37, XL_38, XL_39, XL_40, XL_41, XL_42, XL_43, XL_44, XL_45, XL_46, XL_47, WS_0, WS_1, WS_2, WS_3, WS_4, WS_5, WS_6, WS_7, WS_8, WS_9, WS_10, WS_11, WS_12, WS_13, WS_14, WS_15, WS_16, WS_17, WS_18, WS_19, WS_20, PS_0, PS_1, PS_2, PS_3, PS_4, PS_5, PS_6, ji_add, ji_sub, ji_mul, ji_neg, ji_lit0, ji_ofNat, ji_lt, ji_le, ji_eq, ji_nat, ji_in, qV_at, qI_at, qJ_at, qD_at, qA_at, qA_no, nb0, nb1, cat_r, cat_i, Option.some.injEq, exists_eq_left', true_and, and_true, if_true, if_false, ite_not, not_true_eq_false, not_false_eq_true, Sum.inr.injEq, exists_eq_right', true_or, or_true, and_self, Int.cast_ofNat_Int, reduceCtorEq, or_false, false_or, false_and, and_false, jb_zero, lt7_0, lt7_1, lt7_2, lt7_3, lt7_4, lt7_5, lt7_6, Nat.reduceAdd, Nat.reduceLeDiff, c_X5_readCommand_2, nb1, ↓reduceIte, ilt_t, ilt_f, ile_t, ile_f, ieq_t, ieq_f, jb_T, jb_F, jb_t, jb_f]
          exact hq
end
