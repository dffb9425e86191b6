/-! ===== the class: parts and bridges ===== -/
section
variable {μ : XM} {x : Nat} {w h N s f : Int} {Z O F : Int → Int} {Q : XQ} {X : XX} {A : AS} {e1 e2 : String}
theorem e_reached (hL : XL μ x) {d : Int → Int} (hd : MR μ (x + 1168) 36 d) (db : ∀ n, 0 ≤ n → n < 36 → -1 ≤ d n ∧ d n < 36) (hK : ∀ r : Int64, (∀ t, 0 ≤ t → t < 64 → tb r t = (decide (t < 36) && decide (d t ≠ -1))) → Q (some (.long r)) μ) : s_X4_reachedNodes μ [.ref (x + 1165)] Q X := by
  rw [u_X4_reachedNodes, l_X4_reachedNodes_4, xseal_eq]
  refine imp_loop (fun mf (r : Int64) l => ln_X4_reachedNodes_4 Q X mf [some (.ref (x + 1165)), some (.long r), none, some (.int (ji l))] [] μ 0 0) (fun l r => ∀ t, 0 ≤ t → t < 64 → tb r t = (decide (t < l) && decide (d t ≠ -1))) 36 (fun mf r hr => ?_) (fun mf r l l0 l1 hr hn => ?_) 36 10000 0 (jl 0) (by omega) (by omega) (by omega) (fun t t0 t1 => ?_)
  · show ln_X4_reachedNodes_4 Q X (mf + 1) [some (.ref (x + 1165)), some (.long r), none, some (.int (ji 36))] [] μ 0 0
    rw [ul_X4_reachedNodes_4]
    simp (disch := first | assumption | omega) only [XL_0, XL_1, XL_2, XL_3, XL_4, XL_5, XL_6, XL_7, XL_8, XL_9, XL_10, XL_11, XL_12, XL_13, XL_14, XL_15, XL_16, XL_17, XL_18, XL_19, XL_20, XL_21, XL_22, XL_23, XL_24, XL_25, XL_26, XL_27, XL_28, XL_29, XL_30, XL_31, XL_32, XL_33, XL_34, XL_35, XL_36, XL_37, XL_38, XL_39, XL_40, XL_41, XL_42, XL_43, XL_44, XL_45, XL_46, XL_47, WS_0, WS_1, WS_2, WS_3, WS_4, WS_5, WS_6, WS_7, WS_8, WS_9, WS_10, WS_11, WS_12, WS_13, WS_14, WS_15, WS_16, WS_17, WS_18, WS_19, WS_20, PS_0, PS_1, PS_2, PS_3, PS_4, PS_5, PS_6, ji_add, ji_sub, ji_mul, ji_neg, ji_lit0, ji_ofNat, ji_lt, ji_le, ji_eq, ji_nat, ji_in, qV_at, qI_at, qJ_at, qD_at, qA_at, qA_no, nb0, nb1, cat_r, cat_i, Option.some.injEq, exists_eq_left', true_and, and_true, if_true, if_false, ite_not, not_true_eq_false, not_false_eq_true, Sum.inr.injEq, exists_eq_right', true_or, or_true, and_self, Int.cast_ofNat_Int, reduceCtorEq, or_false, false_or, false_and, and_false, jb_zero, lt7_0, lt7_1, lt7_2, lt7_3, lt7_4, lt7_5, lt7_6, Nat.reduceAdd, Nat.reduceLeDiff, ↓reduceIte, ilt_t, ilt_f, ile_t, ile_f, ieq_t, ieq_f, jb_T, jb_F, jb_t, jb_f]
    exact hK r hr
  · show ln_X4_reachedNodes_4 Q X (mf + 1) [some (.ref (x + 1165)), some (.long r), none, some (.int (ji l))] [] μ 0 0
    have t1 := hd l l0 (by omega)
    have b := db l l0 (by omega)
    rw [ul_X4_reachedNodes_4]
    by_cases h1 : d l = -1
    · simp (disch := first | assumption | omega) only [XL_0, XL_1, XL_2, XL_3, XL_4, XL_5, XL_6, XL_7, XL_8, XL_9, XL_10, XL_11, XL_12, XL_13, XL_14, XL_15, XL_16, XL_17, XL_18, XL_19, XL_20, XL_21, XL_22, XL_23, XL_24, XL_25, XL_26, XL_27, XL_28, XL_29, XL_30, XL_31, XL_32, XL_33, XL_34, XL_35, XL_36, XL_37, XL_38, XL_39, XL_40, XL_41, XL_42, XL_43, XL_44, XL_45, XL_46, XL_47, WS_0, WS_1, WS_2, WS_3, WS_4, WS_5, WS_6, WS_7, WS_8, WS_9, WS_10, WS_11, WS_12, WS_13, WS_14, WS_15, WS_16, WS_17, WS_18, WS_19, WS_20, PS_0, PS_1, PS_2, PS_3, PS_4, PS_5, PS_6, ji_add, ji_sub, ji_mul, ji_neg, ji_lit0, ji_ofNat, ji_lt, ji_le, ji_eq, ji_nat, ji_in, qV_at, qI_at, qJ_at, qD_at, qA_at, qA_no, nb0, nb1, cat_r, cat_i, Option.some.injEq, exists_eq_left', true_and, and_true, if_true, if_false, ite_not, not_true_eq_false, not_false_eq_true, Sum.inr.injEq, exists_eq_right', true_or, or_true, and_self, Int.cast_ofNat_Int, reduceCtorEq, or_false, false_or, false_and, and_false, jb_zero, lt7_0, lt7_1, lt7_2, lt7_3, lt7_4, lt7_5, lt7_6, Nat.reduceAdd, Nat.reduceLeDiff, t1, h1, ↓reduceIte, ilt_t, ilt_f, ile_t, ile_f, ieq_t, ieq_f, jb_T, jb_F, jb_t, jb_f]
      refine hn r (fun t t0 t2 => ?_)
      rw [hr t t0 t2]
      by_cases ht : t = l
      · rw [ht, h1]; simp
      · rw [show decide (t < l + 1) = decide (t < l) by rw [decide_eq_decide]; omega]
    · simp (disch := first | assumption | omega) only [XL_0, XL_1, XL_2, XL_3, XL_4, XL_5, XL_6, XL_7, XL_8, XL_9, XL_10, XL_11, XL_12, XL_13, XL_14, XL_15, XL_16, XL_17, XL_18, XL_19, XL_20, XL_21, XL_22, XL_23, XL_24, XL_25, XL_26, XL_27, XL_28, XL_29, XL_30, XL_31, XL_32, XL_33, XL_34, XL_35, XL_36, XL_37, XL_38, XL_39, XL_40, XL_41, XL_42, XL_43, XL_44, XL_45, XL_46, XL_47, WS_0, WS_1, WS_2, WS_3, WS_4, WS_5, WS_6, WS_7, WS_8, WS_9, WS_10, WS_11, WS_12, WS_13, WS_14, WS_15, WS_16, WS_17, WS_18, WS_19, WS_20, PS_0, PS_1, PS_2, PS_3, PS_4, PS_5, PS_6, ji_add, ji_sub, ji_mul, ji_neg, ji_lit0, ji_ofNat, ji_lt, ji_le, ji_eq, ji_nat, ji_in, qV_at, qI_at, qJ_at, qD_at, qA_at, qA_no, nb0, nb1, cat_r, cat_i, Option.some.injEq, exists_eq_left', true_and, and_true, if_true, if_false, ite_not, not_true_eq_false, not_false_eq_true, Sum.inr.injEq, exists_eq_right', true_or, or_true, and_self, Int.cast_ofNat_Int, reduceCtorEq, or_false, false_or, false_and, and_false, jb_zero, lt7_0, lt7_1, lt7_2, lt7_3, lt7_4, lt7_5, lt7_6, Nat.reduceAdd, Nat.reduceLeDiff, t1, h1, ↓reduceIte, ilt_t, ilt_f, ile_t, ile_f, ieq_t, ieq_f, jb_T, jb_F, jb_t, jb_f]
      refine hn _ (fun t t0 t2 => ?_)
      rw [tb_or, hr t t0 t2, tb_one l0 (by omega) t0 t2]
      by_cases ht : t = l
      · rw [ht]; simp [h1]; omega
      · rw [show decide (t < l + 1) = decide (t < l) by rw [decide_eq_decide]; omega, decide_eq_false ht, Bool.or_false]
  · rw [tb_zero, decide_eq_false (by omega), Bool.false_and]
theorem q_parts (hx : XS μ x A) (hi : INV A) (hQ : CP μ x Q (xParts A)) : s_X8_parts μ [.ref x] Q X := by
  have hL := hx.1
  have hX := hx.xw hi
  have hB := hi.1.1.1
  have hw := hB.1
  have g := hB.g
  simp (disch := first | assumption | omega) only [XL_0, XL_1, XL_2, XL_3, XL_4, XL_5, XL_6, XL_7, XL_8, XL_9, XL_10, XL_11, XL_12, XL_13, XL_14, XL_15, XL_16, XL_17, XL_18, XL_19, XL_20, XL_21, XL_22, XL_23, XL_24, XL_25, XL_26, XL_27, XL_28, XL_29, XL_30, XL_31, XL_32, XL_33, XL_34, XL_35, XL_36, XL_37, XL_38, XL_39, XL_40, XL_41, XL_42, XL_43, XL_44, XL_45, XL_46, XL_47, WS_0, WS_1, WS_2, WS_3, WS_4, WS_5, WS_6, WS_7, WS_8, WS_9, WS_10, WS_11, WS_12, WS_13, WS_14, WS_15, WS_16, WS_17, WS_18, WS_19, WS_20, PS_0, PS_1, PS_2, PS_3, PS_4, PS_5, PS_6, ji_add, ji_sub, ji_mul, ji_neg, ji_lit0, ji_ofNat, ji_lt, ji_le, ji_eq, ji_nat, ji_in, qV_at, qI_at, qJ_at, qD_at, qA_at, qA_no, nb0, nb1, cat_r, cat_i, Option.some.injEq, exists_eq_left', true_and, and_true, if_true, if_false, ite_not, not_true_eq_false, not_false_eq_true, Sum.inr.injEq, exists_eq_right', true_or, or_true, and_self, Int.cast_ofNat_Int, reduceCtorEq, or_false, false_or, false_and, and_false, jb_zero, lt7_0, lt7_1, lt7_2, lt7_3, lt7_4, lt7_5, lt7_6, Nat.reduceAdd, Nat.reduceLeDiff, c_X8_parts_1, u_X8_parts, c_X8_parts_2, c_X8_parts_3, ↓reduceIte, ilt_t, ilt_f, ile_t, ile_f, ieq_t, ieq_f, jb_T, jb_F, jb_t, jb_f]
  refine e_openAlive hL hx.2.1 hB (fun y y1 y2 => ?_)
  show l_X8_parts_18 Q X [some (.ref x), some (.int (ji 0)), some (.long (jl 0)), none, some (.int (ji 0))] [] y 0 0
  rw [l_X8_parts_18, xseal_eq]
  refine imp_loop (fun mf (u : XM × Int × Int64 × (Int → Bool)) l => ln_X8_parts_18 Q X mf [some (.ref x), some (.int (ji u.2.1)), some (.long u.2.2.1), none, some (.int (ji l))] [] u.1 0 0) (fun l u => CH (inP x) u.1 μ ∧ PO u.1 x (oA A.1.1 A.1.2.1 A.1.2.2.1 A.2.1) (fun _ => 0) ∧ (0 ≤ u.2.1 ∧ u.2.1 ≤ l) ∧ (∀ t, 0 ≤ t → t < 64 → tb u.2.2.1 t = u.2.2.2 t) ∧ (foldz (prg A.1.1 A.1.2.1 A.1.2.2.1 A.2.1) l (A.1.2.2.1 - l).toNat (u.2.1, u.2.2.2)).1 = prt A.1.1 A.1.2.1 A.1.2.2.1 A.2.1) A.1.2.2.1 (fun mf u hu => ?_) (fun mf u l l0 l1 hu hn => ?_) A.1.2.2.1.toNat 10000 0 (y, 0, jl 0, fun _ => false) (by omega) (by omega) (by omega) ⟨y1.mono (fun a ha => by unfold inP; omega), y2, by simp only; omega, fun t t0 t1 => tb_zero t, by rw [show (A.1.2.2.1 - 0).toNat = A.1.2.2.1.toNat by omega]; rfl⟩
  · obtain ⟨z, c, r, S⟩ := u
    obtain ⟨u1, u2, u3, u4, u5⟩ := hu
    simp only at u1 u2 u3 u4 u5
    show ln_X8_parts_18 Q X (mf + 1) [some (.ref x), some (.int (ji c)), some (.long r), none, some (.int (ji A.1.2.2.1))] [] z 0 0
    have hL2 := hL.mono u1.1
    have hS2 := hL2.w
    have hC2 := hx.2.1.frame hB u1 (fun a a0 a1 => by unfold inP; omega)
    have nn := nodesX hC2
    rw [ul_X8_parts_18]
    simp (disch := first | assumption | omega) only [XL_0, XL_1, XL_2, XL_3, XL_4, XL_5, XL_6, XL_7, XL_8, XL_9, XL_10, XL_11, XL_12, XL_13, XL_14, XL_15, XL_16, XL_17, XL_18, XL_19, XL_20, XL_21, XL_22, XL_23, XL_24, XL_25, XL_26, XL_27, XL_28, XL_29, XL_30, XL_31, XL_32, XL_33, XL_34, XL_35, XL_36, XL_37, XL_38, XL_39, XL_40, XL_41, XL_42, XL_43, XL_44, XL_45, XL_46, XL_47, WS_0, WS_1, WS_2, WS_3, WS_4, WS_5, WS_6, WS_7, WS_8, WS_9, WS_10, WS_11, WS_12, WS_13, WS_14, WS_15, WS_16, WS_17, WS_18, WS_19, WS_20, PS_0, PS_1, PS_2, PS_3, PS_4, PS_5, PS_6, ji_add, ji_sub, ji_mul, ji_neg, ji_lit0, ji_ofNat, ji_lt, ji_le, ji_eq, ji_nat, ji_in, qV_at, qI_at, qJ_at, qD_at, qA_at, qA_no, nb0, nb1, cat_r, cat_i, Option.some.injEq, exists_eq_left', true_and, and_true, if_true, if_false, ite_not, not_true_eq_false, not_false_eq_true, Sum.inr.injEq, exists_eq_right', true_or, or_true, and_self, Int.cast_ofNat_Int, reduceCtorEq, or_false, false_or, false_and, and_false, jb_zero, lt7_0, lt7_1, lt7_2, lt7_3, lt7_4, lt7_5, lt7_6, Nat.reduceAdd, Nat.reduceLeDiff, nn, ↓reduceIte, ilt_t, ilt_f, ile_t, ile_f, ieq_t, ieq_f, jb_T, jb_F, jb_t, jb_f]
    rw [show (A.1.2.2.1 - A.1.2.2.1).toNat = 0 by omega] at u5
    have u5 : c = prt A.1.1 A.1.2.1 A.1.2.2.1 A.2.1 := u5
    rw [u5]
    exact hQ z (u1.mono (fun a ha => by unfold inP at ha; unfold inX; omega)) (hx.frame hi u1 (fun a a0 a1 ha => by unfold inP at ha; omega))
  · obtain ⟨z, c, r, S⟩ := u
    obtain ⟨u1, u2, u3, u4, u5⟩ := hu
    simp only at u1 u2 u3 u4 u5
    show ln_X8_parts_18 Q X (mf + 1) [some (.ref x), some (.int (ji c)), some (.long r), none, some (.int (ji l))] [] z 0 0
    have hL2 := hL.mono u1.1
    have hS2 := hL2.w
    have hC2 := hx.2.1.frame hB u1 (fun a a0 a1 => by unfold inP; omega)
    have nn := nodesX hC2
    have hb : (lg_cmp (r &&& jlshl (jl 1) (ji l)) (jl 0) = ji 0) = (S l = false) := by rw [xlc_eq, tb_and l0 (by omega), u4 l l0 (by omega)]
    rw [show (A.1.2.2.1 - l).toNat = (A.1.2.2.1 - (l + 1)).toNat + 1 by omega, foldz] at u5
    unfold prg at u5
    rw [ul_X8_parts_18]
    by_cases hs : S l = true
    · rw [if_pos hs] at u5
      have hb' : ¬ (lg_cmp (r &&& jlshl (jl 1) (ji l)) (jl 0) = ji 0) := by rw [hb, hs]; decide
      rw [show (0 : Int32) = ji 0 from rfl]
      simp (disch := first | assumption | omega) only [XL_0, XL_1, XL_2, XL_3, XL_4, XL_5, XL_6, XL_7, XL_8, XL_9, XL_10, XL_11, XL_12, XL_13, XL_14, XL_15, XL_16, XL_17, XL_18, XL_19, XL_20, XL_21, XL_22, XL_23, XL_24, XL_25, XL_26, XL_27, XL_28, XL_29, XL_30, XL_31, XL_32, XL_33, XL_34, XL_35, XL_36, XL_37, XL_38, XL_39, XL_40, XL_41, XL_42, XL_43, XL_44, XL_45, XL_46, XL_47, WS_0, WS_1, WS_2, WS_3, WS_4, WS_5, WS_6, WS_7, WS_8, WS_9, WS_10, WS_11, WS_12, WS_13, WS_14, WS_15, WS_16, WS_17, WS_18, WS_19, WS_20, PS_0, PS_1, PS_2, PS_3, PS_4, PS_5, PS_6, ji_add, ji_sub, ji_mul, ji_neg, ji_lit0, ji_ofNat, ji_lt, ji_le, ji_eq, ji_nat, ji_in, qV_at, qI_at, qJ_at, qD_at, qA_at, qA_no, nb0, nb1, cat_r, cat_i, Option.some.injEq, exists_eq_left', true_and, and_true, if_true, if_false, ite_not, not_true_eq_false, not_false_eq_true, Sum.inr.injEq, exists_eq_right', true_or, or_true, and_self, Int.cast_ofNat_Int, reduceCtorEq, or_false, false_or, false_and, and_false, jb_zero, lt7_0, lt7_1, lt7_2, lt7_3, lt7_4, lt7_5, lt7_6, Nat.reduceAdd, Nat.reduceLeDiff, nn, hb', ↓reduceIte, ilt_t, ilt_f, ile_t, ile_f, ieq_t, ieq_f, jb_T, jb_F, jb_t, jb_f]
      exact hn (z, c, r, S) ⟨u1, u2, by simp only; omega, u4, u5⟩
    · rw [if_neg hs] at u5
      have hb' : lg_cmp (r &&& jlshl (jl 1) (ji l)) (jl 0) = ji 0 := by rw [hb]; exact Bool.eq_false_iff.mpr hs
      rw [show (0 : Int32) = ji 0 from rfl]
      simp (disch := first | assumption | omega) only [XL_0, XL_1, XL_2, XL_3, XL_4, XL_5, XL_6, XL_7, XL_8, XL_9, XL_10, XL_11, XL_12, XL_13, XL_14, XL_15, XL_16, XL_17, XL_18, XL_19, XL_20, XL_21, XL_22, XL_23, XL_24, XL_25, XL_26, XL_27, XL_28, XL_29, XL_30, XL_31, XL_32, XL_33, XL_34, XL_35, XL_36, XL_37, XL_38, XL_39, XL_40, XL_41, XL_42, XL_43, XL_44, XL_45, XL_46, XL_47, WS_0, WS_1, WS_2, WS_3, WS_4, WS_5, WS_6, WS_7, WS_8, WS_9, WS_10, WS_11, WS_12, WS_13, WS_14, WS_15, WS_16, WS_17, WS_18, WS_19, WS_20, PS_0, PS_1, PS_2, PS_3, PS_4, PS_5, PS_6, ji_add, ji_sub, ji_mul, ji_neg, ji_lit0, ji_ofNat, ji_lt, ji_le, ji_eq, ji_nat, ji_in, qV_at, qI_at, qJ_at, qD_at, qA_at, qA_no, nb0, nb1, cat_r, cat_i, Option.some.injEq, exists_eq_left', true_and, and_true, if_true, if_false, ite_not, not_true_eq_false, not_false_eq_true, Sum.inr.injEq, exists_eq_right', true_or, or_true, and_self, Int.cast_ofNat_Int, reduceCtorEq, or_false, false_or, false_and, and_false, jb_zero, lt7_0, lt7_1, lt7_2, lt7_3, lt7_4, lt7_5, lt7_6, Nat.reduceAdd, Nat.reduceLeDiff, nn, hb', ↓reduceIte, ilt_t, ilt_f, ile_t, ile_f, ieq_t, ieq_f, jb_T, jb_F, jb_t, jb_f]
      refine e_spread hL2 hC2 hB u2 (oA_b _ _ _ _) l0 l1 (fun v d cc v1 v2 v3 v4 v5 v6 => ?_)
      have hL3 := hL2.mono v1.1
      simp (disch := first | assumption | omega) only [XL_0, XL_1, XL_2, XL_3, XL_4, XL_5, XL_6, XL_7, XL_8, XL_9, XL_10, XL_11, XL_12, XL_13, XL_14, XL_15, XL_16, XL_17, XL_18, XL_19, XL_20, XL_21, XL_22, XL_23, XL_24, XL_25, XL_26, XL_27, XL_28, XL_29, XL_30, XL_31, XL_32, XL_33, XL_34, XL_35, XL_36, XL_37, XL_38, XL_39, XL_40, XL_41, XL_42, XL_43, XL_44, XL_45, XL_46, XL_47, WS_0, WS_1, WS_2, WS_3, WS_4, WS_5, WS_6, WS_7, WS_8, WS_9, WS_10, WS_11, WS_12, WS_13, WS_14, WS_15, WS_16, WS_17, WS_18, WS_19, WS_20, PS_0, PS_1, PS_2, PS_3, PS_4, PS_5, PS_6, ji_add, ji_sub, ji_mul, ji_neg, ji_lit0, ji_ofNat, ji_lt, ji_le, ji_eq, ji_nat, ji_in, qV_at, qI_at, qJ_at, qD_at, qA_at, qA_no, nb0, nb1, cat_r, cat_i, Option.some.injEq, exists_eq_left', true_and, and_true, if_true, if_false, ite_not, not_true_eq_false, not_false_eq_true, Sum.inr.injEq, exists_eq_right', true_or, or_true, and_self, Int.cast_ofNat_Int, reduceCtorEq, or_false, false_or, false_and, and_false, jb_zero, lt7_0, lt7_1, lt7_2, lt7_3, lt7_4, lt7_5, lt7_6, Nat.reduceAdd, Nat.reduceLeDiff, c_X8_parts_1, c_X8_parts_2, c_X8_parts_3, ↓reduceIte, ilt_t, ilt_f, ile_t, ile_f, ieq_t, ieq_f, jb_T, jb_F, jb_t, jb_f]
      have e : ∀ n, 0 ≤ n → n < A.1.2.2.1 → hpA A.1.1 A.1.2.1 A.1.2.2.1 A.2.1 l n = d n := fun n n0 n1 => hop_eq (v4.cong (fun n y n0 n1 y0 y1 => eO_A g n0 n1 y0 y1)) n0 n1
      refine e_reached hL3 v2 (fun n n0 n1 => ?_) (fun rr hr => ?_)
      · by_cases hN : n < A.1.2.2.1
        · have := v4.lt n0 hN
          have := v4.1.2.1 n n0 hN
          omega
        · rw [v6 n (by omega) n1]; omega
      · simp (disch := first | assumption | omega) only [XL_0, XL_1, XL_2, XL_3, XL_4, XL_5, XL_6, XL_7, XL_8, XL_9, XL_10, XL_11, XL_12, XL_13, XL_14, XL_15, XL_16, XL_17, XL_18, XL_19, XL_20, XL_21, XL_22, XL_23, XL_24, XL_25, XL_26, XL_27, XL_28, XL_29, XL_30, XL_31, XL_32, XL_33, XL_34, XL_35, XL_36, XL_37, XL_38, XL_39, XL_40, XL_41, XL_42, XL_43, XL_44, XL_45, XL_46, XL_47, WS_0, WS_1, WS_2, WS_3, WS_4, WS_5, WS_6, WS_7, WS_8, WS_9, WS_10, WS_11, WS_12, WS_13, WS_14, WS_15, WS_16, WS_17, WS_18, WS_19, WS_20, PS_0, PS_1, PS_2, PS_3, PS_4, PS_5, PS_6, ji_add, ji_sub, ji_mul, ji_neg, ji_lit0, ji_ofNat, ji_lt, ji_le, ji_eq, ji_nat, ji_in, qV_at, qI_at, qJ_at, qD_at, qA_at, qA_no, nb0, nb1, cat_r, cat_i, Option.some.injEq, exists_eq_left', true_and, and_true, if_true, if_false, ite_not, not_true_eq_false, not_false_eq_true, Sum.inr.injEq, exists_eq_right', true_or, or_true, and_self, Int.cast_ofNat_Int, reduceCtorEq, or_false, false_or, false_and, and_false, jb_zero, lt7_0, lt7_1, lt7_2, lt7_3, lt7_4, lt7_5, lt7_6, Nat.reduceAdd, Nat.reduceLeDiff, c_X8_parts_1, c_X8_parts_2, c_X8_parts_3, ↓reduceIte, ilt_t, ilt_f, ile_t, ile_f, ieq_t, ieq_f, jb_T, jb_F, jb_t, jb_f]
        refine hn (v, c + 1, r ||| rr, _) ⟨CH.trans (v1.mono (fun a ha => by unfold inP; omega)) u1, u2.frame v1 (by omega) (by omega), by simp only; omega, fun t t0 t1 => ?_, u5⟩
        simp only
        rw [tb_or, u4 t t0 t1, hr t t0 t1]
        by_cases hN : t < A.1.2.2.1
        · rw [decide_eq_true (show t < 36 by omega), decide_eq_true (show 0 ≤ t ∧ t < A.1.2.2.1 from ⟨t0, hN⟩), e t t0 hN]; rfl
        · rw [decide_eq_false (show ¬ (0 ≤ t ∧ t < A.1.2.2.1) from fun q => hN q.2)]
          by_cases h36 : t < 36
          · rw [v6 t (by omega) h36]; simp; cases S t <;> rfl
          · rw [decide_eq_false h36]; rfl
theorem oA_cut {l : Int} : oA w h N (zu Z (2 + l) 1) = zu (oA w h N Z) l 0 := by
  funext k
  unfold oA
  by_cases hk : k = l
  · rw [hk, zu_at, zu_at, if_neg (fun q => by have := q.2; omega)]
  · rw [zu_ne (by omega), zu_ne hk]
theorem e_isBridge (hL : XL μ x) (hC : CW μ (x + 1) w h N s Z) (hB : BD w h N s Z) (hP : PO μ x (oA w h N Z) (fun _ => 0)) {l : Int} (l0 : 0 ≤ l) (l1 : l < 72) (hK : ∀ ν, CH (inP x) ν μ → PO ν x (oA w h N Z) (fun _ => 0) → Q (some (.int (jb (isB w h N Z l = true)))) ν) : s_X4_isBridge μ [.ref (x + 1165), .ref (x + 2), .int (ji l)] Q X := by
  have g := hB.g
  have t1 := hP.1 l l0 (by omega)
  by_cases h1 : oA w h N Z l = 0
  · have e : isB w h N Z l = false := by
      unfold isB
      unfold oA at h1
      by_cases q : isl w h N l = true ∧ Z (2 + l) = 0
      · rw [if_pos q] at h1; omega
      · by_cases q1 : isl w h N l = true
        · rw [decide_eq_false (fun q2 => q ⟨q1, q2⟩), Bool.and_false, Bool.false_and]
        · rw [Bool.eq_false_iff.mpr q1]; rfl
    have hq := hK μ (CH.refl _ _) hP
    rw [e] at hq
    rw [h1] at t1
    simp (disch := first | assumption | omega) only [XL_0, XL_1, XL_2, XL_3, XL_4, XL_5, XL_6, XL_7, XL_8, XL_9, XL_10, XL_11, XL_12, XL_13, XL_14, XL_15, XL_16, XL_17, XL_18, XL_19, XL_20, XL_21, XL_22, XL_23, XL_24, XL_25, XL_26, XL_27, XL_28, XL_29, XL_30, XL_31, XL_32, XL_33, XL_34, XL_35, XL_36, XL_37, XL_38, XL_39, XL_40, XL_41, XL_42, XL_43, XL_44, XL_45, XL_46, XL_47, WS_0, WS_1, WS_2, WS_3, WS_4, WS_5, WS_6, WS_7, WS_8, WS_9, WS_10, WS_11, WS_12, WS_13, WS_14, WS_15, WS_16, WS_17, WS_18, WS_19, WS_20, PS_0, PS_1, PS_2, PS_3, PS_4, PS_5, PS_6, ji_add, ji_sub, ji_mul, ji_neg, ji_lit0, ji_ofNat, ji_lt, ji_le, ji_eq, ji_nat, ji_in, qV_at, qI_at, qJ_at, qD_at, qA_at, qA_no, nb0, nb1, cat_r, cat_i, Option.some.injEq, exists_eq_left', true_and, and_true, if_true, if_false, ite_not, not_true_eq_false, not_false_eq_true, Sum.inr.injEq, exists_eq_right', true_or, or_true, and_self, Int.cast_ofNat_Int, reduceCtorEq, or_false, false_or, false_and, and_false, jb_zero, lt7_0, lt7_1, lt7_2, lt7_3, lt7_4, lt7_5, lt7_6, Nat.reduceAdd, Nat.reduceLeDiff, c_X4_isBridge_1, c_X4_isBridge_2, c_X4_isBridge_3, c_X4_isBridge_4, c_X4_isBridge_5, c_X4_isBridge_6, c_X4_isBridge_7, c_X4_isBridge_8, c_X4_isBridge_9, c_X4_isBridge_10, c_X4_isBridge_11, c_X4_isBridge_12, u_X4_isBridge, t1, ↓reduceIte, ilt_t, ilt_f, ile_t, ile_f, ieq_t, ieq_f, jb_T, jb_F, jb_t, jb_f]
    rw [jb_f _ (by decide)] at hq
    exact hq
  · obtain ⟨hl, hz⟩ : isl w h N l = true ∧ Z (2 + l) = 0 := by
      unfold oA at h1
      by_cases q : isl w h N l = true ∧ Z (2 + l) = 0
      · exact q
      · rw [if_neg q] at h1; exact absurd rfl h1
    have h2 : oA w h N Z l = 1 := if_pos ⟨hl, hz⟩
    rw [h2] at t1
    have hl' := hl
    unfold isl at hl'
    rw [decide_eq_true_eq] at hl'
    have hnb := (nxt_b (z := l / 2) (y := l % 2) g)
    have hnb2 := hnb.2.2 hl'.2
    have c1 : CH (inP x) (wI μ (x + 1166) l.toNat (ji 0)) μ := CH.wI (S := inP x) (CH.refl _ _) _ _ _ (by unfold inP; omega)
    have hL1 := hL.mono c1.1
    have hC1 := hC.frame hB c1 (fun a a0 a1 => by unfold inP; omega)
    have hP1 : PO (wI μ (x + 1166) l.toNat (ji 0)) x (oA w h N (zu Z (2 + l) 1)) (fun _ => 0) := by
      rw [oA_cut]
      exact ⟨hP.1.put l0, hP.2.ne (by omega)⟩
    have hS1 := hL1.w
    have hK' : ∀ ν (d : Int → Int), CH (inP x) ν μ → PO ν x (oA w h N Z) (fun _ => 0) → d (nxt w h N (l / 2) (l % 2)) = hpA w h N (zu Z (2 + l) 1) (l / 2) (nxt w h N (l / 2) (l % 2)) → (if d (nxt w h N (l / 2) (l % 2)) = -1 then Q (some (.int (ji 1))) ν else Q (some (.int (ji 0))) ν) := fun ν d v1 v2 v3 => by
      have hq := hK ν v1 v2
      unfold isB at hq
      rw [hl, decide_eq_true hz, ← v3, Bool.true_and, Bool.true_and] at hq
      by_cases q : d (nxt w h N (l / 2) (l % 2)) = -1
      · rw [if_pos q]
        rw [decide_eq_true q, jb_t _ rfl] at hq
        exact hq
      · rw [if_neg q]
        rw [decide_eq_false q, jb_f _ (by decide)] at hq
        exact hq
    simp (disch := first | assumption | omega) only [XL_0, XL_1, XL_2, XL_3, XL_4, XL_5, XL_6, XL_7, XL_8, XL_9, XL_10, XL_11, XL_12, XL_13, XL_14, XL_15, XL_16, XL_17, XL_18, XL_19, XL_20, XL_21, XL_22, XL_23, XL_24, XL_25, XL_26, XL_27, XL_28, XL_29, XL_30, XL_31, XL_32, XL_33, XL_34, XL_35, XL_36, XL_37, XL_38, XL_39, XL_40, XL_41, XL_42, XL_43, XL_44, XL_45, XL_46, XL_47, WS_0, WS_1, WS_2, WS_3, WS_4, WS_5, WS_6, WS_7, WS_8, WS_9, WS_10, WS_11, WS_12, WS_13, WS_14, WS_15, WS_16, WS_17, WS_18, WS_19, WS_20, PS_0, PS_1, PS_2, PS_3, PS_4, PS_5, PS_6, ji_add, ji_sub, ji_mul, ji_neg, ji_lit0, ji_ofNat, ji_lt, ji_le, ji_eq, ji_nat, ji_in, qV_at, qI_at, qJ_at, qD_at, qA_at, qA_no, nb0, nb1, cat_r, cat_i, Option.some.injEq, exists_eq_left', true_and, and_true, if_true, if_false, ite_not, not_true_eq_false, not_false_eq_true, Sum.inr.injEq, exists_eq_right', true_or, or_true, and_self, Int.cast_ofNat_Int, reduceCtorEq, or_false, false_or, false_and, and_false, jb_zero, lt7_0, lt7_1, lt7_2, lt7_3, lt7_4, lt7_5, lt7_6, Nat.reduceAdd, Nat.reduceLeDiff, c_X4_isBridge_1, c_X4_isBridge_2, c_X4_isBridge_3, c_X4_isBridge_4, c_X4_isBridge_5, c_X4_isBridge_6, c_X4_isBridge_7, c_X4_isBridge_8, c_X4_isBridge_9, c_X4_isBridge_10, c_X4_isBridge_11, c_X4_isBridge_12, u_X4_isBridge, t1, nar0, e_lesserEnd, ↓reduceIte, ilt_t, ilt_f, ile_t, ile_f, ieq_t, ieq_f, jb_T, jb_F, jb_t, jb_f]
    refine Or.inl ?_
    refine e_spread hL1 hC1 hB hP1 (oA_b _ _ _ _) (by omega) (by omega) (fun v d cc v1 v2 v3 v4 v5 v6 => ?_)
    have hL2 := hL1.mono v1.1
    have e : hpA w h N (zu Z (2 + l) 1) (l / 2) (nxt w h N (l / 2) (l % 2)) = d (nxt w h N (l / 2) (l % 2)) := hop_eq (v4.cong (fun n y n0 n1 y0 y1 => eO_A g n0 n1 y0 y1)) (by omega) hnb2.2.2.2.2
    have c2 : CH (inP x) (wI v (x + 1166) l.toNat (ji 1)) μ := (CH.trans (v1.mono (fun a ha => by unfold inP; omega)) c1).wI _ _ _ (by unfold inP; omega)
    have hL3 := hL.mono c2.1
    have hS3 := hL3.w
    have hC3 := hC.frame hB c2 (fun a a0 a1 => by unfold inP; omega)
    have hP3 : PO (wI v (x + 1166) l.toNat (ji 1)) x (oA w h N Z) (fun _ => 0) := by
      have hp := hP1.frame v1 (by omega) (by omega)
      rw [oA_cut] at hp
      have hp1 := hp.1.put (v := 1) l0
      rw [show zu (zu (oA w h N Z) l 0) l 1 = oA w h N Z by
        funext k
        by_cases hk : k = l
        · rw [hk, zu_at, h2]
        · rw [zu_ne hk, zu_ne hk]] at hp1
      exact ⟨hp1, hp.2.ne (by omega)⟩
    have hq := hK' _ d c2 hP3 e.symm
    simp (disch := first | assumption | omega) only [XL_0, XL_1, XL_2, XL_3, XL_4, XL_5, XL_6, XL_7, XL_8, XL_9, XL_10, XL_11, XL_12, XL_13, XL_14, XL_15, XL_16, XL_17, XL_18, XL_19, XL_20, XL_21, XL_22, XL_23, XL_24, XL_25, XL_26, XL_27, XL_28, XL_29, XL_30, XL_31, XL_32, XL_33, XL_34, XL_35, XL_36, XL_37, XL_38, XL_39, XL_40, XL_41, XL_42, XL_43, XL_44, XL_45, XL_46, XL_47, WS_0, WS_1, WS_2, WS_3, WS_4, WS_5, WS_6, WS_7, WS_8, WS_9, WS_10, WS_11, WS_12, WS_13, WS_14, WS_15, WS_16, WS_17, WS_18, WS_19, WS_20, PS_0, PS_1, PS_2, PS_3, PS_4, PS_5, PS_6, ji_add, ji_sub, ji_mul, ji_neg, ji_lit0, ji_ofNat, ji_lt, ji_le, ji_eq, ji_nat, ji_in, qV_at, qI_at, qJ_at, qD_at, qA_at, qA_no, nb0, nb1, cat_r, cat_i, Option.some.injEq, exists_eq_left', true_and, and_true, if_true, if_false, ite_not, not_true_eq_false, not_false_eq_true, Sum.inr.injEq, exists_eq_right', true_or, or_true, and_self, Int.cast_ofNat_Int, reduceCtorEq, or_false, false_or, false_and, and_false, jb_zero, lt7_0, lt7_1, lt7_2, lt7_3, lt7_4, lt7_5, lt7_6, Nat.reduceAdd, Nat.reduceLeDiff, c_X4_isBridge_1, c_X4_isBridge_2, c_X4_isBridge_3, c_X4_isBridge_4, c_X4_isBridge_5, c_X4_isBridge_6, c_X4_isBridge_7, c_X4_isBridge_8, c_X4_isBridge_9, c_X4_isBridge_10, c_X4_isBridge_11, c_X4_isBridge_12, nar1, ↓reduceIte, ilt_t, ilt_f, ile_t, ile_f, ieq_t, ieq_f, jb_T, jb_F, jb_t, jb_f]
    refine Or.inl ?_
    have hd : MR (wI v (x + 1166) l.toNat (ji 1)) (x + 1168) 36 d := v2.ne (by omega)
    have eg := fun (Q : XQ) X => e_greaterEnd (Q := Q) (X := X) hS3 hC3.1 l0 (by omega : l < 2147483648)
    have eh := fun (Q : XQ) X => e_hopsTo (Q := Q) (X := X) hL3 hd (n := nxt w h N (l / 2) (l % 2)) (by omega) (by omega)
    have db := v4.1.2.1 _ (show 0 ≤ nxt w h N (l / 2) (l % 2) by omega) hnb2.2.2.2.2
    have db2 := v4.lt (show 0 ≤ nxt w h N (l / 2) (l % 2) by omega) hnb2.2.2.2.2
    by_cases q : d (nxt w h N (l / 2) (l % 2)) = -1
    · rw [if_pos q] at hq
      simp (disch := first | assumption | omega) only [XL_0, XL_1, XL_2, XL_3, XL_4, XL_5, XL_6, XL_7, XL_8, XL_9, XL_10, XL_11, XL_12, XL_13, XL_14, XL_15, XL_16, XL_17, XL_18, XL_19, XL_20, XL_21, XL_22, XL_23, XL_24, XL_25, XL_26, XL_27, XL_28, XL_29, XL_30, XL_31, XL_32, XL_33, XL_34, XL_35, XL_36, XL_37, XL_38, XL_39, XL_40, XL_41, XL_42, XL_43, XL_44, XL_45, XL_46, XL_47, WS_0, WS_1, WS_2, WS_3, WS_4, WS_5, WS_6, WS_7, WS_8, WS_9, WS_10, WS_11, WS_12, WS_13, WS_14, WS_15, WS_16, WS_17, WS_18, WS_19, WS_20, PS_0, PS_1, PS_2, PS_3, PS_4, PS_5, PS_6, ji_add, ji_sub, ji_mul, ji_neg, ji_lit0, ji_ofNat, ji_lt, ji_le, ji_eq, ji_nat, ji_in, qV_at, qI_at, qJ_at, qD_at, qA_at, qA_no, nb0, nb1, cat_r, cat_i, Option.some.injEq, exists_eq_left', true_and, and_true, if_true, if_false, ite_not, not_true_eq_false, not_false_eq_true, Sum.inr.injEq, exists_eq_right', true_or, or_true, and_self, Int.cast_ofNat_Int, reduceCtorEq, or_false, false_or, false_and, and_false, jb_zero, lt7_0, lt7_1, lt7_2, lt7_3, lt7_4, lt7_5, lt7_6, Nat.reduceAdd, Nat.reduceLeDiff, c_X4_isBridge_1, c_X4_isBridge_2, c_X4_isBridge_3, c_X4_isBridge_4, c_X4_isBridge_5, c_X4_isBridge_6, c_X4_isBridge_7, c_X4_isBridge_8, c_X4_isBridge_9, c_X4_isBridge_10, c_X4_isBridge_11, c_X4_isBridge_12, eg, eh, q, nb1, ↓reduceIte, ilt_t, ilt_f, ile_t, ile_f, ieq_t, ieq_f, jb_T, jb_F, jb_t, jb_f]
      exact hq
    · rw [if_neg q] at hq
      simp (disch := first | assumption | omega) only [XL_0, XL_1, XL_2, XL_3, XL_4, XL_5, XL_6, XL_7, XL_8, XL_9, XL_10, XL_11, XL_12, XL_13, XL_14, XL_15, XL_16, XL_17, XL_18, XL_19, XL_20, XL_21, XL_22, XL_23, XL_24, XL_25, XL_26, XL_27, XL_28, XL_29, XL_30, XL_31, XL_32, XL_33, XL_34, XL_35, XL_36, XL_37, XL_38, XL_39, XL_40, XL_41, XL_42, XL_43, XL_44, XL_45, XL_46, XL_47, WS_0, WS_1, WS_2, WS_3, WS_4, WS_5, WS_6, WS_7, WS_8, WS_9, WS_10, WS_11, WS_12, WS_13, WS_14, WS_15, WS_16, WS_17, WS_18, WS_19, WS_20, PS_0, PS_1, PS_2, PS_3, PS_4, PS_5, PS_6, ji_add, ji_sub, ji_mul, ji_neg, ji_lit0, ji_ofNat, ji_lt, ji_le, ji_eq, ji_nat, ji_in, qV_at, qI_at, qJ_at, qD_at, qA_at, qA_no, nb0, nb1, cat_r, cat_i, Option.some.injEq, exists_eq_left', true_and, and_true, if_true, if_false, ite_not, not_true_eq_false, not_false_eq_true, Sum.inr.injEq, exists_eq_right', true_or, or_true, and_self, Int.cast_ofNat_Int, reduceCtorEq, or_false, false_or, false_and, and_false, jb_zero, lt7_0, lt7_1, lt7_2, lt7_3, lt7_4, lt7_5, lt7_6, Nat.reduceAdd, Nat.reduceLeDiff, c_X4_isBridge_1, c_X4_isBridge_2, c_X4_isBridge_3, c_X4_isBridge_4, c_X4_isBridge_5, c_X4_isBridge_6, c_X4_isBridge_7, c_X4_isBridge_8, c_X4_isBridge_9, c_X4_isBridge_10, c_X4_isBridge_11, c_X4_isBridge_12, eg, eh, q, nb0, ↓reduceIte, ilt_t, ilt_f, ile_t, ile_f, ieq_t, ieq_f, jb_T, jb_F, jb_t, jb_f]
      exact hq
theorem q_bridge (hx : XS μ x A) (hi : INV A) {i : Int} (i0 : -2147483648 ≤ i) (i1 : i < 2147483648) (hQ : CQ μ x Q X IOB e2 (xBridge A i)) : s_X8_bridge μ [.ref x, .int (ji i)] Q X := by
  have hL := hx.1
  have hX := hx.xw hi
  have hB := hi.1.1.1
  have hw := hB.1
  have g := hB.g
  unfold xBridge op1 at hQ
  by_cases h1 : 0 ≤ i
  · rw [if_pos h1] at hQ
    simp (disch := first | assumption | omega) only [XL_0, XL_1, XL_2, XL_3, XL_4, XL_5, XL_6, XL_7, XL_8, XL_9, XL_10, XL_11, XL_12, XL_13, XL_14, XL_15, XL_16, XL_17, XL_18, XL_19, XL_20, XL_21, XL_22, XL_23, XL_24, XL_25, XL_26, XL_27, XL_28, XL_29, XL_30, XL_31, XL_32, XL_33, XL_34, XL_35, XL_36, XL_37, XL_38, XL_39, XL_40, XL_41, XL_42, XL_43, XL_44, XL_45, XL_46, XL_47, WS_0, WS_1, WS_2, WS_3, WS_4, WS_5, WS_6, WS_7, WS_8, WS_9, WS_10, WS_11, WS_12, WS_13, WS_14, WS_15, WS_16, WS_17, WS_18, WS_19, WS_20, PS_0, PS_1, PS_2, PS_3, PS_4, PS_5, PS_6, ji_add, ji_sub, ji_mul, ji_neg, ji_lit0, ji_ofNat, ji_lt, ji_le, ji_eq, ji_nat, ji_in, qV_at, qI_at, qJ_at, qD_at, qA_at, qA_no, nb0, nb1, cat_r, cat_i, Option.some.injEq, exists_eq_left', true_and, and_true, if_true, if_false, ite_not, not_true_eq_false, not_false_eq_true, Sum.inr.injEq, exists_eq_right', true_or, or_true, and_self, Int.cast_ofNat_Int, reduceCtorEq, or_false, false_or, false_and, and_false, jb_zero, lt7_0, lt7_1, lt7_2, lt7_3, lt7_4, lt7_5, lt7_6, Nat.reduceAdd, Nat.reduceLeDiff, c_X8_bridge_1, c_X8_bridge_2, u_X8_bridge, c_X8_bridge_3, q_reqNotNeg, h1, ↓reduceIte, ilt_t, ilt_f, ile_t, ile_f, ieq_t, ieq_f, jb_T, jb_F, jb_t, jb_f]
    refine e_openAlive hL hx.2.1 hB (fun y y1 y2 => ?_)
    show l_X8_bridge_19 Q X [some (.ref x), some (.int (ji i)), some (.int (ji 0)), some (.int (ji 0))] [] y (0 + 1) (0 + 6)
    rw [l_X8_bridge_19, xseal_eq]
    refine imp_loop (fun mf (u : XM × Int) l => ln_X8_bridge_19 Q X mf [some (.ref x), some (.int (ji i)), some (.int (ji u.2)), some (.int (ji l))] [] u.1 (0 + 1) (0 + 6)) (fun l u => CH (inP x) u.1 μ ∧ PO u.1 x (oA A.1.1 A.1.2.1 A.1.2.2.1 A.2.1) (fun _ => 0) ∧ (0 ≤ u.2 ∧ u.2 ≤ l) ∧ brz A.1.1 A.1.2.1 A.1.2.2.1 A.2.1 i (72 - l).toNat l u.2 = brz A.1.1 A.1.2.1 A.1.2.2.1 A.2.1 i 72 0 0) 72 (fun mf u hu => ?_) (fun mf u l l0 l1 hu hn => ?_) 72 10000 0 (y, 0) (by omega) (by omega) (by omega) ⟨y1.mono (fun a ha => by unfold inP; omega), y2, by simp only; omega, rfl⟩
    · obtain ⟨z, c⟩ := u
      obtain ⟨u1, u2, u3, u4⟩ := hu
      simp only at u1 u2 u3 u4
      show ln_X8_bridge_19 Q X (mf + 1) [some (.ref x), some (.int (ji i)), some (.int (ji c)), some (.int (ji 72))] [] z (0 + 1) (0 + 6)
      rw [ul_X8_bridge_19]
      simp (disch := first | assumption | omega) only [XL_0, XL_1, XL_2, XL_3, XL_4, XL_5, XL_6, XL_7, XL_8, XL_9, XL_10, XL_11, XL_12, XL_13, XL_14, XL_15, XL_16, XL_17, XL_18, XL_19, XL_20, XL_21, XL_22, XL_23, XL_24, XL_25, XL_26, XL_27, XL_28, XL_29, XL_30, XL_31, XL_32, XL_33, XL_34, XL_35, XL_36, XL_37, XL_38, XL_39, XL_40, XL_41, XL_42, XL_43, XL_44, XL_45, XL_46, XL_47, WS_0, WS_1, WS_2, WS_3, WS_4, WS_5, WS_6, WS_7, WS_8, WS_9, WS_10, WS_11, WS_12, WS_13, WS_14, WS_15, WS_16, WS_17, WS_18, WS_19, WS_20, PS_0, PS_1, PS_2, PS_3, PS_4, PS_5, PS_6, ji_add, ji_sub, ji_mul, ji_neg, ji_lit0, ji_ofNat, ji_lt, ji_le, ji_eq, ji_nat, ji_in, qV_at, qI_at, qJ_at, qD_at, qA_at, qA_no, nb0, nb1, cat_r, cat_i, Option.some.injEq, exists_eq_left', true_and, and_true, if_true, if_false, ite_not, not_true_eq_false, not_false_eq_true, Sum.inr.injEq, exists_eq_right', true_or, or_true, and_self, Int.cast_ofNat_Int, reduceCtorEq, or_false, false_or, false_and, and_false, jb_zero, lt7_0, lt7_1, lt7_2, lt7_3, lt7_4, lt7_5, lt7_6, Nat.reduceAdd, Nat.reduceLeDiff, ↓reduceIte, ilt_t, ilt_f, ile_t, ile_f, ieq_t, ieq_f, jb_T, jb_F, jb_t, jb_f]
      have u4 : -1 = brz A.1.1 A.1.2.1 A.1.2.2.1 A.2.1 i 72 0 0 := u4
      rw [← u4] at hQ
      exact hQ.p rfl z (u1.mono (fun a ha => by unfold inP at ha; unfold inX; omega)) (hx.frame hi u1 (fun a a0 a1 ha => by unfold inP at ha; omega))
    · obtain ⟨z, c⟩ := u
      obtain ⟨u1, u2, u3, u4⟩ := hu
      simp only at u1 u2 u3 u4
      show ln_X8_bridge_19 Q X (mf + 1) [some (.ref x), some (.int (ji i)), some (.int (ji c)), some (.int (ji l))] [] z (0 + 1) (0 + 6)
      have hL2 := hL.mono u1.1
      have hS2 := hL2.w
      have hC2 := hx.2.1.frame hB u1 (fun a a0 a1 => by unfold inP; omega)
      rw [ul_X8_bridge_19]
      simp (disch := first | assumption | omega) only [XL_0, XL_1, XL_2, XL_3, XL_4, XL_5, XL_6, XL_7, XL_8, XL_9, XL_10, XL_11, XL_12, XL_13, XL_14, XL_15, XL_16, XL_17, XL_18, XL_19, XL_20, XL_21, XL_22, XL_23, XL_24, XL_25, XL_26, XL_27, XL_28, XL_29, XL_30, XL_31, XL_32, XL_33, XL_34, XL_35, XL_36, XL_37, XL_38, XL_39, XL_40, XL_41, XL_42, XL_43, XL_44, XL_45, XL_46, XL_47, WS_0, WS_1, WS_2, WS_3, WS_4, WS_5, WS_6, WS_7, WS_8, WS_9, WS_10, WS_11, WS_12, WS_13, WS_14, WS_15, WS_16, WS_17, WS_18, WS_19, WS_20, PS_0, PS_1, PS_2, PS_3, PS_4, PS_5, PS_6, ji_add, ji_sub, ji_mul, ji_neg, ji_lit0, ji_ofNat, ji_lt, ji_le, ji_eq, ji_nat, ji_in, qV_at, qI_at, qJ_at, qD_at, qA_at, qA_no, nb0, nb1, cat_r, cat_i, Option.some.injEq, exists_eq_left', true_and, and_true, if_true, if_false, ite_not, not_true_eq_false, not_false_eq_true, Sum.inr.injEq, exists_eq_right', true_or, or_true, and_self, Int.cast_ofNat_Int, reduceCtorEq, or_false, false_or, false_and, and_false, jb_zero, lt7_0, lt7_1, lt7_2, lt7_3, lt7_4, lt7_5, lt7_6, Nat.reduceAdd, Nat.reduceLeDiff, ↓reduceIte, ilt_t, ilt_f, ile_t, ile_f, ieq_t, ieq_f, jb_T, jb_F, jb_t, jb_f]
      refine e_isBridge hL2 hC2 hB u2 l0 l1 (fun v v1 v2 => ?_)
      have c2 := CH.trans v1 u1
      rw [show (72 - l).toNat = (72 - (l + 1)).toNat + 1 by omega, brz] at u4
      by_cases q : isB A.1.1 A.1.2.1 A.1.2.2.1 A.2.1 l = true
      · rw [if_pos q] at u4
        by_cases qi : c = i
        · rw [if_pos qi] at u4
          rw [← u4] at hQ
          simp (disch := first | assumption | omega) only [XL_0, XL_1, XL_2, XL_3, XL_4, XL_5, XL_6, XL_7, XL_8, XL_9, XL_10, XL_11, XL_12, XL_13, XL_14, XL_15, XL_16, XL_17, XL_18, XL_19, XL_20, XL_21, XL_22, XL_23, XL_24, XL_25, XL_26, XL_27, XL_28, XL_29, XL_30, XL_31, XL_32, XL_33, XL_34, XL_35, XL_36, XL_37, XL_38, XL_39, XL_40, XL_41, XL_42, XL_43, XL_44, XL_45, XL_46, XL_47, WS_0, WS_1, WS_2, WS_3, WS_4, WS_5, WS_6, WS_7, WS_8, WS_9, WS_10, WS_11, WS_12, WS_13, WS_14, WS_15, WS_16, WS_17, WS_18, WS_19, WS_20, PS_0, PS_1, PS_2, PS_3, PS_4, PS_5, PS_6, ji_add, ji_sub, ji_mul, ji_neg, ji_lit0, ji_ofNat, ji_lt, ji_le, ji_eq, ji_nat, ji_in, qV_at, qI_at, qJ_at, qD_at, qA_at, qA_no, nb0, nb1, cat_r, cat_i, Option.some.injEq, exists_eq_left', true_and, and_true, if_true, if_false, ite_not, not_true_eq_false, not_false_eq_true, Sum.inr.injEq, exists_eq_right', true_or, or_true, and_self, Int.cast_ofNat_Int, reduceCtorEq, or_false, false_or, false_and, and_false, jb_zero, lt7_0, lt7_1, lt7_2, lt7_3, lt7_4, lt7_5, lt7_6, Nat.reduceAdd, Nat.reduceLeDiff, c_X8_bridge_1, c_X8_bridge_2, c_X8_bridge_3, q, qi, ↓reduceIte, ilt_t, ilt_f, ile_t, ile_f, ieq_t, ieq_f, jb_T, jb_F, jb_t, jb_f]
          exact hQ.p rfl v (c2.mono (fun a ha => by unfold inP at ha; unfold inX; omega)) (hx.frame hi c2 (fun a a0 a1 ha => by unfold inP at ha; omega))
        · rw [if_neg qi] at u4
          simp (disch := first | assumption | omega) only [XL_0, XL_1, XL_2, XL_3, XL_4, XL_5, XL_6, XL_7, XL_8, XL_9, XL_10, XL_11, XL_12, XL_13, XL_14, XL_15, XL_16, XL_17, XL_18, XL_19, XL_20, XL_21, XL_22, XL_23, XL_24, XL_25, XL_26, XL_27, XL_28, XL_29, XL_30, XL_31, XL_32, XL_33, XL_34, XL_35, XL_36, XL_37, XL_38, XL_39, XL_40, XL_41, XL_42, XL_43, XL_44, XL_45, XL_46, XL_47, WS_0, WS_1, WS_2, WS_3, WS_4, WS_5, WS_6, WS_7, WS_8, WS_9, WS_10, WS_11, WS_12, WS_13, WS_14, WS_15, WS_16, WS_17, WS_18, WS_19, WS_20, PS_0, PS_1, PS_2, PS_3, PS_4, PS_5, PS_6, ji_add, ji_sub, ji_mul, ji_neg, ji_lit0, ji_ofNat, ji_lt, ji_le, ji_eq, ji_nat, ji_in, qV_at, qI_at, qJ_at, qD_at, qA_at, qA_no, nb0, nb1, cat_r, cat_i, Option.some.injEq, exists_eq_left', true_and, and_true, if_true, if_false, ite_not, not_true_eq_false, not_false_eq_true, Sum.inr.injEq, exists_eq_right', true_or, or_true, and_self, Int.cast_ofNat_Int, reduceCtorEq, or_false, false_or, false_and, and_false, jb_zero, lt7_0, lt7_1, lt7_2, lt7_3, lt7_4, lt7_5, lt7_6, Nat.reduceAdd, Nat.reduceLeDiff, c_X8_bridge_1, c_X8_bridge_2, c_X8_bridge_3, q, qi, ↓reduceIte, ilt_t, ilt_f, ile_t, ile_f, ieq_t, ieq_f, jb_T, jb_F, jb_t, jb_f]
          exact hn (v, c + 1) ⟨c2, v2, by simp only; omega, u4⟩
      · rw [if_neg q] at u4
        simp (disch := first | assumption | omega) only [XL_0, XL_1, XL_2, XL_3, XL_4, XL_5, XL_6, XL_7, XL_8, XL_9, XL_10, XL_11, XL_12, XL_13, XL_14, XL_15, XL_16, XL_17, XL_18, XL_19, XL_20, XL_21, XL_22, XL_23, XL_24, XL_25, XL_26, XL_27, XL_28, XL_29, XL_30, XL_31, XL_32, XL_33, XL_34, XL_35, XL_36, XL_37, XL_38, XL_39, XL_40, XL_41, XL_42, XL_43, XL_44, XL_45, XL_46, XL_47, WS_0, WS_1, WS_2, WS_3, WS_4, WS_5, WS_6, WS_7, WS_8, WS_9, WS_10, WS_11, WS_12, WS_13, WS_14, WS_15, WS_16, WS_17, WS_18, WS_19, WS_20, PS_0, PS_1, PS_2, PS_3, PS_4, PS_5, PS_6, ji_add, ji_sub, ji_mul, ji_neg, ji_lit0, ji_ofNat, ji_lt, ji_le, ji_eq, ji_nat, ji_in, qV_at, qI_at, qJ_at, qD_at, qA_at, qA_no, nb0, nb1, cat_r, cat_i, Option.some.injEq, exists_eq_left', true_and, and_true, if_true, if_false, ite_not, not_true_eq_false, not_false_eq_true, Sum.inr.injEq, exists_eq_right', true_or, or_true, and_self, Int.cast_ofNat_Int, reduceCtorEq, or_false, false_or, false_and, and_false, jb_zero, lt7_0, lt7_1, lt7_2, lt7_3, lt7_4, lt7_5, lt7_6, Nat.reduceAdd, Nat.reduceLeDiff, c_X8_bridge_1, c_X8_bridge_2, c_X8_bridge_3, jb_eqf q, ↓reduceIte, ilt_t, ilt_f, ile_t, ile_f, ieq_t, ieq_f, jb_T, jb_F, jb_t, jb_f]
        exact hn (v, c) ⟨c2, v2, by simp only; omega, u4⟩
  · rw [if_neg h1] at hQ
    simp (disch := first | assumption | omega) only [XL_0, XL_1, XL_2, XL_3, XL_4, XL_5, XL_6, XL_7, XL_8, XL_9, XL_10, XL_11, XL_12, XL_13, XL_14, XL_15, XL_16, XL_17, XL_18, XL_19, XL_20, XL_21, XL_22, XL_23, XL_24, XL_25, XL_26, XL_27, XL_28, XL_29, XL_30, XL_31, XL_32, XL_33, XL_34, XL_35, XL_36, XL_37, XL_38, XL_39, XL_40, XL_41, XL_42, XL_43, XL_44, XL_45, XL_46, XL_47, WS_0, WS_1, WS_2, WS_3, WS_4, WS_5, WS_6, WS_7, WS_8, WS_9, WS_10, WS_11, WS_12, WS_13, WS_14, WS_15, WS_16, WS_17, WS_18, WS_19, WS_20, PS_0, PS_1, PS_2, PS_3, PS_4, PS_5, PS_6, ji_add, ji_sub, ji_mul, ji_neg, ji_lit0, ji_ofNat, ji_lt, ji_le, ji_eq, ji_nat, ji_in, qV_at, qI_at, qJ_at, qD_at, qA_at, qA_no, nb0, nb1, cat_r, cat_i, Option.some.injEq, exists_eq_left', true_and, and_true, if_true, if_false, ite_not, not_true_eq_false, not_false_eq_true, Sum.inr.injEq, exists_eq_right', true_or, or_true, and_self, Int.cast_ofNat_Int, reduceCtorEq, or_false, false_or, false_and, and_false, jb_zero, lt7_0, lt7_1, lt7_2, lt7_3, lt7_4, lt7_5, lt7_6, Nat.reduceAdd, Nat.reduceLeDiff, c_X8_bridge_1, c_X8_bridge_2, u_X8_bridge, c_X8_bridge_3, q_reqNotNeg, h1, ↓reduceIte, ilt_t, ilt_f, ile_t, ile_f, ieq_t, ieq_f, jb_T, jb_F, jb_t, jb_f]
    exact CQ.stay hx hQ
end
