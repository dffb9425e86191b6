/-! ===== a world's further reads ===== -/
section
variable {μ : XM} {W : Nat} {w h N s : Int} {Z : Int → Int} {Q : XQ} {X : XX}
theorem e_countLinks (hS : WS μ W) (hC : CW μ W w h N s Z) (hB : BD w h N s Z) {c : Int} (hc : c = 0 ∨ c = 1) : s_X7_countLinks μ [.ref W, .int (ji c)] Q X = Q (some (.int (ji (cntz (fun l => isl w h N l && (decide (c = 0) || decide (Z (2 + l) ≠ 0))) 0 72 0)))) μ := by
  rw [u_X7_countLinks, l_X7_countLinks_4, xseal_eq]
  refine fold_loop (fun mf x l => ln_X7_countLinks_4 Q X mf [some (.ref W), some (.int (ji c)), some (.int (ji x)), some (.int (ji l))] [] μ 0 0) (fun x => Q (some (.int (ji x))) μ) (fun l x => if (isl w h N l && (decide (c = 0) || decide (Z (2 + l) ≠ 0))) = true then x + 1 else x) (fun l x => 0 ≤ x ∧ x ≤ l) (72) (fun mf x hx => ?_) (fun mf x l l0 l1 hx => ⟨?_, ?_⟩) _ 10000 (0) (0) (by omega) (by omega) (by omega) (by omega)
  · show ln_X7_countLinks_4 Q X (mf + 1) [some (.ref W), some (.int (ji c)), some (.int (ji x)), some (.int (ji (72)))] [] μ 0 0 = Q (some (.int (ji x))) μ
    rw [ul_X7_countLinks_4]
    simp (disch := first | assumption | omega) only [WS_0, WS_1, WS_2, WS_3, WS_4, WS_5, WS_6, WS_7, WS_8, WS_9, WS_10, WS_11, WS_12, WS_13, WS_14, WS_15, WS_16, WS_17, WS_18, WS_19, WS_20, PS_0, PS_1, PS_2, PS_3, PS_4, PS_5, PS_6, ji_add, ji_sub, ji_mul, ji_neg, ji_lit0, ji_ofNat, ji_lt, ji_le, ji_eq, ji_nat, ji_in, qV_at, qI_at, qJ_at, qD_at, qA_at, qA_no, nb0, nb1, cat_r, cat_i, Option.some.injEq, exists_eq_left', true_and, and_true, if_true, if_false, ite_not, not_true_eq_false, not_false_eq_true, Sum.inr.injEq, exists_eq_right', true_or, or_true, and_self, Int.cast_ofNat_Int, reduceCtorEq, or_false, false_or, false_and, and_false, jb_zero, lt7_0, lt7_1, lt7_2, lt7_3, lt7_4, lt7_5, lt7_6, c_X7_countLinks_1, c_X7_countLinks_2, ↓reduceIte, ilt_t, ilt_f, ile_t, ile_f, ieq_t, ieq_f, jb_T, jb_F, jb_t, jb_f]
  · show ln_X7_countLinks_4 Q X (mf + 1) [some (.ref W), some (.int (ji c)), some (.int (ji x)), some (.int (ji l))] [] μ 0 0 = ln_X7_countLinks_4 Q X mf [some (.ref W), some (.int (ji c)), some (.int (ji (if (isl w h N l && (decide (c = 0) || decide (Z (2 + l) ≠ 0))) = true then x + 1 else x))), some (.int (ji (l + 1)))] [] μ 0 0
    rw [ul_X7_countLinks_4]
    by_cases hw : isl w h N l = true <;> by_cases hd : Z (2 + l) = 0 <;> by_cases h0 : c = 0 <;> simp (disch := first | assumption | omega) only [WS_0, WS_1, WS_2, WS_3, WS_4, WS_5, WS_6, WS_7, WS_8, WS_9, WS_10, WS_11, WS_12, WS_13, WS_14, WS_15, WS_16, WS_17, WS_18, WS_19, WS_20, PS_0, PS_1, PS_2, PS_3, PS_4, PS_5, PS_6, ji_add, ji_sub, ji_mul, ji_neg, ji_lit0, ji_ofNat, ji_lt, ji_le, ji_eq, ji_nat, ji_in, qV_at, qI_at, qJ_at, qD_at, qA_at, qA_no, nb0, nb1, cat_r, cat_i, Option.some.injEq, exists_eq_left', true_and, and_true, if_true, if_false, ite_not, not_true_eq_false, not_false_eq_true, Sum.inr.injEq, exists_eq_right', true_or, or_true, and_self, Int.cast_ofNat_Int, reduceCtorEq, or_false, false_or, false_and, and_false, jb_zero, lt7_0, lt7_1, lt7_2, lt7_3, lt7_4, lt7_5, lt7_6, c_X7_countLinks_1, c_X7_countLinks_2, e_hasLink hS hC.1, e_isLinkDead hS hC hB, hw, hd, h0, ↓reduceIte, ilt_t, ilt_f, ile_t, ile_f, ieq_t, ieq_f, jb_T, jb_F, jb_t, jb_f] <;> simp [hd, h0, hw]
  · show 0 ≤ (if (isl w h N l && (decide (c = 0) || decide (Z (2 + l) ≠ 0))) = true then x + 1 else x) ∧ (if (isl w h N l && (decide (c = 0) || decide (Z (2 + l) ≠ 0))) = true then x + 1 else x) ≤ (l + 1)
    split <;> omega
theorem e_sumHops (hS : WS μ W) (hC : CW μ W w h N s Z) (hB : BD w h N s Z) : s_X7_sumHops μ [.ref W] Q X = Q (some (.int (ji (foldz (fun k x => x + Z ((2666 + 120 * k) + 5)) 0 (Z 1).toNat 0)))) μ := by
  have hC' := hC
  obtain ⟨hG, c1, c2, c3, c4, c5, c6⟩ := hC'
  have hB' := hB
  obtain ⟨b1, b2, b3, b4, b5⟩ := hB'
  rw [u_X7_sumHops, l_X7_sumHops_4, xseal_eq]
  refine fold_loop (fun mf x l => ln_X7_sumHops_4 Q X mf [some (.ref W), some (.int (ji x)), some (.int (ji l)), none] [] μ 0 0) (fun x => Q (some (.int (ji x))) μ) (fun l x => x + Z ((2666 + 120 * l) + 5)) (fun l x => 0 ≤ x ∧ x ≤ 200 * l) (Z 1) (fun mf x hx => ?_) (fun mf x l l0 l1 hx => ⟨?_, ?_⟩) _ 10000 (0) (0) (by omega) (by omega) (by omega) (by omega)
  · show ln_X7_sumHops_4 Q X (mf + 1) [some (.ref W), some (.int (ji x)), some (.int (ji (Z 1))), none] [] μ 0 0 = Q (some (.int (ji x))) μ
    rw [ul_X7_sumHops_4]
    simp (disch := first | assumption | omega) only [WS_0, WS_1, WS_2, WS_3, WS_4, WS_5, WS_6, WS_7, WS_8, WS_9, WS_10, WS_11, WS_12, WS_13, WS_14, WS_15, WS_16, WS_17, WS_18, WS_19, WS_20, PS_0, PS_1, PS_2, PS_3, PS_4, PS_5, PS_6, ji_add, ji_sub, ji_mul, ji_neg, ji_lit0, ji_ofNat, ji_lt, ji_le, ji_eq, ji_nat, ji_in, qV_at, qI_at, qJ_at, qD_at, qA_at, qA_no, nb0, nb1, cat_r, cat_i, Option.some.injEq, exists_eq_left', true_and, and_true, if_true, if_false, ite_not, not_true_eq_false, not_false_eq_true, Sum.inr.injEq, exists_eq_right', true_or, or_true, and_self, Int.cast_ofNat_Int, reduceCtorEq, or_false, false_or, false_and, and_false, jb_zero, lt7_0, lt7_1, lt7_2, lt7_3, lt7_4, lt7_5, lt7_6, c_X7_sumHops_1, c_X7_sumHops_2, c3, ↓reduceIte, ilt_t, ilt_f, ile_t, ile_f, ieq_t, ieq_f, jb_T, jb_F, jb_t, jb_f]
  · show ln_X7_sumHops_4 Q X (mf + 1) [some (.ref W), some (.int (ji x)), some (.int (ji l)), none] [] μ 0 0 = ln_X7_sumHops_4 Q X mf [some (.ref W), some (.int (ji (x + Z ((2666 + 120 * l) + 5)))), some (.int (ji (l + 1))), none] [] μ 0 0
    rw [ul_X7_sumHops_4]
    have hps := WS_ps hS l l0 (by omega)
    have hp := (CW_p hC l l0 l1).1.2.2.2.2.2.1
    simp (disch := first | assumption | omega) only [WS_0, WS_1, WS_2, WS_3, WS_4, WS_5, WS_6, WS_7, WS_8, WS_9, WS_10, WS_11, WS_12, WS_13, WS_14, WS_15, WS_16, WS_17, WS_18, WS_19, WS_20, PS_0, PS_1, PS_2, PS_3, PS_4, PS_5, PS_6, ji_add, ji_sub, ji_mul, ji_neg, ji_lit0, ji_ofNat, ji_lt, ji_le, ji_eq, ji_nat, ji_in, qV_at, qI_at, qJ_at, qD_at, qA_at, qA_no, nb0, nb1, cat_r, cat_i, Option.some.injEq, exists_eq_left', true_and, and_true, if_true, if_false, ite_not, not_true_eq_false, not_false_eq_true, Sum.inr.injEq, exists_eq_right', true_or, or_true, and_self, Int.cast_ofNat_Int, reduceCtorEq, or_false, false_or, false_and, and_false, jb_zero, lt7_0, lt7_1, lt7_2, lt7_3, lt7_4, lt7_5, lt7_6, c_X7_sumHops_1, c_X7_sumHops_2, c3, e_packetOf hS hC hB, hp, ↓reduceIte, ilt_t, ilt_f, ile_t, ile_f, ieq_t, ieq_f, jb_T, jb_F, jb_t, jb_f]
  · show 0 ≤ (x + Z ((2666 + 120 * l) + 5)) ∧ (x + Z ((2666 + 120 * l) + 5)) ≤ 200 * (l + 1)
    have := (BD_p hB l l0 l1).1
    omega
theorem e_activeAt (hS : WS μ W) (hC : CW μ W w h N s Z) (hB : BD w h N s Z) {n : Int} (n1 : -2147483648 ≤ n) (n2 : n < 2147483648) : s_X7_activeAt μ [.ref W, .int (ji n)] Q X = Q (some (.int (foldz (fun k x => if (act Z k && decide (Z ((2666 + 120 * k) + 4) = n)) = true then x ||| jshl (ji 1) (ji k) else x) 0 (Z 1).toNat (ji 0)))) μ := by
  have hC' := hC
  obtain ⟨hG, c1, c2, c3, c4, c5, c6⟩ := hC'
  have hB' := hB
  obtain ⟨b1, b2, b3, b4, b5⟩ := hB'
  rw [u_X7_activeAt, l_X7_activeAt_4, xseal_eq]
  refine fold_loop (fun mf x l => ln_X7_activeAt_4 Q X mf [some (.ref W), some (.int (ji n)), some (.int x), some (.int (ji l)), none] [] μ 0 0) (fun x => Q (some (.int x)) μ) (fun l x => if (act Z l && decide (Z ((2666 + 120 * l) + 4) = n)) = true then x ||| jshl (ji 1) (ji l) else x) (fun l x => True) (Z 1) (fun mf x hx => ?_) (fun mf x l l0 l1 hx => ⟨?_, ?_⟩) _ 10000 (0) (ji 0) (by omega) (by omega) (by omega) (trivial)
  · show ln_X7_activeAt_4 Q X (mf + 1) [some (.ref W), some (.int (ji n)), some (.int x), some (.int (ji (Z 1))), none] [] μ 0 0 = Q (some (.int x)) μ
    rw [ul_X7_activeAt_4]
    simp (disch := first | assumption | omega) only [WS_0, WS_1, WS_2, WS_3, WS_4, WS_5, WS_6, WS_7, WS_8, WS_9, WS_10, WS_11, WS_12, WS_13, WS_14, WS_15, WS_16, WS_17, WS_18, WS_19, WS_20, PS_0, PS_1, PS_2, PS_3, PS_4, PS_5, PS_6, ji_add, ji_sub, ji_mul, ji_neg, ji_lit0, ji_ofNat, ji_lt, ji_le, ji_eq, ji_nat, ji_in, qV_at, qI_at, qJ_at, qD_at, qA_at, qA_no, nb0, nb1, cat_r, cat_i, Option.some.injEq, exists_eq_left', true_and, and_true, if_true, if_false, ite_not, not_true_eq_false, not_false_eq_true, Sum.inr.injEq, exists_eq_right', true_or, or_true, and_self, Int.cast_ofNat_Int, reduceCtorEq, or_false, false_or, false_and, and_false, jb_zero, lt7_0, lt7_1, lt7_2, lt7_3, lt7_4, lt7_5, lt7_6, c_X7_activeAt_1, c_X7_activeAt_2, c_X7_activeAt_3, c3, ↓reduceIte, ilt_t, ilt_f, ile_t, ile_f, ieq_t, ieq_f, jb_T, jb_F, jb_t, jb_f]
  · show ln_X7_activeAt_4 Q X (mf + 1) [some (.ref W), some (.int (ji n)), some (.int x), some (.int (ji l)), none] [] μ 0 0 = ln_X7_activeAt_4 Q X mf [some (.ref W), some (.int (ji n)), some (.int (if (act Z l && decide (Z ((2666 + 120 * l) + 4) = n)) = true then x ||| jshl (ji 1) (ji l) else x)), some (.int (ji (l + 1))), none] [] μ 0 0
    rw [ul_X7_activeAt_4]
    have hps := WS_ps hS l l0 (by omega)
    have hbp := BD_p hB l l0 l1
    have hbp1 := hbp.1
    have hp := CW_p hC l l0 l1
    have hp4 := hp.1.2.2.2.2.1
    unfold act
    by_cases hw : Z ((2666 + 120 * l) + 3) ≤ 2 <;> by_cases hn : Z ((2666 + 120 * l) + 4) = n <;> simp (disch := first | assumption | omega) only [WS_0, WS_1, WS_2, WS_3, WS_4, WS_5, WS_6, WS_7, WS_8, WS_9, WS_10, WS_11, WS_12, WS_13, WS_14, WS_15, WS_16, WS_17, WS_18, WS_19, WS_20, PS_0, PS_1, PS_2, PS_3, PS_4, PS_5, PS_6, ji_add, ji_sub, ji_mul, ji_neg, ji_lit0, ji_ofNat, ji_lt, ji_le, ji_eq, ji_nat, ji_in, qV_at, qI_at, qJ_at, qD_at, qA_at, qA_no, nb0, nb1, cat_r, cat_i, Option.some.injEq, exists_eq_left', true_and, and_true, if_true, if_false, ite_not, not_true_eq_false, not_false_eq_true, Sum.inr.injEq, exists_eq_right', true_or, or_true, and_self, Int.cast_ofNat_Int, reduceCtorEq, or_false, false_or, false_and, and_false, jb_zero, lt7_0, lt7_1, lt7_2, lt7_3, lt7_4, lt7_5, lt7_6, c_X7_activeAt_1, c_X7_activeAt_2, c_X7_activeAt_3, c3, e_packetOf hS hC hB, e_isActive hps hp hbp, hp4, hw, hn, decide_true, decide_false, Bool.false_eq_true, Bool.and_true, Bool.and_false, Bool.false_and, ↓reduceIte, ilt_t, ilt_f, ile_t, ile_f, ieq_t, ieq_f, jb_T, jb_F, jb_t, jb_f]
  · show True
    trivial
theorem e_countFinders (hS : WS μ W) (hC : CW μ W w h N s Z) (hB : BD w h N s Z) {l' : Int} (n1 : -2147483648 ≤ l') (n2 : l' < 2147483648) : s_X7_countFinders μ [.ref W, .int (ji l')] Q X = Q (some (.int (ji (cntz (fun k => decide (fnd Z ((2666 + 120 * k)) l' ≠ -1)) 0 (Z 1).toNat 0)))) μ := by
  have hC' := hC
  obtain ⟨hG, c1, c2, c3, c4, c5, c6⟩ := hC'
  have hB' := hB
  obtain ⟨b1, b2, b3, b4, b5⟩ := hB'
  rw [u_X7_countFinders, l_X7_countFinders_4, xseal_eq]
  refine fold_loop (fun mf x l => ln_X7_countFinders_4 Q X mf [some (.ref W), some (.int (ji l')), some (.int (ji x)), some (.int (ji l)), none] [] μ 0 0) (fun x => Q (some (.int (ji x))) μ) (fun l x => if decide (fnd Z ((2666 + 120 * l)) l' ≠ -1) = true then x + 1 else x) (fun l x => 0 ≤ x ∧ x ≤ l) (Z 1) (fun mf x hx => ?_) (fun mf x l l0 l1 hx => ⟨?_, ?_⟩) _ 10000 (0) (0) (by omega) (by omega) (by omega) (by omega)
  · show ln_X7_countFinders_4 Q X (mf + 1) [some (.ref W), some (.int (ji l')), some (.int (ji x)), some (.int (ji (Z 1))), none] [] μ 0 0 = Q (some (.int (ji x))) μ
    rw [ul_X7_countFinders_4]
    simp (disch := first | assumption | omega) only [WS_0, WS_1, WS_2, WS_3, WS_4, WS_5, WS_6, WS_7, WS_8, WS_9, WS_10, WS_11, WS_12, WS_13, WS_14, WS_15, WS_16, WS_17, WS_18, WS_19, WS_20, PS_0, PS_1, PS_2, PS_3, PS_4, PS_5, PS_6, ji_add, ji_sub, ji_mul, ji_neg, ji_lit0, ji_ofNat, ji_lt, ji_le, ji_eq, ji_nat, ji_in, qV_at, qI_at, qJ_at, qD_at, qA_at, qA_no, nb0, nb1, cat_r, cat_i, Option.some.injEq, exists_eq_left', true_and, and_true, if_true, if_false, ite_not, not_true_eq_false, not_false_eq_true, Sum.inr.injEq, exists_eq_right', true_or, or_true, and_self, Int.cast_ofNat_Int, reduceCtorEq, or_false, false_or, false_and, and_false, jb_zero, lt7_0, lt7_1, lt7_2, lt7_3, lt7_4, lt7_5, lt7_6, c_X7_countFinders_1, c_X7_countFinders_2, c_X7_countFinders_3, c3, ↓reduceIte, ilt_t, ilt_f, ile_t, ile_f, ieq_t, ieq_f, jb_T, jb_F, jb_t, jb_f]
  · show ln_X7_countFinders_4 Q X (mf + 1) [some (.ref W), some (.int (ji l')), some (.int (ji x)), some (.int (ji l)), none] [] μ 0 0 = ln_X7_countFinders_4 Q X mf [some (.ref W), some (.int (ji l')), some (.int (ji (if decide (fnd Z ((2666 + 120 * l)) l' ≠ -1) = true then x + 1 else x))), some (.int (ji (l + 1))), none] [] μ 0 0
    rw [ul_X7_countFinders_4]
    have hps := WS_ps hS l l0 (by omega)
    have hbp := BD_p hB l l0 l1
    have hp := CW_p hC l l0 l1
    have hf := fnd_b hbp l'
    by_cases hw : fnd Z ((2666 + 120 * l)) l' = -1 <;> simp (disch := first | assumption | omega) only [WS_0, WS_1, WS_2, WS_3, WS_4, WS_5, WS_6, WS_7, WS_8, WS_9, WS_10, WS_11, WS_12, WS_13, WS_14, WS_15, WS_16, WS_17, WS_18, WS_19, WS_20, PS_0, PS_1, PS_2, PS_3, PS_4, PS_5, PS_6, ji_add, ji_sub, ji_mul, ji_neg, ji_lit0, ji_ofNat, ji_lt, ji_le, ji_eq, ji_nat, ji_in, qV_at, qI_at, qJ_at, qD_at, qA_at, qA_no, nb0, nb1, cat_r, cat_i, Option.some.injEq, exists_eq_left', true_and, and_true, if_true, if_false, ite_not, not_true_eq_false, not_false_eq_true, Sum.inr.injEq, exists_eq_right', true_or, or_true, and_self, Int.cast_ofNat_Int, reduceCtorEq, or_false, false_or, false_and, and_false, jb_zero, lt7_0, lt7_1, lt7_2, lt7_3, lt7_4, lt7_5, lt7_6, c_X7_countFinders_1, c_X7_countFinders_2, c_X7_countFinders_3, c3, e_packetOf hS hC hB, e_foundTime hps hp, hw, ↓reduceIte, ilt_t, ilt_f, ile_t, ile_f, ieq_t, ieq_f, jb_T, jb_F, jb_t, jb_f] <;> simp [hw]
  · show 0 ≤ (if decide (fnd Z ((2666 + 120 * l)) l' ≠ -1) = true then x + 1 else x) ∧ (if decide (fnd Z ((2666 + 120 * l)) l' ≠ -1) = true then x + 1 else x) ≤ (l + 1)
    split <;> omega
theorem e_visitedByAny (hS : WS μ W) (hC : CW μ W w h N s Z) (hB : BD w h N s Z) : s_X7_visitedByAny μ [.ref W] Q X = Q (some (.long (foldz (fun k x => x ||| gL μ 105 (pka W k)) 0 (Z 1).toNat (jl 0)))) μ := by
  have hC' := hC
  obtain ⟨hG, c1, c2, c3, c4, c5, c6⟩ := hC'
  have hB' := hB
  obtain ⟨b1, b2, b3, b4, b5⟩ := hB'
  rw [u_X7_visitedByAny, l_X7_visitedByAny_4, xseal_eq]
  refine fold_loop (fun mf x l => ln_X7_visitedByAny_4 Q X mf [some (.ref W), some (.long x), none, some (.int (ji l)), none] [] μ 0 0) (fun x => Q (some (.long x)) μ) (fun l x => x ||| gL μ 105 (pka W l)) (fun l x => True) (Z 1) (fun mf x hx => ?_) (fun mf x l l0 l1 hx => ⟨?_, ?_⟩) _ 10000 (0) (jl 0) (by omega) (by omega) (by omega) (trivial)
  · show ln_X7_visitedByAny_4 Q X (mf + 1) [some (.ref W), some (.long x), none, some (.int (ji (Z 1))), none] [] μ 0 0 = Q (some (.long x)) μ
    rw [ul_X7_visitedByAny_4]
    simp (disch := first | assumption | omega) only [WS_0, WS_1, WS_2, WS_3, WS_4, WS_5, WS_6, WS_7, WS_8, WS_9, WS_10, WS_11, WS_12, WS_13, WS_14, WS_15, WS_16, WS_17, WS_18, WS_19, WS_20, PS_0, PS_1, PS_2, PS_3, PS_4, PS_5, PS_6, ji_add, ji_sub, ji_mul, ji_neg, ji_lit0, ji_ofNat, ji_lt, ji_le, ji_eq, ji_nat, ji_in, qV_at, qI_at, qJ_at, qD_at, qA_at, qA_no, nb0, nb1, cat_r, cat_i, Option.some.injEq, exists_eq_left', true_and, and_true, if_true, if_false, ite_not, not_true_eq_false, not_false_eq_true, Sum.inr.injEq, exists_eq_right', true_or, or_true, and_self, Int.cast_ofNat_Int, reduceCtorEq, or_false, false_or, false_and, and_false, jb_zero, lt7_0, lt7_1, lt7_2, lt7_3, lt7_4, lt7_5, lt7_6, c_X7_visitedByAny_1, c_X7_visitedByAny_2, c3, ↓reduceIte, ilt_t, ilt_f, ile_t, ile_f, ieq_t, ieq_f, jb_T, jb_F, jb_t, jb_f]
  · show ln_X7_visitedByAny_4 Q X (mf + 1) [some (.ref W), some (.long x), none, some (.int (ji l)), none] [] μ 0 0 = ln_X7_visitedByAny_4 Q X mf [some (.ref W), some (.long (x ||| gL μ 105 (pka W l))), none, some (.int (ji (l + 1))), none] [] μ 0 0
    rw [ul_X7_visitedByAny_4]
    have hps := WS_ps hS l l0 (by omega)
    simp (disch := first | assumption | omega) only [WS_0, WS_1, WS_2, WS_3, WS_4, WS_5, WS_6, WS_7, WS_8, WS_9, WS_10, WS_11, WS_12, WS_13, WS_14, WS_15, WS_16, WS_17, WS_18, WS_19, WS_20, PS_0, PS_1, PS_2, PS_3, PS_4, PS_5, PS_6, ji_add, ji_sub, ji_mul, ji_neg, ji_lit0, ji_ofNat, ji_lt, ji_le, ji_eq, ji_nat, ji_in, qV_at, qI_at, qJ_at, qD_at, qA_at, qA_no, nb0, nb1, cat_r, cat_i, Option.some.injEq, exists_eq_left', true_and, and_true, if_true, if_false, ite_not, not_true_eq_false, not_false_eq_true, Sum.inr.injEq, exists_eq_right', true_or, or_true, and_self, Int.cast_ofNat_Int, reduceCtorEq, or_false, false_or, false_and, and_false, jb_zero, lt7_0, lt7_1, lt7_2, lt7_3, lt7_4, lt7_5, lt7_6, c_X7_visitedByAny_1, c_X7_visitedByAny_2, c3, e_packetOf hS hC hB, ↓reduceIte, ilt_t, ilt_f, ile_t, ile_f, ieq_t, ieq_f, jb_T, jb_F, jb_t, jb_f]
  · show True
    trivial
/-- why a direction can't be chosen; 0 if it can -/
def obs (w h N s : Int) (Z : Int → Int) (o y : Int) : Int :=
  if lka w h N (Z (o + 4)) y = -1 then 1 else if fnd Z o (lka w h N (Z (o + 4)) y) ≠ -1 then 2 else if hol s Z (Z (o + 4)) (lka w h N (Z (o + 4)) y) = true then 3 else if vis Z o (nxt w h N (Z (o + 4)) y) = true then 4 else 0
theorem obs_b (o y : Int) : 0 ≤ obs w h N s Z o y ∧ obs w h N s Z o y ≤ 4 := by
  unfold obs
  (repeat' split) <;> omega
theorem lka_no {z y : Int} (g : 0 ≤ w ∧ w ≤ 6 ∧ 0 ≤ h ∧ h ≤ 6 ∧ 0 ≤ N ∧ N ≤ 36 ∧ N = w * h) : (lka w h N z y = -1) ↔ (nxt w h N z y = -1) := by
  unfold lka
  by_cases hz : nxt w h N z y = -1
  · rw [if_pos hz]; simp [hz]
  · rw [if_neg hz]
    obtain ⟨a0, a1, a2, a3, a4⟩ := (nxt_b (z := z) (y := y) g).2.2 hz
    rw [nxt_in a0 a1 a2 a3] at hz ⊢
    have := (nx_b g a0 a1 a2 a3).2.2.2 hz
    omega
set_option maxHeartbeats 8000000 in
theorem e_obstacle (hS : WS μ W) (hC : CW μ W w h N s Z) (hB : BD w h N s Z) {P : Nat} {o y : Int} (hps : PS μ P) (hp : PW μ P Z o) (hbp : BP N Z o) (y1 : -2147483648 ≤ y) (y2 : y < 2147483648) : s_X7_obstacle μ [.ref W, .ref P, .int (ji y)] Q X = Q (some (.int (ji (obs w h N s Z o y)))) μ := by
  have hC' := hC
  obtain ⟨hG, c1, c2, c3, c4, c5, c6⟩ := hC'
  have b2 := hB.2.1
  have hp4 := hp.1.2.2.2.2.1
  have q4 : 0 ≤ Z (o + 4) ∧ Z (o + 4) < 36 := by
    have := hbp.1
    have := hB.1
    omega
  have g := hG.1
  have hnb := nxt_b (z := Z (o + 4)) (y := y) g
  have hlb := lka_b (z := Z (o + 4)) (y := y) g
  unfold obs
  have hlz := lka_no (z := Z (o + 4)) (y := y) g
  by_cases hz : nxt w h N (Z (o + 4)) y = -1
  · rw [if_pos (hlz.mpr hz)]
    simp (disch := first | assumption | omega) only [WS_0, WS_1, WS_2, WS_3, WS_4, WS_5, WS_6, WS_7, WS_8, WS_9, WS_10, WS_11, WS_12, WS_13, WS_14, WS_15, WS_16, WS_17, WS_18, WS_19, WS_20, PS_0, PS_1, PS_2, PS_3, PS_4, PS_5, PS_6, ji_add, ji_sub, ji_mul, ji_neg, ji_lit0, ji_ofNat, ji_lt, ji_le, ji_eq, ji_nat, ji_in, qV_at, qI_at, qJ_at, qD_at, qA_at, qA_no, nb0, nb1, cat_r, cat_i, Option.some.injEq, exists_eq_left', true_and, and_true, if_true, if_false, ite_not, not_true_eq_false, not_false_eq_true, Sum.inr.injEq, exists_eq_right', true_or, or_true, and_self, Int.cast_ofNat_Int, reduceCtorEq, or_false, false_or, false_and, and_false, jb_zero, lt7_0, lt7_1, lt7_2, lt7_3, lt7_4, lt7_5, lt7_6, c_X7_obstacle_1, c_X7_obstacle_2, c_X7_obstacle_3, c_X7_obstacle_4, c_X7_obstacle_5, c_X7_obstacle_6, u_X7_obstacle, hp4, e_beyond hS hG, hz, ↓reduceIte, ilt_t, ilt_f, ile_t, ile_f, ieq_t, ieq_f, jb_T, jb_F, jb_t, jb_f]
  · rw [if_neg (fun q => hz (hlz.mp q))]
    have e : lkb w (Z (o + 4)) (nxt w h N (Z (o + 4)) y) = lka w h N (Z (o + 4)) y := by rw [lka, if_neg hz]
    have hf := fnd_b hbp (lka w h N (Z (o + 4)) y)
    have hl := les_b hB (Z (o + 4)) (lka w h N (Z (o + 4)) y)
    by_cases h1 : fnd Z o (lka w h N (Z (o + 4)) y) = -1
    · unfold hol
      by_cases h2 : les Z (Z (o + 4)) (lka w h N (Z (o + 4)) y) = -1
      · by_cases h4 : vis Z o (nxt w h N (Z (o + 4)) y) = true <;> simp (disch := first | assumption | omega) only [WS_0, WS_1, WS_2, WS_3, WS_4, WS_5, WS_6, WS_7, WS_8, WS_9, WS_10, WS_11, WS_12, WS_13, WS_14, WS_15, WS_16, WS_17, WS_18, WS_19, WS_20, PS_0, PS_1, PS_2, PS_3, PS_4, PS_5, PS_6, ji_add, ji_sub, ji_mul, ji_neg, ji_lit0, ji_ofNat, ji_lt, ji_le, ji_eq, ji_nat, ji_in, qV_at, qI_at, qJ_at, qD_at, qA_at, qA_no, nb0, nb1, cat_r, cat_i, Option.some.injEq, exists_eq_left', true_and, and_true, if_true, if_false, ite_not, not_true_eq_false, not_false_eq_true, Sum.inr.injEq, exists_eq_right', true_or, or_true, and_self, Int.cast_ofNat_Int, reduceCtorEq, or_false, false_or, false_and, and_false, jb_zero, lt7_0, lt7_1, lt7_2, lt7_3, lt7_4, lt7_5, lt7_6, c_X7_obstacle_1, c_X7_obstacle_2, c_X7_obstacle_3, c_X7_obstacle_4, c_X7_obstacle_5, c_X7_obstacle_6, u_X7_obstacle, hp4, e_beyond hS hG, e_linkBetween hS hG, e_foundTime hps hp, e_lessonTime hS hC, e_hasVisited hps hp, e, h1, h2, h4, decide_eq_true_eq, ne_eq, ↓reduceIte, ilt_t, ilt_f, ile_t, ile_f, ieq_t, ieq_f, jb_T, jb_F, jb_t, jb_f]
      · by_cases h3 : Z 0 < les Z (Z (o + 4)) (lka w h N (Z (o + 4)) y) + s
        · simp (disch := first | assumption | omega) only [WS_0, WS_1, WS_2, WS_3, WS_4, WS_5, WS_6, WS_7, WS_8, WS_9, WS_10, WS_11, WS_12, WS_13, WS_14, WS_15, WS_16, WS_17, WS_18, WS_19, WS_20, PS_0, PS_1, PS_2, PS_3, PS_4, PS_5, PS_6, ji_add, ji_sub, ji_mul, ji_neg, ji_lit0, ji_ofNat, ji_lt, ji_le, ji_eq, ji_nat, ji_in, qV_at, qI_at, qJ_at, qD_at, qA_at, qA_no, nb0, nb1, cat_r, cat_i, Option.some.injEq, exists_eq_left', true_and, and_true, if_true, if_false, ite_not, not_true_eq_false, not_false_eq_true, Sum.inr.injEq, exists_eq_right', true_or, or_true, and_self, Int.cast_ofNat_Int, reduceCtorEq, or_false, false_or, false_and, and_false, jb_zero, lt7_0, lt7_1, lt7_2, lt7_3, lt7_4, lt7_5, lt7_6, c_X7_obstacle_1, c_X7_obstacle_2, c_X7_obstacle_3, c_X7_obstacle_4, c_X7_obstacle_5, c_X7_obstacle_6, u_X7_obstacle, hp4, c1, c2, e_beyond hS hG, e_linkBetween hS hG, e_foundTime hps hp, e_lessonTime hS hC, e_hasVisited hps hp, e, h1, decide_eq_true_eq, ne_eq, ↓reduceIte, ilt_t, ilt_f, ile_t, ile_f, ieq_t, ieq_f, jb_T, jb_F, jb_t, jb_f]
        · by_cases h4 : vis Z o (nxt w h N (Z (o + 4)) y) = true <;> simp (disch := first | assumption | omega) only [WS_0, WS_1, WS_2, WS_3, WS_4, WS_5, WS_6, WS_7, WS_8, WS_9, WS_10, WS_11, WS_12, WS_13, WS_14, WS_15, WS_16, WS_17, WS_18, WS_19, WS_20, PS_0, PS_1, PS_2, PS_3, PS_4, PS_5, PS_6, ji_add, ji_sub, ji_mul, ji_neg, ji_lit0, ji_ofNat, ji_lt, ji_le, ji_eq, ji_nat, ji_in, qV_at, qI_at, qJ_at, qD_at, qA_at, qA_no, nb0, nb1, cat_r, cat_i, Option.some.injEq, exists_eq_left', true_and, and_true, if_true, if_false, ite_not, not_true_eq_false, not_false_eq_true, Sum.inr.injEq, exists_eq_right', true_or, or_true, and_self, Int.cast_ofNat_Int, reduceCtorEq, or_false, false_or, false_and, and_false, jb_zero, lt7_0, lt7_1, lt7_2, lt7_3, lt7_4, lt7_5, lt7_6, c_X7_obstacle_1, c_X7_obstacle_2, c_X7_obstacle_3, c_X7_obstacle_4, c_X7_obstacle_5, c_X7_obstacle_6, u_X7_obstacle, hp4, c1, c2, e_beyond hS hG, e_linkBetween hS hG, e_foundTime hps hp, e_lessonTime hS hC, e_hasVisited hps hp, e, h1, h4, decide_eq_true_eq, ne_eq, ↓reduceIte, ilt_t, ilt_f, ile_t, ile_f, ieq_t, ieq_f, jb_T, jb_F, jb_t, jb_f]
    · simp (disch := first | assumption | omega) only [WS_0, WS_1, WS_2, WS_3, WS_4, WS_5, WS_6, WS_7, WS_8, WS_9, WS_10, WS_11, WS_12, WS_13, WS_14, WS_15, WS_16, WS_17, WS_18, WS_19, WS_20, PS_0, PS_1, PS_2, PS_3, PS_4, PS_5, PS_6, ji_add, ji_sub, ji_mul, ji_neg, ji_lit0, ji_ofNat, ji_lt, ji_le, ji_eq, ji_nat, ji_in, qV_at, qI_at, qJ_at, qD_at, qA_at, qA_no, nb0, nb1, cat_r, cat_i, Option.some.injEq, exists_eq_left', true_and, and_true, if_true, if_false, ite_not, not_true_eq_false, not_false_eq_true, Sum.inr.injEq, exists_eq_right', true_or, or_true, and_self, Int.cast_ofNat_Int, reduceCtorEq, or_false, false_or, false_and, and_false, jb_zero, lt7_0, lt7_1, lt7_2, lt7_3, lt7_4, lt7_5, lt7_6, c_X7_obstacle_1, c_X7_obstacle_2, c_X7_obstacle_3, c_X7_obstacle_4, c_X7_obstacle_5, c_X7_obstacle_6, u_X7_obstacle, hp4, e_beyond hS hG, e_linkBetween hS hG, e_foundTime hps hp, e, ne_eq, ↓reduceIte, ilt_t, ilt_f, ile_t, ile_f, ieq_t, ieq_f, jb_T, jb_F, jb_t, jb_f]
/-- a step of the choice of a direction -/
def bsg (w h N s : Int) (Z : Int → Int) (o y : Int) (x : Int × Int) : Int × Int :=
  if obs w h N s Z o y = 0 ∧ (x.1 = -1 ∨ dst w (nxt w h N (Z (o + 4)) y) (Z (o + 1)) < x.2) then (y, dst w (nxt w h N (Z (o + 4)) y) (Z (o + 1))) else x
/-- the direction that is chosen; none -/
def bst (w h N s : Int) (Z : Int → Int) (o : Int) : Int := (foldz (bsg w h N s Z o) 0 4 (-1, 0)).1
theorem obs_0 {o y : Int} (g : 0 ≤ w ∧ w ≤ 6 ∧ 0 ≤ h ∧ h ≤ 6 ∧ 0 ≤ N ∧ N ≤ 36 ∧ N = w * h) (e : obs w h N s Z o y = 0) : nxt w h N (Z (o + 4)) y ≠ -1 := by
  intro hz
  unfold obs at e
  rw [if_pos ((lka_no g).mpr hz)] at e
  omega
theorem e_bestWay (hS : WS μ W) (hC : CW μ W w h N s Z) (hB : BD w h N s Z) {P : Nat} {o : Int} (hps : PS μ P) (hp : PW μ P Z o) (hbp : BP N Z o) : s_X7_bestWay μ [.ref W, .ref P] Q X = Q (some (.int (ji (bst w h N s Z o)))) μ := by
  have hp1 := hp.1.2.1
  have hp4 := hp.1.2.2.2.2.1
  have hbp1 := hbp.1
  have hG := hC.1
  have g := hG.1
  unfold bst
  rw [u_X7_bestWay, l_X7_bestWay_7, xseal_eq]
  refine fold_loop (fun mf x l => ln_X7_bestWay_7 Q X mf [some (.ref W), some (.ref P), some (.int (ji x.1)), some (.int (ji x.2)), some (.int (ji l)), none] [] μ 0 0) (fun x => Q (some (.int (ji x.1))) μ) (fun l x => bsg w h N s Z o l x) (fun l x => -1 ≤ x.1 ∧ x.1 < 4 ∧ 0 ≤ x.2 ∧ x.2 ≤ 10) (4) (fun mf x hx => ?_) (fun mf x l l0 l1 hx => ⟨?_, ?_⟩) _ 10000 (0) ((-1, 0)) (by omega) (by omega) (by omega) (by decide)
  · show ln_X7_bestWay_7 Q X (mf + 1) [some (.ref W), some (.ref P), some (.int (ji x.1)), some (.int (ji x.2)), some (.int (ji (4))), none] [] μ 0 0 = Q (some (.int (ji x.1))) μ
    rw [ul_X7_bestWay_7]
    simp (disch := first | assumption | omega) only [WS_0, WS_1, WS_2, WS_3, WS_4, WS_5, WS_6, WS_7, WS_8, WS_9, WS_10, WS_11, WS_12, WS_13, WS_14, WS_15, WS_16, WS_17, WS_18, WS_19, WS_20, PS_0, PS_1, PS_2, PS_3, PS_4, PS_5, PS_6, ji_add, ji_sub, ji_mul, ji_neg, ji_lit0, ji_ofNat, ji_lt, ji_le, ji_eq, ji_nat, ji_in, qV_at, qI_at, qJ_at, qD_at, qA_at, qA_no, nb0, nb1, cat_r, cat_i, Option.some.injEq, exists_eq_left', true_and, and_true, if_true, if_false, ite_not, not_true_eq_false, not_false_eq_true, Sum.inr.injEq, exists_eq_right', true_or, or_true, and_self, Int.cast_ofNat_Int, reduceCtorEq, or_false, false_or, false_and, and_false, jb_zero, lt7_0, lt7_1, lt7_2, lt7_3, lt7_4, lt7_5, lt7_6, c_X7_bestWay_1, c_X7_bestWay_2, c_X7_bestWay_3, ↓reduceIte, ilt_t, ilt_f, ile_t, ile_f, ieq_t, ieq_f, jb_T, jb_F, jb_t, jb_f]
  · show ln_X7_bestWay_7 Q X (mf + 1) [some (.ref W), some (.ref P), some (.int (ji x.1)), some (.int (ji x.2)), some (.int (ji l)), none] [] μ 0 0 = ln_X7_bestWay_7 Q X mf [some (.ref W), some (.ref P), some (.int (ji (bsg w h N s Z o l x).1)), some (.int (ji (bsg w h N s Z o l x).2)), some (.int (ji (l + 1))), none] [] μ 0 0
    rw [ul_X7_bestWay_7]
    unfold bsg
    have hob := obs_b (w := w) (h := h) (N := N) (s := s) (Z := Z) o l
    by_cases h0 : obs w h N s Z o l = 0
    · have hz := obs_0 g h0
      obtain ⟨a0, a1, a2, a3, a4⟩ := (nxt_b (z := Z (o + 4)) (y := l) g).2.2 hz
      have hb := nxt_b (z := Z (o + 4)) (y := l) g
      have hd := dst_b (a := nxt w h N (Z (o + 4)) l) (b := Z (o + 1)) hG (by omega) (by omega) (by omega) (by omega)
      by_cases h1 : x.1 = -1
      · simp (disch := first | assumption | omega) only [WS_0, WS_1, WS_2, WS_3, WS_4, WS_5, WS_6, WS_7, WS_8, WS_9, WS_10, WS_11, WS_12, WS_13, WS_14, WS_15, WS_16, WS_17, WS_18, WS_19, WS_20, PS_0, PS_1, PS_2, PS_3, PS_4, PS_5, PS_6, ji_add, ji_sub, ji_mul, ji_neg, ji_lit0, ji_ofNat, ji_lt, ji_le, ji_eq, ji_nat, ji_in, qV_at, qI_at, qJ_at, qD_at, qA_at, qA_no, nb0, nb1, cat_r, cat_i, Option.some.injEq, exists_eq_left', true_and, and_true, if_true, if_false, ite_not, not_true_eq_false, not_false_eq_true, Sum.inr.injEq, exists_eq_right', true_or, or_true, and_self, Int.cast_ofNat_Int, reduceCtorEq, or_false, false_or, false_and, and_false, jb_zero, lt7_0, lt7_1, lt7_2, lt7_3, lt7_4, lt7_5, lt7_6, c_X7_bestWay_1, c_X7_bestWay_2, c_X7_bestWay_3, e_obstacle hS hC hB hps hp hbp, e_beyond hS hG, e_apart hS hG, hp1, hp4, h0, h1, ↓reduceIte, ilt_t, ilt_f, ile_t, ile_f, ieq_t, ieq_f, jb_T, jb_F, jb_t, jb_f]
      · by_cases h2 : dst w (nxt w h N (Z (o + 4)) l) (Z (o + 1)) < x.2 <;> simp (disch := first | assumption | omega) only [WS_0, WS_1, WS_2, WS_3, WS_4, WS_5, WS_6, WS_7, WS_8, WS_9, WS_10, WS_11, WS_12, WS_13, WS_14, WS_15, WS_16, WS_17, WS_18, WS_19, WS_20, PS_0, PS_1, PS_2, PS_3, PS_4, PS_5, PS_6, ji_add, ji_sub, ji_mul, ji_neg, ji_lit0, ji_ofNat, ji_lt, ji_le, ji_eq, ji_nat, ji_in, qV_at, qI_at, qJ_at, qD_at, qA_at, qA_no, nb0, nb1, cat_r, cat_i, Option.some.injEq, exists_eq_left', true_and, and_true, if_true, if_false, ite_not, not_true_eq_false, not_false_eq_true, Sum.inr.injEq, exists_eq_right', true_or, or_true, and_self, Int.cast_ofNat_Int, reduceCtorEq, or_false, false_or, false_and, and_false, jb_zero, lt7_0, lt7_1, lt7_2, lt7_3, lt7_4, lt7_5, lt7_6, c_X7_bestWay_1, c_X7_bestWay_2, c_X7_bestWay_3, e_obstacle hS hC hB hps hp hbp, e_beyond hS hG, e_apart hS hG, hp1, hp4, h0, h1, h2, ↓reduceIte, ilt_t, ilt_f, ile_t, ile_f, ieq_t, ieq_f, jb_T, jb_F, jb_t, jb_f]
    · simp (disch := first | assumption | omega) only [WS_0, WS_1, WS_2, WS_3, WS_4, WS_5, WS_6, WS_7, WS_8, WS_9, WS_10, WS_11, WS_12, WS_13, WS_14, WS_15, WS_16, WS_17, WS_18, WS_19, WS_20, PS_0, PS_1, PS_2, PS_3, PS_4, PS_5, PS_6, ji_add, ji_sub, ji_mul, ji_neg, ji_lit0, ji_ofNat, ji_lt, ji_le, ji_eq, ji_nat, ji_in, qV_at, qI_at, qJ_at, qD_at, qA_at, qA_no, nb0, nb1, cat_r, cat_i, Option.some.injEq, exists_eq_left', true_and, and_true, if_true, if_false, ite_not, not_true_eq_false, not_false_eq_true, Sum.inr.injEq, exists_eq_right', true_or, or_true, and_self, Int.cast_ofNat_Int, reduceCtorEq, or_false, false_or, false_and, and_false, jb_zero, lt7_0, lt7_1, lt7_2, lt7_3, lt7_4, lt7_5, lt7_6, c_X7_bestWay_1, c_X7_bestWay_2, c_X7_bestWay_3, e_obstacle hS hC hB hps hp hbp, h0, ↓reduceIte, ilt_t, ilt_f, ile_t, ile_f, ieq_t, ieq_f, jb_T, jb_F, jb_t, jb_f]
  · show -1 ≤ (bsg w h N s Z o l x).1 ∧ (bsg w h N s Z o l x).1 < 4 ∧ 0 ≤ (bsg w h N s Z o l x).2 ∧ (bsg w h N s Z o l x).2 ≤ 10
    unfold bsg
    by_cases h0 : obs w h N s Z o l = 0
    · have hz := obs_0 g h0
      obtain ⟨a0, a1, a2, a3, a4⟩ := (nxt_b (z := Z (o + 4)) (y := l) g).2.2 hz
      have hb := nxt_b (z := Z (o + 4)) (y := l) g
      have hd := dst_b (a := nxt w h N (Z (o + 4)) l) (b := Z (o + 1)) hG (by omega) (by omega) (by omega) (by omega)
      split
      · show -1 ≤ l ∧ l < 4 ∧ 0 ≤ dst w (nxt w h N (Z (o + 4)) l) (Z (o + 1)) ∧ dst w (nxt w h N (Z (o + 4)) l) (Z (o + 1)) ≤ 10
        omega
      · omega
    · rw [if_neg (fun q => h0 q.1)]
      omega
theorem bst_b (hB : BD w h N s Z) (o : Int) : -1 ≤ bst w h N s Z o ∧ bst w h N s Z o < 4 ∧ (bst w h N s Z o ≠ -1 → obs w h N s Z o (bst w h N s Z o) = 0) := by
  have H : ∀ (d : Nat) (l : Int) (x : Int × Int), 0 ≤ l → l + d ≤ 4 → (-1 ≤ x.1 ∧ x.1 < 4 ∧ (x.1 ≠ -1 → obs w h N s Z o x.1 = 0)) → -1 ≤ (foldz (bsg w h N s Z o) l d x).1 ∧ (foldz (bsg w h N s Z o) l d x).1 < 4 ∧ ((foldz (bsg w h N s Z o) l d x).1 ≠ -1 → obs w h N s Z o (foldz (bsg w h N s Z o) l d x).1 = 0) := by
    intro d
    induction d with
    | zero => intro l x _ _ h; exact h
    | succ d ih =>
      intro l x l0 l1 h
      unfold foldz
      apply ih (l + 1) _ (by omega) (by omega)
      unfold bsg
      split
      · rename_i q
        exact ⟨by simp only; omega, by simp only; omega, fun _ => q.1⟩
      · exact h
  exact H 4 0 (-1, 0) (by omega) (by omega) ⟨by decide, by decide, fun q => absurd rfl q⟩
end
