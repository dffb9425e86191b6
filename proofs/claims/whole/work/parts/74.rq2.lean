/-! ===== the reference's loops ===== -/
theorem or0 (x : Int32) : x ||| ji 0 = x := by
  apply Int32.toBitVec_inj.mp
  rw [Int32.toBitVec_or]
  have : (ji 0).toBitVec = 0#32 := rfl
  rw [this, BitVec.or_zero]
section
variable {μ : XM} {m : Nat} {w h N s : Int} {Z : Int → Int} {Q : XQ} {X : XX}
theorem g_lessonsOf (hS : RS μ m) (hR : RW μ m w h s Z) (hB : BD w h N s Z) {n : Int} (n0 : 0 ≤ n) (n1 : n < 36) : s_X9_lessonsOf μ [.ref m, .int (ji n)] Q X = Q (some (.int (ji (cntz (lsn s Z 0 n) 0 72 0)))) μ := by
  rw [u_X9_lessonsOf, l_X9_lessonsOf_4, xseal_eq]
  refine fold_loop (fun mf x l => ln_X9_lessonsOf_4 Q X mf [some (.ref m), some (.int (ji n)), some (.int (ji x)), some (.int (ji l))] [] μ 0 0) (fun x => Q (some (.int (ji x))) μ) (fun l x => if lsn s Z 0 n l = true then x + 1 else x) (fun l x => 0 ≤ x ∧ x ≤ l) (72) (fun mf x hx => ?_) (fun mf x l l0 l1 hx => ⟨?_, ?_⟩) _ 10000 (0) (0) (by omega) (by omega) (by omega) (by omega)
  · show ln_X9_lessonsOf_4 Q X (mf + 1) [some (.ref m), some (.int (ji n)), some (.int (ji x)), some (.int (ji (72)))] [] μ 0 0 = Q (some (.int (ji x))) μ
    rw [ul_X9_lessonsOf_4]
    simp (disch := first | assumption | omega) only [RS_0, RS_1, RS_2, RS_3, RS_4, RS_5, RS_6, RS_7, RS_8, RS_9, RS_10, RS_11, RS_12, RS_13, RS_14, RS_15, RS_16, RS_17, RS_18, RS_19, RS_20, RS_21, RS_22, RS_23, RS_24, RS_25, RS_26, RS_27, RS_28, RS_29, RS_30, RS_31, RS_32, RS_33, RS_34, RS_35, RS_36, ji_add, ji_sub, ji_mul, ji_neg, ji_lit0, ji_ofNat, ji_lt, ji_le, ji_eq, ji_nat, ji_in, ji_rem, ji_div, jl_of, xl_lt, xl_gt, xl_eq, qV_at, qI_at, qJ_at, qD_at, qA_at, qA_no, nb0, nb1, cat_r, cat_i, Option.some.injEq, exists_eq_left', true_and, and_true, if_true, if_false, ite_not, not_true_eq_false, not_false_eq_true, Sum.inr.injEq, exists_eq_right', true_or, or_true, and_self, Int.cast_ofNat_Int, reduceCtorEq, or_false, false_or, false_and, and_false, jb_zero, lt7_0, lt7_1, lt7_2, lt7_3, lt7_4, lt7_5, lt7_6, c_X9_lessonsOf_1, ↓reduceIte, ilt_t, ilt_f, ile_t, ile_f, ieq_t, ieq_f, jb_T, jb_F, jb_t, jb_f]
  · show ln_X9_lessonsOf_4 Q X (mf + 1) [some (.ref m), some (.int (ji n)), some (.int (ji x)), some (.int (ji l))] [] μ 0 0 = ln_X9_lessonsOf_4 Q X mf [some (.ref m), some (.int (ji n)), some (.int (ji (if lsn s Z 0 n l = true then x + 1 else x))), some (.int (ji (l + 1)))] [] μ 0 0
    rw [ul_X9_lessonsOf_4]
    unfold lsn
    by_cases hw : hol s Z n l = true <;> simp (disch := first | assumption | omega) only [RS_0, RS_1, RS_2, RS_3, RS_4, RS_5, RS_6, RS_7, RS_8, RS_9, RS_10, RS_11, RS_12, RS_13, RS_14, RS_15, RS_16, RS_17, RS_18, RS_19, RS_20, RS_21, RS_22, RS_23, RS_24, RS_25, RS_26, RS_27, RS_28, RS_29, RS_30, RS_31, RS_32, RS_33, RS_34, RS_35, RS_36, ji_add, ji_sub, ji_mul, ji_neg, ji_lit0, ji_ofNat, ji_lt, ji_le, ji_eq, ji_nat, ji_in, ji_rem, ji_div, jl_of, xl_lt, xl_gt, xl_eq, qV_at, qI_at, qJ_at, qD_at, qA_at, qA_no, nb0, nb1, cat_r, cat_i, Option.some.injEq, exists_eq_left', true_and, and_true, if_true, if_false, ite_not, not_true_eq_false, not_false_eq_true, Sum.inr.injEq, exists_eq_right', true_or, or_true, and_self, Int.cast_ofNat_Int, reduceCtorEq, or_false, false_or, false_and, and_false, jb_zero, lt7_0, lt7_1, lt7_2, lt7_3, lt7_4, lt7_5, lt7_6, c_X9_lessonsOf_1, f_holds hS hR hB, hw, ↓reduceIte, ilt_t, ilt_f, ile_t, ile_f, ieq_t, ieq_f, jb_T, jb_F, jb_t, jb_f, Int.add_zero] <;> simp
  · show 0 ≤ (if lsn s Z 0 n l = true then x + 1 else x) ∧ (if lsn s Z 0 n l = true then x + 1 else x) ≤ (l + 1)
    split <;> omega
theorem g_deadLinks (hS : RS μ m) (hR : RW μ m w h s Z) (hB : BD w h N s Z) : s_X9_deadLinks μ [.ref m] Q X = Q (some (.int (ji (dcn Z)))) μ := by
  unfold dcn
  rw [u_X9_deadLinks, l_X9_deadLinks_4, xseal_eq]
  refine fold_loop (fun mf x l => ln_X9_deadLinks_4 Q X mf [some (.ref m), some (.int (ji x)), some (.int (ji l))] [] μ 0 0) (fun x => Q (some (.int (ji x))) μ) (fun l x => if decide (Z (2 + l) ≠ 0) = true then x + 1 else x) (fun l x => 0 ≤ x ∧ x ≤ l) (72) (fun mf x hx => ?_) (fun mf x l l0 l1 hx => ⟨?_, ?_⟩) _ 10000 (0) (0) (by omega) (by omega) (by omega) (by omega)
  · show ln_X9_deadLinks_4 Q X (mf + 1) [some (.ref m), some (.int (ji x)), some (.int (ji (72)))] [] μ 0 0 = Q (some (.int (ji x))) μ
    rw [ul_X9_deadLinks_4]
    simp (disch := first | assumption | omega) only [RS_0, RS_1, RS_2, RS_3, RS_4, RS_5, RS_6, RS_7, RS_8, RS_9, RS_10, RS_11, RS_12, RS_13, RS_14, RS_15, RS_16, RS_17, RS_18, RS_19, RS_20, RS_21, RS_22, RS_23, RS_24, RS_25, RS_26, RS_27, RS_28, RS_29, RS_30, RS_31, RS_32, RS_33, RS_34, RS_35, RS_36, ji_add, ji_sub, ji_mul, ji_neg, ji_lit0, ji_ofNat, ji_lt, ji_le, ji_eq, ji_nat, ji_in, ji_rem, ji_div, jl_of, xl_lt, xl_gt, xl_eq, qV_at, qI_at, qJ_at, qD_at, qA_at, qA_no, nb0, nb1, cat_r, cat_i, Option.some.injEq, exists_eq_left', true_and, and_true, if_true, if_false, ite_not, not_true_eq_false, not_false_eq_true, Sum.inr.injEq, exists_eq_right', true_or, or_true, and_self, Int.cast_ofNat_Int, reduceCtorEq, or_false, false_or, false_and, and_false, jb_zero, lt7_0, lt7_1, lt7_2, lt7_3, lt7_4, lt7_5, lt7_6, c_X9_deadLinks_1, ↓reduceIte, ilt_t, ilt_f, ile_t, ile_f, ieq_t, ieq_f, jb_T, jb_F, jb_t, jb_f]
  · show ln_X9_deadLinks_4 Q X (mf + 1) [some (.ref m), some (.int (ji x)), some (.int (ji l))] [] μ 0 0 = ln_X9_deadLinks_4 Q X mf [some (.ref m), some (.int (ji (if decide (Z (2 + l) ≠ 0) = true then x + 1 else x))), some (.int (ji (l + 1)))] [] μ 0 0
    rw [ul_X9_deadLinks_4]
    have hd := hB.2.2.1 l l0 l1
    by_cases hw : Z (2 + l) = 0 <;> simp (disch := first | assumption | omega) only [RS_0, RS_1, RS_2, RS_3, RS_4, RS_5, RS_6, RS_7, RS_8, RS_9, RS_10, RS_11, RS_12, RS_13, RS_14, RS_15, RS_16, RS_17, RS_18, RS_19, RS_20, RS_21, RS_22, RS_23, RS_24, RS_25, RS_26, RS_27, RS_28, RS_29, RS_30, RS_31, RS_32, RS_33, RS_34, RS_35, RS_36, ji_add, ji_sub, ji_mul, ji_neg, ji_lit0, ji_ofNat, ji_lt, ji_le, ji_eq, ji_nat, ji_in, ji_rem, ji_div, jl_of, xl_lt, xl_gt, xl_eq, qV_at, qI_at, qJ_at, qD_at, qA_at, qA_no, nb0, nb1, cat_r, cat_i, Option.some.injEq, exists_eq_left', true_and, and_true, if_true, if_false, ite_not, not_true_eq_false, not_false_eq_true, Sum.inr.injEq, exists_eq_right', true_or, or_true, and_self, Int.cast_ofNat_Int, reduceCtorEq, or_false, false_or, false_and, and_false, jb_zero, lt7_0, lt7_1, lt7_2, lt7_3, lt7_4, lt7_5, lt7_6, c_X9_deadLinks_1, f_isDeadNow hS hR _ _ hd, hw, ne_eq, ↓reduceIte, ilt_t, ilt_f, ile_t, ile_f, ieq_t, ieq_f, jb_T, jb_F, jb_t, jb_f, Int.add_zero] <;> simp
  · show 0 ≤ (if decide (Z (2 + l) ≠ 0) = true then x + 1 else x) ∧ (if decide (Z (2 + l) ≠ 0) = true then x + 1 else x) ≤ (l + 1)
    split <;> omega
theorem g_lessonsNow (hS : RS μ m) (hR : RW μ m w h s Z) (hz : SZ w h N s) (hB : BD w h N s Z) {b : Int} (hb : b = 0 ∨ b = 1) : s_X9_lessonsNow μ [.ref m, .int (ji b)] Q X = Q (some (.int (ji (alc s N b Z)))) μ := by
  have hN := hz.g.2.2.2.2.2.2
  have hw := hB.1
  have hin : ∀ (mf : Nat) (n v : Int), 0 ≤ n → n < N → 0 ≤ v → v ≤ 3000 → l_X9_lessonsNow_15 Q X (ln_X9_lessonsNow_4 Q X mf) [some (.ref m), some (.int (ji b)), some (.int (ji v)), some (.int (ji n)), some (.int (ji 0))] [] μ 0 0 = ln_X9_lessonsNow_4 Q X mf [some (.ref m), some (.int (ji b)), some (.int (ji (v + cntz (lsn s Z b n) 0 72 0))), some (.int (ji (n + 1))), none] [] μ 0 0 := by
    intro mf n v n0 n1 v0 v1
    have e : v + cntz (lsn s Z b n) 0 72 0 = foldz (fun l x => if lsn s Z b n l = true then x + 1 else x) 0 72 v := by
      have : ∀ (d : Nat) (l c : Int), v + cntz (lsn s Z b n) l d c = foldz (fun l x => if lsn s Z b n l = true then x + 1 else x) l d (v + c) := by
        intro d
        induction d with
        | zero => intro l c; rfl
        | succ d ih =>
          intro l c
          have e1 : cntz (lsn s Z b n) l (d + 1) c = cntz (lsn s Z b n) (l + 1) d (if lsn s Z b n l = true then c + 1 else c) := rfl
          rw [e1, ih, foldz]
          congr 1
          split <;> omega
      rw [this, Int.add_zero]
    rw [e, l_X9_lessonsNow_15, xseal_eq]
    refine fold_loop (fun mg x l => ln_X9_lessonsNow_15 Q X (ln_X9_lessonsNow_4 Q X mf) mg [some (.ref m), some (.int (ji b)), some (.int (ji x)), some (.int (ji n)), some (.int (ji l))] [] μ 0 0) (fun x => ln_X9_lessonsNow_4 Q X mf [some (.ref m), some (.int (ji b)), some (.int (ji x)), some (.int (ji (n + 1))), none] [] μ 0 0) (fun l x => if lsn s Z b n l = true then x + 1 else x) (fun l x => 0 ≤ x ∧ x ≤ 3000 + l) 72 (fun mg x hx => ?_) (fun mg x l l0 l1 hx => ⟨?_, ?_⟩) 72 10000 0 v (by omega) (by omega) (by omega) (by omega)
    · show ln_X9_lessonsNow_15 Q X (ln_X9_lessonsNow_4 Q X mf) (mg + 1) [some (.ref m), some (.int (ji b)), some (.int (ji x)), some (.int (ji n)), some (.int (ji 72))] [] μ 0 0 = ln_X9_lessonsNow_4 Q X mf [some (.ref m), some (.int (ji b)), some (.int (ji x)), some (.int (ji (n + 1))), none] [] μ 0 0
      rw [ul_X9_lessonsNow_15]
      simp (disch := first | assumption | omega) only [RS_0, RS_1, RS_2, RS_3, RS_4, RS_5, RS_6, RS_7, RS_8, RS_9, RS_10, RS_11, RS_12, RS_13, RS_14, RS_15, RS_16, RS_17, RS_18, RS_19, RS_20, RS_21, RS_22, RS_23, RS_24, RS_25, RS_26, RS_27, RS_28, RS_29, RS_30, RS_31, RS_32, RS_33, RS_34, RS_35, RS_36, ji_add, ji_sub, ji_mul, ji_neg, ji_lit0, ji_ofNat, ji_lt, ji_le, ji_eq, ji_nat, ji_in, ji_rem, ji_div, jl_of, xl_lt, xl_gt, xl_eq, qV_at, qI_at, qJ_at, qD_at, qA_at, qA_no, nb0, nb1, cat_r, cat_i, Option.some.injEq, exists_eq_left', true_and, and_true, if_true, if_false, ite_not, not_true_eq_false, not_false_eq_true, Sum.inr.injEq, exists_eq_right', true_or, or_true, and_self, Int.cast_ofNat_Int, reduceCtorEq, or_false, false_or, false_and, and_false, jb_zero, lt7_0, lt7_1, lt7_2, lt7_3, lt7_4, lt7_5, lt7_6, ↓reduceIte, ilt_t, ilt_f, ile_t, ile_f, ieq_t, ieq_f, jb_T, jb_F, jb_t, jb_f]
    · show ln_X9_lessonsNow_15 Q X (ln_X9_lessonsNow_4 Q X mf) (mg + 1) [some (.ref m), some (.int (ji b)), some (.int (ji x)), some (.int (ji n)), some (.int (ji l))] [] μ 0 0 = ln_X9_lessonsNow_15 Q X (ln_X9_lessonsNow_4 Q X mf) mg [some (.ref m), some (.int (ji b)), some (.int (ji (if lsn s Z b n l = true then x + 1 else x))), some (.int (ji n)), some (.int (ji (l + 1)))] [] μ 0 0
      have hd := hB.2.2.1 l l0 l1
      unfold lsn
      rw [ul_X9_lessonsNow_15]
      by_cases hw : hol s Z n l = true <;> by_cases hd0 : Z (2 + l) = 0 <;> rcases hb with rfl | rfl <;> simp (disch := first | assumption | omega) only [RS_0, RS_1, RS_2, RS_3, RS_4, RS_5, RS_6, RS_7, RS_8, RS_9, RS_10, RS_11, RS_12, RS_13, RS_14, RS_15, RS_16, RS_17, RS_18, RS_19, RS_20, RS_21, RS_22, RS_23, RS_24, RS_25, RS_26, RS_27, RS_28, RS_29, RS_30, RS_31, RS_32, RS_33, RS_34, RS_35, RS_36, ji_add, ji_sub, ji_mul, ji_neg, ji_lit0, ji_ofNat, ji_lt, ji_le, ji_eq, ji_nat, ji_in, ji_rem, ji_div, jl_of, xl_lt, xl_gt, xl_eq, qV_at, qI_at, qJ_at, qD_at, qA_at, qA_no, nb0, nb1, cat_r, cat_i, Option.some.injEq, exists_eq_left', true_and, and_true, if_true, if_false, ite_not, not_true_eq_false, not_false_eq_true, Sum.inr.injEq, exists_eq_right', true_or, or_true, and_self, Int.cast_ofNat_Int, reduceCtorEq, or_false, false_or, false_and, and_false, jb_zero, lt7_0, lt7_1, lt7_2, lt7_3, lt7_4, lt7_5, lt7_6, c_X9_lessonsNow_1, c_X9_lessonsNow_2, c_X9_lessonsNow_3, f_holds hS hR hB, f_isDeadNow hS hR _ _ hd, hw, hd0, ne_eq, ↓reduceIte, ilt_t, ilt_f, ile_t, ile_f, ieq_t, ieq_f, jb_T, jb_F, jb_t, jb_f, Int.add_zero] <;> simp [hd0]
    · show 0 ≤ (if lsn s Z b n l = true then x + 1 else x) ∧ (if lsn s Z b n l = true then x + 1 else x) ≤ 3000 + (l + 1)
      split <;> omega
  unfold alc
  rw [u_X9_lessonsNow, l_X9_lessonsNow_4, xseal_eq]
  refine fold_loop (fun mf x l => ln_X9_lessonsNow_4 Q X mf [some (.ref m), some (.int (ji b)), some (.int (ji x)), some (.int (ji l)), none] [] μ 0 0) (fun x => Q (some (.int (ji x))) μ) (fun l x => x + cntz (lsn s Z b l) 0 72 0) (fun l x => 0 ≤ x ∧ x ≤ 72 * l) (N) (fun mf x hx => ?_) (fun mf x l l0 l1 hx => ⟨?_, ?_⟩) _ 10000 (0) (0) (by omega) (by omega) (by omega) (by omega)
  · show ln_X9_lessonsNow_4 Q X (mf + 1) [some (.ref m), some (.int (ji b)), some (.int (ji x)), some (.int (ji (N))), none] [] μ 0 0 = Q (some (.int (ji x))) μ
    rw [ul_X9_lessonsNow_4]
    simp (disch := first | assumption | omega) only [RS_0, RS_1, RS_2, RS_3, RS_4, RS_5, RS_6, RS_7, RS_8, RS_9, RS_10, RS_11, RS_12, RS_13, RS_14, RS_15, RS_16, RS_17, RS_18, RS_19, RS_20, RS_21, RS_22, RS_23, RS_24, RS_25, RS_26, RS_27, RS_28, RS_29, RS_30, RS_31, RS_32, RS_33, RS_34, RS_35, RS_36, ji_add, ji_sub, ji_mul, ji_neg, ji_lit0, ji_ofNat, ji_lt, ji_le, ji_eq, ji_nat, ji_in, ji_rem, ji_div, jl_of, xl_lt, xl_gt, xl_eq, qV_at, qI_at, qJ_at, qD_at, qA_at, qA_no, nb0, nb1, cat_r, cat_i, Option.some.injEq, exists_eq_left', true_and, and_true, if_true, if_false, ite_not, not_true_eq_false, not_false_eq_true, Sum.inr.injEq, exists_eq_right', true_or, or_true, and_self, Int.cast_ofNat_Int, reduceCtorEq, or_false, false_or, false_and, and_false, jb_zero, lt7_0, lt7_1, lt7_2, lt7_3, lt7_4, lt7_5, lt7_6, c_X9_lessonsNow_1, c_X9_lessonsNow_2, c_X9_lessonsNow_3, f_nodes hS hR hN, ↓reduceIte, ilt_t, ilt_f, ile_t, ile_f, ieq_t, ieq_f, jb_T, jb_F, jb_t, jb_f]
  · show ln_X9_lessonsNow_4 Q X (mf + 1) [some (.ref m), some (.int (ji b)), some (.int (ji x)), some (.int (ji l)), none] [] μ 0 0 = ln_X9_lessonsNow_4 Q X mf [some (.ref m), some (.int (ji b)), some (.int (ji (x + cntz (lsn s Z b l) 0 72 0))), some (.int (ji (l + 1))), none] [] μ 0 0
    rw [ul_X9_lessonsNow_4]
    have hi := hin mf l x l0 l1 hx.1 (by omega)
    simp (disch := first | assumption | omega) only [RS_0, RS_1, RS_2, RS_3, RS_4, RS_5, RS_6, RS_7, RS_8, RS_9, RS_10, RS_11, RS_12, RS_13, RS_14, RS_15, RS_16, RS_17, RS_18, RS_19, RS_20, RS_21, RS_22, RS_23, RS_24, RS_25, RS_26, RS_27, RS_28, RS_29, RS_30, RS_31, RS_32, RS_33, RS_34, RS_35, RS_36, ji_add, ji_sub, ji_mul, ji_neg, ji_lit0, ji_ofNat, ji_lt, ji_le, ji_eq, ji_nat, ji_in, ji_rem, ji_div, jl_of, xl_lt, xl_gt, xl_eq, qV_at, qI_at, qJ_at, qD_at, qA_at, qA_no, nb0, nb1, cat_r, cat_i, Option.some.injEq, exists_eq_left', true_and, and_true, if_true, if_false, ite_not, not_true_eq_false, not_false_eq_true, Sum.inr.injEq, exists_eq_right', true_or, or_true, and_self, Int.cast_ofNat_Int, reduceCtorEq, or_false, false_or, false_and, and_false, jb_zero, lt7_0, lt7_1, lt7_2, lt7_3, lt7_4, lt7_5, lt7_6, c_X9_lessonsNow_1, c_X9_lessonsNow_2, c_X9_lessonsNow_3, f_nodes hS hR hN, ↓reduceIte, ilt_t, ilt_f, ile_t, ile_f, ieq_t, ieq_f, jb_T, jb_F, jb_t, jb_f]
    exact hi
  · show 0 ≤ (x + cntz (lsn s Z b l) 0 72 0) ∧ (x + cntz (lsn s Z b l) 0 72 0) ≤ 72 * (l + 1)
    have := cntz_b (lsn s Z b l) 72 0 0
    omega
theorem g_knowers (hS : RS μ m) (hR : RW μ m w h s Z) (hz : SZ w h N s) (hB : BD w h N s Z) {l' : Int} (n0 : 0 ≤ l') (n1 : l' < 72) : l_X9_knowers_32 Q X [some (.ref m), some (.int (ji l')), some (.int (ji 0)), some (.int (ji 0))] [] μ 0 0 = Q (some (.int (ji (cntz (fun n => hol s Z n l') 0 N.toNat 0)))) μ := by
  have hN := hz.g.2.2.2.2.2.2
  have hw := hB.1
  rw [l_X9_knowers_32, xseal_eq]
  refine fold_loop (fun mf x l => ln_X9_knowers_32 Q X mf [some (.ref m), some (.int (ji l')), some (.int (ji x)), some (.int (ji l))] [] μ 0 0) (fun x => Q (some (.int (ji x))) μ) (fun l x => if hol s Z l l' = true then x + 1 else x) (fun l x => 0 ≤ x ∧ x ≤ l) (N) (fun mf x hx => ?_) (fun mf x l l0 l1 hx => ⟨?_, ?_⟩) _ 10000 (0) (0) (by omega) (by omega) (by omega) (by omega)
  · show ln_X9_knowers_32 Q X (mf + 1) [some (.ref m), some (.int (ji l')), some (.int (ji x)), some (.int (ji (N)))] [] μ 0 0 = Q (some (.int (ji x))) μ
    rw [ul_X9_knowers_32]
    simp (disch := first | assumption | omega) only [RS_0, RS_1, RS_2, RS_3, RS_4, RS_5, RS_6, RS_7, RS_8, RS_9, RS_10, RS_11, RS_12, RS_13, RS_14, RS_15, RS_16, RS_17, RS_18, RS_19, RS_20, RS_21, RS_22, RS_23, RS_24, RS_25, RS_26, RS_27, RS_28, RS_29, RS_30, RS_31, RS_32, RS_33, RS_34, RS_35, RS_36, ji_add, ji_sub, ji_mul, ji_neg, ji_lit0, ji_ofNat, ji_lt, ji_le, ji_eq, ji_nat, ji_in, ji_rem, ji_div, jl_of, xl_lt, xl_gt, xl_eq, qV_at, qI_at, qJ_at, qD_at, qA_at, qA_no, nb0, nb1, cat_r, cat_i, Option.some.injEq, exists_eq_left', true_and, and_true, if_true, if_false, ite_not, not_true_eq_false, not_false_eq_true, Sum.inr.injEq, exists_eq_right', true_or, or_true, and_self, Int.cast_ofNat_Int, reduceCtorEq, or_false, false_or, false_and, and_false, jb_zero, lt7_0, lt7_1, lt7_2, lt7_3, lt7_4, lt7_5, lt7_6, c_X9_knowers_1, c_X9_knowers_2, c_X9_knowers_3, c_X9_knowers_4, c_X9_knowers_5, f_nodes hS hR hN, ↓reduceIte, ilt_t, ilt_f, ile_t, ile_f, ieq_t, ieq_f, jb_T, jb_F, jb_t, jb_f]
  · show ln_X9_knowers_32 Q X (mf + 1) [some (.ref m), some (.int (ji l')), some (.int (ji x)), some (.int (ji l))] [] μ 0 0 = ln_X9_knowers_32 Q X mf [some (.ref m), some (.int (ji l')), some (.int (ji (if hol s Z l l' = true then x + 1 else x))), some (.int (ji (l + 1)))] [] μ 0 0
    rw [ul_X9_knowers_32]
    by_cases hw : hol s Z l l' = true <;> simp (disch := first | assumption | omega) only [RS_0, RS_1, RS_2, RS_3, RS_4, RS_5, RS_6, RS_7, RS_8, RS_9, RS_10, RS_11, RS_12, RS_13, RS_14, RS_15, RS_16, RS_17, RS_18, RS_19, RS_20, RS_21, RS_22, RS_23, RS_24, RS_25, RS_26, RS_27, RS_28, RS_29, RS_30, RS_31, RS_32, RS_33, RS_34, RS_35, RS_36, ji_add, ji_sub, ji_mul, ji_neg, ji_lit0, ji_ofNat, ji_lt, ji_le, ji_eq, ji_nat, ji_in, ji_rem, ji_div, jl_of, xl_lt, xl_gt, xl_eq, qV_at, qI_at, qJ_at, qD_at, qA_at, qA_no, nb0, nb1, cat_r, cat_i, Option.some.injEq, exists_eq_left', true_and, and_true, if_true, if_false, ite_not, not_true_eq_false, not_false_eq_true, Sum.inr.injEq, exists_eq_right', true_or, or_true, and_self, Int.cast_ofNat_Int, reduceCtorEq, or_false, false_or, false_and, and_false, jb_zero, lt7_0, lt7_1, lt7_2, lt7_3, lt7_4, lt7_5, lt7_6, c_X9_knowers_1, c_X9_knowers_2, c_X9_knowers_3, c_X9_knowers_4, c_X9_knowers_5, f_nodes hS hR hN, f_holds hS hR hB, hw, ↓reduceIte, ilt_t, ilt_f, ile_t, ile_f, ieq_t, ieq_f, jb_T, jb_F, jb_t, jb_f, Int.add_zero] <;> simp
  · show 0 ≤ (if hol s Z l l' = true then x + 1 else x) ∧ (if hol s Z l l' = true then x + 1 else x) ≤ (l + 1)
    split <;> omega
theorem g_wrongLessons (hS : RS μ m) (hR : RW μ m w h s Z) (hB : BD w h N s Z) {n : Int} (n0 : 0 ≤ n) (n1 : n < 36) : l_X9_wrongLessons_32 Q X [some (.ref m), some (.int (ji n)), some (.int (ji 0)), some (.int (ji 0))] [] μ 0 0 = Q (some (.int (ji (cntz (lsn s Z 1 n) 0 72 0)))) μ := by
  rw [l_X9_wrongLessons_32, xseal_eq]
  refine fold_loop (fun mf x l => ln_X9_wrongLessons_32 Q X mf [some (.ref m), some (.int (ji n)), some (.int (ji x)), some (.int (ji l))] [] μ 0 0) (fun x => Q (some (.int (ji x))) μ) (fun l x => if lsn s Z 1 n l = true then x + 1 else x) (fun l x => 0 ≤ x ∧ x ≤ l) (72) (fun mf x hx => ?_) (fun mf x l l0 l1 hx => ⟨?_, ?_⟩) _ 10000 (0) (0) (by omega) (by omega) (by omega) (by omega)
  · show ln_X9_wrongLessons_32 Q X (mf + 1) [some (.ref m), some (.int (ji n)), some (.int (ji x)), some (.int (ji (72)))] [] μ 0 0 = Q (some (.int (ji x))) μ
    rw [ul_X9_wrongLessons_32]
    simp (disch := first | assumption | omega) only [RS_0, RS_1, RS_2, RS_3, RS_4, RS_5, RS_6, RS_7, RS_8, RS_9, RS_10, RS_11, RS_12, RS_13, RS_14, RS_15, RS_16, RS_17, RS_18, RS_19, RS_20, RS_21, RS_22, RS_23, RS_24, RS_25, RS_26, RS_27, RS_28, RS_29, RS_30, RS_31, RS_32, RS_33, RS_34, RS_35, RS_36, ji_add, ji_sub, ji_mul, ji_neg, ji_lit0, ji_ofNat, ji_lt, ji_le, ji_eq, ji_nat, ji_in, ji_rem, ji_div, jl_of, xl_lt, xl_gt, xl_eq, qV_at, qI_at, qJ_at, qD_at, qA_at, qA_no, nb0, nb1, cat_r, cat_i, Option.some.injEq, exists_eq_left', true_and, and_true, if_true, if_false, ite_not, not_true_eq_false, not_false_eq_true, Sum.inr.injEq, exists_eq_right', true_or, or_true, and_self, Int.cast_ofNat_Int, reduceCtorEq, or_false, false_or, false_and, and_false, jb_zero, lt7_0, lt7_1, lt7_2, lt7_3, lt7_4, lt7_5, lt7_6, c_X9_wrongLessons_1, c_X9_wrongLessons_2, c_X9_wrongLessons_3, c_X9_wrongLessons_4, c_X9_wrongLessons_5, ↓reduceIte, ilt_t, ilt_f, ile_t, ile_f, ieq_t, ieq_f, jb_T, jb_F, jb_t, jb_f]
  · show ln_X9_wrongLessons_32 Q X (mf + 1) [some (.ref m), some (.int (ji n)), some (.int (ji x)), some (.int (ji l))] [] μ 0 0 = ln_X9_wrongLessons_32 Q X mf [some (.ref m), some (.int (ji n)), some (.int (ji (if lsn s Z 1 n l = true then x + 1 else x))), some (.int (ji (l + 1)))] [] μ 0 0
    rw [ul_X9_wrongLessons_32]
    have hd := hB.2.2.1 l l0 l1
    unfold lsn
    by_cases hw : hol s Z n l = true <;> by_cases hd0 : Z (2 + l) = 0 <;> simp (disch := first | assumption | omega) only [RS_0, RS_1, RS_2, RS_3, RS_4, RS_5, RS_6, RS_7, RS_8, RS_9, RS_10, RS_11, RS_12, RS_13, RS_14, RS_15, RS_16, RS_17, RS_18, RS_19, RS_20, RS_21, RS_22, RS_23, RS_24, RS_25, RS_26, RS_27, RS_28, RS_29, RS_30, RS_31, RS_32, RS_33, RS_34, RS_35, RS_36, ji_add, ji_sub, ji_mul, ji_neg, ji_lit0, ji_ofNat, ji_lt, ji_le, ji_eq, ji_nat, ji_in, ji_rem, ji_div, jl_of, xl_lt, xl_gt, xl_eq, qV_at, qI_at, qJ_at, qD_at, qA_at, qA_no, nb0, nb1, cat_r, cat_i, Option.some.injEq, exists_eq_left', true_and, and_true, if_true, if_false, ite_not, not_true_eq_false, not_false_eq_true, Sum.inr.injEq, exists_eq_right', true_or, or_true, and_self, Int.cast_ofNat_Int, reduceCtorEq, or_false, false_or, false_and, and_false, jb_zero, lt7_0, lt7_1, lt7_2, lt7_3, lt7_4, lt7_5, lt7_6, c_X9_wrongLessons_1, c_X9_wrongLessons_2, c_X9_wrongLessons_3, c_X9_wrongLessons_4, c_X9_wrongLessons_5, f_holds hS hR hB, f_isDeadNow hS hR _ _ hd, hw, hd0, ne_eq, ↓reduceIte, ilt_t, ilt_f, ile_t, ile_f, ieq_t, ieq_f, jb_T, jb_F, jb_t, jb_f, Int.add_zero] <;> simp [hd0]
  · show 0 ≤ (if lsn s Z 1 n l = true then x + 1 else x) ∧ (if lsn s Z 1 n l = true then x + 1 else x) ≤ (l + 1)
    split <;> omega
theorem g_wisest (hS : RS μ m) (hR : RW μ m w h s Z) (hz : SZ w h N s) (hB : BD w h N s Z) : l_X9_wisest_11 Q X [some (.ref m), some (.int (ji (-1))), some (.int (ji 0)), some (.int (ji 0))] [] μ 0 0 = Q (some (.int (ji (wis s N Z)))) μ := by
  have hN := hz.g.2.2.2.2.2.2
  have hw := hB.1
  unfold wis mxf
  rw [l_X9_wisest_11, xseal_eq]
  refine fold_loop (fun mf x l => ln_X9_wisest_11 Q X mf [some (.ref m), some (.int (ji x.1)), some (.int (ji x.2)), some (.int (ji l))] [] μ 0 0) (fun x => Q (some (.int (ji x.1))) μ) (fun l x => mxs (fun n => cntz (lsn s Z 0 n) 0 72 0) l x) (fun l x => -1 ≤ x.1 ∧ x.1 < 36 ∧ 0 ≤ x.2 ∧ x.2 ≤ 72) (N) (fun mf x hx => ?_) (fun mf x l l0 l1 hx => ⟨?_, ?_⟩) _ 10000 (0) ((-1, 0)) (by omega) (by omega) (by omega) (by decide)
  · show ln_X9_wisest_11 Q X (mf + 1) [some (.ref m), some (.int (ji x.1)), some (.int (ji x.2)), some (.int (ji (N)))] [] μ 0 0 = Q (some (.int (ji x.1))) μ
    rw [ul_X9_wisest_11]
    simp (disch := first | assumption | omega) only [RS_0, RS_1, RS_2, RS_3, RS_4, RS_5, RS_6, RS_7, RS_8, RS_9, RS_10, RS_11, RS_12, RS_13, RS_14, RS_15, RS_16, RS_17, RS_18, RS_19, RS_20, RS_21, RS_22, RS_23, RS_24, RS_25, RS_26, RS_27, RS_28, RS_29, RS_30, RS_31, RS_32, RS_33, RS_34, RS_35, RS_36, ji_add, ji_sub, ji_mul, ji_neg, ji_lit0, ji_ofNat, ji_lt, ji_le, ji_eq, ji_nat, ji_in, ji_rem, ji_div, jl_of, xl_lt, xl_gt, xl_eq, qV_at, qI_at, qJ_at, qD_at, qA_at, qA_no, nb0, nb1, cat_r, cat_i, Option.some.injEq, exists_eq_left', true_and, and_true, if_true, if_false, ite_not, not_true_eq_false, not_false_eq_true, Sum.inr.injEq, exists_eq_right', true_or, or_true, and_self, Int.cast_ofNat_Int, reduceCtorEq, or_false, false_or, false_and, and_false, jb_zero, lt7_0, lt7_1, lt7_2, lt7_3, lt7_4, lt7_5, lt7_6, c_X9_wisest_1, c_X9_wisest_2, c_X9_wisest_3, f_nodes hS hR hN, ↓reduceIte, ilt_t, ilt_f, ile_t, ile_f, ieq_t, ieq_f, jb_T, jb_F, jb_t, jb_f]
  · show ln_X9_wisest_11 Q X (mf + 1) [some (.ref m), some (.int (ji x.1)), some (.int (ji x.2)), some (.int (ji l))] [] μ 0 0 = ln_X9_wisest_11 Q X mf [some (.ref m), some (.int (ji (mxs (fun n => cntz (lsn s Z 0 n) 0 72 0) l x).1)), some (.int (ji (mxs (fun n => cntz (lsn s Z 0 n) 0 72 0) l x).2)), some (.int (ji (l + 1)))] [] μ 0 0
    rw [ul_X9_wisest_11]
    have hc := cntz_b (lsn s Z 0 l) 72 0 0
    unfold mxs
    by_cases hm : x.2 < cntz (lsn s Z 0 l) 0 72 0 <;> simp (disch := first | assumption | omega) only [RS_0, RS_1, RS_2, RS_3, RS_4, RS_5, RS_6, RS_7, RS_8, RS_9, RS_10, RS_11, RS_12, RS_13, RS_14, RS_15, RS_16, RS_17, RS_18, RS_19, RS_20, RS_21, RS_22, RS_23, RS_24, RS_25, RS_26, RS_27, RS_28, RS_29, RS_30, RS_31, RS_32, RS_33, RS_34, RS_35, RS_36, ji_add, ji_sub, ji_mul, ji_neg, ji_lit0, ji_ofNat, ji_lt, ji_le, ji_eq, ji_nat, ji_in, ji_rem, ji_div, jl_of, xl_lt, xl_gt, xl_eq, qV_at, qI_at, qJ_at, qD_at, qA_at, qA_no, nb0, nb1, cat_r, cat_i, Option.some.injEq, exists_eq_left', true_and, and_true, if_true, if_false, ite_not, not_true_eq_false, not_false_eq_true, Sum.inr.injEq, exists_eq_right', true_or, or_true, and_self, Int.cast_ofNat_Int, reduceCtorEq, or_false, false_or, false_and, and_false, jb_zero, lt7_0, lt7_1, lt7_2, lt7_3, lt7_4, lt7_5, lt7_6, c_X9_wisest_1, c_X9_wisest_2, c_X9_wisest_3, f_nodes hS hR hN, g_lessonsOf hS hR hB, hm, ↓reduceIte, ilt_t, ilt_f, ile_t, ile_f, ieq_t, ieq_f, jb_T, jb_F, jb_t, jb_f]
  · show -1 ≤ (mxs (fun n => cntz (lsn s Z 0 n) 0 72 0) l x).1 ∧ (mxs (fun n => cntz (lsn s Z 0 n) 0 72 0) l x).1 < 36 ∧ 0 ≤ (mxs (fun n => cntz (lsn s Z 0 n) 0 72 0) l x).2 ∧ (mxs (fun n => cntz (lsn s Z 0 n) 0 72 0) l x).2 ≤ 72
    have hc := cntz_b (lsn s Z 0 l) 72 0 0
    unfold mxs
    split
    · show -1 ≤ l ∧ l < 36 ∧ 0 ≤ cntz (lsn s Z 0 l) 0 72 0 ∧ cntz (lsn s Z 0 l) 0 72 0 ≤ 72
      omega
    · exact hx
/-- a time with the stale added; none -/
def stl (s o : Int) : Int := if o = -1 then -1 else o + s
theorem g_nextStale (hS : RS μ m) (hR : RW μ m w h s Z) (hz : SZ w h N s) (hB : BD w h N s Z) : l_X9_nextStale_9 Q X [some (.ref m), some (.int (ji (-1))), some (.int (ji 0)), none, none] [] μ 0 0 = Q (some (.int (ji (stl s (nsf s N Z))))) μ := by
  have hN := hz.g.2.2.2.2.2.2
  have hw := hB.1
  have hs := hB.2.1
  have r3 := hR.2.2.1
  have hin : ∀ (mf : Nat) (n v : Int), 0 ≤ n → n < N → -1 ≤ v → v ≤ 31000 → l_X9_nextStale_19 Q X (ln_X9_nextStale_9 Q X mf) [some (.ref m), some (.int (ji (stl s v))), some (.int (ji n)), some (.int (ji 0)), none] [] μ 0 0 = ln_X9_nextStale_9 Q X mf [some (.ref m), some (.int (ji (stl s (foldz (nsg s Z n) 0 72 v)))), some (.int (ji (n + 1))), none, none] [] μ 0 0 ∧ -1 ≤ foldz (nsg s Z n) 0 72 v ∧ foldz (nsg s Z n) 0 72 v ≤ 31000 := by
    intro mf n v n0 n1 v0 v1
    refine ⟨?_, foldz_inv (nsg s Z n) (fun o => -1 ≤ o ∧ o ≤ 31000) 0 72 (fun l o l0 l1 ho => ?_) 72 0 v (by omega) (by omega) ⟨v0, v1⟩⟩
    · rw [l_X9_nextStale_19, xseal_eq]
      refine fold_loop (fun mg o l => ln_X9_nextStale_19 Q X (ln_X9_nextStale_9 Q X mf) mg [some (.ref m), some (.int (ji (stl s o))), some (.int (ji n)), some (.int (ji l)), none] [] μ 0 0) (fun o => ln_X9_nextStale_9 Q X mf [some (.ref m), some (.int (ji (stl s o))), some (.int (ji (n + 1))), none, none] [] μ 0 0) (nsg s Z n) (fun l o => -1 ≤ o ∧ o ≤ 31000) 72 (fun mg o ho => ?_) (fun mg o l l0 l1 ho => ⟨?_, ?_⟩) 72 10000 0 v (by omega) (by omega) (by omega) ⟨v0, v1⟩
      · show ln_X9_nextStale_19 Q X (ln_X9_nextStale_9 Q X mf) (mg + 1) [some (.ref m), some (.int (ji (stl s o))), some (.int (ji n)), some (.int (ji 72)), none] [] μ 0 0 = ln_X9_nextStale_9 Q X mf [some (.ref m), some (.int (ji (stl s o))), some (.int (ji (n + 1))), none, none] [] μ 0 0
        rw [ul_X9_nextStale_19]
        simp (disch := first | assumption | omega) only [RS_0, RS_1, RS_2, RS_3, RS_4, RS_5, RS_6, RS_7, RS_8, RS_9, RS_10, RS_11, RS_12, RS_13, RS_14, RS_15, RS_16, RS_17, RS_18, RS_19, RS_20, RS_21, RS_22, RS_23, RS_24, RS_25, RS_26, RS_27, RS_28, RS_29, RS_30, RS_31, RS_32, RS_33, RS_34, RS_35, RS_36, ji_add, ji_sub, ji_mul, ji_neg, ji_lit0, ji_ofNat, ji_lt, ji_le, ji_eq, ji_nat, ji_in, ji_rem, ji_div, jl_of, xl_lt, xl_gt, xl_eq, qV_at, qI_at, qJ_at, qD_at, qA_at, qA_no, nb0, nb1, cat_r, cat_i, Option.some.injEq, exists_eq_left', true_and, and_true, if_true, if_false, ite_not, not_true_eq_false, not_false_eq_true, Sum.inr.injEq, exists_eq_right', true_or, or_true, and_self, Int.cast_ofNat_Int, reduceCtorEq, or_false, false_or, false_and, and_false, jb_zero, lt7_0, lt7_1, lt7_2, lt7_3, lt7_4, lt7_5, lt7_6, ↓reduceIte, ilt_t, ilt_f, ile_t, ile_f, ieq_t, ieq_f, jb_T, jb_F, jb_t, jb_f]
      · show ln_X9_nextStale_19 Q X (ln_X9_nextStale_9 Q X mf) (mg + 1) [some (.ref m), some (.int (ji (stl s o))), some (.int (ji n)), some (.int (ji l)), none] [] μ 0 0 = ln_X9_nextStale_19 Q X (ln_X9_nextStale_9 Q X mf) mg [some (.ref m), some (.int (ji (stl s (nsg s Z n l o)))), some (.int (ji n)), some (.int (ji (l + 1))), none] [] μ 0 0
        have hl := les_b hB n l
        have hlh : hol s Z n l = true → les Z n l ≠ -1 := by
          intro q
          unfold hol at q
          rw [decide_eq_true_eq] at q
          exact q.1
        by_cases hh : hol s Z n l = true
        · have hl1 := hlh hh
          have e2 : stl s (les Z n l) = les Z n l + s := if_neg hl1
          by_cases h1 : o = -1
          · have e1 : nsg s Z n l o = les Z n l := if_pos ⟨hh, Or.inl h1⟩
            have e3 : stl s o = -1 := if_pos h1
            rw [e1, e2, e3, ul_X9_nextStale_19]
            simp (disch := first | assumption | omega) only [RS_0, RS_1, RS_2, RS_3, RS_4, RS_5, RS_6, RS_7, RS_8, RS_9, RS_10, RS_11, RS_12, RS_13, RS_14, RS_15, RS_16, RS_17, RS_18, RS_19, RS_20, RS_21, RS_22, RS_23, RS_24, RS_25, RS_26, RS_27, RS_28, RS_29, RS_30, RS_31, RS_32, RS_33, RS_34, RS_35, RS_36, ji_add, ji_sub, ji_mul, ji_neg, ji_lit0, ji_ofNat, ji_lt, ji_le, ji_eq, ji_nat, ji_in, ji_rem, ji_div, jl_of, xl_lt, xl_gt, xl_eq, qV_at, qI_at, qJ_at, qD_at, qA_at, qA_no, nb0, nb1, cat_r, cat_i, Option.some.injEq, exists_eq_left', true_and, and_true, if_true, if_false, ite_not, not_true_eq_false, not_false_eq_true, Sum.inr.injEq, exists_eq_right', true_or, or_true, and_self, Int.cast_ofNat_Int, reduceCtorEq, or_false, false_or, false_and, and_false, jb_zero, lt7_0, lt7_1, lt7_2, lt7_3, lt7_4, lt7_5, lt7_6, c_X9_nextStale_1, c_X9_nextStale_2, c_X9_nextStale_3, c_X9_nextStale_4, f_holds hS hR hB, f_lessonOf hS hR, r3, hh, ↓reduceIte, ilt_t, ilt_f, ile_t, ile_f, ieq_t, ieq_f, jb_T, jb_F, jb_t, jb_f]
          · have e3 : stl s o = o + s := if_neg h1
            by_cases h2 : les Z n l < o
            · have h3 : ¬ (o + s < les Z n l + s) := by omega
              have e1 : nsg s Z n l o = les Z n l := if_pos ⟨hh, Or.inr h2⟩
              rw [e1, e2, e3, ul_X9_nextStale_19]
              simp (disch := first | assumption | omega) only [RS_0, RS_1, RS_2, RS_3, RS_4, RS_5, RS_6, RS_7, RS_8, RS_9, RS_10, RS_11, RS_12, RS_13, RS_14, RS_15, RS_16, RS_17, RS_18, RS_19, RS_20, RS_21, RS_22, RS_23, RS_24, RS_25, RS_26, RS_27, RS_28, RS_29, RS_30, RS_31, RS_32, RS_33, RS_34, RS_35, RS_36, ji_add, ji_sub, ji_mul, ji_neg, ji_lit0, ji_ofNat, ji_lt, ji_le, ji_eq, ji_nat, ji_in, ji_rem, ji_div, jl_of, xl_lt, xl_gt, xl_eq, qV_at, qI_at, qJ_at, qD_at, qA_at, qA_no, nb0, nb1, cat_r, cat_i, Option.some.injEq, exists_eq_left', true_and, and_true, if_true, if_false, ite_not, not_true_eq_false, not_false_eq_true, Sum.inr.injEq, exists_eq_right', true_or, or_true, and_self, Int.cast_ofNat_Int, reduceCtorEq, or_false, false_or, false_and, and_false, jb_zero, lt7_0, lt7_1, lt7_2, lt7_3, lt7_4, lt7_5, lt7_6, c_X9_nextStale_1, c_X9_nextStale_2, c_X9_nextStale_3, c_X9_nextStale_4, f_holds hS hR hB, f_lessonOf hS hR, f_min, r3, hh, h3, ↓reduceIte, ilt_t, ilt_f, ile_t, ile_f, ieq_t, ieq_f, jb_T, jb_F, jb_t, jb_f]
            · have e1 : nsg s Z n l o = o := if_neg (by omega)
              rw [e1, e3, ul_X9_nextStale_19]
              by_cases h3 : o + s < les Z n l + s
              · simp (disch := first | assumption | omega) only [RS_0, RS_1, RS_2, RS_3, RS_4, RS_5, RS_6, RS_7, RS_8, RS_9, RS_10, RS_11, RS_12, RS_13, RS_14, RS_15, RS_16, RS_17, RS_18, RS_19, RS_20, RS_21, RS_22, RS_23, RS_24, RS_25, RS_26, RS_27, RS_28, RS_29, RS_30, RS_31, RS_32, RS_33, RS_34, RS_35, RS_36, ji_add, ji_sub, ji_mul, ji_neg, ji_lit0, ji_ofNat, ji_lt, ji_le, ji_eq, ji_nat, ji_in, ji_rem, ji_div, jl_of, xl_lt, xl_gt, xl_eq, qV_at, qI_at, qJ_at, qD_at, qA_at, qA_no, nb0, nb1, cat_r, cat_i, Option.some.injEq, exists_eq_left', true_and, and_true, if_true, if_false, ite_not, not_true_eq_false, not_false_eq_true, Sum.inr.injEq, exists_eq_right', true_or, or_true, and_self, Int.cast_ofNat_Int, reduceCtorEq, or_false, false_or, false_and, and_false, jb_zero, lt7_0, lt7_1, lt7_2, lt7_3, lt7_4, lt7_5, lt7_6, c_X9_nextStale_1, c_X9_nextStale_2, c_X9_nextStale_3, c_X9_nextStale_4, f_holds hS hR hB, f_lessonOf hS hR, f_min, r3, hh, h3, ↓reduceIte, ilt_t, ilt_f, ile_t, ile_f, ieq_t, ieq_f, jb_T, jb_F, jb_t, jb_f]
              · have h4 : les Z n l = o := by omega
                rw [h4] at h3
                simp (disch := first | assumption | omega) only [RS_0, RS_1, RS_2, RS_3, RS_4, RS_5, RS_6, RS_7, RS_8, RS_9, RS_10, RS_11, RS_12, RS_13, RS_14, RS_15, RS_16, RS_17, RS_18, RS_19, RS_20, RS_21, RS_22, RS_23, RS_24, RS_25, RS_26, RS_27, RS_28, RS_29, RS_30, RS_31, RS_32, RS_33, RS_34, RS_35, RS_36, ji_add, ji_sub, ji_mul, ji_neg, ji_lit0, ji_ofNat, ji_lt, ji_le, ji_eq, ji_nat, ji_in, ji_rem, ji_div, jl_of, xl_lt, xl_gt, xl_eq, qV_at, qI_at, qJ_at, qD_at, qA_at, qA_no, nb0, nb1, cat_r, cat_i, Option.some.injEq, exists_eq_left', true_and, and_true, if_true, if_false, ite_not, not_true_eq_false, not_false_eq_true, Sum.inr.injEq, exists_eq_right', true_or, or_true, and_self, Int.cast_ofNat_Int, reduceCtorEq, or_false, false_or, false_and, and_false, jb_zero, lt7_0, lt7_1, lt7_2, lt7_3, lt7_4, lt7_5, lt7_6, c_X9_nextStale_1, c_X9_nextStale_2, c_X9_nextStale_3, c_X9_nextStale_4, f_holds hS hR hB, f_lessonOf hS hR, f_min, r3, hh, h3, h4, ↓reduceIte, ilt_t, ilt_f, ile_t, ile_f, ieq_t, ieq_f, jb_T, jb_F, jb_t, jb_f]
        · have e : nsg s Z n l o = o := if_neg (fun q => hh q.1)
          rw [e, ul_X9_nextStale_19]
          unfold stl
          have hs' := hs
          by_cases h1 : o = -1 <;> simp (disch := first | assumption | omega) only [RS_0, RS_1, RS_2, RS_3, RS_4, RS_5, RS_6, RS_7, RS_8, RS_9, RS_10, RS_11, RS_12, RS_13, RS_14, RS_15, RS_16, RS_17, RS_18, RS_19, RS_20, RS_21, RS_22, RS_23, RS_24, RS_25, RS_26, RS_27, RS_28, RS_29, RS_30, RS_31, RS_32, RS_33, RS_34, RS_35, RS_36, ji_add, ji_sub, ji_mul, ji_neg, ji_lit0, ji_ofNat, ji_lt, ji_le, ji_eq, ji_nat, ji_in, ji_rem, ji_div, jl_of, xl_lt, xl_gt, xl_eq, qV_at, qI_at, qJ_at, qD_at, qA_at, qA_no, nb0, nb1, cat_r, cat_i, Option.some.injEq, exists_eq_left', true_and, and_true, if_true, if_false, ite_not, not_true_eq_false, not_false_eq_true, Sum.inr.injEq, exists_eq_right', true_or, or_true, and_self, Int.cast_ofNat_Int, reduceCtorEq, or_false, false_or, false_and, and_false, jb_zero, lt7_0, lt7_1, lt7_2, lt7_3, lt7_4, lt7_5, lt7_6, c_X9_nextStale_1, c_X9_nextStale_2, c_X9_nextStale_3, c_X9_nextStale_4, f_holds hS hR hB, hh, h1, Bool.false_eq_true, ↓reduceIte, ilt_t, ilt_f, ile_t, ile_f, ieq_t, ieq_f, jb_T, jb_F, jb_t, jb_f]
      · show -1 ≤ nsg s Z n l o ∧ nsg s Z n l o ≤ 31000
        have hl := les_b hB n l
        unfold nsg
        split <;> omega
    · have hl := les_b hB n l
      unfold nsg
      split <;> omega
  have e0 : ji (-1) = ji (stl s (-1)) := rfl
  rw [e0]
  unfold nsf
  rw [l_X9_nextStale_9, xseal_eq]
  refine fold_loop (fun mf x l => ln_X9_nextStale_9 Q X mf [some (.ref m), some (.int (ji (stl s x))), some (.int (ji l)), none, none] [] μ 0 0) (fun x => Q (some (.int (ji (stl s x)))) μ) (fun l x => foldz (nsg s Z l) 0 72 x) (fun l x => -1 ≤ x ∧ x ≤ 31000) (N) (fun mf x hx => ?_) (fun mf x l l0 l1 hx => ⟨?_, ?_⟩) _ 10000 (0) (-1) (by omega) (by omega) (by omega) (by omega)
  · show ln_X9_nextStale_9 Q X (mf + 1) [some (.ref m), some (.int (ji (stl s x))), some (.int (ji (N))), none, none] [] μ 0 0 = Q (some (.int (ji (stl s x)))) μ
    rw [ul_X9_nextStale_9]
    simp (disch := first | assumption | omega) only [RS_0, RS_1, RS_2, RS_3, RS_4, RS_5, RS_6, RS_7, RS_8, RS_9, RS_10, RS_11, RS_12, RS_13, RS_14, RS_15, RS_16, RS_17, RS_18, RS_19, RS_20, RS_21, RS_22, RS_23, RS_24, RS_25, RS_26, RS_27, RS_28, RS_29, RS_30, RS_31, RS_32, RS_33, RS_34, RS_35, RS_36, ji_add, ji_sub, ji_mul, ji_neg, ji_lit0, ji_ofNat, ji_lt, ji_le, ji_eq, ji_nat, ji_in, ji_rem, ji_div, jl_of, xl_lt, xl_gt, xl_eq, qV_at, qI_at, qJ_at, qD_at, qA_at, qA_no, nb0, nb1, cat_r, cat_i, Option.some.injEq, exists_eq_left', true_and, and_true, if_true, if_false, ite_not, not_true_eq_false, not_false_eq_true, Sum.inr.injEq, exists_eq_right', true_or, or_true, and_self, Int.cast_ofNat_Int, reduceCtorEq, or_false, false_or, false_and, and_false, jb_zero, lt7_0, lt7_1, lt7_2, lt7_3, lt7_4, lt7_5, lt7_6, c_X9_nextStale_1, c_X9_nextStale_2, c_X9_nextStale_3, c_X9_nextStale_4, f_nodes hS hR hN, ↓reduceIte, ilt_t, ilt_f, ile_t, ile_f, ieq_t, ieq_f, jb_T, jb_F, jb_t, jb_f]
  · show ln_X9_nextStale_9 Q X (mf + 1) [some (.ref m), some (.int (ji (stl s x))), some (.int (ji l)), none, none] [] μ 0 0 = ln_X9_nextStale_9 Q X mf [some (.ref m), some (.int (ji (stl s (foldz (nsg s Z l) 0 72 x)))), some (.int (ji (l + 1))), none, none] [] μ 0 0
    rw [ul_X9_nextStale_9]
    obtain ⟨i1, -⟩ := hin mf l x l0 l1 hx.1 hx.2
    simp (disch := first | assumption | omega) only [RS_0, RS_1, RS_2, RS_3, RS_4, RS_5, RS_6, RS_7, RS_8, RS_9, RS_10, RS_11, RS_12, RS_13, RS_14, RS_15, RS_16, RS_17, RS_18, RS_19, RS_20, RS_21, RS_22, RS_23, RS_24, RS_25, RS_26, RS_27, RS_28, RS_29, RS_30, RS_31, RS_32, RS_33, RS_34, RS_35, RS_36, ji_add, ji_sub, ji_mul, ji_neg, ji_lit0, ji_ofNat, ji_lt, ji_le, ji_eq, ji_nat, ji_in, ji_rem, ji_div, jl_of, xl_lt, xl_gt, xl_eq, qV_at, qI_at, qJ_at, qD_at, qA_at, qA_no, nb0, nb1, cat_r, cat_i, Option.some.injEq, exists_eq_left', true_and, and_true, if_true, if_false, ite_not, not_true_eq_false, not_false_eq_true, Sum.inr.injEq, exists_eq_right', true_or, or_true, and_self, Int.cast_ofNat_Int, reduceCtorEq, or_false, false_or, false_and, and_false, jb_zero, lt7_0, lt7_1, lt7_2, lt7_3, lt7_4, lt7_5, lt7_6, c_X9_nextStale_1, c_X9_nextStale_2, c_X9_nextStale_3, c_X9_nextStale_4, f_nodes hS hR hN, ↓reduceIte, ilt_t, ilt_f, ile_t, ile_f, ieq_t, ieq_f, jb_T, jb_F, jb_t, jb_f]
    exact i1
  · show -1 ≤ (foldz (nsg s Z l) 0 72 x) ∧ (foldz (nsg s Z l) 0 72 x) ≤ 31000
    exact (hin 0 l x l0 l1 hx.1 hx.2).2
theorem g_packetsIn (hS : RS μ m) (hR : RW μ m w h s Z) (hB : BD w h N s Z) {v : Int} (v0 : 0 ≤ v) (v1 : v ≤ 5) : l_X9_packetsIn_36 Q X [some (.ref m), some (.int (ji v)), some (.int (ji 0)), some (.int (ji 0))] [] μ 0 0 = Q (some (.int (pin Z 3 v))) μ := by
  have hbz := hB.2.1
  have r0 := hR.2.2.2 1 (by omega) (by omega)
  unfold pin
  rw [l_X9_packetsIn_36, xseal_eq]
  refine fold_loop (fun mf x l => ln_X9_packetsIn_36 Q X mf [some (.ref m), some (.int (ji v)), some (.int x), some (.int (ji l))] [] μ 0 0) (fun x => Q (some (.int x)) μ) (fun l x => if Z ((2666 + 120 * l) + 3) = v then x ||| jshl (ji 1) (ji l) else x) (fun l x => True) (Z 1) (fun mf x hx => ?_) (fun mf x l l0 l1 hx => ⟨?_, ?_⟩) _ 10000 (0) (ji 0) (by omega) (by omega) (by omega) (trivial)
  · show ln_X9_packetsIn_36 Q X (mf + 1) [some (.ref m), some (.int (ji v)), some (.int x), some (.int (ji (Z 1)))] [] μ 0 0 = Q (some (.int x)) μ
    rw [ul_X9_packetsIn_36]
    simp (disch := first | assumption | omega) only [RS_0, RS_1, RS_2, RS_3, RS_4, RS_5, RS_6, RS_7, RS_8, RS_9, RS_10, RS_11, RS_12, RS_13, RS_14, RS_15, RS_16, RS_17, RS_18, RS_19, RS_20, RS_21, RS_22, RS_23, RS_24, RS_25, RS_26, RS_27, RS_28, RS_29, RS_30, RS_31, RS_32, RS_33, RS_34, RS_35, RS_36, ji_add, ji_sub, ji_mul, ji_neg, ji_lit0, ji_ofNat, ji_lt, ji_le, ji_eq, ji_nat, ji_in, ji_rem, ji_div, jl_of, xl_lt, xl_gt, xl_eq, qV_at, qI_at, qJ_at, qD_at, qA_at, qA_no, nb0, nb1, cat_r, cat_i, Option.some.injEq, exists_eq_left', true_and, and_true, if_true, if_false, ite_not, not_true_eq_false, not_false_eq_true, Sum.inr.injEq, exists_eq_right', true_or, or_true, and_self, Int.cast_ofNat_Int, reduceCtorEq, or_false, false_or, false_and, and_false, jb_zero, lt7_0, lt7_1, lt7_2, lt7_3, lt7_4, lt7_5, lt7_6, c_X9_packetsIn_1, c_X9_packetsIn_2, c_X9_packetsIn_3, c_X9_packetsIn_4, r0, ↓reduceIte, ilt_t, ilt_f, ile_t, ile_f, ieq_t, ieq_f, jb_T, jb_F, jb_t, jb_f]
  · show ln_X9_packetsIn_36 Q X (mf + 1) [some (.ref m), some (.int (ji v)), some (.int x), some (.int (ji l))] [] μ 0 0 = ln_X9_packetsIn_36 Q X mf [some (.ref m), some (.int (ji v)), some (.int (if Z ((2666 + 120 * l) + 3) = v then x ||| jshl (ji 1) (ji l) else x)), some (.int (ji (l + 1)))] [] μ 0 0
    rw [ul_X9_packetsIn_36]
    have hb1 := (BD_p hB l l0 l1).1
    by_cases hv : Z ((2666 + 120 * l) + 3) = v <;> simp (disch := first | assumption | omega) only [RS_0, RS_1, RS_2, RS_3, RS_4, RS_5, RS_6, RS_7, RS_8, RS_9, RS_10, RS_11, RS_12, RS_13, RS_14, RS_15, RS_16, RS_17, RS_18, RS_19, RS_20, RS_21, RS_22, RS_23, RS_24, RS_25, RS_26, RS_27, RS_28, RS_29, RS_30, RS_31, RS_32, RS_33, RS_34, RS_35, RS_36, ji_add, ji_sub, ji_mul, ji_neg, ji_lit0, ji_ofNat, ji_lt, ji_le, ji_eq, ji_nat, ji_in, ji_rem, ji_div, jl_of, xl_lt, xl_gt, xl_eq, qV_at, qI_at, qJ_at, qD_at, qA_at, qA_no, nb0, nb1, cat_r, cat_i, Option.some.injEq, exists_eq_left', true_and, and_true, if_true, if_false, ite_not, not_true_eq_false, not_false_eq_true, Sum.inr.injEq, exists_eq_right', true_or, or_true, and_self, Int.cast_ofNat_Int, reduceCtorEq, or_false, false_or, false_and, and_false, jb_zero, lt7_0, lt7_1, lt7_2, lt7_3, lt7_4, lt7_5, lt7_6, c_X9_packetsIn_1, c_X9_packetsIn_2, c_X9_packetsIn_3, c_X9_packetsIn_4, r0, f_of hS hR, hv, or0, ↓reduceIte, ilt_t, ilt_f, ile_t, ile_f, ieq_t, ieq_f, jb_T, jb_F, jb_t, jb_f]
  · show True
    trivial
theorem g_packetsTo (hS : RS μ m) (hR : RW μ m w h s Z) (hB : BD w h N s Z) {v : Int} (v0 : 0 ≤ v) (v1 : v < 36) : l_X9_packetsTo_32 Q X [some (.ref m), some (.int (ji v)), some (.int (ji 0)), some (.int (ji 0))] [] μ 0 0 = Q (some (.int (pin Z 1 v))) μ := by
  have hbz := hB.2.1
  have hw := hB.1
  have r0 := hR.2.2.2 1 (by omega) (by omega)
  unfold pin
  rw [l_X9_packetsTo_32, xseal_eq]
  refine fold_loop (fun mf x l => ln_X9_packetsTo_32 Q X mf [some (.ref m), some (.int (ji v)), some (.int x), some (.int (ji l))] [] μ 0 0) (fun x => Q (some (.int x)) μ) (fun l x => if Z ((2666 + 120 * l) + 1) = v then x ||| jshl (ji 1) (ji l) else x) (fun l x => True) (Z 1) (fun mf x hx => ?_) (fun mf x l l0 l1 hx => ⟨?_, ?_⟩) _ 10000 (0) (ji 0) (by omega) (by omega) (by omega) (trivial)
  · show ln_X9_packetsTo_32 Q X (mf + 1) [some (.ref m), some (.int (ji v)), some (.int x), some (.int (ji (Z 1)))] [] μ 0 0 = Q (some (.int x)) μ
    rw [ul_X9_packetsTo_32]
    simp (disch := first | assumption | omega) only [RS_0, RS_1, RS_2, RS_3, RS_4, RS_5, RS_6, RS_7, RS_8, RS_9, RS_10, RS_11, RS_12, RS_13, RS_14, RS_15, RS_16, RS_17, RS_18, RS_19, RS_20, RS_21, RS_22, RS_23, RS_24, RS_25, RS_26, RS_27, RS_28, RS_29, RS_30, RS_31, RS_32, RS_33, RS_34, RS_35, RS_36, ji_add, ji_sub, ji_mul, ji_neg, ji_lit0, ji_ofNat, ji_lt, ji_le, ji_eq, ji_nat, ji_in, ji_rem, ji_div, jl_of, xl_lt, xl_gt, xl_eq, qV_at, qI_at, qJ_at, qD_at, qA_at, qA_no, nb0, nb1, cat_r, cat_i, Option.some.injEq, exists_eq_left', true_and, and_true, if_true, if_false, ite_not, not_true_eq_false, not_false_eq_true, Sum.inr.injEq, exists_eq_right', true_or, or_true, and_self, Int.cast_ofNat_Int, reduceCtorEq, or_false, false_or, false_and, and_false, jb_zero, lt7_0, lt7_1, lt7_2, lt7_3, lt7_4, lt7_5, lt7_6, c_X9_packetsTo_1, c_X9_packetsTo_2, c_X9_packetsTo_3, c_X9_packetsTo_4, r0, ↓reduceIte, ilt_t, ilt_f, ile_t, ile_f, ieq_t, ieq_f, jb_T, jb_F, jb_t, jb_f]
  · show ln_X9_packetsTo_32 Q X (mf + 1) [some (.ref m), some (.int (ji v)), some (.int x), some (.int (ji l))] [] μ 0 0 = ln_X9_packetsTo_32 Q X mf [some (.ref m), some (.int (ji v)), some (.int (if Z ((2666 + 120 * l) + 1) = v then x ||| jshl (ji 1) (ji l) else x)), some (.int (ji (l + 1)))] [] μ 0 0
    rw [ul_X9_packetsTo_32]
    have hb1 := (BD_p hB l l0 l1).1
    by_cases hv : Z ((2666 + 120 * l) + 1) = v <;> simp (disch := first | assumption | omega) only [RS_0, RS_1, RS_2, RS_3, RS_4, RS_5, RS_6, RS_7, RS_8, RS_9, RS_10, RS_11, RS_12, RS_13, RS_14, RS_15, RS_16, RS_17, RS_18, RS_19, RS_20, RS_21, RS_22, RS_23, RS_24, RS_25, RS_26, RS_27, RS_28, RS_29, RS_30, RS_31, RS_32, RS_33, RS_34, RS_35, RS_36, ji_add, ji_sub, ji_mul, ji_neg, ji_lit0, ji_ofNat, ji_lt, ji_le, ji_eq, ji_nat, ji_in, ji_rem, ji_div, jl_of, xl_lt, xl_gt, xl_eq, qV_at, qI_at, qJ_at, qD_at, qA_at, qA_no, nb0, nb1, cat_r, cat_i, Option.some.injEq, exists_eq_left', true_and, and_true, if_true, if_false, ite_not, not_true_eq_false, not_false_eq_true, Sum.inr.injEq, exists_eq_right', true_or, or_true, and_self, Int.cast_ofNat_Int, reduceCtorEq, or_false, false_or, false_and, and_false, jb_zero, lt7_0, lt7_1, lt7_2, lt7_3, lt7_4, lt7_5, lt7_6, c_X9_packetsTo_1, c_X9_packetsTo_2, c_X9_packetsTo_3, c_X9_packetsTo_4, r0, f_of hS hR, hv, or0, ↓reduceIte, ilt_t, ilt_f, ile_t, ile_f, ieq_t, ieq_f, jb_T, jb_F, jb_t, jb_f]
  · show True
    trivial
theorem g_packetsAt (hS : RS μ m) (hR : RW μ m w h s Z) (hB : BD w h N s Z) {v : Int} (v0 : 0 ≤ v) (v1 : v < 36) : l_X9_packetsAt_32 Q X [some (.ref m), some (.int (ji v)), some (.int (ji 0)), some (.int (ji 0))] [] μ 0 0 = Q (some (.int (foldz (fun k x => if (act Z k && decide (Z ((2666 + 120 * k) + 4) = v)) = true then x ||| jshl (ji 1) (ji k) else x) 0 (Z 1).toNat (ji 0)))) μ := by
  have hbz := hB.2.1
  have hw := hB.1
  have r0 := hR.2.2.2 1 (by omega) (by omega)
  rw [l_X9_packetsAt_32, xseal_eq]
  refine fold_loop (fun mf x l => ln_X9_packetsAt_32 Q X mf [some (.ref m), some (.int (ji v)), some (.int x), some (.int (ji l))] [] μ 0 0) (fun x => Q (some (.int x)) μ) (fun l x => if (act Z l && decide (Z ((2666 + 120 * l) + 4) = v)) = true then x ||| jshl (ji 1) (ji l) else x) (fun l x => True) (Z 1) (fun mf x hx => ?_) (fun mf x l l0 l1 hx => ⟨?_, ?_⟩) _ 10000 (0) (ji 0) (by omega) (by omega) (by omega) (trivial)
  · show ln_X9_packetsAt_32 Q X (mf + 1) [some (.ref m), some (.int (ji v)), some (.int x), some (.int (ji (Z 1)))] [] μ 0 0 = Q (some (.int x)) μ
    rw [ul_X9_packetsAt_32]
    simp (disch := first | assumption | omega) only [RS_0, RS_1, RS_2, RS_3, RS_4, RS_5, RS_6, RS_7, RS_8, RS_9, RS_10, RS_11, RS_12, RS_13, RS_14, RS_15, RS_16, RS_17, RS_18, RS_19, RS_20, RS_21, RS_22, RS_23, RS_24, RS_25, RS_26, RS_27, RS_28, RS_29, RS_30, RS_31, RS_32, RS_33, RS_34, RS_35, RS_36, ji_add, ji_sub, ji_mul, ji_neg, ji_lit0, ji_ofNat, ji_lt, ji_le, ji_eq, ji_nat, ji_in, ji_rem, ji_div, jl_of, xl_lt, xl_gt, xl_eq, qV_at, qI_at, qJ_at, qD_at, qA_at, qA_no, nb0, nb1, cat_r, cat_i, Option.some.injEq, exists_eq_left', true_and, and_true, if_true, if_false, ite_not, not_true_eq_false, not_false_eq_true, Sum.inr.injEq, exists_eq_right', true_or, or_true, and_self, Int.cast_ofNat_Int, reduceCtorEq, or_false, false_or, false_and, and_false, jb_zero, lt7_0, lt7_1, lt7_2, lt7_3, lt7_4, lt7_5, lt7_6, c_X9_packetsAt_1, c_X9_packetsAt_2, c_X9_packetsAt_3, c_X9_packetsAt_4, c_X9_packetsAt_5, r0, ↓reduceIte, ilt_t, ilt_f, ile_t, ile_f, ieq_t, ieq_f, jb_T, jb_F, jb_t, jb_f]
  · show ln_X9_packetsAt_32 Q X (mf + 1) [some (.ref m), some (.int (ji v)), some (.int x), some (.int (ji l))] [] μ 0 0 = ln_X9_packetsAt_32 Q X mf [some (.ref m), some (.int (ji v)), some (.int (if (act Z l && decide (Z ((2666 + 120 * l) + 4) = v)) = true then x ||| jshl (ji 1) (ji l) else x)), some (.int (ji (l + 1)))] [] μ 0 0
    rw [ul_X9_packetsAt_32]
    have hb1 := (BD_p hB l l0 l1).1
    have hk : 0 ≤ Z ((2666 + 120 * l) + 3) ∧ Z ((2666 + 120 * l) + 3) ≤ 5 := by omega
    by_cases ha : act Z l = true <;> by_cases hv : Z ((2666 + 120 * l) + 4) = v <;> simp (disch := first | assumption | omega) only [RS_0, RS_1, RS_2, RS_3, RS_4, RS_5, RS_6, RS_7, RS_8, RS_9, RS_10, RS_11, RS_12, RS_13, RS_14, RS_15, RS_16, RS_17, RS_18, RS_19, RS_20, RS_21, RS_22, RS_23, RS_24, RS_25, RS_26, RS_27, RS_28, RS_29, RS_30, RS_31, RS_32, RS_33, RS_34, RS_35, RS_36, ji_add, ji_sub, ji_mul, ji_neg, ji_lit0, ji_ofNat, ji_lt, ji_le, ji_eq, ji_nat, ji_in, ji_rem, ji_div, jl_of, xl_lt, xl_gt, xl_eq, qV_at, qI_at, qJ_at, qD_at, qA_at, qA_no, nb0, nb1, cat_r, cat_i, Option.some.injEq, exists_eq_left', true_and, and_true, if_true, if_false, ite_not, not_true_eq_false, not_false_eq_true, Sum.inr.injEq, exists_eq_right', true_or, or_true, and_self, Int.cast_ofNat_Int, reduceCtorEq, or_false, false_or, false_and, and_false, jb_zero, lt7_0, lt7_1, lt7_2, lt7_3, lt7_4, lt7_5, lt7_6, c_X9_packetsAt_1, c_X9_packetsAt_2, c_X9_packetsAt_3, c_X9_packetsAt_4, c_X9_packetsAt_5, r0, f_of hS hR, f_isMoving hS hR, ha, hv, or0, decide_true, decide_false, Bool.false_eq_true, Bool.and_true, Bool.and_false, ↓reduceIte, ilt_t, ilt_f, ile_t, ile_f, ieq_t, ieq_f, jb_T, jb_F, jb_t, jb_f] <;> simp [ha]
  · show True
    trivial
theorem g_movingAt (hS : RS μ m) (hR : RW μ m w h s Z) (hB : BD w h N s Z) {v : Int} (v0 : 0 ≤ v) (v1 : v < 36) : s_X9_movingAt μ [.ref m, .int (ji v)] Q X = Q (some (.int (ji (mat Z v)))) μ := by
  have hbz := hB.2.1
  have hw := hB.1
  have r0 := hR.2.2.2 1 (by omega) (by omega)
  unfold mat
  rw [u_X9_movingAt, l_X9_movingAt_4, xseal_eq]
  refine fold_loop (fun mf x l => ln_X9_movingAt_4 Q X mf [some (.ref m), some (.int (ji v)), some (.int (ji x)), some (.int (ji l))] [] μ 0 0) (fun x => Q (some (.int (ji x))) μ) (fun l x => if (act Z l && decide (Z ((2666 + 120 * l) + 4) = v)) = true then x + 1 else x) (fun l x => 0 ≤ x ∧ x ≤ l) (Z 1) (fun mf x hx => ?_) (fun mf x l l0 l1 hx => ⟨?_, ?_⟩) _ 10000 (0) (0) (by omega) (by omega) (by omega) (by omega)
  · show ln_X9_movingAt_4 Q X (mf + 1) [some (.ref m), some (.int (ji v)), some (.int (ji x)), some (.int (ji (Z 1)))] [] μ 0 0 = Q (some (.int (ji x))) μ
    rw [ul_X9_movingAt_4]
    simp (disch := first | assumption | omega) only [RS_0, RS_1, RS_2, RS_3, RS_4, RS_5, RS_6, RS_7, RS_8, RS_9, RS_10, RS_11, RS_12, RS_13, RS_14, RS_15, RS_16, RS_17, RS_18, RS_19, RS_20, RS_21, RS_22, RS_23, RS_24, RS_25, RS_26, RS_27, RS_28, RS_29, RS_30, RS_31, RS_32, RS_33, RS_34, RS_35, RS_36, ji_add, ji_sub, ji_mul, ji_neg, ji_lit0, ji_ofNat, ji_lt, ji_le, ji_eq, ji_nat, ji_in, ji_rem, ji_div, jl_of, xl_lt, xl_gt, xl_eq, qV_at, qI_at, qJ_at, qD_at, qA_at, qA_no, nb0, nb1, cat_r, cat_i, Option.some.injEq, exists_eq_left', true_and, and_true, if_true, if_false, ite_not, not_true_eq_false, not_false_eq_true, Sum.inr.injEq, exists_eq_right', true_or, or_true, and_self, Int.cast_ofNat_Int, reduceCtorEq, or_false, false_or, false_and, and_false, jb_zero, lt7_0, lt7_1, lt7_2, lt7_3, lt7_4, lt7_5, lt7_6, c_X9_movingAt_1, c_X9_movingAt_2, r0, ↓reduceIte, ilt_t, ilt_f, ile_t, ile_f, ieq_t, ieq_f, jb_T, jb_F, jb_t, jb_f]
  · show ln_X9_movingAt_4 Q X (mf + 1) [some (.ref m), some (.int (ji v)), some (.int (ji x)), some (.int (ji l))] [] μ 0 0 = ln_X9_movingAt_4 Q X mf [some (.ref m), some (.int (ji v)), some (.int (ji (if (act Z l && decide (Z ((2666 + 120 * l) + 4) = v)) = true then x + 1 else x))), some (.int (ji (l + 1)))] [] μ 0 0
    rw [ul_X9_movingAt_4]
    have hb1 := (BD_p hB l l0 l1).1
    have hk : 0 ≤ Z ((2666 + 120 * l) + 3) ∧ Z ((2666 + 120 * l) + 3) ≤ 5 := by omega
    by_cases ha : act Z l = true <;> by_cases hv : Z ((2666 + 120 * l) + 4) = v <;> simp (disch := first | assumption | omega) only [RS_0, RS_1, RS_2, RS_3, RS_4, RS_5, RS_6, RS_7, RS_8, RS_9, RS_10, RS_11, RS_12, RS_13, RS_14, RS_15, RS_16, RS_17, RS_18, RS_19, RS_20, RS_21, RS_22, RS_23, RS_24, RS_25, RS_26, RS_27, RS_28, RS_29, RS_30, RS_31, RS_32, RS_33, RS_34, RS_35, RS_36, ji_add, ji_sub, ji_mul, ji_neg, ji_lit0, ji_ofNat, ji_lt, ji_le, ji_eq, ji_nat, ji_in, ji_rem, ji_div, jl_of, xl_lt, xl_gt, xl_eq, qV_at, qI_at, qJ_at, qD_at, qA_at, qA_no, nb0, nb1, cat_r, cat_i, Option.some.injEq, exists_eq_left', true_and, and_true, if_true, if_false, ite_not, not_true_eq_false, not_false_eq_true, Sum.inr.injEq, exists_eq_right', true_or, or_true, and_self, Int.cast_ofNat_Int, reduceCtorEq, or_false, false_or, false_and, and_false, jb_zero, lt7_0, lt7_1, lt7_2, lt7_3, lt7_4, lt7_5, lt7_6, c_X9_movingAt_1, c_X9_movingAt_2, r0, f_of hS hR, f_isMoving hS hR, ha, hv, decide_true, decide_false, Bool.false_eq_true, Bool.and_true, Bool.and_false, ↓reduceIte, ilt_t, ilt_f, ile_t, ile_f, ieq_t, ieq_f, jb_T, jb_F, jb_t, jb_f, Int.add_zero] <;> simp [ha]
  · show 0 ≤ (if (act Z l && decide (Z ((2666 + 120 * l) + 4) = v)) = true then x + 1 else x) ∧ (if (act Z l && decide (Z ((2666 + 120 * l) + 4) = v)) = true then x + 1 else x) ≤ (l + 1)
    split <;> omega
theorem g_busiest (hS : RS μ m) (hR : RW μ m w h s Z) (hz : SZ w h N s) (hB : BD w h N s Z) : l_X9_busiest_11 Q X [some (.ref m), some (.int (ji (-1))), some (.int (ji 0)), some (.int (ji 0))] [] μ 0 0 = Q (some (.int (ji (mxf (mat Z) N.toNat)))) μ := by
  have hN := hz.g.2.2.2.2.2.2
  have hw := hB.1
  unfold mxf
  rw [l_X9_busiest_11, xseal_eq]
  refine fold_loop (fun mf x l => ln_X9_busiest_11 Q X mf [some (.ref m), some (.int (ji x.1)), some (.int (ji x.2)), some (.int (ji l))] [] μ 0 0) (fun x => Q (some (.int (ji x.1))) μ) (fun l x => mxs (mat Z) l x) (fun l x => -1 ≤ x.1 ∧ x.1 < 36 ∧ 0 ≤ x.2 ∧ x.2 ≤ 25) (N) (fun mf x hx => ?_) (fun mf x l l0 l1 hx => ⟨?_, ?_⟩) _ 10000 (0) ((-1, 0)) (by omega) (by omega) (by omega) (by decide)
  · show ln_X9_busiest_11 Q X (mf + 1) [some (.ref m), some (.int (ji x.1)), some (.int (ji x.2)), some (.int (ji (N)))] [] μ 0 0 = Q (some (.int (ji x.1))) μ
    rw [ul_X9_busiest_11]
    simp (disch := first | assumption | omega) only [RS_0, RS_1, RS_2, RS_3, RS_4, RS_5, RS_6, RS_7, RS_8, RS_9, RS_10, RS_11, RS_12, RS_13, RS_14, RS_15, RS_16, RS_17, RS_18, RS_19, RS_20, RS_21, RS_22, RS_23, RS_24, RS_25, RS_26, RS_27, RS_28, RS_29, RS_30, RS_31, RS_32, RS_33, RS_34, RS_35, RS_36, ji_add, ji_sub, ji_mul, ji_neg, ji_lit0, ji_ofNat, ji_lt, ji_le, ji_eq, ji_nat, ji_in, ji_rem, ji_div, jl_of, xl_lt, xl_gt, xl_eq, qV_at, qI_at, qJ_at, qD_at, qA_at, qA_no, nb0, nb1, cat_r, cat_i, Option.some.injEq, exists_eq_left', true_and, and_true, if_true, if_false, ite_not, not_true_eq_false, not_false_eq_true, Sum.inr.injEq, exists_eq_right', true_or, or_true, and_self, Int.cast_ofNat_Int, reduceCtorEq, or_false, false_or, false_and, and_false, jb_zero, lt7_0, lt7_1, lt7_2, lt7_3, lt7_4, lt7_5, lt7_6, c_X9_busiest_1, c_X9_busiest_2, c_X9_busiest_3, f_nodes hS hR hN, ↓reduceIte, ilt_t, ilt_f, ile_t, ile_f, ieq_t, ieq_f, jb_T, jb_F, jb_t, jb_f]
  · show ln_X9_busiest_11 Q X (mf + 1) [some (.ref m), some (.int (ji x.1)), some (.int (ji x.2)), some (.int (ji l))] [] μ 0 0 = ln_X9_busiest_11 Q X mf [some (.ref m), some (.int (ji (mxs (mat Z) l x).1)), some (.int (ji (mxs (mat Z) l x).2)), some (.int (ji (l + 1)))] [] μ 0 0
    rw [ul_X9_busiest_11]
    have hc := mat_b hB l
    unfold mxs
    by_cases hm : x.2 < mat Z l <;> simp (disch := first | assumption | omega) only [RS_0, RS_1, RS_2, RS_3, RS_4, RS_5, RS_6, RS_7, RS_8, RS_9, RS_10, RS_11, RS_12, RS_13, RS_14, RS_15, RS_16, RS_17, RS_18, RS_19, RS_20, RS_21, RS_22, RS_23, RS_24, RS_25, RS_26, RS_27, RS_28, RS_29, RS_30, RS_31, RS_32, RS_33, RS_34, RS_35, RS_36, ji_add, ji_sub, ji_mul, ji_neg, ji_lit0, ji_ofNat, ji_lt, ji_le, ji_eq, ji_nat, ji_in, ji_rem, ji_div, jl_of, xl_lt, xl_gt, xl_eq, qV_at, qI_at, qJ_at, qD_at, qA_at, qA_no, nb0, nb1, cat_r, cat_i, Option.some.injEq, exists_eq_left', true_and, and_true, if_true, if_false, ite_not, not_true_eq_false, not_false_eq_true, Sum.inr.injEq, exists_eq_right', true_or, or_true, and_self, Int.cast_ofNat_Int, reduceCtorEq, or_false, false_or, false_and, and_false, jb_zero, lt7_0, lt7_1, lt7_2, lt7_3, lt7_4, lt7_5, lt7_6, c_X9_busiest_1, c_X9_busiest_2, c_X9_busiest_3, f_nodes hS hR hN, g_movingAt hS hR hB, hm, ↓reduceIte, ilt_t, ilt_f, ile_t, ile_f, ieq_t, ieq_f, jb_T, jb_F, jb_t, jb_f]
  · show -1 ≤ (mxs (mat Z) l x).1 ∧ (mxs (mat Z) l x).1 < 36 ∧ 0 ≤ (mxs (mat Z) l x).2 ∧ (mxs (mat Z) l x).2 ≤ 25
    have hc := mat_b hB l
    unfold mxs
    split
    · show -1 ≤ l ∧ l < 36 ∧ 0 ≤ mat Z l ∧ mat Z l ≤ 25
      omega
    · exact hx
theorem g_isSeen (hS : RS μ m) (hR : RW μ m w h s Z) (hB : BD w h N s Z) {n : Int} (v0 : 0 ≤ n) (v1 : n < 36) : s_X9_isSeen μ [.ref m, .int (ji n)] Q X = Q (some (.int (jb (sn Z n = true)))) μ := by
  have hbz := hB.2.1
  have r0 := hR.2.2.2 1 (by omega) (by omega)
  have o00 : ji 0 ||| ji 0 = ji 0 := or0 _
  have o01 : ji 0 ||| ji 1 = ji 1 := by decide
  have o10 : ji 1 ||| ji 0 = ji 1 := or0 _
  have o11 : ji 1 ||| ji 1 = ji 1 := by decide
  unfold sn
  rw [u_X9_isSeen, l_X9_isSeen_4, xseal_eq]
  refine fold_loop (fun mf x l => ln_X9_isSeen_4 Q X mf [some (.ref m), some (.int (ji n)), some (.int (jb (x = true))), some (.int (ji l))] [] μ 0 0) (fun x => Q (some (.int (jb (x = true)))) μ) (fun l x => x || vis Z ((2666 + 120 * l)) n) (fun l x => True) (Z 1) (fun mf x hx => ?_) (fun mf x l l0 l1 hx => ⟨?_, ?_⟩) _ 10000 (0) (false) (by omega) (by omega) (by omega) (trivial)
  · show ln_X9_isSeen_4 Q X (mf + 1) [some (.ref m), some (.int (ji n)), some (.int (jb (x = true))), some (.int (ji (Z 1)))] [] μ 0 0 = Q (some (.int (jb (x = true)))) μ
    rw [ul_X9_isSeen_4]
    cases x <;> simp (disch := first | assumption | omega) only [RS_0, RS_1, RS_2, RS_3, RS_4, RS_5, RS_6, RS_7, RS_8, RS_9, RS_10, RS_11, RS_12, RS_13, RS_14, RS_15, RS_16, RS_17, RS_18, RS_19, RS_20, RS_21, RS_22, RS_23, RS_24, RS_25, RS_26, RS_27, RS_28, RS_29, RS_30, RS_31, RS_32, RS_33, RS_34, RS_35, RS_36, ji_add, ji_sub, ji_mul, ji_neg, ji_lit0, ji_ofNat, ji_lt, ji_le, ji_eq, ji_nat, ji_in, ji_rem, ji_div, jl_of, xl_lt, xl_gt, xl_eq, qV_at, qI_at, qJ_at, qD_at, qA_at, qA_no, nb0, nb1, cat_r, cat_i, Option.some.injEq, exists_eq_left', true_and, and_true, if_true, if_false, ite_not, not_true_eq_false, not_false_eq_true, Sum.inr.injEq, exists_eq_right', true_or, or_true, and_self, Int.cast_ofNat_Int, reduceCtorEq, or_false, false_or, false_and, and_false, jb_zero, lt7_0, lt7_1, lt7_2, lt7_3, lt7_4, lt7_5, lt7_6, c_X9_isSeen_1, r0, Bool.false_eq_true, nb0, nb1, ↓reduceIte, ilt_t, ilt_f, ile_t, ile_f, ieq_t, ieq_f, jb_T, jb_F, jb_t, jb_f]
  · show ln_X9_isSeen_4 Q X (mf + 1) [some (.ref m), some (.int (ji n)), some (.int (jb (x = true))), some (.int (ji l))] [] μ 0 0 = ln_X9_isSeen_4 Q X mf [some (.ref m), some (.int (ji n)), some (.int (jb ((x || vis Z ((2666 + 120 * l)) n) = true))), some (.int (ji (l + 1)))] [] μ 0 0
    rw [ul_X9_isSeen_4]
    have hb := BD_p hB l l0 l1
    have hv := fun Q X => f_isVisitedNow (Q := Q) (X := X) hS hR l0 (show l < 25 by omega) hb v0 v1
    by_cases h1 : vis Z ((2666 + 120 * l)) n = true <;> cases x <;> simp (disch := first | assumption | omega) only [RS_0, RS_1, RS_2, RS_3, RS_4, RS_5, RS_6, RS_7, RS_8, RS_9, RS_10, RS_11, RS_12, RS_13, RS_14, RS_15, RS_16, RS_17, RS_18, RS_19, RS_20, RS_21, RS_22, RS_23, RS_24, RS_25, RS_26, RS_27, RS_28, RS_29, RS_30, RS_31, RS_32, RS_33, RS_34, RS_35, RS_36, ji_add, ji_sub, ji_mul, ji_neg, ji_lit0, ji_ofNat, ji_lt, ji_le, ji_eq, ji_nat, ji_in, ji_rem, ji_div, jl_of, xl_lt, xl_gt, xl_eq, qV_at, qI_at, qJ_at, qD_at, qA_at, qA_no, nb0, nb1, cat_r, cat_i, Option.some.injEq, exists_eq_left', true_and, and_true, if_true, if_false, ite_not, not_true_eq_false, not_false_eq_true, Sum.inr.injEq, exists_eq_right', true_or, or_true, and_self, Int.cast_ofNat_Int, reduceCtorEq, or_false, false_or, false_and, and_false, jb_zero, lt7_0, lt7_1, lt7_2, lt7_3, lt7_4, lt7_5, lt7_6, c_X9_isSeen_1, r0, hv, h1, o00, o01, o10, o11, Bool.false_eq_true, Bool.or_true, Bool.or_false, ↓reduceIte, ilt_t, ilt_f, ile_t, ile_f, ieq_t, ieq_f, jb_T, jb_F, jb_t, jb_f]
  · show True
    trivial
theorem g_unvisited (hS : RS μ m) (hR : RW μ m w h s Z) (hz : SZ w h N s) (hB : BD w h N s Z) {i : Int} (i0 : 0 ≤ i) (i1 : i < 2147483648) : l_X9_unvisited_28 Q X [some (.ref m), none, some (.int (ji i)), some (.int (ji 0))] [] μ 0 0 = Q (some (.int (ji (unf Z N i)))) μ := by
  have hN := hz.g.2.2.2.2.2.2
  have hw := hB.1
  have e : eit (fun _ => Q (some (.int (ji (-1)))) μ) (fun r => Q (some (.int (ji r))) μ) (findz (ung Z i) 0 N.toNat 0) = Q (some (.int (ji (unf Z N i)))) μ := by
    unfold unf
    cases findz (ung Z i) 0 N.toNat 0 <;> rfl
  have ei : ji i = ji (i - 0) := by rw [Int.sub_zero]
  rw [← e, ei]
  rw [l_X9_unvisited_28, xseal_eq]
  refine find_loop (fun mf x l => ln_X9_unvisited_28 Q X mf [some (.ref m), none, some (.int (ji (i - x))), some (.int (ji l))] [] μ 0 0) (fun x => Q (some (.int (ji (-1)))) μ) (fun r => Q (some (.int (ji r))) μ) (fun l x => ung Z i l x) (fun l x => 0 ≤ x ∧ x ≤ l ∧ x ≤ i) (N) (fun mf x hx => ?_) (fun mf x l l0 l1 hx => ⟨?_, ?_⟩) _ 10000 (0) (0) (by omega) (by omega) (by omega) (by omega)
  · show ln_X9_unvisited_28 Q X (mf + 1) [some (.ref m), none, some (.int (ji (i - x))), some (.int (ji (N)))] [] μ 0 0 = Q (some (.int (ji (-1)))) μ
    rw [ul_X9_unvisited_28]
    simp (disch := first | assumption | omega) only [RS_0, RS_1, RS_2, RS_3, RS_4, RS_5, RS_6, RS_7, RS_8, RS_9, RS_10, RS_11, RS_12, RS_13, RS_14, RS_15, RS_16, RS_17, RS_18, RS_19, RS_20, RS_21, RS_22, RS_23, RS_24, RS_25, RS_26, RS_27, RS_28, RS_29, RS_30, RS_31, RS_32, RS_33, RS_34, RS_35, RS_36, ji_add, ji_sub, ji_mul, ji_neg, ji_lit0, ji_ofNat, ji_lt, ji_le, ji_eq, ji_nat, ji_in, ji_rem, ji_div, jl_of, xl_lt, xl_gt, xl_eq, qV_at, qI_at, qJ_at, qD_at, qA_at, qA_no, nb0, nb1, cat_r, cat_i, Option.some.injEq, exists_eq_left', true_and, and_true, if_true, if_false, ite_not, not_true_eq_false, not_false_eq_true, Sum.inr.injEq, exists_eq_right', true_or, or_true, and_self, Int.cast_ofNat_Int, reduceCtorEq, or_false, false_or, false_and, and_false, jb_zero, lt7_0, lt7_1, lt7_2, lt7_3, lt7_4, lt7_5, lt7_6, c_X9_unvisited_1, c_X9_unvisited_2, c_X9_unvisited_3, c_X9_unvisited_4, f_nodes hS hR hN, ↓reduceIte, ilt_t, ilt_f, ile_t, ile_f, ieq_t, ieq_f, jb_T, jb_F, jb_t, jb_f]
  · show ln_X9_unvisited_28 Q X (mf + 1) [some (.ref m), none, some (.int (ji (i - x))), some (.int (ji l))] [] μ 0 0 = eit (fun x => ln_X9_unvisited_28 Q X mf [some (.ref m), none, some (.int (ji (i - x))), some (.int (ji (l + 1)))] [] μ 0 0) (fun r => Q (some (.int (ji r))) μ) (ung Z i l x)
    rw [ul_X9_unvisited_28]
    unfold ung
    by_cases hs : sn Z l = true
    · simp (disch := first | assumption | omega) only [RS_0, RS_1, RS_2, RS_3, RS_4, RS_5, RS_6, RS_7, RS_8, RS_9, RS_10, RS_11, RS_12, RS_13, RS_14, RS_15, RS_16, RS_17, RS_18, RS_19, RS_20, RS_21, RS_22, RS_23, RS_24, RS_25, RS_26, RS_27, RS_28, RS_29, RS_30, RS_31, RS_32, RS_33, RS_34, RS_35, RS_36, ji_add, ji_sub, ji_mul, ji_neg, ji_lit0, ji_ofNat, ji_lt, ji_le, ji_eq, ji_nat, ji_in, ji_rem, ji_div, jl_of, xl_lt, xl_gt, xl_eq, qV_at, qI_at, qJ_at, qD_at, qA_at, qA_no, nb0, nb1, cat_r, cat_i, Option.some.injEq, exists_eq_left', true_and, and_true, if_true, if_false, ite_not, not_true_eq_false, not_false_eq_true, Sum.inr.injEq, exists_eq_right', true_or, or_true, and_self, Int.cast_ofNat_Int, reduceCtorEq, or_false, false_or, false_and, and_false, jb_zero, lt7_0, lt7_1, lt7_2, lt7_3, lt7_4, lt7_5, lt7_6, c_X9_unvisited_1, c_X9_unvisited_2, c_X9_unvisited_3, c_X9_unvisited_4, f_nodes hS hR hN, g_isSeen hS hR hB, hs, ↓reduceIte, ilt_t, ilt_f, ile_t, ile_f, ieq_t, ieq_f, jb_T, jb_F, jb_t, jb_f]
      rfl
    · have hs' : sn Z l = false := by simpa using hs
      by_cases hi : x = i
      · have hi0 : i - x = 0 := by omega
        simp (disch := first | assumption | omega) only [RS_0, RS_1, RS_2, RS_3, RS_4, RS_5, RS_6, RS_7, RS_8, RS_9, RS_10, RS_11, RS_12, RS_13, RS_14, RS_15, RS_16, RS_17, RS_18, RS_19, RS_20, RS_21, RS_22, RS_23, RS_24, RS_25, RS_26, RS_27, RS_28, RS_29, RS_30, RS_31, RS_32, RS_33, RS_34, RS_35, RS_36, ji_add, ji_sub, ji_mul, ji_neg, ji_lit0, ji_ofNat, ji_lt, ji_le, ji_eq, ji_nat, ji_in, ji_rem, ji_div, jl_of, xl_lt, xl_gt, xl_eq, qV_at, qI_at, qJ_at, qD_at, qA_at, qA_no, nb0, nb1, cat_r, cat_i, Option.some.injEq, exists_eq_left', true_and, and_true, if_true, if_false, ite_not, not_true_eq_false, not_false_eq_true, Sum.inr.injEq, exists_eq_right', true_or, or_true, and_self, Int.cast_ofNat_Int, reduceCtorEq, or_false, false_or, false_and, and_false, jb_zero, lt7_0, lt7_1, lt7_2, lt7_3, lt7_4, lt7_5, lt7_6, c_X9_unvisited_1, c_X9_unvisited_2, c_X9_unvisited_3, c_X9_unvisited_4, f_nodes hS hR hN, g_isSeen hS hR hB, hs', hi, hi0, Bool.false_eq_true, Int.sub_self, ↓reduceIte, ilt_t, ilt_f, ile_t, ile_f, ieq_t, ieq_f, jb_T, jb_F, jb_t, jb_f]
        rfl
      · have hi1 : i - x - 1 = i - (x + 1) := by omega
        have hi2 : i - x + -1 = i - (x + 1) := by omega
        have hi3 : ¬ i - x = 0 := by omega
        simp (disch := first | assumption | omega) only [RS_0, RS_1, RS_2, RS_3, RS_4, RS_5, RS_6, RS_7, RS_8, RS_9, RS_10, RS_11, RS_12, RS_13, RS_14, RS_15, RS_16, RS_17, RS_18, RS_19, RS_20, RS_21, RS_22, RS_23, RS_24, RS_25, RS_26, RS_27, RS_28, RS_29, RS_30, RS_31, RS_32, RS_33, RS_34, RS_35, RS_36, ji_add, ji_sub, ji_mul, ji_neg, ji_lit0, ji_ofNat, ji_lt, ji_le, ji_eq, ji_nat, ji_in, ji_rem, ji_div, jl_of, xl_lt, xl_gt, xl_eq, qV_at, qI_at, qJ_at, qD_at, qA_at, qA_no, nb0, nb1, cat_r, cat_i, Option.some.injEq, exists_eq_left', true_and, and_true, if_true, if_false, ite_not, not_true_eq_false, not_false_eq_true, Sum.inr.injEq, exists_eq_right', true_or, or_true, and_self, Int.cast_ofNat_Int, reduceCtorEq, or_false, false_or, false_and, and_false, jb_zero, lt7_0, lt7_1, lt7_2, lt7_3, lt7_4, lt7_5, lt7_6, c_X9_unvisited_1, c_X9_unvisited_2, c_X9_unvisited_3, c_X9_unvisited_4, f_nodes hS hR hN, g_isSeen hS hR hB, hs', hi, hi1, hi2, hi3, Bool.false_eq_true, ↓reduceIte, ilt_t, ilt_f, ile_t, ile_f, ieq_t, ieq_f, jb_T, jb_F, jb_t, jb_f]
        rfl
  · intro y hy
    have hy : (ung Z i l x) = .inl y := hy
    show 0 ≤ y ∧ y ≤ (l + 1) ∧ y ≤ i
    revert hy
    unfold ung
    (repeat' split) <;> intro hy <;> cases hy <;> omega
end
