/-! ===== the reference: what it does, with its field of commands ===== -/
def RP5 (μ : XM) (m : Nat) (Q : XQ) (c : Int) (r : AR) : Prop := ∀ μ', CH (inM m) μ' μ → MS μ' m r.1 → gI μ' 298 m = ji 0 → gI μ' 320 m = ji c → Q (some (.int (ji r.2.2))) μ'
section
variable {μ μ' : XM} {m : Nat} {Q : XQ} {X : XX} {A : AS} {F : Nat → Int} {Z Y : Int → Int} {w h N s : Int} {C : Nat → Prop}
theorem kF_320 : kF F 320 = F 320 := by
  unfold kF
  by_cases e : F 291 = 12
  · rw [if_pos e]; rfl
  · rw [if_neg e]; rfl
theorem RP5.stay (hS : RS μ m) (hF : RF F A) (hM : RM μ m (F 290) A) (h0 : F 298 = 0) {v : Int} (hQ : RP5 μ m Q (F 320) (A, (0, v))) : Q (some (.int (ji v))) (pz (pf μ m F) m A.2.1) := hQ _ CH.all0 (MS.mk hS hF hM) (pzf_g.trans (by rw [h0])) pzf_g
theorem r5_sendNow (hS : RS μ m) (hF : RF F A) (hM : RM μ m (F 290) A) (hi : INV A) (h0 : F 298 = 0) {a b l : Int} (a0 : 0 ≤ a) (a1 : a < A.1.2.2.1) (b0 : 0 ≤ b) (b1 : b < A.1.2.2.1) (hQ : RP5 μ m Q (F 320) (oSend A a b l)) : s_X9_sendNow (pz (pf μ m F) m A.2.1) [.ref m, .int (ji a), .int (ji b), .int (ji l)] Q X := by
  have hB := hi.1.1.1
  have hbw := hB.1
  have hbz := hB.2.1
  have hpk := hi.1.2.2.1
  have hn := hi.2.1
  have z1 : aI (pz (pf μ m F) m A.2.1) (m + 1) (1 : Int).toNat = ji (A.2.1 1) := pz_ati (by omega) (by omega)
  have n4 := hF.2.2.2
  unfold oSend at hQ
  by_cases h1 : a = b
  · rw [if_pos h1] at hQ
    simp (disch := first | assumption | omega) only [RS_0, RS_1, RS_2, RS_3, RS_4, RS_5, RS_6, RS_7, RS_8, RS_9, RS_10, RS_11, RS_12, RS_13, RS_14, RS_15, RS_16, RS_17, RS_18, RS_19, RS_20, RS_21, RS_22, RS_23, RS_24, RS_25, RS_26, RS_27, RS_28, RS_29, RS_30, RS_31, RS_32, RS_33, RS_34, RS_35, RS_36, ji_add, ji_sub, ji_mul, ji_neg, ji_lit0, ji_ofNat, ji_lt, ji_le, ji_eq, ji_nat, ji_in, ji_rem, ji_div, jl_of, xl_lt, xl_gt, xl_eq, qV_at, qI_at, qJ_at, qD_at, qA_at, qA_no, nb0, nb1, cat_r, cat_i, Option.some.injEq, exists_eq_left', true_and, and_true, if_true, if_false, ite_not, not_true_eq_false, not_false_eq_true, Sum.inr.injEq, exists_eq_right', true_or, or_true, and_self, Int.cast_ofNat_Int, reduceCtorEq, or_false, false_or, false_and, and_false, jb_zero, lt7_0, lt7_1, lt7_2, lt7_3, lt7_4, lt7_5, lt7_6, u_X9_sendNow, h1, pz_tg, pz_ln, pz_gI, pz_gL, pz_gR, pz_aR, pz_aL, pz_aD, pzf_w, pzf_g, pf_w, pf_tg, pf_ln, pf_gR, pf_aI, pf_aR, pf_gL, pz_w, ↓reduceIte, ilt_t, ilt_f, ile_t, ile_f, ieq_t, ieq_f, jb_T, jb_F, jb_t, jb_f]
    exact RP5.stay hS hF hM h0 hQ
  · rw [if_neg h1] at hQ
    by_cases h2 : 24 ≤ A.2.1 1
    · rw [if_pos h2] at hQ
      have h3 : A.2.1 1 = 24 := by omega
      simp (disch := first | assumption | omega) only [RS_0, RS_1, RS_2, RS_3, RS_4, RS_5, RS_6, RS_7, RS_8, RS_9, RS_10, RS_11, RS_12, RS_13, RS_14, RS_15, RS_16, RS_17, RS_18, RS_19, RS_20, RS_21, RS_22, RS_23, RS_24, RS_25, RS_26, RS_27, RS_28, RS_29, RS_30, RS_31, RS_32, RS_33, RS_34, RS_35, RS_36, ji_add, ji_sub, ji_mul, ji_neg, ji_lit0, ji_ofNat, ji_lt, ji_le, ji_eq, ji_nat, ji_in, ji_rem, ji_div, jl_of, xl_lt, xl_gt, xl_eq, qV_at, qI_at, qJ_at, qD_at, qA_at, qA_no, nb0, nb1, cat_r, cat_i, Option.some.injEq, exists_eq_left', true_and, and_true, if_true, if_false, ite_not, not_true_eq_false, not_false_eq_true, Sum.inr.injEq, exists_eq_right', true_or, or_true, and_self, Int.cast_ofNat_Int, reduceCtorEq, or_false, false_or, false_and, and_false, jb_zero, lt7_0, lt7_1, lt7_2, lt7_3, lt7_4, lt7_5, lt7_6, u_X9_sendNow, h1, z1, h3, pz_tg, pz_ln, pz_gI, pz_gL, pz_gR, pz_aR, pz_aL, pz_aD, pzf_w, pzf_g, pf_w, pf_tg, pf_ln, pf_gR, pf_aI, pf_aR, pf_gL, pz_w, ↓reduceIte, ilt_t, ilt_f, ile_t, ile_f, ieq_t, ieq_f, jb_T, jb_F, jb_t, jb_f]
      exact RP5.stay hS hF hM h0 hQ
    · rw [if_neg h2] at hQ
      have hk := fun Q X => f_keep (Q := Q) (X := X) (Z := A.2.1) hS (F := F) (by omega) (by omega) n4.2.1 n4.2.2.1
      have ha := fun Q X => f_addPacket (Q := Q) (X := X) (μ := pf (pb μ m (kB (F 290) (F 291)) A.2.1) m (kF F)) (m := m) (Z := A.2.1) (a := a) (b := b) (l := l) (RS_pf (RS_pb hS _ _) _) (RF.psh (Y := A.2.1) (v := 0) hF hi).b (by omega) (by omega) a0 (by omega)
      have hS' := RS_pb hS (kB (F 290) (F 291)) A.2.1
      simp (disch := first | assumption | omega) only [RS_0, RS_1, RS_2, RS_3, RS_4, RS_5, RS_6, RS_7, RS_8, RS_9, RS_10, RS_11, RS_12, RS_13, RS_14, RS_15, RS_16, RS_17, RS_18, RS_19, RS_20, RS_21, RS_22, RS_23, RS_24, RS_25, RS_26, RS_27, RS_28, RS_29, RS_30, RS_31, RS_32, RS_33, RS_34, RS_35, RS_36, ji_add, ji_sub, ji_mul, ji_neg, ji_lit0, ji_ofNat, ji_lt, ji_le, ji_eq, ji_nat, ji_in, ji_rem, ji_div, jl_of, xl_lt, xl_gt, xl_eq, qV_at, qI_at, qJ_at, qD_at, qA_at, qA_no, nb0, nb1, cat_r, cat_i, Option.some.injEq, exists_eq_left', true_and, and_true, if_true, if_false, ite_not, not_true_eq_false, not_false_eq_true, Sum.inr.injEq, exists_eq_right', true_or, or_true, and_self, Int.cast_ofNat_Int, reduceCtorEq, or_false, false_or, false_and, and_false, jb_zero, lt7_0, lt7_1, lt7_2, lt7_3, lt7_4, lt7_5, lt7_6, c_X9_sendNow_1, c_X9_sendNow_2, u_X9_sendNow, h1, z1, hk, ha, pz_tg, pz_ln, pz_gI, pz_gL, pz_gR, pz_aR, pz_aL, pz_aD, pzf_w, pzf_g, pf_w, pf_tg, pf_ln, pf_gR, pf_aI, pf_aR, pf_gL, pz_w, ↓reduceIte, ilt_t, ilt_f, ile_t, ile_f, ieq_t, ieq_f, jb_T, jb_F, jb_t, jb_f]
      exact hQ _ CH.all (MS_psh hS hF hM hi) (pzf_g.trans (by rw [kF_298, h0])) (pzf_g.trans (by rw [kF_320]))
theorem r5_tickNow (hS : RS μ m) (hF : RF F A) (hM : RM μ m (F 290) A) (hi : INV A) (h0 : F 298 = 0) {t : Int} (t0 : 1 ≤ t) (t1 : t ≤ 500) (hQ : RP5 μ m Q (F 320) (oTick A t)) : s_X9_tickNow (pz (pf μ m F) m A.2.1) [.ref m, .int (ji t)] Q X := by
  have hB := hi.1.1.1
  have hbz := hB.2.1
  have hn := hi.2.1
  have z0 : aI (pz (pf μ m F) m A.2.1) (m + 1) (0 : Int).toNat = ji (A.2.1 0) := pz_ati (by omega) (by omega)
  have n4 := hF.2.2.2
  unfold oTick at hQ
  by_cases h1 : 30000 < A.2.1 0 + t
  · rw [if_pos h1] at hQ
    simp (disch := first | assumption | omega) only [RS_0, RS_1, RS_2, RS_3, RS_4, RS_5, RS_6, RS_7, RS_8, RS_9, RS_10, RS_11, RS_12, RS_13, RS_14, RS_15, RS_16, RS_17, RS_18, RS_19, RS_20, RS_21, RS_22, RS_23, RS_24, RS_25, RS_26, RS_27, RS_28, RS_29, RS_30, RS_31, RS_32, RS_33, RS_34, RS_35, RS_36, ji_add, ji_sub, ji_mul, ji_neg, ji_lit0, ji_ofNat, ji_lt, ji_le, ji_eq, ji_nat, ji_in, ji_rem, ji_div, jl_of, xl_lt, xl_gt, xl_eq, qV_at, qI_at, qJ_at, qD_at, qA_at, qA_no, nb0, nb1, cat_r, cat_i, Option.some.injEq, exists_eq_left', true_and, and_true, if_true, if_false, ite_not, not_true_eq_false, not_false_eq_true, Sum.inr.injEq, exists_eq_right', true_or, or_true, and_self, Int.cast_ofNat_Int, reduceCtorEq, or_false, false_or, false_and, and_false, jb_zero, lt7_0, lt7_1, lt7_2, lt7_3, lt7_4, lt7_5, lt7_6, u_X9_tickNow, z0, pz_tg, pz_ln, pz_gI, pz_gL, pz_gR, pz_aR, pz_aL, pz_aD, pzf_w, pzf_g, pf_w, pf_tg, pf_ln, pf_gR, pf_aI, pf_aR, pf_gL, pz_w, ↓reduceIte, ilt_t, ilt_f, ile_t, ile_f, ieq_t, ieq_f, jb_T, jb_F, jb_t, jb_f]
    exact RP5.stay hS hF hM h0 hQ
  · rw [if_neg h1] at hQ
    have hk := fun Q X => f_keep (Q := Q) (X := X) (Z := A.2.1) hS (F := F) (by omega) (by omega) n4.2.1 n4.2.2.1
    have ha := fun Q X => f_ticks (Q := Q) (X := X) (μ := pf (pb μ m (kB (F 290) (F 291)) A.2.1) m (kF F)) (m := m) (Z := A.2.1) (t := t) (RS_pf (RS_pb hS _ _) _) (RF.psh (Y := A.2.1) (v := 0) hF hi).b hi.1.1 (by omega) (by omega) (by omega)
    simp (disch := first | assumption | omega) only [RS_0, RS_1, RS_2, RS_3, RS_4, RS_5, RS_6, RS_7, RS_8, RS_9, RS_10, RS_11, RS_12, RS_13, RS_14, RS_15, RS_16, RS_17, RS_18, RS_19, RS_20, RS_21, RS_22, RS_23, RS_24, RS_25, RS_26, RS_27, RS_28, RS_29, RS_30, RS_31, RS_32, RS_33, RS_34, RS_35, RS_36, ji_add, ji_sub, ji_mul, ji_neg, ji_lit0, ji_ofNat, ji_lt, ji_le, ji_eq, ji_nat, ji_in, ji_rem, ji_div, jl_of, xl_lt, xl_gt, xl_eq, qV_at, qI_at, qJ_at, qD_at, qA_at, qA_no, nb0, nb1, cat_r, cat_i, Option.some.injEq, exists_eq_left', true_and, and_true, if_true, if_false, ite_not, not_true_eq_false, not_false_eq_true, Sum.inr.injEq, exists_eq_right', true_or, or_true, and_self, Int.cast_ofNat_Int, reduceCtorEq, or_false, false_or, false_and, and_false, jb_zero, lt7_0, lt7_1, lt7_2, lt7_3, lt7_4, lt7_5, lt7_6, u_X9_tickNow, z0, hk, c_X9_tickNow_1, ha, pz_tg, pz_ln, pz_gI, pz_gL, pz_gR, pz_aR, pz_aL, pz_aD, pzf_w, pzf_g, pf_w, pf_tg, pf_ln, pf_gR, pf_aI, pf_aR, pf_gL, pz_w, ↓reduceIte, ilt_t, ilt_f, ile_t, ile_f, ieq_t, ieq_f, jb_T, jb_F, jb_t, jb_f]
    exact hQ _ CH.all (MS_psh hS hF hM hi) (pzf_g.trans (by rw [kF_298, h0])) (pzf_g.trans (by rw [kF_320]))
theorem r5_turnNow (hS : RS μ m) (hF : RF F A) (hM : RM μ m (F 290) A) (hi : INV A) (h0 : F 298 = 0) {n y d : Int} (n0 : 0 ≤ n) (n1 : n < A.1.2.2.1) (y0 : 0 ≤ y) (y1 : y < 4) (d0 : d = 0 ∨ d = 1) (hQ : RP5 μ m Q (F 320) (oTurn A n y d)) : s_X9_turnNow (pz (pf μ m F) m A.2.1) [.ref m, .int (ji n), .int (ji y), .int (ji d)] Q X := by
  have hB := hi.1.1.1
  have hlb := lka_b (z := n) (y := y) hB.g
  have hn := hi.2.1
  have n4 := hF.2.2.2
  have hl := fun Q X => f_linkOf (Q := Q) (X := X) (RS_pz (RS_pf hS F) A.2.1) (RW_pz (RF.b hF) A.2.1) hB.z n0 n1 y0 y1
  unfold oTurn at hQ
  generalize hlk : lka A.1.1 A.1.2.1 A.1.2.2.1 n y = l at *
  by_cases h1 : l = -1
  · rw [if_pos (Or.inl h1)] at hQ
    simp (disch := first | assumption | omega) only [RS_0, RS_1, RS_2, RS_3, RS_4, RS_5, RS_6, RS_7, RS_8, RS_9, RS_10, RS_11, RS_12, RS_13, RS_14, RS_15, RS_16, RS_17, RS_18, RS_19, RS_20, RS_21, RS_22, RS_23, RS_24, RS_25, RS_26, RS_27, RS_28, RS_29, RS_30, RS_31, RS_32, RS_33, RS_34, RS_35, RS_36, ji_add, ji_sub, ji_mul, ji_neg, ji_lit0, ji_ofNat, ji_lt, ji_le, ji_eq, ji_nat, ji_in, ji_rem, ji_div, jl_of, xl_lt, xl_gt, xl_eq, qV_at, qI_at, qJ_at, qD_at, qA_at, qA_no, nb0, nb1, cat_r, cat_i, Option.some.injEq, exists_eq_left', true_and, and_true, if_true, if_false, ite_not, not_true_eq_false, not_false_eq_true, Sum.inr.injEq, exists_eq_right', true_or, or_true, and_self, Int.cast_ofNat_Int, reduceCtorEq, or_false, false_or, false_and, and_false, jb_zero, lt7_0, lt7_1, lt7_2, lt7_3, lt7_4, lt7_5, lt7_6, c_X9_turnNow_1, c_X9_turnNow_2, c_X9_turnNow_3, u_X9_turnNow, hl, h1, pz_tg, pz_ln, pz_gI, pz_gL, pz_gR, pz_aR, pz_aL, pz_aD, pzf_w, pzf_g, pf_w, pf_tg, pf_ln, pf_gR, pf_aI, pf_aR, pf_gL, pz_w, ↓reduceIte, ilt_t, ilt_f, ile_t, ile_f, ieq_t, ieq_f, jb_T, jb_F, jb_t, jb_f]
    exact RP5.stay hS hF hM h0 hQ
  · have hd := hB.2.2.1 l (by omega) (by omega)
    have z2 : aI (pz (pf μ m F) m A.2.1) (m + 1) (2 + l).toNat = ji (A.2.1 (2 + l)) := pz_ati (by omega) (by omega)
    by_cases h2 : A.2.1 (2 + l) = d
    · rw [if_pos (Or.inr h2)] at hQ
      simp (disch := first | assumption | omega) only [RS_0, RS_1, RS_2, RS_3, RS_4, RS_5, RS_6, RS_7, RS_8, RS_9, RS_10, RS_11, RS_12, RS_13, RS_14, RS_15, RS_16, RS_17, RS_18, RS_19, RS_20, RS_21, RS_22, RS_23, RS_24, RS_25, RS_26, RS_27, RS_28, RS_29, RS_30, RS_31, RS_32, RS_33, RS_34, RS_35, RS_36, ji_add, ji_sub, ji_mul, ji_neg, ji_lit0, ji_ofNat, ji_lt, ji_le, ji_eq, ji_nat, ji_in, ji_rem, ji_div, jl_of, xl_lt, xl_gt, xl_eq, qV_at, qI_at, qJ_at, qD_at, qA_at, qA_no, nb0, nb1, cat_r, cat_i, Option.some.injEq, exists_eq_left', true_and, and_true, if_true, if_false, ite_not, not_true_eq_false, not_false_eq_true, Sum.inr.injEq, exists_eq_right', true_or, or_true, and_self, Int.cast_ofNat_Int, reduceCtorEq, or_false, false_or, false_and, and_false, jb_zero, lt7_0, lt7_1, lt7_2, lt7_3, lt7_4, lt7_5, lt7_6, c_X9_turnNow_1, c_X9_turnNow_2, c_X9_turnNow_3, u_X9_turnNow, hl, h1, z2, h2, pz_tg, pz_ln, pz_gI, pz_gL, pz_gR, pz_aR, pz_aL, pz_aD, pzf_w, pzf_g, pf_w, pf_tg, pf_ln, pf_gR, pf_aI, pf_aR, pf_gL, pz_w, ↓reduceIte, ilt_t, ilt_f, ile_t, ile_f, ieq_t, ieq_f, jb_T, jb_F, jb_t, jb_f]
      exact RP5.stay hS hF hM h0 hQ
    · rw [if_neg (by omega)] at hQ
      have hil := isl_lka (n := n) (y := y) hB.g (by rw [hlk]; exact h1)
      rw [hlk] at hil
      have ho := hi.1.dd (l := l) (v := d) (by omega) (by omega) d0 hil
      have hk := fun Q X => f_keep (Q := Q) (X := X) (Z := A.2.1) hS (F := F) (by omega) (by omega) n4.2.1 n4.2.2.1
      have hS' := RS_pb hS (kB (F 290) (F 291)) A.2.1
      have ha := fun Q X => f_deadLinks (Q := Q) (X := X) (μ := pf (pb μ m (kB (F 290) (F 291)) A.2.1) m (kF F)) (m := m) (Z := zu A.2.1 (2 + l) d) (RS_pf hS' _) (RF.psh (Y := A.2.1) (v := 0) hF hi).b ho.1.1
      simp (disch := first | assumption | omega) only [RS_0, RS_1, RS_2, RS_3, RS_4, RS_5, RS_6, RS_7, RS_8, RS_9, RS_10, RS_11, RS_12, RS_13, RS_14, RS_15, RS_16, RS_17, RS_18, RS_19, RS_20, RS_21, RS_22, RS_23, RS_24, RS_25, RS_26, RS_27, RS_28, RS_29, RS_30, RS_31, RS_32, RS_33, RS_34, RS_35, RS_36, ji_add, ji_sub, ji_mul, ji_neg, ji_lit0, ji_ofNat, ji_lt, ji_le, ji_eq, ji_nat, ji_in, ji_rem, ji_div, jl_of, xl_lt, xl_gt, xl_eq, qV_at, qI_at, qJ_at, qD_at, qA_at, qA_no, nb0, nb1, cat_r, cat_i, Option.some.injEq, exists_eq_left', true_and, and_true, if_true, if_false, ite_not, not_true_eq_false, not_false_eq_true, Sum.inr.injEq, exists_eq_right', true_or, or_true, and_self, Int.cast_ofNat_Int, reduceCtorEq, or_false, false_or, false_and, and_false, jb_zero, lt7_0, lt7_1, lt7_2, lt7_3, lt7_4, lt7_5, lt7_6, c_X9_turnNow_1, c_X9_turnNow_2, c_X9_turnNow_3, u_X9_turnNow, hl, h1, z2, h2, hk, ha, pz_tg, pz_ln, pz_gI, pz_gL, pz_gR, pz_aR, pz_aL, pz_aD, pzf_w, pzf_g, pf_w, pf_tg, pf_ln, pf_gR, pf_aI, pf_aR, pf_gL, pz_w, ↓reduceIte, ilt_t, ilt_f, ile_t, ile_f, ieq_t, ieq_f, jb_T, jb_F, jb_t, jb_f]
      exact hQ _ CH.all (MS_psh hS hF hM hi) (pzf_g.trans (by rw [kF_298, h0])) (pzf_g.trans (by rw [kF_320]))
theorem r5_forgetNow (hS : RS μ m) (hF : RF F A) (hM : RM μ m (F 290) A) (hi : INV A) (h0 : F 298 = 0) {n : Int} (n0 : 0 ≤ n) (n1 : n < A.1.2.2.1) (hQ : RP5 μ m Q (F 320) (oForget A n)) : s_X9_forgetNow (pz (pf μ m F) m A.2.1) [.ref m, .int (ji n)] Q X := by
  have hB := hi.1.1.1
  have hbw := hB.1
  have hn := hi.2.1
  have n4 := hF.2.2.2
  have hk := fun Q X => f_keep (Q := Q) (X := X) (Z := A.2.1) hS (F := F) (by omega) (by omega) n4.2.1 n4.2.2.1
  have hS' := RS_pb hS (kB (F 290) (F 291)) A.2.1
  have ha := fun Q X => f_lessonsOf (Q := Q) (X := X) (μ := pf (pb μ m (kB (F 290) (F 291)) A.2.1) m (kF F)) (m := m) (Z := A.2.1) (n := n) (RS_pf hS' _) (RF.psh (Y := A.2.1) (v := 0) hF hi).b hB n0 (by omega)
  have key : ∀ (ν : XM) (c : Int) (hSv : RS ν m), l_X9_forgetNow_12 Q X [some (.ref m), some (.int (ji n)), some (.int (ji c)), some (.int (ji 0))] [] (pz ν m A.2.1) 0 0 = Q (some (.int (ji c))) (pz ν m (zfgt A.2.1 n)) := by
    intro ν c hSv
    unfold zfgt zrow
    rw [l_X9_forgetNow_12, xseal_eq]
    refine fold_loop (fun mf x l => ln_X9_forgetNow_12 Q X mf [some (.ref m), some (.int (ji n)), some (.int (ji c)), some (.int (ji l))] [] (pz ν m x) 0 0) (fun x => Q (some (.int (ji c))) (pz ν m x)) (fun i Y => zu Y (74 + 72 * n + i) (-1)) (fun _ _ => True) 72 (fun mf x hx => ?_) (fun mf x l l0 l1 hx => ⟨?_, trivial⟩) 72 10000 0 _ (by omega) (by omega) (by omega) trivial
    · show ln_X9_forgetNow_12 Q X (mf + 1) [some (.ref m), some (.int (ji n)), some (.int (ji c)), some (.int (ji 72))] [] (pz ν m x) 0 0 = Q (some (.int (ji c))) (pz ν m x)
      rw [ul_X9_forgetNow_12]
      simp (disch := first | assumption | omega) only [RS_0, RS_1, RS_2, RS_3, RS_4, RS_5, RS_6, RS_7, RS_8, RS_9, RS_10, RS_11, RS_12, RS_13, RS_14, RS_15, RS_16, RS_17, RS_18, RS_19, RS_20, RS_21, RS_22, RS_23, RS_24, RS_25, RS_26, RS_27, RS_28, RS_29, RS_30, RS_31, RS_32, RS_33, RS_34, RS_35, RS_36, ji_add, ji_sub, ji_mul, ji_neg, ji_lit0, ji_ofNat, ji_lt, ji_le, ji_eq, ji_nat, ji_in, ji_rem, ji_div, jl_of, xl_lt, xl_gt, xl_eq, qV_at, qI_at, qJ_at, qD_at, qA_at, qA_no, nb0, nb1, cat_r, cat_i, Option.some.injEq, exists_eq_left', true_and, and_true, if_true, if_false, ite_not, not_true_eq_false, not_false_eq_true, Sum.inr.injEq, exists_eq_right', true_or, or_true, and_self, Int.cast_ofNat_Int, reduceCtorEq, or_false, false_or, false_and, and_false, jb_zero, lt7_0, lt7_1, lt7_2, lt7_3, lt7_4, lt7_5, lt7_6, ↓reduceIte, ilt_t, ilt_f, ile_t, ile_f, ieq_t, ieq_f, jb_T, jb_F, jb_t, jb_f]
    · show ln_X9_forgetNow_12 Q X (mf + 1) [some (.ref m), some (.int (ji n)), some (.int (ji c)), some (.int (ji l))] [] (pz ν m x) 0 0 = ln_X9_forgetNow_12 Q X mf [some (.ref m), some (.int (ji n)), some (.int (ji c)), some (.int (ji (l + 1)))] [] (pz ν m (zu x (74 + 72 * n + l) (-1))) 0 0
      rw [ul_X9_forgetNow_12]
      simp (disch := first | assumption | omega) only [RS_0, RS_1, RS_2, RS_3, RS_4, RS_5, RS_6, RS_7, RS_8, RS_9, RS_10, RS_11, RS_12, RS_13, RS_14, RS_15, RS_16, RS_17, RS_18, RS_19, RS_20, RS_21, RS_22, RS_23, RS_24, RS_25, RS_26, RS_27, RS_28, RS_29, RS_30, RS_31, RS_32, RS_33, RS_34, RS_35, RS_36, ji_add, ji_sub, ji_mul, ji_neg, ji_lit0, ji_ofNat, ji_lt, ji_le, ji_eq, ji_nat, ji_in, ji_rem, ji_div, jl_of, xl_lt, xl_gt, xl_eq, qV_at, qI_at, qJ_at, qD_at, qA_at, qA_no, nb0, nb1, cat_r, cat_i, Option.some.injEq, exists_eq_left', true_and, and_true, if_true, if_false, ite_not, not_true_eq_false, not_false_eq_true, Sum.inr.injEq, exists_eq_right', true_or, or_true, and_self, Int.cast_ofNat_Int, reduceCtorEq, or_false, false_or, false_and, and_false, jb_zero, lt7_0, lt7_1, lt7_2, lt7_3, lt7_4, lt7_5, lt7_6, pz_tg, pz_ln, pz_gI, pz_gL, pz_gR, pz_aR, pz_aL, pz_aD, pzf_w, pzf_g, pf_w, pf_tg, pf_ln, pf_gR, pf_aI, pf_aR, pf_gL, pz_w, ↓reduceIte, ilt_t, ilt_f, ile_t, ile_f, ieq_t, ieq_f, jb_T, jb_F, jb_t, jb_f]
  unfold oForget at hQ
  simp (disch := first | assumption | omega) only [RS_0, RS_1, RS_2, RS_3, RS_4, RS_5, RS_6, RS_7, RS_8, RS_9, RS_10, RS_11, RS_12, RS_13, RS_14, RS_15, RS_16, RS_17, RS_18, RS_19, RS_20, RS_21, RS_22, RS_23, RS_24, RS_25, RS_26, RS_27, RS_28, RS_29, RS_30, RS_31, RS_32, RS_33, RS_34, RS_35, RS_36, ji_add, ji_sub, ji_mul, ji_neg, ji_lit0, ji_ofNat, ji_lt, ji_le, ji_eq, ji_nat, ji_in, ji_rem, ji_div, jl_of, xl_lt, xl_gt, xl_eq, qV_at, qI_at, qJ_at, qD_at, qA_at, qA_no, nb0, nb1, cat_r, cat_i, Option.some.injEq, exists_eq_left', true_and, and_true, if_true, if_false, ite_not, not_true_eq_false, not_false_eq_true, Sum.inr.injEq, exists_eq_right', true_or, or_true, and_self, Int.cast_ofNat_Int, reduceCtorEq, or_false, false_or, false_and, and_false, jb_zero, lt7_0, lt7_1, lt7_2, lt7_3, lt7_4, lt7_5, lt7_6, u_X9_forgetNow, hk, c_X9_forgetNow_1, c_X9_forgetNow_2, ha, pz_tg, pz_ln, pz_gI, pz_gL, pz_gR, pz_aR, pz_aL, pz_aD, pzf_w, pzf_g, pf_w, pf_tg, pf_ln, pf_gR, pf_aI, pf_aR, pf_gL, pz_w, ↓reduceIte, ilt_t, ilt_f, ile_t, ile_f, ieq_t, ieq_f, jb_T, jb_F, jb_t, jb_f]
  rw [key _ _ (RS_pf hS' _), show (psh A A.2.1 0).1.1.2.2.2 = A.1.2.2.2 from rfl]
  exact hQ _ CH.all (MS_psh hS hF hM hi) (pzf_g.trans (by rw [kF_298, h0])) (pzf_g.trans (by rw [kF_320]))
end
