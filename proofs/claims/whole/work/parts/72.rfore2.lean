section
variable {μ μ' : XM} {m : Nat} {Q : XQ} {X : XX} {A : AS} {F : Nat → Int} {Z Y V : Int → Int} {w h N s : Int} {C : Nat → Prop}
def fsr (V : Int → Int) (o : Int) : Int := if V (o + 3) ≤ 2 then -1 else V (o + 3)
theorem f_fs66 (hS : RS μ m) (hF : RF F A) {k r : Int} (k0 : 0 ≤ k) (k1 : k < 25) {nc ns : Nat} : j_X9_foresee_66 Q X [some (.ref m), none, none, none, some (.int (ji k)), none] [.int (ji r)] (pz (pf (pb μ m 15 A.2.1) m F) m V) nc ns = Q (some (.int (ji r))) (pz (pf (pb μ m 15 A.2.1) m (fu F 305 (V (2666 + 120 * k + 5)))) m A.2.1) := by
  have hS' := RS_pb hS 15 A.2.1
  have hof := fun Q X => f_of (Q := Q) (X := X) (RS_pz (RS_pf hS' F) V) (RW_pz (RF.b hF) V) k0 k1 (j := 5) (by omega) (by omega)
  simp (disch := first | assumption | omega) only [RS_0, RS_1, RS_2, RS_3, RS_4, RS_5, RS_6, RS_7, RS_8, RS_9, RS_10, RS_11, RS_12, RS_13, RS_14, RS_15, RS_16, RS_17, RS_18, RS_19, RS_20, RS_21, RS_22, RS_23, RS_24, RS_25, RS_26, RS_27, RS_28, RS_29, RS_30, RS_31, RS_32, RS_33, RS_34, RS_35, RS_36, ji_add, ji_sub, ji_mul, ji_neg, ji_lit0, ji_ofNat, ji_lt, ji_le, ji_eq, ji_nat, ji_in, ji_rem, ji_div, jl_of, xl_lt, xl_gt, xl_eq, qV_at, qI_at, qJ_at, qD_at, qA_at, qA_no, nb0, nb1, cat_r, cat_i, Option.some.injEq, exists_eq_left', true_and, and_true, if_true, if_false, ite_not, not_true_eq_false, not_false_eq_true, Sum.inr.injEq, exists_eq_right', true_or, or_true, and_self, Int.cast_ofNat_Int, reduceCtorEq, or_false, false_or, false_and, and_false, jb_zero, lt7_0, lt7_1, lt7_2, lt7_3, lt7_4, lt7_5, lt7_6, uj_X9_foresee_66, c_X9_foresee_1, c_X9_foresee_2, c_X9_foresee_3, c_X9_foresee_4, c_X9_foresee_5, c_X9_foresee_6, c_X9_foresee_7, c_X9_foresee_8, c_X9_foresee_9, c_X9_foresee_10, uj_X9_foresee_66, hof, f_back hS, pz_tg, pz_ln, pz_gI, pz_gL, pz_gR, pz_aR, pz_aL, pz_aD, pzf_w, pzf_g, pf_w, pf_tg, pf_ln, pf_gR, pf_aI, pf_aR, pf_gL, pz_w, ↓reduceIte, ilt_t, ilt_f, ile_t, ile_f, ieq_t, ieq_f, jb_T, jb_F, jb_t, jb_f]
theorem f_fcz (hS : RS μ m) (hF : RF F A) {k : Int} (k0 : 0 ≤ k) (k1 : k < 25) {nc ns : Nat} : ∀ (n mf : Nat) (c : Int) (Z : Int → Int), n < mf → c + n = 500 → 0 ≤ c → IV A.1.1 A.1.2.1 A.1.2.2.1 A.1.2.2.2 Z → k < Z 1 → Z 0 + n ≤ 31000 → fcz A.1.1 A.1.2.1 A.1.2.2.1 A.1.2.2.2 (2666 + 120 * k) n Z = V → ln_X9_foresee_19 Q X mf [some (.ref m), none, none, none, some (.int (ji k)), some (.int (ji c))] [] (pz (pf (pb μ m 15 A.2.1) m F) m Z) nc ns = Q (some (.int (ji (fsr V (2666 + 120 * k))))) (pz (pf (pb μ m 15 A.2.1) m (fu F 305 (V (2666 + 120 * k + 5)))) m A.2.1) := by
  have hS' := RS_pb hS 15 A.2.1
  intro n
  induction n with
  | zero =>
    intro mf c Z h1 h2 h3 hI hk hz hv
    obtain ⟨mf, rfl⟩ : ∃ j, mf = j + 1 := ⟨mf - 1, by omega⟩
    have hv : Z = V := hv
    subst hv
    obtain rfl : c = 500 := by omega
    have hb := (BD_p hI.1 k k0 hk).1
    have hof := fun Q X => f_of (Q := Q) (X := X) (RS_pz (RS_pf hS' F) Z) (RW_pz (RF.b hF) Z) k0 k1 (j := 3) (by omega) (by omega)
    have him := fun Q X => f_isMoving (Q := Q) (X := X) (RS_pz (RS_pf hS' F) Z) (RW_pz (RF.b hF) Z) k0 k1 (by omega)
    unfold act at him
    unfold fsr
    rw [ul_X9_foresee_19]
    by_cases ha : Z (2666 + 120 * k + 3) ≤ 2
    · simp (disch := first | assumption | omega) only [RS_0, RS_1, RS_2, RS_3, RS_4, RS_5, RS_6, RS_7, RS_8, RS_9, RS_10, RS_11, RS_12, RS_13, RS_14, RS_15, RS_16, RS_17, RS_18, RS_19, RS_20, RS_21, RS_22, RS_23, RS_24, RS_25, RS_26, RS_27, RS_28, RS_29, RS_30, RS_31, RS_32, RS_33, RS_34, RS_35, RS_36, ji_add, ji_sub, ji_mul, ji_neg, ji_lit0, ji_ofNat, ji_lt, ji_le, ji_eq, ji_nat, ji_in, ji_rem, ji_div, jl_of, xl_lt, xl_gt, xl_eq, qV_at, qI_at, qJ_at, qD_at, qA_at, qA_no, nb0, nb1, cat_r, cat_i, Option.some.injEq, exists_eq_left', true_and, and_true, if_true, if_false, ite_not, not_true_eq_false, not_false_eq_true, Sum.inr.injEq, exists_eq_right', true_or, or_true, and_self, Int.cast_ofNat_Int, reduceCtorEq, or_false, false_or, false_and, and_false, jb_zero, lt7_0, lt7_1, lt7_2, lt7_3, lt7_4, lt7_5, lt7_6, c_X9_foresee_3, c_X9_foresee_4, him, ha, decide_true, f_fs66 hS hF k0 k1, pz_tg, pz_ln, pz_gI, pz_gL, pz_gR, pz_aR, pz_aL, pz_aD, pzf_w, pzf_g, pf_w, pf_tg, pf_ln, pf_gR, pf_aI, pf_aR, pf_gL, pz_w, ↓reduceIte, ilt_t, ilt_f, ile_t, ile_f, ieq_t, ieq_f, jb_T, jb_F, jb_t, jb_f]
    · simp (disch := first | assumption | omega) only [RS_0, RS_1, RS_2, RS_3, RS_4, RS_5, RS_6, RS_7, RS_8, RS_9, RS_10, RS_11, RS_12, RS_13, RS_14, RS_15, RS_16, RS_17, RS_18, RS_19, RS_20, RS_21, RS_22, RS_23, RS_24, RS_25, RS_26, RS_27, RS_28, RS_29, RS_30, RS_31, RS_32, RS_33, RS_34, RS_35, RS_36, ji_add, ji_sub, ji_mul, ji_neg, ji_lit0, ji_ofNat, ji_lt, ji_le, ji_eq, ji_nat, ji_in, ji_rem, ji_div, jl_of, xl_lt, xl_gt, xl_eq, qV_at, qI_at, qJ_at, qD_at, qA_at, qA_no, nb0, nb1, cat_r, cat_i, Option.some.injEq, exists_eq_left', true_and, and_true, if_true, if_false, ite_not, not_true_eq_false, not_false_eq_true, Sum.inr.injEq, exists_eq_right', true_or, or_true, and_self, Int.cast_ofNat_Int, reduceCtorEq, or_false, false_or, false_and, and_false, jb_zero, lt7_0, lt7_1, lt7_2, lt7_3, lt7_4, lt7_5, lt7_6, c_X9_foresee_3, c_X9_foresee_4, him, ha, decide_false, Bool.false_eq_true, hof, f_fs66 hS hF k0 k1, pz_tg, pz_ln, pz_gI, pz_gL, pz_gR, pz_aR, pz_aL, pz_aD, pzf_w, pzf_g, pf_w, pf_tg, pf_ln, pf_gR, pf_aI, pf_aR, pf_gL, pz_w, ↓reduceIte, ilt_t, ilt_f, ile_t, ile_f, ieq_t, ieq_f, jb_T, jb_F, jb_t, jb_f]
  | succ n ih =>
    intro mf c Z h1 h2 h3 hI hk hz hv
    obtain ⟨mf, rfl⟩ : ∃ j, mf = j + 1 := ⟨mf - 1, by omega⟩
    have hb := (BD_p hI.1 k k0 hk).1
    have hof := fun Q X => f_of (Q := Q) (X := X) (RS_pz (RS_pf hS' F) Z) (RW_pz (RF.b hF) Z) k0 k1 (j := 3) (by omega) (by omega)
    have him := fun Q X => f_isMoving (Q := Q) (X := X) (RS_pz (RS_pf hS' F) Z) (RW_pz (RF.b hF) Z) k0 k1 (by omega)
    unfold act at him
    unfold fcz at hv
    rw [ul_X9_foresee_19]
    by_cases ha : Z (2666 + 120 * k + 3) ≤ 2
    · rw [if_pos ha] at hv
      obtain ⟨f1, f2, f3⟩ := tk_f hI (by omega)
      simp (disch := first | assumption | omega) only [RS_0, RS_1, RS_2, RS_3, RS_4, RS_5, RS_6, RS_7, RS_8, RS_9, RS_10, RS_11, RS_12, RS_13, RS_14, RS_15, RS_16, RS_17, RS_18, RS_19, RS_20, RS_21, RS_22, RS_23, RS_24, RS_25, RS_26, RS_27, RS_28, RS_29, RS_30, RS_31, RS_32, RS_33, RS_34, RS_35, RS_36, ji_add, ji_sub, ji_mul, ji_neg, ji_lit0, ji_ofNat, ji_lt, ji_le, ji_eq, ji_nat, ji_in, ji_rem, ji_div, jl_of, xl_lt, xl_gt, xl_eq, qV_at, qI_at, qJ_at, qD_at, qA_at, qA_no, nb0, nb1, cat_r, cat_i, Option.some.injEq, exists_eq_left', true_and, and_true, if_true, if_false, ite_not, not_true_eq_false, not_false_eq_true, Sum.inr.injEq, exists_eq_right', true_or, or_true, and_self, Int.cast_ofNat_Int, reduceCtorEq, or_false, false_or, false_and, and_false, jb_zero, lt7_0, lt7_1, lt7_2, lt7_3, lt7_4, lt7_5, lt7_6, c_X9_foresee_8, c_X9_foresee_7, him, ha, decide_true, f_tickOnce (RS_pf hS' F) (RF.b hF) hI, pz_tg, pz_ln, pz_gI, pz_gL, pz_gR, pz_aR, pz_aL, pz_aD, pzf_w, pzf_g, pf_w, pf_tg, pf_ln, pf_gR, pf_aI, pf_aR, pf_gL, pz_w, ↓reduceIte, ilt_t, ilt_f, ile_t, ile_f, ieq_t, ieq_f, jb_T, jb_F, jb_t, jb_f]
      exact ih mf (c + 1) _ (by omega) (by omega) (by omega) f1 (by rw [f3 1 (by omega) (by omega)]; exact hk) (by rw [f2]; omega) hv
    · rw [if_neg ha] at hv
      subst hv
      have e : fsr Z (2666 + 120 * k) = Z (2666 + 120 * k + 3) := if_neg ha
      rw [e]
      simp (disch := first | assumption | omega) only [RS_0, RS_1, RS_2, RS_3, RS_4, RS_5, RS_6, RS_7, RS_8, RS_9, RS_10, RS_11, RS_12, RS_13, RS_14, RS_15, RS_16, RS_17, RS_18, RS_19, RS_20, RS_21, RS_22, RS_23, RS_24, RS_25, RS_26, RS_27, RS_28, RS_29, RS_30, RS_31, RS_32, RS_33, RS_34, RS_35, RS_36, ji_add, ji_sub, ji_mul, ji_neg, ji_lit0, ji_ofNat, ji_lt, ji_le, ji_eq, ji_nat, ji_in, ji_rem, ji_div, jl_of, xl_lt, xl_gt, xl_eq, qV_at, qI_at, qJ_at, qD_at, qA_at, qA_no, nb0, nb1, cat_r, cat_i, Option.some.injEq, exists_eq_left', true_and, and_true, if_true, if_false, ite_not, not_true_eq_false, not_false_eq_true, Sum.inr.injEq, exists_eq_right', true_or, or_true, and_self, Int.cast_ofNat_Int, reduceCtorEq, or_false, false_or, false_and, and_false, jb_zero, lt7_0, lt7_1, lt7_2, lt7_3, lt7_4, lt7_5, lt7_6, c_X9_foresee_8, c_X9_foresee_6, c_X9_foresee_5, him, ha, decide_false, Bool.false_eq_true, hof, f_fs66 hS hF k0 k1, pz_tg, pz_ln, pz_gI, pz_gL, pz_gR, pz_aR, pz_aL, pz_aD, pzf_w, pzf_g, pf_w, pf_tg, pf_ln, pf_gR, pf_aI, pf_aR, pf_gL, pz_w, ↓reduceIte, ilt_t, ilt_f, ile_t, ile_f, ieq_t, ieq_f, jb_T, jb_F, jb_t, jb_f]
theorem f_foresee (hS : RS μ m) (hF : RF F A) (hi : INV A) {a b l : Int} (a0 : 0 ≤ a) (a1 : a < A.1.2.2.1) (b0 : 0 ≤ b) (b1 : b < A.1.2.2.1) (l0 : 1 ≤ l) (l1 : l ≤ 200) : s_X9_foresee (pz (pf μ m F) m A.2.1) [.ref m, .int (ji a), .int (ji b), .int (ji l)] Q X = Q (some (.int (ji (fsr (fcp A.1.1 A.1.2.1 A.1.2.2.1 A.1.2.2.2 A.2.1 a b l) (2666 + 120 * A.2.1 1))))) (pz (pf (pb μ m 15 A.2.1) m (fu F 305 (fcp A.1.1 A.1.2.1 A.1.2.2.1 A.1.2.2.2 A.2.1 a b l (2666 + 120 * A.2.1 1 + 5)))) m A.2.1) := by
  have hbw := hi.1.1.1.1
  have hbz := hi.1.1.1.2.1
  have htm := hi.1.2.1
  have hpk := hi.1.2.2.1
  have hS' := RS_pb hS 15 A.2.1
  have ha := fun Q X => f_addPacket (Q := Q) (X := X) (μ := pf (pb μ m 15 A.2.1) m F) (m := m) (Z := A.2.1) (a := a) (b := b) (l := l) (RS_pf hS' _) (RF.b hF) (by omega) (by omega) a0 (by omega)
  obtain ⟨f1, f2⟩ := zadd_f (Z := A.2.1) (a := a) (b := b) (l := l) (by omega) a0 (by omega)
  have g1 := hi.1.1.add (by omega) (by omega) a0 a1 b0 b1 l0 l1
  simp (disch := first | assumption | omega) only [RS_0, RS_1, RS_2, RS_3, RS_4, RS_5, RS_6, RS_7, RS_8, RS_9, RS_10, RS_11, RS_12, RS_13, RS_14, RS_15, RS_16, RS_17, RS_18, RS_19, RS_20, RS_21, RS_22, RS_23, RS_24, RS_25, RS_26, RS_27, RS_28, RS_29, RS_30, RS_31, RS_32, RS_33, RS_34, RS_35, RS_36, ji_add, ji_sub, ji_mul, ji_neg, ji_lit0, ji_ofNat, ji_lt, ji_le, ji_eq, ji_nat, ji_in, ji_rem, ji_div, jl_of, xl_lt, xl_gt, xl_eq, qV_at, qI_at, qJ_at, qD_at, qA_at, qA_no, nb0, nb1, cat_r, cat_i, Option.some.injEq, exists_eq_left', true_and, and_true, if_true, if_false, ite_not, not_true_eq_false, not_false_eq_true, Sum.inr.injEq, exists_eq_right', true_or, or_true, and_self, Int.cast_ofNat_Int, reduceCtorEq, or_false, false_or, false_and, and_false, jb_zero, lt7_0, lt7_1, lt7_2, lt7_3, lt7_4, lt7_5, lt7_6, u_X9_foresee, c_X9_foresee_1, c_X9_foresee_2, f_aside hS, ha, l_X9_foresee_19, xseal_eq, pz_tg, pz_ln, pz_gI, pz_gL, pz_gR, pz_aR, pz_aL, pz_aD, pzf_w, pzf_g, pf_w, pf_tg, pf_ln, pf_gR, pf_aI, pf_aR, pf_gL, pz_w, ↓reduceIte, ilt_t, ilt_f, ile_t, ile_f, ieq_t, ieq_f, jb_T, jb_F, jb_t, jb_f]
  rw [f_fcz hS hF (k := A.2.1 1) (by omega) (by omega) 500 10000 0 _ (by omega) (by omega) (by omega) g1 (by rw [f1]; omega) (by rw [f2 0 (by omega) (by omega)]; omega) rfl]
  rfl
theorem r_fate (hM : MS μ m A) (hi : INV A) {a b l : Int} (a0 : -2147483648 ≤ a) (a1 : a < 2147483648) (b0 : -2147483648 ≤ b) (b1 : b < 2147483648) (l0 : -2147483648 ≤ l) (l1 : l < 2147483648) (hQ : RQ μ m Q (xFate A a b l)) : s_X9_fate μ [.ref m, .int (ji a), .int (ji b), .int (ji l)] Q X := by
  have hS := hM.1
  obtain ⟨F, hF, hR, e, -⟩ := hM.get
  rw [← e]
  have hno := fun Q X => f_noTwo (Q := Q) (X := X) (F := fu F 298 0) (Z := A.2.1) hS hF hi a0 a1 b0 b1
  unfold xFate op2 at hQ
  by_cases h1 : (0 ≤ a ∧ a < A.1.2.2.1) ∧ 0 ≤ b ∧ b < A.1.2.2.1
  · rw [if_pos h1] at hQ
    by_cases h2 : 1 ≤ l ∧ l ≤ 200
    · rw [if_pos h2] at hQ
      have hP := hQ.p rfl
      unfold vFate at hP
      by_cases h3 : a = b
      · subst h3
        rw [if_pos rfl] at hP
        simp (disch := first | assumption | omega) only [RS_0, RS_1, RS_2, RS_3, RS_4, RS_5, RS_6, RS_7, RS_8, RS_9, RS_10, RS_11, RS_12, RS_13, RS_14, RS_15, RS_16, RS_17, RS_18, RS_19, RS_20, RS_21, RS_22, RS_23, RS_24, RS_25, RS_26, RS_27, RS_28, RS_29, RS_30, RS_31, RS_32, RS_33, RS_34, RS_35, RS_36, ji_add, ji_sub, ji_mul, ji_neg, ji_lit0, ji_ofNat, ji_lt, ji_le, ji_eq, ji_nat, ji_in, ji_rem, ji_div, jl_of, xl_lt, xl_gt, xl_eq, qV_at, qI_at, qJ_at, qD_at, qA_at, qA_no, nb0, nb1, cat_r, cat_i, Option.some.injEq, exists_eq_left', true_and, and_true, if_true, if_false, ite_not, not_true_eq_false, not_false_eq_true, Sum.inr.injEq, exists_eq_right', true_or, or_true, and_self, Int.cast_ofNat_Int, reduceCtorEq, or_false, false_or, false_and, and_false, jb_zero, lt7_0, lt7_1, lt7_2, lt7_3, lt7_4, lt7_5, lt7_6, c_X9_fate_1, c_X9_fate_2, u_X9_fate, c_X9_fate_3, c_X9_fate_4, uj_X9_fate_32, hno, h1, h2, eq_self, f_inRange, f_t0 hS, pz_tg, pz_ln, pz_gI, pz_gL, pz_gR, pz_aR, pz_aL, pz_aD, pzf_w, pzf_g, pf_w, pf_tg, pf_ln, pf_gR, pf_aI, pf_aR, pf_gL, pz_w, ↓reduceIte, ilt_t, ilt_f, ile_t, ile_f, ieq_t, ieq_f, jb_T, jb_F, jb_t, jb_f]
        exact RP.stay (F := fu F 298 0) hS hF hR (fu_at _ _ _) hP
      · rw [if_neg h3] at hP
        have hfs := fun Q X => f_foresee (Q := Q) (X := X) (F := fu F 298 0) hS hF hi h1.1.1 h1.1.2 h1.2.1 h1.2.2 h2.1 h2.2
        simp (disch := first | assumption | omega) only [RS_0, RS_1, RS_2, RS_3, RS_4, RS_5, RS_6, RS_7, RS_8, RS_9, RS_10, RS_11, RS_12, RS_13, RS_14, RS_15, RS_16, RS_17, RS_18, RS_19, RS_20, RS_21, RS_22, RS_23, RS_24, RS_25, RS_26, RS_27, RS_28, RS_29, RS_30, RS_31, RS_32, RS_33, RS_34, RS_35, RS_36, ji_add, ji_sub, ji_mul, ji_neg, ji_lit0, ji_ofNat, ji_lt, ji_le, ji_eq, ji_nat, ji_in, ji_rem, ji_div, jl_of, xl_lt, xl_gt, xl_eq, qV_at, qI_at, qJ_at, qD_at, qA_at, qA_no, nb0, nb1, cat_r, cat_i, Option.some.injEq, exists_eq_left', true_and, and_true, if_true, if_false, ite_not, not_true_eq_false, not_false_eq_true, Sum.inr.injEq, exists_eq_right', true_or, or_true, and_self, Int.cast_ofNat_Int, reduceCtorEq, or_false, false_or, false_and, and_false, jb_zero, lt7_0, lt7_1, lt7_2, lt7_3, lt7_4, lt7_5, lt7_6, c_X9_fate_1, c_X9_fate_2, u_X9_fate, c_X9_fate_3, c_X9_fate_4, uj_X9_fate_32, hno, h1, h2, h3, f_inRange, f_t0 hS, hfs, pz_tg, pz_ln, pz_gI, pz_gL, pz_gR, pz_aR, pz_aL, pz_aD, pzf_w, pzf_g, pf_w, pf_tg, pf_ln, pf_gR, pf_aI, pf_aR, pf_gL, pz_w, ↓reduceIte, ilt_t, ilt_f, ile_t, ile_f, ieq_t, ieq_f, jb_T, jb_F, jb_t, jb_f]
        exact hP _ CH.all (MS.side (F := fu (fu F 298 0) 305 _) hS hF hR) (pzf_g.trans rfl)
    · rw [if_neg h2] at hQ
      have e : jb (1 ≤ l ∧ l ≤ 200) = ji 0 := jb_f _ h2
      simp (disch := first | assumption | omega) only [RS_0, RS_1, RS_2, RS_3, RS_4, RS_5, RS_6, RS_7, RS_8, RS_9, RS_10, RS_11, RS_12, RS_13, RS_14, RS_15, RS_16, RS_17, RS_18, RS_19, RS_20, RS_21, RS_22, RS_23, RS_24, RS_25, RS_26, RS_27, RS_28, RS_29, RS_30, RS_31, RS_32, RS_33, RS_34, RS_35, RS_36, ji_add, ji_sub, ji_mul, ji_neg, ji_lit0, ji_ofNat, ji_lt, ji_le, ji_eq, ji_nat, ji_in, ji_rem, ji_div, jl_of, xl_lt, xl_gt, xl_eq, qV_at, qI_at, qJ_at, qD_at, qA_at, qA_no, nb0, nb1, cat_r, cat_i, Option.some.injEq, exists_eq_left', true_and, and_true, if_true, if_false, ite_not, not_true_eq_false, not_false_eq_true, Sum.inr.injEq, exists_eq_right', true_or, or_true, and_self, Int.cast_ofNat_Int, reduceCtorEq, or_false, false_or, false_and, and_false, jb_zero, lt7_0, lt7_1, lt7_2, lt7_3, lt7_4, lt7_5, lt7_6, c_X9_fate_1, c_X9_fate_2, u_X9_fate, c_X9_fate_3, c_X9_fate_4, uj_X9_fate_32, hno, h1, f_inRange, e, f_t1 hS, pz_tg, pz_ln, pz_gI, pz_gL, pz_gR, pz_aR, pz_aL, pz_aD, pzf_w, pzf_g, pf_w, pf_tg, pf_ln, pf_gR, pf_aI, pf_aR, pf_gL, pz_w, ↓reduceIte, ilt_t, ilt_f, ile_t, ile_f, ieq_t, ieq_f, jb_T, jb_F, jb_t, jb_f]
      exact RQ.thr (F := fu F 298 0) hS hF hR (by decide) hQ _
  · rw [if_neg h1] at hQ
    simp (disch := first | assumption | omega) only [RS_0, RS_1, RS_2, RS_3, RS_4, RS_5, RS_6, RS_7, RS_8, RS_9, RS_10, RS_11, RS_12, RS_13, RS_14, RS_15, RS_16, RS_17, RS_18, RS_19, RS_20, RS_21, RS_22, RS_23, RS_24, RS_25, RS_26, RS_27, RS_28, RS_29, RS_30, RS_31, RS_32, RS_33, RS_34, RS_35, RS_36, ji_add, ji_sub, ji_mul, ji_neg, ji_lit0, ji_ofNat, ji_lt, ji_le, ji_eq, ji_nat, ji_in, ji_rem, ji_div, jl_of, xl_lt, xl_gt, xl_eq, qV_at, qI_at, qJ_at, qD_at, qA_at, qA_no, nb0, nb1, cat_r, cat_i, Option.some.injEq, exists_eq_left', true_and, and_true, if_true, if_false, ite_not, not_true_eq_false, not_false_eq_true, Sum.inr.injEq, exists_eq_right', true_or, or_true, and_self, Int.cast_ofNat_Int, reduceCtorEq, or_false, false_or, false_and, and_false, jb_zero, lt7_0, lt7_1, lt7_2, lt7_3, lt7_4, lt7_5, lt7_6, c_X9_fate_1, c_X9_fate_2, u_X9_fate, c_X9_fate_3, c_X9_fate_4, uj_X9_fate_32, hno, h1, pz_tg, pz_ln, pz_gI, pz_gL, pz_gR, pz_aR, pz_aL, pz_aD, pzf_w, pzf_g, pf_w, pf_tg, pf_ln, pf_gR, pf_aI, pf_aR, pf_gL, pz_w, ↓reduceIte, ilt_t, ilt_f, ile_t, ile_f, ieq_t, ieq_f, jb_T, jb_F, jb_t, jb_f]
    exact RQ.thr (F := fu F 298 0) hS hF hR (by decide) hQ _
theorem r_least (hM : MS μ m A) (hi : INV A) {a b : Int} (a0 : -2147483648 ≤ a) (a1 : a < 2147483648) (b0 : -2147483648 ≤ b) (b1 : b < 2147483648) (hQ : RQ μ m Q (xLeast A a b)) : s_X9_leastLimit μ [.ref m, .int (ji a), .int (ji b)] Q X := by
  have hS := hM.1
  obtain ⟨F, hF, hR, e, -⟩ := hM.get
  rw [← e]
  have hno := fun Q X => f_noTwo (Q := Q) (X := X) (F := fu F 298 0) (Z := A.2.1) hS hF hi a0 a1 b0 b1
  unfold xLeast op1 at hQ
  by_cases h1 : (0 ≤ a ∧ a < A.1.2.2.1) ∧ 0 ≤ b ∧ b < A.1.2.2.1
  · rw [if_pos h1] at hQ
    have hP := hQ.p rfl
    unfold vLeast at hP
    by_cases h3 : a = b
    · subst h3
      rw [if_pos rfl] at hP
      simp (disch := first | assumption | omega) only [RS_0, RS_1, RS_2, RS_3, RS_4, RS_5, RS_6, RS_7, RS_8, RS_9, RS_10, RS_11, RS_12, RS_13, RS_14, RS_15, RS_16, RS_17, RS_18, RS_19, RS_20, RS_21, RS_22, RS_23, RS_24, RS_25, RS_26, RS_27, RS_28, RS_29, RS_30, RS_31, RS_32, RS_33, RS_34, RS_35, RS_36, ji_add, ji_sub, ji_mul, ji_neg, ji_lit0, ji_ofNat, ji_lt, ji_le, ji_eq, ji_nat, ji_in, ji_rem, ji_div, jl_of, xl_lt, xl_gt, xl_eq, qV_at, qI_at, qJ_at, qD_at, qA_at, qA_no, nb0, nb1, cat_r, cat_i, Option.some.injEq, exists_eq_left', true_and, and_true, if_true, if_false, ite_not, not_true_eq_false, not_false_eq_true, Sum.inr.injEq, exists_eq_right', true_or, or_true, and_self, Int.cast_ofNat_Int, reduceCtorEq, or_false, false_or, false_and, and_false, jb_zero, lt7_0, lt7_1, lt7_2, lt7_3, lt7_4, lt7_5, lt7_6, c_X9_leastLimit_1, c_X9_leastLimit_2, u_X9_leastLimit, hno, h1, eq_self, pz_tg, pz_ln, pz_gI, pz_gL, pz_gR, pz_aR, pz_aL, pz_aD, pzf_w, pzf_g, pf_w, pf_tg, pf_ln, pf_gR, pf_aI, pf_aR, pf_gL, pz_w, ↓reduceIte, ilt_t, ilt_f, ile_t, ile_f, ieq_t, ieq_f, jb_T, jb_F, jb_t, jb_f]
      exact RP.stay (F := fu F 298 0) hS hF hR (fu_at _ _ _) hP
    · rw [if_neg h3] at hP
      have hfs := fun Q X => f_foresee (Q := Q) (X := X) (F := fu F 298 0) hS hF hi h1.1.1 h1.1.2 h1.2.1 h1.2.2 (l := 200) (by omega) (by omega)
      have hq := hP _ CH.all (MS.side (F := fu (fu F 298 0) 305 (fcp A.1.1 A.1.2.1 A.1.2.2.1 A.1.2.2.2 A.2.1 a b 200 (2666 + 120 * A.2.1 1 + 5))) hS hF hR) (pzf_g.trans rfl)
      have hS' := RS_pb hS 15 A.2.1
      by_cases h5 : fcp A.1.1 A.1.2.1 A.1.2.2.1 A.1.2.2.2 A.2.1 a b 200 (2666 + 120 * A.2.1 1 + 3) = 3
      · have h6 : fsr (fcp A.1.1 A.1.2.1 A.1.2.2.1 A.1.2.2.2 A.2.1 a b 200) (2666 + 120 * A.2.1 1) = 3 := by unfold fsr; rw [h5]; rfl
        rw [if_pos h5] at hq
        simp (disch := first | assumption | omega) only [RS_0, RS_1, RS_2, RS_3, RS_4, RS_5, RS_6, RS_7, RS_8, RS_9, RS_10, RS_11, RS_12, RS_13, RS_14, RS_15, RS_16, RS_17, RS_18, RS_19, RS_20, RS_21, RS_22, RS_23, RS_24, RS_25, RS_26, RS_27, RS_28, RS_29, RS_30, RS_31, RS_32, RS_33, RS_34, RS_35, RS_36, ji_add, ji_sub, ji_mul, ji_neg, ji_lit0, ji_ofNat, ji_lt, ji_le, ji_eq, ji_nat, ji_in, ji_rem, ji_div, jl_of, xl_lt, xl_gt, xl_eq, qV_at, qI_at, qJ_at, qD_at, qA_at, qA_no, nb0, nb1, cat_r, cat_i, Option.some.injEq, exists_eq_left', true_and, and_true, if_true, if_false, ite_not, not_true_eq_false, not_false_eq_true, Sum.inr.injEq, exists_eq_right', true_or, or_true, and_self, Int.cast_ofNat_Int, reduceCtorEq, or_false, false_or, false_and, and_false, jb_zero, lt7_0, lt7_1, lt7_2, lt7_3, lt7_4, lt7_5, lt7_6, c_X9_leastLimit_1, c_X9_leastLimit_2, u_X9_leastLimit, hno, h1, h3, hfs, h6, fu_at, pz_tg, pz_ln, pz_gI, pz_gL, pz_gR, pz_aR, pz_aL, pz_aD, pzf_w, pzf_g, pf_w, pf_tg, pf_ln, pf_gR, pf_aI, pf_aR, pf_gL, pz_w, ↓reduceIte, ilt_t, ilt_f, ile_t, ile_f, ieq_t, ieq_f, jb_T, jb_F, jb_t, jb_f]
        exact hq
      · have h6 : ji (fsr (fcp A.1.1 A.1.2.1 A.1.2.2.1 A.1.2.2.2 A.2.1 a b 200) (2666 + 120 * A.2.1 1)) = ji 3 ↔ False := by
          have hb : ∀ (n : Nat) (Z : Int → Int), IV A.1.1 A.1.2.1 A.1.2.2.1 A.1.2.2.2 Z → Z 0 + n ≤ 31000 → A.2.1 1 < Z 1 → 0 ≤ fcz A.1.1 A.1.2.1 A.1.2.2.1 A.1.2.2.2 (2666 + 120 * A.2.1 1) n Z (2666 + 120 * A.2.1 1 + 3) ∧ fcz A.1.1 A.1.2.1 A.1.2.2.1 A.1.2.2.2 (2666 + 120 * A.2.1 1) n Z (2666 + 120 * A.2.1 1 + 3) ≤ 5 := by
            intro n
            induction n with
            | zero =>
              intro Z hI hz hk
              have := (BD_p hI.1 (A.2.1 1) (by have := hi.1.1.1.2.1; omega) hk).1
              unfold fcz
              omega
            | succ n ih =>
              intro Z hI hz hk
              unfold fcz
              split
              · obtain ⟨f1, f2, f3⟩ := tk_f hI (by omega)
                exact ih _ f1 (by rw [f2]; omega) (by rw [f3 1 (by omega) (by omega)]; exact hk)
              · have := (BD_p hI.1 (A.2.1 1) (by have := hi.1.1.1.2.1; omega) hk).1
                omega
          have hbz := hi.1.1.1.2.1
          have hbw := hi.1.1.1.1
          have htm := hi.1.2.1
          obtain ⟨f1, f2⟩ := zadd_f (Z := A.2.1) (a := a) (b := b) (l := 200) (by omega) h1.1.1 (by omega)
          have hbb := hb 500 (zadd A.2.1 a b 200) (hi.1.1.add (by have := hi.1.2.2.1; omega) (by omega) h1.1.1 h1.1.2 h1.2.1 h1.2.2 (by omega) (by omega)) (by rw [f2 0 (by omega) (by omega)]; omega) (by rw [f1]; omega)
          have hbb' : 0 ≤ fcp A.1.1 A.1.2.1 A.1.2.2.1 A.1.2.2.2 A.2.1 a b 200 (2666 + 120 * A.2.1 1 + 3) ∧ fcp A.1.1 A.1.2.1 A.1.2.2.1 A.1.2.2.2 A.2.1 a b 200 (2666 + 120 * A.2.1 1 + 3) ≤ 5 := hbb
          unfold fsr
          rw [ji_eq (by split <;> omega) (by split <;> omega) (by omega) (by omega)]
          constructor
          · intro q; split at q <;> omega
          · exact False.elim
        rw [if_neg h5] at hq
        simp (disch := first | assumption | omega) only [RS_0, RS_1, RS_2, RS_3, RS_4, RS_5, RS_6, RS_7, RS_8, RS_9, RS_10, RS_11, RS_12, RS_13, RS_14, RS_15, RS_16, RS_17, RS_18, RS_19, RS_20, RS_21, RS_22, RS_23, RS_24, RS_25, RS_26, RS_27, RS_28, RS_29, RS_30, RS_31, RS_32, RS_33, RS_34, RS_35, RS_36, ji_add, ji_sub, ji_mul, ji_neg, ji_lit0, ji_ofNat, ji_lt, ji_le, ji_eq, ji_nat, ji_in, ji_rem, ji_div, jl_of, xl_lt, xl_gt, xl_eq, qV_at, qI_at, qJ_at, qD_at, qA_at, qA_no, nb0, nb1, cat_r, cat_i, Option.some.injEq, exists_eq_left', true_and, and_true, if_true, if_false, ite_not, not_true_eq_false, not_false_eq_true, Sum.inr.injEq, exists_eq_right', true_or, or_true, and_self, Int.cast_ofNat_Int, reduceCtorEq, or_false, false_or, false_and, and_false, jb_zero, lt7_0, lt7_1, lt7_2, lt7_3, lt7_4, lt7_5, lt7_6, c_X9_leastLimit_1, c_X9_leastLimit_2, u_X9_leastLimit, hno, h1, h3, hfs, pz_tg, pz_ln, pz_gI, pz_gL, pz_gR, pz_aR, pz_aL, pz_aD, pzf_w, pzf_g, pf_w, pf_tg, pf_ln, pf_gR, pf_aI, pf_aR, pf_gL, pz_w, ↓reduceIte, ilt_t, ilt_f, ile_t, ile_f, ieq_t, ieq_f, jb_T, jb_F, jb_t, jb_f]
        rw [if_neg (fun q => h6.mp q)]
        exact hq
  · rw [if_neg h1] at hQ
    simp (disch := first | assumption | omega) only [RS_0, RS_1, RS_2, RS_3, RS_4, RS_5, RS_6, RS_7, RS_8, RS_9, RS_10, RS_11, RS_12, RS_13, RS_14, RS_15, RS_16, RS_17, RS_18, RS_19, RS_20, RS_21, RS_22, RS_23, RS_24, RS_25, RS_26, RS_27, RS_28, RS_29, RS_30, RS_31, RS_32, RS_33, RS_34, RS_35, RS_36, ji_add, ji_sub, ji_mul, ji_neg, ji_lit0, ji_ofNat, ji_lt, ji_le, ji_eq, ji_nat, ji_in, ji_rem, ji_div, jl_of, xl_lt, xl_gt, xl_eq, qV_at, qI_at, qJ_at, qD_at, qA_at, qA_no, nb0, nb1, cat_r, cat_i, Option.some.injEq, exists_eq_left', true_and, and_true, if_true, if_false, ite_not, not_true_eq_false, not_false_eq_true, Sum.inr.injEq, exists_eq_right', true_or, or_true, and_self, Int.cast_ofNat_Int, reduceCtorEq, or_false, false_or, false_and, and_false, jb_zero, lt7_0, lt7_1, lt7_2, lt7_3, lt7_4, lt7_5, lt7_6, c_X9_leastLimit_1, c_X9_leastLimit_2, u_X9_leastLimit, hno, h1, pz_tg, pz_ln, pz_gI, pz_gL, pz_gR, pz_aR, pz_aL, pz_aD, pzf_w, pzf_g, pf_w, pf_tg, pf_ln, pf_gR, pf_aI, pf_aR, pf_gL, pz_w, ↓reduceIte, ilt_t, ilt_f, ile_t, ile_f, ieq_t, ieq_f, jb_T, jb_F, jb_t, jb_f]
    exact RQ.thr (F := fu F 298 0) hS hF hR (by decide) hQ _
end
