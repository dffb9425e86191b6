/-! ===== the reference: questions by layers ===== -/
section
variable {μ ν : XM} {m : Nat} {Q : XQ} {X : XX} {A : AS} {w h N s f : Int} {Z : Int → Int} {C : Nat → Prop}
theorem eK_0 {w h s f : Int} {Z : Int → Int} : eK w h s Z 0 f = eA w h Z := by funext n y; exact if_pos rfl
theorem eK_1 {w h s f : Int} {Z : Int → Int} : eK w h s Z 1 f = eB w h s Z f := by funext n y; exact if_neg (by decide)
theorem CH.row3 {y : XM} (c : CH (fun a => a = m + 3) y ν) : CH (inR m) y ν := c.mono (fun a ha => by unfold inR; omega)
theorem CH.rM {y : XM} (c : CH (inR m) y ν) : CH (inM m) y ν := c.mono (fun a ha => by unfold inR at ha; unfold inM; omega)
theorem MS.n0 (hM : MS ν m A) (c : CH (inR m) μ ν) (h0 : gI ν 298 m = ji 0) : gI μ 298 m = ji 0 := ((c.2 m (by unfold inR; omega)).1 298).trans h0
theorem r_shortest (hM : MS μ m A) (hi : INV A) {a b : Int} (a0 : -2147483648 ≤ a) (a1 : a < 2147483648) (b0 : -2147483648 ≤ b) (b1 : b < 2147483648) (hQ : RQ μ m Q (xShortest A a b)) : s_X9_shortest μ [.ref m, .int (ji a), .int (ji b)] Q X := by
  have hS := hM.1
  have hB := hi.1.1.1
  have hz := hB.z
  have hw := hB.1
  have hbz := hB.2.1
  rw [u_X9_shortest]
  refine ⟨RS_0 hS, ?_⟩
  obtain ⟨hS1, hR1, hM1, h0, c⟩ := hM.nul hi
  generalize sI μ 298 m (ji 0) = ν at *
  unfold xShortest op1 at hQ
  by_cases hn : (0 ≤ a ∧ a < A.1.2.2.1) ∧ 0 ≤ b ∧ b < A.1.2.2.1
  · rw [if_pos hn] at hQ
    have hw := hB.1
    simp (disch := first | assumption | omega) only [RS_0, RS_1, RS_2, RS_3, RS_4, RS_5, RS_6, RS_7, RS_8, RS_9, RS_10, RS_11, RS_12, RS_13, RS_14, RS_15, RS_16, RS_17, RS_18, RS_19, RS_20, RS_21, RS_22, RS_23, RS_24, RS_25, RS_26, RS_27, RS_28, RS_29, RS_30, RS_31, RS_32, RS_33, RS_34, RS_35, RS_36, ji_add, ji_sub, ji_mul, ji_neg, ji_lit0, ji_ofNat, ji_lt, ji_le, ji_eq, ji_nat, ji_in, ji_rem, ji_div, jl_of, xl_lt, xl_gt, xl_eq, qV_at, qI_at, qJ_at, qD_at, qA_at, qA_no, nb0, nb1, cat_r, cat_i, Option.some.injEq, exists_eq_left', true_and, and_true, if_true, if_false, ite_not, not_true_eq_false, not_false_eq_true, Sum.inr.injEq, exists_eq_right', true_or, or_true, and_self, Int.cast_ofNat_Int, reduceCtorEq, or_false, false_or, false_and, and_false, jb_zero, lt7_0, lt7_1, lt7_2, lt7_3, lt7_4, lt7_5, lt7_6, c_X9_shortest_1, c_X9_shortest_2, g_noTwo hS1 hR1 hi, hn, ↓reduceIte, ilt_t, ilt_f, ile_t, ile_f, ieq_t, ieq_f, jb_T, jb_F, jb_t, jb_f]
    refine f_layFar hS1 hR1 hB (Or.inl rfl) hn.1.1 hn.1.2 (fun y d y1 y2 y3 y4 => ?_)
    have hS2 := hS1.mono y1.1
    have hd := y2 b hn.2.1 (by omega)
    rw [eK_0] at y3
    have e : hpA A.1.1 A.1.2.1 A.1.2.2.1 A.2.1 a b = d b := hop_eq y3 hn.2.1 hn.2.2
    rw [e] at hQ
    simp (disch := first | assumption | omega) only [RS_0, RS_1, RS_2, RS_3, RS_4, RS_5, RS_6, RS_7, RS_8, RS_9, RS_10, RS_11, RS_12, RS_13, RS_14, RS_15, RS_16, RS_17, RS_18, RS_19, RS_20, RS_21, RS_22, RS_23, RS_24, RS_25, RS_26, RS_27, RS_28, RS_29, RS_30, RS_31, RS_32, RS_33, RS_34, RS_35, RS_36, ji_add, ji_sub, ji_mul, ji_neg, ji_lit0, ji_ofNat, ji_lt, ji_le, ji_eq, ji_nat, ji_in, ji_rem, ji_div, jl_of, xl_lt, xl_gt, xl_eq, qV_at, qI_at, qJ_at, qD_at, qA_at, qA_no, nb0, nb1, cat_r, cat_i, Option.some.injEq, exists_eq_left', true_and, and_true, if_true, if_false, ite_not, not_true_eq_false, not_false_eq_true, Sum.inr.injEq, exists_eq_right', true_or, or_true, and_self, Int.cast_ofNat_Int, reduceCtorEq, or_false, false_or, false_and, and_false, jb_zero, lt7_0, lt7_1, lt7_2, lt7_3, lt7_4, lt7_5, lt7_6, c_X9_shortest_1, c_X9_shortest_2, hd, ↓reduceIte, ilt_t, ilt_f, ile_t, ile_f, ieq_t, ieq_f, jb_T, jb_F, jb_t, jb_f]
    exact hQ.a (CH.trans y1.row3.rM c) (hM1.rows y1.row3) (hM1.n0 y1.row3 h0)
  · rw [if_neg hn] at hQ
    simp (disch := first | assumption | omega) only [RS_0, RS_1, RS_2, RS_3, RS_4, RS_5, RS_6, RS_7, RS_8, RS_9, RS_10, RS_11, RS_12, RS_13, RS_14, RS_15, RS_16, RS_17, RS_18, RS_19, RS_20, RS_21, RS_22, RS_23, RS_24, RS_25, RS_26, RS_27, RS_28, RS_29, RS_30, RS_31, RS_32, RS_33, RS_34, RS_35, RS_36, ji_add, ji_sub, ji_mul, ji_neg, ji_lit0, ji_ofNat, ji_lt, ji_le, ji_eq, ji_nat, ji_in, ji_rem, ji_div, jl_of, xl_lt, xl_gt, xl_eq, qV_at, qI_at, qJ_at, qD_at, qA_at, qA_no, nb0, nb1, cat_r, cat_i, Option.some.injEq, exists_eq_left', true_and, and_true, if_true, if_false, ite_not, not_true_eq_false, not_false_eq_true, Sum.inr.injEq, exists_eq_right', true_or, or_true, and_self, Int.cast_ofNat_Int, reduceCtorEq, or_false, false_or, false_and, and_false, jb_zero, lt7_0, lt7_1, lt7_2, lt7_3, lt7_4, lt7_5, lt7_6, c_X9_shortest_1, c_X9_shortest_2, g_noTwo hS1 hR1 hi, hn, ↓reduceIte, ilt_t, ilt_f, ile_t, ile_f, ieq_t, ieq_f, jb_T, jb_F, jb_t, jb_f]
    exact hQ.x (by decide) c hM1 _
theorem r_believed (hM : MS μ m A) (hi : INV A) {a b : Int} (a0 : -2147483648 ≤ a) (a1 : a < 2147483648) (b0 : -2147483648 ≤ b) (b1 : b < 2147483648) (hQ : RQ μ m Q (xBelieved A a b)) : s_X9_believed μ [.ref m, .int (ji a), .int (ji b)] Q X := by
  have hS := hM.1
  have hB := hi.1.1.1
  have hz := hB.z
  have hw := hB.1
  have hbz := hB.2.1
  rw [u_X9_believed]
  refine ⟨RS_0 hS, ?_⟩
  obtain ⟨hS1, hR1, hM1, h0, c⟩ := hM.nul hi
  generalize sI μ 298 m (ji 0) = ν at *
  unfold xBelieved op1 at hQ
  by_cases hn : (0 ≤ a ∧ a < A.1.2.2.1) ∧ 0 ≤ b ∧ b < A.1.2.2.1
  · rw [if_pos hn] at hQ
    have hw := hB.1
    simp (disch := first | assumption | omega) only [RS_0, RS_1, RS_2, RS_3, RS_4, RS_5, RS_6, RS_7, RS_8, RS_9, RS_10, RS_11, RS_12, RS_13, RS_14, RS_15, RS_16, RS_17, RS_18, RS_19, RS_20, RS_21, RS_22, RS_23, RS_24, RS_25, RS_26, RS_27, RS_28, RS_29, RS_30, RS_31, RS_32, RS_33, RS_34, RS_35, RS_36, ji_add, ji_sub, ji_mul, ji_neg, ji_lit0, ji_ofNat, ji_lt, ji_le, ji_eq, ji_nat, ji_in, ji_rem, ji_div, jl_of, xl_lt, xl_gt, xl_eq, qV_at, qI_at, qJ_at, qD_at, qA_at, qA_no, nb0, nb1, cat_r, cat_i, Option.some.injEq, exists_eq_left', true_and, and_true, if_true, if_false, ite_not, not_true_eq_false, not_false_eq_true, Sum.inr.injEq, exists_eq_right', true_or, or_true, and_self, Int.cast_ofNat_Int, reduceCtorEq, or_false, false_or, false_and, and_false, jb_zero, lt7_0, lt7_1, lt7_2, lt7_3, lt7_4, lt7_5, lt7_6, c_X9_believed_1, c_X9_believed_2, g_noTwo hS1 hR1 hi, hn, ↓reduceIte, ilt_t, ilt_f, ile_t, ile_f, ieq_t, ieq_f, jb_T, jb_F, jb_t, jb_f]
    refine f_layFar hS1 hR1 hB (Or.inr rfl) hn.1.1 hn.1.2 (fun y d y1 y2 y3 y4 => ?_)
    have hS2 := hS1.mono y1.1
    have hd := y2 b hn.2.1 (by omega)
    rw [eK_1] at y3
    have e : hpB A.1.1 A.1.2.1 A.1.2.2.1 A.1.2.2.2 A.2.1 a b = d b := hop_eq y3 hn.2.1 hn.2.2
    rw [e] at hQ
    simp (disch := first | assumption | omega) only [RS_0, RS_1, RS_2, RS_3, RS_4, RS_5, RS_6, RS_7, RS_8, RS_9, RS_10, RS_11, RS_12, RS_13, RS_14, RS_15, RS_16, RS_17, RS_18, RS_19, RS_20, RS_21, RS_22, RS_23, RS_24, RS_25, RS_26, RS_27, RS_28, RS_29, RS_30, RS_31, RS_32, RS_33, RS_34, RS_35, RS_36, ji_add, ji_sub, ji_mul, ji_neg, ji_lit0, ji_ofNat, ji_lt, ji_le, ji_eq, ji_nat, ji_in, ji_rem, ji_div, jl_of, xl_lt, xl_gt, xl_eq, qV_at, qI_at, qJ_at, qD_at, qA_at, qA_no, nb0, nb1, cat_r, cat_i, Option.some.injEq, exists_eq_left', true_and, and_true, if_true, if_false, ite_not, not_true_eq_false, not_false_eq_true, Sum.inr.injEq, exists_eq_right', true_or, or_true, and_self, Int.cast_ofNat_Int, reduceCtorEq, or_false, false_or, false_and, and_false, jb_zero, lt7_0, lt7_1, lt7_2, lt7_3, lt7_4, lt7_5, lt7_6, c_X9_believed_1, c_X9_believed_2, hd, ↓reduceIte, ilt_t, ilt_f, ile_t, ile_f, ieq_t, ieq_f, jb_T, jb_F, jb_t, jb_f]
    exact hQ.a (CH.trans y1.row3.rM c) (hM1.rows y1.row3) (hM1.n0 y1.row3 h0)
  · rw [if_neg hn] at hQ
    simp (disch := first | assumption | omega) only [RS_0, RS_1, RS_2, RS_3, RS_4, RS_5, RS_6, RS_7, RS_8, RS_9, RS_10, RS_11, RS_12, RS_13, RS_14, RS_15, RS_16, RS_17, RS_18, RS_19, RS_20, RS_21, RS_22, RS_23, RS_24, RS_25, RS_26, RS_27, RS_28, RS_29, RS_30, RS_31, RS_32, RS_33, RS_34, RS_35, RS_36, ji_add, ji_sub, ji_mul, ji_neg, ji_lit0, ji_ofNat, ji_lt, ji_le, ji_eq, ji_nat, ji_in, ji_rem, ji_div, jl_of, xl_lt, xl_gt, xl_eq, qV_at, qI_at, qJ_at, qD_at, qA_at, qA_no, nb0, nb1, cat_r, cat_i, Option.some.injEq, exists_eq_left', true_and, and_true, if_true, if_false, ite_not, not_true_eq_false, not_false_eq_true, Sum.inr.injEq, exists_eq_right', true_or, or_true, and_self, Int.cast_ofNat_Int, reduceCtorEq, or_false, false_or, false_and, and_false, jb_zero, lt7_0, lt7_1, lt7_2, lt7_3, lt7_4, lt7_5, lt7_6, c_X9_believed_1, c_X9_believed_2, g_noTwo hS1 hR1 hi, hn, ↓reduceIte, ilt_t, ilt_f, ile_t, ile_f, ieq_t, ieq_f, jb_T, jb_F, jb_t, jb_f]
    exact hQ.x (by decide) c hM1 _
theorem r_farthest (hM : MS μ m A) (hi : INV A) {a : Int} (a0 : -2147483648 ≤ a) (a1 : a < 2147483648) (hQ : RQ μ m Q (xFarthest A a)) : s_X9_farthest μ [.ref m, .int (ji a)] Q X := by
  have hS := hM.1
  have hB := hi.1.1.1
  have hz := hB.z
  have hw := hB.1
  have hbz := hB.2.1
  rw [u_X9_farthest]
  refine ⟨RS_0 hS, ?_⟩
  obtain ⟨hS1, hR1, hM1, h0, c⟩ := hM.nul hi
  generalize sI μ 298 m (ji 0) = ν at *
  unfold xFarthest op1 at hQ
  by_cases hn : 0 ≤ a ∧ a < A.1.2.2.1
  · rw [if_pos hn] at hQ
    have hw' := hB.1
    simp (disch := first | assumption | omega) only [RS_0, RS_1, RS_2, RS_3, RS_4, RS_5, RS_6, RS_7, RS_8, RS_9, RS_10, RS_11, RS_12, RS_13, RS_14, RS_15, RS_16, RS_17, RS_18, RS_19, RS_20, RS_21, RS_22, RS_23, RS_24, RS_25, RS_26, RS_27, RS_28, RS_29, RS_30, RS_31, RS_32, RS_33, RS_34, RS_35, RS_36, ji_add, ji_sub, ji_mul, ji_neg, ji_lit0, ji_ofNat, ji_lt, ji_le, ji_eq, ji_nat, ji_in, ji_rem, ji_div, jl_of, xl_lt, xl_gt, xl_eq, qV_at, qI_at, qJ_at, qD_at, qA_at, qA_no, nb0, nb1, cat_r, cat_i, Option.some.injEq, exists_eq_left', true_and, and_true, if_true, if_false, ite_not, not_true_eq_false, not_false_eq_true, Sum.inr.injEq, exists_eq_right', true_or, or_true, and_self, Int.cast_ofNat_Int, reduceCtorEq, or_false, false_or, false_and, and_false, jb_zero, lt7_0, lt7_1, lt7_2, lt7_3, lt7_4, lt7_5, lt7_6, uj_X9_farthest_19, c_X9_farthest_1, c_X9_farthest_2, c_X9_farthest_3, uj_X9_farthest_19, c_X9_farthest_4, g_isNode hS1 hR1 hi, hn, g_t0 hS1, ↓reduceIte, ilt_t, ilt_f, ile_t, ile_f, ieq_t, ieq_f, jb_T, jb_F, jb_t, jb_f]
    refine f_layFar hS1 hR1 hB (Or.inl rfl) hn.1 hn.2 (fun y d y1 y2 y3 y4 => ?_)
    have hS2 := hS1.mono y1.1
    have hR2 := hR1.rows y1 (by omega) (by omega)
    rw [eK_0] at y3
    have e : ∀ n, 0 ≤ n → n < A.1.2.2.1 → hpA A.1.1 A.1.2.1 A.1.2.2.1 A.2.1 a n = d n := fun n n0 n1 => hop_eq y3 n0 n1
    have hq := hQ.a (CH.trans y1.row3.rM c) (hM1.rows y1.row3) (hM1.n0 y1.row3 h0)
    have nn := fun (Q : XQ) X => f_nodes (Q := Q) (X := X) hS2 hR2 hz.g.2.2.2.2.2.2
    show l_X9_farthest_38 Q X [some (.ref m), none, some (.int (ji a)), some (.int (ji 0))] [] y 0 0
    rw [l_X9_farthest_38, xseal_eq]
    refine imp_loop (fun mf (u : Int) l => ln_X9_farthest_38 Q X mf [some (.ref m), none, some (.int (ji u)), some (.int (ji l))] [] y 0 0) (fun l u => (0 ≤ u ∧ u < A.1.2.2.1 ∧ 0 ≤ d u) ∧ (foldz (fag A.1.1 A.1.2.1 A.1.2.2.1 A.2.1 a) l (A.1.2.2.1 - l).toNat (u, d u)).1 = far A.1.1 A.1.2.1 A.1.2.2.1 A.2.1 a) A.1.2.2.1 (fun mf u hu => ?_) (fun mf u l l0 l1 hu hn => ?_) A.1.2.2.1.toNat 10000 0 a (by omega) (by omega) (by omega) ⟨⟨hn.1, hn.2, by rw [y3.1.1]; omega⟩, by rw [show (A.1.2.2.1 - 0).toNat = A.1.2.2.1.toNat by omega, y3.1.1]; rfl⟩
    · show ln_X9_farthest_38 Q X (mf + 1) [some (.ref m), none, some (.int (ji u)), some (.int (ji A.1.2.2.1))] [] y 0 0
      rw [ul_X9_farthest_38]
      have := hu.2
      rw [show (A.1.2.2.1 - A.1.2.2.1).toNat = 0 by omega] at this
      have this : u = far A.1.1 A.1.2.1 A.1.2.2.1 A.2.1 a := this
      rw [← this] at hq
      simp (disch := first | assumption | omega) only [RS_0, RS_1, RS_2, RS_3, RS_4, RS_5, RS_6, RS_7, RS_8, RS_9, RS_10, RS_11, RS_12, RS_13, RS_14, RS_15, RS_16, RS_17, RS_18, RS_19, RS_20, RS_21, RS_22, RS_23, RS_24, RS_25, RS_26, RS_27, RS_28, RS_29, RS_30, RS_31, RS_32, RS_33, RS_34, RS_35, RS_36, ji_add, ji_sub, ji_mul, ji_neg, ji_lit0, ji_ofNat, ji_lt, ji_le, ji_eq, ji_nat, ji_in, ji_rem, ji_div, jl_of, xl_lt, xl_gt, xl_eq, qV_at, qI_at, qJ_at, qD_at, qA_at, qA_no, nb0, nb1, cat_r, cat_i, Option.some.injEq, exists_eq_left', true_and, and_true, if_true, if_false, ite_not, not_true_eq_false, not_false_eq_true, Sum.inr.injEq, exists_eq_right', true_or, or_true, and_self, Int.cast_ofNat_Int, reduceCtorEq, or_false, false_or, false_and, and_false, jb_zero, lt7_0, lt7_1, lt7_2, lt7_3, lt7_4, lt7_5, lt7_6, c_X9_farthest_1, c_X9_farthest_2, c_X9_farthest_3, uj_X9_farthest_19, c_X9_farthest_4, nn, ↓reduceIte, ilt_t, ilt_f, ile_t, ile_f, ieq_t, ieq_f, jb_T, jb_F, jb_t, jb_f]
      exact hq
    · obtain ⟨hb, hf⟩ := hu
      show ln_X9_farthest_38 Q X (mf + 1) [some (.ref m), none, some (.int (ji u)), some (.int (ji l))] [] y 0 0
      have hd := y3.lt l0 l1
      have hd2 := y3.1.2.1 l l0 l1
      have ud := y3.lt hb.1 hb.2.1
      have t1 := y2 l l0 (by omega)
      have t2 := y2 u hb.1 (by omega)
      rw [show (A.1.2.2.1 - l).toNat = (A.1.2.2.1 - (l + 1)).toNat + 1 by omega, foldz] at hf
      unfold fag at hf
      simp only [e l l0 l1] at hf
      rw [ul_X9_farthest_38]
      by_cases hm : d u < d l
      · rw [if_pos hm] at hf
        simp (disch := first | assumption | omega) only [RS_0, RS_1, RS_2, RS_3, RS_4, RS_5, RS_6, RS_7, RS_8, RS_9, RS_10, RS_11, RS_12, RS_13, RS_14, RS_15, RS_16, RS_17, RS_18, RS_19, RS_20, RS_21, RS_22, RS_23, RS_24, RS_25, RS_26, RS_27, RS_28, RS_29, RS_30, RS_31, RS_32, RS_33, RS_34, RS_35, RS_36, ji_add, ji_sub, ji_mul, ji_neg, ji_lit0, ji_ofNat, ji_lt, ji_le, ji_eq, ji_nat, ji_in, ji_rem, ji_div, jl_of, xl_lt, xl_gt, xl_eq, qV_at, qI_at, qJ_at, qD_at, qA_at, qA_no, nb0, nb1, cat_r, cat_i, Option.some.injEq, exists_eq_left', true_and, and_true, if_true, if_false, ite_not, not_true_eq_false, not_false_eq_true, Sum.inr.injEq, exists_eq_right', true_or, or_true, and_self, Int.cast_ofNat_Int, reduceCtorEq, or_false, false_or, false_and, and_false, jb_zero, lt7_0, lt7_1, lt7_2, lt7_3, lt7_4, lt7_5, lt7_6, c_X9_farthest_1, c_X9_farthest_2, c_X9_farthest_3, uj_X9_farthest_19, c_X9_farthest_4, nn, t1, t2, hm, ↓reduceIte, ilt_t, ilt_f, ile_t, ile_f, ieq_t, ieq_f, jb_T, jb_F, jb_t, jb_f]
        exact hn l ⟨by omega, hf⟩
      · rw [if_neg hm] at hf
        simp (disch := first | assumption | omega) only [RS_0, RS_1, RS_2, RS_3, RS_4, RS_5, RS_6, RS_7, RS_8, RS_9, RS_10, RS_11, RS_12, RS_13, RS_14, RS_15, RS_16, RS_17, RS_18, RS_19, RS_20, RS_21, RS_22, RS_23, RS_24, RS_25, RS_26, RS_27, RS_28, RS_29, RS_30, RS_31, RS_32, RS_33, RS_34, RS_35, RS_36, ji_add, ji_sub, ji_mul, ji_neg, ji_lit0, ji_ofNat, ji_lt, ji_le, ji_eq, ji_nat, ji_in, ji_rem, ji_div, jl_of, xl_lt, xl_gt, xl_eq, qV_at, qI_at, qJ_at, qD_at, qA_at, qA_no, nb0, nb1, cat_r, cat_i, Option.some.injEq, exists_eq_left', true_and, and_true, if_true, if_false, ite_not, not_true_eq_false, not_false_eq_true, Sum.inr.injEq, exists_eq_right', true_or, or_true, and_self, Int.cast_ofNat_Int, reduceCtorEq, or_false, false_or, false_and, and_false, jb_zero, lt7_0, lt7_1, lt7_2, lt7_3, lt7_4, lt7_5, lt7_6, c_X9_farthest_1, c_X9_farthest_2, c_X9_farthest_3, uj_X9_farthest_19, c_X9_farthest_4, nn, t1, t2, hm, ↓reduceIte, ilt_t, ilt_f, ile_t, ile_f, ieq_t, ieq_f, jb_T, jb_F, jb_t, jb_f]
        exact hn u ⟨hb, hf⟩
  · rw [if_neg hn] at hQ
    simp (disch := first | assumption | omega) only [RS_0, RS_1, RS_2, RS_3, RS_4, RS_5, RS_6, RS_7, RS_8, RS_9, RS_10, RS_11, RS_12, RS_13, RS_14, RS_15, RS_16, RS_17, RS_18, RS_19, RS_20, RS_21, RS_22, RS_23, RS_24, RS_25, RS_26, RS_27, RS_28, RS_29, RS_30, RS_31, RS_32, RS_33, RS_34, RS_35, RS_36, ji_add, ji_sub, ji_mul, ji_neg, ji_lit0, ji_ofNat, ji_lt, ji_le, ji_eq, ji_nat, ji_in, ji_rem, ji_div, jl_of, xl_lt, xl_gt, xl_eq, qV_at, qI_at, qJ_at, qD_at, qA_at, qA_no, nb0, nb1, cat_r, cat_i, Option.some.injEq, exists_eq_left', true_and, and_true, if_true, if_false, ite_not, not_true_eq_false, not_false_eq_true, Sum.inr.injEq, exists_eq_right', true_or, or_true, and_self, Int.cast_ofNat_Int, reduceCtorEq, or_false, false_or, false_and, and_false, jb_zero, lt7_0, lt7_1, lt7_2, lt7_3, lt7_4, lt7_5, lt7_6, uj_X9_farthest_19, c_X9_farthest_1, c_X9_farthest_2, c_X9_farthest_3, uj_X9_farthest_19, c_X9_farthest_4, g_isNode hS1 hR1 hi, jb_eqf hn, g_t1 hS1, ↓reduceIte, ilt_t, ilt_f, ile_t, ile_f, ieq_t, ieq_f, jb_T, jb_F, jb_t, jb_f]
    exact hQ.x (by decide) c hM1 _
theorem r_parts (hM : MS μ m A) (hi : INV A) (hQ : RP μ m Q (xParts A)) : s_X9_parts μ [.ref m] Q X := by
  have hS := hM.1
  have hB := hi.1.1.1
  have hz := hB.z
  have hw := hB.1
  have hbz := hB.2.1
  rw [u_X9_parts]
  refine ⟨RS_0 hS, ?_⟩
  obtain ⟨hS1, hR1, hM1, h0, c⟩ := hM.nul hi
  generalize sI μ 298 m (ji 0) = ν at *
  have hw' := hB.1
  simp (disch := first | assumption | omega) only [RS_0, RS_1, RS_2, RS_3, RS_4, RS_5, RS_6, RS_7, RS_8, RS_9, RS_10, RS_11, RS_12, RS_13, RS_14, RS_15, RS_16, RS_17, RS_18, RS_19, RS_20, RS_21, RS_22, RS_23, RS_24, RS_25, RS_26, RS_27, RS_28, RS_29, RS_30, RS_31, RS_32, RS_33, RS_34, RS_35, RS_36, ji_add, ji_sub, ji_mul, ji_neg, ji_lit0, ji_ofNat, ji_lt, ji_le, ji_eq, ji_nat, ji_in, ji_rem, ji_div, jl_of, xl_lt, xl_gt, xl_eq, qV_at, qI_at, qJ_at, qD_at, qA_at, qA_no, nb0, nb1, cat_r, cat_i, Option.some.injEq, exists_eq_left', true_and, and_true, if_true, if_false, ite_not, not_true_eq_false, not_false_eq_true, Sum.inr.injEq, exists_eq_right', true_or, or_true, and_self, Int.cast_ofNat_Int, reduceCtorEq, or_false, false_or, false_and, and_false, jb_zero, lt7_0, lt7_1, lt7_2, lt7_3, lt7_4, lt7_5, lt7_6, c_X9_parts_1, ↓reduceIte, ilt_t, ilt_f, ile_t, ile_f, ieq_t, ieq_f, jb_T, jb_F, jb_t, jb_f]
  rw [u_X9_partsNow, l_X9_partsNow_4, xseal_eq]
  refine imp_loop (fun mf (y : XM) l => ln_X9_partsNow_4 (qI (c_X9_parts_1 Q)) (fun _ _ => False) mf [some (.ref m), some (.int (ji 0)), some (.int (ji l)), none] [] y 0 0) (fun l y => CH (inR m) y ν ∧ MR y (m + 6) l.toNat (fun _ => -1)) 36 (fun mf y hy => ?_) (fun mf y l l0 l1 hy hn => ?_) 36 10000 0 ν (by omega) (by omega) (by omega) ⟨CH.refl _ _, fun i i0 i1 => by omega⟩
  · show ln_X9_partsNow_4 (qI (c_X9_parts_1 Q)) (fun _ _ => False) (mf + 1) [some (.ref m), some (.int (ji 0)), some (.int (ji 36)), none] [] y 0 0
    have hS2 := hS1.mono hy.1.1
    rw [ul_X9_partsNow_4]
    simp (disch := first | assumption | omega) only [RS_0, RS_1, RS_2, RS_3, RS_4, RS_5, RS_6, RS_7, RS_8, RS_9, RS_10, RS_11, RS_12, RS_13, RS_14, RS_15, RS_16, RS_17, RS_18, RS_19, RS_20, RS_21, RS_22, RS_23, RS_24, RS_25, RS_26, RS_27, RS_28, RS_29, RS_30, RS_31, RS_32, RS_33, RS_34, RS_35, RS_36, ji_add, ji_sub, ji_mul, ji_neg, ji_lit0, ji_ofNat, ji_lt, ji_le, ji_eq, ji_nat, ji_in, ji_rem, ji_div, jl_of, xl_lt, xl_gt, xl_eq, qV_at, qI_at, qJ_at, qD_at, qA_at, qA_no, nb0, nb1, cat_r, cat_i, Option.some.injEq, exists_eq_left', true_and, and_true, if_true, if_false, ite_not, not_true_eq_false, not_false_eq_true, Sum.inr.injEq, exists_eq_right', true_or, or_true, and_self, Int.cast_ofNat_Int, reduceCtorEq, or_false, false_or, false_and, and_false, jb_zero, lt7_0, lt7_1, lt7_2, lt7_3, lt7_4, lt7_5, lt7_6, ↓reduceIte, ilt_t, ilt_f, ile_t, ile_f, ieq_t, ieq_f, jb_T, jb_F, jb_t, jb_f]
    rw [l_X9_partsNow_25, xseal_eq]
    refine imp_loop (fun mf (u : XM × Int × (Int → Int) × (Int → Bool)) l => ln_X9_partsNow_25 (qI (c_X9_parts_1 Q)) (fun _ _ => False) mf [some (.ref m), some (.int (ji u.2.1)), some (.int (ji l)), none] [] u.1 0 0) (fun l u => CH (inR m) u.1 ν ∧ MR u.1 (m + 6) 36 u.2.2.1 ∧ (0 ≤ u.2.1 ∧ u.2.1 ≤ l) ∧ (∀ t, 0 ≤ t → t < A.1.2.2.1 → -1 ≤ u.2.2.1 t ∧ u.2.2.1 t < 36 ∧ (u.2.2.1 t = -1 ↔ ¬ u.2.2.2 t = true)) ∧ (foldz (prg A.1.1 A.1.2.1 A.1.2.2.1 A.2.1) l (A.1.2.2.1 - l).toNat (u.2.1, u.2.2.2)).1 = prt A.1.1 A.1.2.1 A.1.2.2.1 A.2.1) A.1.2.2.1 (fun mf u hu => ?_) (fun mf u l l0 l1 hu hn => ?_) A.1.2.2.1.toNat 10000 0 (y, 0, (fun _ => -1), fun _ => false) (by omega) (by omega) (by omega) ⟨hy.1, hy.2, by simp only; omega, fun t t0 t1 => ⟨by simp only; omega, by simp only; omega, by simp⟩, by rw [show (A.1.2.2.1 - 0).toNat = A.1.2.2.1.toNat by omega]; rfl⟩
    · obtain ⟨z, c', r, S⟩ := u
      obtain ⟨u1, u2, u3, u4, u5⟩ := hu
      simp only at u1 u2 u3 u4 u5
      show ln_X9_partsNow_25 (qI (c_X9_parts_1 Q)) (fun _ _ => False) (mf + 1) [some (.ref m), some (.int (ji c')), some (.int (ji A.1.2.2.1)), none] [] z 0 0
      have hS3 := hS1.mono u1.1
      have hR3 := hR1.rows u1 (by unfold inR; omega) (by unfold inR; omega)
      have nn := fun (Q : XQ) X => f_nodes (Q := Q) (X := X) hS3 hR3 hz.g.2.2.2.2.2.2
      rw [ul_X9_partsNow_25]
      simp (disch := first | assumption | omega) only [RS_0, RS_1, RS_2, RS_3, RS_4, RS_5, RS_6, RS_7, RS_8, RS_9, RS_10, RS_11, RS_12, RS_13, RS_14, RS_15, RS_16, RS_17, RS_18, RS_19, RS_20, RS_21, RS_22, RS_23, RS_24, RS_25, RS_26, RS_27, RS_28, RS_29, RS_30, RS_31, RS_32, RS_33, RS_34, RS_35, RS_36, ji_add, ji_sub, ji_mul, ji_neg, ji_lit0, ji_ofNat, ji_lt, ji_le, ji_eq, ji_nat, ji_in, ji_rem, ji_div, jl_of, xl_lt, xl_gt, xl_eq, qV_at, qI_at, qJ_at, qD_at, qA_at, qA_no, nb0, nb1, cat_r, cat_i, Option.some.injEq, exists_eq_left', true_and, and_true, if_true, if_false, ite_not, not_true_eq_false, not_false_eq_true, Sum.inr.injEq, exists_eq_right', true_or, or_true, and_self, Int.cast_ofNat_Int, reduceCtorEq, or_false, false_or, false_and, and_false, jb_zero, lt7_0, lt7_1, lt7_2, lt7_3, lt7_4, lt7_5, lt7_6, c_X9_partsNow_1, c_X9_partsNow_2, c_X9_partsNow_3, c_X9_parts_1, nn, ↓reduceIte, ilt_t, ilt_f, ile_t, ile_f, ieq_t, ieq_f, jb_T, jb_F, jb_t, jb_f]
      rw [show (A.1.2.2.1 - A.1.2.2.1).toNat = 0 by omega] at u5
      have u5 : c' = prt A.1.1 A.1.2.1 A.1.2.2.1 A.2.1 := u5
      rw [u5]
      exact hQ.a (CH.trans u1.rM c) (hM1.rows u1) (hM1.n0 u1 h0)
    · obtain ⟨z, c', r, S⟩ := u
      obtain ⟨u1, u2, u3, u4, u5⟩ := hu
      simp only at u1 u2 u3 u4 u5
      show ln_X9_partsNow_25 (qI (c_X9_parts_1 Q)) (fun _ _ => False) (mf + 1) [some (.ref m), some (.int (ji c')), some (.int (ji l)), none] [] z 0 0
      have hS3 := hS1.mono u1.1
      have hR3 := hR1.rows u1 (by unfold inR; omega) (by unfold inR; omega)
      have nn := fun (Q : XQ) X => f_nodes (Q := Q) (X := X) hS3 hR3 hz.g.2.2.2.2.2.2
      have tl := u2 l l0 (by omega)
      have bl := u4 l l0 l1
      rw [show (A.1.2.2.1 - l).toNat = (A.1.2.2.1 - (l + 1)).toNat + 1 by omega, foldz] at u5
      unfold prg at u5
      rw [ul_X9_partsNow_25]
      by_cases hs : S l = true
      · rw [if_pos hs] at u5
        have hr : ¬ r l = -1 := fun q => (bl.2.2.mp q) hs
        simp (disch := first | assumption | omega) only [RS_0, RS_1, RS_2, RS_3, RS_4, RS_5, RS_6, RS_7, RS_8, RS_9, RS_10, RS_11, RS_12, RS_13, RS_14, RS_15, RS_16, RS_17, RS_18, RS_19, RS_20, RS_21, RS_22, RS_23, RS_24, RS_25, RS_26, RS_27, RS_28, RS_29, RS_30, RS_31, RS_32, RS_33, RS_34, RS_35, RS_36, ji_add, ji_sub, ji_mul, ji_neg, ji_lit0, ji_ofNat, ji_lt, ji_le, ji_eq, ji_nat, ji_in, ji_rem, ji_div, jl_of, xl_lt, xl_gt, xl_eq, qV_at, qI_at, qJ_at, qD_at, qA_at, qA_no, nb0, nb1, cat_r, cat_i, Option.some.injEq, exists_eq_left', true_and, and_true, if_true, if_false, ite_not, not_true_eq_false, not_false_eq_true, Sum.inr.injEq, exists_eq_right', true_or, or_true, and_self, Int.cast_ofNat_Int, reduceCtorEq, or_false, false_or, false_and, and_false, jb_zero, lt7_0, lt7_1, lt7_2, lt7_3, lt7_4, lt7_5, lt7_6, c_X9_partsNow_1, c_X9_partsNow_2, c_X9_partsNow_3, nn, tl, hr, ↓reduceIte, ilt_t, ilt_f, ile_t, ile_f, ieq_t, ieq_f, jb_T, jb_F, jb_t, jb_f]
        exact hn (z, c', r, S) ⟨u1, u2, by simp only; omega, u4, u5⟩
      · rw [if_neg hs] at u5
        have hr : r l = -1 := bl.2.2.mpr hs
        simp (disch := first | assumption | omega) only [RS_0, RS_1, RS_2, RS_3, RS_4, RS_5, RS_6, RS_7, RS_8, RS_9, RS_10, RS_11, RS_12, RS_13, RS_14, RS_15, RS_16, RS_17, RS_18, RS_19, RS_20, RS_21, RS_22, RS_23, RS_24, RS_25, RS_26, RS_27, RS_28, RS_29, RS_30, RS_31, RS_32, RS_33, RS_34, RS_35, RS_36, ji_add, ji_sub, ji_mul, ji_neg, ji_lit0, ji_ofNat, ji_lt, ji_le, ji_eq, ji_nat, ji_in, ji_rem, ji_div, jl_of, xl_lt, xl_gt, xl_eq, qV_at, qI_at, qJ_at, qD_at, qA_at, qA_no, nb0, nb1, cat_r, cat_i, Option.some.injEq, exists_eq_left', true_and, and_true, if_true, if_false, ite_not, not_true_eq_false, not_false_eq_true, Sum.inr.injEq, exists_eq_right', true_or, or_true, and_self, Int.cast_ofNat_Int, reduceCtorEq, or_false, false_or, false_and, and_false, jb_zero, lt7_0, lt7_1, lt7_2, lt7_3, lt7_4, lt7_5, lt7_6, c_X9_partsNow_1, c_X9_partsNow_2, c_X9_partsNow_3, nn, tl, hr, ↓reduceIte, ilt_t, ilt_f, ile_t, ile_f, ieq_t, ieq_f, jb_T, jb_F, jb_t, jb_f]
        refine f_layFar hS3 hR3 hB (Or.inl rfl) l0 l1 (fun v d v1 v2 v3 v4 => ?_)
        rw [eK_0] at v3
        have e : ∀ n, 0 ≤ n → n < A.1.2.2.1 → hpA A.1.1 A.1.2.1 A.1.2.2.1 A.2.1 l n = d n := fun n n0 n1 => hop_eq v3 n0 n1
        show l_X9_partsNow_54 (qI (c_X9_parts_1 Q)) (fun _ _ => False) (ln_X9_partsNow_25 (qI (c_X9_parts_1 Q)) (fun _ _ => False) mf) [some (.ref m), some (.int (ji c')), some (.int (ji l)), some (.int (ji 0))] [] v 0 0
        rw [l_X9_partsNow_54, xseal_eq]
        refine imp_loop (fun mg (u : XM × (Int → Int)) t => ln_X9_partsNow_54 (qI (c_X9_parts_1 Q)) (fun _ _ => False) (ln_X9_partsNow_25 (qI (c_X9_parts_1 Q)) (fun _ _ => False) mf) mg [some (.ref m), some (.int (ji c')), some (.int (ji l)), some (.int (ji t))] [] u.1 0 0) (fun t u => CH (inR m) u.1 ν ∧ MR u.1 (m + 3) 36 d ∧ MR u.1 (m + 6) 36 u.2 ∧ (∀ k, 0 ≤ k → k < A.1.2.2.1 → -1 ≤ u.2 k ∧ u.2 k < 36 ∧ (u.2 k = -1 ↔ ¬ (S k = true ∨ (k < t ∧ d k ≠ -1))))) A.1.2.2.1 (fun mg u hu => ?_) (fun mg u t t0 t1 hu hn2 => ?_) A.1.2.2.1.toNat 10000 0 (v, r) (by omega) (by omega) (by omega) ⟨CH.trans v1.row3 u1, v2, u2.frame v1 (by omega), fun k k0 k1 => ⟨(u4 k k0 k1).1, (u4 k k0 k1).2.1, (u4 k k0 k1).2.2.trans (by rw [show (k < 0 ∧ d k ≠ -1) = False from eq_false (fun q => absurd q.1 (by omega)), or_false])⟩⟩
        · obtain ⟨q, r'⟩ := u
          obtain ⟨q1, q2, q3, q4⟩ := hu
          simp only at q1 q2 q3 q4
          show ln_X9_partsNow_54 (qI (c_X9_parts_1 Q)) (fun _ _ => False) (ln_X9_partsNow_25 (qI (c_X9_parts_1 Q)) (fun _ _ => False) mf) (mg + 1) [some (.ref m), some (.int (ji c')), some (.int (ji l)), some (.int (ji A.1.2.2.1))] [] q 0 0
          have hS4 := hS1.mono q1.1
          have hR4 := hR1.rows q1 (by unfold inR; omega) (by unfold inR; omega)
          have nn2 := fun (Q : XQ) X => f_nodes (Q := Q) (X := X) hS4 hR4 hz.g.2.2.2.2.2.2
          rw [ul_X9_partsNow_54]
          simp (disch := first | assumption | omega) only [RS_0, RS_1, RS_2, RS_3, RS_4, RS_5, RS_6, RS_7, RS_8, RS_9, RS_10, RS_11, RS_12, RS_13, RS_14, RS_15, RS_16, RS_17, RS_18, RS_19, RS_20, RS_21, RS_22, RS_23, RS_24, RS_25, RS_26, RS_27, RS_28, RS_29, RS_30, RS_31, RS_32, RS_33, RS_34, RS_35, RS_36, ji_add, ji_sub, ji_mul, ji_neg, ji_lit0, ji_ofNat, ji_lt, ji_le, ji_eq, ji_nat, ji_in, ji_rem, ji_div, jl_of, xl_lt, xl_gt, xl_eq, qV_at, qI_at, qJ_at, qD_at, qA_at, qA_no, nb0, nb1, cat_r, cat_i, Option.some.injEq, exists_eq_left', true_and, and_true, if_true, if_false, ite_not, not_true_eq_false, not_false_eq_true, Sum.inr.injEq, exists_eq_right', true_or, or_true, and_self, Int.cast_ofNat_Int, reduceCtorEq, or_false, false_or, false_and, and_false, jb_zero, lt7_0, lt7_1, lt7_2, lt7_3, lt7_4, lt7_5, lt7_6, c_X9_partsNow_1, c_X9_partsNow_2, c_X9_partsNow_3, nn2, ↓reduceIte, ilt_t, ilt_f, ile_t, ile_f, ieq_t, ieq_f, jb_T, jb_F, jb_t, jb_f]
          refine hn (q, c' + 1, r', _) ⟨q1, q3, by simp only; omega, fun k k0 k1 => ⟨(q4 k k0 k1).1, (q4 k k0 k1).2.1, (q4 k k0 k1).2.2.trans ?_⟩, u5⟩
          simp only
          rw [decide_eq_true (show 0 ≤ k ∧ k < A.1.2.2.1 from ⟨k0, k1⟩)]
          cases hsk : S k
          · simp [e k k0 k1, k1]
          · simp
        · obtain ⟨q, r'⟩ := u
          obtain ⟨q1, q2, q3, q4⟩ := hu
          simp only at q1 q2 q3 q4
          show ln_X9_partsNow_54 (qI (c_X9_parts_1 Q)) (fun _ _ => False) (ln_X9_partsNow_25 (qI (c_X9_parts_1 Q)) (fun _ _ => False) mf) (mg + 1) [some (.ref m), some (.int (ji c')), some (.int (ji l)), some (.int (ji t))] [] q 0 0
          have hS4 := hS1.mono q1.1
          have hR4 := hR1.rows q1 (by unfold inR; omega) (by unfold inR; omega)
          have nn2 := fun (Q : XQ) X => f_nodes (Q := Q) (X := X) hS4 hR4 hz.g.2.2.2.2.2.2
          have td := q2 t t0 (by omega)
          have bd := v3.1.2.1 t t0 t1
          have bd2 := v3.lt t0 t1
          rw [ul_X9_partsNow_54]
          by_cases hd : d t = -1
          · simp (disch := first | assumption | omega) only [RS_0, RS_1, RS_2, RS_3, RS_4, RS_5, RS_6, RS_7, RS_8, RS_9, RS_10, RS_11, RS_12, RS_13, RS_14, RS_15, RS_16, RS_17, RS_18, RS_19, RS_20, RS_21, RS_22, RS_23, RS_24, RS_25, RS_26, RS_27, RS_28, RS_29, RS_30, RS_31, RS_32, RS_33, RS_34, RS_35, RS_36, ji_add, ji_sub, ji_mul, ji_neg, ji_lit0, ji_ofNat, ji_lt, ji_le, ji_eq, ji_nat, ji_in, ji_rem, ji_div, jl_of, xl_lt, xl_gt, xl_eq, qV_at, qI_at, qJ_at, qD_at, qA_at, qA_no, nb0, nb1, cat_r, cat_i, Option.some.injEq, exists_eq_left', true_and, and_true, if_true, if_false, ite_not, not_true_eq_false, not_false_eq_true, Sum.inr.injEq, exists_eq_right', true_or, or_true, and_self, Int.cast_ofNat_Int, reduceCtorEq, or_false, false_or, false_and, and_false, jb_zero, lt7_0, lt7_1, lt7_2, lt7_3, lt7_4, lt7_5, lt7_6, c_X9_partsNow_1, c_X9_partsNow_2, c_X9_partsNow_3, nn2, td, hd, ↓reduceIte, ilt_t, ilt_f, ile_t, ile_f, ieq_t, ieq_f, jb_T, jb_F, jb_t, jb_f]
            refine hn2 (q, r') ⟨q1, q2, q3, fun k k0 k1 => ⟨(q4 k k0 k1).1, (q4 k k0 k1).2.1, (q4 k k0 k1).2.2.trans ?_⟩⟩
            by_cases hk : k = t
            · rw [hk, hd]; simp
            · rw [show (k < t + 1) = (k < t) by rw [eq_iff_iff]; omega]
          · simp (disch := first | assumption | omega) only [RS_0, RS_1, RS_2, RS_3, RS_4, RS_5, RS_6, RS_7, RS_8, RS_9, RS_10, RS_11, RS_12, RS_13, RS_14, RS_15, RS_16, RS_17, RS_18, RS_19, RS_20, RS_21, RS_22, RS_23, RS_24, RS_25, RS_26, RS_27, RS_28, RS_29, RS_30, RS_31, RS_32, RS_33, RS_34, RS_35, RS_36, ji_add, ji_sub, ji_mul, ji_neg, ji_lit0, ji_ofNat, ji_lt, ji_le, ji_eq, ji_nat, ji_in, ji_rem, ji_div, jl_of, xl_lt, xl_gt, xl_eq, qV_at, qI_at, qJ_at, qD_at, qA_at, qA_no, nb0, nb1, cat_r, cat_i, Option.some.injEq, exists_eq_left', true_and, and_true, if_true, if_false, ite_not, not_true_eq_false, not_false_eq_true, Sum.inr.injEq, exists_eq_right', true_or, or_true, and_self, Int.cast_ofNat_Int, reduceCtorEq, or_false, false_or, false_and, and_false, jb_zero, lt7_0, lt7_1, lt7_2, lt7_3, lt7_4, lt7_5, lt7_6, c_X9_partsNow_1, c_X9_partsNow_2, c_X9_partsNow_3, nn2, td, hd, ↓reduceIte, ilt_t, ilt_f, ile_t, ile_f, ieq_t, ieq_f, jb_T, jb_F, jb_t, jb_f]
            refine hn2 (_, zu r' t c') ⟨q1.wI _ _ _ (by unfold inR; omega), q2.ne (by omega), q3.put t0, fun k k0 k1 => ?_⟩
            by_cases hk : k = t
            · simp only
              rw [hk, zu_at]
              exact ⟨by omega, by omega, ⟨fun q => by omega, fun q => absurd (Or.inr ⟨by omega, hd⟩) q⟩⟩
            · simp only
              rw [zu_ne hk]
              refine ⟨(q4 k k0 k1).1, (q4 k k0 k1).2.1, (q4 k k0 k1).2.2.trans ?_⟩
              rw [show (k < t + 1) = (k < t) by rw [eq_iff_iff]; omega]
  · show ln_X9_partsNow_4 (qI (c_X9_parts_1 Q)) (fun _ _ => False) (mf + 1) [some (.ref m), some (.int (ji 0)), some (.int (ji l)), none] [] y 0 0
    have hS2 := hS1.mono hy.1.1
    rw [ul_X9_partsNow_4]
    simp (disch := first | assumption | omega) only [RS_0, RS_1, RS_2, RS_3, RS_4, RS_5, RS_6, RS_7, RS_8, RS_9, RS_10, RS_11, RS_12, RS_13, RS_14, RS_15, RS_16, RS_17, RS_18, RS_19, RS_20, RS_21, RS_22, RS_23, RS_24, RS_25, RS_26, RS_27, RS_28, RS_29, RS_30, RS_31, RS_32, RS_33, RS_34, RS_35, RS_36, ji_add, ji_sub, ji_mul, ji_neg, ji_lit0, ji_ofNat, ji_lt, ji_le, ji_eq, ji_nat, ji_in, ji_rem, ji_div, jl_of, xl_lt, xl_gt, xl_eq, qV_at, qI_at, qJ_at, qD_at, qA_at, qA_no, nb0, nb1, cat_r, cat_i, Option.some.injEq, exists_eq_left', true_and, and_true, if_true, if_false, ite_not, not_true_eq_false, not_false_eq_true, Sum.inr.injEq, exists_eq_right', true_or, or_true, and_self, Int.cast_ofNat_Int, reduceCtorEq, or_false, false_or, false_and, and_false, jb_zero, lt7_0, lt7_1, lt7_2, lt7_3, lt7_4, lt7_5, lt7_6, ↓reduceIte, ilt_t, ilt_f, ile_t, ile_f, ieq_t, ieq_f, jb_T, jb_F, jb_t, jb_f]
    refine hn _ ⟨hy.1.wI _ _ _ (by unfold inR; omega), fun i i0 i1 => ?_⟩
    by_cases hi : i = l
    · rw [hi, aI_wI_at]
    · rw [aI_wI_i _ _ _ _ _ _ (by omega)]
      exact hy.2 i i0 (by omega)
end
