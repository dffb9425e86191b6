/-! ===== the reference: a command ===== -/
def QF (ν μ : XM) (m : Nat) (c s : Int) : Prop := CH (fun a => a = m ∨ a = m + 12) ν μ ∧ (∀ k, (k < 310 ∨ (315 < k ∧ k ≠ 320)) → gI ν k m = gI μ k m) ∧ gI ν 311 m = ji c ∧ gI ν 312 m = ji s
def QS (ν μ : XM) (m : Nat) (l : Int) (T : Int → Int) (n : Int) (R : Int → Int) (p e q : Int) : Prop := (CH (fun a => a = m ∨ a = m + 12) ν μ ∧ (∀ k, (k < 310 ∨ (315 < k ∧ k ≠ 320)) → gI ν k m = gI μ k m)) ∧ RC ν m l T p e q ∧ gI ν 320 m = ji n ∧ MR ν (m + 12) 160 R
def QA (μ : XM) (m : Nat) (l : Int) (T : Int → Int) (n : Int) (R : Int → Int) (col e q : Int) (Q : XQ) : PR → Prop
  | .inl (c, s) => ∀ ν, QF ν μ m c s → Q (some (.int (ji 0))) ν
  | .inr (v, p) => ∀ ν, QS ν μ m l T n (zu R (4 * n + col) v) p e q → Q (some (.int (ji 1))) ν
def QB (μ : XM) (m : Nat) (l : Int) (T : Int → Int) (n : Int) (R : Int → Int) (v e q : Int) (Q : XQ) : PP → Prop
  | .inl (c, s) => ∀ ν, QF ν μ m c s → Q (some (.int (ji 0))) ν
  | .inr ((a, b, c), p) => ∀ ν R', QS ν μ m l T n R' p e q → (∀ i, i < 4 * n + 1 → R' i = R i) → R' (4 * n + 1) = a → (v = 0 ∨ v = 2 ∨ v = 3 → R' (4 * n + 2) = b) → (v = 0 → R' (4 * n + 3) = c) → Q (some (.int (ji 1))) ν
section
variable {μ ν ξ : XM} {m : Nat} {l p n e q s col : Int} {T R : Int → Int} {Q : XQ} {X : XX}
theorem QS.ky {p' e' q' : Int} (h : QS ν μ m l T n R p e q) (k : KY m ξ ν) (r : RC ξ m l T p' e' q') : QS ξ μ m l T n R p' e' q' := ⟨⟨CH.trans (k.1.mono (fun a ha => Or.inl ha)) h.1.1, fun j hj => (k.2 j (by omega)).trans (h.1.2 j hj)⟩, r, (k.2 320 (by omega)).trans h.2.2.1, h.2.2.2.frame k.1 (by omega)⟩
theorem QS.f {c s : Int} (h : QS ν μ m l T n R p e q) (k : KY m ξ ν) (h1 : gI ξ 311 m = ji c) (h2 : gI ξ 312 m = ji s) : QF ξ μ m c s := ⟨CH.trans (k.1.mono (fun a ha => Or.inl ha)) h.1.1, fun j hj => (k.2 j (by omega)).trans (h.1.2 j hj), h1, h2⟩
theorem QS.put {v : Int} (h : QS ν μ m l T n R p e q) (n0 : 0 ≤ n) (c0 : 0 ≤ col) : QS (wI ν (m + 12) (4 * n + col).toNat (ji v)) μ m l T n (zu R (4 * n + col) v) p e q := by
  obtain ⟨⟨h1, h2⟩, ⟨⟨r1, r2, r3⟩, r4, r5, r6, r7, r8, r9⟩, h4, h5⟩ := h
  have c : CH (fun a => a = m + 12) (wI ν (m + 12) (4 * n + col).toNat (ji v)) ν := CH.wI (S := fun a => a = m + 12) (CH.refl _ ν) _ _ _ rfl
  refine ⟨⟨h1.wI _ _ _ (Or.inr rfl), h2⟩, ⟨⟨⟨r1.1, r1.2.1, r1.2.2.1, fun i i0 i1 => ?_⟩, r2, r3⟩, r4, r5, r6, r7, r8, r9⟩, h4, h5.put (by omega)⟩
  rw [(c.2 (m + 10) (by omega)).2.2.1]
  exact r1.2.2.2 i i0 i1
theorem f_numOf {lo hi : Int} (hS : RS μ m) (h : QS ν μ m l T n R p e q) (n0 : 0 ≤ n) (n1 : n < 40) (c0 : 0 ≤ col) (c1 : col < 4) (lo0 : 0 ≤ lo) (lo1 : lo < 1000000) (hi0 : 0 ≤ hi) (hi1 : hi < 1000000) (hK : QA μ m l T n R col e q Q (pN l T lo hi p)) : s_X9_readNumberOf ν [.ref m, .int (ji col), .int (ji lo), .int (ji hi)] Q X := by
  have hS2 := hS.mono h.1.1.1
  simp (disch := first | assumption | omega) only [RS_0, RS_1, RS_2, RS_3, RS_4, RS_5, RS_6, RS_7, RS_8, RS_9, RS_10, RS_11, RS_12, RS_13, RS_14, RS_15, RS_16, RS_17, RS_18, RS_19, RS_20, RS_21, RS_22, RS_23, RS_24, RS_25, RS_26, RS_27, RS_28, RS_29, RS_30, RS_31, RS_32, RS_33, RS_34, RS_35, RS_36, ji_add, ji_sub, ji_mul, ji_neg, ji_lit0, ji_ofNat, ji_lt, ji_le, ji_eq, ji_nat, ji_in, ji_rem, ji_div, jl_of, xl_lt, xl_gt, xl_eq, qV_at, qI_at, qJ_at, qD_at, qA_at, qA_no, nb0, nb1, cat_r, cat_i, Option.some.injEq, exists_eq_left', true_and, and_true, if_true, if_false, ite_not, not_true_eq_false, not_false_eq_true, Sum.inr.injEq, exists_eq_right', true_or, or_true, and_self, Int.cast_ofNat_Int, reduceCtorEq, or_false, false_or, false_and, and_false, jb_zero, lt7_0, lt7_1, lt7_2, lt7_3, lt7_4, lt7_5, lt7_6, c_X9_readNumberOf_1, u_X9_readNumberOf, ↓reduceIte, ilt_t, ilt_f, ile_t, ile_f, ieq_t, ieq_f, jb_T, jb_F, jb_t, jb_f]
  refine f_readNumber hS2 h.2.1 (by omega) lo1 (by omega) hi1 ?_
  cases hr : pN l T lo hi p with
  | inl r =>
    obtain ⟨c, s⟩ := r
    rw [hr] at hK
    intro ξ k h1 h2
    have hq := hK ξ (h.f k h1 h2)
    simp (disch := first | assumption | omega) only [RS_0, RS_1, RS_2, RS_3, RS_4, RS_5, RS_6, RS_7, RS_8, RS_9, RS_10, RS_11, RS_12, RS_13, RS_14, RS_15, RS_16, RS_17, RS_18, RS_19, RS_20, RS_21, RS_22, RS_23, RS_24, RS_25, RS_26, RS_27, RS_28, RS_29, RS_30, RS_31, RS_32, RS_33, RS_34, RS_35, RS_36, ji_add, ji_sub, ji_mul, ji_neg, ji_lit0, ji_ofNat, ji_lt, ji_le, ji_eq, ji_nat, ji_in, ji_rem, ji_div, jl_of, xl_lt, xl_gt, xl_eq, qV_at, qI_at, qJ_at, qD_at, qA_at, qA_no, nb0, nb1, cat_r, cat_i, Option.some.injEq, exists_eq_left', true_and, and_true, if_true, if_false, ite_not, not_true_eq_false, not_false_eq_true, Sum.inr.injEq, exists_eq_right', true_or, or_true, and_self, Int.cast_ofNat_Int, reduceCtorEq, or_false, false_or, false_and, and_false, jb_zero, lt7_0, lt7_1, lt7_2, lt7_3, lt7_4, lt7_5, lt7_6, c_X9_readNumberOf_1, nb0, ↓reduceIte, ilt_t, ilt_f, ile_t, ile_f, ieq_t, ieq_f, jb_T, jb_F, jb_t, jb_f]
    exact hq
  | inr r =>
    obtain ⟨v, p'⟩ := r
    rw [hr] at hK
    intro ξ k h1 h2
    have g := h2 rfl
    have hs := h.ky k h1
    have hS3 := hS.mono hs.1.1.1
    have g320 := hs.2.2.1
    have hq := hK _ (hs.put n0 c0)
    simp (disch := first | assumption | omega) only [RS_0, RS_1, RS_2, RS_3, RS_4, RS_5, RS_6, RS_7, RS_8, RS_9, RS_10, RS_11, RS_12, RS_13, RS_14, RS_15, RS_16, RS_17, RS_18, RS_19, RS_20, RS_21, RS_22, RS_23, RS_24, RS_25, RS_26, RS_27, RS_28, RS_29, RS_30, RS_31, RS_32, RS_33, RS_34, RS_35, RS_36, ji_add, ji_sub, ji_mul, ji_neg, ji_lit0, ji_ofNat, ji_lt, ji_le, ji_eq, ji_nat, ji_in, ji_rem, ji_div, jl_of, xl_lt, xl_gt, xl_eq, qV_at, qI_at, qJ_at, qD_at, qA_at, qA_no, nb0, nb1, cat_r, cat_i, Option.some.injEq, exists_eq_left', true_and, and_true, if_true, if_false, ite_not, not_true_eq_false, not_false_eq_true, Sum.inr.injEq, exists_eq_right', true_or, or_true, and_self, Int.cast_ofNat_Int, reduceCtorEq, or_false, false_or, false_and, and_false, jb_zero, lt7_0, lt7_1, lt7_2, lt7_3, lt7_4, lt7_5, lt7_6, c_X9_readNumberOf_1, g, g320, nb1, ↓reduceIte, ilt_t, ilt_f, ile_t, ile_f, ieq_t, ieq_f, jb_T, jb_F, jb_t, jb_f]
    exact hq
theorem f_wayOf (hS : RS μ m) (h : QS ν μ m l T n R p e q) (n0 : 0 ≤ n) (n1 : n < 40) (c0 : 0 ≤ col) (c1 : col < 4) (hK : QA μ m l T n R col e q Q (pW l T p)) : s_X9_readWayOf ν [.ref m, .int (ji col)] Q X := by
  have hS2 := hS.mono h.1.1.1
  have g314 := h.2.1.2.2.1
  have g320 := h.2.2.1
  simp (disch := first | assumption | omega) only [RS_0, RS_1, RS_2, RS_3, RS_4, RS_5, RS_6, RS_7, RS_8, RS_9, RS_10, RS_11, RS_12, RS_13, RS_14, RS_15, RS_16, RS_17, RS_18, RS_19, RS_20, RS_21, RS_22, RS_23, RS_24, RS_25, RS_26, RS_27, RS_28, RS_29, RS_30, RS_31, RS_32, RS_33, RS_34, RS_35, RS_36, ji_add, ji_sub, ji_mul, ji_neg, ji_lit0, ji_ofNat, ji_lt, ji_le, ji_eq, ji_nat, ji_in, ji_rem, ji_div, jl_of, xl_lt, xl_gt, xl_eq, qV_at, qI_at, qJ_at, qD_at, qA_at, qA_no, nb0, nb1, cat_r, cat_i, Option.some.injEq, exists_eq_left', true_and, and_true, if_true, if_false, ite_not, not_true_eq_false, not_false_eq_true, Sum.inr.injEq, exists_eq_right', true_or, or_true, and_self, Int.cast_ofNat_Int, reduceCtorEq, or_false, false_or, false_and, and_false, jb_zero, lt7_0, lt7_1, lt7_2, lt7_3, lt7_4, lt7_5, lt7_6, c_X9_readWayOf_1, c_X9_readWayOf_2, c_X9_readWayOf_3, u_X9_readWayOf, ↓reduceIte, ilt_t, ilt_f, ile_t, ile_f, ieq_t, ieq_f, jb_T, jb_F, jb_t, jb_f]
  refine f_wayHere hS2 h.2.1 ?_
  unfold pWv
  cases hr : pW l T p with
  | inl r =>
    obtain ⟨c, s⟩ := r
    rw [hr] at hK
    have hcs : c = 1 ∧ s = tB l T p := by
      unfold pW at hr
      (repeat' split at hr) <;> simp at hr
      omega
    obtain ⟨rfl, rfl⟩ := hcs
    simp only
    simp (disch := first | assumption | omega) only [RS_0, RS_1, RS_2, RS_3, RS_4, RS_5, RS_6, RS_7, RS_8, RS_9, RS_10, RS_11, RS_12, RS_13, RS_14, RS_15, RS_16, RS_17, RS_18, RS_19, RS_20, RS_21, RS_22, RS_23, RS_24, RS_25, RS_26, RS_27, RS_28, RS_29, RS_30, RS_31, RS_32, RS_33, RS_34, RS_35, RS_36, ji_add, ji_sub, ji_mul, ji_neg, ji_lit0, ji_ofNat, ji_lt, ji_le, ji_eq, ji_nat, ji_in, ji_rem, ji_div, jl_of, xl_lt, xl_gt, xl_eq, qV_at, qI_at, qJ_at, qD_at, qA_at, qA_no, nb0, nb1, cat_r, cat_i, Option.some.injEq, exists_eq_left', true_and, and_true, if_true, if_false, ite_not, not_true_eq_false, not_false_eq_true, Sum.inr.injEq, exists_eq_right', true_or, or_true, and_self, Int.cast_ofNat_Int, reduceCtorEq, or_false, false_or, false_and, and_false, jb_zero, lt7_0, lt7_1, lt7_2, lt7_3, lt7_4, lt7_5, lt7_6, c_X9_readWayOf_1, c_X9_readWayOf_2, c_X9_readWayOf_3, ↓reduceIte, ilt_t, ilt_f, ile_t, ile_f, ieq_t, ieq_f, jb_T, jb_F, jb_t, jb_f]
    refine f_fail hS2 g314 (fun ξ k h1 h2 => ?_)
    have hq := hK ξ (h.f k h1 h2)
    simp (disch := first | assumption | omega) only [RS_0, RS_1, RS_2, RS_3, RS_4, RS_5, RS_6, RS_7, RS_8, RS_9, RS_10, RS_11, RS_12, RS_13, RS_14, RS_15, RS_16, RS_17, RS_18, RS_19, RS_20, RS_21, RS_22, RS_23, RS_24, RS_25, RS_26, RS_27, RS_28, RS_29, RS_30, RS_31, RS_32, RS_33, RS_34, RS_35, RS_36, ji_add, ji_sub, ji_mul, ji_neg, ji_lit0, ji_ofNat, ji_lt, ji_le, ji_eq, ji_nat, ji_in, ji_rem, ji_div, jl_of, xl_lt, xl_gt, xl_eq, qV_at, qI_at, qJ_at, qD_at, qA_at, qA_no, nb0, nb1, cat_r, cat_i, Option.some.injEq, exists_eq_left', true_and, and_true, if_true, if_false, ite_not, not_true_eq_false, not_false_eq_true, Sum.inr.injEq, exists_eq_right', true_or, or_true, and_self, Int.cast_ofNat_Int, reduceCtorEq, or_false, false_or, false_and, and_false, jb_zero, lt7_0, lt7_1, lt7_2, lt7_3, lt7_4, lt7_5, lt7_6, c_X9_readWayOf_1, c_X9_readWayOf_2, c_X9_readWayOf_3, nb0, ↓reduceIte, ilt_t, ilt_f, ile_t, ile_f, ieq_t, ieq_f, jb_T, jb_F, jb_t, jb_f]
    exact hq
  | inr r =>
    obtain ⟨v, p'⟩ := r
    rw [hr] at hK
    have vb := pW_b hr
    have hp' : p' = tE l T (tB l T p) := by
      unfold pW at hr
      (repeat' split at hr) <;> simp at hr <;> omega
    subst hp'
    have nv : ¬ v = -1 := by omega
    have hs := h.put (col := col) (v := v) n0 c0
    have hS3 := hS.mono hs.1.1.1
    simp only
    simp (disch := first | assumption | omega) only [RS_0, RS_1, RS_2, RS_3, RS_4, RS_5, RS_6, RS_7, RS_8, RS_9, RS_10, RS_11, RS_12, RS_13, RS_14, RS_15, RS_16, RS_17, RS_18, RS_19, RS_20, RS_21, RS_22, RS_23, RS_24, RS_25, RS_26, RS_27, RS_28, RS_29, RS_30, RS_31, RS_32, RS_33, RS_34, RS_35, RS_36, ji_add, ji_sub, ji_mul, ji_neg, ji_lit0, ji_ofNat, ji_lt, ji_le, ji_eq, ji_nat, ji_in, ji_rem, ji_div, jl_of, xl_lt, xl_gt, xl_eq, qV_at, qI_at, qJ_at, qD_at, qA_at, qA_no, nb0, nb1, cat_r, cat_i, Option.some.injEq, exists_eq_left', true_and, and_true, if_true, if_false, ite_not, not_true_eq_false, not_false_eq_true, Sum.inr.injEq, exists_eq_right', true_or, or_true, and_self, Int.cast_ofNat_Int, reduceCtorEq, or_false, false_or, false_and, and_false, jb_zero, lt7_0, lt7_1, lt7_2, lt7_3, lt7_4, lt7_5, lt7_6, c_X9_readWayOf_1, c_X9_readWayOf_2, c_X9_readWayOf_3, nv, g320, ↓reduceIte, ilt_t, ilt_f, ile_t, ile_f, ieq_t, ieq_f, jb_T, jb_F, jb_t, jb_f]
    refine f_next hS3 hs.2.1 (fun ξ k h1 => ?_)
    have hq := hK ξ (hs.ky k.y h1)
    simp (disch := first | assumption | omega) only [RS_0, RS_1, RS_2, RS_3, RS_4, RS_5, RS_6, RS_7, RS_8, RS_9, RS_10, RS_11, RS_12, RS_13, RS_14, RS_15, RS_16, RS_17, RS_18, RS_19, RS_20, RS_21, RS_22, RS_23, RS_24, RS_25, RS_26, RS_27, RS_28, RS_29, RS_30, RS_31, RS_32, RS_33, RS_34, RS_35, RS_36, ji_add, ji_sub, ji_mul, ji_neg, ji_lit0, ji_ofNat, ji_lt, ji_le, ji_eq, ji_nat, ji_in, ji_rem, ji_div, jl_of, xl_lt, xl_gt, xl_eq, qV_at, qI_at, qJ_at, qD_at, qA_at, qA_no, nb0, nb1, cat_r, cat_i, Option.some.injEq, exists_eq_left', true_and, and_true, if_true, if_false, ite_not, not_true_eq_false, not_false_eq_true, Sum.inr.injEq, exists_eq_right', true_or, or_true, and_self, Int.cast_ofNat_Int, reduceCtorEq, or_false, false_or, false_and, and_false, jb_zero, lt7_0, lt7_1, lt7_2, lt7_3, lt7_4, lt7_5, lt7_6, c_X9_readWayOf_1, c_X9_readWayOf_2, c_X9_readWayOf_3, nb1, ↓reduceIte, ilt_t, ilt_f, ile_t, ile_f, ieq_t, ieq_f, jb_T, jb_F, jb_t, jb_f]
    exact hq
theorem f_readArguments {v : Int} (hS : RS μ m) (h : QS ν μ m l T n R p e q) (n0 : 0 ≤ n) (n1 : n < 40) (v0 : 0 ≤ v) (v1 : v ≤ 4) (hK : QB μ m l T n R v e q Q (pP l T v p)) : s_X9_readArguments ν [.ref m, .int (ji v)] Q X := by
  have hS2 := hS.mono h.1.1.1
  unfold pP at hK
  by_cases h1 : v = 1
  · rw [if_pos h1] at hK
    simp (disch := first | assumption | omega) only [RS_0, RS_1, RS_2, RS_3, RS_4, RS_5, RS_6, RS_7, RS_8, RS_9, RS_10, RS_11, RS_12, RS_13, RS_14, RS_15, RS_16, RS_17, RS_18, RS_19, RS_20, RS_21, RS_22, RS_23, RS_24, RS_25, RS_26, RS_27, RS_28, RS_29, RS_30, RS_31, RS_32, RS_33, RS_34, RS_35, RS_36, ji_add, ji_sub, ji_mul, ji_neg, ji_lit0, ji_ofNat, ji_lt, ji_le, ji_eq, ji_nat, ji_in, ji_rem, ji_div, jl_of, xl_lt, xl_gt, xl_eq, qV_at, qI_at, qJ_at, qD_at, qA_at, qA_no, nb0, nb1, cat_r, cat_i, Option.some.injEq, exists_eq_left', true_and, and_true, if_true, if_false, ite_not, not_true_eq_false, not_false_eq_true, Sum.inr.injEq, exists_eq_right', true_or, or_true, and_self, Int.cast_ofNat_Int, reduceCtorEq, or_false, false_or, false_and, and_false, jb_zero, lt7_0, lt7_1, lt7_2, lt7_3, lt7_4, lt7_5, lt7_6, c_X9_readArguments_1, c_X9_readArguments_2, c_X9_readArguments_3, c_X9_readArguments_4, c_X9_readArguments_5, c_X9_readArguments_6, c_X9_readArguments_7, u_X9_readArguments, h1, Int.reduceEq, ↓reduceIte, ilt_t, ilt_f, ile_t, ile_f, ieq_t, ieq_f, jb_T, jb_F, jb_t, jb_f]
    refine f_numOf hS h n0 n1 (by omega) (by omega) (by omega) (by omega) (by omega) (by omega) ?_
    cases hr : pN l T 1 500 p with
    | inl r =>
      obtain ⟨c, s⟩ := r
      rw [hr] at hK
      intro ξ hf
      have hq := hK ξ hf
      simp (disch := first | assumption | omega) only [RS_0, RS_1, RS_2, RS_3, RS_4, RS_5, RS_6, RS_7, RS_8, RS_9, RS_10, RS_11, RS_12, RS_13, RS_14, RS_15, RS_16, RS_17, RS_18, RS_19, RS_20, RS_21, RS_22, RS_23, RS_24, RS_25, RS_26, RS_27, RS_28, RS_29, RS_30, RS_31, RS_32, RS_33, RS_34, RS_35, RS_36, ji_add, ji_sub, ji_mul, ji_neg, ji_lit0, ji_ofNat, ji_lt, ji_le, ji_eq, ji_nat, ji_in, ji_rem, ji_div, jl_of, xl_lt, xl_gt, xl_eq, qV_at, qI_at, qJ_at, qD_at, qA_at, qA_no, nb0, nb1, cat_r, cat_i, Option.some.injEq, exists_eq_left', true_and, and_true, if_true, if_false, ite_not, not_true_eq_false, not_false_eq_true, Sum.inr.injEq, exists_eq_right', true_or, or_true, and_self, Int.cast_ofNat_Int, reduceCtorEq, or_false, false_or, false_and, and_false, jb_zero, lt7_0, lt7_1, lt7_2, lt7_3, lt7_4, lt7_5, lt7_6, c_X9_readArguments_1, c_X9_readArguments_2, c_X9_readArguments_3, c_X9_readArguments_4, c_X9_readArguments_5, c_X9_readArguments_6, c_X9_readArguments_7, nb0, ↓reduceIte, ilt_t, ilt_f, ile_t, ile_f, ieq_t, ieq_f, jb_T, jb_F, jb_t, jb_f]
      exact hq
    | inr r =>
      obtain ⟨a, p1⟩ := r
      rw [hr] at hK
      intro ξ hf
      have hq := hK ξ _ hf (fun i hi => zu_ne (by omega)) (zu_at _ _ _) (fun z => by omega) (fun z => by omega)
      simp (disch := first | assumption | omega) only [RS_0, RS_1, RS_2, RS_3, RS_4, RS_5, RS_6, RS_7, RS_8, RS_9, RS_10, RS_11, RS_12, RS_13, RS_14, RS_15, RS_16, RS_17, RS_18, RS_19, RS_20, RS_21, RS_22, RS_23, RS_24, RS_25, RS_26, RS_27, RS_28, RS_29, RS_30, RS_31, RS_32, RS_33, RS_34, RS_35, RS_36, ji_add, ji_sub, ji_mul, ji_neg, ji_lit0, ji_ofNat, ji_lt, ji_le, ji_eq, ji_nat, ji_in, ji_rem, ji_div, jl_of, xl_lt, xl_gt, xl_eq, qV_at, qI_at, qJ_at, qD_at, qA_at, qA_no, nb0, nb1, cat_r, cat_i, Option.some.injEq, exists_eq_left', true_and, and_true, if_true, if_false, ite_not, not_true_eq_false, not_false_eq_true, Sum.inr.injEq, exists_eq_right', true_or, or_true, and_self, Int.cast_ofNat_Int, reduceCtorEq, or_false, false_or, false_and, and_false, jb_zero, lt7_0, lt7_1, lt7_2, lt7_3, lt7_4, lt7_5, lt7_6, c_X9_readArguments_1, c_X9_readArguments_2, c_X9_readArguments_3, c_X9_readArguments_4, c_X9_readArguments_5, c_X9_readArguments_6, c_X9_readArguments_7, nb1, ↓reduceIte, ilt_t, ilt_f, ile_t, ile_f, ieq_t, ieq_f, jb_T, jb_F, jb_t, jb_f]
      exact hq
  · rw [if_neg h1] at hK
    by_cases h0 : v = 0
    · simp (disch := first | assumption | omega) only [RS_0, RS_1, RS_2, RS_3, RS_4, RS_5, RS_6, RS_7, RS_8, RS_9, RS_10, RS_11, RS_12, RS_13, RS_14, RS_15, RS_16, RS_17, RS_18, RS_19, RS_20, RS_21, RS_22, RS_23, RS_24, RS_25, RS_26, RS_27, RS_28, RS_29, RS_30, RS_31, RS_32, RS_33, RS_34, RS_35, RS_36, ji_add, ji_sub, ji_mul, ji_neg, ji_lit0, ji_ofNat, ji_lt, ji_le, ji_eq, ji_nat, ji_in, ji_rem, ji_div, jl_of, xl_lt, xl_gt, xl_eq, qV_at, qI_at, qJ_at, qD_at, qA_at, qA_no, nb0, nb1, cat_r, cat_i, Option.some.injEq, exists_eq_left', true_and, and_true, if_true, if_false, ite_not, not_true_eq_false, not_false_eq_true, Sum.inr.injEq, exists_eq_right', true_or, or_true, and_self, Int.cast_ofNat_Int, reduceCtorEq, or_false, false_or, false_and, and_false, jb_zero, lt7_0, lt7_1, lt7_2, lt7_3, lt7_4, lt7_5, lt7_6, c_X9_readArguments_1, c_X9_readArguments_2, c_X9_readArguments_3, c_X9_readArguments_4, c_X9_readArguments_5, c_X9_readArguments_6, c_X9_readArguments_7, u_X9_readArguments, h0, Int.reduceEq, ↓reduceIte, ilt_t, ilt_f, ile_t, ile_f, ieq_t, ieq_f, jb_T, jb_F, jb_t, jb_f]
      refine f_numOf hS h n0 n1 (by omega) (by omega) (by omega) (by omega) (by omega) (by omega) ?_
      cases hr : pN l T 0 35 p with
      | inl r =>
        obtain ⟨c, s⟩ := r
        rw [hr] at hK
        intro ξ hf
        have hq := hK ξ hf
        simp (disch := first | assumption | omega) only [RS_0, RS_1, RS_2, RS_3, RS_4, RS_5, RS_6, RS_7, RS_8, RS_9, RS_10, RS_11, RS_12, RS_13, RS_14, RS_15, RS_16, RS_17, RS_18, RS_19, RS_20, RS_21, RS_22, RS_23, RS_24, RS_25, RS_26, RS_27, RS_28, RS_29, RS_30, RS_31, RS_32, RS_33, RS_34, RS_35, RS_36, ji_add, ji_sub, ji_mul, ji_neg, ji_lit0, ji_ofNat, ji_lt, ji_le, ji_eq, ji_nat, ji_in, ji_rem, ji_div, jl_of, xl_lt, xl_gt, xl_eq, qV_at, qI_at, qJ_at, qD_at, qA_at, qA_no, nb0, nb1, cat_r, cat_i, Option.some.injEq, exists_eq_left', true_and, and_true, if_true, if_false, ite_not, not_true_eq_false, not_false_eq_true, Sum.inr.injEq, exists_eq_right', true_or, or_true, and_self, Int.cast_ofNat_Int, reduceCtorEq, or_false, false_or, false_and, and_false, jb_zero, lt7_0, lt7_1, lt7_2, lt7_3, lt7_4, lt7_5, lt7_6, c_X9_readArguments_1, c_X9_readArguments_2, c_X9_readArguments_3, c_X9_readArguments_4, c_X9_readArguments_5, c_X9_readArguments_6, c_X9_readArguments_7, nb0, ↓reduceIte, ilt_t, ilt_f, ile_t, ile_f, ieq_t, ieq_f, jb_T, jb_F, jb_t, jb_f]
        exact hq
      | inr r =>
        obtain ⟨a, p1⟩ := r
        rw [hr] at hK
        intro ξ hf
        have hS3 := hS.mono hf.1.1.1
        have hK : QB μ m l T n R v e q Q (if v = 0 then bnd (pN l T 0 35 p1) (fun b p2 => bnd (pN l T 1 200 p2) (fun c p3 => .inr ((a, b, c), p3))) else if v = 4 then .inr ((a, 0, 0), p1) else bnd (pW l T p1) (fun b p2 => .inr ((a, b, 0), p2))) := hK
        rw [if_pos h0] at hK
        simp (disch := first | assumption | omega) only [RS_0, RS_1, RS_2, RS_3, RS_4, RS_5, RS_6, RS_7, RS_8, RS_9, RS_10, RS_11, RS_12, RS_13, RS_14, RS_15, RS_16, RS_17, RS_18, RS_19, RS_20, RS_21, RS_22, RS_23, RS_24, RS_25, RS_26, RS_27, RS_28, RS_29, RS_30, RS_31, RS_32, RS_33, RS_34, RS_35, RS_36, ji_add, ji_sub, ji_mul, ji_neg, ji_lit0, ji_ofNat, ji_lt, ji_le, ji_eq, ji_nat, ji_in, ji_rem, ji_div, jl_of, xl_lt, xl_gt, xl_eq, qV_at, qI_at, qJ_at, qD_at, qA_at, qA_no, nb0, nb1, cat_r, cat_i, Option.some.injEq, exists_eq_left', true_and, and_true, if_true, if_false, ite_not, not_true_eq_false, not_false_eq_true, Sum.inr.injEq, exists_eq_right', true_or, or_true, and_self, Int.cast_ofNat_Int, reduceCtorEq, or_false, false_or, false_and, and_false, jb_zero, lt7_0, lt7_1, lt7_2, lt7_3, lt7_4, lt7_5, lt7_6, c_X9_readArguments_1, c_X9_readArguments_2, c_X9_readArguments_3, c_X9_readArguments_4, c_X9_readArguments_5, c_X9_readArguments_6, c_X9_readArguments_7, ↓reduceIte, ilt_t, ilt_f, ile_t, ile_f, ieq_t, ieq_f, jb_T, jb_F, jb_t, jb_f]
        refine f_numOf hS hf n0 n1 (by omega) (by omega) (by omega) (by omega) (by omega) (by omega) ?_
        cases hr2 : pN l T 0 35 p1 with
        | inl r =>
          obtain ⟨c, s⟩ := r
          rw [hr2] at hK
          intro ξ2 hf2
          have hq := hK ξ2 hf2
          simp (disch := first | assumption | omega) only [RS_0, RS_1, RS_2, RS_3, RS_4, RS_5, RS_6, RS_7, RS_8, RS_9, RS_10, RS_11, RS_12, RS_13, RS_14, RS_15, RS_16, RS_17, RS_18, RS_19, RS_20, RS_21, RS_22, RS_23, RS_24, RS_25, RS_26, RS_27, RS_28, RS_29, RS_30, RS_31, RS_32, RS_33, RS_34, RS_35, RS_36, ji_add, ji_sub, ji_mul, ji_neg, ji_lit0, ji_ofNat, ji_lt, ji_le, ji_eq, ji_nat, ji_in, ji_rem, ji_div, jl_of, xl_lt, xl_gt, xl_eq, qV_at, qI_at, qJ_at, qD_at, qA_at, qA_no, nb0, nb1, cat_r, cat_i, Option.some.injEq, exists_eq_left', true_and, and_true, if_true, if_false, ite_not, not_true_eq_false, not_false_eq_true, Sum.inr.injEq, exists_eq_right', true_or, or_true, and_self, Int.cast_ofNat_Int, reduceCtorEq, or_false, false_or, false_and, and_false, jb_zero, lt7_0, lt7_1, lt7_2, lt7_3, lt7_4, lt7_5, lt7_6, c_X9_readArguments_1, c_X9_readArguments_2, c_X9_readArguments_3, c_X9_readArguments_4, c_X9_readArguments_5, c_X9_readArguments_6, c_X9_readArguments_7, nb0, ↓reduceIte, ilt_t, ilt_f, ile_t, ile_f, ieq_t, ieq_f, jb_T, jb_F, jb_t, jb_f]
          exact hq
        | inr r =>
          obtain ⟨b, p2⟩ := r
          rw [hr2] at hK
          intro ξ2 hf2
          have hS4 := hS.mono hf2.1.1.1
          have hK : QB μ m l T n R v e q Q (bnd (pN l T 1 200 p2) (fun c p3 => .inr ((a, b, c), p3))) := hK
          simp (disch := first | assumption | omega) only [RS_0, RS_1, RS_2, RS_3, RS_4, RS_5, RS_6, RS_7, RS_8, RS_9, RS_10, RS_11, RS_12, RS_13, RS_14, RS_15, RS_16, RS_17, RS_18, RS_19, RS_20, RS_21, RS_22, RS_23, RS_24, RS_25, RS_26, RS_27, RS_28, RS_29, RS_30, RS_31, RS_32, RS_33, RS_34, RS_35, RS_36, ji_add, ji_sub, ji_mul, ji_neg, ji_lit0, ji_ofNat, ji_lt, ji_le, ji_eq, ji_nat, ji_in, ji_rem, ji_div, jl_of, xl_lt, xl_gt, xl_eq, qV_at, qI_at, qJ_at, qD_at, qA_at, qA_no, nb0, nb1, cat_r, cat_i, Option.some.injEq, exists_eq_left', true_and, and_true, if_true, if_false, ite_not, not_true_eq_false, not_false_eq_true, Sum.inr.injEq, exists_eq_right', true_or, or_true, and_self, Int.cast_ofNat_Int, reduceCtorEq, or_false, false_or, false_and, and_false, jb_zero, lt7_0, lt7_1, lt7_2, lt7_3, lt7_4, lt7_5, lt7_6, c_X9_readArguments_1, c_X9_readArguments_2, c_X9_readArguments_3, c_X9_readArguments_4, c_X9_readArguments_5, c_X9_readArguments_6, c_X9_readArguments_7, ↓reduceIte, ilt_t, ilt_f, ile_t, ile_f, ieq_t, ieq_f, jb_T, jb_F, jb_t, jb_f]
          refine f_numOf hS hf2 n0 n1 (by omega) (by omega) (by omega) (by omega) (by omega) (by omega) ?_
          cases hr3 : pN l T 1 200 p2 with
          | inl r =>
            obtain ⟨c, s⟩ := r
            rw [hr3] at hK
            intro ξ3 hf3
            have hq := hK ξ3 hf3
            simp (disch := first | assumption | omega) only [RS_0, RS_1, RS_2, RS_3, RS_4, RS_5, RS_6, RS_7, RS_8, RS_9, RS_10, RS_11, RS_12, RS_13, RS_14, RS_15, RS_16, RS_17, RS_18, RS_19, RS_20, RS_21, RS_22, RS_23, RS_24, RS_25, RS_26, RS_27, RS_28, RS_29, RS_30, RS_31, RS_32, RS_33, RS_34, RS_35, RS_36, ji_add, ji_sub, ji_mul, ji_neg, ji_lit0, ji_ofNat, ji_lt, ji_le, ji_eq, ji_nat, ji_in, ji_rem, ji_div, jl_of, xl_lt, xl_gt, xl_eq, qV_at, qI_at, qJ_at, qD_at, qA_at, qA_no, nb0, nb1, cat_r, cat_i, Option.some.injEq, exists_eq_left', true_and, and_true, if_true, if_false, ite_not, not_true_eq_false, not_false_eq_true, Sum.inr.injEq, exists_eq_right', true_or, or_true, and_self, Int.cast_ofNat_Int, reduceCtorEq, or_false, false_or, false_and, and_false, jb_zero, lt7_0, lt7_1, lt7_2, lt7_3, lt7_4, lt7_5, lt7_6, c_X9_readArguments_1, c_X9_readArguments_2, c_X9_readArguments_3, c_X9_readArguments_4, c_X9_readArguments_5, c_X9_readArguments_6, c_X9_readArguments_7, nb0, ↓reduceIte, ilt_t, ilt_f, ile_t, ile_f, ieq_t, ieq_f, jb_T, jb_F, jb_t, jb_f]
            exact hq
          | inr r =>
            obtain ⟨c, p3⟩ := r
            rw [hr3] at hK
            intro ξ3 hf3
            have hq := hK ξ3 _ hf3 (fun i hi => by rw [zu_ne (by omega), zu_ne (by omega), zu_ne (by omega)]) (by rw [zu_ne (by omega), zu_ne (by omega), zu_at]) (fun _ => by rw [zu_ne (by omega), zu_at]) (fun _ => zu_at _ _ _)
            simp (disch := first | assumption | omega) only [RS_0, RS_1, RS_2, RS_3, RS_4, RS_5, RS_6, RS_7, RS_8, RS_9, RS_10, RS_11, RS_12, RS_13, RS_14, RS_15, RS_16, RS_17, RS_18, RS_19, RS_20, RS_21, RS_22, RS_23, RS_24, RS_25, RS_26, RS_27, RS_28, RS_29, RS_30, RS_31, RS_32, RS_33, RS_34, RS_35, RS_36, ji_add, ji_sub, ji_mul, ji_neg, ji_lit0, ji_ofNat, ji_lt, ji_le, ji_eq, ji_nat, ji_in, ji_rem, ji_div, jl_of, xl_lt, xl_gt, xl_eq, qV_at, qI_at, qJ_at, qD_at, qA_at, qA_no, nb0, nb1, cat_r, cat_i, Option.some.injEq, exists_eq_left', true_and, and_true, if_true, if_false, ite_not, not_true_eq_false, not_false_eq_true, Sum.inr.injEq, exists_eq_right', true_or, or_true, and_self, Int.cast_ofNat_Int, reduceCtorEq, or_false, false_or, false_and, and_false, jb_zero, lt7_0, lt7_1, lt7_2, lt7_3, lt7_4, lt7_5, lt7_6, c_X9_readArguments_1, c_X9_readArguments_2, c_X9_readArguments_3, c_X9_readArguments_4, c_X9_readArguments_5, c_X9_readArguments_6, c_X9_readArguments_7, nb1, ↓reduceIte, ilt_t, ilt_f, ile_t, ile_f, ieq_t, ieq_f, jb_T, jb_F, jb_t, jb_f]
            exact hq
    · by_cases h4 : v = 4
      · simp (disch := first | assumption | omega) only [RS_0, RS_1, RS_2, RS_3, RS_4, RS_5, RS_6, RS_7, RS_8, RS_9, RS_10, RS_11, RS_12, RS_13, RS_14, RS_15, RS_16, RS_17, RS_18, RS_19, RS_20, RS_21, RS_22, RS_23, RS_24, RS_25, RS_26, RS_27, RS_28, RS_29, RS_30, RS_31, RS_32, RS_33, RS_34, RS_35, RS_36, ji_add, ji_sub, ji_mul, ji_neg, ji_lit0, ji_ofNat, ji_lt, ji_le, ji_eq, ji_nat, ji_in, ji_rem, ji_div, jl_of, xl_lt, xl_gt, xl_eq, qV_at, qI_at, qJ_at, qD_at, qA_at, qA_no, nb0, nb1, cat_r, cat_i, Option.some.injEq, exists_eq_left', true_and, and_true, if_true, if_false, ite_not, not_true_eq_false, not_false_eq_true, Sum.inr.injEq, exists_eq_right', true_or, or_true, and_self, Int.cast_ofNat_Int, reduceCtorEq, or_false, false_or, false_and, and_false, jb_zero, lt7_0, lt7_1, lt7_2, lt7_3, lt7_4, lt7_5, lt7_6, c_X9_readArguments_1, c_X9_readArguments_2, c_X9_readArguments_3, c_X9_readArguments_4, c_X9_readArguments_5, c_X9_readArguments_6, c_X9_readArguments_7, u_X9_readArguments, h4, Int.reduceEq, ↓reduceIte, ilt_t, ilt_f, ile_t, ile_f, ieq_t, ieq_f, jb_T, jb_F, jb_t, jb_f]
        refine f_numOf hS h n0 n1 (by omega) (by omega) (by omega) (by omega) (by omega) (by omega) ?_
        cases hr : pN l T 0 35 p with
        | inl r =>
          obtain ⟨c, s⟩ := r
          rw [hr] at hK
          intro ξ hf
          have hq := hK ξ hf
          simp (disch := first | assumption | omega) only [RS_0, RS_1, RS_2, RS_3, RS_4, RS_5, RS_6, RS_7, RS_8, RS_9, RS_10, RS_11, RS_12, RS_13, RS_14, RS_15, RS_16, RS_17, RS_18, RS_19, RS_20, RS_21, RS_22, RS_23, RS_24, RS_25, RS_26, RS_27, RS_28, RS_29, RS_30, RS_31, RS_32, RS_33, RS_34, RS_35, RS_36, ji_add, ji_sub, ji_mul, ji_neg, ji_lit0, ji_ofNat, ji_lt, ji_le, ji_eq, ji_nat, ji_in, ji_rem, ji_div, jl_of, xl_lt, xl_gt, xl_eq, qV_at, qI_at, qJ_at, qD_at, qA_at, qA_no, nb0, nb1, cat_r, cat_i, Option.some.injEq, exists_eq_left', true_and, and_true, if_true, if_false, ite_not, not_true_eq_false, not_false_eq_true, Sum.inr.injEq, exists_eq_right', true_or, or_true, and_self, Int.cast_ofNat_Int, reduceCtorEq, or_false, false_or, false_and, and_false, jb_zero, lt7_0, lt7_1, lt7_2, lt7_3, lt7_4, lt7_5, lt7_6, c_X9_readArguments_1, c_X9_readArguments_2, c_X9_readArguments_3, c_X9_readArguments_4, c_X9_readArguments_5, c_X9_readArguments_6, c_X9_readArguments_7, nb0, ↓reduceIte, ilt_t, ilt_f, ile_t, ile_f, ieq_t, ieq_f, jb_T, jb_F, jb_t, jb_f]
          exact hq
        | inr r =>
          obtain ⟨a, p1⟩ := r
          rw [hr] at hK
          intro ξ hf
          have hK : QB μ m l T n R v e q Q (if v = 0 then bnd (pN l T 0 35 p1) (fun b p2 => bnd (pN l T 1 200 p2) (fun c p3 => .inr ((a, b, c), p3))) else if v = 4 then .inr ((a, 0, 0), p1) else bnd (pW l T p1) (fun b p2 => .inr ((a, b, 0), p2))) := hK
          rw [if_neg h0, if_pos h4] at hK
          have hq := hK ξ _ hf (fun i hi => zu_ne (by omega)) (zu_at _ _ _) (fun z => by omega) (fun z => by omega)
          simp (disch := first | assumption | omega) only [RS_0, RS_1, RS_2, RS_3, RS_4, RS_5, RS_6, RS_7, RS_8, RS_9, RS_10, RS_11, RS_12, RS_13, RS_14, RS_15, RS_16, RS_17, RS_18, RS_19, RS_20, RS_21, RS_22, RS_23, RS_24, RS_25, RS_26, RS_27, RS_28, RS_29, RS_30, RS_31, RS_32, RS_33, RS_34, RS_35, RS_36, ji_add, ji_sub, ji_mul, ji_neg, ji_lit0, ji_ofNat, ji_lt, ji_le, ji_eq, ji_nat, ji_in, ji_rem, ji_div, jl_of, xl_lt, xl_gt, xl_eq, qV_at, qI_at, qJ_at, qD_at, qA_at, qA_no, nb0, nb1, cat_r, cat_i, Option.some.injEq, exists_eq_left', true_and, and_true, if_true, if_false, ite_not, not_true_eq_false, not_false_eq_true, Sum.inr.injEq, exists_eq_right', true_or, or_true, and_self, Int.cast_ofNat_Int, reduceCtorEq, or_false, false_or, false_and, and_false, jb_zero, lt7_0, lt7_1, lt7_2, lt7_3, lt7_4, lt7_5, lt7_6, c_X9_readArguments_1, c_X9_readArguments_2, c_X9_readArguments_3, c_X9_readArguments_4, c_X9_readArguments_5, c_X9_readArguments_6, c_X9_readArguments_7, nb1, ↓reduceIte, ilt_t, ilt_f, ile_t, ile_f, ieq_t, ieq_f, jb_T, jb_F, jb_t, jb_f]
          exact hq
      · simp (disch := first | assumption | omega) only [RS_0, RS_1, RS_2, RS_3, RS_4, RS_5, RS_6, RS_7, RS_8, RS_9, RS_10, RS_11, RS_12, RS_13, RS_14, RS_15, RS_16, RS_17, RS_18, RS_19, RS_20, RS_21, RS_22, RS_23, RS_24, RS_25, RS_26, RS_27, RS_28, RS_29, RS_30, RS_31, RS_32, RS_33, RS_34, RS_35, RS_36, ji_add, ji_sub, ji_mul, ji_neg, ji_lit0, ji_ofNat, ji_lt, ji_le, ji_eq, ji_nat, ji_in, ji_rem, ji_div, jl_of, xl_lt, xl_gt, xl_eq, qV_at, qI_at, qJ_at, qD_at, qA_at, qA_no, nb0, nb1, cat_r, cat_i, Option.some.injEq, exists_eq_left', true_and, and_true, if_true, if_false, ite_not, not_true_eq_false, not_false_eq_true, Sum.inr.injEq, exists_eq_right', true_or, or_true, and_self, Int.cast_ofNat_Int, reduceCtorEq, or_false, false_or, false_and, and_false, jb_zero, lt7_0, lt7_1, lt7_2, lt7_3, lt7_4, lt7_5, lt7_6, c_X9_readArguments_1, c_X9_readArguments_2, c_X9_readArguments_3, c_X9_readArguments_4, c_X9_readArguments_5, c_X9_readArguments_6, c_X9_readArguments_7, u_X9_readArguments, h0, h1, h4, ↓reduceIte, ilt_t, ilt_f, ile_t, ile_f, ieq_t, ieq_f, jb_T, jb_F, jb_t, jb_f]
        refine f_numOf hS h n0 n1 (by omega) (by omega) (by omega) (by omega) (by omega) (by omega) ?_
        cases hr : pN l T 0 35 p with
        | inl r =>
          obtain ⟨c, s⟩ := r
          rw [hr] at hK
          intro ξ hf
          have hq := hK ξ hf
          simp (disch := first | assumption | omega) only [RS_0, RS_1, RS_2, RS_3, RS_4, RS_5, RS_6, RS_7, RS_8, RS_9, RS_10, RS_11, RS_12, RS_13, RS_14, RS_15, RS_16, RS_17, RS_18, RS_19, RS_20, RS_21, RS_22, RS_23, RS_24, RS_25, RS_26, RS_27, RS_28, RS_29, RS_30, RS_31, RS_32, RS_33, RS_34, RS_35, RS_36, ji_add, ji_sub, ji_mul, ji_neg, ji_lit0, ji_ofNat, ji_lt, ji_le, ji_eq, ji_nat, ji_in, ji_rem, ji_div, jl_of, xl_lt, xl_gt, xl_eq, qV_at, qI_at, qJ_at, qD_at, qA_at, qA_no, nb0, nb1, cat_r, cat_i, Option.some.injEq, exists_eq_left', true_and, and_true, if_true, if_false, ite_not, not_true_eq_false, not_false_eq_true, Sum.inr.injEq, exists_eq_right', true_or, or_true, and_self, Int.cast_ofNat_Int, reduceCtorEq, or_false, false_or, false_and, and_false, jb_zero, lt7_0, lt7_1, lt7_2, lt7_3, lt7_4, lt7_5, lt7_6, c_X9_readArguments_1, c_X9_readArguments_2, c_X9_readArguments_3, c_X9_readArguments_4, c_X9_readArguments_5, c_X9_readArguments_6, c_X9_readArguments_7, nb0, ↓reduceIte, ilt_t, ilt_f, ile_t, ile_f, ieq_t, ieq_f, jb_T, jb_F, jb_t, jb_f]
          exact hq
        | inr r =>
          obtain ⟨a, p1⟩ := r
          rw [hr] at hK
          intro ξ hf
          have hS3 := hS.mono hf.1.1.1
          have hK : QB μ m l T n R v e q Q (if v = 0 then bnd (pN l T 0 35 p1) (fun b p2 => bnd (pN l T 1 200 p2) (fun c p3 => .inr ((a, b, c), p3))) else if v = 4 then .inr ((a, 0, 0), p1) else bnd (pW l T p1) (fun b p2 => .inr ((a, b, 0), p2))) := hK
          rw [if_neg h0, if_neg h4] at hK
          simp (disch := first | assumption | omega) only [RS_0, RS_1, RS_2, RS_3, RS_4, RS_5, RS_6, RS_7, RS_8, RS_9, RS_10, RS_11, RS_12, RS_13, RS_14, RS_15, RS_16, RS_17, RS_18, RS_19, RS_20, RS_21, RS_22, RS_23, RS_24, RS_25, RS_26, RS_27, RS_28, RS_29, RS_30, RS_31, RS_32, RS_33, RS_34, RS_35, RS_36, ji_add, ji_sub, ji_mul, ji_neg, ji_lit0, ji_ofNat, ji_lt, ji_le, ji_eq, ji_nat, ji_in, ji_rem, ji_div, jl_of, xl_lt, xl_gt, xl_eq, qV_at, qI_at, qJ_at, qD_at, qA_at, qA_no, nb0, nb1, cat_r, cat_i, Option.some.injEq, exists_eq_left', true_and, and_true, if_true, if_false, ite_not, not_true_eq_false, not_false_eq_true, Sum.inr.injEq, exists_eq_right', true_or, or_true, and_self, Int.cast_ofNat_Int, reduceCtorEq, or_false, false_or, false_and, and_false, jb_zero, lt7_0, lt7_1, lt7_2, lt7_3, lt7_4, lt7_5, lt7_6, c_X9_readArguments_1, c_X9_readArguments_2, c_X9_readArguments_3, c_X9_readArguments_4, c_X9_readArguments_5, c_X9_readArguments_6, c_X9_readArguments_7, ↓reduceIte, ilt_t, ilt_f, ile_t, ile_f, ieq_t, ieq_f, jb_T, jb_F, jb_t, jb_f]
          refine f_wayOf hS hf n0 n1 (by omega) (by omega) ?_
          cases hr2 : pW l T p1 with
          | inl r =>
            obtain ⟨c, s⟩ := r
            rw [hr2] at hK
            intro ξ2 hf2
            have hq := hK ξ2 hf2
            simp (disch := first | assumption | omega) only [RS_0, RS_1, RS_2, RS_3, RS_4, RS_5, RS_6, RS_7, RS_8, RS_9, RS_10, RS_11, RS_12, RS_13, RS_14, RS_15, RS_16, RS_17, RS_18, RS_19, RS_20, RS_21, RS_22, RS_23, RS_24, RS_25, RS_26, RS_27, RS_28, RS_29, RS_30, RS_31, RS_32, RS_33, RS_34, RS_35, RS_36, ji_add, ji_sub, ji_mul, ji_neg, ji_lit0, ji_ofNat, ji_lt, ji_le, ji_eq, ji_nat, ji_in, ji_rem, ji_div, jl_of, xl_lt, xl_gt, xl_eq, qV_at, qI_at, qJ_at, qD_at, qA_at, qA_no, nb0, nb1, cat_r, cat_i, Option.some.injEq, exists_eq_left', true_and, and_true, if_true, if_false, ite_not, not_true_eq_false, not_false_eq_true, Sum.inr.injEq, exists_eq_right', true_or, or_true, and_self, Int.cast_ofNat_Int, reduceCtorEq, or_false, false_or, false_and, and_false, jb_zero, lt7_0, lt7_1, lt7_2, lt7_3, lt7_4, lt7_5, lt7_6, c_X9_readArguments_1, c_X9_readArguments_2, c_X9_readArguments_3, c_X9_readArguments_4, c_X9_readArguments_5, c_X9_readArguments_6, c_X9_readArguments_7, nb0, ↓reduceIte, ilt_t, ilt_f, ile_t, ile_f, ieq_t, ieq_f, jb_T, jb_F, jb_t, jb_f]
            exact hq
          | inr r =>
            obtain ⟨b, p2⟩ := r
            rw [hr2] at hK
            intro ξ2 hf2
            have hq := hK ξ2 _ hf2 (fun i hi => by rw [zu_ne (by omega), zu_ne (by omega)]) (by rw [zu_ne (by omega), zu_at]) (fun _ => zu_at _ _ _) (fun z => by omega)
            simp (disch := first | assumption | omega) only [RS_0, RS_1, RS_2, RS_3, RS_4, RS_5, RS_6, RS_7, RS_8, RS_9, RS_10, RS_11, RS_12, RS_13, RS_14, RS_15, RS_16, RS_17, RS_18, RS_19, RS_20, RS_21, RS_22, RS_23, RS_24, RS_25, RS_26, RS_27, RS_28, RS_29, RS_30, RS_31, RS_32, RS_33, RS_34, RS_35, RS_36, ji_add, ji_sub, ji_mul, ji_neg, ji_lit0, ji_ofNat, ji_lt, ji_le, ji_eq, ji_nat, ji_in, ji_rem, ji_div, jl_of, xl_lt, xl_gt, xl_eq, qV_at, qI_at, qJ_at, qD_at, qA_at, qA_no, nb0, nb1, cat_r, cat_i, Option.some.injEq, exists_eq_left', true_and, and_true, if_true, if_false, ite_not, not_true_eq_false, not_false_eq_true, Sum.inr.injEq, exists_eq_right', true_or, or_true, and_self, Int.cast_ofNat_Int, reduceCtorEq, or_false, false_or, false_and, and_false, jb_zero, lt7_0, lt7_1, lt7_2, lt7_3, lt7_4, lt7_5, lt7_6, c_X9_readArguments_1, c_X9_readArguments_2, c_X9_readArguments_3, c_X9_readArguments_4, c_X9_readArguments_5, c_X9_readArguments_6, c_X9_readArguments_7, nb1, ↓reduceIte, ilt_t, ilt_f, ile_t, ile_f, ieq_t, ieq_f, jb_T, jb_F, jb_t, jb_f]
            exact hq
end
