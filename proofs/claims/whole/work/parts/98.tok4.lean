/-! ===== words as numbers; the class: a direction ===== -/
def pkv (T : Int → Int) (s : Int) : Nat → Int
  | 0 => 0
  | n + 1 => pkv T s n * 32 + T (s + n) - 96
theorem pkv_b {T : Int → Int} {s : Int} : ∀ n : Nat, (∀ i : Nat, i < n → 97 ≤ T (s + i) ∧ T (s + i) ≤ 122) → 0 ≤ pkv T s n ∧ pkv T s n < 32 ^ n := by
  intro n
  induction n with
  | zero => intro _; exact ⟨Int.le_refl _, (by decide : (0 : Int) < 32 ^ 0)⟩
  | succ n ih =>
    intro h
    have h1 := ih (fun i hi => h i (by omega))
    have h2 := h n (by omega)
    show 0 ≤ pkv T s n * 32 + T (s + n) - 96 ∧ pkv T s n * 32 + T (s + n) - 96 < 32 ^ (n + 1)
    rw [Int.pow_succ]
    omega
theorem pkv_inj {T C : Int → Int} {s : Int} : ∀ n m : Nat, (∀ i : Nat, i < n → 97 ≤ T (s + i) ∧ T (s + i) ≤ 122) → (∀ i : Nat, i < m → 97 ≤ C (0 + i) ∧ C (0 + i) ≤ 122) → pkv T s n = pkv C 0 m → n = m ∧ ∀ i : Nat, i < n → T (s + i) = C (0 + i) := by
  intro n
  induction n with
  | zero =>
    intro m h1 h2 h
    cases m with
    | zero => exact ⟨rfl, fun i hi => by omega⟩
    | succ m =>
      exfalso
      have b := pkv_b m (fun i hi => h2 i (by omega))
      have c := h2 m (by omega)
      have h : 0 = pkv C 0 m * 32 + C (0 + m) - 96 := h
      omega
  | succ n ih =>
    intro m h1 h2 h
    cases m with
    | zero =>
      exfalso
      have b := pkv_b n (fun i hi => h1 i (by omega))
      have c := h1 n (by omega)
      have h : pkv T s n * 32 + T (s + n) - 96 = 0 := h
      omega
    | succ m =>
      have b1 := pkv_b n (fun i hi => h1 i (by omega))
      have b2 := pkv_b m (fun i hi => h2 i (by omega))
      have c1 := h1 n (by omega)
      have c2 := h2 m (by omega)
      have h : pkv T s n * 32 + T (s + n) - 96 = pkv C 0 m * 32 + C (0 + m) - 96 := h
      obtain ⟨rfl, e2⟩ := ih m (fun i hi => h1 i (by omega)) (fun i hi => h2 i (by omega)) (by omega)
      refine ⟨rfl, fun i hi => ?_⟩
      by_cases q : i = n
      · rw [q]; omega
      · exact e2 i (by omega)
theorem pkv_eq {T C : Int → Int} {s : Int} : ∀ n : Nat, (∀ i : Nat, i < n → T (s + i) = C (0 + i)) → pkv T s n = pkv C 0 n := by
  intro n
  induction n with
  | zero => intro _; rfl
  | succ n ih =>
    intro h
    show pkv T s n * 32 + T (s + n) - 96 = pkv C 0 n * 32 + C (0 + n) - 96
    rw [ih (fun i hi => h i (by omega)), h n (by omega)]
/-- a number of at most five digits -/
theorem vlz_b {l : Int} {T : Int → Int} : ∀ (r : Nat) (i a : Int), i ≤ l → skz tDg l T i - i = r → 0 ≤ a → 0 ≤ vlz l T i a ∧ vlz l T i a + 1 ≤ (a + 1) * 10 ^ r := by
  intro r
  induction r with
  | zero =>
    intro i a hl hs ha
    have e : vlz l T i a = a := by
      by_cases h1 : l ≤ i
      · exact vlz_end h1
      · by_cases h2 : tDg (T i) = true
        · rw [skz_yes (by omega) h2] at hs
          have := skz_b (f := tDg) (l := l) (T := T) _ (i + 1) rfl (by omega)
          omega
        · exact vlz_no h2
    rw [e]
    exact ⟨ha, by rw [Int.pow_zero, Int.mul_one]; omega⟩
  | succ r ih =>
    intro i a hl hs ha
    have h1 : ¬ l ≤ i := fun q => by rw [skz_end q] at hs; omega
    have h2 : tDg (T i) = true := by
      by_cases h2 : tDg (T i) = true
      · exact h2
      · rw [skz_no h2] at hs; omega
    have h3 := h2
    unfold tDg at h3
    rw [decide_eq_true_eq] at h3
    rw [vlz_yes (by omega) h2]
    rw [skz_yes (by omega) h2] at hs
    have h4 := ih (i + 1) (10 * a + T i - 48) (by omega) (by omega) (by omega)
    refine ⟨h4.1, Int.le_trans h4.2 ?_⟩
    have h5 : (10 * a + T i - 48 + 1) * 10 ^ r ≤ (10 * (a + 1)) * 10 ^ r := Int.mul_le_mul_of_nonneg_right (by omega) (Int.pow_nonneg (by decide))
    rw [Int.pow_succ]
    have e : (10 * (a + 1)) * 10 ^ r = (a + 1) * (10 ^ r * 10) := by
      rw [Int.mul_comm 10 (a + 1), Int.mul_assoc, Int.mul_comm 10 (10 ^ r)]
    omega
theorem tV_b {l s : Int} {T : Int → Int} (hs : s ≤ l) (hk : tK l T s = 2) : 0 ≤ tV l T s ∧ tV l T s < 1000000 := by
  unfold tK at hk
  by_cases h1 : l ≤ s
  · rw [if_pos h1] at hk; omega
  · rw [if_neg h1] at hk
    by_cases h2 : tLt (T s) = true
    · rw [if_pos h2] at hk; split at hk <;> omega
    · rw [if_neg h2] at hk
      by_cases h3 : tDg (T s) = true
      · rw [if_pos h3] at hk
        have hE : tE l T s = skz tDg l T s := by unfold tE; rw [if_neg h1, if_neg h2, if_pos h3]
        rw [hE] at hk
        have hsb := skz_b (f := tDg) (l := l) (T := T) _ s rfl hs
        by_cases h5 : 5 < skz tDg l T s - s
        · rw [if_pos h5] at hk; omega
        · have h6 := vlz_b (l := l) (T := T) (skz tDg l T s - s).toNat s 0 hs (by omega) (by omega)
          refine ⟨h6.1, ?_⟩
          have h7 : ∀ r : Nat, r ≤ 5 → (10 : Int) ^ r ≤ 100000 := fun r hr => by
            have : r = 0 ∨ r = 1 ∨ r = 2 ∨ r = 3 ∨ r = 4 ∨ r = 5 := by omega
            rcases this with rfl | rfl | rfl | rfl | rfl | rfl <;> decide
          have h8 := h7 (skz tDg l T s - s).toNat (by omega)
          have h9 := h6.2
          unfold tV
          omega
      · rw [if_neg h3] at hk; split at hk <;> omega
section
variable {μ : XM} {x : Nat} {l p e q : Int} {T : Int → Int} {Q : XQ} {X : XX}
theorem e_readWay (hL : XL μ x) (hSC : SC μ x) (hT : TX μ x l T p) (he : gI μ 198 (x + 1171) = ji e) (hq : gI μ 199 (x + 1171) = ji q) (hK : CA μ x l T e q (-1) Q (pW l T p)) : s_X6_readWay μ [.ref (x + 1171)] Q X := by
  simp (disch := first | assumption | omega) only [XL_0, XL_1, XL_2, XL_3, XL_4, XL_5, XL_6, XL_7, XL_8, XL_9, XL_10, XL_11, XL_12, XL_13, XL_14, XL_15, XL_16, XL_17, XL_18, XL_19, XL_20, XL_21, XL_22, XL_23, XL_24, XL_25, XL_26, XL_27, XL_28, XL_29, XL_30, XL_31, XL_32, XL_33, XL_34, XL_35, XL_36, XL_37, XL_38, XL_39, XL_40, XL_41, XL_42, XL_43, XL_44, XL_45, XL_46, XL_47, WS_0, WS_1, WS_2, WS_3, WS_4, WS_5, WS_6, WS_7, WS_8, WS_9, WS_10, WS_11, WS_12, WS_13, WS_14, WS_15, WS_16, WS_17, WS_18, WS_19, WS_20, PS_0, PS_1, PS_2, PS_3, PS_4, PS_5, PS_6, ji_add, ji_sub, ji_mul, ji_neg, ji_lit0, ji_ofNat, ji_lt, ji_le, ji_eq, ji_nat, ji_in, qV_at, qI_at, qJ_at, qD_at, qA_at, qA_no, nb0, nb1, cat_r, cat_i, Option.some.injEq, exists_eq_left', true_and, and_true, if_true, if_false, ite_not, not_true_eq_false, not_false_eq_true, Sum.inr.injEq, exists_eq_right', true_or, or_true, and_self, Int.cast_ofNat_Int, reduceCtorEq, or_false, false_or, false_and, and_false, jb_zero, lt7_0, lt7_1, lt7_2, lt7_3, lt7_4, lt7_5, lt7_6, Nat.reduceAdd, Nat.reduceLeDiff, c_X6_readWay_1, c_X6_readWay_2, c_X6_readWay_3, c_X6_readWay_4, c_X6_readWay_5, c_X6_readWay_6, u_X6_readWay, ↓reduceIte, ilt_t, ilt_f, ile_t, ile_f, ieq_t, ieq_f, jb_T, jb_F, jb_t, jb_f]
  refine e_readToken hL hT (fun ν r => ?_)
  obtain ⟨r1, r2, r3, r4, r5⟩ := r
  have hL2 := hL.mono r1.1.1
  have ct := RT.ct (e := e) (q := q) ⟨r1, r2, r3, r4, r5⟩ he hq
  have sb := tB_b (l := l) (T := T) hT.1.2.2.2
  have hS2 : SC ν x := hSC.frame r1.1 (fun a ha => by omega)
  obtain ⟨a3, b31, b32, b33, b34, b35⟩ := hS2 3 (by omega)
  obtain ⟨a4, b41, b42, b43, b44, b45⟩ := hS2 4 (by omega)
  obtain ⟨a5, b51, b52, b53, b54, b55⟩ := hS2 5 (by omega)
  obtain ⟨a6, b61, b62, b63, b64, b65⟩ := hS2 6 (by omega)
  have hp := hT.1
  unfold pW at hK
  simp (disch := first | assumption | omega) only [XL_0, XL_1, XL_2, XL_3, XL_4, XL_5, XL_6, XL_7, XL_8, XL_9, XL_10, XL_11, XL_12, XL_13, XL_14, XL_15, XL_16, XL_17, XL_18, XL_19, XL_20, XL_21, XL_22, XL_23, XL_24, XL_25, XL_26, XL_27, XL_28, XL_29, XL_30, XL_31, XL_32, XL_33, XL_34, XL_35, XL_36, XL_37, XL_38, XL_39, XL_40, XL_41, XL_42, XL_43, XL_44, XL_45, XL_46, XL_47, WS_0, WS_1, WS_2, WS_3, WS_4, WS_5, WS_6, WS_7, WS_8, WS_9, WS_10, WS_11, WS_12, WS_13, WS_14, WS_15, WS_16, WS_17, WS_18, WS_19, WS_20, PS_0, PS_1, PS_2, PS_3, PS_4, PS_5, PS_6, ji_add, ji_sub, ji_mul, ji_neg, ji_lit0, ji_ofNat, ji_lt, ji_le, ji_eq, ji_nat, ji_in, qV_at, qI_at, qJ_at, qD_at, qA_at, qA_no, nb0, nb1, cat_r, cat_i, Option.some.injEq, exists_eq_left', true_and, and_true, if_true, if_false, ite_not, not_true_eq_false, not_false_eq_true, Sum.inr.injEq, exists_eq_right', true_or, or_true, and_self, Int.cast_ofNat_Int, reduceCtorEq, or_false, false_or, false_and, and_false, jb_zero, lt7_0, lt7_1, lt7_2, lt7_3, lt7_4, lt7_5, lt7_6, Nat.reduceAdd, Nat.reduceLeDiff, c_X6_readWay_1, c_X6_readWay_2, c_X6_readWay_3, c_X6_readWay_4, c_X6_readWay_5, c_X6_readWay_6, b32, ↓reduceIte, ilt_t, ilt_f, ile_t, ile_f, ieq_t, ieq_f, jb_T, jb_F, jb_t, jb_f]
  refine e_isWord hL2 (by omega : 3 < 14) b33 b34 b35 r2 r3 r4 (by omega) sb.2 rfl (fun w => ?_) (fun w3 => ?_)
  · rw [if_pos w] at hK
    have hq := hK ν ct
    simp (disch := first | assumption | omega) only [XL_0, XL_1, XL_2, XL_3, XL_4, XL_5, XL_6, XL_7, XL_8, XL_9, XL_10, XL_11, XL_12, XL_13, XL_14, XL_15, XL_16, XL_17, XL_18, XL_19, XL_20, XL_21, XL_22, XL_23, XL_24, XL_25, XL_26, XL_27, XL_28, XL_29, XL_30, XL_31, XL_32, XL_33, XL_34, XL_35, XL_36, XL_37, XL_38, XL_39, XL_40, XL_41, XL_42, XL_43, XL_44, XL_45, XL_46, XL_47, WS_0, WS_1, WS_2, WS_3, WS_4, WS_5, WS_6, WS_7, WS_8, WS_9, WS_10, WS_11, WS_12, WS_13, WS_14, WS_15, WS_16, WS_17, WS_18, WS_19, WS_20, PS_0, PS_1, PS_2, PS_3, PS_4, PS_5, PS_6, ji_add, ji_sub, ji_mul, ji_neg, ji_lit0, ji_ofNat, ji_lt, ji_le, ji_eq, ji_nat, ji_in, qV_at, qI_at, qJ_at, qD_at, qA_at, qA_no, nb0, nb1, cat_r, cat_i, Option.some.injEq, exists_eq_left', true_and, and_true, if_true, if_false, ite_not, not_true_eq_false, not_false_eq_true, Sum.inr.injEq, exists_eq_right', true_or, or_true, and_self, Int.cast_ofNat_Int, reduceCtorEq, or_false, false_or, false_and, and_false, jb_zero, lt7_0, lt7_1, lt7_2, lt7_3, lt7_4, lt7_5, lt7_6, Nat.reduceAdd, Nat.reduceLeDiff, c_X6_readWay_1, c_X6_readWay_2, c_X6_readWay_3, c_X6_readWay_4, c_X6_readWay_5, c_X6_readWay_6, ↓reduceIte, ilt_t, ilt_f, ile_t, ile_f, ieq_t, ieq_f, jb_T, jb_F, jb_t, jb_f]
    exact hq
  rw [if_neg w3] at hK
  simp (disch := first | assumption | omega) only [XL_0, XL_1, XL_2, XL_3, XL_4, XL_5, XL_6, XL_7, XL_8, XL_9, XL_10, XL_11, XL_12, XL_13, XL_14, XL_15, XL_16, XL_17, XL_18, XL_19, XL_20, XL_21, XL_22, XL_23, XL_24, XL_25, XL_26, XL_27, XL_28, XL_29, XL_30, XL_31, XL_32, XL_33, XL_34, XL_35, XL_36, XL_37, XL_38, XL_39, XL_40, XL_41, XL_42, XL_43, XL_44, XL_45, XL_46, XL_47, WS_0, WS_1, WS_2, WS_3, WS_4, WS_5, WS_6, WS_7, WS_8, WS_9, WS_10, WS_11, WS_12, WS_13, WS_14, WS_15, WS_16, WS_17, WS_18, WS_19, WS_20, PS_0, PS_1, PS_2, PS_3, PS_4, PS_5, PS_6, ji_add, ji_sub, ji_mul, ji_neg, ji_lit0, ji_ofNat, ji_lt, ji_le, ji_eq, ji_nat, ji_in, qV_at, qI_at, qJ_at, qD_at, qA_at, qA_no, nb0, nb1, cat_r, cat_i, Option.some.injEq, exists_eq_left', true_and, and_true, if_true, if_false, ite_not, not_true_eq_false, not_false_eq_true, Sum.inr.injEq, exists_eq_right', true_or, or_true, and_self, Int.cast_ofNat_Int, reduceCtorEq, or_false, false_or, false_and, and_false, jb_zero, lt7_0, lt7_1, lt7_2, lt7_3, lt7_4, lt7_5, lt7_6, Nat.reduceAdd, Nat.reduceLeDiff, c_X6_readWay_1, c_X6_readWay_2, c_X6_readWay_3, c_X6_readWay_4, c_X6_readWay_5, c_X6_readWay_6, b42, ↓reduceIte, ilt_t, ilt_f, ile_t, ile_f, ieq_t, ieq_f, jb_T, jb_F, jb_t, jb_f]
  refine e_isWord hL2 (by omega : 4 < 14) b43 b44 b45 r2 r3 r4 (by omega) sb.2 rfl (fun w => ?_) (fun w4 => ?_)
  · rw [if_pos w] at hK
    have hq := hK ν ct
    simp (disch := first | assumption | omega) only [XL_0, XL_1, XL_2, XL_3, XL_4, XL_5, XL_6, XL_7, XL_8, XL_9, XL_10, XL_11, XL_12, XL_13, XL_14, XL_15, XL_16, XL_17, XL_18, XL_19, XL_20, XL_21, XL_22, XL_23, XL_24, XL_25, XL_26, XL_27, XL_28, XL_29, XL_30, XL_31, XL_32, XL_33, XL_34, XL_35, XL_36, XL_37, XL_38, XL_39, XL_40, XL_41, XL_42, XL_43, XL_44, XL_45, XL_46, XL_47, WS_0, WS_1, WS_2, WS_3, WS_4, WS_5, WS_6, WS_7, WS_8, WS_9, WS_10, WS_11, WS_12, WS_13, WS_14, WS_15, WS_16, WS_17, WS_18, WS_19, WS_20, PS_0, PS_1, PS_2, PS_3, PS_4, PS_5, PS_6, ji_add, ji_sub, ji_mul, ji_neg, ji_lit0, ji_ofNat, ji_lt, ji_le, ji_eq, ji_nat, ji_in, qV_at, qI_at, qJ_at, qD_at, qA_at, qA_no, nb0, nb1, cat_r, cat_i, Option.some.injEq, exists_eq_left', true_and, and_true, if_true, if_false, ite_not, not_true_eq_false, not_false_eq_true, Sum.inr.injEq, exists_eq_right', true_or, or_true, and_self, Int.cast_ofNat_Int, reduceCtorEq, or_false, false_or, false_and, and_false, jb_zero, lt7_0, lt7_1, lt7_2, lt7_3, lt7_4, lt7_5, lt7_6, Nat.reduceAdd, Nat.reduceLeDiff, c_X6_readWay_1, c_X6_readWay_2, c_X6_readWay_3, c_X6_readWay_4, c_X6_readWay_5, c_X6_readWay_6, ↓reduceIte, ilt_t, ilt_f, ile_t, ile_f, ieq_t, ieq_f, jb_T, jb_F, jb_t, jb_f]
    exact hq
  rw [if_neg w4] at hK
  simp (disch := first | assumption | omega) only [XL_0, XL_1, XL_2, XL_3, XL_4, XL_5, XL_6, XL_7, XL_8, XL_9, XL_10, XL_11, XL_12, XL_13, XL_14, XL_15, XL_16, XL_17, XL_18, XL_19, XL_20, XL_21, XL_22, XL_23, XL_24, XL_25, XL_26, XL_27, XL_28, XL_29, XL_30, XL_31, XL_32, XL_33, XL_34, XL_35, XL_36, XL_37, XL_38, XL_39, XL_40, XL_41, XL_42, XL_43, XL_44, XL_45, XL_46, XL_47, WS_0, WS_1, WS_2, WS_3, WS_4, WS_5, WS_6, WS_7, WS_8, WS_9, WS_10, WS_11, WS_12, WS_13, WS_14, WS_15, WS_16, WS_17, WS_18, WS_19, WS_20, PS_0, PS_1, PS_2, PS_3, PS_4, PS_5, PS_6, ji_add, ji_sub, ji_mul, ji_neg, ji_lit0, ji_ofNat, ji_lt, ji_le, ji_eq, ji_nat, ji_in, qV_at, qI_at, qJ_at, qD_at, qA_at, qA_no, nb0, nb1, cat_r, cat_i, Option.some.injEq, exists_eq_left', true_and, and_true, if_true, if_false, ite_not, not_true_eq_false, not_false_eq_true, Sum.inr.injEq, exists_eq_right', true_or, or_true, and_self, Int.cast_ofNat_Int, reduceCtorEq, or_false, false_or, false_and, and_false, jb_zero, lt7_0, lt7_1, lt7_2, lt7_3, lt7_4, lt7_5, lt7_6, Nat.reduceAdd, Nat.reduceLeDiff, c_X6_readWay_1, c_X6_readWay_2, c_X6_readWay_3, c_X6_readWay_4, c_X6_readWay_5, c_X6_readWay_6, b52, ↓reduceIte, ilt_t, ilt_f, ile_t, ile_f, ieq_t, ieq_f, jb_T, jb_F, jb_t, jb_f]
  refine e_isWord hL2 (by omega : 5 < 14) b53 b54 b55 r2 r3 r4 (by omega) sb.2 rfl (fun w => ?_) (fun w5 => ?_)
  · rw [if_pos w] at hK
    have hq := hK ν ct
    simp (disch := first | assumption | omega) only [XL_0, XL_1, XL_2, XL_3, XL_4, XL_5, XL_6, XL_7, XL_8, XL_9, XL_10, XL_11, XL_12, XL_13, XL_14, XL_15, XL_16, XL_17, XL_18, XL_19, XL_20, XL_21, XL_22, XL_23, XL_24, XL_25, XL_26, XL_27, XL_28, XL_29, XL_30, XL_31, XL_32, XL_33, XL_34, XL_35, XL_36, XL_37, XL_38, XL_39, XL_40, XL_41, XL_42, XL_43, XL_44, XL_45, XL_46, XL_47, WS_0, WS_1, WS_2, WS_3, WS_4, WS_5, WS_6, WS_7, WS_8, WS_9, WS_10, WS_11, WS_12, WS_13, WS_14, WS_15, WS_16, WS_17, WS_18, WS_19, WS_20, PS_0, PS_1, PS_2, PS_3, PS_4, PS_5, PS_6, ji_add, ji_sub, ji_mul, ji_neg, ji_lit0, ji_ofNat, ji_lt, ji_le, ji_eq, ji_nat, ji_in, qV_at, qI_at, qJ_at, qD_at, qA_at, qA_no, nb0, nb1, cat_r, cat_i, Option.some.injEq, exists_eq_left', true_and, and_true, if_true, if_false, ite_not, not_true_eq_false, not_false_eq_true, Sum.inr.injEq, exists_eq_right', true_or, or_true, and_self, Int.cast_ofNat_Int, reduceCtorEq, or_false, false_or, false_and, and_false, jb_zero, lt7_0, lt7_1, lt7_2, lt7_3, lt7_4, lt7_5, lt7_6, Nat.reduceAdd, Nat.reduceLeDiff, c_X6_readWay_1, c_X6_readWay_2, c_X6_readWay_3, c_X6_readWay_4, c_X6_readWay_5, c_X6_readWay_6, ↓reduceIte, ilt_t, ilt_f, ile_t, ile_f, ieq_t, ieq_f, jb_T, jb_F, jb_t, jb_f]
    exact hq
  rw [if_neg w5] at hK
  simp (disch := first | assumption | omega) only [XL_0, XL_1, XL_2, XL_3, XL_4, XL_5, XL_6, XL_7, XL_8, XL_9, XL_10, XL_11, XL_12, XL_13, XL_14, XL_15, XL_16, XL_17, XL_18, XL_19, XL_20, XL_21, XL_22, XL_23, XL_24, XL_25, XL_26, XL_27, XL_28, XL_29, XL_30, XL_31, XL_32, XL_33, XL_34, XL_35, XL_36, XL_37, XL_38, XL_39, XL_40, XL_41, XL_42, XL_43, XL_44, XL_45, XL_46, XL_47, WS_0, WS_1, WS_2, WS_3, WS_4, WS_5, WS_6, WS_7, WS_8, WS_9, WS_10, WS_11, WS_12, WS_13, WS_14, WS_15, WS_16, WS_17, WS_18, WS_19, WS_20, PS_0, PS_1, PS_2, PS_3, PS_4, PS_5, PS_6, ji_add, ji_sub, ji_mul, ji_neg, ji_lit0, ji_ofNat, ji_lt, ji_le, ji_eq, ji_nat, ji_in, qV_at, qI_at, qJ_at, qD_at, qA_at, qA_no, nb0, nb1, cat_r, cat_i, Option.some.injEq, exists_eq_left', true_and, and_true, if_true, if_false, ite_not, not_true_eq_false, not_false_eq_true, Sum.inr.injEq, exists_eq_right', true_or, or_true, and_self, Int.cast_ofNat_Int, reduceCtorEq, or_false, false_or, false_and, and_false, jb_zero, lt7_0, lt7_1, lt7_2, lt7_3, lt7_4, lt7_5, lt7_6, Nat.reduceAdd, Nat.reduceLeDiff, c_X6_readWay_1, c_X6_readWay_2, c_X6_readWay_3, c_X6_readWay_4, c_X6_readWay_5, c_X6_readWay_6, b62, ↓reduceIte, ilt_t, ilt_f, ile_t, ile_f, ieq_t, ieq_f, jb_T, jb_F, jb_t, jb_f]
  refine e_isWord hL2 (by omega : 6 < 14) b63 b64 b65 r2 r3 r4 (by omega) sb.2 rfl (fun w => ?_) (fun w6 => ?_)
  · rw [if_pos w] at hK
    have hq := hK ν ct
    simp (disch := first | assumption | omega) only [XL_0, XL_1, XL_2, XL_3, XL_4, XL_5, XL_6, XL_7, XL_8, XL_9, XL_10, XL_11, XL_12, XL_13, XL_14, XL_15, XL_16, XL_17, XL_18, XL_19, XL_20, XL_21, XL_22, XL_23, XL_24, XL_25, XL_26, XL_27, XL_28, XL_29, XL_30, XL_31, XL_32, XL_33, XL_34, XL_35, XL_36, XL_37, XL_38, XL_39, XL_40, XL_41, XL_42, XL_43, XL_44, XL_45, XL_46, XL_47, WS_0, WS_1, WS_2, WS_3, WS_4, WS_5, WS_6, WS_7, WS_8, WS_9, WS_10, WS_11, WS_12, WS_13, WS_14, WS_15, WS_16, WS_17, WS_18, WS_19, WS_20, PS_0, PS_1, PS_2, PS_3, PS_4, PS_5, PS_6, ji_add, ji_sub, ji_mul, ji_neg, ji_lit0, ji_ofNat, ji_lt, ji_le, ji_eq, ji_nat, ji_in, qV_at, qI_at, qJ_at, qD_at, qA_at, qA_no, nb0, nb1, cat_r, cat_i, Option.some.injEq, exists_eq_left', true_and, and_true, if_true, if_false, ite_not, not_true_eq_false, not_false_eq_true, Sum.inr.injEq, exists_eq_right', true_or, or_true, and_self, Int.cast_ofNat_Int, reduceCtorEq, or_false, false_or, false_and, and_false, jb_zero, lt7_0, lt7_1, lt7_2, lt7_3, lt7_4, lt7_5, lt7_6, Nat.reduceAdd, Nat.reduceLeDiff, c_X6_readWay_1, c_X6_readWay_2, c_X6_readWay_3, c_X6_readWay_4, c_X6_readWay_5, c_X6_readWay_6, ↓reduceIte, ilt_t, ilt_f, ile_t, ile_f, ieq_t, ieq_f, jb_T, jb_F, jb_t, jb_f]
    exact hq
  rw [if_neg w6] at hK
  simp (disch := first | assumption | omega) only [XL_0, XL_1, XL_2, XL_3, XL_4, XL_5, XL_6, XL_7, XL_8, XL_9, XL_10, XL_11, XL_12, XL_13, XL_14, XL_15, XL_16, XL_17, XL_18, XL_19, XL_20, XL_21, XL_22, XL_23, XL_24, XL_25, XL_26, XL_27, XL_28, XL_29, XL_30, XL_31, XL_32, XL_33, XL_34, XL_35, XL_36, XL_37, XL_38, XL_39, XL_40, XL_41, XL_42, XL_43, XL_44, XL_45, XL_46, XL_47, WS_0, WS_1, WS_2, WS_3, WS_4, WS_5, WS_6, WS_7, WS_8, WS_9, WS_10, WS_11, WS_12, WS_13, WS_14, WS_15, WS_16, WS_17, WS_18, WS_19, WS_20, PS_0, PS_1, PS_2, PS_3, PS_4, PS_5, PS_6, ji_add, ji_sub, ji_mul, ji_neg, ji_lit0, ji_ofNat, ji_lt, ji_le, ji_eq, ji_nat, ji_in, qV_at, qI_at, qJ_at, qD_at, qA_at, qA_no, nb0, nb1, cat_r, cat_i, Option.some.injEq, exists_eq_left', true_and, and_true, if_true, if_false, ite_not, not_true_eq_false, not_false_eq_true, Sum.inr.injEq, exists_eq_right', true_or, or_true, and_self, Int.cast_ofNat_Int, reduceCtorEq, or_false, false_or, false_and, and_false, jb_zero, lt7_0, lt7_1, lt7_2, lt7_3, lt7_4, lt7_5, lt7_6, Nat.reduceAdd, Nat.reduceLeDiff, c_X6_readWay_1, c_X6_readWay_2, c_X6_readWay_3, c_X6_readWay_4, c_X6_readWay_5, c_X6_readWay_6, ↓reduceIte, ilt_t, ilt_f, ile_t, ile_f, ieq_t, ieq_f, jb_T, jb_F, jb_t, jb_f]
  refine e_fail hL r1.1 r2 r4 (fun ξ h1 => ?_)
  have hq := hK ξ _ h1
  simp (disch := first | assumption | omega) only [XL_0, XL_1, XL_2, XL_3, XL_4, XL_5, XL_6, XL_7, XL_8, XL_9, XL_10, XL_11, XL_12, XL_13, XL_14, XL_15, XL_16, XL_17, XL_18, XL_19, XL_20, XL_21, XL_22, XL_23, XL_24, XL_25, XL_26, XL_27, XL_28, XL_29, XL_30, XL_31, XL_32, XL_33, XL_34, XL_35, XL_36, XL_37, XL_38, XL_39, XL_40, XL_41, XL_42, XL_43, XL_44, XL_45, XL_46, XL_47, WS_0, WS_1, WS_2, WS_3, WS_4, WS_5, WS_6, WS_7, WS_8, WS_9, WS_10, WS_11, WS_12, WS_13, WS_14, WS_15, WS_16, WS_17, WS_18, WS_19, WS_20, PS_0, PS_1, PS_2, PS_3, PS_4, PS_5, PS_6, ji_add, ji_sub, ji_mul, ji_neg, ji_lit0, ji_ofNat, ji_lt, ji_le, ji_eq, ji_nat, ji_in, qV_at, qI_at, qJ_at, qD_at, qA_at, qA_no, nb0, nb1, cat_r, cat_i, Option.some.injEq, exists_eq_left', true_and, and_true, if_true, if_false, ite_not, not_true_eq_false, not_false_eq_true, Sum.inr.injEq, exists_eq_right', true_or, or_true, and_self, Int.cast_ofNat_Int, reduceCtorEq, or_false, false_or, false_and, and_false, jb_zero, lt7_0, lt7_1, lt7_2, lt7_3, lt7_4, lt7_5, lt7_6, Nat.reduceAdd, Nat.reduceLeDiff, c_X6_readWay_1, c_X6_readWay_2, c_X6_readWay_3, c_X6_readWay_4, c_X6_readWay_5, c_X6_readWay_6, ↓reduceIte, ilt_t, ilt_f, ile_t, ile_f, ieq_t, ieq_f, jb_T, jb_F, jb_t, jb_f]
  exact hq
end
