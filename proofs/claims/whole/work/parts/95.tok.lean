/-! ===== tokens ===== -/
def tBk (v : Int) : Bool := decide (v = 32 ∨ v = 10)
def tLt (v : Int) : Bool := decide (97 ≤ v ∧ v ≤ 122)
def tDg (v : Int) : Bool := decide (48 ≤ v ∧ v ≤ 57)
/-- past what f holds of -/
def skp (f : Int → Bool) (T : Int → Int) : Nat → Int → Int
  | 0, i => i
  | d + 1, i => if f (T i) = true then skp f T d (i + 1) else i
def skz (f : Int → Bool) (l : Int) (T : Int → Int) (i : Int) : Int := skp f T (l - i).toNat i
theorem skz_end {f : Int → Bool} {l i : Int} {T : Int → Int} (h : l ≤ i) : skz f l T i = i := by
  unfold skz
  rw [show (l - i).toNat = 0 by omega]
  rfl
theorem skz_yes {f : Int → Bool} {l i : Int} {T : Int → Int} (h : i < l) (hf : f (T i) = true) : skz f l T i = skz f l T (i + 1) := by
  unfold skz
  rw [show (l - i).toNat = (l - (i + 1)).toNat + 1 by omega]
  exact if_pos hf
theorem skz_no {f : Int → Bool} {l i : Int} {T : Int → Int} (hf : ¬ f (T i) = true) : skz f l T i = i := by
  by_cases h : l ≤ i
  · exact skz_end h
  · unfold skz
    rw [show (l - i).toNat = (l - (i + 1)).toNat + 1 by omega]
    exact if_neg hf
theorem skz_b {f : Int → Bool} {l : Int} {T : Int → Int} : ∀ (d : Nat) (i : Int), (l - i).toNat = d → i ≤ l → i ≤ skz f l T i ∧ skz f l T i ≤ l := by
  intro d
  induction d with
  | zero => intro i h1 h2; rw [skz_end (by omega)]; omega
  | succ d ih =>
    intro i h1 h2
    by_cases hf : f (T i) = true
    · rw [skz_yes (by omega) hf]
      have := ih (i + 1) (by omega) (by omega)
      omega
    · rw [skz_no hf]; omega
/-- a number's value -/
def vlp (T : Int → Int) : Nat → Int → Int → Int
  | 0, _, a => a
  | d + 1, i, a => if tDg (T i) = true then vlp T d (i + 1) (10 * a + T i - 48) else a
def vlz (l : Int) (T : Int → Int) (i a : Int) : Int := vlp T (l - i).toNat i a
theorem vlz_end {l i a : Int} {T : Int → Int} (h : l ≤ i) : vlz l T i a = a := by
  unfold vlz
  rw [show (l - i).toNat = 0 by omega]
  rfl
theorem vlz_yes {l i a : Int} {T : Int → Int} (h : i < l) (hf : tDg (T i) = true) : vlz l T i a = vlz l T (i + 1) (10 * a + T i - 48) := by
  unfold vlz
  rw [show (l - i).toNat = (l - (i + 1)).toNat + 1 by omega]
  exact if_pos hf
theorem vlz_no {l i a : Int} {T : Int → Int} (hf : ¬ tDg (T i) = true) : vlz l T i a = a := by
  by_cases h : l ≤ i
  · exact vlz_end h
  · unfold vlz
    rw [show (l - i).toNat = (l - (i + 1)).toNat + 1 by omega]
    exact if_neg hf
/-- a token: where it begins, ends, its kind, its value -/
def tB (l : Int) (T : Int → Int) (p : Int) : Int := skz tBk l T p
def tE (l : Int) (T : Int → Int) (s : Int) : Int := if l ≤ s then s else if tLt (T s) = true then skz tLt l T s else if tDg (T s) = true then skz tDg l T s else s + 1
def tK (l : Int) (T : Int → Int) (s : Int) : Int := if l ≤ s then 0 else if tLt (T s) = true then (if 8 < tE l T s - s then 4 else 1) else if tDg (T s) = true then (if 5 < tE l T s - s then 4 else 2) else if T s = 59 then 3 else 4
def tV (l : Int) (T : Int → Int) (s : Int) : Int := vlz l T s 0
theorem tB_b {l p : Int} {T : Int → Int} (h : p ≤ l) : p ≤ tB l T p ∧ tB l T p ≤ l := skz_b _ p rfl h
theorem tE_b {l s : Int} {T : Int → Int} (h : s ≤ l) : s ≤ tE l T s ∧ tE l T s ≤ l ∧ (s < l → s < tE l T s) := by
  unfold tE
  split
  · omega
  · split
    · rename_i h1
      rw [skz_yes (by omega) h1]
      have := skz_b (f := tLt) (l := l) (T := T) _ (s + 1) rfl (by omega)
      omega
    · split
      · rename_i h1
        rw [skz_yes (by omega) h1]
        have := skz_b (f := tDg) (l := l) (T := T) _ (s + 1) rfl (by omega)
        omega
      · omega
/-- all but the fields of reading is the same -/
def KP (a : Nat) (ν μ : XM) : Prop := CH (fun b => b = a) ν μ ∧ ∀ k, (k ≠ 194 ∧ k ≠ 195 ∧ k ≠ 197) → gI ν k a = gI μ k a
def KR (a : Nat) (ν μ : XM) : Prop := CH (fun b => b = a) ν μ ∧ ∀ k, (k < 194 ∨ 197 < k) → gI ν k a = gI μ k a
theorem KP.r {a : Nat} {ν μ : XM} (h : KP a ν μ) : KR a ν μ := ⟨h.1, fun k hk => h.2 k (by omega)⟩
theorem KR.trans {a : Nat} {ξ ν μ : XM} (h : KR a ξ ν) (g : KR a ν μ) : KR a ξ μ := ⟨CH.trans h.1 g.1, fun k hk => (h.2 k hk).trans (g.2 k hk)⟩
theorem kr_s {a : Nat} {ν μ : XM} (h : KR a ν μ) (k : Nat) (v : Int32) (hk : 194 ≤ k ∧ k ≤ 197) : KR a (sI ν k a v) μ := ⟨h.1.sI _ _ _ rfl, fun j hj => (gI_sI_k _ _ _ _ _ _ (by omega)).trans (h.2 j hj)⟩
theorem KP.refl {a : Nat} {μ : XM} : KP a μ μ := ⟨CH.refl _ _, fun _ _ => rfl⟩
theorem KP.trans {a : Nat} {ξ ν μ : XM} (h : KP a ξ ν) (g : KP a ν μ) : KP a ξ μ := ⟨CH.trans h.1 g.1, fun k hk => (h.2 k hk).trans (g.2 k hk)⟩
theorem kp_s {a : Nat} {ν μ : XM} (h : KP a ν μ) (k : Nat) (v : Int32) (hk : k = 194 ∨ k = 195 ∨ k = 197) : KP a (sI ν k a v) μ := ⟨h.1.sI _ _ _ rfl, fun j hj => (gI_sI_k _ _ _ _ _ _ (by omega)).trans (h.2 j hj)⟩
/-- the text and where reading is -/
def TX (μ : XM) (x : Nat) (l : Int) (T : Int → Int) (p : Int) : Prop := (0 ≤ l ∧ l ≤ 1000 ∧ 0 ≤ p ∧ p ≤ l) ∧ gI μ 193 (x + 1171) = ji l ∧ gI μ 194 (x + 1171) = ji p ∧ ∀ i, 0 ≤ i → i < l → aI μ (x + 1172) i.toNat = ji (T i) ∧ 0 ≤ T i ∧ T i < 256
theorem TX.kp {μ ν : XM} {x : Nat} {l p q : Int} {T : Int → Int} (h : TX μ x l T p) (hk : KP (x + 1171) ν μ) (q0 : 0 ≤ q) (q1 : q ≤ l) (hq : gI ν 194 (x + 1171) = ji q) : TX ν x l T q := ⟨⟨h.1.1, h.1.2.1, q0, q1⟩, (hk.2 193 (by omega)).trans h.2.1, hq, fun i i0 i1 => by rw [(hk.1.2 (x + 1172) (by omega)).2.2.1]; exact h.2.2.2 i i0 i1⟩
theorem TX.kr {μ ν : XM} {x : Nat} {l p q : Int} {T : Int → Int} (h : TX μ x l T p) (hk : KR (x + 1171) ν μ) (q0 : 0 ≤ q) (q1 : q ≤ l) (hq : gI ν 194 (x + 1171) = ji q) : TX ν x l T q := ⟨⟨h.1.1, h.1.2.1, q0, q1⟩, (hk.2 193 (by omega)).trans h.2.1, hq, fun i i0 i1 => by rw [(hk.1.2 (x + 1172) (by omega)).2.2.1]; exact h.2.2.2 i i0 i1⟩
section
variable {μ : XM} {x : Nat} {l p : Int} {T : Int → Int} {Q : XQ} {X : XX}
theorem e_isBlank {c : Int} (c0 : -1 ≤ c) (c1 : c < 256) : s_X6_isBlank μ [.int (ji c)] Q X = Q (some (.int (jb (tBk c = true)))) μ := by
  unfold tBk
  by_cases h1 : c = 32
  · subst h1; simp (disch := first | assumption | omega) only [XL_0, XL_1, XL_2, XL_3, XL_4, XL_5, XL_6, XL_7, XL_8, XL_9, XL_10, XL_11, XL_12, XL_13, XL_14, XL_15, XL_16, XL_17, XL_18, XL_19, XL_20, XL_21, XL_22, XL_23, XL_24, XL_25, XL_26, XL_27, XL_28, XL_29, XL_30, XL_31, XL_32, XL_33, XL_34, XL_35, XL_36, XL_37, XL_38, XL_39, XL_40, XL_41, XL_42, XL_43, XL_44, XL_45, XL_46, XL_47, WS_0, WS_1, WS_2, WS_3, WS_4, WS_5, WS_6, WS_7, WS_8, WS_9, WS_10, WS_11, WS_12, WS_13, WS_14, WS_15, WS_16, WS_17, WS_18, WS_19, WS_20, PS_0, PS_1, PS_2, PS_3, PS_4, PS_5, PS_6, ji_add, ji_sub, ji_mul, ji_neg, ji_lit0, ji_ofNat, ji_lt, ji_le, ji_eq, ji_nat, ji_in, qV_at, qI_at, qJ_at, qD_at, qA_at, qA_no, nb0, nb1, cat_r, cat_i, Option.some.injEq, exists_eq_left', true_and, and_true, if_true, if_false, ite_not, not_true_eq_false, not_false_eq_true, Sum.inr.injEq, exists_eq_right', true_or, or_true, and_self, Int.cast_ofNat_Int, reduceCtorEq, or_false, false_or, false_and, and_false, jb_zero, lt7_0, lt7_1, lt7_2, lt7_3, lt7_4, lt7_5, lt7_6, Nat.reduceAdd, Nat.reduceLeDiff, u_X6_isBlank, nb1, decide_true, Int.reduceEq, ↓reduceIte, ilt_t, ilt_f, ile_t, ile_f, ieq_t, ieq_f, jb_T, jb_F, jb_t, jb_f]
  · by_cases h2 : c = 10
    · subst h2; simp (disch := first | assumption | omega) only [XL_0, XL_1, XL_2, XL_3, XL_4, XL_5, XL_6, XL_7, XL_8, XL_9, XL_10, XL_11, XL_12, XL_13, XL_14, XL_15, XL_16, XL_17, XL_18, XL_19, XL_20, XL_21, XL_22, XL_23, XL_24, XL_25, XL_26, XL_27, XL_28, XL_29, XL_30, XL_31, XL_32, XL_33, XL_34, XL_35, XL_36, XL_37, XL_38, XL_39, XL_40, XL_41, XL_42, XL_43, XL_44, XL_45, XL_46, XL_47, WS_0, WS_1, WS_2, WS_3, WS_4, WS_5, WS_6, WS_7, WS_8, WS_9, WS_10, WS_11, WS_12, WS_13, WS_14, WS_15, WS_16, WS_17, WS_18, WS_19, WS_20, PS_0, PS_1, PS_2, PS_3, PS_4, PS_5, PS_6, ji_add, ji_sub, ji_mul, ji_neg, ji_lit0, ji_ofNat, ji_lt, ji_le, ji_eq, ji_nat, ji_in, qV_at, qI_at, qJ_at, qD_at, qA_at, qA_no, nb0, nb1, cat_r, cat_i, Option.some.injEq, exists_eq_left', true_and, and_true, if_true, if_false, ite_not, not_true_eq_false, not_false_eq_true, Sum.inr.injEq, exists_eq_right', true_or, or_true, and_self, Int.cast_ofNat_Int, reduceCtorEq, or_false, false_or, false_and, and_false, jb_zero, lt7_0, lt7_1, lt7_2, lt7_3, lt7_4, lt7_5, lt7_6, Nat.reduceAdd, Nat.reduceLeDiff, u_X6_isBlank, nb1, decide_true, Int.reduceEq, ↓reduceIte, ilt_t, ilt_f, ile_t, ile_f, ieq_t, ieq_f, jb_T, jb_F, jb_t, jb_f]
    · simp (disch := first | assumption | omega) only [XL_0, XL_1, XL_2, XL_3, XL_4, XL_5, XL_6, XL_7, XL_8, XL_9, XL_10, XL_11, XL_12, XL_13, XL_14, XL_15, XL_16, XL_17, XL_18, XL_19, XL_20, XL_21, XL_22, XL_23, XL_24, XL_25, XL_26, XL_27, XL_28, XL_29, XL_30, XL_31, XL_32, XL_33, XL_34, XL_35, XL_36, XL_37, XL_38, XL_39, XL_40, XL_41, XL_42, XL_43, XL_44, XL_45, XL_46, XL_47, WS_0, WS_1, WS_2, WS_3, WS_4, WS_5, WS_6, WS_7, WS_8, WS_9, WS_10, WS_11, WS_12, WS_13, WS_14, WS_15, WS_16, WS_17, WS_18, WS_19, WS_20, PS_0, PS_1, PS_2, PS_3, PS_4, PS_5, PS_6, ji_add, ji_sub, ji_mul, ji_neg, ji_lit0, ji_ofNat, ji_lt, ji_le, ji_eq, ji_nat, ji_in, qV_at, qI_at, qJ_at, qD_at, qA_at, qA_no, nb0, nb1, cat_r, cat_i, Option.some.injEq, exists_eq_left', true_and, and_true, if_true, if_false, ite_not, not_true_eq_false, not_false_eq_true, Sum.inr.injEq, exists_eq_right', true_or, or_true, and_self, Int.cast_ofNat_Int, reduceCtorEq, or_false, false_or, false_and, and_false, jb_zero, lt7_0, lt7_1, lt7_2, lt7_3, lt7_4, lt7_5, lt7_6, Nat.reduceAdd, Nat.reduceLeDiff, u_X6_isBlank, h1, h2, nb0, decide_false, Bool.false_eq_true, ↓reduceIte, ilt_t, ilt_f, ile_t, ile_f, ieq_t, ieq_f, jb_T, jb_F, jb_t, jb_f]
theorem e_isLetter {c : Int} (c0 : -1 ≤ c) (c1 : c < 256) : s_X6_isLetter μ [.int (ji c)] Q X = Q (some (.int (jb (tLt c = true)))) μ := by
  unfold tLt
  by_cases h1 : 97 ≤ c
  · by_cases h2 : c ≤ 122
    · simp (disch := first | assumption | omega) only [XL_0, XL_1, XL_2, XL_3, XL_4, XL_5, XL_6, XL_7, XL_8, XL_9, XL_10, XL_11, XL_12, XL_13, XL_14, XL_15, XL_16, XL_17, XL_18, XL_19, XL_20, XL_21, XL_22, XL_23, XL_24, XL_25, XL_26, XL_27, XL_28, XL_29, XL_30, XL_31, XL_32, XL_33, XL_34, XL_35, XL_36, XL_37, XL_38, XL_39, XL_40, XL_41, XL_42, XL_43, XL_44, XL_45, XL_46, XL_47, WS_0, WS_1, WS_2, WS_3, WS_4, WS_5, WS_6, WS_7, WS_8, WS_9, WS_10, WS_11, WS_12, WS_13, WS_14, WS_15, WS_16, WS_17, WS_18, WS_19, WS_20, PS_0, PS_1, PS_2, PS_3, PS_4, PS_5, PS_6, ji_add, ji_sub, ji_mul, ji_neg, ji_lit0, ji_ofNat, ji_lt, ji_le, ji_eq, ji_nat, ji_in, qV_at, qI_at, qJ_at, qD_at, qA_at, qA_no, nb0, nb1, cat_r, cat_i, Option.some.injEq, exists_eq_left', true_and, and_true, if_true, if_false, ite_not, not_true_eq_false, not_false_eq_true, Sum.inr.injEq, exists_eq_right', true_or, or_true, and_self, Int.cast_ofNat_Int, reduceCtorEq, or_false, false_or, false_and, and_false, jb_zero, lt7_0, lt7_1, lt7_2, lt7_3, lt7_4, lt7_5, lt7_6, Nat.reduceAdd, Nat.reduceLeDiff, u_X6_isLetter, h1, h2, nb1, decide_true, ↓reduceIte, ilt_t, ilt_f, ile_t, ile_f, ieq_t, ieq_f, jb_T, jb_F, jb_t, jb_f]
    · simp (disch := first | assumption | omega) only [XL_0, XL_1, XL_2, XL_3, XL_4, XL_5, XL_6, XL_7, XL_8, XL_9, XL_10, XL_11, XL_12, XL_13, XL_14, XL_15, XL_16, XL_17, XL_18, XL_19, XL_20, XL_21, XL_22, XL_23, XL_24, XL_25, XL_26, XL_27, XL_28, XL_29, XL_30, XL_31, XL_32, XL_33, XL_34, XL_35, XL_36, XL_37, XL_38, XL_39, XL_40, XL_41, XL_42, XL_43, XL_44, XL_45, XL_46, XL_47, WS_0, WS_1, WS_2, WS_3, WS_4, WS_5, WS_6, WS_7, WS_8, WS_9, WS_10, WS_11, WS_12, WS_13, WS_14, WS_15, WS_16, WS_17, WS_18, WS_19, WS_20, PS_0, PS_1, PS_2, PS_3, PS_4, PS_5, PS_6, ji_add, ji_sub, ji_mul, ji_neg, ji_lit0, ji_ofNat, ji_lt, ji_le, ji_eq, ji_nat, ji_in, qV_at, qI_at, qJ_at, qD_at, qA_at, qA_no, nb0, nb1, cat_r, cat_i, Option.some.injEq, exists_eq_left', true_and, and_true, if_true, if_false, ite_not, not_true_eq_false, not_false_eq_true, Sum.inr.injEq, exists_eq_right', true_or, or_true, and_self, Int.cast_ofNat_Int, reduceCtorEq, or_false, false_or, false_and, and_false, jb_zero, lt7_0, lt7_1, lt7_2, lt7_3, lt7_4, lt7_5, lt7_6, Nat.reduceAdd, Nat.reduceLeDiff, u_X6_isLetter, h1, h2, nb0, decide_false, Bool.false_eq_true, ↓reduceIte, ilt_t, ilt_f, ile_t, ile_f, ieq_t, ieq_f, jb_T, jb_F, jb_t, jb_f]
  · simp (disch := first | assumption | omega) only [XL_0, XL_1, XL_2, XL_3, XL_4, XL_5, XL_6, XL_7, XL_8, XL_9, XL_10, XL_11, XL_12, XL_13, XL_14, XL_15, XL_16, XL_17, XL_18, XL_19, XL_20, XL_21, XL_22, XL_23, XL_24, XL_25, XL_26, XL_27, XL_28, XL_29, XL_30, XL_31, XL_32, XL_33, XL_34, XL_35, XL_36, XL_37, XL_38, XL_39, XL_40, XL_41, XL_42, XL_43, XL_44, XL_45, XL_46, XL_47, WS_0, WS_1, WS_2, WS_3, WS_4, WS_5, WS_6, WS_7, WS_8, WS_9, WS_10, WS_11, WS_12, WS_13, WS_14, WS_15, WS_16, WS_17, WS_18, WS_19, WS_20, PS_0, PS_1, PS_2, PS_3, PS_4, PS_5, PS_6, ji_add, ji_sub, ji_mul, ji_neg, ji_lit0, ji_ofNat, ji_lt, ji_le, ji_eq, ji_nat, ji_in, qV_at, qI_at, qJ_at, qD_at, qA_at, qA_no, nb0, nb1, cat_r, cat_i, Option.some.injEq, exists_eq_left', true_and, and_true, if_true, if_false, ite_not, not_true_eq_false, not_false_eq_true, Sum.inr.injEq, exists_eq_right', true_or, or_true, and_self, Int.cast_ofNat_Int, reduceCtorEq, or_false, false_or, false_and, and_false, jb_zero, lt7_0, lt7_1, lt7_2, lt7_3, lt7_4, lt7_5, lt7_6, Nat.reduceAdd, Nat.reduceLeDiff, u_X6_isLetter, h1, nb0, decide_false, Bool.false_eq_true, ↓reduceIte, ilt_t, ilt_f, ile_t, ile_f, ieq_t, ieq_f, jb_T, jb_F, jb_t, jb_f]
theorem e_isDigit {c : Int} (c0 : -1 ≤ c) (c1 : c < 256) : s_X6_isDigit μ [.int (ji c)] Q X = Q (some (.int (jb (tDg c = true)))) μ := by
  unfold tDg
  by_cases h1 : 48 ≤ c
  · by_cases h2 : c ≤ 57
    · simp (disch := first | assumption | omega) only [XL_0, XL_1, XL_2, XL_3, XL_4, XL_5, XL_6, XL_7, XL_8, XL_9, XL_10, XL_11, XL_12, XL_13, XL_14, XL_15, XL_16, XL_17, XL_18, XL_19, XL_20, XL_21, XL_22, XL_23, XL_24, XL_25, XL_26, XL_27, XL_28, XL_29, XL_30, XL_31, XL_32, XL_33, XL_34, XL_35, XL_36, XL_37, XL_38, XL_39, XL_40, XL_41, XL_42, XL_43, XL_44, XL_45, XL_46, XL_47, WS_0, WS_1, WS_2, WS_3, WS_4, WS_5, WS_6, WS_7, WS_8, WS_9, WS_10, WS_11, WS_12, WS_13, WS_14, WS_15, WS_16, WS_17, WS_18, WS_19, WS_20, PS_0, PS_1, PS_2, PS_3, PS_4, PS_5, PS_6, ji_add, ji_sub, ji_mul, ji_neg, ji_lit0, ji_ofNat, ji_lt, ji_le, ji_eq, ji_nat, ji_in, qV_at, qI_at, qJ_at, qD_at, qA_at, qA_no, nb0, nb1, cat_r, cat_i, Option.some.injEq, exists_eq_left', true_and, and_true, if_true, if_false, ite_not, not_true_eq_false, not_false_eq_true, Sum.inr.injEq, exists_eq_right', true_or, or_true, and_self, Int.cast_ofNat_Int, reduceCtorEq, or_false, false_or, false_and, and_false, jb_zero, lt7_0, lt7_1, lt7_2, lt7_3, lt7_4, lt7_5, lt7_6, Nat.reduceAdd, Nat.reduceLeDiff, u_X6_isDigit, h1, h2, nb1, decide_true, ↓reduceIte, ilt_t, ilt_f, ile_t, ile_f, ieq_t, ieq_f, jb_T, jb_F, jb_t, jb_f]
    · simp (disch := first | assumption | omega) only [XL_0, XL_1, XL_2, XL_3, XL_4, XL_5, XL_6, XL_7, XL_8, XL_9, XL_10, XL_11, XL_12, XL_13, XL_14, XL_15, XL_16, XL_17, XL_18, XL_19, XL_20, XL_21, XL_22, XL_23, XL_24, XL_25, XL_26, XL_27, XL_28, XL_29, XL_30, XL_31, XL_32, XL_33, XL_34, XL_35, XL_36, XL_37, XL_38, XL_39, XL_40, XL_41, XL_42, XL_43, XL_44, XL_45, XL_46, XL_47, WS_0, WS_1, WS_2, WS_3, WS_4, WS_5, WS_6, WS_7, WS_8, WS_9, WS_10, WS_11, WS_12, WS_13, WS_14, WS_15, WS_16, WS_17, WS_18, WS_19, WS_20, PS_0, PS_1, PS_2, PS_3, PS_4, PS_5, PS_6, ji_add, ji_sub, ji_mul, ji_neg, ji_lit0, ji_ofNat, ji_lt, ji_le, ji_eq, ji_nat, ji_in, qV_at, qI_at, qJ_at, qD_at, qA_at, qA_no, nb0, nb1, cat_r, cat_i, Option.some.injEq, exists_eq_left', true_and, and_true, if_true, if_false, ite_not, not_true_eq_false, not_false_eq_true, Sum.inr.injEq, exists_eq_right', true_or, or_true, and_self, Int.cast_ofNat_Int, reduceCtorEq, or_false, false_or, false_and, and_false, jb_zero, lt7_0, lt7_1, lt7_2, lt7_3, lt7_4, lt7_5, lt7_6, Nat.reduceAdd, Nat.reduceLeDiff, u_X6_isDigit, h1, h2, nb0, decide_false, Bool.false_eq_true, ↓reduceIte, ilt_t, ilt_f, ile_t, ile_f, ieq_t, ieq_f, jb_T, jb_F, jb_t, jb_f]
  · simp (disch := first | assumption | omega) only [XL_0, XL_1, XL_2, XL_3, XL_4, XL_5, XL_6, XL_7, XL_8, XL_9, XL_10, XL_11, XL_12, XL_13, XL_14, XL_15, XL_16, XL_17, XL_18, XL_19, XL_20, XL_21, XL_22, XL_23, XL_24, XL_25, XL_26, XL_27, XL_28, XL_29, XL_30, XL_31, XL_32, XL_33, XL_34, XL_35, XL_36, XL_37, XL_38, XL_39, XL_40, XL_41, XL_42, XL_43, XL_44, XL_45, XL_46, XL_47, WS_0, WS_1, WS_2, WS_3, WS_4, WS_5, WS_6, WS_7, WS_8, WS_9, WS_10, WS_11, WS_12, WS_13, WS_14, WS_15, WS_16, WS_17, WS_18, WS_19, WS_20, PS_0, PS_1, PS_2, PS_3, PS_4, PS_5, PS_6, ji_add, ji_sub, ji_mul, ji_neg, ji_lit0, ji_ofNat, ji_lt, ji_le, ji_eq, ji_nat, ji_in, qV_at, qI_at, qJ_at, qD_at, qA_at, qA_no, nb0, nb1, cat_r, cat_i, Option.some.injEq, exists_eq_left', true_and, and_true, if_true, if_false, ite_not, not_true_eq_false, not_false_eq_true, Sum.inr.injEq, exists_eq_right', true_or, or_true, and_self, Int.cast_ofNat_Int, reduceCtorEq, or_false, false_or, false_and, and_false, jb_zero, lt7_0, lt7_1, lt7_2, lt7_3, lt7_4, lt7_5, lt7_6, Nat.reduceAdd, Nat.reduceLeDiff, u_X6_isDigit, h1, nb0, decide_false, Bool.false_eq_true, ↓reduceIte, ilt_t, ilt_f, ile_t, ile_f, ieq_t, ieq_f, jb_T, jb_F, jb_t, jb_f]
theorem e_skipLetters_l (hL : XL μ x) (hK : ∀ (ν : XM) (j : Int), KP (x + 1171) ν μ → j = skz tLt l T p → gI ν 194 (x + 1171) = ji j → Q none ν) : ∀ (d mf : Nat) (i : Int) (z : XM), (l - i).toNat = d → d < mf → KP (x + 1171) z μ → TX z x l T i → skz tLt l T i = skz tLt l T p → ln_X6_skipLetters_0 Q X mf [some (.ref (x + 1171))] [] z 0 0 := by
  intro d
  induction d with
  | zero =>
    intro mf i z hd hm z1 z2 hs
    obtain ⟨mf, rfl⟩ : ∃ j, mf = j + 1 := ⟨mf - 1, by omega⟩
    have hL2 := hL.mono z1.1.1
    obtain ⟨⟨l0, l1, i0, i1⟩, g3, g4, gT⟩ := z2
    have hi : l ≤ i := by omega
    have hq := hK z i z1 ((skz_end hi).symm.trans hs) g4
    rw [ul_X6_skipLetters_0]
    simp (disch := first | assumption | omega) only [XL_0, XL_1, XL_2, XL_3, XL_4, XL_5, XL_6, XL_7, XL_8, XL_9, XL_10, XL_11, XL_12, XL_13, XL_14, XL_15, XL_16, XL_17, XL_18, XL_19, XL_20, XL_21, XL_22, XL_23, XL_24, XL_25, XL_26, XL_27, XL_28, XL_29, XL_30, XL_31, XL_32, XL_33, XL_34, XL_35, XL_36, XL_37, XL_38, XL_39, XL_40, XL_41, XL_42, XL_43, XL_44, XL_45, XL_46, XL_47, WS_0, WS_1, WS_2, WS_3, WS_4, WS_5, WS_6, WS_7, WS_8, WS_9, WS_10, WS_11, WS_12, WS_13, WS_14, WS_15, WS_16, WS_17, WS_18, WS_19, WS_20, PS_0, PS_1, PS_2, PS_3, PS_4, PS_5, PS_6, ji_add, ji_sub, ji_mul, ji_neg, ji_lit0, ji_ofNat, ji_lt, ji_le, ji_eq, ji_nat, ji_in, qV_at, qI_at, qJ_at, qD_at, qA_at, qA_no, nb0, nb1, cat_r, cat_i, Option.some.injEq, exists_eq_left', true_and, and_true, if_true, if_false, ite_not, not_true_eq_false, not_false_eq_true, Sum.inr.injEq, exists_eq_right', true_or, or_true, and_self, Int.cast_ofNat_Int, reduceCtorEq, or_false, false_or, false_and, and_false, jb_zero, lt7_0, lt7_1, lt7_2, lt7_3, lt7_4, lt7_5, lt7_6, Nat.reduceAdd, Nat.reduceLeDiff, g3, g4, ↓reduceIte, ilt_t, ilt_f, ile_t, ile_f, ieq_t, ieq_f, jb_T, jb_F, jb_t, jb_f]
    exact hq
  | succ d ih =>
    intro mf i z hd hm z1 z2 hs
    obtain ⟨mf, rfl⟩ : ∃ j, mf = j + 1 := ⟨mf - 1, by omega⟩
    have hL2 := hL.mono z1.1.1
    have z2' := z2
    obtain ⟨⟨l0, l1, i0, i1⟩, g3, g4, gT⟩ := z2'
    have hi : ¬ l ≤ i := by omega
    have gt := gT i i0 (by omega)
    have ev := fun (Q : XQ) X => e_valueAt (Q := Q) (X := X) (XL_33 hL2) (by rw [XL_34 hL2]; omega) i0 (by rw [XL_34 hL2]; omega) gt.1
    have z3 : KP (x + 1171) (sI z 194 (x + 1171) (ji (i + 1))) μ := kp_s z1 _ _ (by omega)
    rw [ul_X6_skipLetters_0]
    by_cases hb : tLt (T i) = true
    · simp (disch := first | assumption | omega) only [XL_0, XL_1, XL_2, XL_3, XL_4, XL_5, XL_6, XL_7, XL_8, XL_9, XL_10, XL_11, XL_12, XL_13, XL_14, XL_15, XL_16, XL_17, XL_18, XL_19, XL_20, XL_21, XL_22, XL_23, XL_24, XL_25, XL_26, XL_27, XL_28, XL_29, XL_30, XL_31, XL_32, XL_33, XL_34, XL_35, XL_36, XL_37, XL_38, XL_39, XL_40, XL_41, XL_42, XL_43, XL_44, XL_45, XL_46, XL_47, WS_0, WS_1, WS_2, WS_3, WS_4, WS_5, WS_6, WS_7, WS_8, WS_9, WS_10, WS_11, WS_12, WS_13, WS_14, WS_15, WS_16, WS_17, WS_18, WS_19, WS_20, PS_0, PS_1, PS_2, PS_3, PS_4, PS_5, PS_6, ji_add, ji_sub, ji_mul, ji_neg, ji_lit0, ji_ofNat, ji_lt, ji_le, ji_eq, ji_nat, ji_in, qV_at, qI_at, qJ_at, qD_at, qA_at, qA_no, nb0, nb1, cat_r, cat_i, Option.some.injEq, exists_eq_left', true_and, and_true, if_true, if_false, ite_not, not_true_eq_false, not_false_eq_true, Sum.inr.injEq, exists_eq_right', true_or, or_true, and_self, Int.cast_ofNat_Int, reduceCtorEq, or_false, false_or, false_and, and_false, jb_zero, lt7_0, lt7_1, lt7_2, lt7_3, lt7_4, lt7_5, lt7_6, Nat.reduceAdd, Nat.reduceLeDiff, c_X6_skipLetters_1, c_X6_skipLetters_2, c_X6_skipLetters_3, c_X6_skipLetters_4, g3, g4, ev, e_isLetter, hb, Value.category, ↓reduceIte, ilt_t, ilt_f, ile_t, ile_f, ieq_t, ieq_f, jb_T, jb_F, jb_t, jb_f]
      exact ih mf (i + 1) _ (by omega) (by omega) z3 (z2.kp (kp_s KP.refl _ _ (by omega)) (by omega) (by omega) (gI_sI_at _ _ _ _)) ((skz_yes (by omega) hb).symm.trans hs)
    · have hq := hK z i z1 ((skz_no hb).symm.trans hs) g4
      simp (disch := first | assumption | omega) only [XL_0, XL_1, XL_2, XL_3, XL_4, XL_5, XL_6, XL_7, XL_8, XL_9, XL_10, XL_11, XL_12, XL_13, XL_14, XL_15, XL_16, XL_17, XL_18, XL_19, XL_20, XL_21, XL_22, XL_23, XL_24, XL_25, XL_26, XL_27, XL_28, XL_29, XL_30, XL_31, XL_32, XL_33, XL_34, XL_35, XL_36, XL_37, XL_38, XL_39, XL_40, XL_41, XL_42, XL_43, XL_44, XL_45, XL_46, XL_47, WS_0, WS_1, WS_2, WS_3, WS_4, WS_5, WS_6, WS_7, WS_8, WS_9, WS_10, WS_11, WS_12, WS_13, WS_14, WS_15, WS_16, WS_17, WS_18, WS_19, WS_20, PS_0, PS_1, PS_2, PS_3, PS_4, PS_5, PS_6, ji_add, ji_sub, ji_mul, ji_neg, ji_lit0, ji_ofNat, ji_lt, ji_le, ji_eq, ji_nat, ji_in, qV_at, qI_at, qJ_at, qD_at, qA_at, qA_no, nb0, nb1, cat_r, cat_i, Option.some.injEq, exists_eq_left', true_and, and_true, if_true, if_false, ite_not, not_true_eq_false, not_false_eq_true, Sum.inr.injEq, exists_eq_right', true_or, or_true, and_self, Int.cast_ofNat_Int, reduceCtorEq, or_false, false_or, false_and, and_false, jb_zero, lt7_0, lt7_1, lt7_2, lt7_3, lt7_4, lt7_5, lt7_6, Nat.reduceAdd, Nat.reduceLeDiff, c_X6_skipLetters_1, c_X6_skipLetters_2, c_X6_skipLetters_3, c_X6_skipLetters_4, g3, g4, ev, e_isLetter, jb_eqf hb, ↓reduceIte, ilt_t, ilt_f, ile_t, ile_f, ieq_t, ieq_f, jb_T, jb_F, jb_t, jb_f]
      exact hq
theorem e_skipLetters (hL : XL μ x) (hT : TX μ x l T p) (hK : ∀ (ν : XM) (j : Int), KP (x + 1171) ν μ → j = skz tLt l T p → gI ν 194 (x + 1171) = ji j → Q none ν) : s_X6_skipLetters μ [.ref (x + 1171)] Q X := by
  have lp := e_skipLetters_l (X := X) hL hK
  have hT' := hT
  obtain ⟨⟨l0, l1, i0, i1⟩, g3, g4, gT⟩ := hT'
  rw [u_X6_skipLetters]
  by_cases hi : l ≤ p
  · have hq := hK μ p KP.refl (skz_end hi).symm g4
    simp (disch := first | assumption | omega) only [XL_0, XL_1, XL_2, XL_3, XL_4, XL_5, XL_6, XL_7, XL_8, XL_9, XL_10, XL_11, XL_12, XL_13, XL_14, XL_15, XL_16, XL_17, XL_18, XL_19, XL_20, XL_21, XL_22, XL_23, XL_24, XL_25, XL_26, XL_27, XL_28, XL_29, XL_30, XL_31, XL_32, XL_33, XL_34, XL_35, XL_36, XL_37, XL_38, XL_39, XL_40, XL_41, XL_42, XL_43, XL_44, XL_45, XL_46, XL_47, WS_0, WS_1, WS_2, WS_3, WS_4, WS_5, WS_6, WS_7, WS_8, WS_9, WS_10, WS_11, WS_12, WS_13, WS_14, WS_15, WS_16, WS_17, WS_18, WS_19, WS_20, PS_0, PS_1, PS_2, PS_3, PS_4, PS_5, PS_6, ji_add, ji_sub, ji_mul, ji_neg, ji_lit0, ji_ofNat, ji_lt, ji_le, ji_eq, ji_nat, ji_in, qV_at, qI_at, qJ_at, qD_at, qA_at, qA_no, nb0, nb1, cat_r, cat_i, Option.some.injEq, exists_eq_left', true_and, and_true, if_true, if_false, ite_not, not_true_eq_false, not_false_eq_true, Sum.inr.injEq, exists_eq_right', true_or, or_true, and_self, Int.cast_ofNat_Int, reduceCtorEq, or_false, false_or, false_and, and_false, jb_zero, lt7_0, lt7_1, lt7_2, lt7_3, lt7_4, lt7_5, lt7_6, Nat.reduceAdd, Nat.reduceLeDiff, g3, g4, ↓reduceIte, ilt_t, ilt_f, ile_t, ile_f, ieq_t, ieq_f, jb_T, jb_F, jb_t, jb_f]
    exact hq
  · have gt := gT p i0 (by omega)
    have ev := fun (Q : XQ) X => e_valueAt (Q := Q) (X := X) (XL_33 hL) (by rw [XL_34 hL]; omega) i0 (by rw [XL_34 hL]; omega) gt.1
    have z3 : KP (x + 1171) (sI μ 194 (x + 1171) (ji (p + 1))) μ := kp_s KP.refl _ _ (by omega)
    by_cases hb : tLt (T p) = true
    · simp (disch := first | assumption | omega) only [XL_0, XL_1, XL_2, XL_3, XL_4, XL_5, XL_6, XL_7, XL_8, XL_9, XL_10, XL_11, XL_12, XL_13, XL_14, XL_15, XL_16, XL_17, XL_18, XL_19, XL_20, XL_21, XL_22, XL_23, XL_24, XL_25, XL_26, XL_27, XL_28, XL_29, XL_30, XL_31, XL_32, XL_33, XL_34, XL_35, XL_36, XL_37, XL_38, XL_39, XL_40, XL_41, XL_42, XL_43, XL_44, XL_45, XL_46, XL_47, WS_0, WS_1, WS_2, WS_3, WS_4, WS_5, WS_6, WS_7, WS_8, WS_9, WS_10, WS_11, WS_12, WS_13, WS_14, WS_15, WS_16, WS_17, WS_18, WS_19, WS_20, PS_0, PS_1, PS_2, PS_3, PS_4, PS_5, PS_6, ji_add, ji_sub, ji_mul, ji_neg, ji_lit0, ji_ofNat, ji_lt, ji_le, ji_eq, ji_nat, ji_in, qV_at, qI_at, qJ_at, qD_at, qA_at, qA_no, nb0, nb1, cat_r, cat_i, Option.some.injEq, exists_eq_left', true_and, and_true, if_true, if_false, ite_not, not_true_eq_false, not_false_eq_true, Sum.inr.injEq, exists_eq_right', true_or, or_true, and_self, Int.cast_ofNat_Int, reduceCtorEq, or_false, false_or, false_and, and_false, jb_zero, lt7_0, lt7_1, lt7_2, lt7_3, lt7_4, lt7_5, lt7_6, Nat.reduceAdd, Nat.reduceLeDiff, c_X6_skipLetters_1, c_X6_skipLetters_2, c_X6_skipLetters_3, c_X6_skipLetters_4, g3, g4, ev, e_isLetter, hb, Value.category, ↓reduceIte, ilt_t, ilt_f, ile_t, ile_f, ieq_t, ieq_f, jb_T, jb_F, jb_t, jb_f]
      rw [l_X6_skipLetters_0, xseal_eq]
      exact lp (l - (p + 1)).toNat 10000 (p + 1) _ rfl (by omega) z3 (hT.kp z3 (by omega) (by omega) (gI_sI_at _ _ _ _)) (skz_yes (by omega) hb).symm
    · have hq := hK μ p KP.refl (skz_no hb).symm g4
      simp (disch := first | assumption | omega) only [XL_0, XL_1, XL_2, XL_3, XL_4, XL_5, XL_6, XL_7, XL_8, XL_9, XL_10, XL_11, XL_12, XL_13, XL_14, XL_15, XL_16, XL_17, XL_18, XL_19, XL_20, XL_21, XL_22, XL_23, XL_24, XL_25, XL_26, XL_27, XL_28, XL_29, XL_30, XL_31, XL_32, XL_33, XL_34, XL_35, XL_36, XL_37, XL_38, XL_39, XL_40, XL_41, XL_42, XL_43, XL_44, XL_45, XL_46, XL_47, WS_0, WS_1, WS_2, WS_3, WS_4, WS_5, WS_6, WS_7, WS_8, WS_9, WS_10, WS_11, WS_12, WS_13, WS_14, WS_15, WS_16, WS_17, WS_18, WS_19, WS_20, PS_0, PS_1, PS_2, PS_3, PS_4, PS_5, PS_6, ji_add, ji_sub, ji_mul, ji_neg, ji_lit0, ji_ofNat, ji_lt, ji_le, ji_eq, ji_nat, ji_in, qV_at, qI_at, qJ_at, qD_at, qA_at, qA_no, nb0, nb1, cat_r, cat_i, Option.some.injEq, exists_eq_left', true_and, and_true, if_true, if_false, ite_not, not_true_eq_false, not_false_eq_true, Sum.inr.injEq, exists_eq_right', true_or, or_true, and_self, Int.cast_ofNat_Int, reduceCtorEq, or_false, false_or, false_and, and_false, jb_zero, lt7_0, lt7_1, lt7_2, lt7_3, lt7_4, lt7_5, lt7_6, Nat.reduceAdd, Nat.reduceLeDiff, c_X6_skipLetters_1, c_X6_skipLetters_2, c_X6_skipLetters_3, c_X6_skipLetters_4, g3, g4, ev, e_isLetter, jb_eqf hb, ↓reduceIte, ilt_t, ilt_f, ile_t, ile_f, ieq_t, ieq_f, jb_T, jb_F, jb_t, jb_f]
      exact hq
theorem e_blanks_l (hL : XL μ x) (hK : ∀ (ν : XM) (j : Int), KP (x + 1171) ν μ → j = skz tBk l T p → gI ν 194 (x + 1171) = ji j → j_X6_readToken_41 Q X [some (.ref (x + 1171)), none] [] ν 0 0) : ∀ (d mf : Nat) (i : Int) (z : XM), (l - i).toNat = d → d < mf → KP (x + 1171) z μ → TX z x l T i → skz tBk l T i = skz tBk l T p → ln_X6_readToken_0 Q X mf [some (.ref (x + 1171)), none] [] z 0 0 := by
  intro d
  induction d with
  | zero =>
    intro mf i z hd hm z1 z2 hs
    obtain ⟨mf, rfl⟩ : ∃ j, mf = j + 1 := ⟨mf - 1, by omega⟩
    have hL2 := hL.mono z1.1.1
    obtain ⟨⟨l0, l1, i0, i1⟩, g3, g4, gT⟩ := z2
    have hi : l ≤ i := by omega
    have hq := hK z i z1 ((skz_end hi).symm.trans hs) g4
    rw [ul_X6_readToken_0]
    simp (disch := first | assumption | omega) only [XL_0, XL_1, XL_2, XL_3, XL_4, XL_5, XL_6, XL_7, XL_8, XL_9, XL_10, XL_11, XL_12, XL_13, XL_14, XL_15, XL_16, XL_17, XL_18, XL_19, XL_20, XL_21, XL_22, XL_23, XL_24, XL_25, XL_26, XL_27, XL_28, XL_29, XL_30, XL_31, XL_32, XL_33, XL_34, XL_35, XL_36, XL_37, XL_38, XL_39, XL_40, XL_41, XL_42, XL_43, XL_44, XL_45, XL_46, XL_47, WS_0, WS_1, WS_2, WS_3, WS_4, WS_5, WS_6, WS_7, WS_8, WS_9, WS_10, WS_11, WS_12, WS_13, WS_14, WS_15, WS_16, WS_17, WS_18, WS_19, WS_20, PS_0, PS_1, PS_2, PS_3, PS_4, PS_5, PS_6, ji_add, ji_sub, ji_mul, ji_neg, ji_lit0, ji_ofNat, ji_lt, ji_le, ji_eq, ji_nat, ji_in, qV_at, qI_at, qJ_at, qD_at, qA_at, qA_no, nb0, nb1, cat_r, cat_i, Option.some.injEq, exists_eq_left', true_and, and_true, if_true, if_false, ite_not, not_true_eq_false, not_false_eq_true, Sum.inr.injEq, exists_eq_right', true_or, or_true, and_self, Int.cast_ofNat_Int, reduceCtorEq, or_false, false_or, false_and, and_false, jb_zero, lt7_0, lt7_1, lt7_2, lt7_3, lt7_4, lt7_5, lt7_6, Nat.reduceAdd, Nat.reduceLeDiff, g3, g4, ↓reduceIte, ilt_t, ilt_f, ile_t, ile_f, ieq_t, ieq_f, jb_T, jb_F, jb_t, jb_f]
    exact hq
  | succ d ih =>
    intro mf i z hd hm z1 z2 hs
    obtain ⟨mf, rfl⟩ : ∃ j, mf = j + 1 := ⟨mf - 1, by omega⟩
    have hL2 := hL.mono z1.1.1
    have z2' := z2
    obtain ⟨⟨l0, l1, i0, i1⟩, g3, g4, gT⟩ := z2'
    have hi : ¬ l ≤ i := by omega
    have gt := gT i i0 (by omega)
    have ev := fun (Q : XQ) X => e_valueAt (Q := Q) (X := X) (XL_33 hL2) (by rw [XL_34 hL2]; omega) i0 (by rw [XL_34 hL2]; omega) gt.1
    have z3 : KP (x + 1171) (sI z 194 (x + 1171) (ji (i + 1))) μ := kp_s z1 _ _ (by omega)
    rw [ul_X6_readToken_0]
    by_cases hb : tBk (T i) = true
    · simp (disch := first | assumption | omega) only [XL_0, XL_1, XL_2, XL_3, XL_4, XL_5, XL_6, XL_7, XL_8, XL_9, XL_10, XL_11, XL_12, XL_13, XL_14, XL_15, XL_16, XL_17, XL_18, XL_19, XL_20, XL_21, XL_22, XL_23, XL_24, XL_25, XL_26, XL_27, XL_28, XL_29, XL_30, XL_31, XL_32, XL_33, XL_34, XL_35, XL_36, XL_37, XL_38, XL_39, XL_40, XL_41, XL_42, XL_43, XL_44, XL_45, XL_46, XL_47, WS_0, WS_1, WS_2, WS_3, WS_4, WS_5, WS_6, WS_7, WS_8, WS_9, WS_10, WS_11, WS_12, WS_13, WS_14, WS_15, WS_16, WS_17, WS_18, WS_19, WS_20, PS_0, PS_1, PS_2, PS_3, PS_4, PS_5, PS_6, ji_add, ji_sub, ji_mul, ji_neg, ji_lit0, ji_ofNat, ji_lt, ji_le, ji_eq, ji_nat, ji_in, qV_at, qI_at, qJ_at, qD_at, qA_at, qA_no, nb0, nb1, cat_r, cat_i, Option.some.injEq, exists_eq_left', true_and, and_true, if_true, if_false, ite_not, not_true_eq_false, not_false_eq_true, Sum.inr.injEq, exists_eq_right', true_or, or_true, and_self, Int.cast_ofNat_Int, reduceCtorEq, or_false, false_or, false_and, and_false, jb_zero, lt7_0, lt7_1, lt7_2, lt7_3, lt7_4, lt7_5, lt7_6, Nat.reduceAdd, Nat.reduceLeDiff, c_X6_readToken_1, c_X6_readToken_2, c_X6_readToken_8, c_X6_readToken_9, g3, g4, ev, e_isBlank, hb, Value.category, ↓reduceIte, ilt_t, ilt_f, ile_t, ile_f, ieq_t, ieq_f, jb_T, jb_F, jb_t, jb_f]
      exact ih mf (i + 1) _ (by omega) (by omega) z3 (z2.kp (kp_s KP.refl _ _ (by omega)) (by omega) (by omega) (gI_sI_at _ _ _ _)) ((skz_yes (by omega) hb).symm.trans hs)
    · have hq := hK z i z1 ((skz_no hb).symm.trans hs) g4
      simp (disch := first | assumption | omega) only [XL_0, XL_1, XL_2, XL_3, XL_4, XL_5, XL_6, XL_7, XL_8, XL_9, XL_10, XL_11, XL_12, XL_13, XL_14, XL_15, XL_16, XL_17, XL_18, XL_19, XL_20, XL_21, XL_22, XL_23, XL_24, XL_25, XL_26, XL_27, XL_28, XL_29, XL_30, XL_31, XL_32, XL_33, XL_34, XL_35, XL_36, XL_37, XL_38, XL_39, XL_40, XL_41, XL_42, XL_43, XL_44, XL_45, XL_46, XL_47, WS_0, WS_1, WS_2, WS_3, WS_4, WS_5, WS_6, WS_7, WS_8, WS_9, WS_10, WS_11, WS_12, WS_13, WS_14, WS_15, WS_16, WS_17, WS_18, WS_19, WS_20, PS_0, PS_1, PS_2, PS_3, PS_4, PS_5, PS_6, ji_add, ji_sub, ji_mul, ji_neg, ji_lit0, ji_ofNat, ji_lt, ji_le, ji_eq, ji_nat, ji_in, qV_at, qI_at, qJ_at, qD_at, qA_at, qA_no, nb0, nb1, cat_r, cat_i, Option.some.injEq, exists_eq_left', true_and, and_true, if_true, if_false, ite_not, not_true_eq_false, not_false_eq_true, Sum.inr.injEq, exists_eq_right', true_or, or_true, and_self, Int.cast_ofNat_Int, reduceCtorEq, or_false, false_or, false_and, and_false, jb_zero, lt7_0, lt7_1, lt7_2, lt7_3, lt7_4, lt7_5, lt7_6, Nat.reduceAdd, Nat.reduceLeDiff, c_X6_readToken_1, c_X6_readToken_2, c_X6_readToken_8, c_X6_readToken_9, g3, g4, ev, e_isBlank, jb_eqf hb, ↓reduceIte, ilt_t, ilt_f, ile_t, ile_f, ieq_t, ieq_f, jb_T, jb_F, jb_t, jb_f]
      exact hq
theorem e_blanks (hL : XL μ x) (hT : TX μ x l T p) (hK : ∀ (ν : XM) (j : Int), KP (x + 1171) ν μ → j = skz tBk l T p → gI ν 194 (x + 1171) = ji j → j_X6_readToken_41 Q X [some (.ref (x + 1171)), none] [] ν 0 0) : s_X6_readToken μ [.ref (x + 1171)] Q X := by
  have lp := e_blanks_l (X := X) hL hK
  have hT' := hT
  obtain ⟨⟨l0, l1, i0, i1⟩, g3, g4, gT⟩ := hT'
  rw [u_X6_readToken]
  by_cases hi : l ≤ p
  · have hq := hK μ p KP.refl (skz_end hi).symm g4
    simp (disch := first | assumption | omega) only [XL_0, XL_1, XL_2, XL_3, XL_4, XL_5, XL_6, XL_7, XL_8, XL_9, XL_10, XL_11, XL_12, XL_13, XL_14, XL_15, XL_16, XL_17, XL_18, XL_19, XL_20, XL_21, XL_22, XL_23, XL_24, XL_25, XL_26, XL_27, XL_28, XL_29, XL_30, XL_31, XL_32, XL_33, XL_34, XL_35, XL_36, XL_37, XL_38, XL_39, XL_40, XL_41, XL_42, XL_43, XL_44, XL_45, XL_46, XL_47, WS_0, WS_1, WS_2, WS_3, WS_4, WS_5, WS_6, WS_7, WS_8, WS_9, WS_10, WS_11, WS_12, WS_13, WS_14, WS_15, WS_16, WS_17, WS_18, WS_19, WS_20, PS_0, PS_1, PS_2, PS_3, PS_4, PS_5, PS_6, ji_add, ji_sub, ji_mul, ji_neg, ji_lit0, ji_ofNat, ji_lt, ji_le, ji_eq, ji_nat, ji_in, qV_at, qI_at, qJ_at, qD_at, qA_at, qA_no, nb0, nb1, cat_r, cat_i, Option.some.injEq, exists_eq_left', true_and, and_true, if_true, if_false, ite_not, not_true_eq_false, not_false_eq_true, Sum.inr.injEq, exists_eq_right', true_or, or_true, and_self, Int.cast_ofNat_Int, reduceCtorEq, or_false, false_or, false_and, and_false, jb_zero, lt7_0, lt7_1, lt7_2, lt7_3, lt7_4, lt7_5, lt7_6, Nat.reduceAdd, Nat.reduceLeDiff, g3, g4, ↓reduceIte, ilt_t, ilt_f, ile_t, ile_f, ieq_t, ieq_f, jb_T, jb_F, jb_t, jb_f]
    exact hq
  · have gt := gT p i0 (by omega)
    have ev := fun (Q : XQ) X => e_valueAt (Q := Q) (X := X) (XL_33 hL) (by rw [XL_34 hL]; omega) i0 (by rw [XL_34 hL]; omega) gt.1
    have z3 : KP (x + 1171) (sI μ 194 (x + 1171) (ji (p + 1))) μ := kp_s KP.refl _ _ (by omega)
    by_cases hb : tBk (T p) = true
    · simp (disch := first | assumption | omega) only [XL_0, XL_1, XL_2, XL_3, XL_4, XL_5, XL_6, XL_7, XL_8, XL_9, XL_10, XL_11, XL_12, XL_13, XL_14, XL_15, XL_16, XL_17, XL_18, XL_19, XL_20, XL_21, XL_22, XL_23, XL_24, XL_25, XL_26, XL_27, XL_28, XL_29, XL_30, XL_31, XL_32, XL_33, XL_34, XL_35, XL_36, XL_37, XL_38, XL_39, XL_40, XL_41, XL_42, XL_43, XL_44, XL_45, XL_46, XL_47, WS_0, WS_1, WS_2, WS_3, WS_4, WS_5, WS_6, WS_7, WS_8, WS_9, WS_10, WS_11, WS_12, WS_13, WS_14, WS_15, WS_16, WS_17, WS_18, WS_19, WS_20, PS_0, PS_1, PS_2, PS_3, PS_4, PS_5, PS_6, ji_add, ji_sub, ji_mul, ji_neg, ji_lit0, ji_ofNat, ji_lt, ji_le, ji_eq, ji_nat, ji_in, qV_at, qI_at, qJ_at, qD_at, qA_at, qA_no, nb0, nb1, cat_r, cat_i, Option.some.injEq, exists_eq_left', true_and, and_true, if_true, if_false, ite_not, not_true_eq_false, not_false_eq_true, Sum.inr.injEq, exists_eq_right', true_or, or_true, and_self, Int.cast_ofNat_Int, reduceCtorEq, or_false, false_or, false_and, and_false, jb_zero, lt7_0, lt7_1, lt7_2, lt7_3, lt7_4, lt7_5, lt7_6, Nat.reduceAdd, Nat.reduceLeDiff, c_X6_readToken_1, c_X6_readToken_2, c_X6_readToken_8, c_X6_readToken_9, g3, g4, ev, e_isBlank, hb, Value.category, ↓reduceIte, ilt_t, ilt_f, ile_t, ile_f, ieq_t, ieq_f, jb_T, jb_F, jb_t, jb_f]
      rw [l_X6_readToken_0, xseal_eq]
      exact lp (l - (p + 1)).toNat 10000 (p + 1) _ rfl (by omega) z3 (hT.kp z3 (by omega) (by omega) (gI_sI_at _ _ _ _)) (skz_yes (by omega) hb).symm
    · have hq := hK μ p KP.refl (skz_no hb).symm g4
      simp (disch := first | assumption | omega) only [XL_0, XL_1, XL_2, XL_3, XL_4, XL_5, XL_6, XL_7, XL_8, XL_9, XL_10, XL_11, XL_12, XL_13, XL_14, XL_15, XL_16, XL_17, XL_18, XL_19, XL_20, XL_21, XL_22, XL_23, XL_24, XL_25, XL_26, XL_27, XL_28, XL_29, XL_30, XL_31, XL_32, XL_33, XL_34, XL_35, XL_36, XL_37, XL_38, XL_39, XL_40, XL_41, XL_42, XL_43, XL_44, XL_45, XL_46, XL_47, WS_0, WS_1, WS_2, WS_3, WS_4, WS_5, WS_6, WS_7, WS_8, WS_9, WS_10, WS_11, WS_12, WS_13, WS_14, WS_15, WS_16, WS_17, WS_18, WS_19, WS_20, PS_0, PS_1, PS_2, PS_3, PS_4, PS_5, PS_6, ji_add, ji_sub, ji_mul, ji_neg, ji_lit0, ji_ofNat, ji_lt, ji_le, ji_eq, ji_nat, ji_in, qV_at, qI_at, qJ_at, qD_at, qA_at, qA_no, nb0, nb1, cat_r, cat_i, Option.some.injEq, exists_eq_left', true_and, and_true, if_true, if_false, ite_not, not_true_eq_false, not_false_eq_true, Sum.inr.injEq, exists_eq_right', true_or, or_true, and_self, Int.cast_ofNat_Int, reduceCtorEq, or_false, false_or, false_and, and_false, jb_zero, lt7_0, lt7_1, lt7_2, lt7_3, lt7_4, lt7_5, lt7_6, Nat.reduceAdd, Nat.reduceLeDiff, c_X6_readToken_1, c_X6_readToken_2, c_X6_readToken_8, c_X6_readToken_9, g3, g4, ev, e_isBlank, jb_eqf hb, ↓reduceIte, ilt_t, ilt_f, ile_t, ile_f, ieq_t, ieq_f, jb_T, jb_F, jb_t, jb_f]
      exact hq
theorem e_skipDigits (hL : XL μ x) (hT : TX μ x l T p) (hK : ∀ (ν : XM) (j v : Int), KP (x + 1171) ν μ → j = skz tDg l T p → v = vlz l T p 0 → gI ν 194 (x + 1171) = ji j → gI ν 197 (x + 1171) = ji v → Q none ν) : s_X6_skipDigits μ [.ref (x + 1171)] Q X := by
  simp (disch := first | assumption | omega) only [XL_0, XL_1, XL_2, XL_3, XL_4, XL_5, XL_6, XL_7, XL_8, XL_9, XL_10, XL_11, XL_12, XL_13, XL_14, XL_15, XL_16, XL_17, XL_18, XL_19, XL_20, XL_21, XL_22, XL_23, XL_24, XL_25, XL_26, XL_27, XL_28, XL_29, XL_30, XL_31, XL_32, XL_33, XL_34, XL_35, XL_36, XL_37, XL_38, XL_39, XL_40, XL_41, XL_42, XL_43, XL_44, XL_45, XL_46, XL_47, WS_0, WS_1, WS_2, WS_3, WS_4, WS_5, WS_6, WS_7, WS_8, WS_9, WS_10, WS_11, WS_12, WS_13, WS_14, WS_15, WS_16, WS_17, WS_18, WS_19, WS_20, PS_0, PS_1, PS_2, PS_3, PS_4, PS_5, PS_6, ji_add, ji_sub, ji_mul, ji_neg, ji_lit0, ji_ofNat, ji_lt, ji_le, ji_eq, ji_nat, ji_in, qV_at, qI_at, qJ_at, qD_at, qA_at, qA_no, nb0, nb1, cat_r, cat_i, Option.some.injEq, exists_eq_left', true_and, and_true, if_true, if_false, ite_not, not_true_eq_false, not_false_eq_true, Sum.inr.injEq, exists_eq_right', true_or, or_true, and_self, Int.cast_ofNat_Int, reduceCtorEq, or_false, false_or, false_and, and_false, jb_zero, lt7_0, lt7_1, lt7_2, lt7_3, lt7_4, lt7_5, lt7_6, Nat.reduceAdd, Nat.reduceLeDiff, u_X6_skipDigits, c_X6_skipDigits_1, c_X6_skipDigits_2, c_X6_skipDigits_3, ↓reduceIte, ilt_t, ilt_f, ile_t, ile_f, ieq_t, ieq_f, jb_T, jb_F, jb_t, jb_f]
  rw [l_X6_skipDigits_5, xseal_eq]
  have key : ∀ (d mf : Nat) (i a : Int) (z : XM), (l - i).toNat = d → d < mf → KP (x + 1171) z μ → TX z x l T i → gI z 197 (x + 1171) = ji a → skz tDg l T i = skz tDg l T p → vlz l T i a = vlz l T p 0 → ln_X6_skipDigits_5 Q X mf [some (.ref (x + 1171))] [] z 0 0 := by
    intro d
    induction d with
    | zero =>
      intro mf i a z hd hm z1 z2 ga hs hv
      obtain ⟨mf, rfl⟩ : ∃ j, mf = j + 1 := ⟨mf - 1, by omega⟩
      have hL2 := hL.mono z1.1.1
      obtain ⟨⟨l0, l1, i0, i1⟩, g3, g4, gT⟩ := z2
      have hi : l ≤ i := by omega
      have hq := hK z i a z1 ((skz_end hi).symm.trans hs) ((vlz_end hi).symm.trans hv) g4 ga
      rw [ul_X6_skipDigits_5]
      simp (disch := first | assumption | omega) only [XL_0, XL_1, XL_2, XL_3, XL_4, XL_5, XL_6, XL_7, XL_8, XL_9, XL_10, XL_11, XL_12, XL_13, XL_14, XL_15, XL_16, XL_17, XL_18, XL_19, XL_20, XL_21, XL_22, XL_23, XL_24, XL_25, XL_26, XL_27, XL_28, XL_29, XL_30, XL_31, XL_32, XL_33, XL_34, XL_35, XL_36, XL_37, XL_38, XL_39, XL_40, XL_41, XL_42, XL_43, XL_44, XL_45, XL_46, XL_47, WS_0, WS_1, WS_2, WS_3, WS_4, WS_5, WS_6, WS_7, WS_8, WS_9, WS_10, WS_11, WS_12, WS_13, WS_14, WS_15, WS_16, WS_17, WS_18, WS_19, WS_20, PS_0, PS_1, PS_2, PS_3, PS_4, PS_5, PS_6, ji_add, ji_sub, ji_mul, ji_neg, ji_lit0, ji_ofNat, ji_lt, ji_le, ji_eq, ji_nat, ji_in, qV_at, qI_at, qJ_at, qD_at, qA_at, qA_no, nb0, nb1, cat_r, cat_i, Option.some.injEq, exists_eq_left', true_and, and_true, if_true, if_false, ite_not, not_true_eq_false, not_false_eq_true, Sum.inr.injEq, exists_eq_right', true_or, or_true, and_self, Int.cast_ofNat_Int, reduceCtorEq, or_false, false_or, false_and, and_false, jb_zero, lt7_0, lt7_1, lt7_2, lt7_3, lt7_4, lt7_5, lt7_6, Nat.reduceAdd, Nat.reduceLeDiff, g3, g4, ↓reduceIte, ilt_t, ilt_f, ile_t, ile_f, ieq_t, ieq_f, jb_T, jb_F, jb_t, jb_f]
      exact hq
    | succ d ih =>
      intro mf i a z hd hm z1 z2 ga hs hv
      obtain ⟨mf, rfl⟩ : ∃ j, mf = j + 1 := ⟨mf - 1, by omega⟩
      have hL2 := hL.mono z1.1.1
      have z2' := z2
      obtain ⟨⟨l0, l1, i0, i1⟩, g3, g4, gT⟩ := z2'
      have hi : ¬ l ≤ i := by omega
      have gt := gT i i0 (by omega)
      have ev := fun (Q : XQ) X => e_valueAt (Q := Q) (X := X) (XL_33 hL2) (by rw [XL_34 hL2]; omega) i0 (by rw [XL_34 hL2]; omega) gt.1
      have z3 : KP (x + 1171) (sI (sI z 197 (x + 1171) (ji (10 * a + T i - 48))) 194 (x + 1171) (ji (i + 1))) μ := kp_s (kp_s z1 _ _ (by omega)) _ _ (by omega)
      rw [ul_X6_skipDigits_5]
      by_cases hb : tDg (T i) = true
      · have hL3 : XL (sI z 197 (x + 1171) (ji (10 * a + T i - 48))) x := hL2.sI _ _ _
        have g5 : gI (sI z 197 (x + 1171) (ji (10 * a + T i - 48))) 194 (x + 1171) = ji i := (gI_sI_k _ _ _ _ _ _ (by omega)).trans g4
        simp (disch := first | assumption | omega) only [XL_0, XL_1, XL_2, XL_3, XL_4, XL_5, XL_6, XL_7, XL_8, XL_9, XL_10, XL_11, XL_12, XL_13, XL_14, XL_15, XL_16, XL_17, XL_18, XL_19, XL_20, XL_21, XL_22, XL_23, XL_24, XL_25, XL_26, XL_27, XL_28, XL_29, XL_30, XL_31, XL_32, XL_33, XL_34, XL_35, XL_36, XL_37, XL_38, XL_39, XL_40, XL_41, XL_42, XL_43, XL_44, XL_45, XL_46, XL_47, WS_0, WS_1, WS_2, WS_3, WS_4, WS_5, WS_6, WS_7, WS_8, WS_9, WS_10, WS_11, WS_12, WS_13, WS_14, WS_15, WS_16, WS_17, WS_18, WS_19, WS_20, PS_0, PS_1, PS_2, PS_3, PS_4, PS_5, PS_6, ji_add, ji_sub, ji_mul, ji_neg, ji_lit0, ji_ofNat, ji_lt, ji_le, ji_eq, ji_nat, ji_in, qV_at, qI_at, qJ_at, qD_at, qA_at, qA_no, nb0, nb1, cat_r, cat_i, Option.some.injEq, exists_eq_left', true_and, and_true, if_true, if_false, ite_not, not_true_eq_false, not_false_eq_true, Sum.inr.injEq, exists_eq_right', true_or, or_true, and_self, Int.cast_ofNat_Int, reduceCtorEq, or_false, false_or, false_and, and_false, jb_zero, lt7_0, lt7_1, lt7_2, lt7_3, lt7_4, lt7_5, lt7_6, Nat.reduceAdd, Nat.reduceLeDiff, c_X6_skipDigits_1, c_X6_skipDigits_2, c_X6_skipDigits_3, g3, g4, ga, ev, e_isDigit, hb, Value.category, g5, ↓reduceIte, ilt_t, ilt_f, ile_t, ile_f, ieq_t, ieq_f, jb_T, jb_F, jb_t, jb_f]
        exact ih mf (i + 1) (10 * a + T i - 48) _ (by omega) (by omega) z3 (z2.kp (kp_s (kp_s KP.refl _ _ (by omega)) _ _ (by omega)) (by omega) (by omega) (gI_sI_at _ _ _ _)) ((gI_sI_k _ _ _ _ _ _ (by omega)).trans (gI_sI_at _ _ _ _)) ((skz_yes (by omega) hb).symm.trans hs) ((vlz_yes (by omega) hb).symm.trans hv)
      · have hq := hK z i a z1 ((skz_no hb).symm.trans hs) ((vlz_no hb).symm.trans hv) g4 ga
        simp (disch := first | assumption | omega) only [XL_0, XL_1, XL_2, XL_3, XL_4, XL_5, XL_6, XL_7, XL_8, XL_9, XL_10, XL_11, XL_12, XL_13, XL_14, XL_15, XL_16, XL_17, XL_18, XL_19, XL_20, XL_21, XL_22, XL_23, XL_24, XL_25, XL_26, XL_27, XL_28, XL_29, XL_30, XL_31, XL_32, XL_33, XL_34, XL_35, XL_36, XL_37, XL_38, XL_39, XL_40, XL_41, XL_42, XL_43, XL_44, XL_45, XL_46, XL_47, WS_0, WS_1, WS_2, WS_3, WS_4, WS_5, WS_6, WS_7, WS_8, WS_9, WS_10, WS_11, WS_12, WS_13, WS_14, WS_15, WS_16, WS_17, WS_18, WS_19, WS_20, PS_0, PS_1, PS_2, PS_3, PS_4, PS_5, PS_6, ji_add, ji_sub, ji_mul, ji_neg, ji_lit0, ji_ofNat, ji_lt, ji_le, ji_eq, ji_nat, ji_in, qV_at, qI_at, qJ_at, qD_at, qA_at, qA_no, nb0, nb1, cat_r, cat_i, Option.some.injEq, exists_eq_left', true_and, and_true, if_true, if_false, ite_not, not_true_eq_false, not_false_eq_true, Sum.inr.injEq, exists_eq_right', true_or, or_true, and_self, Int.cast_ofNat_Int, reduceCtorEq, or_false, false_or, false_and, and_false, jb_zero, lt7_0, lt7_1, lt7_2, lt7_3, lt7_4, lt7_5, lt7_6, Nat.reduceAdd, Nat.reduceLeDiff, c_X6_skipDigits_1, c_X6_skipDigits_2, c_X6_skipDigits_3, g3, g4, ev, e_isDigit, jb_eqf hb, ↓reduceIte, ilt_t, ilt_f, ile_t, ile_f, ieq_t, ieq_f, jb_T, jb_F, jb_t, jb_f]
        exact hq
  have z3 : KP (x + 1171) (sI μ 197 (x + 1171) (ji 0)) μ := kp_s KP.refl _ _ (by omega)
  exact key (l - p).toNat 10000 p 0 _ rfl (by have := hT.1; omega) z3 (hT.kp z3 (by have := hT.1; omega) (by have := hT.1; omega) ((gI_sI_k _ _ _ _ _ _ (by omega)).trans hT.2.2.1)) (gI_sI_at _ _ _ _) rfl rfl
end
