/-! ===== the reference: a token ===== -/
theorem jl_ad (a b : Int) : jl a + jl b = jl (a + b) := (Int64.ofInt_add a b).symm
theorem jl_sb (a b : Int) : jl a - jl b = jl (a - b) := (Int64.ofInt_sub a b).symm
theorem jl_ml (a b : Int) : jl a * jl b = jl (a * b) := (Int64.ofInt_mul a b).symm
/-- all but the fields of reading is the same -/
def KX (a : Nat) (ν μ : XM) : Prop := CH (fun b => b = a) ν μ ∧ ∀ k, (k ≠ 310 ∧ k ≠ 313 ∧ k ≠ 314) → gI ν k a = gI μ k a
theorem KX.refl {a : Nat} {μ : XM} : KX a μ μ := ⟨CH.refl _ _, fun _ _ => rfl⟩
theorem KX.trans {a : Nat} {ξ ν μ : XM} (h : KX a ξ ν) (g : KX a ν μ) : KX a ξ μ := ⟨CH.trans h.1 g.1, fun k hk => (h.2 k hk).trans (g.2 k hk)⟩
theorem kx_s {a : Nat} {ν μ : XM} (h : KX a ν μ) (k : Nat) (v : Int32) (hk : k = 310 ∨ k = 313 ∨ k = 314) : KX a (sI ν k a v) μ := ⟨h.1.sI _ _ _ rfl, fun j hj => (gI_sI_k _ _ _ _ _ _ (by omega)).trans (h.2 j hj)⟩
theorem kx_l {a : Nat} {ν μ : XM} (h : KX a ν μ) (v : Int64) : KX a (sL ν 316 a v) μ := ⟨h.1.sL _ _ _ rfl, fun j hj => (gI_sL _ _ _ _ _ _).trans (h.2 j hj)⟩
/-- the text and where reading is -/
def RX (μ : XM) (m : Nat) (l : Int) (T : Int → Int) (p : Int) : Prop := (0 ≤ l ∧ l ≤ 1000 ∧ 0 ≤ p ∧ p ≤ l) ∧ gI μ 309 m = ji l ∧ gI μ 310 m = ji p ∧ ∀ i, 0 ≤ i → i < l → aI μ (m + 10) i.toNat &&& ji 255 = ji (T i) ∧ 0 ≤ T i ∧ T i < 256
theorem RX.kx {μ ν : XM} {m : Nat} {l p q : Int} {T : Int → Int} (h : RX μ m l T p) (hk : KX m ν μ) (q0 : 0 ≤ q) (q1 : q ≤ l) (hq : gI ν 310 m = ji q) : RX ν m l T q := ⟨⟨h.1.1, h.1.2.1, q0, q1⟩, (hk.2 309 (by omega)).trans h.2.1, hq, fun i i0 i1 => by rw [(hk.1.2 (m + 10) (by omega)).2.2.1]; exact h.2.2.2 i i0 i1⟩
/-- the kind by the first sign -/
def tF (l : Int) (T : Int → Int) (s : Int) : Int := if l ≤ s then 0 else if tLt (T s) = true then 1 else if tDg (T s) = true then 2 else if T s = 59 then 3 else 4
section
variable {μ : XM} {m : Nat} {l p : Int} {T : Int → Int} {Q : XQ} {X : XX}
theorem f_byteAt (hS : RS μ m) (h : RX μ m l T p) {i : Int} (i0 : 0 ≤ i) (i1 : i < 2147483648) : s_X9_byteAt μ [.ref m, .int (ji i)] Q X = Q (some (.int (ji (if i < l then T i else -1)))) μ := by
  obtain ⟨⟨l0, l1, p0, p1⟩, g3, g4, gT⟩ := h
  by_cases hi : i < l
  · have gt := (gT i i0 hi).1
    simp (disch := first | assumption | omega) only [RS_0, RS_1, RS_2, RS_3, RS_4, RS_5, RS_6, RS_7, RS_8, RS_9, RS_10, RS_11, RS_12, RS_13, RS_14, RS_15, RS_16, RS_17, RS_18, RS_19, RS_20, RS_21, RS_22, RS_23, RS_24, RS_25, RS_26, RS_27, RS_28, RS_29, RS_30, RS_31, RS_32, RS_33, RS_34, RS_35, RS_36, ji_add, ji_sub, ji_mul, ji_neg, ji_lit0, ji_ofNat, ji_lt, ji_le, ji_eq, ji_nat, ji_in, ji_rem, ji_div, jl_of, xl_lt, xl_gt, xl_eq, qV_at, qI_at, qJ_at, qD_at, qA_at, qA_no, nb0, nb1, cat_r, cat_i, Option.some.injEq, exists_eq_left', true_and, and_true, if_true, if_false, ite_not, not_true_eq_false, not_false_eq_true, Sum.inr.injEq, exists_eq_right', true_or, or_true, and_self, Int.cast_ofNat_Int, reduceCtorEq, or_false, false_or, false_and, and_false, jb_zero, lt7_0, lt7_1, lt7_2, lt7_3, lt7_4, lt7_5, lt7_6, u_X9_byteAt, g3, gt, hi, ↓reduceIte, ilt_t, ilt_f, ile_t, ile_f, ieq_t, ieq_f, jb_T, jb_F, jb_t, jb_f]
  · simp (disch := first | assumption | omega) only [RS_0, RS_1, RS_2, RS_3, RS_4, RS_5, RS_6, RS_7, RS_8, RS_9, RS_10, RS_11, RS_12, RS_13, RS_14, RS_15, RS_16, RS_17, RS_18, RS_19, RS_20, RS_21, RS_22, RS_23, RS_24, RS_25, RS_26, RS_27, RS_28, RS_29, RS_30, RS_31, RS_32, RS_33, RS_34, RS_35, RS_36, ji_add, ji_sub, ji_mul, ji_neg, ji_lit0, ji_ofNat, ji_lt, ji_le, ji_eq, ji_nat, ji_in, ji_rem, ji_div, jl_of, xl_lt, xl_gt, xl_eq, qV_at, qI_at, qJ_at, qD_at, qA_at, qA_no, nb0, nb1, cat_r, cat_i, Option.some.injEq, exists_eq_left', true_and, and_true, if_true, if_false, ite_not, not_true_eq_false, not_false_eq_true, Sum.inr.injEq, exists_eq_right', true_or, or_true, and_self, Int.cast_ofNat_Int, reduceCtorEq, or_false, false_or, false_and, and_false, jb_zero, lt7_0, lt7_1, lt7_2, lt7_3, lt7_4, lt7_5, lt7_6, u_X9_byteAt, g3, hi, ↓reduceIte, ilt_t, ilt_f, ile_t, ile_f, ieq_t, ieq_f, jb_T, jb_F, jb_t, jb_f]
theorem f_isLetter {c : Int} (c0 : -1 ≤ c) (c1 : c < 256) : s_X9_isLetter μ [.int (ji c)] Q X = Q (some (.int (jb (tLt c = true)))) μ := by
  unfold tLt
  by_cases h : 97 ≤ c ∧ c ≤ 122
  · simp (disch := first | assumption | omega) only [c_X9_isLetter_1, u_X9_isLetter, jl_of, f_inRange, ji_add, ji_sub, ji_mul, ji_neg, ji_lit0, ji_ofNat, ji_lt, ji_le, ji_eq, ji_nat, ji_in, qV_at, qI_at, qJ_at, qD_at, qA_at, qA_no, nb0, nb1, cat_r, cat_i, Option.some.injEq, exists_eq_left', true_and, and_true, if_true, if_false, ite_not, not_true_eq_false, not_false_eq_true, Sum.inr.injEq, exists_eq_right', true_or, or_true, and_self, Int.cast_ofNat_Int, reduceCtorEq, or_false, false_or, false_and, and_false, jb_zero, lt7_0, lt7_1, lt7_2, lt7_3, lt7_4, lt7_5, lt7_6, h, nb1, decide_true, ↓reduceIte, ilt_t, ilt_f, ile_t, ile_f, ieq_t, ieq_f, jb_T, jb_F, jb_t, jb_f]
  · simp (disch := first | assumption | omega) only [c_X9_isLetter_1, u_X9_isLetter, jl_of, f_inRange, ji_add, ji_sub, ji_mul, ji_neg, ji_lit0, ji_ofNat, ji_lt, ji_le, ji_eq, ji_nat, ji_in, qV_at, qI_at, qJ_at, qD_at, qA_at, qA_no, nb0, nb1, cat_r, cat_i, Option.some.injEq, exists_eq_left', true_and, and_true, if_true, if_false, ite_not, not_true_eq_false, not_false_eq_true, Sum.inr.injEq, exists_eq_right', true_or, or_true, and_self, Int.cast_ofNat_Int, reduceCtorEq, or_false, false_or, false_and, and_false, jb_zero, lt7_0, lt7_1, lt7_2, lt7_3, lt7_4, lt7_5, lt7_6, jb_eqf h, h, nb0, decide_false, Bool.false_eq_true, ↓reduceIte, ilt_t, ilt_f, ile_t, ile_f, ieq_t, ieq_f, jb_T, jb_F, jb_t, jb_f]
theorem f_isDigit {c : Int} (c0 : -1 ≤ c) (c1 : c < 256) : s_X9_isDigit μ [.int (ji c)] Q X = Q (some (.int (jb (tDg c = true)))) μ := by
  unfold tDg
  by_cases h : 48 ≤ c ∧ c ≤ 57
  · simp (disch := first | assumption | omega) only [c_X9_isDigit_1, u_X9_isDigit, jl_of, f_inRange, ji_add, ji_sub, ji_mul, ji_neg, ji_lit0, ji_ofNat, ji_lt, ji_le, ji_eq, ji_nat, ji_in, qV_at, qI_at, qJ_at, qD_at, qA_at, qA_no, nb0, nb1, cat_r, cat_i, Option.some.injEq, exists_eq_left', true_and, and_true, if_true, if_false, ite_not, not_true_eq_false, not_false_eq_true, Sum.inr.injEq, exists_eq_right', true_or, or_true, and_self, Int.cast_ofNat_Int, reduceCtorEq, or_false, false_or, false_and, and_false, jb_zero, lt7_0, lt7_1, lt7_2, lt7_3, lt7_4, lt7_5, lt7_6, h, nb1, decide_true, ↓reduceIte, ilt_t, ilt_f, ile_t, ile_f, ieq_t, ieq_f, jb_T, jb_F, jb_t, jb_f]
  · simp (disch := first | assumption | omega) only [c_X9_isDigit_1, u_X9_isDigit, jl_of, f_inRange, ji_add, ji_sub, ji_mul, ji_neg, ji_lit0, ji_ofNat, ji_lt, ji_le, ji_eq, ji_nat, ji_in, qV_at, qI_at, qJ_at, qD_at, qA_at, qA_no, nb0, nb1, cat_r, cat_i, Option.some.injEq, exists_eq_left', true_and, and_true, if_true, if_false, ite_not, not_true_eq_false, not_false_eq_true, Sum.inr.injEq, exists_eq_right', true_or, or_true, and_self, Int.cast_ofNat_Int, reduceCtorEq, or_false, false_or, false_and, and_false, jb_zero, lt7_0, lt7_1, lt7_2, lt7_3, lt7_4, lt7_5, lt7_6, jb_eqf h, h, nb0, decide_false, Bool.false_eq_true, ↓reduceIte, ilt_t, ilt_f, ile_t, ile_f, ieq_t, ieq_f, jb_T, jb_F, jb_t, jb_f]
theorem f_blanks_l (hS : RS μ m) (hJ : ∀ (ν : XM) (k : Int), KX m ν μ → RX ν m l T (tB l T p) → gI ν 314 m = ji (tB l T p) → gL ν 316 m = jl 0 → k = tF l T (tB l T p) → j_X9_advance_104 Q X [some (.ref m), none] [.int (ji k), .ref m] ν 0 0) : ∀ (d mf : Nat) (i : Int) (z : XM), (l - i).toNat = d → d < mf → KX m z μ → RX z m l T i → tB l T p = skz tBk l T i → ln_X9_advance_0 Q X mf [some (.ref m), none] [] z 0 0 := by
  intro d
  induction d with
  | zero =>
    intro mf i z hd hm z1 z2 hs
    obtain ⟨mf, rfl⟩ : ∃ j, mf = j + 1 := ⟨mf - 1, by omega⟩
    have hS2 := hS.mono z1.1.1
    have z2' := z2
    obtain ⟨⟨l0, l1, i0, i1⟩, g3, g4, gT⟩ := z2'
    have fb := fun (Q : XQ) X => f_byteAt (Q := Q) (X := X) hS2 z2 i0 (by omega)
    have done : tB l T p = i → ¬ tBk (if i < l then T i else -1) = true → -1 ≤ (if i < l then T i else -1) ∧ (if i < l then T i else -1) < 256 → ln_X9_advance_0 Q X (mf + 1) [some (.ref m), none] [] z 0 0 := fun hB hb hr => by
      have z3 : KX m (sL (sI z 314 m (ji i)) 316 m (jl 0)) μ := kx_l (kx_s z1 _ _ (by omega)) _
      have hS3 := hS.mono z3.1.1
      have z5 : RX (sL (sI z 314 m (ji i)) 316 m (jl 0)) m l T i := z2.kx (kx_l (kx_s KX.refl _ _ (by omega)) _) i0 i1 ((gI_sL _ _ _ _ _ _).trans ((gI_sI_k _ _ _ _ _ _ (by omega)).trans g4))
      have g14 : gI (sL (sI z 314 m (ji i)) 316 m (jl 0)) 314 m = ji i := (gI_sL _ _ _ _ _ _).trans (gI_sI_at _ _ _ _)
      have fb2 := fun (Q : XQ) X => f_byteAt (Q := Q) (X := X) hS3 z5 i0 (by omega)
      have hS4 : RS (sI z 314 m (ji i)) m := hS2.mono (CH.sI (S := fun _ => True) (CH.refl _ z) _ _ _ trivial).1
      have hj := fun k => hJ _ k z3 (by rw [hB]; exact z5) (by rw [hB]; exact g14) (gL_sL_at _ _ _ _)
      rw [hB] at hj
      have hb2 := hb
      unfold tBk at hb2
      rw [decide_eq_true_eq] at hb2
      have n1 : ¬ (if i < l then T i else -1) = 32 := fun z => hb2 (Or.inl z)
      have n2 : ¬ (if i < l then T i else -1) = 10 := fun z => hb2 (Or.inr z)
      rw [ul_X9_advance_0]
      generalize hyy : sL (sI z 314 m (ji i)) 316 m (jl 0) = y at *
      unfold tF at hj
      have hl : l ≤ i := by omega
      have e : (if i < l then T i else -1) = -1 := if_neg (by omega)
      rw [e] at fb fb2
      have hq := hj 0 (by rw [if_pos hl])
      simp (disch := first | assumption | omega) only [RS_0, RS_1, RS_2, RS_3, RS_4, RS_5, RS_6, RS_7, RS_8, RS_9, RS_10, RS_11, RS_12, RS_13, RS_14, RS_15, RS_16, RS_17, RS_18, RS_19, RS_20, RS_21, RS_22, RS_23, RS_24, RS_25, RS_26, RS_27, RS_28, RS_29, RS_30, RS_31, RS_32, RS_33, RS_34, RS_35, RS_36, ji_add, ji_sub, ji_mul, ji_neg, ji_lit0, ji_ofNat, ji_lt, ji_le, ji_eq, ji_nat, ji_in, ji_rem, ji_div, jl_of, xl_lt, xl_gt, xl_eq, qV_at, qI_at, qJ_at, qD_at, qA_at, qA_no, nb0, nb1, cat_r, cat_i, Option.some.injEq, exists_eq_left', true_and, and_true, if_true, if_false, ite_not, not_true_eq_false, not_false_eq_true, Sum.inr.injEq, exists_eq_right', true_or, or_true, and_self, Int.cast_ofNat_Int, reduceCtorEq, or_false, false_or, false_and, and_false, jb_zero, lt7_0, lt7_1, lt7_2, lt7_3, lt7_4, lt7_5, lt7_6, c_X9_advance_10, c_X9_advance_9, c_X9_advance_8, c_X9_advance_7, c_X9_advance_6, g4, fb, hyy, g14, fb2, Value.category, ↓reduceIte, ilt_t, ilt_f, ile_t, ile_f, ieq_t, ieq_f, jb_T, jb_F, jb_t, jb_f]
      exact hq
    have nb' : ∀ v : Int, v = -1 → ¬ tBk v = true := fun v hv => by rw [hv]; decide
    have hl : l ≤ i := by omega
    have e : (if i < l then T i else -1) = -1 := if_neg (by omega)
    exact done (by rw [hs, skz_end hl]) (by rw [e]; decide) (by rw [e]; omega)
  | succ d ih =>
    intro mf i z hd hm z1 z2 hs
    obtain ⟨mf, rfl⟩ : ∃ j, mf = j + 1 := ⟨mf - 1, by omega⟩
    have hS2 := hS.mono z1.1.1
    have z2' := z2
    obtain ⟨⟨l0, l1, i0, i1⟩, g3, g4, gT⟩ := z2'
    have fb := fun (Q : XQ) X => f_byteAt (Q := Q) (X := X) hS2 z2 i0 (by omega)
    have done : tB l T p = i → ¬ tBk (if i < l then T i else -1) = true → -1 ≤ (if i < l then T i else -1) ∧ (if i < l then T i else -1) < 256 → ln_X9_advance_0 Q X (mf + 1) [some (.ref m), none] [] z 0 0 := fun hB hb hr => by
      have z3 : KX m (sL (sI z 314 m (ji i)) 316 m (jl 0)) μ := kx_l (kx_s z1 _ _ (by omega)) _
      have hS3 := hS.mono z3.1.1
      have z5 : RX (sL (sI z 314 m (ji i)) 316 m (jl 0)) m l T i := z2.kx (kx_l (kx_s KX.refl _ _ (by omega)) _) i0 i1 ((gI_sL _ _ _ _ _ _).trans ((gI_sI_k _ _ _ _ _ _ (by omega)).trans g4))
      have g14 : gI (sL (sI z 314 m (ji i)) 316 m (jl 0)) 314 m = ji i := (gI_sL _ _ _ _ _ _).trans (gI_sI_at _ _ _ _)
      have fb2 := fun (Q : XQ) X => f_byteAt (Q := Q) (X := X) hS3 z5 i0 (by omega)
      have hS4 : RS (sI z 314 m (ji i)) m := hS2.mono (CH.sI (S := fun _ => True) (CH.refl _ z) _ _ _ trivial).1
      have hj := fun k => hJ _ k z3 (by rw [hB]; exact z5) (by rw [hB]; exact g14) (gL_sL_at _ _ _ _)
      rw [hB] at hj
      have hb2 := hb
      unfold tBk at hb2
      rw [decide_eq_true_eq] at hb2
      have n1 : ¬ (if i < l then T i else -1) = 32 := fun z => hb2 (Or.inl z)
      have n2 : ¬ (if i < l then T i else -1) = 10 := fun z => hb2 (Or.inr z)
      rw [ul_X9_advance_0]
      generalize hyy : sL (sI z 314 m (ji i)) 316 m (jl 0) = y at *
      unfold tF at hj
      have hl : ¬ l ≤ i := by omega
      have e : (if i < l then T i else -1) = T i := if_pos (by omega)
      rw [e] at fb fb2 hr n1 n2
      have gt := gT i i0 (by omega)
      by_cases h1 : tLt (T i) = true
      · have hq := hj 1 (by rw [if_neg hl, if_pos h1])
        simp (disch := first | assumption | omega) only [RS_0, RS_1, RS_2, RS_3, RS_4, RS_5, RS_6, RS_7, RS_8, RS_9, RS_10, RS_11, RS_12, RS_13, RS_14, RS_15, RS_16, RS_17, RS_18, RS_19, RS_20, RS_21, RS_22, RS_23, RS_24, RS_25, RS_26, RS_27, RS_28, RS_29, RS_30, RS_31, RS_32, RS_33, RS_34, RS_35, RS_36, ji_add, ji_sub, ji_mul, ji_neg, ji_lit0, ji_ofNat, ji_lt, ji_le, ji_eq, ji_nat, ji_in, ji_rem, ji_div, jl_of, xl_lt, xl_gt, xl_eq, qV_at, qI_at, qJ_at, qD_at, qA_at, qA_no, nb0, nb1, cat_r, cat_i, Option.some.injEq, exists_eq_left', true_and, and_true, if_true, if_false, ite_not, not_true_eq_false, not_false_eq_true, Sum.inr.injEq, exists_eq_right', true_or, or_true, and_self, Int.cast_ofNat_Int, reduceCtorEq, or_false, false_or, false_and, and_false, jb_zero, lt7_0, lt7_1, lt7_2, lt7_3, lt7_4, lt7_5, lt7_6, c_X9_advance_10, c_X9_advance_9, c_X9_advance_8, c_X9_advance_7, c_X9_advance_6, g4, fb, n1, n2, hyy, g14, fb2, f_isLetter, f_isDigit, h1, Value.category, ↓reduceIte, ilt_t, ilt_f, ile_t, ile_f, ieq_t, ieq_f, jb_T, jb_F, jb_t, jb_f]
        exact hq
      · by_cases h2 : tDg (T i) = true
        · have hq := hj 2 (by rw [if_neg hl, if_neg h1, if_pos h2])
          simp (disch := first | assumption | omega) only [RS_0, RS_1, RS_2, RS_3, RS_4, RS_5, RS_6, RS_7, RS_8, RS_9, RS_10, RS_11, RS_12, RS_13, RS_14, RS_15, RS_16, RS_17, RS_18, RS_19, RS_20, RS_21, RS_22, RS_23, RS_24, RS_25, RS_26, RS_27, RS_28, RS_29, RS_30, RS_31, RS_32, RS_33, RS_34, RS_35, RS_36, ji_add, ji_sub, ji_mul, ji_neg, ji_lit0, ji_ofNat, ji_lt, ji_le, ji_eq, ji_nat, ji_in, ji_rem, ji_div, jl_of, xl_lt, xl_gt, xl_eq, qV_at, qI_at, qJ_at, qD_at, qA_at, qA_no, nb0, nb1, cat_r, cat_i, Option.some.injEq, exists_eq_left', true_and, and_true, if_true, if_false, ite_not, not_true_eq_false, not_false_eq_true, Sum.inr.injEq, exists_eq_right', true_or, or_true, and_self, Int.cast_ofNat_Int, reduceCtorEq, or_false, false_or, false_and, and_false, jb_zero, lt7_0, lt7_1, lt7_2, lt7_3, lt7_4, lt7_5, lt7_6, c_X9_advance_10, c_X9_advance_9, c_X9_advance_8, c_X9_advance_7, c_X9_advance_6, g4, fb, n1, n2, hyy, g14, fb2, f_isLetter, f_isDigit, h1, h2, Value.category, ↓reduceIte, ilt_t, ilt_f, ile_t, ile_f, ieq_t, ieq_f, jb_T, jb_F, jb_t, jb_f]
          exact hq
        · by_cases h3 : T i = 59
          · have hq := hj 3 (by rw [if_neg hl, if_neg h1, if_neg h2, if_pos h3])
            simp (disch := first | assumption | omega) only [RS_0, RS_1, RS_2, RS_3, RS_4, RS_5, RS_6, RS_7, RS_8, RS_9, RS_10, RS_11, RS_12, RS_13, RS_14, RS_15, RS_16, RS_17, RS_18, RS_19, RS_20, RS_21, RS_22, RS_23, RS_24, RS_25, RS_26, RS_27, RS_28, RS_29, RS_30, RS_31, RS_32, RS_33, RS_34, RS_35, RS_36, ji_add, ji_sub, ji_mul, ji_neg, ji_lit0, ji_ofNat, ji_lt, ji_le, ji_eq, ji_nat, ji_in, ji_rem, ji_div, jl_of, xl_lt, xl_gt, xl_eq, qV_at, qI_at, qJ_at, qD_at, qA_at, qA_no, nb0, nb1, cat_r, cat_i, Option.some.injEq, exists_eq_left', true_and, and_true, if_true, if_false, ite_not, not_true_eq_false, not_false_eq_true, Sum.inr.injEq, exists_eq_right', true_or, or_true, and_self, Int.cast_ofNat_Int, reduceCtorEq, or_false, false_or, false_and, and_false, jb_zero, lt7_0, lt7_1, lt7_2, lt7_3, lt7_4, lt7_5, lt7_6, c_X9_advance_10, c_X9_advance_9, c_X9_advance_8, c_X9_advance_7, c_X9_advance_6, g4, fb, n1, n2, hyy, g14, fb2, f_isLetter, f_isDigit, h1, h2, h3, Value.category, ↓reduceIte, ilt_t, ilt_f, ile_t, ile_f, ieq_t, ieq_f, jb_T, jb_F, jb_t, jb_f]
            exact hq
          · have hq := hj 4 (by rw [if_neg hl, if_neg h1, if_neg h2, if_neg h3])
            simp (disch := first | assumption | omega) only [RS_0, RS_1, RS_2, RS_3, RS_4, RS_5, RS_6, RS_7, RS_8, RS_9, RS_10, RS_11, RS_12, RS_13, RS_14, RS_15, RS_16, RS_17, RS_18, RS_19, RS_20, RS_21, RS_22, RS_23, RS_24, RS_25, RS_26, RS_27, RS_28, RS_29, RS_30, RS_31, RS_32, RS_33, RS_34, RS_35, RS_36, ji_add, ji_sub, ji_mul, ji_neg, ji_lit0, ji_ofNat, ji_lt, ji_le, ji_eq, ji_nat, ji_in, ji_rem, ji_div, jl_of, xl_lt, xl_gt, xl_eq, qV_at, qI_at, qJ_at, qD_at, qA_at, qA_no, nb0, nb1, cat_r, cat_i, Option.some.injEq, exists_eq_left', true_and, and_true, if_true, if_false, ite_not, not_true_eq_false, not_false_eq_true, Sum.inr.injEq, exists_eq_right', true_or, or_true, and_self, Int.cast_ofNat_Int, reduceCtorEq, or_false, false_or, false_and, and_false, jb_zero, lt7_0, lt7_1, lt7_2, lt7_3, lt7_4, lt7_5, lt7_6, c_X9_advance_10, c_X9_advance_9, c_X9_advance_8, c_X9_advance_7, c_X9_advance_6, g4, fb, n1, n2, hyy, g14, fb2, f_isLetter, f_isDigit, h1, h2, h3, Value.category, ↓reduceIte, ilt_t, ilt_f, ile_t, ile_f, ieq_t, ieq_f, jb_T, jb_F, jb_t, jb_f]
            exact hq
    have nb' : ∀ v : Int, v = -1 → ¬ tBk v = true := fun v hv => by rw [hv]; decide
    have hl : ¬ l ≤ i := by omega
    have e : (if i < l then T i else -1) = T i := if_pos (by omega)
    have gt := gT i i0 (by omega)
    by_cases hb : tBk (T i) = true
    · have z3 : KX m (sI z 310 m (ji (i + 1))) μ := kx_s z1 _ _ (by omega)
      have hr := ih mf (i + 1) _ (by omega) (by omega) z3 (z2.kx (kx_s KX.refl _ _ (by omega)) (by omega) (by omega) (gI_sI_at _ _ _ _)) (by rw [hs, skz_yes (by omega) hb])
      rw [e] at fb
      rw [ul_X9_advance_0]
      have hb2 := hb
      unfold tBk at hb2
      rw [decide_eq_true_eq] at hb2
      rcases hb2 with h | h
      · simp (disch := first | assumption | omega) only [RS_0, RS_1, RS_2, RS_3, RS_4, RS_5, RS_6, RS_7, RS_8, RS_9, RS_10, RS_11, RS_12, RS_13, RS_14, RS_15, RS_16, RS_17, RS_18, RS_19, RS_20, RS_21, RS_22, RS_23, RS_24, RS_25, RS_26, RS_27, RS_28, RS_29, RS_30, RS_31, RS_32, RS_33, RS_34, RS_35, RS_36, ji_add, ji_sub, ji_mul, ji_neg, ji_lit0, ji_ofNat, ji_lt, ji_le, ji_eq, ji_nat, ji_in, ji_rem, ji_div, jl_of, xl_lt, xl_gt, xl_eq, qV_at, qI_at, qJ_at, qD_at, qA_at, qA_no, nb0, nb1, cat_r, cat_i, Option.some.injEq, exists_eq_left', true_and, and_true, if_true, if_false, ite_not, not_true_eq_false, not_false_eq_true, Sum.inr.injEq, exists_eq_right', true_or, or_true, and_self, Int.cast_ofNat_Int, reduceCtorEq, or_false, false_or, false_and, and_false, jb_zero, lt7_0, lt7_1, lt7_2, lt7_3, lt7_4, lt7_5, lt7_6, c_X9_advance_10, g4, fb, h, Value.category, Int.reduceEq, ↓reduceIte, ilt_t, ilt_f, ile_t, ile_f, ieq_t, ieq_f, jb_T, jb_F, jb_t, jb_f]
        exact hr
      · simp (disch := first | assumption | omega) only [RS_0, RS_1, RS_2, RS_3, RS_4, RS_5, RS_6, RS_7, RS_8, RS_9, RS_10, RS_11, RS_12, RS_13, RS_14, RS_15, RS_16, RS_17, RS_18, RS_19, RS_20, RS_21, RS_22, RS_23, RS_24, RS_25, RS_26, RS_27, RS_28, RS_29, RS_30, RS_31, RS_32, RS_33, RS_34, RS_35, RS_36, ji_add, ji_sub, ji_mul, ji_neg, ji_lit0, ji_ofNat, ji_lt, ji_le, ji_eq, ji_nat, ji_in, ji_rem, ji_div, jl_of, xl_lt, xl_gt, xl_eq, qV_at, qI_at, qJ_at, qD_at, qA_at, qA_no, nb0, nb1, cat_r, cat_i, Option.some.injEq, exists_eq_left', true_and, and_true, if_true, if_false, ite_not, not_true_eq_false, not_false_eq_true, Sum.inr.injEq, exists_eq_right', true_or, or_true, and_self, Int.cast_ofNat_Int, reduceCtorEq, or_false, false_or, false_and, and_false, jb_zero, lt7_0, lt7_1, lt7_2, lt7_3, lt7_4, lt7_5, lt7_6, c_X9_advance_10, c_X9_advance_9, g4, fb, h, Value.category, Int.reduceEq, ↓reduceIte, ilt_t, ilt_f, ile_t, ile_f, ieq_t, ieq_f, jb_T, jb_F, jb_t, jb_f]
        exact hr
    · exact done (by rw [hs, skz_no hb]) (by rw [e]; exact hb) (by rw [e]; omega)
theorem f_blanks (hS : RS μ m) (hJ : ∀ (ν : XM) (k : Int), KX m ν μ → RX ν m l T (tB l T p) → gI ν 314 m = ji (tB l T p) → gL ν 316 m = jl 0 → k = tF l T (tB l T p) → j_X9_advance_104 Q X [some (.ref m), none] [.int (ji k), .ref m] ν 0 0) (hT : RX μ m l T p) : s_X9_advance μ [.ref m] Q X := by
  have lp := f_blanks_l hS hJ
  suffices hh : ∀ (i : Int) (z : XM), i = p → z = μ → KX m z μ → RX z m l T i → s_X9_advance z [.ref m] Q X from hh p μ rfl rfl KX.refl hT
  · intro i z hip _ z1 z2
    have hS2 := hS.mono z1.1.1
    have z2' := z2
    obtain ⟨⟨l0, l1, i0, i1⟩, g3, g4, gT⟩ := z2'
    have fb := fun (Q : XQ) X => f_byteAt (Q := Q) (X := X) hS2 z2 i0 (by omega)
    have done : tB l T p = i → ¬ tBk (if i < l then T i else -1) = true → -1 ≤ (if i < l then T i else -1) ∧ (if i < l then T i else -1) < 256 → s_X9_advance z [.ref m] Q X := fun hB hb hr => by
      have z3 : KX m (sL (sI z 314 m (ji i)) 316 m (jl 0)) μ := kx_l (kx_s z1 _ _ (by omega)) _
      have hS3 := hS.mono z3.1.1
      have z5 : RX (sL (sI z 314 m (ji i)) 316 m (jl 0)) m l T i := z2.kx (kx_l (kx_s KX.refl _ _ (by omega)) _) i0 i1 ((gI_sL _ _ _ _ _ _).trans ((gI_sI_k _ _ _ _ _ _ (by omega)).trans g4))
      have g14 : gI (sL (sI z 314 m (ji i)) 316 m (jl 0)) 314 m = ji i := (gI_sL _ _ _ _ _ _).trans (gI_sI_at _ _ _ _)
      have fb2 := fun (Q : XQ) X => f_byteAt (Q := Q) (X := X) hS3 z5 i0 (by omega)
      have hS4 : RS (sI z 314 m (ji i)) m := hS2.mono (CH.sI (S := fun _ => True) (CH.refl _ z) _ _ _ trivial).1
      have hj := fun k => hJ _ k z3 (by rw [hB]; exact z5) (by rw [hB]; exact g14) (gL_sL_at _ _ _ _)
      rw [hB] at hj
      have hb2 := hb
      unfold tBk at hb2
      rw [decide_eq_true_eq] at hb2
      have n1 : ¬ (if i < l then T i else -1) = 32 := fun z => hb2 (Or.inl z)
      have n2 : ¬ (if i < l then T i else -1) = 10 := fun z => hb2 (Or.inr z)
      rw [u_X9_advance]
      generalize hyy : sL (sI z 314 m (ji i)) 316 m (jl 0) = y at *
      unfold tF at hj
      by_cases hl : l ≤ i
      · have e : (if i < l then T i else -1) = -1 := if_neg (by omega)
        rw [e] at fb fb2
        have hq := hj 0 (by rw [if_pos hl])
        simp (disch := first | assumption | omega) only [RS_0, RS_1, RS_2, RS_3, RS_4, RS_5, RS_6, RS_7, RS_8, RS_9, RS_10, RS_11, RS_12, RS_13, RS_14, RS_15, RS_16, RS_17, RS_18, RS_19, RS_20, RS_21, RS_22, RS_23, RS_24, RS_25, RS_26, RS_27, RS_28, RS_29, RS_30, RS_31, RS_32, RS_33, RS_34, RS_35, RS_36, ji_add, ji_sub, ji_mul, ji_neg, ji_lit0, ji_ofNat, ji_lt, ji_le, ji_eq, ji_nat, ji_in, ji_rem, ji_div, jl_of, xl_lt, xl_gt, xl_eq, qV_at, qI_at, qJ_at, qD_at, qA_at, qA_no, nb0, nb1, cat_r, cat_i, Option.some.injEq, exists_eq_left', true_and, and_true, if_true, if_false, ite_not, not_true_eq_false, not_false_eq_true, Sum.inr.injEq, exists_eq_right', true_or, or_true, and_self, Int.cast_ofNat_Int, reduceCtorEq, or_false, false_or, false_and, and_false, jb_zero, lt7_0, lt7_1, lt7_2, lt7_3, lt7_4, lt7_5, lt7_6, c_X9_advance_5, c_X9_advance_4, c_X9_advance_3, c_X9_advance_2, c_X9_advance_1, g4, fb, hyy, g14, fb2, Value.category, ↓reduceIte, ilt_t, ilt_f, ile_t, ile_f, ieq_t, ieq_f, jb_T, jb_F, jb_t, jb_f]
        exact hq
      · have e : (if i < l then T i else -1) = T i := if_pos (by omega)
        rw [e] at fb fb2 hr n1 n2
        have gt := gT i i0 (by omega)
        by_cases h1 : tLt (T i) = true
        · have hq := hj 1 (by rw [if_neg hl, if_pos h1])
          simp (disch := first | assumption | omega) only [RS_0, RS_1, RS_2, RS_3, RS_4, RS_5, RS_6, RS_7, RS_8, RS_9, RS_10, RS_11, RS_12, RS_13, RS_14, RS_15, RS_16, RS_17, RS_18, RS_19, RS_20, RS_21, RS_22, RS_23, RS_24, RS_25, RS_26, RS_27, RS_28, RS_29, RS_30, RS_31, RS_32, RS_33, RS_34, RS_35, RS_36, ji_add, ji_sub, ji_mul, ji_neg, ji_lit0, ji_ofNat, ji_lt, ji_le, ji_eq, ji_nat, ji_in, ji_rem, ji_div, jl_of, xl_lt, xl_gt, xl_eq, qV_at, qI_at, qJ_at, qD_at, qA_at, qA_no, nb0, nb1, cat_r, cat_i, Option.some.injEq, exists_eq_left', true_and, and_true, if_true, if_false, ite_not, not_true_eq_false, not_false_eq_true, Sum.inr.injEq, exists_eq_right', true_or, or_true, and_self, Int.cast_ofNat_Int, reduceCtorEq, or_false, false_or, false_and, and_false, jb_zero, lt7_0, lt7_1, lt7_2, lt7_3, lt7_4, lt7_5, lt7_6, c_X9_advance_5, c_X9_advance_4, c_X9_advance_3, c_X9_advance_2, c_X9_advance_1, g4, fb, n1, n2, hyy, g14, fb2, f_isLetter, f_isDigit, h1, Value.category, ↓reduceIte, ilt_t, ilt_f, ile_t, ile_f, ieq_t, ieq_f, jb_T, jb_F, jb_t, jb_f]
          exact hq
        · by_cases h2 : tDg (T i) = true
          · have hq := hj 2 (by rw [if_neg hl, if_neg h1, if_pos h2])
            simp (disch := first | assumption | omega) only [RS_0, RS_1, RS_2, RS_3, RS_4, RS_5, RS_6, RS_7, RS_8, RS_9, RS_10, RS_11, RS_12, RS_13, RS_14, RS_15, RS_16, RS_17, RS_18, RS_19, RS_20, RS_21, RS_22, RS_23, RS_24, RS_25, RS_26, RS_27, RS_28, RS_29, RS_30, RS_31, RS_32, RS_33, RS_34, RS_35, RS_36, ji_add, ji_sub, ji_mul, ji_neg, ji_lit0, ji_ofNat, ji_lt, ji_le, ji_eq, ji_nat, ji_in, ji_rem, ji_div, jl_of, xl_lt, xl_gt, xl_eq, qV_at, qI_at, qJ_at, qD_at, qA_at, qA_no, nb0, nb1, cat_r, cat_i, Option.some.injEq, exists_eq_left', true_and, and_true, if_true, if_false, ite_not, not_true_eq_false, not_false_eq_true, Sum.inr.injEq, exists_eq_right', true_or, or_true, and_self, Int.cast_ofNat_Int, reduceCtorEq, or_false, false_or, false_and, and_false, jb_zero, lt7_0, lt7_1, lt7_2, lt7_3, lt7_4, lt7_5, lt7_6, c_X9_advance_5, c_X9_advance_4, c_X9_advance_3, c_X9_advance_2, c_X9_advance_1, g4, fb, n1, n2, hyy, g14, fb2, f_isLetter, f_isDigit, h1, h2, Value.category, ↓reduceIte, ilt_t, ilt_f, ile_t, ile_f, ieq_t, ieq_f, jb_T, jb_F, jb_t, jb_f]
            exact hq
          · by_cases h3 : T i = 59
            · have hq := hj 3 (by rw [if_neg hl, if_neg h1, if_neg h2, if_pos h3])
              simp (disch := first | assumption | omega) only [RS_0, RS_1, RS_2, RS_3, RS_4, RS_5, RS_6, RS_7, RS_8, RS_9, RS_10, RS_11, RS_12, RS_13, RS_14, RS_15, RS_16, RS_17, RS_18, RS_19, RS_20, RS_21, RS_22, RS_23, RS_24, RS_25, RS_26, RS_27, RS_28, RS_29, RS_30, RS_31, RS_32, RS_33, RS_34, RS_35, RS_36, ji_add, ji_sub, ji_mul, ji_neg, ji_lit0, ji_ofNat, ji_lt, ji_le, ji_eq, ji_nat, ji_in, ji_rem, ji_div, jl_of, xl_lt, xl_gt, xl_eq, qV_at, qI_at, qJ_at, qD_at, qA_at, qA_no, nb0, nb1, cat_r, cat_i, Option.some.injEq, exists_eq_left', true_and, and_true, if_true, if_false, ite_not, not_true_eq_false, not_false_eq_true, Sum.inr.injEq, exists_eq_right', true_or, or_true, and_self, Int.cast_ofNat_Int, reduceCtorEq, or_false, false_or, false_and, and_false, jb_zero, lt7_0, lt7_1, lt7_2, lt7_3, lt7_4, lt7_5, lt7_6, c_X9_advance_5, c_X9_advance_4, c_X9_advance_3, c_X9_advance_2, c_X9_advance_1, g4, fb, n1, n2, hyy, g14, fb2, f_isLetter, f_isDigit, h1, h2, h3, Value.category, ↓reduceIte, ilt_t, ilt_f, ile_t, ile_f, ieq_t, ieq_f, jb_T, jb_F, jb_t, jb_f]
              exact hq
            · have hq := hj 4 (by rw [if_neg hl, if_neg h1, if_neg h2, if_neg h3])
              simp (disch := first | assumption | omega) only [RS_0, RS_1, RS_2, RS_3, RS_4, RS_5, RS_6, RS_7, RS_8, RS_9, RS_10, RS_11, RS_12, RS_13, RS_14, RS_15, RS_16, RS_17, RS_18, RS_19, RS_20, RS_21, RS_22, RS_23, RS_24, RS_25, RS_26, RS_27, RS_28, RS_29, RS_30, RS_31, RS_32, RS_33, RS_34, RS_35, RS_36, ji_add, ji_sub, ji_mul, ji_neg, ji_lit0, ji_ofNat, ji_lt, ji_le, ji_eq, ji_nat, ji_in, ji_rem, ji_div, jl_of, xl_lt, xl_gt, xl_eq, qV_at, qI_at, qJ_at, qD_at, qA_at, qA_no, nb0, nb1, cat_r, cat_i, Option.some.injEq, exists_eq_left', true_and, and_true, if_true, if_false, ite_not, not_true_eq_false, not_false_eq_true, Sum.inr.injEq, exists_eq_right', true_or, or_true, and_self, Int.cast_ofNat_Int, reduceCtorEq, or_false, false_or, false_and, and_false, jb_zero, lt7_0, lt7_1, lt7_2, lt7_3, lt7_4, lt7_5, lt7_6, c_X9_advance_5, c_X9_advance_4, c_X9_advance_3, c_X9_advance_2, c_X9_advance_1, g4, fb, n1, n2, hyy, g14, fb2, f_isLetter, f_isDigit, h1, h2, h3, Value.category, ↓reduceIte, ilt_t, ilt_f, ile_t, ile_f, ieq_t, ieq_f, jb_T, jb_F, jb_t, jb_f]
              exact hq
    have nb' : ∀ v : Int, v = -1 → ¬ tBk v = true := fun v hv => by rw [hv]; decide
    by_cases hl : l ≤ i
    · have e : (if i < l then T i else -1) = -1 := if_neg (by omega)
      exact done (by rw [← hip]; exact skz_end hl) (by rw [e]; decide) (by rw [e]; omega)
    · have e : (if i < l then T i else -1) = T i := if_pos (by omega)
      have gt := gT i i0 (by omega)
      by_cases hb : tBk (T i) = true
      · have z3 : KX m (sI z 310 m (ji (i + 1))) μ := kx_s z1 _ _ (by omega)
        have hr := lp (l - (i + 1)).toNat 10000 (i + 1) _ rfl (by omega) z3 (z2.kx (kx_s KX.refl _ _ (by omega)) (by omega) (by omega) (gI_sI_at _ _ _ _)) (by rw [← hip]; exact skz_yes (by omega) hb)
        rw [e] at fb
        rw [u_X9_advance]
        have hb2 := hb
        unfold tBk at hb2
        rw [decide_eq_true_eq] at hb2
        rcases hb2 with h | h
        · simp (disch := first | assumption | omega) only [RS_0, RS_1, RS_2, RS_3, RS_4, RS_5, RS_6, RS_7, RS_8, RS_9, RS_10, RS_11, RS_12, RS_13, RS_14, RS_15, RS_16, RS_17, RS_18, RS_19, RS_20, RS_21, RS_22, RS_23, RS_24, RS_25, RS_26, RS_27, RS_28, RS_29, RS_30, RS_31, RS_32, RS_33, RS_34, RS_35, RS_36, ji_add, ji_sub, ji_mul, ji_neg, ji_lit0, ji_ofNat, ji_lt, ji_le, ji_eq, ji_nat, ji_in, ji_rem, ji_div, jl_of, xl_lt, xl_gt, xl_eq, qV_at, qI_at, qJ_at, qD_at, qA_at, qA_no, nb0, nb1, cat_r, cat_i, Option.some.injEq, exists_eq_left', true_and, and_true, if_true, if_false, ite_not, not_true_eq_false, not_false_eq_true, Sum.inr.injEq, exists_eq_right', true_or, or_true, and_self, Int.cast_ofNat_Int, reduceCtorEq, or_false, false_or, false_and, and_false, jb_zero, lt7_0, lt7_1, lt7_2, lt7_3, lt7_4, lt7_5, lt7_6, c_X9_advance_5, g4, fb, h, Value.category, Int.reduceEq, ↓reduceIte, ilt_t, ilt_f, ile_t, ile_f, ieq_t, ieq_f, jb_T, jb_F, jb_t, jb_f]
          rw [l_X9_advance_0, xseal_eq]
          exact hr
        · simp (disch := first | assumption | omega) only [RS_0, RS_1, RS_2, RS_3, RS_4, RS_5, RS_6, RS_7, RS_8, RS_9, RS_10, RS_11, RS_12, RS_13, RS_14, RS_15, RS_16, RS_17, RS_18, RS_19, RS_20, RS_21, RS_22, RS_23, RS_24, RS_25, RS_26, RS_27, RS_28, RS_29, RS_30, RS_31, RS_32, RS_33, RS_34, RS_35, RS_36, ji_add, ji_sub, ji_mul, ji_neg, ji_lit0, ji_ofNat, ji_lt, ji_le, ji_eq, ji_nat, ji_in, ji_rem, ji_div, jl_of, xl_lt, xl_gt, xl_eq, qV_at, qI_at, qJ_at, qD_at, qA_at, qA_no, nb0, nb1, cat_r, cat_i, Option.some.injEq, exists_eq_left', true_and, and_true, if_true, if_false, ite_not, not_true_eq_false, not_false_eq_true, Sum.inr.injEq, exists_eq_right', true_or, or_true, and_self, Int.cast_ofNat_Int, reduceCtorEq, or_false, false_or, false_and, and_false, jb_zero, lt7_0, lt7_1, lt7_2, lt7_3, lt7_4, lt7_5, lt7_6, c_X9_advance_5, c_X9_advance_4, g4, fb, h, Value.category, Int.reduceEq, ↓reduceIte, ilt_t, ilt_f, ile_t, ile_f, ieq_t, ieq_f, jb_T, jb_F, jb_t, jb_f]
          rw [l_X9_advance_0, xseal_eq]
          exact hr
      · exact done (by rw [← hip]; exact skz_no hb) (by rw [e]; exact hb) (by rw [e]; omega)
end
