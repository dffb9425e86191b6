/-! ===== the reference: a token, whole ===== -/
def AD (ν μ : XM) (m : Nat) (l : Int) (T : Int → Int) (p : Int) : Prop := KX m ν μ ∧ RX ν m l T (tE l T (tB l T p)) ∧ gI ν 313 m = ji (tK l T (tB l T p)) ∧ gI ν 314 m = ji (tB l T p) ∧ (tK l T (tB l T p) = 1 → gL ν 316 m = jl (pkv T (tB l T p) (tE l T (tB l T p) - tB l T p).toNat)) ∧ (tK l T (tB l T p) = 2 → gL ν 316 m = jl (tV l T (tB l T p)))
section
variable {μ : XM} {m : Nat} {l p s : Int} {T : Int → Int} {Q : XQ} {X : XX}
/-- letters -/
theorem f_letters (hS : RS μ m) (s0 : 0 ≤ s) (hK : ∀ (ν : XM) (j : Int), KX m ν μ → RX ν m l T j → j = skz tLt l T s → gI ν 313 m = ji 1 → gI ν 314 m = ji s → (j - s ≤ 8 → gL ν 316 m = jl (pkv T s (j - s).toNat)) → l_X9_advance_200 Q X [some (.ref m), none] [] ν 0 0) : ∀ (d mf : Nat) (i : Int) (z : XM), (l - i).toNat = d → d < mf → s ≤ i → KX m z μ → RX z m l T i → skz tLt l T i = skz tLt l T s → gI z 313 m = ji 1 → gI z 314 m = ji s → (i - s ≤ 8 → gL z 316 m = jl (pkv T s (i - s).toNat)) → ln_X9_advance_125 Q X mf [some (.ref m), none] [] z 0 0 := by
  intro d
  induction d with
  | zero =>
    intro mf i z hd hm si z1 z2 hs g13 g14 gv
    obtain ⟨mf, rfl⟩ : ∃ j, mf = j + 1 := ⟨mf - 1, by omega⟩
    have hS2 := hS.mono z1.1.1
    have z2' := z2
    obtain ⟨⟨l0, l1, i0, i1⟩, g3, g4, gT⟩ := z2'
    have hl : l ≤ i := by omega
    have fb := fun (Q : XQ) X => f_byteAt (Q := Q) (X := X) hS2 z2 i0 (by omega)
    rw [if_neg (by omega : ¬ i < l)] at fb
    have hq := hK z i z1 z2 ((skz_end hl).symm.trans hs) g13 g14 gv
    have nl : ¬ tLt (-1) = true := by decide
    rw [ul_X9_advance_125]
    simp (disch := first | assumption | omega) only [RS_0, RS_1, RS_2, RS_3, RS_4, RS_5, RS_6, RS_7, RS_8, RS_9, RS_10, RS_11, RS_12, RS_13, RS_14, RS_15, RS_16, RS_17, RS_18, RS_19, RS_20, RS_21, RS_22, RS_23, RS_24, RS_25, RS_26, RS_27, RS_28, RS_29, RS_30, RS_31, RS_32, RS_33, RS_34, RS_35, RS_36, ji_add, ji_sub, ji_mul, ji_neg, ji_lit0, ji_ofNat, ji_lt, ji_le, ji_eq, ji_nat, ji_in, ji_rem, ji_div, jl_of, xl_lt, xl_gt, xl_eq, qV_at, qI_at, qJ_at, qD_at, qA_at, qA_no, nb0, nb1, cat_r, cat_i, Option.some.injEq, exists_eq_left', true_and, and_true, if_true, if_false, ite_not, not_true_eq_false, not_false_eq_true, Sum.inr.injEq, exists_eq_right', true_or, or_true, and_self, Int.cast_ofNat_Int, reduceCtorEq, or_false, false_or, false_and, and_false, jb_zero, lt7_0, lt7_1, lt7_2, lt7_3, lt7_4, lt7_5, lt7_6, c_X9_advance_13, c_X9_advance_12, g13, g4, fb, f_isLetter, nl, ↓reduceIte, ilt_t, ilt_f, ile_t, ile_f, ieq_t, ieq_f, jb_T, jb_F, jb_t, jb_f]
    exact hq
  | succ d ih =>
    intro mf i z hd hm si z1 z2 hs g13 g14 gv
    obtain ⟨mf, rfl⟩ : ∃ j, mf = j + 1 := ⟨mf - 1, by omega⟩
    have hS2 := hS.mono z1.1.1
    have z2' := z2
    obtain ⟨⟨l0, l1, i0, i1⟩, g3, g4, gT⟩ := z2'
    have hl : i < l := by omega
    have gt := gT i i0 hl
    have fb := fun (Q : XQ) X => f_byteAt (Q := Q) (X := X) hS2 z2 i0 (by omega)
    rw [if_pos hl] at fb
    rw [ul_X9_advance_125]
    by_cases hb : tLt (T i) = true
    · by_cases h8 : i - s < 8
      · have z3 : KX m (sI (sL z 316 m (jl (pkv T s (i - s).toNat * 32 + T i - 96))) 310 m (ji (i + 1))) μ := kx_s (kx_l z1 _) _ _ (by omega)
        have hr := ih mf (i + 1) _ (by omega) (by omega) (by omega) z3 (z2.kx (kx_s (kx_l KX.refl _) _ _ (by omega)) (by omega) (by omega) (gI_sI_at _ _ _ _)) (by rw [← skz_yes hl hb]; exact hs) ((gI_sI_k _ _ _ _ _ _ (by omega)).trans ((gI_sL _ _ _ _ _ _).trans g13)) ((gI_sI_k _ _ _ _ _ _ (by omega)).trans ((gI_sL _ _ _ _ _ _).trans g14)) (fun _ => by
          rw [gL_sI, gL_sL_at, show (i + 1 - s).toNat = (i - s).toNat + 1 by omega]
          show _ = jl (pkv T s (i - s).toNat * 32 + T (s + ((i - s).toNat : Int)) - 96)
          rw [show s + ((i - s).toNat : Int) = i by omega])
        have g4' : gI (sL z 316 m (jl (pkv T s (i - s).toNat * 32 + T i - 96))) 310 m = ji i := (gI_sL _ _ _ _ _ _).trans g4
        have hS3 : RS (sL z 316 m (jl (pkv T s (i - s).toNat * 32 + T i - 96))) m := hS2.mono (CH.sL (S := fun _ => True) (CH.refl _ z) _ _ _ trivial).1
        have gv' := gv (by omega)
        simp (disch := first | assumption | omega) only [RS_0, RS_1, RS_2, RS_3, RS_4, RS_5, RS_6, RS_7, RS_8, RS_9, RS_10, RS_11, RS_12, RS_13, RS_14, RS_15, RS_16, RS_17, RS_18, RS_19, RS_20, RS_21, RS_22, RS_23, RS_24, RS_25, RS_26, RS_27, RS_28, RS_29, RS_30, RS_31, RS_32, RS_33, RS_34, RS_35, RS_36, ji_add, ji_sub, ji_mul, ji_neg, ji_lit0, ji_ofNat, ji_lt, ji_le, ji_eq, ji_nat, ji_in, ji_rem, ji_div, jl_of, xl_lt, xl_gt, xl_eq, qV_at, qI_at, qJ_at, qD_at, qA_at, qA_no, nb0, nb1, cat_r, cat_i, Option.some.injEq, exists_eq_left', true_and, and_true, if_true, if_false, ite_not, not_true_eq_false, not_false_eq_true, Sum.inr.injEq, exists_eq_right', true_or, or_true, and_self, Int.cast_ofNat_Int, reduceCtorEq, or_false, false_or, false_and, and_false, jb_zero, lt7_0, lt7_1, lt7_2, lt7_3, lt7_4, lt7_5, lt7_6, c_X9_advance_13, c_X9_advance_12, c_X9_advance_11, g13, g14, g4, fb, f_isLetter, hb, gv', jl_ad, jl_sb, jl_ml, g4', Value.category, ↓reduceIte, ilt_t, ilt_f, ile_t, ile_f, ieq_t, ieq_f, jb_T, jb_F, jb_t, jb_f]
        exact hr
      · have z3 : KX m (sI z 310 m (ji (i + 1))) μ := kx_s z1 _ _ (by omega)
        have hr := ih mf (i + 1) _ (by omega) (by omega) (by omega) z3 (z2.kx (kx_s KX.refl _ _ (by omega)) (by omega) (by omega) (gI_sI_at _ _ _ _)) (by rw [← skz_yes hl hb]; exact hs) ((gI_sI_k _ _ _ _ _ _ (by omega)).trans g13) ((gI_sI_k _ _ _ _ _ _ (by omega)).trans g14) (fun q => by omega)
        simp (disch := first | assumption | omega) only [RS_0, RS_1, RS_2, RS_3, RS_4, RS_5, RS_6, RS_7, RS_8, RS_9, RS_10, RS_11, RS_12, RS_13, RS_14, RS_15, RS_16, RS_17, RS_18, RS_19, RS_20, RS_21, RS_22, RS_23, RS_24, RS_25, RS_26, RS_27, RS_28, RS_29, RS_30, RS_31, RS_32, RS_33, RS_34, RS_35, RS_36, ji_add, ji_sub, ji_mul, ji_neg, ji_lit0, ji_ofNat, ji_lt, ji_le, ji_eq, ji_nat, ji_in, ji_rem, ji_div, jl_of, xl_lt, xl_gt, xl_eq, qV_at, qI_at, qJ_at, qD_at, qA_at, qA_no, nb0, nb1, cat_r, cat_i, Option.some.injEq, exists_eq_left', true_and, and_true, if_true, if_false, ite_not, not_true_eq_false, not_false_eq_true, Sum.inr.injEq, exists_eq_right', true_or, or_true, and_self, Int.cast_ofNat_Int, reduceCtorEq, or_false, false_or, false_and, and_false, jb_zero, lt7_0, lt7_1, lt7_2, lt7_3, lt7_4, lt7_5, lt7_6, c_X9_advance_13, c_X9_advance_12, g13, g14, g4, fb, f_isLetter, hb, Value.category, ↓reduceIte, ilt_t, ilt_f, ile_t, ile_f, ieq_t, ieq_f, jb_T, jb_F, jb_t, jb_f]
        exact hr
    · have hq := hK z i z1 z2 ((skz_no hb).symm.trans hs) g13 g14 gv
      simp (disch := first | assumption | omega) only [RS_0, RS_1, RS_2, RS_3, RS_4, RS_5, RS_6, RS_7, RS_8, RS_9, RS_10, RS_11, RS_12, RS_13, RS_14, RS_15, RS_16, RS_17, RS_18, RS_19, RS_20, RS_21, RS_22, RS_23, RS_24, RS_25, RS_26, RS_27, RS_28, RS_29, RS_30, RS_31, RS_32, RS_33, RS_34, RS_35, RS_36, ji_add, ji_sub, ji_mul, ji_neg, ji_lit0, ji_ofNat, ji_lt, ji_le, ji_eq, ji_nat, ji_in, ji_rem, ji_div, jl_of, xl_lt, xl_gt, xl_eq, qV_at, qI_at, qJ_at, qD_at, qA_at, qA_no, nb0, nb1, cat_r, cat_i, Option.some.injEq, exists_eq_left', true_and, and_true, if_true, if_false, ite_not, not_true_eq_false, not_false_eq_true, Sum.inr.injEq, exists_eq_right', true_or, or_true, and_self, Int.cast_ofNat_Int, reduceCtorEq, or_false, false_or, false_and, and_false, jb_zero, lt7_0, lt7_1, lt7_2, lt7_3, lt7_4, lt7_5, lt7_6, c_X9_advance_13, c_X9_advance_12, g13, g4, fb, f_isLetter, hb, ↓reduceIte, ilt_t, ilt_f, ile_t, ile_f, ieq_t, ieq_f, jb_T, jb_F, jb_t, jb_f]
      exact hq
theorem f_digits (hS : RS μ m) (s0 : 0 ≤ s) (hK : ∀ (ν : XM) (j : Int), KX m ν μ → RX ν m l T j → j = skz tDg l T s → gI ν 313 m = ji 2 → gI ν 314 m = ji s → (j - s ≤ 5 → gL ν 316 m = jl (tV l T s)) → j_X9_advance_274 Q X [some (.ref m), none] [] ν 0 0) : ∀ (d mf : Nat) (i a : Int) (z : XM), (l - i).toNat = d → d < mf → s ≤ i → KX m z μ → RX z m l T i → skz tDg l T i = skz tDg l T s → gI z 313 m = ji 2 → gI z 314 m = ji s → (i - s ≤ 5 → vlz l T i a = tV l T s ∧ gL z 316 m = jl a) → ln_X9_advance_200 Q X mf [some (.ref m), none] [] z 0 0 := by
  intro d
  induction d with
  | zero =>
    intro mf i a z hd hm si z1 z2 hs g13 g14 gv
    obtain ⟨mf, rfl⟩ : ∃ j, mf = j + 1 := ⟨mf - 1, by omega⟩
    have hS2 := hS.mono z1.1.1
    have z2' := z2
    obtain ⟨⟨l0, l1, i0, i1⟩, g3, g4, gT⟩ := z2'
    have hl : l ≤ i := by omega
    have fb := fun (Q : XQ) X => f_byteAt (Q := Q) (X := X) hS2 z2 i0 (by omega)
    rw [if_neg (by omega : ¬ i < l)] at fb
    have hq := hK z i z1 z2 ((skz_end hl).symm.trans hs) g13 g14 (fun q => by rw [← (gv q).1, vlz_end hl]; exact (gv q).2)
    have nl : ¬ tDg (-1) = true := by decide
    rw [ul_X9_advance_200]
    simp (disch := first | assumption | omega) only [RS_0, RS_1, RS_2, RS_3, RS_4, RS_5, RS_6, RS_7, RS_8, RS_9, RS_10, RS_11, RS_12, RS_13, RS_14, RS_15, RS_16, RS_17, RS_18, RS_19, RS_20, RS_21, RS_22, RS_23, RS_24, RS_25, RS_26, RS_27, RS_28, RS_29, RS_30, RS_31, RS_32, RS_33, RS_34, RS_35, RS_36, ji_add, ji_sub, ji_mul, ji_neg, ji_lit0, ji_ofNat, ji_lt, ji_le, ji_eq, ji_nat, ji_in, ji_rem, ji_div, jl_of, xl_lt, xl_gt, xl_eq, qV_at, qI_at, qJ_at, qD_at, qA_at, qA_no, nb0, nb1, cat_r, cat_i, Option.some.injEq, exists_eq_left', true_and, and_true, if_true, if_false, ite_not, not_true_eq_false, not_false_eq_true, Sum.inr.injEq, exists_eq_right', true_or, or_true, and_self, Int.cast_ofNat_Int, reduceCtorEq, or_false, false_or, false_and, and_false, jb_zero, lt7_0, lt7_1, lt7_2, lt7_3, lt7_4, lt7_5, lt7_6, c_X9_advance_16, c_X9_advance_15, g13, g4, fb, f_isDigit, nl, ↓reduceIte, ilt_t, ilt_f, ile_t, ile_f, ieq_t, ieq_f, jb_T, jb_F, jb_t, jb_f]
    exact hq
  | succ d ih =>
    intro mf i a z hd hm si z1 z2 hs g13 g14 gv
    obtain ⟨mf, rfl⟩ : ∃ j, mf = j + 1 := ⟨mf - 1, by omega⟩
    have hS2 := hS.mono z1.1.1
    have z2' := z2
    obtain ⟨⟨l0, l1, i0, i1⟩, g3, g4, gT⟩ := z2'
    have hl : i < l := by omega
    have gt := gT i i0 hl
    have fb := fun (Q : XQ) X => f_byteAt (Q := Q) (X := X) hS2 z2 i0 (by omega)
    rw [if_pos hl] at fb
    rw [ul_X9_advance_200]
    by_cases hb : tDg (T i) = true
    · by_cases h8 : i - s < 5
      · have ea : a * 10 + T i - 48 = 10 * a + T i - 48 := by omega
        have z3 : KX m (sI (sL z 316 m (jl (a * 10 + T i - 48))) 310 m (ji (i + 1))) μ := kx_s (kx_l z1 _) _ _ (by omega)
        have hr := ih mf (i + 1) (a * 10 + T i - 48) _ (by omega) (by omega) (by omega) z3 (z2.kx (kx_s (kx_l KX.refl _) _ _ (by omega)) (by omega) (by omega) (gI_sI_at _ _ _ _)) (by rw [← skz_yes hl hb]; exact hs) ((gI_sI_k _ _ _ _ _ _ (by omega)).trans ((gI_sL _ _ _ _ _ _).trans g13)) ((gI_sI_k _ _ _ _ _ _ (by omega)).trans ((gI_sL _ _ _ _ _ _).trans g14)) (fun _ => ⟨by rw [ea, ← vlz_yes hl hb]; exact (gv (by omega)).1, by rw [gL_sI, gL_sL_at]⟩)
        have g4' : gI (sL z 316 m (jl (a * 10 + T i - 48))) 310 m = ji i := (gI_sL _ _ _ _ _ _).trans g4
        have hS3 : RS (sL z 316 m (jl (a * 10 + T i - 48))) m := hS2.mono (CH.sL (S := fun _ => True) (CH.refl _ z) _ _ _ trivial).1
        have gv' := (gv (by omega)).2
        simp (disch := first | assumption | omega) only [RS_0, RS_1, RS_2, RS_3, RS_4, RS_5, RS_6, RS_7, RS_8, RS_9, RS_10, RS_11, RS_12, RS_13, RS_14, RS_15, RS_16, RS_17, RS_18, RS_19, RS_20, RS_21, RS_22, RS_23, RS_24, RS_25, RS_26, RS_27, RS_28, RS_29, RS_30, RS_31, RS_32, RS_33, RS_34, RS_35, RS_36, ji_add, ji_sub, ji_mul, ji_neg, ji_lit0, ji_ofNat, ji_lt, ji_le, ji_eq, ji_nat, ji_in, ji_rem, ji_div, jl_of, xl_lt, xl_gt, xl_eq, qV_at, qI_at, qJ_at, qD_at, qA_at, qA_no, nb0, nb1, cat_r, cat_i, Option.some.injEq, exists_eq_left', true_and, and_true, if_true, if_false, ite_not, not_true_eq_false, not_false_eq_true, Sum.inr.injEq, exists_eq_right', true_or, or_true, and_self, Int.cast_ofNat_Int, reduceCtorEq, or_false, false_or, false_and, and_false, jb_zero, lt7_0, lt7_1, lt7_2, lt7_3, lt7_4, lt7_5, lt7_6, c_X9_advance_16, c_X9_advance_15, c_X9_advance_14, g13, g14, g4, fb, f_isDigit, hb, gv', jl_ad, jl_sb, jl_ml, g4', Value.category, ↓reduceIte, ilt_t, ilt_f, ile_t, ile_f, ieq_t, ieq_f, jb_T, jb_F, jb_t, jb_f]
        exact hr
      · have z3 : KX m (sI z 310 m (ji (i + 1))) μ := kx_s z1 _ _ (by omega)
        have hr := ih mf (i + 1) a _ (by omega) (by omega) (by omega) z3 (z2.kx (kx_s KX.refl _ _ (by omega)) (by omega) (by omega) (gI_sI_at _ _ _ _)) (by rw [← skz_yes hl hb]; exact hs) ((gI_sI_k _ _ _ _ _ _ (by omega)).trans g13) ((gI_sI_k _ _ _ _ _ _ (by omega)).trans g14) (fun q => by omega)
        simp (disch := first | assumption | omega) only [RS_0, RS_1, RS_2, RS_3, RS_4, RS_5, RS_6, RS_7, RS_8, RS_9, RS_10, RS_11, RS_12, RS_13, RS_14, RS_15, RS_16, RS_17, RS_18, RS_19, RS_20, RS_21, RS_22, RS_23, RS_24, RS_25, RS_26, RS_27, RS_28, RS_29, RS_30, RS_31, RS_32, RS_33, RS_34, RS_35, RS_36, ji_add, ji_sub, ji_mul, ji_neg, ji_lit0, ji_ofNat, ji_lt, ji_le, ji_eq, ji_nat, ji_in, ji_rem, ji_div, jl_of, xl_lt, xl_gt, xl_eq, qV_at, qI_at, qJ_at, qD_at, qA_at, qA_no, nb0, nb1, cat_r, cat_i, Option.some.injEq, exists_eq_left', true_and, and_true, if_true, if_false, ite_not, not_true_eq_false, not_false_eq_true, Sum.inr.injEq, exists_eq_right', true_or, or_true, and_self, Int.cast_ofNat_Int, reduceCtorEq, or_false, false_or, false_and, and_false, jb_zero, lt7_0, lt7_1, lt7_2, lt7_3, lt7_4, lt7_5, lt7_6, c_X9_advance_16, c_X9_advance_15, g13, g14, g4, fb, f_isDigit, hb, Value.category, ↓reduceIte, ilt_t, ilt_f, ile_t, ile_f, ieq_t, ieq_f, jb_T, jb_F, jb_t, jb_f]
        exact hr
    · have hq := hK z i z1 z2 ((skz_no hb).symm.trans hs) g13 g14 (fun q => by rw [← (gv q).1, vlz_no hb]; exact (gv q).2)
      simp (disch := first | assumption | omega) only [RS_0, RS_1, RS_2, RS_3, RS_4, RS_5, RS_6, RS_7, RS_8, RS_9, RS_10, RS_11, RS_12, RS_13, RS_14, RS_15, RS_16, RS_17, RS_18, RS_19, RS_20, RS_21, RS_22, RS_23, RS_24, RS_25, RS_26, RS_27, RS_28, RS_29, RS_30, RS_31, RS_32, RS_33, RS_34, RS_35, RS_36, ji_add, ji_sub, ji_mul, ji_neg, ji_lit0, ji_ofNat, ji_lt, ji_le, ji_eq, ji_nat, ji_in, ji_rem, ji_div, jl_of, xl_lt, xl_gt, xl_eq, qV_at, qI_at, qJ_at, qD_at, qA_at, qA_no, nb0, nb1, cat_r, cat_i, Option.some.injEq, exists_eq_left', true_and, and_true, if_true, if_false, ite_not, not_true_eq_false, not_false_eq_true, Sum.inr.injEq, exists_eq_right', true_or, or_true, and_self, Int.cast_ofNat_Int, reduceCtorEq, or_false, false_or, false_and, and_false, jb_zero, lt7_0, lt7_1, lt7_2, lt7_3, lt7_4, lt7_5, lt7_6, c_X9_advance_16, c_X9_advance_15, g13, g4, fb, f_isDigit, hb, ↓reduceIte, ilt_t, ilt_f, ile_t, ile_f, ieq_t, ieq_f, jb_T, jb_F, jb_t, jb_f]
      exact hq
theorem f_advance (hS : RS μ m) (hT : RX μ m l T p) (hK : ∀ ν, AD ν μ m l T p → Q none ν) : s_X9_advance μ [.ref m] Q X := by
  have hp := hT.1
  refine f_blanks hS (fun ν k z1 z2 g14 gv hk => ?_) hT
  have sb := tB_b (l := l) (T := T) hp.2.2.2
  unfold AD at hK
  generalize tB l T p = s at *
  have eb := tE_b (l := l) (T := T) sb.2
  have hS2 := hS.mono z1.1.1
  have y1 : KX m (sI ν 313 m (ji k)) μ := kx_s z1 _ _ (by omega)
  have y2 : RX (sI ν 313 m (ji k)) m l T s := z2.kx (kx_s KX.refl _ _ (by omega)) (by omega) (by omega) ((gI_sI_k _ _ _ _ _ _ (by omega)).trans z2.2.2.1)
  have y13 : gI (sI ν 313 m (ji k)) 313 m = ji k := gI_sI_at _ _ _ _
  have y14 : gI (sI ν 313 m (ji k)) 314 m = ji s := (gI_sI_k _ _ _ _ _ _ (by omega)).trans g14
  have yv : gL (sI ν 313 m (ji k)) 316 m = jl 0 := (gL_sI _ _ _ _ _ _).trans gv
  have hS3 : RS (sI ν 313 m (ji k)) m := hS2.mono (CH.sI (S := fun _ => True) (CH.refl _ ν) _ _ _ trivial).1
  have y10 := y2.2.2.1
  have kb : 0 ≤ k ∧ k ≤ 4 := by
    rw [hk]
    unfold tF
    (repeat' split) <;> omega
  rw [uj_X9_advance_104]
  generalize sI ν 313 m (ji k) = y at *
  unfold tF at hk
  by_cases h0 : l ≤ s
  · rw [if_pos h0] at hk
    have hq := hK y ⟨y1, by rw [show tE l T s = s from if_pos h0]; exact y2, by rw [y13, hk, show tK l T s = 0 from if_pos h0], y14, fun q => by rw [show tK l T s = 0 from if_pos h0] at q; omega, fun q => by rw [show tK l T s = 0 from if_pos h0] at q; omega⟩
    subst hk
    simp (disch := first | assumption | omega) only [RS_0, RS_1, RS_2, RS_3, RS_4, RS_5, RS_6, RS_7, RS_8, RS_9, RS_10, RS_11, RS_12, RS_13, RS_14, RS_15, RS_16, RS_17, RS_18, RS_19, RS_20, RS_21, RS_22, RS_23, RS_24, RS_25, RS_26, RS_27, RS_28, RS_29, RS_30, RS_31, RS_32, RS_33, RS_34, RS_35, RS_36, ji_add, ji_sub, ji_mul, ji_neg, ji_lit0, ji_ofNat, ji_lt, ji_le, ji_eq, ji_nat, ji_in, ji_rem, ji_div, jl_of, xl_lt, xl_gt, xl_eq, qV_at, qI_at, qJ_at, qD_at, qA_at, qA_no, nb0, nb1, cat_r, cat_i, Option.some.injEq, exists_eq_left', true_and, and_true, if_true, if_false, ite_not, not_true_eq_false, not_false_eq_true, Sum.inr.injEq, exists_eq_right', true_or, or_true, and_self, Int.cast_ofNat_Int, reduceCtorEq, or_false, false_or, false_and, and_false, jb_zero, lt7_0, lt7_1, lt7_2, lt7_3, lt7_4, lt7_5, lt7_6, y13, l_X9_advance_125, xseal_eq, ul_X9_advance_125, l_X9_advance_200, ul_X9_advance_200, uj_X9_advance_274, uj_X9_advance_296, ↓reduceIte, ilt_t, ilt_f, ile_t, ile_f, ieq_t, ieq_f, jb_T, jb_F, jb_t, jb_f]
    exact hq
  · rw [if_neg h0] at hk
    by_cases h1 : tLt (T s) = true
    · rw [if_pos h1] at hk
      subst hk
      have hE : tE l T s = skz tLt l T s := by unfold tE; rw [if_neg h0, if_pos h1]
      have hkk : tK l T s = if 8 < tE l T s - s then 4 else 1 := by unfold tK; rw [if_neg h0, if_pos h1]
      simp (disch := first | assumption | omega) only [RS_0, RS_1, RS_2, RS_3, RS_4, RS_5, RS_6, RS_7, RS_8, RS_9, RS_10, RS_11, RS_12, RS_13, RS_14, RS_15, RS_16, RS_17, RS_18, RS_19, RS_20, RS_21, RS_22, RS_23, RS_24, RS_25, RS_26, RS_27, RS_28, RS_29, RS_30, RS_31, RS_32, RS_33, RS_34, RS_35, RS_36, ji_add, ji_sub, ji_mul, ji_neg, ji_lit0, ji_ofNat, ji_lt, ji_le, ji_eq, ji_nat, ji_in, ji_rem, ji_div, jl_of, xl_lt, xl_gt, xl_eq, qV_at, qI_at, qJ_at, qD_at, qA_at, qA_no, nb0, nb1, cat_r, cat_i, Option.some.injEq, exists_eq_left', true_and, and_true, if_true, if_false, ite_not, not_true_eq_false, not_false_eq_true, Sum.inr.injEq, exists_eq_right', true_or, or_true, and_self, Int.cast_ofNat_Int, reduceCtorEq, or_false, false_or, false_and, and_false, jb_zero, lt7_0, lt7_1, lt7_2, lt7_3, lt7_4, lt7_5, lt7_6, y13, ↓reduceIte, ilt_t, ilt_f, ile_t, ile_f, ieq_t, ieq_f, jb_T, jb_F, jb_t, jb_f]
      rw [l_X9_advance_125, xseal_eq]
      refine f_letters hS3 (by omega) (fun u j u1 u2 u3 u4 u5 u6 => ?_) (l - s).toNat 10000 s y rfl (by omega) (by omega) KX.refl y2 rfl y13 y14 (fun _ => by rw [yv, show (s - s).toNat = 0 by omega]; rfl)
      have hS4 := hS3.mono u1.1.1
      have u7 := u2.2.2.1
      rw [← hE] at u3
      subst u3
      rw [l_X9_advance_200, xseal_eq, ul_X9_advance_200]
      by_cases h8 : 8 < tE l T s - s
      · rw [if_pos h8] at hkk
        have hq := hK (sI u 313 m (ji 4)) ⟨kx_s (KX.trans u1 y1) _ _ (by omega), u2.kx (kx_s KX.refl _ _ (by omega)) (by omega) (by omega) ((gI_sI_k _ _ _ _ _ _ (by omega)).trans u7), by rw [gI_sI_at, hkk], (gI_sI_k _ _ _ _ _ _ (by omega)).trans u5, fun q => by omega, fun q => by omega⟩
        simp (disch := first | assumption | omega) only [RS_0, RS_1, RS_2, RS_3, RS_4, RS_5, RS_6, RS_7, RS_8, RS_9, RS_10, RS_11, RS_12, RS_13, RS_14, RS_15, RS_16, RS_17, RS_18, RS_19, RS_20, RS_21, RS_22, RS_23, RS_24, RS_25, RS_26, RS_27, RS_28, RS_29, RS_30, RS_31, RS_32, RS_33, RS_34, RS_35, RS_36, ji_add, ji_sub, ji_mul, ji_neg, ji_lit0, ji_ofNat, ji_lt, ji_le, ji_eq, ji_nat, ji_in, ji_rem, ji_div, jl_of, xl_lt, xl_gt, xl_eq, qV_at, qI_at, qJ_at, qD_at, qA_at, qA_no, nb0, nb1, cat_r, cat_i, Option.some.injEq, exists_eq_left', true_and, and_true, if_true, if_false, ite_not, not_true_eq_false, not_false_eq_true, Sum.inr.injEq, exists_eq_right', true_or, or_true, and_self, Int.cast_ofNat_Int, reduceCtorEq, or_false, false_or, false_and, and_false, jb_zero, lt7_0, lt7_1, lt7_2, lt7_3, lt7_4, lt7_5, lt7_6, uj_X9_advance_104, uj_X9_advance_274, uj_X9_advance_296, u4, u5, u7, h8, ↓reduceIte, ilt_t, ilt_f, ile_t, ile_f, ieq_t, ieq_f, jb_T, jb_F, jb_t, jb_f]
        exact hq
      · rw [if_neg h8] at hkk
        have hq := hK u ⟨KX.trans u1 y1, u2, by rw [u4, hkk], u5, fun q => u6 (by omega), fun q => by omega⟩
        simp (disch := first | assumption | omega) only [RS_0, RS_1, RS_2, RS_3, RS_4, RS_5, RS_6, RS_7, RS_8, RS_9, RS_10, RS_11, RS_12, RS_13, RS_14, RS_15, RS_16, RS_17, RS_18, RS_19, RS_20, RS_21, RS_22, RS_23, RS_24, RS_25, RS_26, RS_27, RS_28, RS_29, RS_30, RS_31, RS_32, RS_33, RS_34, RS_35, RS_36, ji_add, ji_sub, ji_mul, ji_neg, ji_lit0, ji_ofNat, ji_lt, ji_le, ji_eq, ji_nat, ji_in, ji_rem, ji_div, jl_of, xl_lt, xl_gt, xl_eq, qV_at, qI_at, qJ_at, qD_at, qA_at, qA_no, nb0, nb1, cat_r, cat_i, Option.some.injEq, exists_eq_left', true_and, and_true, if_true, if_false, ite_not, not_true_eq_false, not_false_eq_true, Sum.inr.injEq, exists_eq_right', true_or, or_true, and_self, Int.cast_ofNat_Int, reduceCtorEq, or_false, false_or, false_and, and_false, jb_zero, lt7_0, lt7_1, lt7_2, lt7_3, lt7_4, lt7_5, lt7_6, uj_X9_advance_104, uj_X9_advance_274, uj_X9_advance_296, u4, u5, u7, h8, ↓reduceIte, ilt_t, ilt_f, ile_t, ile_f, ieq_t, ieq_f, jb_T, jb_F, jb_t, jb_f]
        exact hq
    · rw [if_neg h1] at hk
      by_cases h2 : tDg (T s) = true
      · rw [if_pos h2] at hk
        subst hk
        have hE : tE l T s = skz tDg l T s := by unfold tE; rw [if_neg h0, if_neg h1, if_pos h2]
        have hkk : tK l T s = if 5 < tE l T s - s then 4 else 2 := by unfold tK; rw [if_neg h0, if_neg h1, if_pos h2]
        simp (disch := first | assumption | omega) only [RS_0, RS_1, RS_2, RS_3, RS_4, RS_5, RS_6, RS_7, RS_8, RS_9, RS_10, RS_11, RS_12, RS_13, RS_14, RS_15, RS_16, RS_17, RS_18, RS_19, RS_20, RS_21, RS_22, RS_23, RS_24, RS_25, RS_26, RS_27, RS_28, RS_29, RS_30, RS_31, RS_32, RS_33, RS_34, RS_35, RS_36, ji_add, ji_sub, ji_mul, ji_neg, ji_lit0, ji_ofNat, ji_lt, ji_le, ji_eq, ji_nat, ji_in, ji_rem, ji_div, jl_of, xl_lt, xl_gt, xl_eq, qV_at, qI_at, qJ_at, qD_at, qA_at, qA_no, nb0, nb1, cat_r, cat_i, Option.some.injEq, exists_eq_left', true_and, and_true, if_true, if_false, ite_not, not_true_eq_false, not_false_eq_true, Sum.inr.injEq, exists_eq_right', true_or, or_true, and_self, Int.cast_ofNat_Int, reduceCtorEq, or_false, false_or, false_and, and_false, jb_zero, lt7_0, lt7_1, lt7_2, lt7_3, lt7_4, lt7_5, lt7_6, y13, ↓reduceIte, ilt_t, ilt_f, ile_t, ile_f, ieq_t, ieq_f, jb_T, jb_F, jb_t, jb_f]
        rw [l_X9_advance_125, xseal_eq, ul_X9_advance_125]
        simp (disch := first | assumption | omega) only [RS_0, RS_1, RS_2, RS_3, RS_4, RS_5, RS_6, RS_7, RS_8, RS_9, RS_10, RS_11, RS_12, RS_13, RS_14, RS_15, RS_16, RS_17, RS_18, RS_19, RS_20, RS_21, RS_22, RS_23, RS_24, RS_25, RS_26, RS_27, RS_28, RS_29, RS_30, RS_31, RS_32, RS_33, RS_34, RS_35, RS_36, ji_add, ji_sub, ji_mul, ji_neg, ji_lit0, ji_ofNat, ji_lt, ji_le, ji_eq, ji_nat, ji_in, ji_rem, ji_div, jl_of, xl_lt, xl_gt, xl_eq, qV_at, qI_at, qJ_at, qD_at, qA_at, qA_no, nb0, nb1, cat_r, cat_i, Option.some.injEq, exists_eq_left', true_and, and_true, if_true, if_false, ite_not, not_true_eq_false, not_false_eq_true, Sum.inr.injEq, exists_eq_right', true_or, or_true, and_self, Int.cast_ofNat_Int, reduceCtorEq, or_false, false_or, false_and, and_false, jb_zero, lt7_0, lt7_1, lt7_2, lt7_3, lt7_4, lt7_5, lt7_6, y13, ↓reduceIte, ilt_t, ilt_f, ile_t, ile_f, ieq_t, ieq_f, jb_T, jb_F, jb_t, jb_f]
        rw [l_X9_advance_200, xseal_eq]
        refine f_digits hS3 (by omega) (fun u j u1 u2 u3 u4 u5 u6 => ?_) (l - s).toNat 10000 s 0 y rfl (by omega) (by omega) KX.refl y2 rfl y13 y14 (fun _ => ⟨rfl, yv⟩)
        have hS4 := hS3.mono u1.1.1
        have u7 := u2.2.2.1
        rw [← hE] at u3
        subst u3
        by_cases h8 : 5 < tE l T s - s
        · rw [if_pos h8] at hkk
          have hq := hK (sI u 313 m (ji 4)) ⟨kx_s (KX.trans u1 y1) _ _ (by omega), u2.kx (kx_s KX.refl _ _ (by omega)) (by omega) (by omega) ((gI_sI_k _ _ _ _ _ _ (by omega)).trans u7), by rw [gI_sI_at, hkk], (gI_sI_k _ _ _ _ _ _ (by omega)).trans u5, fun q => by omega, fun q => by omega⟩
          simp (disch := first | assumption | omega) only [RS_0, RS_1, RS_2, RS_3, RS_4, RS_5, RS_6, RS_7, RS_8, RS_9, RS_10, RS_11, RS_12, RS_13, RS_14, RS_15, RS_16, RS_17, RS_18, RS_19, RS_20, RS_21, RS_22, RS_23, RS_24, RS_25, RS_26, RS_27, RS_28, RS_29, RS_30, RS_31, RS_32, RS_33, RS_34, RS_35, RS_36, ji_add, ji_sub, ji_mul, ji_neg, ji_lit0, ji_ofNat, ji_lt, ji_le, ji_eq, ji_nat, ji_in, ji_rem, ji_div, jl_of, xl_lt, xl_gt, xl_eq, qV_at, qI_at, qJ_at, qD_at, qA_at, qA_no, nb0, nb1, cat_r, cat_i, Option.some.injEq, exists_eq_left', true_and, and_true, if_true, if_false, ite_not, not_true_eq_false, not_false_eq_true, Sum.inr.injEq, exists_eq_right', true_or, or_true, and_self, Int.cast_ofNat_Int, reduceCtorEq, or_false, false_or, false_and, and_false, jb_zero, lt7_0, lt7_1, lt7_2, lt7_3, lt7_4, lt7_5, lt7_6, uj_X9_advance_274, uj_X9_advance_296, u4, u5, u7, h8, ↓reduceIte, ilt_t, ilt_f, ile_t, ile_f, ieq_t, ieq_f, jb_T, jb_F, jb_t, jb_f]
          exact hq
        · rw [if_neg h8] at hkk
          have hq := hK u ⟨KX.trans u1 y1, u2, by rw [u4, hkk], u5, fun q => by omega, fun q => u6 (by omega)⟩
          simp (disch := first | assumption | omega) only [RS_0, RS_1, RS_2, RS_3, RS_4, RS_5, RS_6, RS_7, RS_8, RS_9, RS_10, RS_11, RS_12, RS_13, RS_14, RS_15, RS_16, RS_17, RS_18, RS_19, RS_20, RS_21, RS_22, RS_23, RS_24, RS_25, RS_26, RS_27, RS_28, RS_29, RS_30, RS_31, RS_32, RS_33, RS_34, RS_35, RS_36, ji_add, ji_sub, ji_mul, ji_neg, ji_lit0, ji_ofNat, ji_lt, ji_le, ji_eq, ji_nat, ji_in, ji_rem, ji_div, jl_of, xl_lt, xl_gt, xl_eq, qV_at, qI_at, qJ_at, qD_at, qA_at, qA_no, nb0, nb1, cat_r, cat_i, Option.some.injEq, exists_eq_left', true_and, and_true, if_true, if_false, ite_not, not_true_eq_false, not_false_eq_true, Sum.inr.injEq, exists_eq_right', true_or, or_true, and_self, Int.cast_ofNat_Int, reduceCtorEq, or_false, false_or, false_and, and_false, jb_zero, lt7_0, lt7_1, lt7_2, lt7_3, lt7_4, lt7_5, lt7_6, uj_X9_advance_274, uj_X9_advance_296, u4, u5, u7, h8, ↓reduceIte, ilt_t, ilt_f, ile_t, ile_f, ieq_t, ieq_f, jb_T, jb_F, jb_t, jb_f]
          exact hq
      · rw [if_neg h2] at hk
        have hE : tE l T s = s + 1 := by unfold tE; rw [if_neg h0, if_neg h1, if_neg h2]
        have hkk : tK l T s = k := by unfold tK; rw [if_neg h0, if_neg h1, if_neg h2, hk]
        have k3 : k = 3 ∨ k = 4 := by rw [hk]; split <;> omega
        have hq := hK (sI y 310 m (ji (s + 1))) ⟨kx_s y1 _ _ (by omega), y2.kx (kx_s KX.refl _ _ (by omega)) (by omega) (by omega) (by rw [gI_sI_at, hE]), by rw [gI_sI_k _ _ _ _ _ _ (by omega), y13, hkk], (gI_sI_k _ _ _ _ _ _ (by omega)).trans y14, fun q => by omega, fun q => by omega⟩
        have g13 : gI (sI y 310 m (ji (s + 1))) 313 m = ji k := (gI_sI_k _ _ _ _ _ _ (by omega)).trans y13
        have hS4 : RS (sI y 310 m (ji (s + 1))) m := hS3.mono (CH.sI (S := fun _ => True) (CH.refl _ y) _ _ _ trivial).1
        have nk : ¬ k ≤ 2 := by omega
        simp (disch := first | assumption | omega) only [RS_0, RS_1, RS_2, RS_3, RS_4, RS_5, RS_6, RS_7, RS_8, RS_9, RS_10, RS_11, RS_12, RS_13, RS_14, RS_15, RS_16, RS_17, RS_18, RS_19, RS_20, RS_21, RS_22, RS_23, RS_24, RS_25, RS_26, RS_27, RS_28, RS_29, RS_30, RS_31, RS_32, RS_33, RS_34, RS_35, RS_36, ji_add, ji_sub, ji_mul, ji_neg, ji_lit0, ji_ofNat, ji_lt, ji_le, ji_eq, ji_nat, ji_in, ji_rem, ji_div, jl_of, xl_lt, xl_gt, xl_eq, qV_at, qI_at, qJ_at, qD_at, qA_at, qA_no, nb0, nb1, cat_r, cat_i, Option.some.injEq, exists_eq_left', true_and, and_true, if_true, if_false, ite_not, not_true_eq_false, not_false_eq_true, Sum.inr.injEq, exists_eq_right', true_or, or_true, and_self, Int.cast_ofNat_Int, reduceCtorEq, or_false, false_or, false_and, and_false, jb_zero, lt7_0, lt7_1, lt7_2, lt7_3, lt7_4, lt7_5, lt7_6, y13, y10, nk, Value.category, ↓reduceIte, ilt_t, ilt_f, ile_t, ile_f, ieq_t, ieq_f, jb_T, jb_F, jb_t, jb_f]
        rw [l_X9_advance_125, xseal_eq, ul_X9_advance_125]
        simp (disch := first | assumption | omega) only [RS_0, RS_1, RS_2, RS_3, RS_4, RS_5, RS_6, RS_7, RS_8, RS_9, RS_10, RS_11, RS_12, RS_13, RS_14, RS_15, RS_16, RS_17, RS_18, RS_19, RS_20, RS_21, RS_22, RS_23, RS_24, RS_25, RS_26, RS_27, RS_28, RS_29, RS_30, RS_31, RS_32, RS_33, RS_34, RS_35, RS_36, ji_add, ji_sub, ji_mul, ji_neg, ji_lit0, ji_ofNat, ji_lt, ji_le, ji_eq, ji_nat, ji_in, ji_rem, ji_div, jl_of, xl_lt, xl_gt, xl_eq, qV_at, qI_at, qJ_at, qD_at, qA_at, qA_no, nb0, nb1, cat_r, cat_i, Option.some.injEq, exists_eq_left', true_and, and_true, if_true, if_false, ite_not, not_true_eq_false, not_false_eq_true, Sum.inr.injEq, exists_eq_right', true_or, or_true, and_self, Int.cast_ofNat_Int, reduceCtorEq, or_false, false_or, false_and, and_false, jb_zero, lt7_0, lt7_1, lt7_2, lt7_3, lt7_4, lt7_5, lt7_6, g13, ↓reduceIte, ilt_t, ilt_f, ile_t, ile_f, ieq_t, ieq_f, jb_T, jb_F, jb_t, jb_f]
        rw [l_X9_advance_200, xseal_eq, ul_X9_advance_200]
        simp (disch := first | assumption | omega) only [RS_0, RS_1, RS_2, RS_3, RS_4, RS_5, RS_6, RS_7, RS_8, RS_9, RS_10, RS_11, RS_12, RS_13, RS_14, RS_15, RS_16, RS_17, RS_18, RS_19, RS_20, RS_21, RS_22, RS_23, RS_24, RS_25, RS_26, RS_27, RS_28, RS_29, RS_30, RS_31, RS_32, RS_33, RS_34, RS_35, RS_36, ji_add, ji_sub, ji_mul, ji_neg, ji_lit0, ji_ofNat, ji_lt, ji_le, ji_eq, ji_nat, ji_in, ji_rem, ji_div, jl_of, xl_lt, xl_gt, xl_eq, qV_at, qI_at, qJ_at, qD_at, qA_at, qA_no, nb0, nb1, cat_r, cat_i, Option.some.injEq, exists_eq_left', true_and, and_true, if_true, if_false, ite_not, not_true_eq_false, not_false_eq_true, Sum.inr.injEq, exists_eq_right', true_or, or_true, and_self, Int.cast_ofNat_Int, reduceCtorEq, or_false, false_or, false_and, and_false, jb_zero, lt7_0, lt7_1, lt7_2, lt7_3, lt7_4, lt7_5, lt7_6, uj_X9_advance_274, uj_X9_advance_296, g13, ↓reduceIte, ilt_t, ilt_f, ile_t, ile_f, ieq_t, ieq_f, jb_T, jb_F, jb_t, jb_f]
        exact hq
end
