/-! ===== the reference's output ===== -/
section
variable {μ ν : XM} {m : Nat} {Q : XQ} {X : XX} {A : AS} {l v : Int} {O : Int → Int} {y0 : XM} {w h s : Int} {Z : Int → Int}
def OXc (μ' μ : XM) (m : Nat) (l : Int) (O : Int → Int) : Prop := CH (inM m) μ' μ ∧ (∀ k, k ≠ 307 → gI μ' k m = gI μ k m) ∧ gI μ' 307 m = ji l ∧ (∀ a i, a ≠ m + 9 → aI μ' a i = aI μ a i) ∧ ∀ i, 0 ≤ i → i < l → aI μ' (m + 9) i.toNat = ji (O i)
theorem OXc.trans {a b c : XM} {l l' : Int} {T T' : Int → Int} (h : OXc c b m l' T') (g : OXc b a m l T) : OXc c a m l' T' := ⟨h.1.trans g.1, fun k hk => (h.2.1 k hk).trans (g.2.1 k hk), h.2.2.1, fun x i hx => (h.2.2.2.1 x i hx).trans (g.2.2.2.1 x i hx), h.2.2.2.2⟩
theorem OXc.rw (ho : OXc ν μ m l O) (hR : RW μ m w h s Z) : RW ν m w h s Z := by
  obtain ⟨o1, o2, o3, o4, o5⟩ := ho
  exact ⟨(o2 292 (by omega)).trans hR.1, (o2 293 (by omega)).trans hR.2.1, (o2 294 (by omega)).trans hR.2.2.1, fun i i0 i1 => (o4 _ _ (by omega)).trans (hR.2.2.2 i i0 i1)⟩
theorem f_put (hS : RS μ m) (hl : gI μ 307 m = ji l) (hO : ∀ i, 0 ≤ i → i < l → aI μ (m + 9) i.toNat = ji (O i)) (l0 : 0 ≤ l) (l1 : l < 60) (hK : ∀ μ', OXc μ' μ m (l + 1) (zu O l v) → Q none μ') : s_X9_put μ [.ref m, .int (ji v)] Q X := by
  have t0 := fun i v => RS_0 (hS.mono (μ' := wI μ (m + 9) i v) ⟨rfl, rfl, rfl, rfl⟩)
  have g1 : ∀ i v, gI (wI μ (m + 9) i v) 307 m = ji l := fun _ _ => hl
  simp (disch := first | assumption | omega) only [RS_0, RS_1, RS_2, RS_3, RS_4, RS_5, RS_6, RS_7, RS_8, RS_9, RS_10, RS_11, RS_12, RS_13, RS_14, RS_15, RS_16, RS_17, RS_18, RS_19, RS_20, RS_21, RS_22, RS_23, RS_24, RS_25, RS_26, RS_27, RS_28, RS_29, RS_30, RS_31, RS_32, RS_33, RS_34, RS_35, RS_36, ji_add, ji_sub, ji_mul, ji_neg, ji_lit0, ji_ofNat, ji_lt, ji_le, ji_eq, ji_nat, ji_in, ji_rem, ji_div, jl_of, xl_lt, xl_gt, xl_eq, qV_at, qI_at, qJ_at, qD_at, qA_at, qA_no, nb0, nb1, cat_r, cat_i, Option.some.injEq, exists_eq_left', true_and, and_true, if_true, if_false, ite_not, not_true_eq_false, not_false_eq_true, Sum.inr.injEq, exists_eq_right', true_or, or_true, and_self, Int.cast_ofNat_Int, reduceCtorEq, or_false, false_or, false_and, and_false, jb_zero, lt7_0, lt7_1, lt7_2, lt7_3, lt7_4, lt7_5, lt7_6, u_X9_put, hl, t0, g1, Value.category, ↓reduceIte, ilt_t, ilt_f, ile_t, ile_f, ieq_t, ieq_f, jb_T, jb_F, jb_t, jb_f]
  refine hK _ ⟨((CH.wI (S := inM m) (CH.refl _ _) _ _ _ (by unfold inM; omega)).sI _ _ _ (by unfold inM; omega)), fun k hk => ?_, gI_sI_at _ _ _ _, fun a i ha => ?_, fun i i0 i1 => ?_⟩
  · rw [gI_sI_k _ _ _ _ _ _ hk]; rfl
  · show aI (wI μ (m + 9) l.toNat (ji v)) a i = _
    rw [aI_wI_a _ _ _ _ _ _ ha]
  · show aI (wI μ (m + 9) l.toNat (ji v)) (m + 9) i.toNat = _
    by_cases e : i = l
    · rw [e, aI_wI_at, zu_at]
    · rw [aI_wI_i _ _ _ _ _ _ (by omega), zu_ne e]
      exact hO i i0 (by omega)
theorem r_writeLoop (hM : MS μ m A) (hi : INV A) {p : Int} (p0 : 0 ≤ p) (p1 : p < A.2.1 1) {nc ns : Nat} (h0 : gI μ 298 m = ji 0) (o0 : OXc y0 μ m (wrB A.2.1 (2666 + 120 * p)) (wrI A.2.2.2.2.2.2.2 A.2.1 (2666 + 120 * p))) (hQ : RP μ m Q (oWrite A p)) : l_X9_write_70 Q X [some (.ref m), some (.int (ji p)), none, some (.int (ji 1)), none] [] y0 nc ns := by
  have hB := hi.1.1.1
  have hz := hB.z
  have hw := hB.1
  have hbz := hB.2.1
  have hpk := hi.1.2.2.1
  have hb := BD_p hB p p0 p1
  have hb1 := hb.1
  have ht := hi.1.1.2 p p0 p1
  have hwb := wrB_b A.2.1 (2666 + 120 * p)
  have e1 : ji 1 = ji (0 + 1) := rfl
  rw [l_X9_write_70, xseal_eq, e1]
  refine imp_loop (fun mf y l => ln_X9_write_70 Q X mf [some (.ref m), some (.int (ji p)), none, some (.int (ji (l + 1))), none] [] y nc ns) (fun l y => OXc y μ m (wrB A.2.1 (2666 + 120 * p) + l) (foldz (wrg A.1.1 A.1.2.1 A.1.2.2.1 A.2.1 (2666 + 120 * p)) 0 l.toNat (wrI A.2.2.2.2.2.2.2 A.2.1 (2666 + 120 * p)))) (A.2.1 (2666 + 120 * p + 6) - 1) (fun mf y hy => ?_) (fun mf y l l0 l1 hy hn => ?_) (A.2.1 (2666 + 120 * p + 6) - 1).toNat 10000 0 y0 (by omega) (by omega) (by omega) (by rw [Int.add_zero]; exact o0)
  · show ln_X9_write_70 Q X (mf + 1) [some (.ref m), some (.int (ji p)), none, some (.int (ji (A.2.1 (2666 + 120 * p + 6) - 1 + 1))), none] [] y nc ns
    have hS1 := hM.1.mono hy.1.1
    have hR1 := hy.rw hM.rw
    have hof := fun Q X j j0 j1 => f_of (Q := Q) (X := X) hS1 hR1 p0 (show p < 25 by omega) (j := j) j0 j1
    have e6 : A.2.1 (2666 + 120 * p + 6) - 1 + 1 = A.2.1 (2666 + 120 * p + 6) := by omega
    have o1 := hy.2.2.1
    have hq : Q (some (.int (ji (wrB A.2.1 (2666 + 120 * p) + (A.2.1 (2666 + 120 * p + 6) - 1))))) y := hQ y hy.1 (hM.outp hy.1.1 hy.2.1 hy.2.2.1 hy.2.2.2.1 hy.2.2.2.2) ((hy.2.1 298 (by omega)).trans h0)
    rw [ul_X9_write_70, e6]
    simp (disch := first | assumption | omega) only [RS_0, RS_1, RS_2, RS_3, RS_4, RS_5, RS_6, RS_7, RS_8, RS_9, RS_10, RS_11, RS_12, RS_13, RS_14, RS_15, RS_16, RS_17, RS_18, RS_19, RS_20, RS_21, RS_22, RS_23, RS_24, RS_25, RS_26, RS_27, RS_28, RS_29, RS_30, RS_31, RS_32, RS_33, RS_34, RS_35, RS_36, ji_add, ji_sub, ji_mul, ji_neg, ji_lit0, ji_ofNat, ji_lt, ji_le, ji_eq, ji_nat, ji_in, ji_rem, ji_div, jl_of, xl_lt, xl_gt, xl_eq, qV_at, qI_at, qJ_at, qD_at, qA_at, qA_no, nb0, nb1, cat_r, cat_i, Option.some.injEq, exists_eq_left', true_and, and_true, if_true, if_false, ite_not, not_true_eq_false, not_false_eq_true, Sum.inr.injEq, exists_eq_right', true_or, or_true, and_self, Int.cast_ofNat_Int, reduceCtorEq, or_false, false_or, false_and, and_false, jb_zero, lt7_0, lt7_1, lt7_2, lt7_3, lt7_4, lt7_5, lt7_6, c_X9_write_1, c_X9_write_2, c_X9_write_3, c_X9_write_4, c_X9_write_5, c_X9_write_6, uj_X9_write_19, c_X9_write_7, c_X9_write_8, c_X9_write_9, c_X9_write_10, c_X9_write_11, c_X9_write_12, c_X9_write_13, c_X9_write_14, hof, o1, ↓reduceIte, ilt_t, ilt_f, ile_t, ile_f, ieq_t, ieq_f, jb_T, jb_F, jb_t, jb_f]
    exact hq
  · show ln_X9_write_70 Q X (mf + 1) [some (.ref m), some (.int (ji p)), none, some (.int (ji (l + 1))), none] [] y nc ns
    have hS1 := hM.1.mono hy.1.1
    have hR1 := hy.rw hM.rw
    have hof := fun Q X j j0 j1 => f_of (Q := Q) (X := X) hS1 hR1 p0 (show p < 25 by omega) (j := j) j0 j1
    have ia := hb.2.2.1 l l0 (by omega)
    have ib := hb.2.2.1 (l + 1) (by omega) (by omega)
    have hxx := ht.2.1 l l0 (by omega)
    obtain ⟨w1, w2, w3, w4⟩ := f_wayTo hS1 hR1 hz ia.1 ia.2 ib.1 (by omega) hxx
    rw [foldz_up _ l0] at hn
    have hwd : wrg A.1.1 A.1.2.1 A.1.2.2.1 A.2.1 (2666 + 120 * p) l (foldz (wrg A.1.1 A.1.2.1 A.1.2.2.1 A.2.1 (2666 + 120 * p)) 0 l.toNat (wrI A.2.2.2.2.2.2.2 A.2.1 (2666 + 120 * p))) = zu (foldz (wrg A.1.1 A.1.2.1 A.1.2.2.1 A.2.1 (2666 + 120 * p)) 0 l.toNat (wrI A.2.2.2.2.2.2.2 A.2.1 (2666 + 120 * p))) (wrB A.2.1 (2666 + 120 * p) + l) (ltr (wto A.1.1 A.1.2.1 A.1.2.2.1 (A.2.1 (2666 + 120 * p + 11 + l)) (A.2.1 (2666 + 120 * p + 11 + (l + 1))))) := rfl
    rw [hwd] at hn
    generalize foldz (wrg A.1.1 A.1.2.1 A.1.2.2.1 A.2.1 (2666 + 120 * p)) 0 l.toNat (wrI A.2.2.2.2.2.2.2 A.2.1 (2666 + 120 * p)) = U at *
    generalize wto A.1.1 A.1.2.1 A.1.2.2.1 (A.2.1 (2666 + 120 * p + 11 + l)) (A.2.1 (2666 + 120 * p + 11 + (l + 1))) = d at *
    have e4 : 2666 + 120 * p + (11 + (l + 1)) = 2666 + 120 * p + 11 + (l + 1) := by omega
    have e5 : 2666 + 120 * p + (11 + (l + 1) - 1) = 2666 + 120 * p + 11 + l := by omega
    have fin : ∀ z, OXc z y m (wrB A.2.1 (2666 + 120 * p) + l + 1) (zu U (wrB A.2.1 (2666 + 120 * p) + l) (ltr d)) → ln_X9_write_70 Q X mf [some (.ref m), some (.int (ji p)), none, some (.int (ji (l + 1 + 1))), none] [] z nc ns := fun z hz => by
      have e8 : wrB A.2.1 (2666 + 120 * p) + l + 1 = wrB A.2.1 (2666 + 120 * p) + (l + 1) := by omega
      rw [e8] at hz
      exact hn z (hz.trans hy)
    have h4 : d = 0 ∨ d = 1 ∨ d = 2 ∨ d = 3 := by omega
    rw [ul_X9_write_70]
    rcases h4 with rfl | rfl | rfl | rfl
    · simp (disch := first | assumption | omega) only [RS_0, RS_1, RS_2, RS_3, RS_4, RS_5, RS_6, RS_7, RS_8, RS_9, RS_10, RS_11, RS_12, RS_13, RS_14, RS_15, RS_16, RS_17, RS_18, RS_19, RS_20, RS_21, RS_22, RS_23, RS_24, RS_25, RS_26, RS_27, RS_28, RS_29, RS_30, RS_31, RS_32, RS_33, RS_34, RS_35, RS_36, ji_add, ji_sub, ji_mul, ji_neg, ji_lit0, ji_ofNat, ji_lt, ji_le, ji_eq, ji_nat, ji_in, ji_rem, ji_div, jl_of, xl_lt, xl_gt, xl_eq, qV_at, qI_at, qJ_at, qD_at, qA_at, qA_no, nb0, nb1, cat_r, cat_i, Option.some.injEq, exists_eq_left', true_and, and_true, if_true, if_false, ite_not, not_true_eq_false, not_false_eq_true, Sum.inr.injEq, exists_eq_right', true_or, or_true, and_self, Int.cast_ofNat_Int, reduceCtorEq, or_false, false_or, false_and, and_false, jb_zero, lt7_0, lt7_1, lt7_2, lt7_3, lt7_4, lt7_5, lt7_6, c_X9_write_1, c_X9_write_2, c_X9_write_3, c_X9_write_4, c_X9_write_5, c_X9_write_6, uj_X9_write_19, c_X9_write_7, c_X9_write_8, c_X9_write_9, c_X9_write_10, c_X9_write_11, c_X9_write_12, c_X9_write_13, c_X9_write_14, hof, e4, e5, w4, ↓reduceIte, ilt_t, ilt_f, ile_t, ile_f, ieq_t, ieq_f, jb_T, jb_F, jb_t, jb_f]
      refine f_put hS1 hy.2.2.1 hy.2.2.2.2 (by omega) (by omega) (fun z hz => ?_)
      simp (disch := first | assumption | omega) only [RS_0, RS_1, RS_2, RS_3, RS_4, RS_5, RS_6, RS_7, RS_8, RS_9, RS_10, RS_11, RS_12, RS_13, RS_14, RS_15, RS_16, RS_17, RS_18, RS_19, RS_20, RS_21, RS_22, RS_23, RS_24, RS_25, RS_26, RS_27, RS_28, RS_29, RS_30, RS_31, RS_32, RS_33, RS_34, RS_35, RS_36, ji_add, ji_sub, ji_mul, ji_neg, ji_lit0, ji_ofNat, ji_lt, ji_le, ji_eq, ji_nat, ji_in, ji_rem, ji_div, jl_of, xl_lt, xl_gt, xl_eq, qV_at, qI_at, qJ_at, qD_at, qA_at, qA_no, nb0, nb1, cat_r, cat_i, Option.some.injEq, exists_eq_left', true_and, and_true, if_true, if_false, ite_not, not_true_eq_false, not_false_eq_true, Sum.inr.injEq, exists_eq_right', true_or, or_true, and_self, Int.cast_ofNat_Int, reduceCtorEq, or_false, false_or, false_and, and_false, jb_zero, lt7_0, lt7_1, lt7_2, lt7_3, lt7_4, lt7_5, lt7_6, c_X9_write_1, c_X9_write_2, c_X9_write_3, c_X9_write_4, c_X9_write_5, c_X9_write_6, uj_X9_write_19, c_X9_write_7, c_X9_write_8, c_X9_write_9, c_X9_write_10, c_X9_write_11, c_X9_write_12, c_X9_write_13, c_X9_write_14, ↓reduceIte, ilt_t, ilt_f, ile_t, ile_f, ieq_t, ieq_f, jb_T, jb_F, jb_t, jb_f]
      exact fin z hz
    · simp (disch := first | assumption | omega) only [RS_0, RS_1, RS_2, RS_3, RS_4, RS_5, RS_6, RS_7, RS_8, RS_9, RS_10, RS_11, RS_12, RS_13, RS_14, RS_15, RS_16, RS_17, RS_18, RS_19, RS_20, RS_21, RS_22, RS_23, RS_24, RS_25, RS_26, RS_27, RS_28, RS_29, RS_30, RS_31, RS_32, RS_33, RS_34, RS_35, RS_36, ji_add, ji_sub, ji_mul, ji_neg, ji_lit0, ji_ofNat, ji_lt, ji_le, ji_eq, ji_nat, ji_in, ji_rem, ji_div, jl_of, xl_lt, xl_gt, xl_eq, qV_at, qI_at, qJ_at, qD_at, qA_at, qA_no, nb0, nb1, cat_r, cat_i, Option.some.injEq, exists_eq_left', true_and, and_true, if_true, if_false, ite_not, not_true_eq_false, not_false_eq_true, Sum.inr.injEq, exists_eq_right', true_or, or_true, and_self, Int.cast_ofNat_Int, reduceCtorEq, or_false, false_or, false_and, and_false, jb_zero, lt7_0, lt7_1, lt7_2, lt7_3, lt7_4, lt7_5, lt7_6, c_X9_write_1, c_X9_write_2, c_X9_write_3, c_X9_write_4, c_X9_write_5, c_X9_write_6, uj_X9_write_19, c_X9_write_7, c_X9_write_8, c_X9_write_9, c_X9_write_10, c_X9_write_11, c_X9_write_12, c_X9_write_13, c_X9_write_14, hof, e4, e5, w4, ↓reduceIte, ilt_t, ilt_f, ile_t, ile_f, ieq_t, ieq_f, jb_T, jb_F, jb_t, jb_f]
      refine f_put hS1 hy.2.2.1 hy.2.2.2.2 (by omega) (by omega) (fun z hz => ?_)
      simp (disch := first | assumption | omega) only [RS_0, RS_1, RS_2, RS_3, RS_4, RS_5, RS_6, RS_7, RS_8, RS_9, RS_10, RS_11, RS_12, RS_13, RS_14, RS_15, RS_16, RS_17, RS_18, RS_19, RS_20, RS_21, RS_22, RS_23, RS_24, RS_25, RS_26, RS_27, RS_28, RS_29, RS_30, RS_31, RS_32, RS_33, RS_34, RS_35, RS_36, ji_add, ji_sub, ji_mul, ji_neg, ji_lit0, ji_ofNat, ji_lt, ji_le, ji_eq, ji_nat, ji_in, ji_rem, ji_div, jl_of, xl_lt, xl_gt, xl_eq, qV_at, qI_at, qJ_at, qD_at, qA_at, qA_no, nb0, nb1, cat_r, cat_i, Option.some.injEq, exists_eq_left', true_and, and_true, if_true, if_false, ite_not, not_true_eq_false, not_false_eq_true, Sum.inr.injEq, exists_eq_right', true_or, or_true, and_self, Int.cast_ofNat_Int, reduceCtorEq, or_false, false_or, false_and, and_false, jb_zero, lt7_0, lt7_1, lt7_2, lt7_3, lt7_4, lt7_5, lt7_6, c_X9_write_1, c_X9_write_2, c_X9_write_3, c_X9_write_4, c_X9_write_5, c_X9_write_6, uj_X9_write_19, c_X9_write_7, c_X9_write_8, c_X9_write_9, c_X9_write_10, c_X9_write_11, c_X9_write_12, c_X9_write_13, c_X9_write_14, ↓reduceIte, ilt_t, ilt_f, ile_t, ile_f, ieq_t, ieq_f, jb_T, jb_F, jb_t, jb_f]
      exact fin z hz
    · simp (disch := first | assumption | omega) only [RS_0, RS_1, RS_2, RS_3, RS_4, RS_5, RS_6, RS_7, RS_8, RS_9, RS_10, RS_11, RS_12, RS_13, RS_14, RS_15, RS_16, RS_17, RS_18, RS_19, RS_20, RS_21, RS_22, RS_23, RS_24, RS_25, RS_26, RS_27, RS_28, RS_29, RS_30, RS_31, RS_32, RS_33, RS_34, RS_35, RS_36, ji_add, ji_sub, ji_mul, ji_neg, ji_lit0, ji_ofNat, ji_lt, ji_le, ji_eq, ji_nat, ji_in, ji_rem, ji_div, jl_of, xl_lt, xl_gt, xl_eq, qV_at, qI_at, qJ_at, qD_at, qA_at, qA_no, nb0, nb1, cat_r, cat_i, Option.some.injEq, exists_eq_left', true_and, and_true, if_true, if_false, ite_not, not_true_eq_false, not_false_eq_true, Sum.inr.injEq, exists_eq_right', true_or, or_true, and_self, Int.cast_ofNat_Int, reduceCtorEq, or_false, false_or, false_and, and_false, jb_zero, lt7_0, lt7_1, lt7_2, lt7_3, lt7_4, lt7_5, lt7_6, c_X9_write_1, c_X9_write_2, c_X9_write_3, c_X9_write_4, c_X9_write_5, c_X9_write_6, uj_X9_write_19, c_X9_write_7, c_X9_write_8, c_X9_write_9, c_X9_write_10, c_X9_write_11, c_X9_write_12, c_X9_write_13, c_X9_write_14, hof, e4, e5, w4, ↓reduceIte, ilt_t, ilt_f, ile_t, ile_f, ieq_t, ieq_f, jb_T, jb_F, jb_t, jb_f]
      refine f_put hS1 hy.2.2.1 hy.2.2.2.2 (by omega) (by omega) (fun z hz => ?_)
      simp (disch := first | assumption | omega) only [RS_0, RS_1, RS_2, RS_3, RS_4, RS_5, RS_6, RS_7, RS_8, RS_9, RS_10, RS_11, RS_12, RS_13, RS_14, RS_15, RS_16, RS_17, RS_18, RS_19, RS_20, RS_21, RS_22, RS_23, RS_24, RS_25, RS_26, RS_27, RS_28, RS_29, RS_30, RS_31, RS_32, RS_33, RS_34, RS_35, RS_36, ji_add, ji_sub, ji_mul, ji_neg, ji_lit0, ji_ofNat, ji_lt, ji_le, ji_eq, ji_nat, ji_in, ji_rem, ji_div, jl_of, xl_lt, xl_gt, xl_eq, qV_at, qI_at, qJ_at, qD_at, qA_at, qA_no, nb0, nb1, cat_r, cat_i, Option.some.injEq, exists_eq_left', true_and, and_true, if_true, if_false, ite_not, not_true_eq_false, not_false_eq_true, Sum.inr.injEq, exists_eq_right', true_or, or_true, and_self, Int.cast_ofNat_Int, reduceCtorEq, or_false, false_or, false_and, and_false, jb_zero, lt7_0, lt7_1, lt7_2, lt7_3, lt7_4, lt7_5, lt7_6, c_X9_write_1, c_X9_write_2, c_X9_write_3, c_X9_write_4, c_X9_write_5, c_X9_write_6, uj_X9_write_19, c_X9_write_7, c_X9_write_8, c_X9_write_9, c_X9_write_10, c_X9_write_11, c_X9_write_12, c_X9_write_13, c_X9_write_14, ↓reduceIte, ilt_t, ilt_f, ile_t, ile_f, ieq_t, ieq_f, jb_T, jb_F, jb_t, jb_f]
      exact fin z hz
    · simp (disch := first | assumption | omega) only [RS_0, RS_1, RS_2, RS_3, RS_4, RS_5, RS_6, RS_7, RS_8, RS_9, RS_10, RS_11, RS_12, RS_13, RS_14, RS_15, RS_16, RS_17, RS_18, RS_19, RS_20, RS_21, RS_22, RS_23, RS_24, RS_25, RS_26, RS_27, RS_28, RS_29, RS_30, RS_31, RS_32, RS_33, RS_34, RS_35, RS_36, ji_add, ji_sub, ji_mul, ji_neg, ji_lit0, ji_ofNat, ji_lt, ji_le, ji_eq, ji_nat, ji_in, ji_rem, ji_div, jl_of, xl_lt, xl_gt, xl_eq, qV_at, qI_at, qJ_at, qD_at, qA_at, qA_no, nb0, nb1, cat_r, cat_i, Option.some.injEq, exists_eq_left', true_and, and_true, if_true, if_false, ite_not, not_true_eq_false, not_false_eq_true, Sum.inr.injEq, exists_eq_right', true_or, or_true, and_self, Int.cast_ofNat_Int, reduceCtorEq, or_false, false_or, false_and, and_false, jb_zero, lt7_0, lt7_1, lt7_2, lt7_3, lt7_4, lt7_5, lt7_6, c_X9_write_1, c_X9_write_2, c_X9_write_3, c_X9_write_4, c_X9_write_5, c_X9_write_6, uj_X9_write_19, c_X9_write_7, c_X9_write_8, c_X9_write_9, c_X9_write_10, c_X9_write_11, c_X9_write_12, c_X9_write_13, c_X9_write_14, hof, e4, e5, w4, ↓reduceIte, ilt_t, ilt_f, ile_t, ile_f, ieq_t, ieq_f, jb_T, jb_F, jb_t, jb_f]
      refine f_put hS1 hy.2.2.1 hy.2.2.2.2 (by omega) (by omega) (fun z hz => ?_)
      simp (disch := first | assumption | omega) only [RS_0, RS_1, RS_2, RS_3, RS_4, RS_5, RS_6, RS_7, RS_8, RS_9, RS_10, RS_11, RS_12, RS_13, RS_14, RS_15, RS_16, RS_17, RS_18, RS_19, RS_20, RS_21, RS_22, RS_23, RS_24, RS_25, RS_26, RS_27, RS_28, RS_29, RS_30, RS_31, RS_32, RS_33, RS_34, RS_35, RS_36, ji_add, ji_sub, ji_mul, ji_neg, ji_lit0, ji_ofNat, ji_lt, ji_le, ji_eq, ji_nat, ji_in, ji_rem, ji_div, jl_of, xl_lt, xl_gt, xl_eq, qV_at, qI_at, qJ_at, qD_at, qA_at, qA_no, nb0, nb1, cat_r, cat_i, Option.some.injEq, exists_eq_left', true_and, and_true, if_true, if_false, ite_not, not_true_eq_false, not_false_eq_true, Sum.inr.injEq, exists_eq_right', true_or, or_true, and_self, Int.cast_ofNat_Int, reduceCtorEq, or_false, false_or, false_and, and_false, jb_zero, lt7_0, lt7_1, lt7_2, lt7_3, lt7_4, lt7_5, lt7_6, c_X9_write_1, c_X9_write_2, c_X9_write_3, c_X9_write_4, c_X9_write_5, c_X9_write_6, uj_X9_write_19, c_X9_write_7, c_X9_write_8, c_X9_write_9, c_X9_write_10, c_X9_write_11, c_X9_write_12, c_X9_write_13, c_X9_write_14, ↓reduceIte, ilt_t, ilt_f, ile_t, ile_f, ieq_t, ieq_f, jb_T, jb_F, jb_t, jb_f]
      exact fin z hz
theorem RP.c {μ ν : XM} {r : AR} (hQ : RP μ m Q r) (c : CH (inM m) ν μ) : RP ν m Q r := fun y y1 y2 y3 => hQ y (y1.trans c) y2 y3
theorem r_write (hM : MS μ m A) (hi : INV A) {p : Int} (n1 : -2147483648 ≤ p) (n2 : p < 2147483648) (hQ : RQ μ m Q (xWrite A p)) : s_X9_write μ [.ref m, .int (ji p)] Q X := by
  have hS := hM.1
  have hB := hi.1.1.1
  have hz := hB.z
  have hw := hB.1
  have hbz := hB.2.1
  rw [u_X9_write]
  refine ⟨RS_0 hS, ?_⟩
  obtain ⟨hS1, hR1, hM1, h0, c⟩ := hM.nul hi
  generalize sI μ 298 m (ji 0) = ν at *
  unfold xWrite op1 at hQ
  by_cases hn : 0 ≤ p ∧ p < A.2.1 1
  · rw [if_pos hn] at hQ
    have hP := (hQ.p rfl).c c
    have hpk := hi.1.2.2.1
    have hb1 := (BD_p hB p hn.1 hn.2).1
    have o0 : OXc (sI ν 307 m (ji 0)) ν m 0 A.2.2.2.2.2.2.2 := ⟨(CH.refl _ _).sI _ _ _ (by unfold inM; omega), fun k hk => gI_sI_k _ _ _ _ _ _ hk, gI_sI_at _ _ _ _, fun _ _ _ => rfl, fun i i0 i1 => by omega⟩
    have hS2 := hS1.mono o0.1.1
    have hR2 := o0.rw hR1
    have hof := fun Q X => f_of (Q := Q) (X := X) hS2 hR2 hn.1 (show p < 25 by omega) (j := 0) (by omega) (by omega)
    by_cases h10 : 10 ≤ A.2.1 (2666 + 120 * p)
    · simp (disch := first | assumption | omega) only [RS_0, RS_1, RS_2, RS_3, RS_4, RS_5, RS_6, RS_7, RS_8, RS_9, RS_10, RS_11, RS_12, RS_13, RS_14, RS_15, RS_16, RS_17, RS_18, RS_19, RS_20, RS_21, RS_22, RS_23, RS_24, RS_25, RS_26, RS_27, RS_28, RS_29, RS_30, RS_31, RS_32, RS_33, RS_34, RS_35, RS_36, ji_add, ji_sub, ji_mul, ji_neg, ji_lit0, ji_ofNat, ji_lt, ji_le, ji_eq, ji_nat, ji_in, ji_rem, ji_div, jl_of, xl_lt, xl_gt, xl_eq, qV_at, qI_at, qJ_at, qD_at, qA_at, qA_no, nb0, nb1, cat_r, cat_i, Option.some.injEq, exists_eq_left', true_and, and_true, if_true, if_false, ite_not, not_true_eq_false, not_false_eq_true, Sum.inr.injEq, exists_eq_right', true_or, or_true, and_self, Int.cast_ofNat_Int, reduceCtorEq, or_false, false_or, false_and, and_false, jb_zero, lt7_0, lt7_1, lt7_2, lt7_3, lt7_4, lt7_5, lt7_6, uj_X9_write_19, c_X9_write_1, c_X9_write_4, c_X9_write_5, c_X9_write_6, g_isPacket hS1 hR1 hi, hn, g_t0 hS1, hof, Int.add_zero, ↓reduceIte, ilt_t, ilt_f, ile_t, ile_f, ieq_t, ieq_f, jb_T, jb_F, jb_t, jb_f]
      refine f_put hS2 o0.2.2.1 o0.2.2.2.2 (by omega) (by omega) (fun z hz => ?_)
      have hS3 := hS2.mono hz.1.1
      simp (disch := first | assumption | omega) only [RS_0, RS_1, RS_2, RS_3, RS_4, RS_5, RS_6, RS_7, RS_8, RS_9, RS_10, RS_11, RS_12, RS_13, RS_14, RS_15, RS_16, RS_17, RS_18, RS_19, RS_20, RS_21, RS_22, RS_23, RS_24, RS_25, RS_26, RS_27, RS_28, RS_29, RS_30, RS_31, RS_32, RS_33, RS_34, RS_35, RS_36, ji_add, ji_sub, ji_mul, ji_neg, ji_lit0, ji_ofNat, ji_lt, ji_le, ji_eq, ji_nat, ji_in, ji_rem, ji_div, jl_of, xl_lt, xl_gt, xl_eq, qV_at, qI_at, qJ_at, qD_at, qA_at, qA_no, nb0, nb1, cat_r, cat_i, Option.some.injEq, exists_eq_left', true_and, and_true, if_true, if_false, ite_not, not_true_eq_false, not_false_eq_true, Sum.inr.injEq, exists_eq_right', true_or, or_true, and_self, Int.cast_ofNat_Int, reduceCtorEq, or_false, false_or, false_and, and_false, jb_zero, lt7_0, lt7_1, lt7_2, lt7_3, lt7_4, lt7_5, lt7_6, c_X9_write_4, c_X9_write_3, ↓reduceIte, ilt_t, ilt_f, ile_t, ile_f, ieq_t, ieq_f, jb_T, jb_F, jb_t, jb_f]
      refine f_put hS3 hz.2.2.1 hz.2.2.2.2 (by omega) (by omega) (fun y hy => ?_)
      simp (disch := first | assumption | omega) only [RS_0, RS_1, RS_2, RS_3, RS_4, RS_5, RS_6, RS_7, RS_8, RS_9, RS_10, RS_11, RS_12, RS_13, RS_14, RS_15, RS_16, RS_17, RS_18, RS_19, RS_20, RS_21, RS_22, RS_23, RS_24, RS_25, RS_26, RS_27, RS_28, RS_29, RS_30, RS_31, RS_32, RS_33, RS_34, RS_35, RS_36, ji_add, ji_sub, ji_mul, ji_neg, ji_lit0, ji_ofNat, ji_lt, ji_le, ji_eq, ji_nat, ji_in, ji_rem, ji_div, jl_of, xl_lt, xl_gt, xl_eq, qV_at, qI_at, qJ_at, qD_at, qA_at, qA_no, nb0, nb1, cat_r, cat_i, Option.some.injEq, exists_eq_left', true_and, and_true, if_true, if_false, ite_not, not_true_eq_false, not_false_eq_true, Sum.inr.injEq, exists_eq_right', true_or, or_true, and_self, Int.cast_ofNat_Int, reduceCtorEq, or_false, false_or, false_and, and_false, jb_zero, lt7_0, lt7_1, lt7_2, lt7_3, lt7_4, lt7_5, lt7_6, c_X9_write_4, c_X9_write_3, ↓reduceIte, ilt_t, ilt_f, ile_t, ile_f, ieq_t, ieq_f, jb_T, jb_F, jb_t, jb_f]
      have e : wrB A.2.1 (2666 + 120 * p) = 0 + 1 + 1 := if_pos h10
      have e' : wrI A.2.2.2.2.2.2.2 A.2.1 (2666 + 120 * p) = zu (zu A.2.2.2.2.2.2.2 0 (48 + A.2.1 (2666 + 120 * p) / 10)) (0 + 1) (48 + A.2.1 (2666 + 120 * p) % 10) := if_pos h10
      refine r_writeLoop hM1 hi hn.1 hn.2 h0 ?_ hP
      rw [e, e']
      exact hy.trans (hz.trans o0)
    · simp (disch := first | assumption | omega) only [RS_0, RS_1, RS_2, RS_3, RS_4, RS_5, RS_6, RS_7, RS_8, RS_9, RS_10, RS_11, RS_12, RS_13, RS_14, RS_15, RS_16, RS_17, RS_18, RS_19, RS_20, RS_21, RS_22, RS_23, RS_24, RS_25, RS_26, RS_27, RS_28, RS_29, RS_30, RS_31, RS_32, RS_33, RS_34, RS_35, RS_36, ji_add, ji_sub, ji_mul, ji_neg, ji_lit0, ji_ofNat, ji_lt, ji_le, ji_eq, ji_nat, ji_in, ji_rem, ji_div, jl_of, xl_lt, xl_gt, xl_eq, qV_at, qI_at, qJ_at, qD_at, qA_at, qA_no, nb0, nb1, cat_r, cat_i, Option.some.injEq, exists_eq_left', true_and, and_true, if_true, if_false, ite_not, not_true_eq_false, not_false_eq_true, Sum.inr.injEq, exists_eq_right', true_or, or_true, and_self, Int.cast_ofNat_Int, reduceCtorEq, or_false, false_or, false_and, and_false, jb_zero, lt7_0, lt7_1, lt7_2, lt7_3, lt7_4, lt7_5, lt7_6, uj_X9_write_19, c_X9_write_1, c_X9_write_2, c_X9_write_5, c_X9_write_6, g_isPacket hS1 hR1 hi, hn, g_t0 hS1, hof, Int.add_zero, ↓reduceIte, ilt_t, ilt_f, ile_t, ile_f, ieq_t, ieq_f, jb_T, jb_F, jb_t, jb_f]
      refine f_put hS2 o0.2.2.1 o0.2.2.2.2 (by omega) (by omega) (fun y hy => ?_)
      simp (disch := first | assumption | omega) only [RS_0, RS_1, RS_2, RS_3, RS_4, RS_5, RS_6, RS_7, RS_8, RS_9, RS_10, RS_11, RS_12, RS_13, RS_14, RS_15, RS_16, RS_17, RS_18, RS_19, RS_20, RS_21, RS_22, RS_23, RS_24, RS_25, RS_26, RS_27, RS_28, RS_29, RS_30, RS_31, RS_32, RS_33, RS_34, RS_35, RS_36, ji_add, ji_sub, ji_mul, ji_neg, ji_lit0, ji_ofNat, ji_lt, ji_le, ji_eq, ji_nat, ji_in, ji_rem, ji_div, jl_of, xl_lt, xl_gt, xl_eq, qV_at, qI_at, qJ_at, qD_at, qA_at, qA_no, nb0, nb1, cat_r, cat_i, Option.some.injEq, exists_eq_left', true_and, and_true, if_true, if_false, ite_not, not_true_eq_false, not_false_eq_true, Sum.inr.injEq, exists_eq_right', true_or, or_true, and_self, Int.cast_ofNat_Int, reduceCtorEq, or_false, false_or, false_and, and_false, jb_zero, lt7_0, lt7_1, lt7_2, lt7_3, lt7_4, lt7_5, lt7_6, c_X9_write_2, ↓reduceIte, ilt_t, ilt_f, ile_t, ile_f, ieq_t, ieq_f, jb_T, jb_F, jb_t, jb_f]
      have e : wrB A.2.1 (2666 + 120 * p) = 0 + 1 := if_neg h10
      have e' : wrI A.2.2.2.2.2.2.2 A.2.1 (2666 + 120 * p) = zu A.2.2.2.2.2.2.2 0 (48 + A.2.1 (2666 + 120 * p) % 10) := if_neg h10
      refine r_writeLoop hM1 hi hn.1 hn.2 h0 ?_ hP
      rw [e, e']
      exact hy.trans o0
  · rw [if_neg hn] at hQ
    simp (disch := first | assumption | omega) only [RS_0, RS_1, RS_2, RS_3, RS_4, RS_5, RS_6, RS_7, RS_8, RS_9, RS_10, RS_11, RS_12, RS_13, RS_14, RS_15, RS_16, RS_17, RS_18, RS_19, RS_20, RS_21, RS_22, RS_23, RS_24, RS_25, RS_26, RS_27, RS_28, RS_29, RS_30, RS_31, RS_32, RS_33, RS_34, RS_35, RS_36, ji_add, ji_sub, ji_mul, ji_neg, ji_lit0, ji_ofNat, ji_lt, ji_le, ji_eq, ji_nat, ji_in, ji_rem, ji_div, jl_of, xl_lt, xl_gt, xl_eq, qV_at, qI_at, qJ_at, qD_at, qA_at, qA_no, nb0, nb1, cat_r, cat_i, Option.some.injEq, exists_eq_left', true_and, and_true, if_true, if_false, ite_not, not_true_eq_false, not_false_eq_true, Sum.inr.injEq, exists_eq_right', true_or, or_true, and_self, Int.cast_ofNat_Int, reduceCtorEq, or_false, false_or, false_and, and_false, jb_zero, lt7_0, lt7_1, lt7_2, lt7_3, lt7_4, lt7_5, lt7_6, uj_X9_write_19, c_X9_write_1, c_X9_write_6, g_isPacket hS1 hR1 hi, jb_eqf hn, g_t1 hS1, ↓reduceIte, ilt_t, ilt_f, ile_t, ile_f, ieq_t, ieq_f, jb_T, jb_F, jb_t, jb_f]
    exact hQ.x (by decide) c hM1 _
end
