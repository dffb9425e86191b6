/-! ===== the reference: undo, snapshots, forecasts ===== -/
section
variable {μ μ' : XM} {m : Nat} {Q : XQ} {X : XX} {A : AS} {F : Nat → Int} {Z Y : Int → Int} {w h N s : Int} {C : Nat → Prop}
theorem r_undo (hM : MS μ m A) (hi : INV A) (hQ : RP μ m Q (oUndo A)) : s_X9_undo μ [.ref m] Q X := by
  have hS := hM.1
  obtain ⟨F, hF, hR, e, -⟩ := hM.get
  rw [← e]
  have hn := hi.2.1
  have n4 := hF.2.2.2
  unfold oUndo at hQ
  have g1 : fu F 298 0 291 = A.2.2.1.1 := n4.1
  by_cases h1 : A.2.2.1.1 = 0
  · rw [if_pos h1] at hQ
    rw [h1] at g1
    simp (disch := first | assumption | omega) only [RS_0, RS_1, RS_2, RS_3, RS_4, RS_5, RS_6, RS_7, RS_8, RS_9, RS_10, RS_11, RS_12, RS_13, RS_14, RS_15, RS_16, RS_17, RS_18, RS_19, RS_20, RS_21, RS_22, RS_23, RS_24, RS_25, RS_26, RS_27, RS_28, RS_29, RS_30, RS_31, RS_32, RS_33, RS_34, RS_35, RS_36, ji_add, ji_sub, ji_mul, ji_neg, ji_lit0, ji_ofNat, ji_lt, ji_le, ji_eq, ji_nat, ji_in, ji_rem, ji_div, jl_of, xl_lt, xl_gt, xl_eq, qV_at, qI_at, qJ_at, qD_at, qA_at, qA_no, nb0, nb1, cat_r, cat_i, Option.some.injEq, exists_eq_left', true_and, and_true, if_true, if_false, ite_not, not_true_eq_false, not_false_eq_true, Sum.inr.injEq, exists_eq_right', true_or, or_true, and_self, Int.cast_ofNat_Int, reduceCtorEq, or_false, false_or, false_and, and_false, jb_zero, lt7_0, lt7_1, lt7_2, lt7_3, lt7_4, lt7_5, lt7_6, c_X9_undo_1, u_X9_undo, g1, pz_tg, pz_ln, pz_gI, pz_gL, pz_gR, pz_aR, pz_aL, pz_aD, pzf_w, pzf_g, pf_w, pf_tg, pf_ln, pf_gR, pf_aI, pf_aR, pf_gL, pz_w, ↓reduceIte, ilt_t, ilt_f, ile_t, ile_f, ieq_t, ieq_f, jb_T, jb_F, jb_t, jb_f]
    exact RP.stay (F := fu F 298 0) hS hF hR (fu_at _ _ _) hQ
  · rw [if_neg h1] at hQ
    have g2 : ∀ v, fu (fu F 298 0) 291 v 290 = F 290 := fun _ => rfl
    have g3 : ∀ v, fu (fu F 298 0) 291 v 291 = v := fun _ => rfl
    have hc := fun Q X => f_copyFrom (Q := Q) (X := X) (μ := pf μ m (fu (fu F 298 0) 291 (A.2.2.1.1 - 1))) (m := m) (Z := A.2.1) (Y := A.2.2.1.2 (A.2.2.1.1 - 1)) (b := 3 + (F 290 + (A.2.2.1.1 - 1)) % 12) (RS_pf hS _) (by omega) (by omega) (fun i i0 i1 => by
      rw [pf_aI]; exact hR.1 (A.2.2.1.1 - 1) (by omega) (by omega) i i0 i1)
    simp (disch := first | assumption | omega) only [RS_0, RS_1, RS_2, RS_3, RS_4, RS_5, RS_6, RS_7, RS_8, RS_9, RS_10, RS_11, RS_12, RS_13, RS_14, RS_15, RS_16, RS_17, RS_18, RS_19, RS_20, RS_21, RS_22, RS_23, RS_24, RS_25, RS_26, RS_27, RS_28, RS_29, RS_30, RS_31, RS_32, RS_33, RS_34, RS_35, RS_36, ji_add, ji_sub, ji_mul, ji_neg, ji_lit0, ji_ofNat, ji_lt, ji_le, ji_eq, ji_nat, ji_in, ji_rem, ji_div, jl_of, xl_lt, xl_gt, xl_eq, qV_at, qI_at, qJ_at, qD_at, qA_at, qA_no, nb0, nb1, cat_r, cat_i, Option.some.injEq, exists_eq_left', true_and, and_true, if_true, if_false, ite_not, not_true_eq_false, not_false_eq_true, Sum.inr.injEq, exists_eq_right', true_or, or_true, and_self, Int.cast_ofNat_Int, reduceCtorEq, or_false, false_or, false_and, and_false, jb_zero, lt7_0, lt7_1, lt7_2, lt7_3, lt7_4, lt7_5, lt7_6, c_X9_undo_1, u_X9_undo, g1, g2, g3, hc, Value.category, pz_tg, pz_ln, pz_gI, pz_gL, pz_gR, pz_aR, pz_aL, pz_aD, pzf_w, pzf_g, pf_w, pf_tg, pf_ln, pf_gR, pf_aI, pf_aR, pf_gL, pz_w, ↓reduceIte, ilt_t, ilt_f, ile_t, ile_f, ieq_t, ieq_f, jb_T, jb_F, jb_t, jb_f]
    refine hQ _ CH.all0 (MS.mk (A := (A.1, A.2.2.1.2 (A.2.2.1.1 - 1), (A.2.2.1.1 - 1, A.2.2.1.2), A.2.2.2)) hS ?_ ?_) (pzf_g.trans rfl)
    · obtain ⟨q1, q2, q3, q4, q5⟩ := hF
      exact ⟨q1, q2, q3, rfl, q5⟩
    · obtain ⟨q1, q2⟩ := hR
      exact ⟨fun j j0 j1 => q1 j j0 (by simp only at j1; omega), q2⟩
theorem r_save (hM : MS μ m A) (hi : INV A) {p : Int} (a0 : -2147483648 ≤ p) (a1 : p < 2147483648) (hQ : RP μ m Q (oSave A p)) : s_X9_saveSnapshot μ [.ref m, .int (ji p)] Q X := by
  have hS := hM.1
  obtain ⟨F, hF, hR, e, -⟩ := hM.get
  rw [← e]
  unfold oSave at hQ
  by_cases h1 : 0 ≤ p ∧ p < 2
  · rw [if_pos h1] at hQ
    have h2 : 0 ≤ p ∧ p ≤ 1 := by omega
    have hc := fun Q X => f_copyTo (Q := Q) (X := X) (μ := pf μ m (fu F 298 0)) (m := m) (Z := A.2.1) (b := 1 + p) (RS_pf hS _) (by omega) (by omega)
    simp only [pb_pf] at hc
    have hS' := RS_pb hS (1 + p) A.2.1
    simp (disch := first | assumption | omega) only [RS_0, RS_1, RS_2, RS_3, RS_4, RS_5, RS_6, RS_7, RS_8, RS_9, RS_10, RS_11, RS_12, RS_13, RS_14, RS_15, RS_16, RS_17, RS_18, RS_19, RS_20, RS_21, RS_22, RS_23, RS_24, RS_25, RS_26, RS_27, RS_28, RS_29, RS_30, RS_31, RS_32, RS_33, RS_34, RS_35, RS_36, ji_add, ji_sub, ji_mul, ji_neg, ji_lit0, ji_ofNat, ji_lt, ji_le, ji_eq, ji_nat, ji_in, ji_rem, ji_div, jl_of, xl_lt, xl_gt, xl_eq, qV_at, qI_at, qJ_at, qD_at, qA_at, qA_no, nb0, nb1, cat_r, cat_i, Option.some.injEq, exists_eq_left', true_and, and_true, if_true, if_false, ite_not, not_true_eq_false, not_false_eq_true, Sum.inr.injEq, exists_eq_right', true_or, or_true, and_self, Int.cast_ofNat_Int, reduceCtorEq, or_false, false_or, false_and, and_false, jb_zero, lt7_0, lt7_1, lt7_2, lt7_3, lt7_4, lt7_5, lt7_6, c_X9_saveSnapshot_1, c_X9_saveSnapshot_2, u_X9_saveSnapshot, f_inRange, h2, hc, nar1, nb1, pz_tg, pz_ln, pz_gI, pz_gL, pz_gR, pz_aR, pz_aL, pz_aD, pzf_w, pzf_g, pf_w, pf_tg, pf_ln, pf_gR, pf_aI, pf_aR, pf_gL, pz_w, ↓reduceIte, ilt_t, ilt_f, ile_t, ile_f, ieq_t, ieq_f, jb_T, jb_F, jb_t, jb_f]
    refine Or.inl ?_
    have c : CH (inM m) (wI (pz (pf (pb μ m (1 + p) A.2.1) m (fu F 298 0)) m A.2.1) (m + 2) p.toNat (ji 1)) (pz (pf μ m F) m A.2.1) := by
      rw [e]
      exact (CH.all).wI _ _ _ (by unfold inM; omega)
    have g298 : gI (wI (pz (pf (pb μ m (1 + p) A.2.1) m (fu F 298 0)) m A.2.1) (m + 2) p.toNat (ji 1)) 298 m = ji 0 := (pzf_g (μ := pb μ m (1 + p) A.2.1) (m := m) (k := 298) (F := fu F 298 0) (Z := A.2.1)).trans (by rw [fu_at])
    refine hQ _ (by rw [e] at c; exact c) ?_ g298
    obtain ⟨q1, ⟨q2, q3, q4⟩, q5, q6⟩ := hR
    have base := MS.mk (μ := wI (pb μ m (1 + p) A.2.1) (m + 2) p.toNat (ji 1)) (m := m) (F := fu F 298 0) (A := (A.1, A.2.1, A.2.2.1, ((fun q => if q = p then true else A.2.2.2.1.1 q), (fun q => if q = p then A.2.1 else A.2.2.2.1.2 q)), A.2.2.2.2)) (hS'.mono ⟨rfl, rfl, rfl, rfl⟩) hF ?_
    · have ee : wI (pz (pf (pb μ m (1 + p) A.2.1) m (fu F 298 0)) m A.2.1) (m + 2) p.toNat (ji 1) = pz (pf (wI (pb μ m (1 + p) A.2.1) (m + 2) p.toNat (ji 1)) m (fu F 298 0)) m A.2.1 := by
        refine wr_ext rfl (fun a i => ?_)
        show (if a = m + 2 ∧ i = p.toNat then ji 1 else if a = m + 1 ∧ i < 5666 then ji (A.2.1 i) else aI (pb μ m (1 + p) A.2.1) a i) = if a = m + 1 ∧ i < 5666 then ji (A.2.1 i) else if a = m + 2 ∧ i = p.toNat then ji 1 else aI (pb μ m (1 + p) A.2.1) a i
        by_cases z1 : a = m + 1 ∧ i < 5666
        · rw [if_neg (by omega), if_pos z1, if_pos z1]
        · rw [if_neg z1, if_neg z1]
      rw [ee]
      exact base
    · have o1 : ∀ j, 0 ≤ j → (j < 5666 * (1 + p) ∨ 5666 * (1 + p) + 5666 ≤ j) → aI (wI (pb μ m (1 + p) A.2.1) (m + 2) p.toNat (ji 1)) (m + 1) j.toNat = aI μ (m + 1) j.toNat := fun j j0 hj => by
        rw [aI_wI_a _ _ _ _ _ _ (by omega)]
        exact wr_out j0 (by omega)
      have o2 : ∀ a i, a ≠ m + 1 → (a ≠ m + 2 ∨ i ≠ p.toNat) → aI (wI (pb μ m (1 + p) A.2.1) (m + 2) p.toNat (ji 1)) a i = aI μ a i := fun a i ha hi => by
        rcases hi with hi | hi
        · rw [aI_wI_a _ _ _ _ _ _ hi]; exact wr_a ha
        · rw [aI_wI_i _ _ _ _ _ _ hi]; exact wr_a ha
      refine ⟨fun j j0 j1 i i0 i1 => ?_, ⟨?_, ?_, fun q p0 p1 hp i i0 i1 => ?_⟩, fun i i0 i1 => ?_, fun i i0 i1 => ?_⟩
      · have f5 := hF.2.2.2.2
        show aI _ (m + 1) (5666 * (3 + (F 290 + j) % 12) + i).toNat = ji (A.2.2.1.2 j i)
        rw [o1 _ (by omega) (by omega)]
        exact q1 j j0 j1 i i0 i1
      · show aI _ (m + 2) 0 = ji (if (if (0 : Int) = p then true else A.2.2.2.1.1 0) = true then 1 else 0)
        by_cases hp : p = 0
        · subst hp
          rw [if_pos rfl, if_pos rfl]
          exact aI_wI_at _ _ _ _
        · rw [show (if (0 : Int) = p then true else A.2.2.2.1.1 0) = A.2.2.2.1.1 0 from if_neg (fun q => hp q.symm), o2 _ _ (by omega) (Or.inr (by omega))]
          exact q2
      · show aI _ (m + 2) 1 = ji (if (if (1 : Int) = p then true else A.2.2.2.1.1 1) = true then 1 else 0)
        by_cases hp : p = 1
        · subst hp
          rw [if_pos rfl, if_pos rfl]
          exact aI_wI_at _ _ _ _
        · rw [show (if (1 : Int) = p then true else A.2.2.2.1.1 1) = A.2.2.2.1.1 1 from if_neg (fun q => hp q.symm), o2 _ _ (by omega) (Or.inr (by omega))]
          exact q3
      · show aI _ (m + 1) (5666 * (1 + q) + i).toNat = ji ((if q = p then A.2.1 else A.2.2.2.1.2 q) i)
        have hp' : (if q = p then true else A.2.2.2.1.1 q) = true := hp
        by_cases hq : q = p
        · rw [if_pos hq, hq, aI_wI_a _ _ _ _ _ _ (by omega)]
          exact pb_in (by omega) i0 i1
        · rw [if_neg hq] at hp' ⊢
          rw [o1 _ (by omega) (by omega)]
          exact q4 q p0 p1 hp' i i0 i1
      · rw [o2 _ _ (by omega) (Or.inl (by omega))]
        exact q5 i i0 i1
      · rw [o2 _ _ (by omega) (Or.inl (by omega))]
        exact q6 i i0 i1
  · rw [if_neg h1] at hQ
    have h2 : jb (0 ≤ p ∧ p ≤ 1) = ji 0 := jb_f _ (by omega)
    simp (disch := first | assumption | omega) only [RS_0, RS_1, RS_2, RS_3, RS_4, RS_5, RS_6, RS_7, RS_8, RS_9, RS_10, RS_11, RS_12, RS_13, RS_14, RS_15, RS_16, RS_17, RS_18, RS_19, RS_20, RS_21, RS_22, RS_23, RS_24, RS_25, RS_26, RS_27, RS_28, RS_29, RS_30, RS_31, RS_32, RS_33, RS_34, RS_35, RS_36, ji_add, ji_sub, ji_mul, ji_neg, ji_lit0, ji_ofNat, ji_lt, ji_le, ji_eq, ji_nat, ji_in, ji_rem, ji_div, jl_of, xl_lt, xl_gt, xl_eq, qV_at, qI_at, qJ_at, qD_at, qA_at, qA_no, nb0, nb1, cat_r, cat_i, Option.some.injEq, exists_eq_left', true_and, and_true, if_true, if_false, ite_not, not_true_eq_false, not_false_eq_true, Sum.inr.injEq, exists_eq_right', true_or, or_true, and_self, Int.cast_ofNat_Int, reduceCtorEq, or_false, false_or, false_and, and_false, jb_zero, lt7_0, lt7_1, lt7_2, lt7_3, lt7_4, lt7_5, lt7_6, c_X9_saveSnapshot_1, c_X9_saveSnapshot_2, u_X9_saveSnapshot, f_inRange, h2, nb0, pz_tg, pz_ln, pz_gI, pz_gL, pz_gR, pz_aR, pz_aL, pz_aD, pzf_w, pzf_g, pf_w, pf_tg, pf_ln, pf_gR, pf_aI, pf_aR, pf_gL, pz_w, ↓reduceIte, ilt_t, ilt_f, ile_t, ile_f, ieq_t, ieq_f, jb_T, jb_F, jb_t, jb_f]
    exact RP.stay (F := fu F 298 0) hS hF hR (fu_at _ _ _) hQ
theorem r_rest (hM : MS μ m A) (hi : INV A) {p : Int} (a0 : -2147483648 ≤ p) (a1 : p < 2147483648) (hQ : RP μ m Q (oRest A p)) : s_X9_restoreSnapshot μ [.ref m, .int (ji p)] Q X := by
  have hS := hM.1
  obtain ⟨F, hF, hR, e, -⟩ := hM.get
  rw [← e]
  unfold oRest at hQ
  by_cases h1 : 0 ≤ p ∧ p < 2
  · have h2 : 0 ≤ p ∧ p ≤ 1 := by omega
    have hr := hR
    obtain ⟨q1, ⟨q2, q3, q4⟩, q5, q6⟩ := hr
    have hsv : aI (pz (pf μ m (fu F 298 0)) m A.2.1) (m + 2) p.toNat = ji (if A.2.2.2.1.1 p = true then 1 else 0) := by
      rw [pz_o (by omega), pf_aI]
      have : p = 0 ∨ p = 1 := by omega
      rcases this with rfl | rfl
      · exact q2
      · exact q3
    by_cases hv : A.2.2.2.1.1 p = true
    · rw [if_pos ⟨h1.1, h1.2, hv⟩] at hQ
      rw [if_pos hv] at hsv
      have hc := fun Q X => f_copyFrom (Q := Q) (X := X) (μ := pf μ m (fu F 298 0)) (m := m) (Z := A.2.1) (Y := A.2.2.2.1.2 p) (b := 1 + p) (RS_pf hS _) (by omega) (by omega) (fun i i0 i1 => by
        rw [pf_aI]; exact q4 p h1.1 h1.2 hv i i0 i1)
      simp (disch := first | assumption | omega) only [RS_0, RS_1, RS_2, RS_3, RS_4, RS_5, RS_6, RS_7, RS_8, RS_9, RS_10, RS_11, RS_12, RS_13, RS_14, RS_15, RS_16, RS_17, RS_18, RS_19, RS_20, RS_21, RS_22, RS_23, RS_24, RS_25, RS_26, RS_27, RS_28, RS_29, RS_30, RS_31, RS_32, RS_33, RS_34, RS_35, RS_36, ji_add, ji_sub, ji_mul, ji_neg, ji_lit0, ji_ofNat, ji_lt, ji_le, ji_eq, ji_nat, ji_in, ji_rem, ji_div, jl_of, xl_lt, xl_gt, xl_eq, qV_at, qI_at, qJ_at, qD_at, qA_at, qA_no, nb0, nb1, cat_r, cat_i, Option.some.injEq, exists_eq_left', true_and, and_true, if_true, if_false, ite_not, not_true_eq_false, not_false_eq_true, Sum.inr.injEq, exists_eq_right', true_or, or_true, and_self, Int.cast_ofNat_Int, reduceCtorEq, or_false, false_or, false_and, and_false, jb_zero, lt7_0, lt7_1, lt7_2, lt7_3, lt7_4, lt7_5, lt7_6, c_X9_restoreSnapshot_1, c_X9_restoreSnapshot_2, u_X9_restoreSnapshot, f_inRange, h2, hsv, hc, nb1, pz_tg, pz_ln, pz_gI, pz_gL, pz_gR, pz_aR, pz_aL, pz_aD, pzf_w, pzf_g, pf_w, pf_tg, pf_ln, pf_gR, pf_aI, pf_aR, pf_gL, pz_w, ↓reduceIte, ilt_t, ilt_f, ile_t, ile_f, ieq_t, ieq_f, jb_T, jb_F, jb_t, jb_f]
      refine hQ _ CH.all0 (MS.mk (A := (A.1, A.2.2.2.1.2 p, (0, A.2.2.1.2), A.2.2.2)) hS ?_ ?_) (pzf_g.trans rfl)
      · obtain ⟨g1, g2, g3, g4, g5⟩ := hF
        exact ⟨g1, g2, g3, rfl, g5⟩
      · exact ⟨fun j j0 j1 => by simp only at j1; omega, ⟨q2, q3, q4⟩, q5, q6⟩
    · rw [if_neg (fun q => hv q.2.2)] at hQ
      rw [if_neg hv] at hsv
      simp (disch := first | assumption | omega) only [RS_0, RS_1, RS_2, RS_3, RS_4, RS_5, RS_6, RS_7, RS_8, RS_9, RS_10, RS_11, RS_12, RS_13, RS_14, RS_15, RS_16, RS_17, RS_18, RS_19, RS_20, RS_21, RS_22, RS_23, RS_24, RS_25, RS_26, RS_27, RS_28, RS_29, RS_30, RS_31, RS_32, RS_33, RS_34, RS_35, RS_36, ji_add, ji_sub, ji_mul, ji_neg, ji_lit0, ji_ofNat, ji_lt, ji_le, ji_eq, ji_nat, ji_in, ji_rem, ji_div, jl_of, xl_lt, xl_gt, xl_eq, qV_at, qI_at, qJ_at, qD_at, qA_at, qA_no, nb0, nb1, cat_r, cat_i, Option.some.injEq, exists_eq_left', true_and, and_true, if_true, if_false, ite_not, not_true_eq_false, not_false_eq_true, Sum.inr.injEq, exists_eq_right', true_or, or_true, and_self, Int.cast_ofNat_Int, reduceCtorEq, or_false, false_or, false_and, and_false, jb_zero, lt7_0, lt7_1, lt7_2, lt7_3, lt7_4, lt7_5, lt7_6, c_X9_restoreSnapshot_1, c_X9_restoreSnapshot_2, u_X9_restoreSnapshot, f_inRange, h2, hsv, nb0, pz_tg, pz_ln, pz_gI, pz_gL, pz_gR, pz_aR, pz_aL, pz_aD, pzf_w, pzf_g, pf_w, pf_tg, pf_ln, pf_gR, pf_aI, pf_aR, pf_gL, pz_w, ↓reduceIte, ilt_t, ilt_f, ile_t, ile_f, ieq_t, ieq_f, jb_T, jb_F, jb_t, jb_f]
      exact RP.stay (F := fu F 298 0) hS hF hR (fu_at _ _ _) hQ
  · rw [if_neg (fun q => h1 ⟨q.1, q.2.1⟩)] at hQ
    have h2 : jb (0 ≤ p ∧ p ≤ 1) = ji 0 := jb_f _ (by omega)
    simp (disch := first | assumption | omega) only [RS_0, RS_1, RS_2, RS_3, RS_4, RS_5, RS_6, RS_7, RS_8, RS_9, RS_10, RS_11, RS_12, RS_13, RS_14, RS_15, RS_16, RS_17, RS_18, RS_19, RS_20, RS_21, RS_22, RS_23, RS_24, RS_25, RS_26, RS_27, RS_28, RS_29, RS_30, RS_31, RS_32, RS_33, RS_34, RS_35, RS_36, ji_add, ji_sub, ji_mul, ji_neg, ji_lit0, ji_ofNat, ji_lt, ji_le, ji_eq, ji_nat, ji_in, ji_rem, ji_div, jl_of, xl_lt, xl_gt, xl_eq, qV_at, qI_at, qJ_at, qD_at, qA_at, qA_no, nb0, nb1, cat_r, cat_i, Option.some.injEq, exists_eq_left', true_and, and_true, if_true, if_false, ite_not, not_true_eq_false, not_false_eq_true, Sum.inr.injEq, exists_eq_right', true_or, or_true, and_self, Int.cast_ofNat_Int, reduceCtorEq, or_false, false_or, false_and, and_false, jb_zero, lt7_0, lt7_1, lt7_2, lt7_3, lt7_4, lt7_5, lt7_6, c_X9_restoreSnapshot_1, c_X9_restoreSnapshot_2, u_X9_restoreSnapshot, f_inRange, h2, nb0, pz_tg, pz_ln, pz_gI, pz_gL, pz_gR, pz_aR, pz_aL, pz_aD, pzf_w, pzf_g, pf_w, pf_tg, pf_ln, pf_gR, pf_aI, pf_aR, pf_gL, pz_w, ↓reduceIte, ilt_t, ilt_f, ile_t, ile_f, ieq_t, ieq_f, jb_T, jb_F, jb_t, jb_f]
    exact RP.stay (F := fu F 298 0) hS hF hR (fu_at _ _ _) hQ
/-! forecasts -/
theorem RM.side (hM : RM μ m (F 290) A) (hF : RF F A) : RM (pb μ m 15 Y) m (F 290) A := by
  obtain ⟨q1, ⟨q2, q3, q4⟩, q5, q6⟩ := hM
  have f5 := hF.2.2.2.2
  refine ⟨fun j j0 j1 i i0 i1 => ?_, ⟨(wr_a (by omega)).trans q2, (wr_a (by omega)).trans q3, fun q p0 p1 hp i i0 i1 => ?_⟩, fun i i0 i1 => ?_, fun i i0 i1 => ?_⟩
  · rw [show aI (pb μ m 15 Y) (m + 1) (5666 * (3 + (F 290 + j) % 12) + i).toNat = aI μ (m + 1) (5666 * (3 + (F 290 + j) % 12) + i).toNat from wr_out (by omega) (by omega)]
    exact q1 j j0 j1 i i0 i1
  · rw [show aI (pb μ m 15 Y) (m + 1) (5666 * (1 + q) + i).toNat = aI μ (m + 1) (5666 * (1 + q) + i).toNat from wr_out (by omega) (by omega)]
    exact q4 q p0 p1 hp i i0 i1
  · rw [show aI (pb μ m 15 Y) (m + 10) i.toNat = aI μ (m + 10) i.toNat from wr_a (by omega)]
    exact q5 i i0 i1
  · rw [show aI (pb μ m 15 Y) (m + 9) i.toNat = aI μ (m + 9) i.toNat from wr_a (by omega)]
    exact q6 i i0 i1
theorem f_aside (hS : RS μ m) : s_X9_copyBlock (pz (pf μ m F) m Z) [.ref m, .int (ji 0), .int (ji 15)] Q X = Q none (pz (pf (pb μ m 15 Z) m F) m Z) := by
  have := f_copyTo (Q := Q) (X := X) (μ := pf μ m F) (m := m) (Z := Z) (b := 15) (RS_pf hS _) (by omega) (by omega)
  rw [this, pb_pf]
theorem f_back (hS : RS μ m) : s_X9_copyBlock (pz (pf (pb μ m 15 Z) m F) m Y) [.ref m, .int (ji 15), .int (ji 0)] Q X = Q none (pz (pf (pb μ m 15 Z) m F) m Z) := f_copyFrom (RS_pf (RS_pb hS _ _) _) (by omega) (by omega) (fun i i0 i1 => by
  rw [pf_aI]
  exact pb_in (by omega) i0 i1)
/-- a packet at its end stays as it is -/
theorem still (hI : IV w h N s Z) {k j : Int} (k0 : 0 ≤ k) (k1 : k < Z 1) (j0 : 0 ≤ j) (j1 : j < 120) (ha : act Z k = false) : ∀ n : Nat, Z 0 + n ≤ 31000 → zps w h N s n Z (2666 + 120 * k + j) = Z (2666 + 120 * k + j) ∧ act (zps w h N s n Z) k = false := by
  have key : ∀ V : Int → Int, IV w h N s V → k < V 1 → act V k = false → ∀ j, 0 ≤ j → j < 120 → ztk w h N s V (2666 + 120 * k + j) = V (2666 + 120 * k + j) := by
    intro V hV kV hk j j0 j1
    unfold ztk
    rw [zu_ne (by omega)]
    have := foldz_inv (zpg w h N s) (fun U => IV w h N s U ∧ U 1 = V 1 ∧ ∀ j, 0 ≤ j → j < 120 → U (2666 + 120 * k + j) = V (2666 + 120 * k + j)) 0 (V 1) (fun l U l0 l1 hU => by
      obtain ⟨u1, u2, u3⟩ := hU
      have lt := zpg_T u1 l0 (by rw [u2]; exact l1)
      refine ⟨u1.pg l0 (by rw [u2]; exact l1), (lt 1 (by omega)).trans u2, fun j j0 j1 => ?_⟩
      by_cases e : l = k
      · subst e
        unfold zpg
        have hak : act U l = false := by
          unfold act at hk ⊢
          rw [u3 3 (by omega) (by omega)]
          exact hk
        rw [hak]
        exact u3 j j0 j1
      · exact (lt (2666 + 120 * k + j) (by omega)).trans (u3 j j0 j1)) (V 1).toNat 0 V (by omega) (by have := hV.1.2.1; omega) ⟨hV, rfl, fun _ _ _ => rfl⟩
    exact this.2.2 j j0 j1
  intro n
  induction n with
  | zero => intro _; exact ⟨rfl, ha⟩
  | succ n ih =>
    intro hn
    obtain ⟨p1, p2, p3⟩ := ps_f hI n (by omega)
    obtain ⟨i1, i2⟩ := ih (by omega)
    rw [zps_last]
    have e := fun j j0 j1 => key (zps w h N s n Z) p1 (by rw [p3 1 (by omega) (by omega)]; exact k1) i2 j j0 j1
    refine ⟨(e j j0 j1).trans i1, ?_⟩
    unfold act at i2 ⊢
    rw [e 3 (by omega) (by omega)]
    exact i2
theorem f_stateIn (hS : RS μ m) (hF : RF F A) (hi : INV A) {k : Int} (k0 : 0 ≤ k) (k1 : k < A.2.1 1) {v t : Int} {nc ns : Nat} (t1 : t ≤ 500) : ∀ (n mf : Nat) (c : Int) (Z : Int → Int), n < mf → c + n = t → 0 ≤ c → IV A.1.1 A.1.2.1 A.1.2.2.1 A.1.2.2.2 Z → k < Z 1 → Z 1 ≤ 24 → Z 0 + n ≤ 31000 → zps A.1.1 A.1.2.1 A.1.2.2.1 A.1.2.2.2 n Z (2666 + 120 * k + 3) = v → ln_X9_stateIn_62 Q X mf [some (.ref m), some (.int (ji k)), some (.int (ji t)), some (.int (ji c))] [] (pz (pf (pb μ m 15 A.2.1) m F) m Z) nc ns = Q (some (.int (ji v))) (pz (pf (pb μ m 15 A.2.1) m F) m A.2.1) := by
  have hS' := RS_pb hS 15 A.2.1
  intro n
  induction n with
  | zero =>
    intro mf c Z h1 h2 h3 hI hk h24 hz hv
    obtain ⟨mf, rfl⟩ : ∃ j, mf = j + 1 := ⟨mf - 1, by omega⟩
    have hv : Z (2666 + 120 * k + 3) = v := hv
    have hof := fun Q X => f_of (Q := Q) (X := X) (RS_pz (RS_pf hS' F) Z) (RW_pz (RF.b hF) Z) k0 (show k < 25 by omega) (j := 3) (by omega) (by omega)
    rw [ul_X9_stateIn_62]
    simp (disch := first | assumption | omega) only [RS_0, RS_1, RS_2, RS_3, RS_4, RS_5, RS_6, RS_7, RS_8, RS_9, RS_10, RS_11, RS_12, RS_13, RS_14, RS_15, RS_16, RS_17, RS_18, RS_19, RS_20, RS_21, RS_22, RS_23, RS_24, RS_25, RS_26, RS_27, RS_28, RS_29, RS_30, RS_31, RS_32, RS_33, RS_34, RS_35, RS_36, ji_add, ji_sub, ji_mul, ji_neg, ji_lit0, ji_ofNat, ji_lt, ji_le, ji_eq, ji_nat, ji_in, ji_rem, ji_div, jl_of, xl_lt, xl_gt, xl_eq, qV_at, qI_at, qJ_at, qD_at, qA_at, qA_no, nb0, nb1, cat_r, cat_i, Option.some.injEq, exists_eq_left', true_and, and_true, if_true, if_false, ite_not, not_true_eq_false, not_false_eq_true, Sum.inr.injEq, exists_eq_right', true_or, or_true, and_self, Int.cast_ofNat_Int, reduceCtorEq, or_false, false_or, false_and, and_false, jb_zero, lt7_0, lt7_1, lt7_2, lt7_3, lt7_4, lt7_5, lt7_6, c_X9_stateIn_1, c_X9_stateIn_2, c_X9_stateIn_3, c_X9_stateIn_4, c_X9_stateIn_5, c_X9_stateIn_6, c_X9_stateIn_7, uj_X9_stateIn_19, c_X9_stateIn_8, c_X9_stateIn_9, c_X9_stateIn_10, c_X9_stateIn_11, c_X9_stateIn_12, c_X9_stateIn_13, hof, hv, f_back hS, pz_tg, pz_ln, pz_gI, pz_gL, pz_gR, pz_aR, pz_aL, pz_aD, pzf_w, pzf_g, pf_w, pf_tg, pf_ln, pf_gR, pf_aI, pf_aR, pf_gL, pz_w, ↓reduceIte, ilt_t, ilt_f, ile_t, ile_f, ieq_t, ieq_f, jb_T, jb_F, jb_t, jb_f]
  | succ n ih =>
    intro mf c Z h1 h2 h3 hI hk h24 hz hv
    obtain ⟨mf, rfl⟩ : ∃ j, mf = j + 1 := ⟨mf - 1, by omega⟩
    have hb := (BD_p hI.1 k k0 hk).1
    have hof := fun Q X => f_of (Q := Q) (X := X) (RS_pz (RS_pf hS' F) Z) (RW_pz (RF.b hF) Z) k0 (show k < 25 by omega) (j := 3) (by omega) (by omega)
    have him := fun Q X => f_isMoving (Q := Q) (X := X) (RS_pz (RS_pf hS' F) Z) (RW_pz (RF.b hF) Z) k0 (show k < 25 by omega) (by omega)
    rw [ul_X9_stateIn_62]
    by_cases ha : act Z k = true
    · obtain ⟨f1, f2, f3⟩ := tk_f hI (by omega)
      simp (disch := first | assumption | omega) only [RS_0, RS_1, RS_2, RS_3, RS_4, RS_5, RS_6, RS_7, RS_8, RS_9, RS_10, RS_11, RS_12, RS_13, RS_14, RS_15, RS_16, RS_17, RS_18, RS_19, RS_20, RS_21, RS_22, RS_23, RS_24, RS_25, RS_26, RS_27, RS_28, RS_29, RS_30, RS_31, RS_32, RS_33, RS_34, RS_35, RS_36, ji_add, ji_sub, ji_mul, ji_neg, ji_lit0, ji_ofNat, ji_lt, ji_le, ji_eq, ji_nat, ji_in, ji_rem, ji_div, jl_of, xl_lt, xl_gt, xl_eq, qV_at, qI_at, qJ_at, qD_at, qA_at, qA_no, nb0, nb1, cat_r, cat_i, Option.some.injEq, exists_eq_left', true_and, and_true, if_true, if_false, ite_not, not_true_eq_false, not_false_eq_true, Sum.inr.injEq, exists_eq_right', true_or, or_true, and_self, Int.cast_ofNat_Int, reduceCtorEq, or_false, false_or, false_and, and_false, jb_zero, lt7_0, lt7_1, lt7_2, lt7_3, lt7_4, lt7_5, lt7_6, c_X9_stateIn_1, c_X9_stateIn_2, c_X9_stateIn_3, c_X9_stateIn_4, c_X9_stateIn_5, c_X9_stateIn_6, c_X9_stateIn_7, uj_X9_stateIn_19, c_X9_stateIn_8, c_X9_stateIn_9, c_X9_stateIn_10, c_X9_stateIn_11, c_X9_stateIn_12, c_X9_stateIn_13, him, ha, f_tickOnce (RS_pf hS' F) (RF.b hF) hI, pz_tg, pz_ln, pz_gI, pz_gL, pz_gR, pz_aR, pz_aL, pz_aD, pzf_w, pzf_g, pf_w, pf_tg, pf_ln, pf_gR, pf_aI, pf_aR, pf_gL, pz_w, ↓reduceIte, ilt_t, ilt_f, ile_t, ile_f, ieq_t, ieq_f, jb_T, jb_F, jb_t, jb_f]
      exact ih mf (c + 1) _ (by omega) (by omega) (by omega) f1 (by rw [f3 1 (by omega) (by omega)]; exact hk) (by rw [f3 1 (by omega) (by omega)]; exact h24) (by rw [f2]; omega) hv
    · have ha' : act Z k = false := by simpa using ha
      have := (still hI k0 hk (j := 3) (by omega) (by omega) ha' (n + 1) (by omega)).1
      rw [this] at hv
      simp (disch := first | assumption | omega) only [RS_0, RS_1, RS_2, RS_3, RS_4, RS_5, RS_6, RS_7, RS_8, RS_9, RS_10, RS_11, RS_12, RS_13, RS_14, RS_15, RS_16, RS_17, RS_18, RS_19, RS_20, RS_21, RS_22, RS_23, RS_24, RS_25, RS_26, RS_27, RS_28, RS_29, RS_30, RS_31, RS_32, RS_33, RS_34, RS_35, RS_36, ji_add, ji_sub, ji_mul, ji_neg, ji_lit0, ji_ofNat, ji_lt, ji_le, ji_eq, ji_nat, ji_in, ji_rem, ji_div, jl_of, xl_lt, xl_gt, xl_eq, qV_at, qI_at, qJ_at, qD_at, qA_at, qA_no, nb0, nb1, cat_r, cat_i, Option.some.injEq, exists_eq_left', true_and, and_true, if_true, if_false, ite_not, not_true_eq_false, not_false_eq_true, Sum.inr.injEq, exists_eq_right', true_or, or_true, and_self, Int.cast_ofNat_Int, reduceCtorEq, or_false, false_or, false_and, and_false, jb_zero, lt7_0, lt7_1, lt7_2, lt7_3, lt7_4, lt7_5, lt7_6, c_X9_stateIn_1, c_X9_stateIn_2, c_X9_stateIn_3, c_X9_stateIn_4, c_X9_stateIn_5, c_X9_stateIn_6, c_X9_stateIn_7, uj_X9_stateIn_19, c_X9_stateIn_8, c_X9_stateIn_9, c_X9_stateIn_10, c_X9_stateIn_11, c_X9_stateIn_12, c_X9_stateIn_13, him, ha', hof, hv, f_back hS, Bool.false_eq_true, pz_tg, pz_ln, pz_gI, pz_gL, pz_gR, pz_aR, pz_aL, pz_aD, pzf_w, pzf_g, pf_w, pf_tg, pf_ln, pf_gR, pf_aI, pf_aR, pf_gL, pz_w, ↓reduceIte, ilt_t, ilt_f, ile_t, ile_f, ieq_t, ieq_f, jb_T, jb_F, jb_t, jb_f]
theorem MS.side (hS : RS μ m) (hF : RF F A) (hM : RM μ m (F 290) A) : MS (pz (pf (pb μ m 15 A.2.1) m F) m A.2.1) m A := MS.mk (RS_pb hS _ _) hF (RM.side hM hF)
theorem r_stateIn (hM : MS μ m A) (hi : INV A) {p t : Int} (p0 : -2147483648 ≤ p) (p1 : p < 2147483648) (t0 : -2147483648 ≤ t) (t1 : t < 2147483648) (hQ : RQ μ m Q (xStateIn A p t)) : s_X9_stateIn μ [.ref m, .int (ji p), .int (ji t)] Q X := by
  have hS := hM.1
  obtain ⟨F, hF, hR, e, -⟩ := hM.get
  rw [← e]
  have n1 := fun Q X => f_isPacket (Q := Q) (X := X) (RS_pz (RS_pf hS (fu F 298 0)) A.2.1) (RW_pz (RF.b (F := fu F 298 0) hF) A.2.1) hi.1.1.1 p0 p1
  unfold xStateIn op2 at hQ
  by_cases h1 : 0 ≤ p ∧ p < A.2.1 1
  · rw [if_pos h1] at hQ
    by_cases h2 : 1 ≤ t ∧ t ≤ 500
    · rw [if_pos h2] at hQ
      have hz := hi.1.2.1
      simp (disch := first | assumption | omega) only [RS_0, RS_1, RS_2, RS_3, RS_4, RS_5, RS_6, RS_7, RS_8, RS_9, RS_10, RS_11, RS_12, RS_13, RS_14, RS_15, RS_16, RS_17, RS_18, RS_19, RS_20, RS_21, RS_22, RS_23, RS_24, RS_25, RS_26, RS_27, RS_28, RS_29, RS_30, RS_31, RS_32, RS_33, RS_34, RS_35, RS_36, ji_add, ji_sub, ji_mul, ji_neg, ji_lit0, ji_ofNat, ji_lt, ji_le, ji_eq, ji_nat, ji_in, ji_rem, ji_div, jl_of, xl_lt, xl_gt, xl_eq, qV_at, qI_at, qJ_at, qD_at, qA_at, qA_no, nb0, nb1, cat_r, cat_i, Option.some.injEq, exists_eq_left', true_and, and_true, if_true, if_false, ite_not, not_true_eq_false, not_false_eq_true, Sum.inr.injEq, exists_eq_right', true_or, or_true, and_self, Int.cast_ofNat_Int, reduceCtorEq, or_false, false_or, false_and, and_false, jb_zero, lt7_0, lt7_1, lt7_2, lt7_3, lt7_4, lt7_5, lt7_6, c_X9_stateIn_1, u_X9_stateIn, c_X9_stateIn_2, c_X9_stateIn_3, c_X9_stateIn_4, c_X9_stateIn_5, c_X9_stateIn_6, c_X9_stateIn_7, uj_X9_stateIn_19, c_X9_stateIn_8, c_X9_stateIn_9, c_X9_stateIn_10, c_X9_stateIn_11, c_X9_stateIn_12, c_X9_stateIn_13, n1, h1, h2, f_inRange, f_t0 hS, f_aside hS, l_X9_stateIn_62, xseal_eq, pz_tg, pz_ln, pz_gI, pz_gL, pz_gR, pz_aR, pz_aL, pz_aD, pzf_w, pzf_g, pf_w, pf_tg, pf_ln, pf_gR, pf_aI, pf_aR, pf_gL, pz_w, ↓reduceIte, ilt_t, ilt_f, ile_t, ile_f, ieq_t, ieq_f, jb_T, jb_F, jb_t, jb_f]
      rw [f_stateIn (F := fu F 298 0) hS hF hi h1.1 h1.2 (v := zps A.1.1 A.1.2.1 A.1.2.2.1 A.1.2.2.2 t.toNat A.2.1 (2666 + 120 * p + 3)) (by omega) t.toNat 10000 0 A.2.1 (by omega) (by omega) (by omega) hi.1.1 h1.2 hi.1.2.2.1 (by omega) rfl]
      exact hQ.p rfl _ (by have := CH.all (μ := μ) (m := m) (F := fu F 298 0) (Z := A.2.1) (b := 15) (U := A.2.1); exact this) (MS.side hS hF hR) (pzf_g.trans rfl)
    · rw [if_neg h2] at hQ
      have e : jb (1 ≤ t ∧ t ≤ 500) = ji 0 := jb_f _ h2
      simp (disch := first | assumption | omega) only [RS_0, RS_1, RS_2, RS_3, RS_4, RS_5, RS_6, RS_7, RS_8, RS_9, RS_10, RS_11, RS_12, RS_13, RS_14, RS_15, RS_16, RS_17, RS_18, RS_19, RS_20, RS_21, RS_22, RS_23, RS_24, RS_25, RS_26, RS_27, RS_28, RS_29, RS_30, RS_31, RS_32, RS_33, RS_34, RS_35, RS_36, ji_add, ji_sub, ji_mul, ji_neg, ji_lit0, ji_ofNat, ji_lt, ji_le, ji_eq, ji_nat, ji_in, ji_rem, ji_div, jl_of, xl_lt, xl_gt, xl_eq, qV_at, qI_at, qJ_at, qD_at, qA_at, qA_no, nb0, nb1, cat_r, cat_i, Option.some.injEq, exists_eq_left', true_and, and_true, if_true, if_false, ite_not, not_true_eq_false, not_false_eq_true, Sum.inr.injEq, exists_eq_right', true_or, or_true, and_self, Int.cast_ofNat_Int, reduceCtorEq, or_false, false_or, false_and, and_false, jb_zero, lt7_0, lt7_1, lt7_2, lt7_3, lt7_4, lt7_5, lt7_6, c_X9_stateIn_1, u_X9_stateIn, c_X9_stateIn_2, c_X9_stateIn_3, c_X9_stateIn_4, c_X9_stateIn_5, c_X9_stateIn_6, c_X9_stateIn_7, uj_X9_stateIn_19, c_X9_stateIn_8, c_X9_stateIn_9, c_X9_stateIn_10, c_X9_stateIn_11, c_X9_stateIn_12, c_X9_stateIn_13, n1, h1, e, f_inRange, f_t0 hS, f_t1 hS, pz_tg, pz_ln, pz_gI, pz_gL, pz_gR, pz_aR, pz_aL, pz_aD, pzf_w, pzf_g, pf_w, pf_tg, pf_ln, pf_gR, pf_aI, pf_aR, pf_gL, pz_w, ↓reduceIte, ilt_t, ilt_f, ile_t, ile_f, ieq_t, ieq_f, jb_T, jb_F, jb_t, jb_f]
      exact RQ.thr (F := fu F 298 0) hS hF hR (by decide) hQ _
  · rw [if_neg h1] at hQ
    have e : jb (0 ≤ p ∧ p < A.2.1 1) = ji 0 := jb_f _ h1
    simp (disch := first | assumption | omega) only [RS_0, RS_1, RS_2, RS_3, RS_4, RS_5, RS_6, RS_7, RS_8, RS_9, RS_10, RS_11, RS_12, RS_13, RS_14, RS_15, RS_16, RS_17, RS_18, RS_19, RS_20, RS_21, RS_22, RS_23, RS_24, RS_25, RS_26, RS_27, RS_28, RS_29, RS_30, RS_31, RS_32, RS_33, RS_34, RS_35, RS_36, ji_add, ji_sub, ji_mul, ji_neg, ji_lit0, ji_ofNat, ji_lt, ji_le, ji_eq, ji_nat, ji_in, ji_rem, ji_div, jl_of, xl_lt, xl_gt, xl_eq, qV_at, qI_at, qJ_at, qD_at, qA_at, qA_no, nb0, nb1, cat_r, cat_i, Option.some.injEq, exists_eq_left', true_and, and_true, if_true, if_false, ite_not, not_true_eq_false, not_false_eq_true, Sum.inr.injEq, exists_eq_right', true_or, or_true, and_self, Int.cast_ofNat_Int, reduceCtorEq, or_false, false_or, false_and, and_false, jb_zero, lt7_0, lt7_1, lt7_2, lt7_3, lt7_4, lt7_5, lt7_6, c_X9_stateIn_1, u_X9_stateIn, c_X9_stateIn_2, c_X9_stateIn_3, c_X9_stateIn_4, c_X9_stateIn_5, c_X9_stateIn_6, c_X9_stateIn_7, uj_X9_stateIn_19, c_X9_stateIn_8, c_X9_stateIn_9, c_X9_stateIn_10, c_X9_stateIn_11, c_X9_stateIn_12, c_X9_stateIn_13, n1, e, f_t1 hS, pz_tg, pz_ln, pz_gI, pz_gL, pz_gR, pz_aR, pz_aL, pz_aD, pzf_w, pzf_g, pf_w, pf_tg, pf_ln, pf_gR, pf_aI, pf_aR, pf_gL, pz_w, ↓reduceIte, ilt_t, ilt_f, ile_t, ile_f, ieq_t, ieq_f, jb_T, jb_F, jb_t, jb_f]
    exact RQ.thr (F := fu F 298 0) hS hF hR (by decide) hQ _
theorem f_quiet63 (hS : RS μ m) (hF : RF F A) (hI : IV A.1.1 A.1.2.1 A.1.2.2.1 A.1.2.2.2 Z) {c : Int} {nc ns : Nat} : j_X9_quietIn_63 Q X [some (.ref m), none, some (.int (ji c)), none] [] (pz (pf (pb μ m 15 A.2.1) m F) m Z) nc ns = Q (some (.int (ji (if cntz (act Z) 0 (Z 1).toNat 0 = 0 then c else -1)))) (pz (pf (pb μ m 15 A.2.1) m F) m A.2.1) := by
  have hS' := RS_pb hS 15 A.2.1
  have hmv := fun Q X => f_moving (Q := Q) (X := X) (RS_pz (RS_pf hS' F) Z) (RW_pz (RF.b hF) Z) hI.1
  have hcb := cntz_b (act Z) (Z 1).toNat 0 0
  have hbz := hI.1.2.1
  by_cases h0 : cntz (act Z) 0 (Z 1).toNat 0 = 0
  · simp (disch := first | assumption | omega) only [RS_0, RS_1, RS_2, RS_3, RS_4, RS_5, RS_6, RS_7, RS_8, RS_9, RS_10, RS_11, RS_12, RS_13, RS_14, RS_15, RS_16, RS_17, RS_18, RS_19, RS_20, RS_21, RS_22, RS_23, RS_24, RS_25, RS_26, RS_27, RS_28, RS_29, RS_30, RS_31, RS_32, RS_33, RS_34, RS_35, RS_36, ji_add, ji_sub, ji_mul, ji_neg, ji_lit0, ji_ofNat, ji_lt, ji_le, ji_eq, ji_nat, ji_in, ji_rem, ji_div, jl_of, xl_lt, xl_gt, xl_eq, qV_at, qI_at, qJ_at, qD_at, qA_at, qA_no, nb0, nb1, cat_r, cat_i, Option.some.injEq, exists_eq_left', true_and, and_true, if_true, if_false, ite_not, not_true_eq_false, not_false_eq_true, Sum.inr.injEq, exists_eq_right', true_or, or_true, and_self, Int.cast_ofNat_Int, reduceCtorEq, or_false, false_or, false_and, and_false, jb_zero, lt7_0, lt7_1, lt7_2, lt7_3, lt7_4, lt7_5, lt7_6, uj_X9_quietIn_63, c_X9_quietIn_1, c_X9_quietIn_2, c_X9_quietIn_3, c_X9_quietIn_4, c_X9_quietIn_5, c_X9_quietIn_6, c_X9_quietIn_7, c_X9_quietIn_8, c_X9_quietIn_9, c_X9_quietIn_10, uj_X9_quietIn_63, hmv, h0, f_back hS, pz_tg, pz_ln, pz_gI, pz_gL, pz_gR, pz_aR, pz_aL, pz_aD, pzf_w, pzf_g, pf_w, pf_tg, pf_ln, pf_gR, pf_aI, pf_aR, pf_gL, pz_w, ↓reduceIte, ilt_t, ilt_f, ile_t, ile_f, ieq_t, ieq_f, jb_T, jb_F, jb_t, jb_f]
  · simp (disch := first | assumption | omega) only [RS_0, RS_1, RS_2, RS_3, RS_4, RS_5, RS_6, RS_7, RS_8, RS_9, RS_10, RS_11, RS_12, RS_13, RS_14, RS_15, RS_16, RS_17, RS_18, RS_19, RS_20, RS_21, RS_22, RS_23, RS_24, RS_25, RS_26, RS_27, RS_28, RS_29, RS_30, RS_31, RS_32, RS_33, RS_34, RS_35, RS_36, ji_add, ji_sub, ji_mul, ji_neg, ji_lit0, ji_ofNat, ji_lt, ji_le, ji_eq, ji_nat, ji_in, ji_rem, ji_div, jl_of, xl_lt, xl_gt, xl_eq, qV_at, qI_at, qJ_at, qD_at, qA_at, qA_no, nb0, nb1, cat_r, cat_i, Option.some.injEq, exists_eq_left', true_and, and_true, if_true, if_false, ite_not, not_true_eq_false, not_false_eq_true, Sum.inr.injEq, exists_eq_right', true_or, or_true, and_self, Int.cast_ofNat_Int, reduceCtorEq, or_false, false_or, false_and, and_false, jb_zero, lt7_0, lt7_1, lt7_2, lt7_3, lt7_4, lt7_5, lt7_6, uj_X9_quietIn_63, c_X9_quietIn_1, c_X9_quietIn_2, c_X9_quietIn_3, c_X9_quietIn_4, c_X9_quietIn_5, c_X9_quietIn_6, c_X9_quietIn_7, c_X9_quietIn_8, c_X9_quietIn_9, c_X9_quietIn_10, uj_X9_quietIn_63, hmv, h0, f_back hS, pz_tg, pz_ln, pz_gI, pz_gL, pz_gR, pz_aR, pz_aL, pz_aD, pzf_w, pzf_g, pf_w, pf_tg, pf_ln, pf_gR, pf_aI, pf_aR, pf_gL, pz_w, ↓reduceIte, ilt_t, ilt_f, ile_t, ile_f, ieq_t, ieq_f, jb_T, jb_F, jb_t, jb_f]
theorem f_quiet (hS : RS μ m) (hF : RF F A) {v t : Int} {nc ns : Nat} (t1 : t ≤ 500) : ∀ (n mf : Nat) (c : Int) (Z : Int → Int), n < mf → c + n = t → 0 ≤ c → IV A.1.1 A.1.2.1 A.1.2.2.1 A.1.2.2.2 Z → Z 0 + n ≤ 31000 → quz A.1.1 A.1.2.1 A.1.2.2.1 A.1.2.2.2 n Z c = v → ln_X9_quietIn_41 Q X mf [some (.ref m), some (.int (ji t)), some (.int (ji c)), none] [] (pz (pf (pb μ m 15 A.2.1) m F) m Z) nc ns = Q (some (.int (ji v))) (pz (pf (pb μ m 15 A.2.1) m F) m A.2.1) := by
  have hS' := RS_pb hS 15 A.2.1
  intro n
  induction n with
  | zero =>
    intro mf c Z h1 h2 h3 hI hz hv
    obtain ⟨mf, rfl⟩ : ∃ j, mf = j + 1 := ⟨mf - 1, by omega⟩
    unfold quz at hv
    rw [ul_X9_quietIn_41]
    simp (disch := first | assumption | omega) only [RS_0, RS_1, RS_2, RS_3, RS_4, RS_5, RS_6, RS_7, RS_8, RS_9, RS_10, RS_11, RS_12, RS_13, RS_14, RS_15, RS_16, RS_17, RS_18, RS_19, RS_20, RS_21, RS_22, RS_23, RS_24, RS_25, RS_26, RS_27, RS_28, RS_29, RS_30, RS_31, RS_32, RS_33, RS_34, RS_35, RS_36, ji_add, ji_sub, ji_mul, ji_neg, ji_lit0, ji_ofNat, ji_lt, ji_le, ji_eq, ji_nat, ji_in, ji_rem, ji_div, jl_of, xl_lt, xl_gt, xl_eq, qV_at, qI_at, qJ_at, qD_at, qA_at, qA_no, nb0, nb1, cat_r, cat_i, Option.some.injEq, exists_eq_left', true_and, and_true, if_true, if_false, ite_not, not_true_eq_false, not_false_eq_true, Sum.inr.injEq, exists_eq_right', true_or, or_true, and_self, Int.cast_ofNat_Int, reduceCtorEq, or_false, false_or, false_and, and_false, jb_zero, lt7_0, lt7_1, lt7_2, lt7_3, lt7_4, lt7_5, lt7_6, ↓reduceIte, ilt_t, ilt_f, ile_t, ile_f, ieq_t, ieq_f, jb_T, jb_F, jb_t, jb_f]
    rw [f_quiet63 hS hF hI, hv]
  | succ n ih =>
    intro mf c Z h1 h2 h3 hI hz hv
    obtain ⟨mf, rfl⟩ : ∃ j, mf = j + 1 := ⟨mf - 1, by omega⟩
    have hmv := fun Q X => f_moving (Q := Q) (X := X) (RS_pz (RS_pf hS' F) Z) (RW_pz (RF.b hF) Z) hI.1
    have hcb := cntz_b (act Z) (Z 1).toNat 0 0
    have hbz := hI.1.2.1
    unfold quz at hv
    rw [ul_X9_quietIn_41]
    by_cases h0 : cntz (act Z) 0 (Z 1).toNat 0 = 0
    · rw [if_pos h0] at hv
      simp (disch := first | assumption | omega) only [RS_0, RS_1, RS_2, RS_3, RS_4, RS_5, RS_6, RS_7, RS_8, RS_9, RS_10, RS_11, RS_12, RS_13, RS_14, RS_15, RS_16, RS_17, RS_18, RS_19, RS_20, RS_21, RS_22, RS_23, RS_24, RS_25, RS_26, RS_27, RS_28, RS_29, RS_30, RS_31, RS_32, RS_33, RS_34, RS_35, RS_36, ji_add, ji_sub, ji_mul, ji_neg, ji_lit0, ji_ofNat, ji_lt, ji_le, ji_eq, ji_nat, ji_in, ji_rem, ji_div, jl_of, xl_lt, xl_gt, xl_eq, qV_at, qI_at, qJ_at, qD_at, qA_at, qA_no, nb0, nb1, cat_r, cat_i, Option.some.injEq, exists_eq_left', true_and, and_true, if_true, if_false, ite_not, not_true_eq_false, not_false_eq_true, Sum.inr.injEq, exists_eq_right', true_or, or_true, and_self, Int.cast_ofNat_Int, reduceCtorEq, or_false, false_or, false_and, and_false, jb_zero, lt7_0, lt7_1, lt7_2, lt7_3, lt7_4, lt7_5, lt7_6, c_X9_quietIn_7, c_X9_quietIn_6, hmv, h0, pz_tg, pz_ln, pz_gI, pz_gL, pz_gR, pz_aR, pz_aL, pz_aD, pzf_w, pzf_g, pf_w, pf_tg, pf_ln, pf_gR, pf_aI, pf_aR, pf_gL, pz_w, ↓reduceIte, ilt_t, ilt_f, ile_t, ile_f, ieq_t, ieq_f, jb_T, jb_F, jb_t, jb_f]
      rw [f_quiet63 hS hF hI, if_pos h0, hv]
    · rw [if_neg h0] at hv
      obtain ⟨f1, f2, f3⟩ := tk_f hI (by omega)
      simp (disch := first | assumption | omega) only [RS_0, RS_1, RS_2, RS_3, RS_4, RS_5, RS_6, RS_7, RS_8, RS_9, RS_10, RS_11, RS_12, RS_13, RS_14, RS_15, RS_16, RS_17, RS_18, RS_19, RS_20, RS_21, RS_22, RS_23, RS_24, RS_25, RS_26, RS_27, RS_28, RS_29, RS_30, RS_31, RS_32, RS_33, RS_34, RS_35, RS_36, ji_add, ji_sub, ji_mul, ji_neg, ji_lit0, ji_ofNat, ji_lt, ji_le, ji_eq, ji_nat, ji_in, ji_rem, ji_div, jl_of, xl_lt, xl_gt, xl_eq, qV_at, qI_at, qJ_at, qD_at, qA_at, qA_no, nb0, nb1, cat_r, cat_i, Option.some.injEq, exists_eq_left', true_and, and_true, if_true, if_false, ite_not, not_true_eq_false, not_false_eq_true, Sum.inr.injEq, exists_eq_right', true_or, or_true, and_self, Int.cast_ofNat_Int, reduceCtorEq, or_false, false_or, false_and, and_false, jb_zero, lt7_0, lt7_1, lt7_2, lt7_3, lt7_4, lt7_5, lt7_6, c_X9_quietIn_7, c_X9_quietIn_6, hmv, h0, f_tickOnce (RS_pf hS' F) (RF.b hF) hI, pz_tg, pz_ln, pz_gI, pz_gL, pz_gR, pz_aR, pz_aL, pz_aD, pzf_w, pzf_g, pf_w, pf_tg, pf_ln, pf_gR, pf_aI, pf_aR, pf_gL, pz_w, ↓reduceIte, ilt_t, ilt_f, ile_t, ile_f, ieq_t, ieq_f, jb_T, jb_F, jb_t, jb_f]
      exact ih mf (c + 1) _ (by omega) (by omega) (by omega) f1 (by rw [f2]; omega) hv
theorem r_quietIn (hM : MS μ m A) (hi : INV A) {t : Int} (t0 : -2147483648 ≤ t) (t1 : t < 2147483648) (hQ : RQ μ m Q (xQuiet A t)) : s_X9_quietIn μ [.ref m, .int (ji t)] Q X := by
  have hS := hM.1
  obtain ⟨F, hF, hR, e, -⟩ := hM.get
  rw [← e]
  unfold xQuiet op1 at hQ
  by_cases h2 : 1 ≤ t ∧ t ≤ 500
  · rw [if_pos h2] at hQ
    have hz := hi.1.2.1
    simp (disch := first | assumption | omega) only [RS_0, RS_1, RS_2, RS_3, RS_4, RS_5, RS_6, RS_7, RS_8, RS_9, RS_10, RS_11, RS_12, RS_13, RS_14, RS_15, RS_16, RS_17, RS_18, RS_19, RS_20, RS_21, RS_22, RS_23, RS_24, RS_25, RS_26, RS_27, RS_28, RS_29, RS_30, RS_31, RS_32, RS_33, RS_34, RS_35, RS_36, ji_add, ji_sub, ji_mul, ji_neg, ji_lit0, ji_ofNat, ji_lt, ji_le, ji_eq, ji_nat, ji_in, ji_rem, ji_div, jl_of, xl_lt, xl_gt, xl_eq, qV_at, qI_at, qJ_at, qD_at, qA_at, qA_no, nb0, nb1, cat_r, cat_i, Option.some.injEq, exists_eq_left', true_and, and_true, if_true, if_false, ite_not, not_true_eq_false, not_false_eq_true, Sum.inr.injEq, exists_eq_right', true_or, or_true, and_self, Int.cast_ofNat_Int, reduceCtorEq, or_false, false_or, false_and, and_false, jb_zero, lt7_0, lt7_1, lt7_2, lt7_3, lt7_4, lt7_5, lt7_6, u_X9_quietIn, c_X9_quietIn_1, c_X9_quietIn_2, c_X9_quietIn_3, c_X9_quietIn_4, c_X9_quietIn_5, h2, f_inRange, f_t0 hS, f_aside hS, l_X9_quietIn_41, xseal_eq, pz_tg, pz_ln, pz_gI, pz_gL, pz_gR, pz_aR, pz_aL, pz_aD, pzf_w, pzf_g, pf_w, pf_tg, pf_ln, pf_gR, pf_aI, pf_aR, pf_gL, pz_w, ↓reduceIte, ilt_t, ilt_f, ile_t, ile_f, ieq_t, ieq_f, jb_T, jb_F, jb_t, jb_f]
    rw [f_quiet (F := fu F 298 0) hS hF (by omega) t.toNat 10000 0 A.2.1 (by omega) (by omega) (by omega) hi.1.1 (by omega) rfl]
    exact hQ.p rfl _ (by have := CH.all (μ := μ) (m := m) (F := fu F 298 0) (Z := A.2.1) (b := 15) (U := A.2.1); exact this) (MS.side hS hF hR) (pzf_g.trans rfl)
  · rw [if_neg h2] at hQ
    have e : jb (1 ≤ t ∧ t ≤ 500) = ji 0 := jb_f _ h2
    simp (disch := first | assumption | omega) only [RS_0, RS_1, RS_2, RS_3, RS_4, RS_5, RS_6, RS_7, RS_8, RS_9, RS_10, RS_11, RS_12, RS_13, RS_14, RS_15, RS_16, RS_17, RS_18, RS_19, RS_20, RS_21, RS_22, RS_23, RS_24, RS_25, RS_26, RS_27, RS_28, RS_29, RS_30, RS_31, RS_32, RS_33, RS_34, RS_35, RS_36, ji_add, ji_sub, ji_mul, ji_neg, ji_lit0, ji_ofNat, ji_lt, ji_le, ji_eq, ji_nat, ji_in, ji_rem, ji_div, jl_of, xl_lt, xl_gt, xl_eq, qV_at, qI_at, qJ_at, qD_at, qA_at, qA_no, nb0, nb1, cat_r, cat_i, Option.some.injEq, exists_eq_left', true_and, and_true, if_true, if_false, ite_not, not_true_eq_false, not_false_eq_true, Sum.inr.injEq, exists_eq_right', true_or, or_true, and_self, Int.cast_ofNat_Int, reduceCtorEq, or_false, false_or, false_and, and_false, jb_zero, lt7_0, lt7_1, lt7_2, lt7_3, lt7_4, lt7_5, lt7_6, u_X9_quietIn, c_X9_quietIn_1, c_X9_quietIn_2, c_X9_quietIn_3, c_X9_quietIn_4, c_X9_quietIn_5, e, f_inRange, f_t1 hS, pz_tg, pz_ln, pz_gI, pz_gL, pz_gR, pz_aR, pz_aL, pz_aD, pzf_w, pzf_g, pf_w, pf_tg, pf_ln, pf_gR, pf_aI, pf_aR, pf_gL, pz_w, ↓reduceIte, ilt_t, ilt_f, ile_t, ile_f, ieq_t, ieq_f, jb_T, jb_F, jb_t, jb_f]
    exact RQ.thr (F := fu F 298 0) hS hF hR (by decide) hQ _
end
