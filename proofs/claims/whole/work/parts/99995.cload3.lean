/-! ===== the class: load ===== -/
def nLd (A : AS) (S : YS) : AS := ((S.1, S.2.1, S.1 * S.2.1, sst S.2.2.1), S.2.2.2, (0, A.2.2.1.2), (fun _ => false, A.2.2.2.1.2), (0, A.2.2.2.2.1.2), (0, -1), A.2.2.2.2.2.2)
noncomputable def xLoad (A : AS) : AR := match yM A.2.2.2.2.1.1 A.2.2.2.2.1.2 1001 0 0 (1, 1, -1, zemp) with
  | .inl (c, s) => (wTx A 0 c s, (0, -3))
  | .inr S => (nLd A S, (0, S.1 * S.2.1))
section
variable {μ ν ξ : XM} {x : Nat} {l p k e : Int} {T : Int → Int} {A : AS} {S : YS} {Q : XQ} {X : XX} {C : Nat → Prop} {w h N s : Int}
theorem XS.txf (hx : XS μ x A) (hi : INV A) (hc : CH C ν μ) (hs : ∀ a, x ≤ a → a < x + 1345 → C a → (x + 84 ≤ a ∧ a < x + 167) ∨ (x + 1171 ≤ a ∧ a < x + 1176)) (hg : GX ν (x + 84)) (hT : XT ν x l A.2.2.2.2.1.2 e p) : XS ν x (wTx A l e p) := by
  obtain ⟨x1, x2, x3, x4, x5, x6, x7⟩ := hx
  have hn : ∀ a, x ≤ a → a < x + 1345 → ¬ ((x + 84 ≤ a ∧ a < x + 167) ∨ (x + 1171 ≤ a ∧ a < x + 1176)) → ¬ C a := fun a a0 a1 a2 a3 => a2 (hs a a0 a1 a3)
  exact ⟨x1.mono hc.1, x2.frame hi.1.1.1 hc (fun a a0 a1 => hn a (by omega) (by omega) (by omega)), hg, x4.frame hi.2.1.2.2 hc (fun a a0 a1 => hn a (by omega) (by omega) (by omega)), x5.frame hi.2.2.1 hc (fun a a0 a1 a2 => hn a (by omega) (by omega) (by omega)), hT, x7.frame hc (hn x (by omega) (by omega) (by omega)) (hn (x + 1178) (by omega) (by omega) (by omega))⟩
theorem inv_ld (hi : INV A) (hS : yI k S) : INV (nLd A S) := by
  obtain ⟨h1, h2, h3, h4, h5, h6⟩ := hi
  refine ⟨hS.1, ⟨by show (0 : Int) ≤ 0; omega, by show (0 : Int) ≤ 12; omega, fun j j0 j1 => ?_⟩, fun p hp => ?_, ⟨by show (0 : Int) ≤ 0; omega, by show (0 : Int) ≤ 1000; omega, fun i i0 i1 => ?_⟩, ?_, h6⟩
  · have j1 : j < 0 := j1
    omega
  · have hp : false = true := hp
    exact absurd hp (by decide)
  · have i1 : i < 0 := i1
    omega
  · show (0 : Int) ≤ 0 ∧ (0 : Int) ≤ 5 ∧ (-1 : Int) ≤ -1 ∧ (-1 : Int) ≤ 1000
    omega
theorem e_load51 {N : Int} (hL : XL ν x) (g2 : gI ν 2 (x + 1 + 1) = ji N) (hK : Q (some (.int (ji N))) (wI (wI ν (x + 1177) 0 (ji 0)) (x + 1177) 1 (ji 0))) : ∀ mf : Nat, 4 ≤ mf → ln_X8_load_51 Q X mf [some (.ref x), none, some (.int (ji 0))] [] ν 0 0 := by
  intro mf hm
  obtain ⟨m2, rfl⟩ : ∃ j, mf = j + 3 := ⟨mf - 3, by omega⟩
  have hL1 : XL (wI ν (x + 1177) 0 (ji 0)) x := hL.wI _ _ _
  have hL2 : XL (wI (wI ν (x + 1177) 0 (ji 0)) (x + 1177) 1 (ji 0)) x := hL1.wI _ _ _
  have hW2 := hL2.w
  have t2 : ln_X8_load_51 Q X (m2 + 1) [some (.ref x), none, some (.int (ji 2))] [] (wI (wI ν (x + 1177) 0 (ji 0)) (x + 1177) 1 (ji 0)) 0 0 := by
    rw [ul_X8_load_51]
    simp (disch := first | assumption | omega) only [XL_0, XL_1, XL_2, XL_3, XL_4, XL_5, XL_6, XL_7, XL_8, XL_9, XL_10, XL_11, XL_12, XL_13, XL_14, XL_15, XL_16, XL_17, XL_18, XL_19, XL_20, XL_21, XL_22, XL_23, XL_24, XL_25, XL_26, XL_27, XL_28, XL_29, XL_30, XL_31, XL_32, XL_33, XL_34, XL_35, XL_36, XL_37, XL_38, XL_39, XL_40, XL_41, XL_42, XL_43, XL_44, XL_45, XL_46, XL_47, WS_0, WS_1, WS_2, WS_3, WS_4, WS_5, WS_6, WS_7, WS_8, WS_9, WS_10, WS_11, WS_12, WS_13, WS_14, WS_15, WS_16, WS_17, WS_18, WS_19, WS_20, PS_0, PS_1, PS_2, PS_3, PS_4, PS_5, PS_6, ji_add, ji_sub, ji_mul, ji_neg, ji_lit0, ji_ofNat, ji_lt, ji_le, ji_eq, ji_nat, ji_in, qV_at, qI_at, qJ_at, qD_at, qA_at, qA_no, nb0, nb1, cat_r, cat_i, Option.some.injEq, exists_eq_left', true_and, and_true, if_true, if_false, ite_not, not_true_eq_false, not_false_eq_true, Sum.inr.injEq, exists_eq_right', true_or, or_true, and_self, Int.cast_ofNat_Int, reduceCtorEq, or_false, false_or, false_and, and_false, jb_zero, lt7_0, lt7_1, lt7_2, lt7_3, lt7_4, lt7_5, lt7_6, Nat.reduceAdd, Nat.reduceLeDiff, gI_wI, g2, ↓reduceIte, ilt_t, ilt_f, ile_t, ile_f, ieq_t, ieq_f, jb_T, jb_F, jb_t, jb_f]
    exact hK
  have t1 : ln_X8_load_51 Q X (m2 + 1 + 1) [some (.ref x), none, some (.int (ji 1))] [] (wI ν (x + 1177) 0 (ji 0)) 0 0 := by
    rw [ul_X8_load_51]
    simp (disch := first | assumption | omega) only [XL_0, XL_1, XL_2, XL_3, XL_4, XL_5, XL_6, XL_7, XL_8, XL_9, XL_10, XL_11, XL_12, XL_13, XL_14, XL_15, XL_16, XL_17, XL_18, XL_19, XL_20, XL_21, XL_22, XL_23, XL_24, XL_25, XL_26, XL_27, XL_28, XL_29, XL_30, XL_31, XL_32, XL_33, XL_34, XL_35, XL_36, XL_37, XL_38, XL_39, XL_40, XL_41, XL_42, XL_43, XL_44, XL_45, XL_46, XL_47, WS_0, WS_1, WS_2, WS_3, WS_4, WS_5, WS_6, WS_7, WS_8, WS_9, WS_10, WS_11, WS_12, WS_13, WS_14, WS_15, WS_16, WS_17, WS_18, WS_19, WS_20, PS_0, PS_1, PS_2, PS_3, PS_4, PS_5, PS_6, ji_add, ji_sub, ji_mul, ji_neg, ji_lit0, ji_ofNat, ji_lt, ji_le, ji_eq, ji_nat, ji_in, qV_at, qI_at, qJ_at, qD_at, qA_at, qA_no, nb0, nb1, cat_r, cat_i, Option.some.injEq, exists_eq_left', true_and, and_true, if_true, if_false, ite_not, not_true_eq_false, not_false_eq_true, Sum.inr.injEq, exists_eq_right', true_or, or_true, and_self, Int.cast_ofNat_Int, reduceCtorEq, or_false, false_or, false_and, and_false, jb_zero, lt7_0, lt7_1, lt7_2, lt7_3, lt7_4, lt7_5, lt7_6, Nat.reduceAdd, Nat.reduceLeDiff, nar0, Int.toNat_one, ↓reduceIte, ilt_t, ilt_f, ile_t, ile_f, ieq_t, ieq_f, jb_T, jb_F, jb_t, jb_f]
    exact Or.inl t2
  have t0 : ln_X8_load_51 Q X (m2 + 1 + 1 + 1) [some (.ref x), none, some (.int (ji 0))] [] ν 0 0 := by
    rw [ul_X8_load_51]
    simp (disch := first | assumption | omega) only [XL_0, XL_1, XL_2, XL_3, XL_4, XL_5, XL_6, XL_7, XL_8, XL_9, XL_10, XL_11, XL_12, XL_13, XL_14, XL_15, XL_16, XL_17, XL_18, XL_19, XL_20, XL_21, XL_22, XL_23, XL_24, XL_25, XL_26, XL_27, XL_28, XL_29, XL_30, XL_31, XL_32, XL_33, XL_34, XL_35, XL_36, XL_37, XL_38, XL_39, XL_40, XL_41, XL_42, XL_43, XL_44, XL_45, XL_46, XL_47, WS_0, WS_1, WS_2, WS_3, WS_4, WS_5, WS_6, WS_7, WS_8, WS_9, WS_10, WS_11, WS_12, WS_13, WS_14, WS_15, WS_16, WS_17, WS_18, WS_19, WS_20, PS_0, PS_1, PS_2, PS_3, PS_4, PS_5, PS_6, ji_add, ji_sub, ji_mul, ji_neg, ji_lit0, ji_ofNat, ji_lt, ji_le, ji_eq, ji_nat, ji_in, qV_at, qI_at, qJ_at, qD_at, qA_at, qA_no, nb0, nb1, cat_r, cat_i, Option.some.injEq, exists_eq_left', true_and, and_true, if_true, if_false, ite_not, not_true_eq_false, not_false_eq_true, Sum.inr.injEq, exists_eq_right', true_or, or_true, and_self, Int.cast_ofNat_Int, reduceCtorEq, or_false, false_or, false_and, and_false, jb_zero, lt7_0, lt7_1, lt7_2, lt7_3, lt7_4, lt7_5, lt7_6, Nat.reduceAdd, Nat.reduceLeDiff, nar0, Int.toNat_zero, ↓reduceIte, ilt_t, ilt_f, ile_t, ile_f, ieq_t, ieq_f, jb_T, jb_F, jb_t, jb_f]
    exact Or.inl t1
  exact t0
theorem q_load (hx : XS μ x A) (hi : INV A) (hSC : SC μ x) (hQ : CL μ x Q (xLoad A)) : s_X8_load μ [.ref x] Q X := by
  have hL := hx.1
  have hT := hx.2.2.2.2.2.1
  have hi4 := hi.2.2.2.1
  simp (disch := first | assumption | omega) only [XL_0, XL_1, XL_2, XL_3, XL_4, XL_5, XL_6, XL_7, XL_8, XL_9, XL_10, XL_11, XL_12, XL_13, XL_14, XL_15, XL_16, XL_17, XL_18, XL_19, XL_20, XL_21, XL_22, XL_23, XL_24, XL_25, XL_26, XL_27, XL_28, XL_29, XL_30, XL_31, XL_32, XL_33, XL_34, XL_35, XL_36, XL_37, XL_38, XL_39, XL_40, XL_41, XL_42, XL_43, XL_44, XL_45, XL_46, XL_47, WS_0, WS_1, WS_2, WS_3, WS_4, WS_5, WS_6, WS_7, WS_8, WS_9, WS_10, WS_11, WS_12, WS_13, WS_14, WS_15, WS_16, WS_17, WS_18, WS_19, WS_20, PS_0, PS_1, PS_2, PS_3, PS_4, PS_5, PS_6, ji_add, ji_sub, ji_mul, ji_neg, ji_lit0, ji_ofNat, ji_lt, ji_le, ji_eq, ji_nat, ji_in, qV_at, qI_at, qJ_at, qD_at, qA_at, qA_no, nb0, nb1, cat_r, cat_i, Option.some.injEq, exists_eq_left', true_and, and_true, if_true, if_false, ite_not, not_true_eq_false, not_false_eq_true, Sum.inr.injEq, exists_eq_right', true_or, or_true, and_self, Int.cast_ofNat_Int, reduceCtorEq, or_false, false_or, false_and, and_false, jb_zero, lt7_0, lt7_1, lt7_2, lt7_3, lt7_4, lt7_5, lt7_6, Nat.reduceAdd, Nat.reduceLeDiff, c_X8_load_1, c_X8_load_2, c_X8_load_3, u_X8_load, ↓reduceIte, ilt_t, ilt_f, ile_t, ile_f, ieq_t, ieq_f, jb_T, jb_F, jb_t, jb_f]
  refine e_readStatements hL hSC hi4.1 hi4.2.1 hT.1 (fun i i0 i1 => ⟨hT.2.2.2 i i0 i1, hi4.2.2 i i0 i1⟩) ?_
  unfold xLoad at hQ
  cases hr : yM A.2.2.2.2.1.1 A.2.2.2.2.1.2 1001 0 0 (1, 1, -1, zemp) with
  | inl r =>
    obtain ⟨c, s⟩ := r
    rw [hr] at hQ
    intro ν hf
    have hL2 := hL.mono hf.1.1
    have c0 : CH (fun a => a = x + 1171) (sI ν 193 (x + 1171) (ji 0)) ν := CH.sI (S := fun a => a = x + 1171) (CH.refl _ ν) _ _ _ rfl
    have c1 : CH (atL x) (sI ν 193 (x + 1171) (ji 0)) μ := hf.1.sI _ _ _ (Or.inr (Or.inl rfl))
    have XTn : XT (sI ν 193 (x + 1171) (ji 0)) x 0 A.2.2.2.2.1.2 c s := ⟨gI_sI_at _ _ _ _, (gI_sI_k _ _ _ _ _ _ (by omega)).trans hf.2.1, (gI_sI_k _ _ _ _ _ _ (by omega)).trans hf.2.2.1, fun i i0 i1 => by omega⟩
    have hq := hQ _ (c1.mono (fun a ha => by unfold atL inW at ha; unfold inW'; omega)) (hx.txf hi c1 (fun a a0 a1 ha => by unfold atL inW at ha; omega) (hf.2.2.2.frame c0 (fun a a0 a1 => by omega)) XTn)
    simp (disch := first | assumption | omega) only [XL_0, XL_1, XL_2, XL_3, XL_4, XL_5, XL_6, XL_7, XL_8, XL_9, XL_10, XL_11, XL_12, XL_13, XL_14, XL_15, XL_16, XL_17, XL_18, XL_19, XL_20, XL_21, XL_22, XL_23, XL_24, XL_25, XL_26, XL_27, XL_28, XL_29, XL_30, XL_31, XL_32, XL_33, XL_34, XL_35, XL_36, XL_37, XL_38, XL_39, XL_40, XL_41, XL_42, XL_43, XL_44, XL_45, XL_46, XL_47, WS_0, WS_1, WS_2, WS_3, WS_4, WS_5, WS_6, WS_7, WS_8, WS_9, WS_10, WS_11, WS_12, WS_13, WS_14, WS_15, WS_16, WS_17, WS_18, WS_19, WS_20, PS_0, PS_1, PS_2, PS_3, PS_4, PS_5, PS_6, ji_add, ji_sub, ji_mul, ji_neg, ji_lit0, ji_ofNat, ji_lt, ji_le, ji_eq, ji_nat, ji_in, qV_at, qI_at, qJ_at, qD_at, qA_at, qA_no, nb0, nb1, cat_r, cat_i, Option.some.injEq, exists_eq_left', true_and, and_true, if_true, if_false, ite_not, not_true_eq_false, not_false_eq_true, Sum.inr.injEq, exists_eq_right', true_or, or_true, and_self, Int.cast_ofNat_Int, reduceCtorEq, or_false, false_or, false_and, and_false, jb_zero, lt7_0, lt7_1, lt7_2, lt7_3, lt7_4, lt7_5, lt7_6, Nat.reduceAdd, Nat.reduceLeDiff, c_X8_load_3, ↓reduceIte, ilt_t, ilt_f, ile_t, ile_f, ieq_t, ieq_f, jb_T, jb_F, jb_t, jb_f]
    exact hq
  | inr S =>
    rw [hr] at hQ
    intro ν k p hs hy
    have hL2 := hL.mono hs.1.1
    have hL3 : XL (sI ν 193 (x + 1171) (ji 0)) x := hL2.sI _ _ _
    have hw3 := hL3.w
    have hf3 := hL3.f
    have hB := hy.1.1.1
    have c0 : CH (fun a => a = x + 1171) (sI ν 193 (x + 1171) (ji 0)) ν := CH.sI (S := fun a => a = x + 1171) (CH.refl _ ν) _ _ _ rfl
    have c1 : CH (atL x) (sI ν 193 (x + 1171) (ji 0)) μ := hs.1.sI _ _ _ (Or.inr (Or.inl rfl))
    have hC3 := hs.2.2.2.2.2.frame hB c0 (fun a a0 a1 => by omega)
    have hg3 : GX (sI ν 193 (x + 1171) (ji 0)) (x + 1) := hx.2.1.g.frame c1 (fun a a0 a1 => by unfold atL inW; omega)
    simp (disch := first | assumption | omega) only [XL_0, XL_1, XL_2, XL_3, XL_4, XL_5, XL_6, XL_7, XL_8, XL_9, XL_10, XL_11, XL_12, XL_13, XL_14, XL_15, XL_16, XL_17, XL_18, XL_19, XL_20, XL_21, XL_22, XL_23, XL_24, XL_25, XL_26, XL_27, XL_28, XL_29, XL_30, XL_31, XL_32, XL_33, XL_34, XL_35, XL_36, XL_37, XL_38, XL_39, XL_40, XL_41, XL_42, XL_43, XL_44, XL_45, XL_46, XL_47, WS_0, WS_1, WS_2, WS_3, WS_4, WS_5, WS_6, WS_7, WS_8, WS_9, WS_10, WS_11, WS_12, WS_13, WS_14, WS_15, WS_16, WS_17, WS_18, WS_19, WS_20, PS_0, PS_1, PS_2, PS_3, PS_4, PS_5, PS_6, ji_add, ji_sub, ji_mul, ji_neg, ji_lit0, ji_ofNat, ji_lt, ji_le, ji_eq, ji_nat, ji_in, qV_at, qI_at, qJ_at, qD_at, qA_at, qA_no, nb0, nb1, cat_r, cat_i, Option.some.injEq, exists_eq_left', true_and, and_true, if_true, if_false, ite_not, not_true_eq_false, not_false_eq_true, Sum.inr.injEq, exists_eq_right', true_or, or_true, and_self, Int.cast_ofNat_Int, reduceCtorEq, or_false, false_or, false_and, and_false, jb_zero, lt7_0, lt7_1, lt7_2, lt7_3, lt7_4, lt7_5, lt7_6, Nat.reduceAdd, Nat.reduceLeDiff, c_X8_load_3, ↓reduceIte, ilt_t, ilt_f, ile_t, ile_f, ieq_t, ieq_f, jb_T, jb_F, jb_t, jb_f]
    refine e_wcopy hw3 hf3 (by omega) hg3 hC3 hB (fun y y1 y2 => ?_)
    have hL4 := hL3.mono y1.1
    have hL5 : XL (sI y 33 (x + 167) (ji 0)) x := hL4.sI _ _ _
    have hL6 : XL (sI (sI y 33 (x + 167) (ji 0)) 34 (x + 167) (ji 0)) x := hL5.sI _ _ _
    have t2 := XL_11 hL5
    have cy : CH (fun a => inW (x + 1) a ∨ atL x a) y μ := CH.trans (y1.mono (fun a ha => Or.inl ha)) (c1.mono (fun a ha => Or.inr ha))
    have c4 : CH (fun a => a = x + 167 ∨ a = x + 1177) (wI (wI (sI (sI y 33 (x + 167) (ji 0)) 34 (x + 167) (ji 0)) (x + 1177) 0 (ji 0)) (x + 1177) 1 (ji 0)) y := (((CH.sI (S := fun a => a = x + 167 ∨ a = x + 1177) (CH.refl _ y) _ _ _ (Or.inl rfl)).sI _ _ _ (Or.inl rfl)).wI _ _ _ (Or.inr rfl)).wI _ _ _ (Or.inr rfl)
    have c : CH (fun a => (a = x + 167 ∨ a = x + 1177) ∨ inW (x + 1) a ∨ atL x a) (wI (wI (sI (sI y 33 (x + 167) (ji 0)) 34 (x + 167) (ji 0)) (x + 1177) 0 (ji 0)) (x + 1177) 1 (ji 0)) μ := CH.trans (c4.mono (fun a ha => Or.inl ha)) (cy.mono (fun a ha => Or.inr ha))
    have n2 : gI (sI (sI y 33 (x + 167) (ji 0)) 34 (x + 167) (ji 0)) 2 (x + 1 + 1) = ji (S.1 * S.2.1) := (gI_sI_a _ _ _ _ _ _ (by omega)).trans ((gI_sI_a _ _ _ _ _ _ (by omega)).trans y2.1.2.2.2.1)
    obtain ⟨x1, x2, x3, x4, x5, x6, x7⟩ := hx
    have gT : ∀ j, gI (wI (wI (sI (sI y 33 (x + 167) (ji 0)) 34 (x + 167) (ji 0)) (x + 1177) 0 (ji 0)) (x + 1177) 1 (ji 0)) j (x + 1171) = gI (sI ν 193 (x + 1171) (ji 0)) j (x + 1171) := fun j => ((c4.2 (x + 1171) (by omega)).1 j).trans ((y1.2 (x + 1171) (by unfold inW; omega)).1 j)
    have hq := hQ _ (c.mono (fun a ha => by unfold atL inW at ha; unfold inW'; omega)) ⟨hL.mono c.1, y2.frame hB c4 (fun a a0 a1 => by omega), (hC3.g.frame y1 (fun a a0 a1 => by unfold inW; omega)).frame c4 (fun a a0 a1 => by omega), ⟨gI_sI_at _ _ _ _, fun k hk => (x4.2.1 k hk).frame c (fun a a0 a1 => by unfold atL inW; omega), 0, by omega, by omega, show gI (sI (sI y 33 (x + 167) (ji 0)) 34 (x + 167) (ji 0)) 33 (x + 167) = ji 0 from (gI_sI_k _ _ _ _ _ _ (by omega)).trans (gI_sI_at _ _ _ _), fun j j0 j1 => by have j1 : j < 0 := j1; omega⟩, ⟨x5.1.frame c (fun a a0 a1 => by unfold atL inW; omega), x5.2.1.frame c (fun a a0 a1 => by unfold atL inW; omega), (aI_wI_i _ _ _ _ _ _ (by omega)).trans (aI_wI_at _ _ _ _), aI_wI_at _ _ _ _, fun q => absurd (show false = true from q) (by decide), fun q => absurd (show false = true from q) (by decide)⟩, ⟨(gT 193).trans (gI_sI_at _ _ _ _), (gT 198).trans ((gI_sI_k _ _ _ _ _ _ (by omega)).trans hs.2.2.1), (gT 199).trans ((gI_sI_k _ _ _ _ _ _ (by omega)).trans hs.2.2.2.1), fun i i0 i1 => by have i1 : i < 0 := i1; omega⟩, x7.frame c (by unfold atL inW; omega) (by unfold atL inW; omega)⟩
    simp (disch := first | assumption | omega) only [XL_0, XL_1, XL_2, XL_3, XL_4, XL_5, XL_6, XL_7, XL_8, XL_9, XL_10, XL_11, XL_12, XL_13, XL_14, XL_15, XL_16, XL_17, XL_18, XL_19, XL_20, XL_21, XL_22, XL_23, XL_24, XL_25, XL_26, XL_27, XL_28, XL_29, XL_30, XL_31, XL_32, XL_33, XL_34, XL_35, XL_36, XL_37, XL_38, XL_39, XL_40, XL_41, XL_42, XL_43, XL_44, XL_45, XL_46, XL_47, WS_0, WS_1, WS_2, WS_3, WS_4, WS_5, WS_6, WS_7, WS_8, WS_9, WS_10, WS_11, WS_12, WS_13, WS_14, WS_15, WS_16, WS_17, WS_18, WS_19, WS_20, PS_0, PS_1, PS_2, PS_3, PS_4, PS_5, PS_6, ji_add, ji_sub, ji_mul, ji_neg, ji_lit0, ji_ofNat, ji_lt, ji_le, ji_eq, ji_nat, ji_in, qV_at, qI_at, qJ_at, qD_at, qA_at, qA_no, nb0, nb1, cat_r, cat_i, Option.some.injEq, exists_eq_left', true_and, and_true, if_true, if_false, ite_not, not_true_eq_false, not_false_eq_true, Sum.inr.injEq, exists_eq_right', true_or, or_true, and_self, Int.cast_ofNat_Int, reduceCtorEq, or_false, false_or, false_and, and_false, jb_zero, lt7_0, lt7_1, lt7_2, lt7_3, lt7_4, lt7_5, lt7_6, Nat.reduceAdd, Nat.reduceLeDiff, c_X8_load_2, u_X1_clear, t2, c_X8_load_1, ↓reduceIte, ilt_t, ilt_f, ile_t, ile_f, ieq_t, ieq_f, jb_T, jb_F, jb_t, jb_f]
    rw [l_X8_load_51, xseal_eq]
    exact e_load51 hL6 n2 hq 10000 (by omega)
end
