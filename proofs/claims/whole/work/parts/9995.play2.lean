/-! ===== the class: play, its loop ===== -/
abbrev inW' (x a : Nat) : Prop := x ≤ a ∧ a < x + 1345
def CL (μ : XM) (x : Nat) (Q : XQ) (r : AR) : Prop := ∀ μ', CH (inW' x) μ' μ → XS μ' x r.1 → Q (some (.int (ji r.2.2))) μ'
section
variable {μ ν : XM} {x : Nat} {Q : XQ} {X : XX} {A : AS} {l e p : Int} {T : Int → Int}
theorem pA_b : ∀ (d : Nat) (p n : Int) (K : Int → Int × Int × Int × Int) (n' : Int) (K' : Int → Int × Int × Int × Int), (∀ k, 0 ≤ k → k < n → CB (K k)) → pA l T d p n K = .inr (n', K') → ∀ k, 0 ≤ k → k < n' → CB (K' k) := by
  intro d
  induction d with
  | zero =>
    intro p n K n' K' hK h
    unfold pA at h
    simp at h
    rw [← h.1, ← h.2]
    exact hK
  | succ d ih =>
    intro p n K n' K' hK h
    unfold pA at h
    by_cases h0 : tK l T (tB l T p) = 0
    · rw [if_pos h0] at h
      simp at h
      rw [← h.1, ← h.2]
      exact hK
    · rw [if_neg h0] at h
      cases hc : pC l T n p with
      | inl r => rw [hc] at h; simp at h
      | inr r =>
        obtain ⟨row, p1⟩ := r
        rw [hc] at h
        refine ih p1 (n + 1) _ n' K' (fun k k0 k1 => ?_) h
        by_cases hk : k = n
        · simp only [hk, if_true]
          exact pC_b hc
        · simp only [hk, if_false]
          exact hK k k0 (by omega)
theorem e_plays {n : Int} {R : Int → Int} {K : Int → Int × Int × Int × Int} (n40 : n ≤ 40) (hK : ∀ k, 0 ≤ k → k < n → RO R k (K k) ∧ CB (K k)) : ∀ (d mf : Nat) (k : Int) (A1 : AS) (ν : XM), k + d = n → d < mf → 0 ≤ k → CH (inW' x) ν μ → XS ν x A1 → INV A1 → gI ν 161 (x + 1174) = ji n → MR ν (x + 1175) 160 R → CL μ x Q (plz K d k A1) → ln_X8_play_29 Q X mf [some (.ref x), none, some (.int (ji k))] [] ν 0 0 := by
  intro d
  induction d with
  | zero =>
    intro mf k A1 ν hd hm k0 c1 hx hi g hR hQ
    obtain ⟨mf, rfl⟩ : ∃ j, mf = j + 1 := ⟨mf - 1, by omega⟩
    obtain rfl : k = n := by omega
    have hL := hx.1
    have hq := hQ ν c1 hx
    rw [ul_X8_play_29]
    simp (disch := first | assumption | omega) only [XL_0, XL_1, XL_2, XL_3, XL_4, XL_5, XL_6, XL_7, XL_8, XL_9, XL_10, XL_11, XL_12, XL_13, XL_14, XL_15, XL_16, XL_17, XL_18, XL_19, XL_20, XL_21, XL_22, XL_23, XL_24, XL_25, XL_26, XL_27, XL_28, XL_29, XL_30, XL_31, XL_32, XL_33, XL_34, XL_35, XL_36, XL_37, XL_38, XL_39, XL_40, XL_41, XL_42, XL_43, XL_44, XL_45, XL_46, XL_47, WS_0, WS_1, WS_2, WS_3, WS_4, WS_5, WS_6, WS_7, WS_8, WS_9, WS_10, WS_11, WS_12, WS_13, WS_14, WS_15, WS_16, WS_17, WS_18, WS_19, WS_20, PS_0, PS_1, PS_2, PS_3, PS_4, PS_5, PS_6, ji_add, ji_sub, ji_mul, ji_neg, ji_lit0, ji_ofNat, ji_lt, ji_le, ji_eq, ji_nat, ji_in, qV_at, qI_at, qJ_at, qD_at, qA_at, qA_no, nb0, nb1, cat_r, cat_i, Option.some.injEq, exists_eq_left', true_and, and_true, if_true, if_false, ite_not, not_true_eq_false, not_false_eq_true, Sum.inr.injEq, exists_eq_right', true_or, or_true, and_self, Int.cast_ofNat_Int, reduceCtorEq, or_false, false_or, false_and, and_false, jb_zero, lt7_0, lt7_1, lt7_2, lt7_3, lt7_4, lt7_5, lt7_6, Nat.reduceAdd, Nat.reduceLeDiff, g, ↓reduceIte, ilt_t, ilt_f, ile_t, ile_f, ieq_t, ieq_f, jb_T, jb_F, jb_t, jb_f]
    exact hq
  | succ d ih =>
    intro mf k A1 ν hd hm k0 c1 hx hi g hR hQ
    obtain ⟨mf, rfl⟩ : ∃ j, mf = j + 1 := ⟨mf - 1, by omega⟩
    have hL := hx.1
    have hk := hK k k0 (by omega)
    unfold plz at hQ
    rw [ul_X8_play_29]
    simp (disch := first | assumption | omega) only [XL_0, XL_1, XL_2, XL_3, XL_4, XL_5, XL_6, XL_7, XL_8, XL_9, XL_10, XL_11, XL_12, XL_13, XL_14, XL_15, XL_16, XL_17, XL_18, XL_19, XL_20, XL_21, XL_22, XL_23, XL_24, XL_25, XL_26, XL_27, XL_28, XL_29, XL_30, XL_31, XL_32, XL_33, XL_34, XL_35, XL_36, XL_37, XL_38, XL_39, XL_40, XL_41, XL_42, XL_43, XL_44, XL_45, XL_46, XL_47, WS_0, WS_1, WS_2, WS_3, WS_4, WS_5, WS_6, WS_7, WS_8, WS_9, WS_10, WS_11, WS_12, WS_13, WS_14, WS_15, WS_16, WS_17, WS_18, WS_19, WS_20, PS_0, PS_1, PS_2, PS_3, PS_4, PS_5, PS_6, ji_add, ji_sub, ji_mul, ji_neg, ji_lit0, ji_ofNat, ji_lt, ji_le, ji_eq, ji_nat, ji_in, qV_at, qI_at, qJ_at, qD_at, qA_at, qA_no, nb0, nb1, cat_r, cat_i, Option.some.injEq, exists_eq_left', true_and, and_true, if_true, if_false, ite_not, not_true_eq_false, not_false_eq_true, Sum.inr.injEq, exists_eq_right', true_or, or_true, and_self, Int.cast_ofNat_Int, reduceCtorEq, or_false, false_or, false_and, and_false, jb_zero, lt7_0, lt7_1, lt7_2, lt7_3, lt7_4, lt7_5, lt7_6, Nat.reduceAdd, Nat.reduceLeDiff, g, ↓reduceIte, ilt_t, ilt_f, ile_t, ile_f, ieq_t, ieq_f, jb_T, jb_F, jb_t, jb_f]
    refine e_perform hx hi hR hk.1 hk.2 k0 (by omega) (fun y y1 y2 => ?_)
    have c2 : CH (inW' x) y μ := CH.trans (y1.mono (fun a ha => ⟨ha.1, ha.2.1⟩)) c1
    have hL2 := hL.mono y1.1
    have g2 : gI y 161 (x + 1174) = ji n := ((y1.2 (x + 1174) (by unfold inX; omega)).1 161).trans g
    have hR2 : MR y (x + 1175) 160 R := hR.frame y1 (by unfold inX; omega)
    by_cases h0 : 0 ≤ (oDo A1 (K k)).2.2
    · rw [if_pos h0] at hQ
      have hn := ih mf (k + 1) _ y (by omega) (by omega) (by omega) c2 y2 (inv_do hi hk.2) g2 hR2 hQ
      rw [jb_t _ h0]
      simp (disch := first | assumption | omega) only [XL_0, XL_1, XL_2, XL_3, XL_4, XL_5, XL_6, XL_7, XL_8, XL_9, XL_10, XL_11, XL_12, XL_13, XL_14, XL_15, XL_16, XL_17, XL_18, XL_19, XL_20, XL_21, XL_22, XL_23, XL_24, XL_25, XL_26, XL_27, XL_28, XL_29, XL_30, XL_31, XL_32, XL_33, XL_34, XL_35, XL_36, XL_37, XL_38, XL_39, XL_40, XL_41, XL_42, XL_43, XL_44, XL_45, XL_46, XL_47, WS_0, WS_1, WS_2, WS_3, WS_4, WS_5, WS_6, WS_7, WS_8, WS_9, WS_10, WS_11, WS_12, WS_13, WS_14, WS_15, WS_16, WS_17, WS_18, WS_19, WS_20, PS_0, PS_1, PS_2, PS_3, PS_4, PS_5, PS_6, ji_add, ji_sub, ji_mul, ji_neg, ji_lit0, ji_ofNat, ji_lt, ji_le, ji_eq, ji_nat, ji_in, qV_at, qI_at, qJ_at, qD_at, qA_at, qA_no, nb0, nb1, cat_r, cat_i, Option.some.injEq, exists_eq_left', true_and, and_true, if_true, if_false, ite_not, not_true_eq_false, not_false_eq_true, Sum.inr.injEq, exists_eq_right', true_or, or_true, and_self, Int.cast_ofNat_Int, reduceCtorEq, or_false, false_or, false_and, and_false, jb_zero, lt7_0, lt7_1, lt7_2, lt7_3, lt7_4, lt7_5, lt7_6, Nat.reduceAdd, Nat.reduceLeDiff, c_X8_play_2, ↓reduceIte, ilt_t, ilt_f, ile_t, ile_f, ieq_t, ieq_f, jb_T, jb_F, jb_t, jb_f]
      exact hn
    · rw [if_neg h0] at hQ
      have hq := hQ y c2 y2
      rw [jb_f _ h0]
      simp (disch := first | assumption | omega) only [XL_0, XL_1, XL_2, XL_3, XL_4, XL_5, XL_6, XL_7, XL_8, XL_9, XL_10, XL_11, XL_12, XL_13, XL_14, XL_15, XL_16, XL_17, XL_18, XL_19, XL_20, XL_21, XL_22, XL_23, XL_24, XL_25, XL_26, XL_27, XL_28, XL_29, XL_30, XL_31, XL_32, XL_33, XL_34, XL_35, XL_36, XL_37, XL_38, XL_39, XL_40, XL_41, XL_42, XL_43, XL_44, XL_45, XL_46, XL_47, WS_0, WS_1, WS_2, WS_3, WS_4, WS_5, WS_6, WS_7, WS_8, WS_9, WS_10, WS_11, WS_12, WS_13, WS_14, WS_15, WS_16, WS_17, WS_18, WS_19, WS_20, PS_0, PS_1, PS_2, PS_3, PS_4, PS_5, PS_6, ji_add, ji_sub, ji_mul, ji_neg, ji_lit0, ji_ofNat, ji_lt, ji_le, ji_eq, ji_nat, ji_in, qV_at, qI_at, qJ_at, qD_at, qA_at, qA_no, nb0, nb1, cat_r, cat_i, Option.some.injEq, exists_eq_left', true_and, and_true, if_true, if_false, ite_not, not_true_eq_false, not_false_eq_true, Sum.inr.injEq, exists_eq_right', true_or, or_true, and_self, Int.cast_ofNat_Int, reduceCtorEq, or_false, false_or, false_and, and_false, jb_zero, lt7_0, lt7_1, lt7_2, lt7_3, lt7_4, lt7_5, lt7_6, Nat.reduceAdd, Nat.reduceLeDiff, c_X8_play_2, ↓reduceIte, ilt_t, ilt_f, ile_t, ile_f, ieq_t, ieq_f, jb_T, jb_F, jb_t, jb_f]
      exact hq
end
