/-! ===== the class: the script is read ===== -/
section
variable {μ ν : XM} {x : Nat} {l p n e q s : Int} {T R : Int → Int} {Q : XQ} {X : XX}
theorem pC_n {r : (Int × Int × Int × Int) × Int} (h : pC l T n p = .inr r) : n < 40 := by
  unfold pC at h
  by_cases h1 : pV l T (tB l T p) = -1
  · rw [if_pos h1] at h; simp at h
  · rw [if_neg h1] at h
    by_cases h2 : 40 ≤ n
    · rw [if_pos h2] at h; simp at h
    · omega
theorem KS.up (h : KS ν μ x l T n R p e q) : KS (sI ν 161 (x + 1174) (ji (n + 1))) μ x l T (n + 1) R p e q := by
  obtain ⟨h1, h2, h3, h4, h5, h6⟩ := h
  have c : CH (fun a => a = x + 1174) (sI ν 161 (x + 1174) (ji (n + 1))) ν := CH.sI (S := fun a => a = x + 1174) (CH.refl _ ν) _ _ _ rfl
  have g := (c.2 (x + 1171) (by omega)).1
  exact ⟨h1.sI _ _ _ (Or.inr (Or.inl rfl)), ⟨h2.1, (g 193).trans h2.2.1, (g 194).trans h2.2.2.1, fun i i0 i1 => by rw [(c.2 (x + 1172) (by omega)).2.2.1]; exact h2.2.2.2 i i0 i1⟩, (g 198).trans h3, (g 199).trans h4, gI_sI_at _ _ _ _, h6.frame c (by omega)⟩
theorem e_commands (hL : XL μ x) (hSC : SC μ x) (hK0 : e = 0 ∧ q = -1) : ∀ (d mf : Nat) (n p : Int) (ν : XM) (R : Int → Int) (K : Int → Int × Int × Int × Int), n + d = 1001 → d < mf → 0 ≤ n → n ≤ 40 → KS ν μ x l T n R p e q → (∀ k, 0 ≤ k → k < n → RO R k (K k)) → KE μ x l T e q Q (pA l T d p n K) → ln_X5_readCommands_11 Q X mf [some (.ref (x + 1174)), some (.ref (x + 1171)), some (.int (ji n))] [] ν 0 0 := by
  intro d
  induction d with
  | zero => intro mf n p ν R K hd hm n0 n1; omega
  | succ d ih =>
    intro mf n p ν R K hd hm n0 n1 hs hr hK
    obtain ⟨mf, rfl⟩ : ∃ j, mf = j + 1 := ⟨mf - 1, by omega⟩
    have hL2 := hL.mono hs.1.1
    have hT := hs.2.1
    unfold pA at hK
    rw [ul_X5_readCommands_11]
    simp (disch := first | assumption | omega) only [XL_0, XL_1, XL_2, XL_3, XL_4, XL_5, XL_6, XL_7, XL_8, XL_9, XL_10, XL_11, XL_12, XL_13, XL_14, XL_15, XL_16, XL_17, XL_18, XL_19, XL_20, XL_21, XL_22, XL_23, XL_24, XL_25, XL_26, XL_27, XL_28, XL_29, XL_30, XL_31, XL_32, XL_33, XL_34, XL_35, XL_36, XL_37, XL_38, XL_39, XL_40, XL_41, XL_42, XL_43, XL_44, XL_45, XL_46, XL_47, WS_0, WS_1, WS_2, WS_3, WS_4, WS_5, WS_6, WS_7, WS_8, WS_9, WS_10, WS_11, WS_12, WS_13, WS_14, WS_15, WS_16, WS_17, WS_18, WS_19, WS_20, PS_0, PS_1, PS_2, PS_3, PS_4, PS_5, PS_6, ji_add, ji_sub, ji_mul, ji_neg, ji_lit0, ji_ofNat, ji_lt, ji_le, ji_eq, ji_nat, ji_in, qV_at, qI_at, qJ_at, qD_at, qA_at, qA_no, nb0, nb1, cat_r, cat_i, Option.some.injEq, exists_eq_left', true_and, and_true, if_true, if_false, ite_not, not_true_eq_false, not_false_eq_true, Sum.inr.injEq, exists_eq_right', true_or, or_true, and_self, Int.cast_ofNat_Int, reduceCtorEq, or_false, false_or, false_and, and_false, jb_zero, lt7_0, lt7_1, lt7_2, lt7_3, lt7_4, lt7_5, lt7_6, Nat.reduceAdd, Nat.reduceLeDiff, ↓reduceIte, ilt_t, ilt_f, ile_t, ile_f, ieq_t, ieq_f, jb_T, jb_F, jb_t, jb_f]
    refine e_readToken hL2 hT (fun ξ r => ?_)
    have r' := r
    obtain ⟨r1, r2, r3, r4, r5⟩ := r'
    have hks := hs.ct (r.ct hs.2.2.1 hs.2.2.2.1)
    have hL3 := hL.mono hks.1.1
    have kb : tK l T (tB l T p) = 0 ∨ tK l T (tB l T p) = 1 ∨ tK l T (tB l T p) = 2 ∨ tK l T (tB l T p) = 3 ∨ tK l T (tB l T p) = 4 := by
      unfold tK
      (repeat' split) <;> omega
    by_cases h0 : tK l T (tB l T p) = 0
    · rw [if_pos h0] at hK
      have hq := hK ξ R _ hks ⟨n0, n1⟩ hr
      simp (disch := first | assumption | omega) only [XL_0, XL_1, XL_2, XL_3, XL_4, XL_5, XL_6, XL_7, XL_8, XL_9, XL_10, XL_11, XL_12, XL_13, XL_14, XL_15, XL_16, XL_17, XL_18, XL_19, XL_20, XL_21, XL_22, XL_23, XL_24, XL_25, XL_26, XL_27, XL_28, XL_29, XL_30, XL_31, XL_32, XL_33, XL_34, XL_35, XL_36, XL_37, XL_38, XL_39, XL_40, XL_41, XL_42, XL_43, XL_44, XL_45, XL_46, XL_47, WS_0, WS_1, WS_2, WS_3, WS_4, WS_5, WS_6, WS_7, WS_8, WS_9, WS_10, WS_11, WS_12, WS_13, WS_14, WS_15, WS_16, WS_17, WS_18, WS_19, WS_20, PS_0, PS_1, PS_2, PS_3, PS_4, PS_5, PS_6, ji_add, ji_sub, ji_mul, ji_neg, ji_lit0, ji_ofNat, ji_lt, ji_le, ji_eq, ji_nat, ji_in, qV_at, qI_at, qJ_at, qD_at, qA_at, qA_no, nb0, nb1, cat_r, cat_i, Option.some.injEq, exists_eq_left', true_and, and_true, if_true, if_false, ite_not, not_true_eq_false, not_false_eq_true, Sum.inr.injEq, exists_eq_right', true_or, or_true, and_self, Int.cast_ofNat_Int, reduceCtorEq, or_false, false_or, false_and, and_false, jb_zero, lt7_0, lt7_1, lt7_2, lt7_3, lt7_4, lt7_5, lt7_6, Nat.reduceAdd, Nat.reduceLeDiff, c_X5_readCommands_3, r3, h0, nb1, ↓reduceIte, ilt_t, ilt_f, ile_t, ile_f, ieq_t, ieq_f, jb_T, jb_F, jb_t, jb_f]
      exact hq
    · rw [if_neg h0] at hK
      simp (disch := first | assumption | omega) only [XL_0, XL_1, XL_2, XL_3, XL_4, XL_5, XL_6, XL_7, XL_8, XL_9, XL_10, XL_11, XL_12, XL_13, XL_14, XL_15, XL_16, XL_17, XL_18, XL_19, XL_20, XL_21, XL_22, XL_23, XL_24, XL_25, XL_26, XL_27, XL_28, XL_29, XL_30, XL_31, XL_32, XL_33, XL_34, XL_35, XL_36, XL_37, XL_38, XL_39, XL_40, XL_41, XL_42, XL_43, XL_44, XL_45, XL_46, XL_47, WS_0, WS_1, WS_2, WS_3, WS_4, WS_5, WS_6, WS_7, WS_8, WS_9, WS_10, WS_11, WS_12, WS_13, WS_14, WS_15, WS_16, WS_17, WS_18, WS_19, WS_20, PS_0, PS_1, PS_2, PS_3, PS_4, PS_5, PS_6, ji_add, ji_sub, ji_mul, ji_neg, ji_lit0, ji_ofNat, ji_lt, ji_le, ji_eq, ji_nat, ji_in, qV_at, qI_at, qJ_at, qD_at, qA_at, qA_no, nb0, nb1, cat_r, cat_i, Option.some.injEq, exists_eq_left', true_and, and_true, if_true, if_false, ite_not, not_true_eq_false, not_false_eq_true, Sum.inr.injEq, exists_eq_right', true_or, or_true, and_self, Int.cast_ofNat_Int, reduceCtorEq, or_false, false_or, false_and, and_false, jb_zero, lt7_0, lt7_1, lt7_2, lt7_3, lt7_4, lt7_5, lt7_6, Nat.reduceAdd, Nat.reduceLeDiff, c_X5_readCommands_3, r3, h0, ↓reduceIte, ilt_t, ilt_f, ile_t, ile_f, ieq_t, ieq_f, jb_T, jb_F, jb_t, jb_f]
      refine e_readCommand hL hSC hks n0 n1 hT.1.2.2.1 hT.1.2.2.2 r3 r4 ?_
      cases hc : pC l T n p with
      | inl r =>
        obtain ⟨c, s⟩ := r
        rw [hc] at hK
        intro ξ2 hf
        have hq := hK ξ2 hf
        simp (disch := first | assumption | omega) only [XL_0, XL_1, XL_2, XL_3, XL_4, XL_5, XL_6, XL_7, XL_8, XL_9, XL_10, XL_11, XL_12, XL_13, XL_14, XL_15, XL_16, XL_17, XL_18, XL_19, XL_20, XL_21, XL_22, XL_23, XL_24, XL_25, XL_26, XL_27, XL_28, XL_29, XL_30, XL_31, XL_32, XL_33, XL_34, XL_35, XL_36, XL_37, XL_38, XL_39, XL_40, XL_41, XL_42, XL_43, XL_44, XL_45, XL_46, XL_47, WS_0, WS_1, WS_2, WS_3, WS_4, WS_5, WS_6, WS_7, WS_8, WS_9, WS_10, WS_11, WS_12, WS_13, WS_14, WS_15, WS_16, WS_17, WS_18, WS_19, WS_20, PS_0, PS_1, PS_2, PS_3, PS_4, PS_5, PS_6, ji_add, ji_sub, ji_mul, ji_neg, ji_lit0, ji_ofNat, ji_lt, ji_le, ji_eq, ji_nat, ji_in, qV_at, qI_at, qJ_at, qD_at, qA_at, qA_no, nb0, nb1, cat_r, cat_i, Option.some.injEq, exists_eq_left', true_and, and_true, if_true, if_false, ite_not, not_true_eq_false, not_false_eq_true, Sum.inr.injEq, exists_eq_right', true_or, or_true, and_self, Int.cast_ofNat_Int, reduceCtorEq, or_false, false_or, false_and, and_false, jb_zero, lt7_0, lt7_1, lt7_2, lt7_3, lt7_4, lt7_5, lt7_6, Nat.reduceAdd, Nat.reduceLeDiff, c_X5_readCommands_2, nb0, ↓reduceIte, ilt_t, ilt_f, ile_t, ile_f, ieq_t, ieq_f, jb_T, jb_F, jb_t, jb_f]
        exact hq
      | inr r =>
        obtain ⟨row, p2⟩ := r
        rw [hc] at hK
        have n40 := pC_n hc
        intro ξ2 R' hf w1 w2
        have hL4 := hL.mono hf.1.1
        have g161 := hf.2.2.2.2.1
        have hn := ih mf (n + 1) p2 _ R' (fun k => if k = n then row else K k) (by omega) (by omega) (by omega) (by omega) hf.up (fun k k0 k1 => by
          by_cases hk : k = n
          · simp only [hk, if_true]
            exact w2
          · simp only [hk, if_false]
            have := hr k k0 (by omega)
            exact ⟨by rw [w1 _ (by omega)]; exact this.1, by rw [w1 _ (by omega)]; exact this.2.1, fun z => by rw [w1 _ (by omega)]; exact this.2.2.1 z, fun z => by rw [w1 _ (by omega)]; exact this.2.2.2 z⟩) hK
        simp (disch := first | assumption | omega) only [XL_0, XL_1, XL_2, XL_3, XL_4, XL_5, XL_6, XL_7, XL_8, XL_9, XL_10, XL_11, XL_12, XL_13, XL_14, XL_15, XL_16, XL_17, XL_18, XL_19, XL_20, XL_21, XL_22, XL_23, XL_24, XL_25, XL_26, XL_27, XL_28, XL_29, XL_30, XL_31, XL_32, XL_33, XL_34, XL_35, XL_36, XL_37, XL_38, XL_39, XL_40, XL_41, XL_42, XL_43, XL_44, XL_45, XL_46, XL_47, WS_0, WS_1, WS_2, WS_3, WS_4, WS_5, WS_6, WS_7, WS_8, WS_9, WS_10, WS_11, WS_12, WS_13, WS_14, WS_15, WS_16, WS_17, WS_18, WS_19, WS_20, PS_0, PS_1, PS_2, PS_3, PS_4, PS_5, PS_6, ji_add, ji_sub, ji_mul, ji_neg, ji_lit0, ji_ofNat, ji_lt, ji_le, ji_eq, ji_nat, ji_in, qV_at, qI_at, qJ_at, qD_at, qA_at, qA_no, nb0, nb1, cat_r, cat_i, Option.some.injEq, exists_eq_left', true_and, and_true, if_true, if_false, ite_not, not_true_eq_false, not_false_eq_true, Sum.inr.injEq, exists_eq_right', true_or, or_true, and_self, Int.cast_ofNat_Int, reduceCtorEq, or_false, false_or, false_and, and_false, jb_zero, lt7_0, lt7_1, lt7_2, lt7_3, lt7_4, lt7_5, lt7_6, Nat.reduceAdd, Nat.reduceLeDiff, c_X5_readCommands_2, g161, Value.category, ↓reduceIte, ilt_t, ilt_f, ile_t, ile_f, ieq_t, ieq_f, jb_T, jb_F, jb_t, jb_f]
        exact hn
theorem e_readCommands (hL : XL μ x) (hSC : SC μ x) (l0 : 0 ≤ l) (l1 : l ≤ 1000) (g3 : gI μ 193 (x + 1171) = ji l) (hT : ∀ i, 0 ≤ i → i < l → aI μ (x + 1172) i.toNat = ji (T i) ∧ 0 ≤ T i ∧ T i < 256) (K : Int → Int × Int × Int × Int) (hK : KE μ x l T 0 (-1) Q (pA l T 1001 0 0 K)) : s_X5_readCommands μ [.ref (x + 1174), .ref (x + 1171)] Q X := by
  have hL1 : XL (sI μ 161 (x + 1174) (ji 0)) x := hL.sI _ _ _
  have hL2 : XL (sI (sI μ 161 (x + 1174) (ji 0)) 194 (x + 1171) (ji 0)) x := hL1.sI _ _ _
  have hL3 : XL (sI (sI (sI μ 161 (x + 1174) (ji 0)) 194 (x + 1171) (ji 0)) 198 (x + 1171) (ji 0)) x := hL2.sI _ _ _
  have c : CH (fun a => a = x + 1171 ∨ a = x + 1174 ∨ a = x + 1175) (sI (sI (sI (sI μ 161 (x + 1174) (ji 0)) 194 (x + 1171) (ji 0)) 198 (x + 1171) (ji 0)) 199 (x + 1171) (ji (-1))) μ := (((CH.sI (S := fun a => a = x + 1171 ∨ a = x + 1174 ∨ a = x + 1175) (CH.refl _ μ) _ _ _ (Or.inr (Or.inl rfl))).sI _ _ _ (Or.inl rfl)).sI _ _ _ (Or.inl rfl)).sI _ _ _ (Or.inl rfl)
  have s0 : KS (sI (sI (sI (sI μ 161 (x + 1174) (ji 0)) 194 (x + 1171) (ji 0)) 198 (x + 1171) (ji 0)) 199 (x + 1171) (ji (-1))) μ x l T 0 (fun i => (aI (sI (sI (sI (sI μ 161 (x + 1174) (ji 0)) 194 (x + 1171) (ji 0)) 198 (x + 1171) (ji 0)) 199 (x + 1171) (ji (-1))) (x + 1175) i.toNat).toInt) 0 0 (-1) := by
    refine ⟨c, ⟨⟨l0, l1, by omega, l0⟩, ?_, ?_, fun i i0 i1 => ?_⟩, ?_, gI_sI_at _ _ _ _, ?_, MR.own _ _ _⟩
    · rw [gI_sI_k _ _ _ _ _ _ (by omega), gI_sI_k _ _ _ _ _ _ (by omega), gI_sI_k _ _ _ _ _ _ (by omega), gI_sI_a _ _ _ _ _ _ (by omega)]; exact g3
    · rw [gI_sI_k _ _ _ _ _ _ (by omega), gI_sI_k _ _ _ _ _ _ (by omega)]; exact gI_sI_at _ _ _ _
    · rw [(c.2 (x + 1172) (by omega)).2.2.1]; exact hT i i0 i1
    · rw [gI_sI_k _ _ _ _ _ _ (by omega)]; exact gI_sI_at _ _ _ _
    · rw [gI_sI_a _ _ _ _ _ _ (by omega), gI_sI_a _ _ _ _ _ _ (by omega), gI_sI_a _ _ _ _ _ _ (by omega)]; exact gI_sI_at _ _ _ _
  simp (disch := first | assumption | omega) only [XL_0, XL_1, XL_2, XL_3, XL_4, XL_5, XL_6, XL_7, XL_8, XL_9, XL_10, XL_11, XL_12, XL_13, XL_14, XL_15, XL_16, XL_17, XL_18, XL_19, XL_20, XL_21, XL_22, XL_23, XL_24, XL_25, XL_26, XL_27, XL_28, XL_29, XL_30, XL_31, XL_32, XL_33, XL_34, XL_35, XL_36, XL_37, XL_38, XL_39, XL_40, XL_41, XL_42, XL_43, XL_44, XL_45, XL_46, XL_47, WS_0, WS_1, WS_2, WS_3, WS_4, WS_5, WS_6, WS_7, WS_8, WS_9, WS_10, WS_11, WS_12, WS_13, WS_14, WS_15, WS_16, WS_17, WS_18, WS_19, WS_20, PS_0, PS_1, PS_2, PS_3, PS_4, PS_5, PS_6, ji_add, ji_sub, ji_mul, ji_neg, ji_lit0, ji_ofNat, ji_lt, ji_le, ji_eq, ji_nat, ji_in, qV_at, qI_at, qJ_at, qD_at, qA_at, qA_no, nb0, nb1, cat_r, cat_i, Option.some.injEq, exists_eq_left', true_and, and_true, if_true, if_false, ite_not, not_true_eq_false, not_false_eq_true, Sum.inr.injEq, exists_eq_right', true_or, or_true, and_self, Int.cast_ofNat_Int, reduceCtorEq, or_false, false_or, false_and, and_false, jb_zero, lt7_0, lt7_1, lt7_2, lt7_3, lt7_4, lt7_5, lt7_6, Nat.reduceAdd, Nat.reduceLeDiff, c_X5_readCommands_1, u_X5_readCommands, c_X5_readCommands_2, c_X5_readCommands_3, u_X6_beginReading, ↓reduceIte, ilt_t, ilt_f, ile_t, ile_f, ieq_t, ieq_f, jb_T, jb_F, jb_t, jb_f]
  show l_X5_readCommands_11 Q X [some (.ref (x + 1174)), some (.ref (x + 1171)), some (.int (ji 0))] [] (sI (sI (sI (sI μ 161 (x + 1174) (ji 0)) 194 (x + 1171) (ji 0)) 198 (x + 1171) (ji 0)) 199 (x + 1171) (ji (-1))) 0 0
  rw [l_X5_readCommands_11, xseal_eq]
  exact e_commands hL hSC ⟨rfl, rfl⟩ 1001 10000 0 0 _ _ K (by omega) (by omega) (by omega) (by omega) s0 (fun k k0 k1 => by omega) hK
end
