/-! ===== the class: play, whole ===== -/
section
variable {μ ν : XM} {x : Nat} {Q : XQ} {X : XX} {A : AS}
theorem inv_tx (hi : INV A) : INV (wTx A 0 0 (-1)) := by
  obtain ⟨h1, h2, h3, h4, h5⟩ := hi
  refine ⟨h1, h2, h3, ⟨by show (0 : Int) ≤ 0; omega, by show (0 : Int) ≤ 1000; omega, fun i i0 i1 => ?_⟩, ?_⟩
  · have i1 : i < 0 := i1
    omega
  · obtain ⟨h6, h7⟩ := h5
    refine ⟨?_, h7⟩
    show _
    simp only [wTx]
    omega
theorem q_play (hx : XS μ x A) (hi : INV A) (hSC : SC μ x) (hQ : CL μ x Q (xPlay A)) : s_X8_play μ [.ref x] Q X := by
  have hL := hx.1
  have hT := hx.2.2.2.2.2.1
  have hi4 := hi.2.2.2.1
  simp (disch := first | assumption | omega) only [XL_0, XL_1, XL_2, XL_3, XL_4, XL_5, XL_6, XL_7, XL_8, XL_9, XL_10, XL_11, XL_12, XL_13, XL_14, XL_15, XL_16, XL_17, XL_18, XL_19, XL_20, XL_21, XL_22, XL_23, XL_24, XL_25, XL_26, XL_27, XL_28, XL_29, XL_30, XL_31, XL_32, XL_33, XL_34, XL_35, XL_36, XL_37, XL_38, XL_39, XL_40, XL_41, XL_42, XL_43, XL_44, XL_45, XL_46, XL_47, WS_0, WS_1, WS_2, WS_3, WS_4, WS_5, WS_6, WS_7, WS_8, WS_9, WS_10, WS_11, WS_12, WS_13, WS_14, WS_15, WS_16, WS_17, WS_18, WS_19, WS_20, PS_0, PS_1, PS_2, PS_3, PS_4, PS_5, PS_6, ji_add, ji_sub, ji_mul, ji_neg, ji_lit0, ji_ofNat, ji_lt, ji_le, ji_eq, ji_nat, ji_in, qV_at, qI_at, qJ_at, qD_at, qA_at, qA_no, nb0, nb1, cat_r, cat_i, Option.some.injEq, exists_eq_left', true_and, and_true, if_true, if_false, ite_not, not_true_eq_false, not_false_eq_true, Sum.inr.injEq, exists_eq_right', true_or, or_true, and_self, Int.cast_ofNat_Int, reduceCtorEq, or_false, false_or, false_and, and_false, jb_zero, lt7_0, lt7_1, lt7_2, lt7_3, lt7_4, lt7_5, lt7_6, Nat.reduceAdd, Nat.reduceLeDiff, c_X8_play_1, u_X8_play, c_X8_play_2, ↓reduceIte, ilt_t, ilt_f, ile_t, ile_f, ieq_t, ieq_f, jb_T, jb_F, jb_t, jb_f]
  refine e_readCommands hL hSC hi4.1 hi4.2.1 hT.1 (fun i i0 i1 => ⟨hT.2.2.2 i i0 i1, hi4.2.2 i i0 i1⟩) (fun _ => (0, 0, 0, 0)) ?_
  unfold xPlay at hQ
  have XTn : ∀ (ν : XM) (c s : Int), gI ν 198 (x + 1171) = ji c → gI ν 199 (x + 1171) = ji s → XT (sI ν 193 (x + 1171) (ji 0)) x 0 A.2.2.2.2.1.2 c s := fun ν c s h1 h2 => ⟨gI_sI_at _ _ _ _, (gI_sI_k _ _ _ _ _ _ (by omega)).trans h1, (gI_sI_k _ _ _ _ _ _ (by omega)).trans h2, fun i i0 i1 => by omega⟩
  cases hr : pA A.2.2.2.2.1.1 A.2.2.2.2.1.2 1001 0 0 (fun _ => (0, 0, 0, 0)) with
  | inl r =>
    obtain ⟨c, s⟩ := r
    rw [hr] at hQ
    intro ν hf
    have hL2 := hL.mono hf.1.1
    have c1 : CH (fun a => a = x + 1171 ∨ a = x + 1174 ∨ a = x + 1175) (sI ν 193 (x + 1171) (ji 0)) μ := hf.1.sI _ _ _ (Or.inl rfl)
    have hq := hQ _ (c1.mono (fun a ha => by unfold inW'; omega)) (hx.tx hi c1 (fun a a0 a1 ha => by omega) (XTn ν c s hf.2.2.1 hf.2.2.2))
    simp (disch := first | assumption | omega) only [XL_0, XL_1, XL_2, XL_3, XL_4, XL_5, XL_6, XL_7, XL_8, XL_9, XL_10, XL_11, XL_12, XL_13, XL_14, XL_15, XL_16, XL_17, XL_18, XL_19, XL_20, XL_21, XL_22, XL_23, XL_24, XL_25, XL_26, XL_27, XL_28, XL_29, XL_30, XL_31, XL_32, XL_33, XL_34, XL_35, XL_36, XL_37, XL_38, XL_39, XL_40, XL_41, XL_42, XL_43, XL_44, XL_45, XL_46, XL_47, WS_0, WS_1, WS_2, WS_3, WS_4, WS_5, WS_6, WS_7, WS_8, WS_9, WS_10, WS_11, WS_12, WS_13, WS_14, WS_15, WS_16, WS_17, WS_18, WS_19, WS_20, PS_0, PS_1, PS_2, PS_3, PS_4, PS_5, PS_6, ji_add, ji_sub, ji_mul, ji_neg, ji_lit0, ji_ofNat, ji_lt, ji_le, ji_eq, ji_nat, ji_in, qV_at, qI_at, qJ_at, qD_at, qA_at, qA_no, nb0, nb1, cat_r, cat_i, Option.some.injEq, exists_eq_left', true_and, and_true, if_true, if_false, ite_not, not_true_eq_false, not_false_eq_true, Sum.inr.injEq, exists_eq_right', true_or, or_true, and_self, Int.cast_ofNat_Int, reduceCtorEq, or_false, false_or, false_and, and_false, jb_zero, lt7_0, lt7_1, lt7_2, lt7_3, lt7_4, lt7_5, lt7_6, Nat.reduceAdd, Nat.reduceLeDiff, c_X8_play_1, ↓reduceIte, ilt_t, ilt_f, ile_t, ile_f, ieq_t, ieq_f, jb_T, jb_F, jb_t, jb_f]
    exact hq
  | inr r =>
    obtain ⟨n, K⟩ := r
    rw [hr] at hQ
    intro ν R p hs hn hro
    have hL2 := hL.mono hs.1.1
    have c1 : CH (fun a => a = x + 1171 ∨ a = x + 1174 ∨ a = x + 1175) (sI ν 193 (x + 1171) (ji 0)) μ := hs.1.sI _ _ _ (Or.inl rfl)
    have c0 : CH (fun a => a = x + 1171) (sI ν 193 (x + 1171) (ji 0)) ν := CH.sI (S := fun a => a = x + 1171) (CH.refl _ ν) _ _ _ rfl
    have x2 := hx.tx hi c1 (fun a a0 a1 ha => by omega) (XTn ν 0 (-1) hs.2.2.1 hs.2.2.2.1)
    have hb := pA_b (l := A.2.2.2.2.1.1) (T := A.2.2.2.2.1.2) 1001 0 0 _ n K (fun k k0 k1 => by omega) hr
    simp (disch := first | assumption | omega) only [XL_0, XL_1, XL_2, XL_3, XL_4, XL_5, XL_6, XL_7, XL_8, XL_9, XL_10, XL_11, XL_12, XL_13, XL_14, XL_15, XL_16, XL_17, XL_18, XL_19, XL_20, XL_21, XL_22, XL_23, XL_24, XL_25, XL_26, XL_27, XL_28, XL_29, XL_30, XL_31, XL_32, XL_33, XL_34, XL_35, XL_36, XL_37, XL_38, XL_39, XL_40, XL_41, XL_42, XL_43, XL_44, XL_45, XL_46, XL_47, WS_0, WS_1, WS_2, WS_3, WS_4, WS_5, WS_6, WS_7, WS_8, WS_9, WS_10, WS_11, WS_12, WS_13, WS_14, WS_15, WS_16, WS_17, WS_18, WS_19, WS_20, PS_0, PS_1, PS_2, PS_3, PS_4, PS_5, PS_6, ji_add, ji_sub, ji_mul, ji_neg, ji_lit0, ji_ofNat, ji_lt, ji_le, ji_eq, ji_nat, ji_in, qV_at, qI_at, qJ_at, qD_at, qA_at, qA_no, nb0, nb1, cat_r, cat_i, Option.some.injEq, exists_eq_left', true_and, and_true, if_true, if_false, ite_not, not_true_eq_false, not_false_eq_true, Sum.inr.injEq, exists_eq_right', true_or, or_true, and_self, Int.cast_ofNat_Int, reduceCtorEq, or_false, false_or, false_and, and_false, jb_zero, lt7_0, lt7_1, lt7_2, lt7_3, lt7_4, lt7_5, lt7_6, Nat.reduceAdd, Nat.reduceLeDiff, c_X8_play_1, ↓reduceIte, ilt_t, ilt_f, ile_t, ile_f, ieq_t, ieq_f, jb_T, jb_F, jb_t, jb_f]
    rw [l_X8_play_29, xseal_eq]
    exact e_plays hn.2 (fun k k0 k1 => ⟨hro k k0 k1, hb k k0 k1⟩) n.toNat 10000 0 _ _ (by omega) (by omega) (by omega) (c1.mono (fun a ha => by unfold inW'; omega)) x2 (inv_tx hi) (((c0.2 (x + 1174) (by omega)).1 161).trans hs.2.2.2.2.1) (hs.2.2.2.2.2.frame c0 (by omega)) hQ
end
