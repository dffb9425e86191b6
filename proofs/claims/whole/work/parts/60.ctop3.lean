/-! ===== the class's questions, the rest of those without ways ===== -/
section
variable {μ : XM} {xa : Nat} {w h N s : Int} {Z : Int → Int} {Q : XQ} {X : XX}
theorem q_deadHome (hX : XW μ xa w h N s Z) {n : Int} (n1 : -2147483648 ≤ n) (n2 : n < 2147483648) : s_X8_deadHome μ [.ref xa, .int (ji n)] Q X = ocC Q X μ IOB IAE (oc1 (0 ≤ n ∧ n < Z 1) (dhm w Z (2666 + 120 * n) (Z (2666 + 120 * n + 6) - 1).toNat)) := by
  have hX' := hX
  obtain ⟨⟨X0, X1⟩, hS, hC, hI, htm, hpk⟩ := hX
  have hbz := hI.1.2.1
  have hw := hI.1.1
  rw [ocC_1]
  by_cases hn : 0 ≤ n ∧ n < Z 1
  · rw [if_pos hn]
    have hps := WS_ps hS n hn.1 (by omega)
    have hp := CW_p hC n hn.1 hn.2
    have hb := BD_p hI.1 n hn.1 hn.2
    have hb1 := hb.1
    have ht := hI.2 n hn.1 hn.2
    have p6 := hp.1.2.2.2.2.2.2.1
    have hG := hC.1
    have key : ∀ (i : Nat) (mf : Nat), i < mf → (i : Int) < Z (2666 + 120 * n + 6) → ln_X8_deadHome_27 Q X mf [some (.ref xa), none, some (.ref (pka (xa + 1) n)), some (.int (ji i)), none] [] μ 1 6 = Q (some (.int (ji (dhm w Z (2666 + 120 * n) i)))) μ := by
      intro i
      induction i with
      | zero =>
        intro mf h1 h2
        obtain ⟨mf, rfl⟩ : ∃ j, mf = j + 1 := ⟨mf - 1, by omega⟩
        rw [ul_X8_deadHome_27]
        simp (disch := first | assumption | omega) only [WS_0, WS_1, WS_2, WS_3, WS_4, WS_5, WS_6, WS_7, WS_8, WS_9, WS_10, WS_11, WS_12, WS_13, WS_14, WS_15, WS_16, WS_17, WS_18, WS_19, WS_20, PS_0, PS_1, PS_2, PS_3, PS_4, PS_5, PS_6, ji_add, ji_sub, ji_mul, ji_neg, ji_lit0, ji_ofNat, ji_lt, ji_le, ji_eq, ji_nat, ji_in, qV_at, qI_at, qJ_at, qD_at, qA_at, qA_no, nb0, nb1, cat_r, cat_i, Option.some.injEq, exists_eq_left', true_and, and_true, if_true, if_false, ite_not, not_true_eq_false, not_false_eq_true, Sum.inr.injEq, exists_eq_right', true_or, or_true, and_self, Int.cast_ofNat_Int, reduceCtorEq, or_false, false_or, false_and, and_false, jb_zero, lt7_0, lt7_1, lt7_2, lt7_3, lt7_4, lt7_5, lt7_6, Int.natCast_zero, Int.ofNat_zero, ↓reduceIte, ilt_t, ilt_f, ile_t, ile_f, ieq_t, ieq_f, jb_T, jb_F, jb_t, jb_f]
        rfl
      | succ i ih =>
        intro mf h1 h2
        obtain ⟨mf, rfl⟩ : ∃ j, mf = j + 1 := ⟨mf - 1, by omega⟩
        have e1 : ((i + 1 : Nat) : Int) = (i : Int) + 1 := by omega
        rw [e1] at h2 ⊢
        have ia := hb.2.2.1 (i + 1) (by omega) h2
        have ib := hb.2.2.1 i (by omega) (by omega)
        have hx := ht.2.1 i (by omega) h2
        have hl := adj_l hI.1.g ib.1 ib.2 (b := Z (2666 + 120 * n + 11 + (i + 1))) ia.1 hx
        have ta : trn Z (2666 + 120 * n) (i + 1) = Z (2666 + 120 * n + 11 + (i + 1)) := if_pos ⟨by omega, h2⟩
        have tb : trn Z (2666 + 120 * n) (i + 1 - 1) = Z (2666 + 120 * n + 11 + i) := by
          have e2 : (i : Int) + 1 - 1 = i := by omega
          rw [e2]
          exact if_pos ⟨by omega, by omega⟩
        have hrec := ih mf (by omega) (by omega)
        have e3 : (i : Int) + 1 + -1 = i := by omega
        rw [ul_X8_deadHome_27, dhm]
        by_cases hd : Z (2 + lkb w (Z (2666 + 120 * n + 11 + (i + 1))) (Z (2666 + 120 * n + 11 + i))) = 0
        · simp (disch := first | assumption | omega) only [WS_0, WS_1, WS_2, WS_3, WS_4, WS_5, WS_6, WS_7, WS_8, WS_9, WS_10, WS_11, WS_12, WS_13, WS_14, WS_15, WS_16, WS_17, WS_18, WS_19, WS_20, PS_0, PS_1, PS_2, PS_3, PS_4, PS_5, PS_6, ji_add, ji_sub, ji_mul, ji_neg, ji_lit0, ji_ofNat, ji_lt, ji_le, ji_eq, ji_nat, ji_in, qV_at, qI_at, qJ_at, qD_at, qA_at, qA_no, nb0, nb1, cat_r, cat_i, Option.some.injEq, exists_eq_left', true_and, and_true, if_true, if_false, ite_not, not_true_eq_false, not_false_eq_true, Sum.inr.injEq, exists_eq_right', true_or, or_true, and_self, Int.cast_ofNat_Int, reduceCtorEq, or_false, false_or, false_and, and_false, jb_zero, lt7_0, lt7_1, lt7_2, lt7_3, lt7_4, lt7_5, lt7_6, X0, X1, c_X8_deadHome_1, c_X8_deadHome_2, c_X8_deadHome_3, c_X8_deadHome_4, c_X8_deadHome_5, c_X8_deadHome_6, c_X8_deadHome_7, e_trailNode hps hp hb, ta, tb, e_linkBetween hS hG, e_isLinkDead hS hC hI.1, hd, ne_eq, e3, ↓reduceIte, ilt_t, ilt_f, ile_t, ile_f, ieq_t, ieq_f, jb_T, jb_F, jb_t, jb_f]
          exact hrec
        · simp (disch := first | assumption | omega) only [WS_0, WS_1, WS_2, WS_3, WS_4, WS_5, WS_6, WS_7, WS_8, WS_9, WS_10, WS_11, WS_12, WS_13, WS_14, WS_15, WS_16, WS_17, WS_18, WS_19, WS_20, PS_0, PS_1, PS_2, PS_3, PS_4, PS_5, PS_6, ji_add, ji_sub, ji_mul, ji_neg, ji_lit0, ji_ofNat, ji_lt, ji_le, ji_eq, ji_nat, ji_in, qV_at, qI_at, qJ_at, qD_at, qA_at, qA_no, nb0, nb1, cat_r, cat_i, Option.some.injEq, exists_eq_left', true_and, and_true, if_true, if_false, ite_not, not_true_eq_false, not_false_eq_true, Sum.inr.injEq, exists_eq_right', true_or, or_true, and_self, Int.cast_ofNat_Int, reduceCtorEq, or_false, false_or, false_and, and_false, jb_zero, lt7_0, lt7_1, lt7_2, lt7_3, lt7_4, lt7_5, lt7_6, X0, X1, c_X8_deadHome_1, c_X8_deadHome_2, c_X8_deadHome_3, c_X8_deadHome_4, c_X8_deadHome_5, c_X8_deadHome_6, c_X8_deadHome_7, e_trailNode hps hp hb, ta, tb, e_linkBetween hS hG, e_isLinkDead hS hC hI.1, hd, ne_eq, e3, ↓reduceIte, ilt_t, ilt_f, ile_t, ile_f, ieq_t, ieq_f, jb_T, jb_F, jb_t, jb_f]
    simp (disch := first | assumption | omega) only [WS_0, WS_1, WS_2, WS_3, WS_4, WS_5, WS_6, WS_7, WS_8, WS_9, WS_10, WS_11, WS_12, WS_13, WS_14, WS_15, WS_16, WS_17, WS_18, WS_19, WS_20, PS_0, PS_1, PS_2, PS_3, PS_4, PS_5, PS_6, ji_add, ji_sub, ji_mul, ji_neg, ji_lit0, ji_ofNat, ji_lt, ji_le, ji_eq, ji_nat, ji_in, qV_at, qI_at, qJ_at, qD_at, qA_at, qA_no, nb0, nb1, cat_r, cat_i, Option.some.injEq, exists_eq_left', true_and, and_true, if_true, if_false, ite_not, not_true_eq_false, not_false_eq_true, Sum.inr.injEq, exists_eq_right', true_or, or_true, and_self, Int.cast_ofNat_Int, reduceCtorEq, or_false, false_or, false_and, and_false, jb_zero, lt7_0, lt7_1, lt7_2, lt7_3, lt7_4, lt7_5, lt7_6, c_X8_deadHome_1, c_X8_deadHome_2, c_X8_deadHome_3, u_X8_deadHome, c_X8_deadHome_4, c_X8_deadHome_5, c_X8_deadHome_6, c_X8_deadHome_7, X0, X1, q_reqPacket hX', e_packetOf hS hC hI.1, p6, hn, Nat.reduceAdd, Nat.reduceLeDiff, ↓reduceIte, ilt_t, ilt_f, ile_t, ile_f, ieq_t, ieq_f, jb_T, jb_F, jb_t, jb_f]
    rw [l_X8_deadHome_27, xseal_eq]
    have hk := key (Z (2666 + 120 * n + 6) - 1).toNat 10000 (by omega) (by omega)
    rw [Int.toNat_of_nonneg (by omega)] at hk
    exact hk
  · simp (disch := first | assumption | omega) only [WS_0, WS_1, WS_2, WS_3, WS_4, WS_5, WS_6, WS_7, WS_8, WS_9, WS_10, WS_11, WS_12, WS_13, WS_14, WS_15, WS_16, WS_17, WS_18, WS_19, WS_20, PS_0, PS_1, PS_2, PS_3, PS_4, PS_5, PS_6, ji_add, ji_sub, ji_mul, ji_neg, ji_lit0, ji_ofNat, ji_lt, ji_le, ji_eq, ji_nat, ji_in, qV_at, qI_at, qJ_at, qD_at, qA_at, qA_no, nb0, nb1, cat_r, cat_i, Option.some.injEq, exists_eq_left', true_and, and_true, if_true, if_false, ite_not, not_true_eq_false, not_false_eq_true, Sum.inr.injEq, exists_eq_right', true_or, or_true, and_self, Int.cast_ofNat_Int, reduceCtorEq, or_false, false_or, false_and, and_false, jb_zero, lt7_0, lt7_1, lt7_2, lt7_3, lt7_4, lt7_5, lt7_6, c_X8_deadHome_1, c_X8_deadHome_2, c_X8_deadHome_3, u_X8_deadHome, c_X8_deadHome_4, c_X8_deadHome_5, c_X8_deadHome_6, c_X8_deadHome_7, X0, X1, q_reqPacket hX', hn, Nat.reduceAdd, Nat.reduceLeDiff, ↓reduceIte, ilt_t, ilt_f, ile_t, ile_f, ieq_t, ieq_f, jb_T, jb_F, jb_t, jb_f]
theorem q_digest (hX : XW μ xa w h N s Z) : s_X8_digest μ [.ref xa] Q X = Q (some (.int (ji (dig w h N s Z)))) μ := by
  obtain ⟨⟨X0, X1⟩, hS, hC, hI, htm, hpk⟩ := hX
  have hbz := hI.1.2.1
  have c2 := hC.2.2.1
  have c3 := hC.2.2.2.1
  have key : ∀ v, l_X8_digest_63 Q X [some (.ref xa), some (.int (ji v)), some (.int (ji 0)), none] [] μ 0 0 = Q (some (.int (ji (31 * foldz (dgk Z) 0 (Z 1).toNat v + alc s N 0 Z)))) μ := by
    intro v
    rw [l_X8_digest_63, xseal_eq]
    refine fold_loop (fun mf x l => ln_X8_digest_63 Q X mf [some (.ref xa), some (.int (ji x)), some (.int (ji l)), none] [] μ 0 0) (fun x => Q (some (.int (ji (31 * x + alc s N 0 Z)))) μ) (fun l x => dgk Z l x) (fun l x => True) (Z 1) (fun mf x hx => ?_) (fun mf x l l0 l1 hx => ⟨?_, ?_⟩) _ 10000 (0) (v) (by omega) (by omega) (by omega) (trivial)
    · show ln_X8_digest_63 Q X (mf + 1) [some (.ref xa), some (.int (ji x)), some (.int (ji (Z 1))), none] [] μ 0 0 = Q (some (.int (ji (31 * x + alc s N 0 Z)))) μ
      rw [ul_X8_digest_63]
      simp (disch := first | assumption | omega) only [WS_0, WS_1, WS_2, WS_3, WS_4, WS_5, WS_6, WS_7, WS_8, WS_9, WS_10, WS_11, WS_12, WS_13, WS_14, WS_15, WS_16, WS_17, WS_18, WS_19, WS_20, PS_0, PS_1, PS_2, PS_3, PS_4, PS_5, PS_6, ji_add, ji_sub, ji_mul, ji_neg, ji_lit0, ji_ofNat, ji_lt, ji_le, ji_eq, ji_nat, ji_in, qV_at, qI_at, qJ_at, qD_at, qA_at, qA_no, nb0, nb1, cat_r, cat_i, Option.some.injEq, exists_eq_left', true_and, and_true, if_true, if_false, ite_not, not_true_eq_false, not_false_eq_true, Sum.inr.injEq, exists_eq_right', true_or, or_true, and_self, Int.cast_ofNat_Int, reduceCtorEq, or_false, false_or, false_and, and_false, jb_zero, lt7_0, lt7_1, lt7_2, lt7_3, lt7_4, lt7_5, lt7_6, c_X8_digest_1, c_X8_digest_2, c_X8_digest_3, c_X8_digest_4, c_X8_digest_5, X0, X1, c3, c_X8_digest_3, e_countAllLessons hS hC hI.1, ↓reduceIte, ilt_t, ilt_f, ile_t, ile_f, ieq_t, ieq_f, jb_T, jb_F, jb_t, jb_f]
      rfl
    · show ln_X8_digest_63 Q X (mf + 1) [some (.ref xa), some (.int (ji x)), some (.int (ji l)), none] [] μ 0 0 = ln_X8_digest_63 Q X mf [some (.ref xa), some (.int (ji (dgk Z l x))), some (.int (ji (l + 1))), none] [] μ 0 0
      rw [ul_X8_digest_63]
      have hps := WS_ps hS l l0 (by omega)
      have hp := (CW_p hC l l0 l1).1
      have p3 := hp.2.2.2.1
      have p4 := hp.2.2.2.2.1
      have p5 := hp.2.2.2.2.2.1
      unfold dgk
      simp (disch := first | assumption | omega) only [WS_0, WS_1, WS_2, WS_3, WS_4, WS_5, WS_6, WS_7, WS_8, WS_9, WS_10, WS_11, WS_12, WS_13, WS_14, WS_15, WS_16, WS_17, WS_18, WS_19, WS_20, PS_0, PS_1, PS_2, PS_3, PS_4, PS_5, PS_6, ji_add, ji_sub, ji_mul, ji_neg, ji_lit0, ji_ofNat, ji_lt, ji_le, ji_eq, ji_nat, ji_in, qV_at, qI_at, qJ_at, qD_at, qA_at, qA_no, nb0, nb1, cat_r, cat_i, Option.some.injEq, exists_eq_left', true_and, and_true, if_true, if_false, ite_not, not_true_eq_false, not_false_eq_true, Sum.inr.injEq, exists_eq_right', true_or, or_true, and_self, Int.cast_ofNat_Int, reduceCtorEq, or_false, false_or, false_and, and_false, jb_zero, lt7_0, lt7_1, lt7_2, lt7_3, lt7_4, lt7_5, lt7_6, c_X8_digest_1, c_X8_digest_2, c_X8_digest_3, c_X8_digest_4, c_X8_digest_5, X0, X1, c3, c_X8_digest_4, e_packetOf hS hC hI.1, p3, p4, p5, ↓reduceIte, ilt_t, ilt_f, ile_t, ile_f, ieq_t, ieq_f, jb_T, jb_F, jb_t, jb_f]
    · show True
      trivial
  unfold dig
  rw [← key]
  simp (disch := first | assumption | omega) only [WS_0, WS_1, WS_2, WS_3, WS_4, WS_5, WS_6, WS_7, WS_8, WS_9, WS_10, WS_11, WS_12, WS_13, WS_14, WS_15, WS_16, WS_17, WS_18, WS_19, WS_20, PS_0, PS_1, PS_2, PS_3, PS_4, PS_5, PS_6, ji_add, ji_sub, ji_mul, ji_neg, ji_lit0, ji_ofNat, ji_lt, ji_le, ji_eq, ji_nat, ji_in, qV_at, qI_at, qJ_at, qD_at, qA_at, qA_no, nb0, nb1, cat_r, cat_i, Option.some.injEq, exists_eq_left', true_and, and_true, if_true, if_false, ite_not, not_true_eq_false, not_false_eq_true, Sum.inr.injEq, exists_eq_right', true_or, or_true, and_self, Int.cast_ofNat_Int, reduceCtorEq, or_false, false_or, false_and, and_false, jb_zero, lt7_0, lt7_1, lt7_2, lt7_3, lt7_4, lt7_5, lt7_6, u_X8_digest, c_X8_digest_1, c_X8_digest_2, c_X8_digest_3, c_X8_digest_4, c_X8_digest_5, X0, X1, c2, ↓reduceIte, ilt_t, ilt_f, ile_t, ile_f, ieq_t, ieq_f, jb_T, jb_F, jb_t, jb_f]
  rw [l_X8_digest_13, xseal_eq]
  refine fold_loop (fun mf x l => ln_X8_digest_13 Q X mf [some (.ref xa), some (.int (ji x)), some (.int (ji l)), none] [] μ 0 0) (fun x => l_X8_digest_63 Q X [some (.ref xa), some (.int (ji x)), some (.int (ji 0)), none] [] μ 0 0) (fun l x => dgl w h N Z l x) (fun l x => True) (72) (fun mf x hx => ?_) (fun mf x l l0 l1 hx => ⟨?_, ?_⟩) _ 10000 (0) (31 + Z 0) (by omega) (by omega) (by omega) (trivial)
  · show ln_X8_digest_13 Q X (mf + 1) [some (.ref xa), some (.int (ji x)), some (.int (ji (72))), none] [] μ 0 0 = l_X8_digest_63 Q X [some (.ref xa), some (.int (ji x)), some (.int (ji 0)), none] [] μ 0 0
    rw [ul_X8_digest_13]
    simp (disch := first | assumption | omega) only [WS_0, WS_1, WS_2, WS_3, WS_4, WS_5, WS_6, WS_7, WS_8, WS_9, WS_10, WS_11, WS_12, WS_13, WS_14, WS_15, WS_16, WS_17, WS_18, WS_19, WS_20, PS_0, PS_1, PS_2, PS_3, PS_4, PS_5, PS_6, ji_add, ji_sub, ji_mul, ji_neg, ji_lit0, ji_ofNat, ji_lt, ji_le, ji_eq, ji_nat, ji_in, qV_at, qI_at, qJ_at, qD_at, qA_at, qA_no, nb0, nb1, cat_r, cat_i, Option.some.injEq, exists_eq_left', true_and, and_true, if_true, if_false, ite_not, not_true_eq_false, not_false_eq_true, Sum.inr.injEq, exists_eq_right', true_or, or_true, and_self, Int.cast_ofNat_Int, reduceCtorEq, or_false, false_or, false_and, and_false, jb_zero, lt7_0, lt7_1, lt7_2, lt7_3, lt7_4, lt7_5, lt7_6, c_X8_digest_1, c_X8_digest_2, c_X8_digest_3, c_X8_digest_4, c_X8_digest_5, ↓reduceIte, ilt_t, ilt_f, ile_t, ile_f, ieq_t, ieq_f, jb_T, jb_F, jb_t, jb_f]
  · show ln_X8_digest_13 Q X (mf + 1) [some (.ref xa), some (.int (ji x)), some (.int (ji l)), none] [] μ 0 0 = ln_X8_digest_13 Q X mf [some (.ref xa), some (.int (ji (dgl w h N Z l x))), some (.int (ji (l + 1))), none] [] μ 0 0
    rw [ul_X8_digest_13]
    unfold dgl
    by_cases hl : isl w h N l = true <;> by_cases hd : Z (2 + l) = 0 <;> simp (disch := first | assumption | omega) only [WS_0, WS_1, WS_2, WS_3, WS_4, WS_5, WS_6, WS_7, WS_8, WS_9, WS_10, WS_11, WS_12, WS_13, WS_14, WS_15, WS_16, WS_17, WS_18, WS_19, WS_20, PS_0, PS_1, PS_2, PS_3, PS_4, PS_5, PS_6, ji_add, ji_sub, ji_mul, ji_neg, ji_lit0, ji_ofNat, ji_lt, ji_le, ji_eq, ji_nat, ji_in, qV_at, qI_at, qJ_at, qD_at, qA_at, qA_no, nb0, nb1, cat_r, cat_i, Option.some.injEq, exists_eq_left', true_and, and_true, if_true, if_false, ite_not, not_true_eq_false, not_false_eq_true, Sum.inr.injEq, exists_eq_right', true_or, or_true, and_self, Int.cast_ofNat_Int, reduceCtorEq, or_false, false_or, false_and, and_false, jb_zero, lt7_0, lt7_1, lt7_2, lt7_3, lt7_4, lt7_5, lt7_6, c_X8_digest_1, c_X8_digest_2, c_X8_digest_3, c_X8_digest_4, c_X8_digest_5, X0, X1, c_X8_digest_1, c_X8_digest_2, e_hasLink hS hC.1, e_isLinkDead hS hC hI.1, hl, hd, ne_eq, Bool.false_eq_true, ↓reduceIte, ilt_t, ilt_f, ile_t, ile_f, ieq_t, ieq_f, jb_T, jb_F, jb_t, jb_f]
  · show True
    trivial
theorem q_nextStale (hX : XW μ xa w h N s Z) : s_X8_nextStale μ [.ref xa] Q X = Q (some (.int (ji (if nsf s N Z = -1 then -1 else nsf s N Z + s)))) μ := by
  obtain ⟨⟨X0, X1⟩, hS, hC, hI, htm, hpk⟩ := hX
  have hbz := hI.1.2.1
  have hw := hI.1.1
  have nn := nodesX hC
  have c1 := hC.2.1
  have hin : ∀ (mf : Nat) (n v : Int), 0 ≤ n → n < N → -1 ≤ v → v ≤ 31000 → l_X8_nextStale_20 Q X (ln_X8_nextStale_4 Q X mf) [some (.ref xa), some (.int (ji v)), some (.int (ji n)), some (.int (ji 0)), none] [] μ 0 0 = ln_X8_nextStale_4 Q X mf [some (.ref xa), some (.int (ji (foldz (nsg s Z n) 0 72 v))), some (.int (ji (n + 1))), none, none] [] μ 0 0 ∧ -1 ≤ foldz (nsg s Z n) 0 72 v ∧ foldz (nsg s Z n) 0 72 v ≤ 31000 := by
    intro mf n v n0 n1 v0 v1
    refine ⟨?_, foldz_inv (nsg s Z n) (fun o => -1 ≤ o ∧ o ≤ 31000) 0 72 (fun l o l0 l1 ho => ?_) 72 0 v (by omega) (by omega) ⟨v0, v1⟩⟩
    · rw [l_X8_nextStale_20, xseal_eq]
      refine fold_loop (fun mg o l => ln_X8_nextStale_20 Q X (ln_X8_nextStale_4 Q X mf) mg [some (.ref xa), some (.int (ji o)), some (.int (ji n)), some (.int (ji l)), none] [] μ 0 0) (fun o => ln_X8_nextStale_4 Q X mf [some (.ref xa), some (.int (ji o)), some (.int (ji (n + 1))), none, none] [] μ 0 0) (nsg s Z n) (fun l o => -1 ≤ o ∧ o ≤ 31000) 72 (fun mg o ho => ?_) (fun mg o l l0 l1 ho => ⟨?_, ?_⟩) 72 10000 0 v (by omega) (by omega) (by omega) ⟨v0, v1⟩
      · show ln_X8_nextStale_20 Q X (ln_X8_nextStale_4 Q X mf) (mg + 1) [some (.ref xa), some (.int (ji o)), some (.int (ji n)), some (.int (ji 72)), none] [] μ 0 0 = ln_X8_nextStale_4 Q X mf [some (.ref xa), some (.int (ji o)), some (.int (ji (n + 1))), none, none] [] μ 0 0
        rw [ul_X8_nextStale_20]
        simp (disch := first | assumption | omega) only [WS_0, WS_1, WS_2, WS_3, WS_4, WS_5, WS_6, WS_7, WS_8, WS_9, WS_10, WS_11, WS_12, WS_13, WS_14, WS_15, WS_16, WS_17, WS_18, WS_19, WS_20, PS_0, PS_1, PS_2, PS_3, PS_4, PS_5, PS_6, ji_add, ji_sub, ji_mul, ji_neg, ji_lit0, ji_ofNat, ji_lt, ji_le, ji_eq, ji_nat, ji_in, qV_at, qI_at, qJ_at, qD_at, qA_at, qA_no, nb0, nb1, cat_r, cat_i, Option.some.injEq, exists_eq_left', true_and, and_true, if_true, if_false, ite_not, not_true_eq_false, not_false_eq_true, Sum.inr.injEq, exists_eq_right', true_or, or_true, and_self, Int.cast_ofNat_Int, reduceCtorEq, or_false, false_or, false_and, and_false, jb_zero, lt7_0, lt7_1, lt7_2, lt7_3, lt7_4, lt7_5, lt7_6, ↓reduceIte, ilt_t, ilt_f, ile_t, ile_f, ieq_t, ieq_f, jb_T, jb_F, jb_t, jb_f]
      · show ln_X8_nextStale_20 Q X (ln_X8_nextStale_4 Q X mf) (mg + 1) [some (.ref xa), some (.int (ji o)), some (.int (ji n)), some (.int (ji l)), none] [] μ 0 0 = ln_X8_nextStale_20 Q X (ln_X8_nextStale_4 Q X mf) mg [some (.ref xa), some (.int (ji (nsg s Z n l o))), some (.int (ji n)), some (.int (ji (l + 1))), none] [] μ 0 0
        have hl := les_b hI.1 n l
        unfold nsg
        rw [ul_X8_nextStale_20]
        by_cases hh : hol s Z n l = true <;> by_cases h1 : o = -1 <;> by_cases h2 : les Z n l < o <;> first | (exfalso; omega) | (simp (disch := first | assumption | omega) only [WS_0, WS_1, WS_2, WS_3, WS_4, WS_5, WS_6, WS_7, WS_8, WS_9, WS_10, WS_11, WS_12, WS_13, WS_14, WS_15, WS_16, WS_17, WS_18, WS_19, WS_20, PS_0, PS_1, PS_2, PS_3, PS_4, PS_5, PS_6, ji_add, ji_sub, ji_mul, ji_neg, ji_lit0, ji_ofNat, ji_lt, ji_le, ji_eq, ji_nat, ji_in, qV_at, qI_at, qJ_at, qD_at, qA_at, qA_no, nb0, nb1, cat_r, cat_i, Option.some.injEq, exists_eq_left', true_and, and_true, if_true, if_false, ite_not, not_true_eq_false, not_false_eq_true, Sum.inr.injEq, exists_eq_right', true_or, or_true, and_self, Int.cast_ofNat_Int, reduceCtorEq, or_false, false_or, false_and, and_false, jb_zero, lt7_0, lt7_1, lt7_2, lt7_3, lt7_4, lt7_5, lt7_6, X0, X1, c_X8_nextStale_1, c_X8_nextStale_2, e_lessonTime hS hC, e_isWarned hS hC hI.1, hh, h1, h2, Bool.false_eq_true, ↓reduceIte, ilt_t, ilt_f, ile_t, ile_f, ieq_t, ieq_f, jb_T, jb_F, jb_t, jb_f])
      · show -1 ≤ nsg s Z n l o ∧ nsg s Z n l o ≤ 31000
        have hl := les_b hI.1 n l
        unfold nsg
        split <;> omega
    · have hl := les_b hI.1 n l
      unfold nsg
      split <;> omega
  unfold nsf
  rw [u_X8_nextStale, l_X8_nextStale_4, xseal_eq]
  refine fold_loop (fun mf x l => ln_X8_nextStale_4 Q X mf [some (.ref xa), some (.int (ji x)), some (.int (ji l)), none, none] [] μ 0 0) (fun x => Q (some (.int (ji (if x = -1 then -1 else x + s)))) μ) (fun l x => foldz (nsg s Z l) 0 72 x) (fun l x => -1 ≤ x ∧ x ≤ 31000) (N) (fun mf x hx => ?_) (fun mf x l l0 l1 hx => ⟨?_, ?_⟩) _ 10000 (0) (-1) (by omega) (by omega) (by omega) (by omega)
  · show ln_X8_nextStale_4 Q X (mf + 1) [some (.ref xa), some (.int (ji x)), some (.int (ji (N))), none, none] [] μ 0 0 = Q (some (.int (ji (if x = -1 then -1 else x + s)))) μ
    rw [ul_X8_nextStale_4]
    by_cases h1 : x = -1 <;> simp (disch := first | assumption | omega) only [WS_0, WS_1, WS_2, WS_3, WS_4, WS_5, WS_6, WS_7, WS_8, WS_9, WS_10, WS_11, WS_12, WS_13, WS_14, WS_15, WS_16, WS_17, WS_18, WS_19, WS_20, PS_0, PS_1, PS_2, PS_3, PS_4, PS_5, PS_6, ji_add, ji_sub, ji_mul, ji_neg, ji_lit0, ji_ofNat, ji_lt, ji_le, ji_eq, ji_nat, ji_in, qV_at, qI_at, qJ_at, qD_at, qA_at, qA_no, nb0, nb1, cat_r, cat_i, Option.some.injEq, exists_eq_left', true_and, and_true, if_true, if_false, ite_not, not_true_eq_false, not_false_eq_true, Sum.inr.injEq, exists_eq_right', true_or, or_true, and_self, Int.cast_ofNat_Int, reduceCtorEq, or_false, false_or, false_and, and_false, jb_zero, lt7_0, lt7_1, lt7_2, lt7_3, lt7_4, lt7_5, lt7_6, c_X8_nextStale_1, c_X8_nextStale_2, X0, X1, nn, c1, h1, ↓reduceIte, ilt_t, ilt_f, ile_t, ile_f, ieq_t, ieq_f, jb_T, jb_F, jb_t, jb_f]
  · show ln_X8_nextStale_4 Q X (mf + 1) [some (.ref xa), some (.int (ji x)), some (.int (ji l)), none, none] [] μ 0 0 = ln_X8_nextStale_4 Q X mf [some (.ref xa), some (.int (ji (foldz (nsg s Z l) 0 72 x))), some (.int (ji (l + 1))), none, none] [] μ 0 0
    rw [ul_X8_nextStale_4]
    obtain ⟨i1, -⟩ := hin mf l x l0 l1 hx.1 hx.2
    simp (disch := first | assumption | omega) only [WS_0, WS_1, WS_2, WS_3, WS_4, WS_5, WS_6, WS_7, WS_8, WS_9, WS_10, WS_11, WS_12, WS_13, WS_14, WS_15, WS_16, WS_17, WS_18, WS_19, WS_20, PS_0, PS_1, PS_2, PS_3, PS_4, PS_5, PS_6, ji_add, ji_sub, ji_mul, ji_neg, ji_lit0, ji_ofNat, ji_lt, ji_le, ji_eq, ji_nat, ji_in, qV_at, qI_at, qJ_at, qD_at, qA_at, qA_no, nb0, nb1, cat_r, cat_i, Option.some.injEq, exists_eq_left', true_and, and_true, if_true, if_false, ite_not, not_true_eq_false, not_false_eq_true, Sum.inr.injEq, exists_eq_right', true_or, or_true, and_self, Int.cast_ofNat_Int, reduceCtorEq, or_false, false_or, false_and, and_false, jb_zero, lt7_0, lt7_1, lt7_2, lt7_3, lt7_4, lt7_5, lt7_6, c_X8_nextStale_1, c_X8_nextStale_2, X0, X1, nn, ↓reduceIte, ilt_t, ilt_f, ile_t, ile_f, ieq_t, ieq_f, jb_T, jb_F, jb_t, jb_f]
    exact i1
  · show -1 ≤ (foldz (nsg s Z l) 0 72 x) ∧ (foldz (nsg s Z l) 0 72 x) ≤ 31000
    exact (hin 0 l x l0 l1 hx.1 hx.2).2
theorem sn_tb (hC : CW μ (xa + 1) w h N s Z) (hB : BD w h N s Z) {n : Int} (n0 : 0 ≤ n) (n1 : n < 64) : tb (foldz (fun k x => x ||| gL μ 105 (pka (xa + 1) k)) 0 (Z 1).toNat (jl 0)) n = sn Z n := by
  have hbz := hB.2.1
  unfold sn
  have H : ∀ (d : Nat) (l : Int) (x : Int64) (b : Bool), 0 ≤ l → l + d ≤ Z 1 → tb x n = b → tb (foldz (fun k x => x ||| gL μ 105 (pka (xa + 1) k)) l d x) n = foldz (fun k b => b || vis Z ((2666 + 120 * k)) n) l d b := by
    intro d
    induction d with
    | zero => intro l x b _ _ e; exact e
    | succ d ih =>
      intro l x b l0 l1 e
      refine ih (l + 1) _ _ (by omega) (by omega) ?_
      rw [tb_or, e, (CW_p hC l l0 (by omega)).2.1 n n0 n1]
  exact H (Z 1).toNat 0 (jl 0) false (by omega) (by omega) (tb_zero n)
theorem q_unvisited (hX : XW μ xa w h N s Z) {i : Int} (n1 : -2147483648 ≤ i) (n2 : i < 2147483648) : s_X8_unvisited μ [.ref xa, .int (ji i)] Q X = ocC Q X μ IOB IAE (oc1 (0 ≤ i) (unf Z N i)) := by
  obtain ⟨⟨X0, X1⟩, hS, hC, hI, htm, hpk⟩ := hX
  have hw := hI.1.1
  have nn := nodesX hC
  rw [ocC_1]
  by_cases hn : 0 ≤ i
  · rw [if_pos hn]
    have hts := fun n n0 n1 => sn_tb hC hI.1 (n := n) n0 n1
    simp (disch := first | assumption | omega) only [WS_0, WS_1, WS_2, WS_3, WS_4, WS_5, WS_6, WS_7, WS_8, WS_9, WS_10, WS_11, WS_12, WS_13, WS_14, WS_15, WS_16, WS_17, WS_18, WS_19, WS_20, PS_0, PS_1, PS_2, PS_3, PS_4, PS_5, PS_6, ji_add, ji_sub, ji_mul, ji_neg, ji_lit0, ji_ofNat, ji_lt, ji_le, ji_eq, ji_nat, ji_in, qV_at, qI_at, qJ_at, qD_at, qA_at, qA_no, nb0, nb1, cat_r, cat_i, Option.some.injEq, exists_eq_left', true_and, and_true, if_true, if_false, ite_not, not_true_eq_false, not_false_eq_true, Sum.inr.injEq, exists_eq_right', true_or, or_true, and_self, Int.cast_ofNat_Int, reduceCtorEq, or_false, false_or, false_and, and_false, jb_zero, lt7_0, lt7_1, lt7_2, lt7_3, lt7_4, lt7_5, lt7_6, c_X8_unvisited_1, c_X8_unvisited_2, u_X8_unvisited, X0, X1, q_reqNotNeg, e_visitedByAny hS hC hI.1, hn, Nat.reduceAdd, Nat.reduceLeDiff, ↓reduceIte, ilt_t, ilt_f, ile_t, ile_f, ieq_t, ieq_f, jb_T, jb_F, jb_t, jb_f]
    generalize foldz (fun k x => x ||| gL μ 105 (pka (xa + 1) k)) 0 (Z 1).toNat (jl 0) = V at hts ⊢
    have e : eit (fun _ => Q (some (.int (ji (-1)))) μ) (fun r => Q (some (.int (ji r))) μ) (findz (ung Z i) 0 N.toNat 0) = Q (some (.int (ji (unf Z N i)))) μ := by
      unfold unf
      cases findz (ung Z i) 0 N.toNat 0 <;> rfl
    rw [← e]
    rw [l_X8_unvisited_18, xseal_eq]
    refine find_loop (fun mf x l => ln_X8_unvisited_18 Q X mf [some (.ref xa), some (.int (ji i)), some (.long V), none, some (.int (ji x)), some (.int (ji l))] [] μ 1 6) (fun x => Q (some (.int (ji (-1)))) μ) (fun r => Q (some (.int (ji r))) μ) (fun l x => ung Z i l x) (fun l x => 0 ≤ x ∧ x ≤ l) (N) (fun mf x hx => ?_) (fun mf x l l0 l1 hx => ⟨?_, ?_⟩) _ 10000 (0) (0) (by omega) (by omega) (by omega) (by omega)
    · show ln_X8_unvisited_18 Q X (mf + 1) [some (.ref xa), some (.int (ji i)), some (.long V), none, some (.int (ji x)), some (.int (ji (N)))] [] μ 1 6 = Q (some (.int (ji (-1)))) μ
      rw [ul_X8_unvisited_18]
      simp (disch := first | assumption | omega) only [WS_0, WS_1, WS_2, WS_3, WS_4, WS_5, WS_6, WS_7, WS_8, WS_9, WS_10, WS_11, WS_12, WS_13, WS_14, WS_15, WS_16, WS_17, WS_18, WS_19, WS_20, PS_0, PS_1, PS_2, PS_3, PS_4, PS_5, PS_6, ji_add, ji_sub, ji_mul, ji_neg, ji_lit0, ji_ofNat, ji_lt, ji_le, ji_eq, ji_nat, ji_in, qV_at, qI_at, qJ_at, qD_at, qA_at, qA_no, nb0, nb1, cat_r, cat_i, Option.some.injEq, exists_eq_left', true_and, and_true, if_true, if_false, ite_not, not_true_eq_false, not_false_eq_true, Sum.inr.injEq, exists_eq_right', true_or, or_true, and_self, Int.cast_ofNat_Int, reduceCtorEq, or_false, false_or, false_and, and_false, jb_zero, lt7_0, lt7_1, lt7_2, lt7_3, lt7_4, lt7_5, lt7_6, c_X8_unvisited_1, c_X8_unvisited_2, X0, X1, nn, ↓reduceIte, ilt_t, ilt_f, ile_t, ile_f, ieq_t, ieq_f, jb_T, jb_F, jb_t, jb_f]
    · show ln_X8_unvisited_18 Q X (mf + 1) [some (.ref xa), some (.int (ji i)), some (.long V), none, some (.int (ji x)), some (.int (ji l))] [] μ 1 6 = eit (fun x => ln_X8_unvisited_18 Q X mf [some (.ref xa), some (.int (ji i)), some (.long V), none, some (.int (ji x)), some (.int (ji (l + 1)))] [] μ 1 6) (fun r => Q (some (.int (ji r))) μ) (ung Z i l x)
      rw [ul_X8_unvisited_18]
      have ht := hts l l0 (by omega)
      unfold ung
      by_cases hs : sn Z l = true
      · rw [hs] at ht
        simp (disch := first | assumption | omega) only [WS_0, WS_1, WS_2, WS_3, WS_4, WS_5, WS_6, WS_7, WS_8, WS_9, WS_10, WS_11, WS_12, WS_13, WS_14, WS_15, WS_16, WS_17, WS_18, WS_19, WS_20, PS_0, PS_1, PS_2, PS_3, PS_4, PS_5, PS_6, ji_add, ji_sub, ji_mul, ji_neg, ji_lit0, ji_ofNat, ji_lt, ji_le, ji_eq, ji_nat, ji_in, qV_at, qI_at, qJ_at, qD_at, qA_at, qA_no, nb0, nb1, cat_r, cat_i, Option.some.injEq, exists_eq_left', true_and, and_true, if_true, if_false, ite_not, not_true_eq_false, not_false_eq_true, Sum.inr.injEq, exists_eq_right', true_or, or_true, and_self, Int.cast_ofNat_Int, reduceCtorEq, or_false, false_or, false_and, and_false, jb_zero, lt7_0, lt7_1, lt7_2, lt7_3, lt7_4, lt7_5, lt7_6, c_X8_unvisited_1, c_X8_unvisited_2, X0, X1, nn, xlc_eq, tb_and l0, ht, hs, Bool.true_eq_false, ↓reduceIte, ilt_t, ilt_f, ile_t, ile_f, ieq_t, ieq_f, jb_T, jb_F, jb_t, jb_f]
        rfl
      · have hs' : sn Z l = false := by simpa using hs
        rw [hs'] at ht
        by_cases hi : x = i <;> simp (disch := first | assumption | omega) only [WS_0, WS_1, WS_2, WS_3, WS_4, WS_5, WS_6, WS_7, WS_8, WS_9, WS_10, WS_11, WS_12, WS_13, WS_14, WS_15, WS_16, WS_17, WS_18, WS_19, WS_20, PS_0, PS_1, PS_2, PS_3, PS_4, PS_5, PS_6, ji_add, ji_sub, ji_mul, ji_neg, ji_lit0, ji_ofNat, ji_lt, ji_le, ji_eq, ji_nat, ji_in, qV_at, qI_at, qJ_at, qD_at, qA_at, qA_no, nb0, nb1, cat_r, cat_i, Option.some.injEq, exists_eq_left', true_and, and_true, if_true, if_false, ite_not, not_true_eq_false, not_false_eq_true, Sum.inr.injEq, exists_eq_right', true_or, or_true, and_self, Int.cast_ofNat_Int, reduceCtorEq, or_false, false_or, false_and, and_false, jb_zero, lt7_0, lt7_1, lt7_2, lt7_3, lt7_4, lt7_5, lt7_6, c_X8_unvisited_1, c_X8_unvisited_2, X0, X1, nn, xlc_eq, tb_and l0, ht, hs', hi, Bool.false_eq_true, ↓reduceIte, ilt_t, ilt_f, ile_t, ile_f, ieq_t, ieq_f, jb_T, jb_F, jb_t, jb_f] <;> rfl
    · intro y hy
      have hy : (ung Z i l x) = .inl y := hy
      show 0 ≤ y ∧ y ≤ (l + 1)
      revert hy
      unfold ung
      (repeat' split) <;> intro hy <;> cases hy <;> omega
  · simp (disch := first | assumption | omega) only [WS_0, WS_1, WS_2, WS_3, WS_4, WS_5, WS_6, WS_7, WS_8, WS_9, WS_10, WS_11, WS_12, WS_13, WS_14, WS_15, WS_16, WS_17, WS_18, WS_19, WS_20, PS_0, PS_1, PS_2, PS_3, PS_4, PS_5, PS_6, ji_add, ji_sub, ji_mul, ji_neg, ji_lit0, ji_ofNat, ji_lt, ji_le, ji_eq, ji_nat, ji_in, qV_at, qI_at, qJ_at, qD_at, qA_at, qA_no, nb0, nb1, cat_r, cat_i, Option.some.injEq, exists_eq_left', true_and, and_true, if_true, if_false, ite_not, not_true_eq_false, not_false_eq_true, Sum.inr.injEq, exists_eq_right', true_or, or_true, and_self, Int.cast_ofNat_Int, reduceCtorEq, or_false, false_or, false_and, and_false, jb_zero, lt7_0, lt7_1, lt7_2, lt7_3, lt7_4, lt7_5, lt7_6, c_X8_unvisited_1, c_X8_unvisited_2, u_X8_unvisited, X0, X1, q_reqNotNeg, hn, Nat.reduceAdd, Nat.reduceLeDiff, ↓reduceIte, ilt_t, ilt_f, ile_t, ile_f, ieq_t, ieq_f, jb_T, jb_F, jb_t, jb_f]
end
