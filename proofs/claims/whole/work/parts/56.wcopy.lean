/-! ===== a world is copied, made empty; the history ===== -/
section
variable {μ μ' : XM} {W V : Nat} {w h N s : Int} {Z Y : Int → Int} {Q : XQ} {X : XX} {k : Int}
theorem CW.frame {S : Nat → Prop} (hC : CW μ W w h N s Z) (hB : BD w h N s Z) (hc : CH S μ' μ) (hs : ∀ a, W ≤ a → a < W + 83 → ¬ S a) : CW μ' W w h N s Z := by
  have hbz := hB.2.1
  obtain ⟨hG, c1, c2, c3, c4, c5, c6⟩ := hC
  have hm : ∀ a, W ≤ a → a < W + 83 → (∀ k, gI μ' k a = gI μ k a) ∧ (∀ k, gL μ' k a = gL μ k a) ∧ ∀ i, aI μ' a i = aI μ a i := fun a h1 h2 => by
    have := hc.2 a (hs a h1 h2)
    exact ⟨this.1, this.2.1, this.2.2.1⟩
  refine ⟨hG.same (fun a a0 a1 => ⟨(hm a (by omega) (by omega)).1, (hm a (by omega) (by omega)).2.2⟩), ?_, ?_, ?_, fun l l0 l1 => ?_, fun i i0 i1 => ?_, fun j j0 j1 => ?_⟩
  · rw [(hm W (by omega) (by omega)).1]; exact c1
  · rw [(hm W (by omega) (by omega)).1]; exact c2
  · rw [(hm W (by omega) (by omega)).1]; exact c3
  · rw [(hm (W + 5) (by omega) (by omega)).2.2]; exact c4 l l0 l1
  · rw [(hm (W + 6) (by omega) (by omega)).2.2]; exact c5 i i0 i1
  · exact (c6 j j0 j1).same (BD_p hB j j0 j1) (fun a a0 a1 => by
      have := pka_b (W := W) (k := j) j0 (by omega)
      exact hm a (by omega) (by omega)) (fun i i0 i1 => rfl)
theorem CW.eq (hC : CW μ W w h N s Z) (hB : BD w h N s Z) (e : ∀ i, 0 ≤ i → i < 5666 → Y i = Z i) : CW μ W w h N s Y := by
  have hbz := hB.2.1
  obtain ⟨hG, c1, c2, c3, c4, c5, c6⟩ := hC
  have e1 := e 1 (by omega) (by omega)
  refine ⟨hG, c1, by rw [e 0 (by omega) (by omega)]; exact c2, by rw [e1]; exact c3, fun l l0 l1 => by rw [e (2 + l) (by omega) (by omega)]; exact c4 l l0 l1, fun i i0 i1 => by rw [e (74 + i) (by omega) (by omega)]; exact c5 i i0 i1, fun j j0 j1 => ?_⟩
  rw [e1] at j1
  exact (c6 j j0 j1).same (BD_p hB j j0 j1) (fun a _ _ => ⟨fun _ => rfl, fun _ => rfl, fun _ => rfl⟩) (fun i i0 i1 => e i (by omega) (by omega))
theorem BD.eq (hB : BD w h N s Z) (e : ∀ i, 0 ≤ i → i < 5666 → Y i = Z i) : BD w h N s Y := by
  have hbz := hB.2.1
  have e1 := e 1 (by omega) (by omega)
  obtain ⟨b1, b2, b3, b4, b5⟩ := hB
  refine ⟨b1, by rw [e1, e 0 (by omega) (by omega)]; exact b2, fun l l0 l1 => by rw [e (2 + l) (by omega) (by omega)]; exact b3 l l0 l1, fun i i0 i1 => by rw [e (74 + i) (by omega) (by omega)]; exact b4 i i0 i1, fun j j0 j1 => ?_⟩
  rw [e1] at j1
  exact (b5 j j0 j1).same (fun i i0 i1 => e i (by omega) (by omega))
theorem IV.eq (hI : IV w h N s Z) (e : ∀ i, 0 ≤ i → i < 5666 → Y i = Z i) : IV w h N s Y := by
  have hbz := hI.1.2.1
  refine ⟨hI.1.eq e, fun j j0 j1 => ?_⟩
  rw [e 1 (by omega) (by omega)] at j1
  exact (hI.2 j j0 j1).same (hI.1.2.2.2.2 j j0 j1) (fun i i0 i1 => e i (by omega) (by omega))
theorem GX.frame {S : Nat → Prop} (hG : GX μ W) (hc : CH S μ' μ) (hs : ∀ a, W ≤ a → a < W + 83 → ¬ S a) : GX μ' W := by
  obtain ⟨w, h, N, hg⟩ := hG
  exact ⟨w, h, N, hg.same (fun a a0 a1 => ⟨(hc.2 a (hs a (by omega) (by omega))).1, (hc.2 a (hs a (by omega) (by omega))).2.2.1⟩)⟩
theorem CW.g (hC : CW μ W w h N s Z) : GX μ W := ⟨w, h, N, hC.1⟩
theorem e_wcopy93 (hS : WS μ W) (hV : WS μ V) (hd : V + 83 ≤ W ∨ W + 83 ≤ V) (hG : GD μ W w h N) (hC : CW μ V w h N s Z) (hB : BD w h N s Z) (hD : ∀ l : Int, 0 ≤ l → l < 72 → aI μ (W + 5) l.toNat = ji (Z (2 + l))) (hK : ∀ μ', CH (inW W) μ' μ → CW μ' W w h N s Z → Q none μ') : j_X7_copyFrom_93 Q X [some (.ref W), some (.ref V), none, none, none] [] μ 0 0 := by
  have hbz := hB.2.1
  have c0 := hC
  obtain ⟨gV, c1, c2, c3, c4, c5, c6⟩ := c0
  have i0 : (0 : Int).toNat = 0 := rfl
  have i2592 : (2592 : Int).toNat = 2592 := rfl
  rw [uj_X7_copyFrom_93]
  simp (disch := first | assumption | omega) only [WS_0, WS_1, WS_2, WS_3, WS_4, WS_5, WS_6, WS_7, WS_8, WS_9, WS_10, WS_11, WS_12, WS_13, WS_14, WS_15, WS_16, WS_17, WS_18, WS_19, WS_20, PS_0, PS_1, PS_2, PS_3, PS_4, PS_5, PS_6, ji_add, ji_sub, ji_mul, ji_neg, ji_lit0, ji_ofNat, ji_lt, ji_le, ji_eq, ji_nat, ji_in, qV_at, qI_at, qJ_at, qD_at, qA_at, qA_no, nb0, nb1, cat_r, cat_i, Option.some.injEq, exists_eq_left', true_and, and_true, if_true, if_false, ite_not, not_true_eq_false, not_false_eq_true, Sum.inr.injEq, exists_eq_right', true_or, or_true, and_self, Int.cast_ofNat_Int, reduceCtorEq, or_false, false_or, false_and, and_false, jb_zero, lt7_0, lt7_1, lt7_2, lt7_3, lt7_4, lt7_5, lt7_6, c1, c2, c3, i0, i2592, Nat.zero_add, Nat.le_refl, gL_sI, gL_sR, gL_wI, gL_wL, gL_wD, gL_wR, gL_cI, gL_uF, gL_sL_at, gL_sL_k, gL_sL_a, gR_sI, gR_sL, gR_wI, gR_wL, gR_wD, gR_wR, gR_cI, gR_uF, gR_sR_at, gR_sR_k, gR_sR_a, aI_sI, aI_sL, aI_sR, aI_wL, aI_wD, aI_wR, aI_uF, aI_wI_at, aI_wI_a, aI_wI_i, aI_cI_at, aI_cI_a, aI_cI_i, aL_sI, aL_sL, aL_sR, aL_wI, aL_wD, aL_wR, aL_cI, aL_uF, aL_wL_at, aL_wL_a, aL_wL_i, aD_sI, aD_sL, aD_sR, aD_wI, aD_wL, aD_wR, aD_cI, aD_uF, aD_wD_at, aD_wD_a, aD_wD_i, aR_sI, aR_sL, aR_sR, aR_wI, aR_wL, aR_wD, aR_cI, aR_uF, aR_wR_at, aR_wR_a, aR_wR_i, tg_sI, tg_sL, tg_sR, tg_wI, tg_wL, tg_wD, tg_wR, tg_cI, tg_uF, ln_sI, ln_sL, ln_sR, ln_wI, ln_wL, ln_wD, ln_wR, ln_cI, ln_uF, tp_sI, tp_sL, tp_sR, tp_wI, tp_wL, tp_wD, tp_wR, tp_cI, tp_uF, fr_sI, fr_sL, fr_sR, fr_wI, fr_wL, fr_wD, fr_wR, fr_cI, gI_sL, gI_sR, gI_wI, gI_wL, gI_wD, gI_wR, gI_cI, gI_uF, gI_sI_at, gI_sI_k, gI_sI_a, ↓reduceIte, ilt_t, ilt_f, ile_t, ile_f, ieq_t, ieq_f, jb_T, jb_F, jb_t, jb_f]
  have f : CH (inW W) (sI (sI (sI (uF (cI μ (V + 6) 0 (W + 6) 0 2592)) 228 W (ji s)) 229 W (ji (Z 0))) 230 W (ji (Z 1))) μ := (((CH.uF (CH.cI (CH.refl _ _) _ _ _ _ _ (by unfold inW; omega))).sI _ _ _ (by unfold inW; omega)).sI _ _ _ (by unfold inW; omega)).sI _ _ _ (by unfold inW; omega)
  rw [l_X7_copyFrom_135, xseal_eq]
  refine imp_loop (fun mf x l => ln_X7_copyFrom_135 Q X mf [some (.ref W), some (.ref V), some (.int (ji l)), none, none] [] x 0 0) (fun l x => CH (inW W) x μ ∧ GD x W w h N ∧ (gI x 228 W = ji s ∧ gI x 229 W = ji (Z 0) ∧ gI x 230 W = ji (Z 1)) ∧ (∀ l : Int, 0 ≤ l → l < 72 → aI x (W + 5) l.toNat = ji (Z (2 + l))) ∧ (∀ i : Int, 0 ≤ i → i < 2592 → aI x (W + 6) i.toNat = ji (Z (74 + i))) ∧ ∀ j : Int, 0 ≤ j → j < l → PW x (pka W j) Z ((2666 + 120 * j))) (Z 1) (fun mf x hx => ?_) (fun mf x l l0 l1 hx hn => ?_) (Z 1).toNat 10000 0 _ (by omega) (by omega) (by omega) ⟨f, ?_, ⟨?_, ?_, ?_⟩, fun l l0 l1 => ?_, fun i i0 i1 => ?_, fun j j0 j1 => by omega⟩
  · show ln_X7_copyFrom_135 Q X (mf + 1) [some (.ref W), some (.ref V), some (.int (ji (Z 1))), none, none] [] x 0 0
    obtain ⟨x1, x2, ⟨x3, x4, x5⟩, x6, x7, x8⟩ := hx
    have hS' := hS.mono x1.1
    rw [ul_X7_copyFrom_135]
    simp (disch := first | assumption | omega) only [WS_0, WS_1, WS_2, WS_3, WS_4, WS_5, WS_6, WS_7, WS_8, WS_9, WS_10, WS_11, WS_12, WS_13, WS_14, WS_15, WS_16, WS_17, WS_18, WS_19, WS_20, PS_0, PS_1, PS_2, PS_3, PS_4, PS_5, PS_6, ji_add, ji_sub, ji_mul, ji_neg, ji_lit0, ji_ofNat, ji_lt, ji_le, ji_eq, ji_nat, ji_in, qV_at, qI_at, qJ_at, qD_at, qA_at, qA_no, nb0, nb1, cat_r, cat_i, Option.some.injEq, exists_eq_left', true_and, and_true, if_true, if_false, ite_not, not_true_eq_false, not_false_eq_true, Sum.inr.injEq, exists_eq_right', true_or, or_true, and_self, Int.cast_ofNat_Int, reduceCtorEq, or_false, false_or, false_and, and_false, jb_zero, lt7_0, lt7_1, lt7_2, lt7_3, lt7_4, lt7_5, lt7_6, x5, ↓reduceIte, ilt_t, ilt_f, ile_t, ile_f, ieq_t, ieq_f, jb_T, jb_F, jb_t, jb_f]
    exact hK x x1 ⟨x2, x3, x4, x5, x6, x7, x8⟩
  · show ln_X7_copyFrom_135 Q X (mf + 1) [some (.ref W), some (.ref V), some (.int (ji l)), none, none] [] x 0 0
    obtain ⟨x1, x2, ⟨x3, x4, x5⟩, x6, x7, x8⟩ := hx
    have hS' := hS.mono x1.1
    have hV' := hV.mono x1.1
    have hC' := hC.frame hB x1 (fun a a0 a1 => by unfold inW; omega)
    have v3 := hC'.2.2.2.1
    have hpV := WS_p hV' l l0 (by omega)
    have hpW := WS_p hS' l l0 (by omega)
    have hsV := WS_ps hV' l l0 (by omega)
    have hsW := WS_ps hS' l l0 (by omega)
    have bV := pka_b (W := V) (k := l) l0 (by omega)
    have bW := pka_b (W := W) (k := l) l0 (by omega)
    rw [ul_X7_copyFrom_135]
    simp (disch := first | assumption | omega) only [WS_0, WS_1, WS_2, WS_3, WS_4, WS_5, WS_6, WS_7, WS_8, WS_9, WS_10, WS_11, WS_12, WS_13, WS_14, WS_15, WS_16, WS_17, WS_18, WS_19, WS_20, PS_0, PS_1, PS_2, PS_3, PS_4, PS_5, PS_6, ji_add, ji_sub, ji_mul, ji_neg, ji_lit0, ji_ofNat, ji_lt, ji_le, ji_eq, ji_nat, ji_in, qV_at, qI_at, qJ_at, qD_at, qA_at, qA_no, nb0, nb1, cat_r, cat_i, Option.some.injEq, exists_eq_left', true_and, and_true, if_true, if_false, ite_not, not_true_eq_false, not_false_eq_true, Sum.inr.injEq, exists_eq_right', true_or, or_true, and_self, Int.cast_ofNat_Int, reduceCtorEq, or_false, false_or, false_and, and_false, jb_zero, lt7_0, lt7_1, lt7_2, lt7_3, lt7_4, lt7_5, lt7_6, x5, u_X7_packetOf, hpW, c_X7_copyFrom_1, c_X7_copyFrom_2, uj_X7_copyFrom_93, c_X7_copyFrom_3, c_X7_copyFrom_4, c_X7_copyFrom_5, c_X7_copyFrom_6, c_X7_copyFrom_7, c_X7_copyFrom_8, c_X7_copyFrom_9, v3, hpV, PS_0 hsW, PS_0 hsV, ↓reduceIte, ilt_t, ilt_f, ile_t, ile_f, ieq_t, ieq_f, jb_T, jb_F, jb_t, jb_f]
    refine e_pcopy hsW hsV (by omega) (CW_p hC' l l0 l1) (BD_p hB l l0 l1) (fun y y1 y2 => ?_)
    simp (disch := first | assumption | omega) only [WS_0, WS_1, WS_2, WS_3, WS_4, WS_5, WS_6, WS_7, WS_8, WS_9, WS_10, WS_11, WS_12, WS_13, WS_14, WS_15, WS_16, WS_17, WS_18, WS_19, WS_20, PS_0, PS_1, PS_2, PS_3, PS_4, PS_5, PS_6, ji_add, ji_sub, ji_mul, ji_neg, ji_lit0, ji_ofNat, ji_lt, ji_le, ji_eq, ji_nat, ji_in, qV_at, qI_at, qJ_at, qD_at, qA_at, qA_no, nb0, nb1, cat_r, cat_i, Option.some.injEq, exists_eq_left', true_and, and_true, if_true, if_false, ite_not, not_true_eq_false, not_false_eq_true, Sum.inr.injEq, exists_eq_right', true_or, or_true, and_self, Int.cast_ofNat_Int, reduceCtorEq, or_false, false_or, false_and, and_false, jb_zero, lt7_0, lt7_1, lt7_2, lt7_3, lt7_4, lt7_5, lt7_6, c_X7_copyFrom_1, c_X7_copyFrom_2, uj_X7_copyFrom_93, c_X7_copyFrom_3, c_X7_copyFrom_4, c_X7_copyFrom_5, c_X7_copyFrom_6, c_X7_copyFrom_7, c_X7_copyFrom_8, c_X7_copyFrom_9]
    have y3 : CH (inW W) y x := y1.mono (fun a ha => by unfold inW; omega)
    have yl : ∀ a, a < W + 8 → (∀ k, gI y k a = gI x k a) ∧ ∀ i, aI y a i = aI x a i := fun a ha => ⟨(y1.2 a (by omega)).1, (y1.2 a (by omega)).2.2.1⟩
    refine hn y ⟨y3.trans x1, x2.same (fun a a0 a1 => yl a (by omega)), ⟨?_, ?_, ?_⟩, fun l l0 l1 => ?_, fun i i0 i1 => ?_, fun j j0 j1 => ?_⟩
    · rw [(yl W (by omega)).1]; exact x3
    · rw [(yl W (by omega)).1]; exact x4
    · rw [(yl W (by omega)).1]; exact x5
    · rw [(yl (W + 5) (by omega)).2]; exact x6 l l0 l1
    · rw [(yl (W + 6) (by omega)).2]; exact x7 i i0 i1
    · by_cases hj : j = l
      · rw [hj]; exact y2
      · refine (x8 j j0 (by omega)).same (BD_p hB j j0 (by omega)) (fun a a0 a1 => ?_) (fun i i0 i1 => rfl)
        have := y1.2 a (by simp only [pka] at *; omega)
        exact ⟨this.1, this.2.1, this.2.2.1⟩
  · refine hG.same (fun a a0 a1 => ⟨fun k => ?_, fun i => ?_⟩)
    · simp (disch := first | assumption | omega) only [gL_sI, gL_sR, gL_wI, gL_wL, gL_wD, gL_wR, gL_cI, gL_uF, gL_sL_at, gL_sL_k, gL_sL_a, gR_sI, gR_sL, gR_wI, gR_wL, gR_wD, gR_wR, gR_cI, gR_uF, gR_sR_at, gR_sR_k, gR_sR_a, aI_sI, aI_sL, aI_sR, aI_wL, aI_wD, aI_wR, aI_uF, aI_wI_at, aI_wI_a, aI_wI_i, aI_cI_at, aI_cI_a, aI_cI_i, aL_sI, aL_sL, aL_sR, aL_wI, aL_wD, aL_wR, aL_cI, aL_uF, aL_wL_at, aL_wL_a, aL_wL_i, aD_sI, aD_sL, aD_sR, aD_wI, aD_wL, aD_wR, aD_cI, aD_uF, aD_wD_at, aD_wD_a, aD_wD_i, aR_sI, aR_sL, aR_sR, aR_wI, aR_wL, aR_wD, aR_cI, aR_uF, aR_wR_at, aR_wR_a, aR_wR_i, tg_sI, tg_sL, tg_sR, tg_wI, tg_wL, tg_wD, tg_wR, tg_cI, tg_uF, ln_sI, ln_sL, ln_sR, ln_wI, ln_wL, ln_wD, ln_wR, ln_cI, ln_uF, tp_sI, tp_sL, tp_sR, tp_wI, tp_wL, tp_wD, tp_wR, tp_cI, tp_uF, fr_sI, fr_sL, fr_sR, fr_wI, fr_wL, fr_wD, fr_wR, fr_cI, gI_sL, gI_sR, gI_wI, gI_wL, gI_wD, gI_wR, gI_cI, gI_uF, gI_sI_at, gI_sI_k, gI_sI_a, zu_at, zu_ne]
    · simp (disch := first | assumption | omega) only [gL_sI, gL_sR, gL_wI, gL_wL, gL_wD, gL_wR, gL_cI, gL_uF, gL_sL_at, gL_sL_k, gL_sL_a, gR_sI, gR_sL, gR_wI, gR_wL, gR_wD, gR_wR, gR_cI, gR_uF, gR_sR_at, gR_sR_k, gR_sR_a, aI_sI, aI_sL, aI_sR, aI_wL, aI_wD, aI_wR, aI_uF, aI_wI_at, aI_wI_a, aI_wI_i, aI_cI_at, aI_cI_a, aI_cI_i, aL_sI, aL_sL, aL_sR, aL_wI, aL_wD, aL_wR, aL_cI, aL_uF, aL_wL_at, aL_wL_a, aL_wL_i, aD_sI, aD_sL, aD_sR, aD_wI, aD_wL, aD_wR, aD_cI, aD_uF, aD_wD_at, aD_wD_a, aD_wD_i, aR_sI, aR_sL, aR_sR, aR_wI, aR_wL, aR_wD, aR_cI, aR_uF, aR_wR_at, aR_wR_a, aR_wR_i, tg_sI, tg_sL, tg_sR, tg_wI, tg_wL, tg_wD, tg_wR, tg_cI, tg_uF, ln_sI, ln_sL, ln_sR, ln_wI, ln_wL, ln_wD, ln_wR, ln_cI, ln_uF, tp_sI, tp_sL, tp_sR, tp_wI, tp_wL, tp_wD, tp_wR, tp_cI, tp_uF, fr_sI, fr_sL, fr_sR, fr_wI, fr_wL, fr_wD, fr_wR, fr_cI, gI_sL, gI_sR, gI_wI, gI_wL, gI_wD, gI_wR, gI_cI, gI_uF, gI_sI_at, gI_sI_k, gI_sI_a, zu_at, zu_ne]
  · simp (disch := first | assumption | omega) only [gL_sI, gL_sR, gL_wI, gL_wL, gL_wD, gL_wR, gL_cI, gL_uF, gL_sL_at, gL_sL_k, gL_sL_a, gR_sI, gR_sL, gR_wI, gR_wL, gR_wD, gR_wR, gR_cI, gR_uF, gR_sR_at, gR_sR_k, gR_sR_a, aI_sI, aI_sL, aI_sR, aI_wL, aI_wD, aI_wR, aI_uF, aI_wI_at, aI_wI_a, aI_wI_i, aI_cI_at, aI_cI_a, aI_cI_i, aL_sI, aL_sL, aL_sR, aL_wI, aL_wD, aL_wR, aL_cI, aL_uF, aL_wL_at, aL_wL_a, aL_wL_i, aD_sI, aD_sL, aD_sR, aD_wI, aD_wL, aD_wR, aD_cI, aD_uF, aD_wD_at, aD_wD_a, aD_wD_i, aR_sI, aR_sL, aR_sR, aR_wI, aR_wL, aR_wD, aR_cI, aR_uF, aR_wR_at, aR_wR_a, aR_wR_i, tg_sI, tg_sL, tg_sR, tg_wI, tg_wL, tg_wD, tg_wR, tg_cI, tg_uF, ln_sI, ln_sL, ln_sR, ln_wI, ln_wL, ln_wD, ln_wR, ln_cI, ln_uF, tp_sI, tp_sL, tp_sR, tp_wI, tp_wL, tp_wD, tp_wR, tp_cI, tp_uF, fr_sI, fr_sL, fr_sR, fr_wI, fr_wL, fr_wD, fr_wR, fr_cI, gI_sL, gI_sR, gI_wI, gI_wL, gI_wD, gI_wR, gI_cI, gI_uF, gI_sI_at, gI_sI_k, gI_sI_a, zu_at, zu_ne]
  · simp (disch := first | assumption | omega) only [gL_sI, gL_sR, gL_wI, gL_wL, gL_wD, gL_wR, gL_cI, gL_uF, gL_sL_at, gL_sL_k, gL_sL_a, gR_sI, gR_sL, gR_wI, gR_wL, gR_wD, gR_wR, gR_cI, gR_uF, gR_sR_at, gR_sR_k, gR_sR_a, aI_sI, aI_sL, aI_sR, aI_wL, aI_wD, aI_wR, aI_uF, aI_wI_at, aI_wI_a, aI_wI_i, aI_cI_at, aI_cI_a, aI_cI_i, aL_sI, aL_sL, aL_sR, aL_wI, aL_wD, aL_wR, aL_cI, aL_uF, aL_wL_at, aL_wL_a, aL_wL_i, aD_sI, aD_sL, aD_sR, aD_wI, aD_wL, aD_wR, aD_cI, aD_uF, aD_wD_at, aD_wD_a, aD_wD_i, aR_sI, aR_sL, aR_sR, aR_wI, aR_wL, aR_wD, aR_cI, aR_uF, aR_wR_at, aR_wR_a, aR_wR_i, tg_sI, tg_sL, tg_sR, tg_wI, tg_wL, tg_wD, tg_wR, tg_cI, tg_uF, ln_sI, ln_sL, ln_sR, ln_wI, ln_wL, ln_wD, ln_wR, ln_cI, ln_uF, tp_sI, tp_sL, tp_sR, tp_wI, tp_wL, tp_wD, tp_wR, tp_cI, tp_uF, fr_sI, fr_sL, fr_sR, fr_wI, fr_wL, fr_wD, fr_wR, fr_cI, gI_sL, gI_sR, gI_wI, gI_wL, gI_wD, gI_wR, gI_cI, gI_uF, gI_sI_at, gI_sI_k, gI_sI_a, zu_at, zu_ne]
  · simp (disch := first | assumption | omega) only [gL_sI, gL_sR, gL_wI, gL_wL, gL_wD, gL_wR, gL_cI, gL_uF, gL_sL_at, gL_sL_k, gL_sL_a, gR_sI, gR_sL, gR_wI, gR_wL, gR_wD, gR_wR, gR_cI, gR_uF, gR_sR_at, gR_sR_k, gR_sR_a, aI_sI, aI_sL, aI_sR, aI_wL, aI_wD, aI_wR, aI_uF, aI_wI_at, aI_wI_a, aI_wI_i, aI_cI_at, aI_cI_a, aI_cI_i, aL_sI, aL_sL, aL_sR, aL_wI, aL_wD, aL_wR, aL_cI, aL_uF, aL_wL_at, aL_wL_a, aL_wL_i, aD_sI, aD_sL, aD_sR, aD_wI, aD_wL, aD_wR, aD_cI, aD_uF, aD_wD_at, aD_wD_a, aD_wD_i, aR_sI, aR_sL, aR_sR, aR_wI, aR_wL, aR_wD, aR_cI, aR_uF, aR_wR_at, aR_wR_a, aR_wR_i, tg_sI, tg_sL, tg_sR, tg_wI, tg_wL, tg_wD, tg_wR, tg_cI, tg_uF, ln_sI, ln_sL, ln_sR, ln_wI, ln_wL, ln_wD, ln_wR, ln_cI, ln_uF, tp_sI, tp_sL, tp_sR, tp_wI, tp_wL, tp_wD, tp_wR, tp_cI, tp_uF, fr_sI, fr_sL, fr_sR, fr_wI, fr_wL, fr_wD, fr_wR, fr_cI, gI_sL, gI_sR, gI_wI, gI_wL, gI_wD, gI_wR, gI_cI, gI_uF, gI_sI_at, gI_sI_k, gI_sI_a, zu_at, zu_ne]
  · simp (disch := first | assumption | omega) only [gL_sI, gL_sR, gL_wI, gL_wL, gL_wD, gL_wR, gL_cI, gL_uF, gL_sL_at, gL_sL_k, gL_sL_a, gR_sI, gR_sL, gR_wI, gR_wL, gR_wD, gR_wR, gR_cI, gR_uF, gR_sR_at, gR_sR_k, gR_sR_a, aI_sI, aI_sL, aI_sR, aI_wL, aI_wD, aI_wR, aI_uF, aI_wI_at, aI_wI_a, aI_wI_i, aI_cI_at, aI_cI_a, aI_cI_i, aL_sI, aL_sL, aL_sR, aL_wI, aL_wD, aL_wR, aL_cI, aL_uF, aL_wL_at, aL_wL_a, aL_wL_i, aD_sI, aD_sL, aD_sR, aD_wI, aD_wL, aD_wR, aD_cI, aD_uF, aD_wD_at, aD_wD_a, aD_wD_i, aR_sI, aR_sL, aR_sR, aR_wI, aR_wL, aR_wD, aR_cI, aR_uF, aR_wR_at, aR_wR_a, aR_wR_i, tg_sI, tg_sL, tg_sR, tg_wI, tg_wL, tg_wD, tg_wR, tg_cI, tg_uF, ln_sI, ln_sL, ln_sR, ln_wI, ln_wL, ln_wD, ln_wR, ln_cI, ln_uF, tp_sI, tp_sL, tp_sR, tp_wI, tp_wL, tp_wD, tp_wR, tp_cI, tp_uF, fr_sI, fr_sL, fr_sR, fr_wI, fr_wL, fr_wD, fr_wR, fr_cI, gI_sL, gI_sR, gI_wI, gI_wL, gI_wD, gI_wR, gI_cI, gI_uF, gI_sI_at, gI_sI_k, gI_sI_a, zu_at, zu_ne]; exact hD l l0 l1
  · simp (disch := first | assumption | omega) only [gL_sI, gL_sR, gL_wI, gL_wL, gL_wD, gL_wR, gL_cI, gL_uF, gL_sL_at, gL_sL_k, gL_sL_a, gR_sI, gR_sL, gR_wI, gR_wL, gR_wD, gR_wR, gR_cI, gR_uF, gR_sR_at, gR_sR_k, gR_sR_a, aI_sI, aI_sL, aI_sR, aI_wL, aI_wD, aI_wR, aI_uF, aI_wI_at, aI_wI_a, aI_wI_i, aI_cI_at, aI_cI_a, aI_cI_i, aL_sI, aL_sL, aL_sR, aL_wI, aL_wD, aL_wR, aL_cI, aL_uF, aL_wL_at, aL_wL_a, aL_wL_i, aD_sI, aD_sL, aD_sR, aD_wI, aD_wL, aD_wR, aD_cI, aD_uF, aD_wD_at, aD_wD_a, aD_wD_i, aR_sI, aR_sL, aR_sR, aR_wI, aR_wL, aR_wD, aR_cI, aR_uF, aR_wR_at, aR_wR_a, aR_wR_i, tg_sI, tg_sL, tg_sR, tg_wI, tg_wL, tg_wD, tg_wR, tg_cI, tg_uF, ln_sI, ln_sL, ln_sR, ln_wI, ln_wL, ln_wD, ln_wR, ln_cI, ln_uF, tp_sI, tp_sL, tp_sR, tp_wI, tp_wL, tp_wD, tp_wR, tp_cI, tp_uF, fr_sI, fr_sL, fr_sR, fr_wI, fr_wL, fr_wD, fr_wR, fr_cI, gI_sL, gI_sR, gI_wI, gI_wL, gI_wD, gI_wR, gI_cI, gI_uF, gI_sI_at, gI_sI_k, gI_sI_a, zu_at, zu_ne, Nat.zero_add, Nat.sub_zero]; exact c5 i i0 i1
theorem e_wcopy57 (hS : WS μ W) (hV : WS μ V) (hd : V + 83 ≤ W ∨ W + 83 ≤ V) (hG : GD μ W w h N) (hC : CW μ V w h N s Z) (hB : BD w h N s Z) (hK : ∀ μ', CH (inW W) μ' μ → CW μ' W w h N s Z → Q none μ') : l_X7_copyFrom_57 Q X [some (.ref W), some (.ref V), some (.int (ji 0)), none, none] [] μ 0 0 := by
  rw [l_X7_copyFrom_57, xseal_eq]
  refine imp_loop (fun mf x l => ln_X7_copyFrom_57 Q X mf [some (.ref W), some (.ref V), some (.int (ji l)), none, none] [] x 0 0) (fun l x => CH (inW W) x μ ∧ GD x W w h N ∧ ∀ i : Int, 0 ≤ i → i < l → aI x (W + 5) i.toNat = ji (Z (2 + i))) 72 (fun mf x hx => ?_) (fun mf x l l0 l1 hx hn => ?_) 72 10000 0 μ (by omega) (by omega) (by omega) ⟨CH.refl _ _, hG, fun i i0 i1 => by omega⟩
  · show ln_X7_copyFrom_57 Q X (mf + 1) [some (.ref W), some (.ref V), some (.int (ji 72)), none, none] [] x 0 0
    obtain ⟨x1, x2, x3⟩ := hx
    have hS' := hS.mono x1.1
    have hV' := hV.mono x1.1
    rw [ul_X7_copyFrom_57]
    simp (disch := first | assumption | omega) only [WS_0, WS_1, WS_2, WS_3, WS_4, WS_5, WS_6, WS_7, WS_8, WS_9, WS_10, WS_11, WS_12, WS_13, WS_14, WS_15, WS_16, WS_17, WS_18, WS_19, WS_20, PS_0, PS_1, PS_2, PS_3, PS_4, PS_5, PS_6, ji_add, ji_sub, ji_mul, ji_neg, ji_lit0, ji_ofNat, ji_lt, ji_le, ji_eq, ji_nat, ji_in, qV_at, qI_at, qJ_at, qD_at, qA_at, qA_no, nb0, nb1, cat_r, cat_i, Option.some.injEq, exists_eq_left', true_and, and_true, if_true, if_false, ite_not, not_true_eq_false, not_false_eq_true, Sum.inr.injEq, exists_eq_right', true_or, or_true, and_self, Int.cast_ofNat_Int, reduceCtorEq, or_false, false_or, false_and, and_false, jb_zero, lt7_0, lt7_1, lt7_2, lt7_3, lt7_4, lt7_5, lt7_6, ↓reduceIte, ilt_t, ilt_f, ile_t, ile_f, ieq_t, ieq_f, jb_T, jb_F, jb_t, jb_f]
    exact e_wcopy93 hS' hV' hd x2 (hC.frame hB x1 (fun a a0 a1 => by unfold inW; omega)) hB x3 (fun y y1 y2 => hK y (y1.trans x1) y2)
  · show ln_X7_copyFrom_57 Q X (mf + 1) [some (.ref W), some (.ref V), some (.int (ji l)), none, none] [] x 0 0
    obtain ⟨x1, x2, x3⟩ := hx
    have hS' := hS.mono x1.1
    have hV' := hV.mono x1.1
    have hC' := hC.frame hB x1 (fun a a0 a1 => by unfold inW; omega)
    have v4 := hC'.2.2.2.2.1 l l0 l1
    have hb : vp_nar .boolean (ji (Z (2 + l))) = ji (Z (2 + l)) := by
      rcases hB.2.2.1 l l0 l1 with e | e <;> rw [e]
      · exact nar0
      · exact nar1
    rw [ul_X7_copyFrom_57]
    simp (disch := first | assumption | omega) only [WS_0, WS_1, WS_2, WS_3, WS_4, WS_5, WS_6, WS_7, WS_8, WS_9, WS_10, WS_11, WS_12, WS_13, WS_14, WS_15, WS_16, WS_17, WS_18, WS_19, WS_20, PS_0, PS_1, PS_2, PS_3, PS_4, PS_5, PS_6, ji_add, ji_sub, ji_mul, ji_neg, ji_lit0, ji_ofNat, ji_lt, ji_le, ji_eq, ji_nat, ji_in, qV_at, qI_at, qJ_at, qD_at, qA_at, qA_no, nb0, nb1, cat_r, cat_i, Option.some.injEq, exists_eq_left', true_and, and_true, if_true, if_false, ite_not, not_true_eq_false, not_false_eq_true, Sum.inr.injEq, exists_eq_right', true_or, or_true, and_self, Int.cast_ofNat_Int, reduceCtorEq, or_false, false_or, false_and, and_false, jb_zero, lt7_0, lt7_1, lt7_2, lt7_3, lt7_4, lt7_5, lt7_6, v4, hb, ↓reduceIte, ilt_t, ilt_f, ile_t, ile_f, ieq_t, ieq_f, jb_T, jb_F, jb_t, jb_f]
    refine Or.inl (hn _ ⟨x1.wI _ _ _ (by unfold inW; omega), x2.same (fun a a0 a1 => ⟨fun k => rfl, fun i => aI_wI_a _ _ _ _ _ _ (by omega)⟩), fun i i0 i1 => ?_⟩)
    by_cases hi : i = l
    · rw [hi, aI_wI_at]
    · rw [aI_wI_i _ _ _ _ _ _ (by omega)]
      exact x3 i i0 (by omega)
theorem e_wcopy (hS : WS μ W) (hV : WS μ V) (hd : V + 83 ≤ W ∨ W + 83 ≤ V) (hg : GX μ W) (hC : CW μ V w h N s Z) (hB : BD w h N s Z) (hK : ∀ μ', CH (inW W) μ' μ → CW μ' W w h N s Z → Q none μ') : s_X7_copyFrom μ [.ref W, .ref V] Q X := by
  obtain ⟨w', h', N', hG⟩ := hg
  obtain ⟨⟨g1, g2, g3, g4, g5, g6, g7⟩, g8, g9, g10, g11⟩ := hG
  obtain ⟨v1, v8, v9, v10, v11⟩ := hC.1
  have hw := hB.1
  have hsh : s_X0_shape μ [.ref (W + 1), .int (ji w), .int (ji h)] (qV (c_X7_copyFrom_1 Q X W V)) (fun _ _ => False) := by
    refine e_shape hS (by omega) (by omega) (by omega) (by omega) (fun x x1 x2 => ?_)
    rw [← hw.2.2.2.2.2.2] at x2
    have x3 : CH (inW W) x μ := x1.mono (fun a ha => by unfold inW; unfold atG at ha; omega)
    simp (disch := first | assumption | omega) only [WS_0, WS_1, WS_2, WS_3, WS_4, WS_5, WS_6, WS_7, WS_8, WS_9, WS_10, WS_11, WS_12, WS_13, WS_14, WS_15, WS_16, WS_17, WS_18, WS_19, WS_20, PS_0, PS_1, PS_2, PS_3, PS_4, PS_5, PS_6, ji_add, ji_sub, ji_mul, ji_neg, ji_lit0, ji_ofNat, ji_lt, ji_le, ji_eq, ji_nat, ji_in, qV_at, qI_at, qJ_at, qD_at, qA_at, qA_no, nb0, nb1, cat_r, cat_i, Option.some.injEq, exists_eq_left', true_and, and_true, if_true, if_false, ite_not, not_true_eq_false, not_false_eq_true, Sum.inr.injEq, exists_eq_right', true_or, or_true, and_self, Int.cast_ofNat_Int, reduceCtorEq, or_false, false_or, false_and, and_false, jb_zero, lt7_0, lt7_1, lt7_2, lt7_3, lt7_4, lt7_5, lt7_6, c_X7_copyFrom_1]
    exact e_wcopy57 (hS.mono x3.1) (hV.mono x3.1) hd x2 (hC.frame hB x3 (fun a a0 a1 => by unfold inW; omega)) hB (fun y y1 y2 => hK y (y1.trans x3) y2)
  by_cases e1 : w' = w
  · by_cases e2 : h' = h
    · subst e1
      subst e2
      have e3 : N' = N := by rw [g7, hw.2.2.2.2.2.2]
      subst e3
      rw [u_X7_copyFrom]
      simp (disch := first | assumption | omega) only [WS_0, WS_1, WS_2, WS_3, WS_4, WS_5, WS_6, WS_7, WS_8, WS_9, WS_10, WS_11, WS_12, WS_13, WS_14, WS_15, WS_16, WS_17, WS_18, WS_19, WS_20, PS_0, PS_1, PS_2, PS_3, PS_4, PS_5, PS_6, ji_add, ji_sub, ji_mul, ji_neg, ji_lit0, ji_ofNat, ji_lt, ji_le, ji_eq, ji_nat, ji_in, qV_at, qI_at, qJ_at, qD_at, qA_at, qA_no, nb0, nb1, cat_r, cat_i, Option.some.injEq, exists_eq_left', true_and, and_true, if_true, if_false, ite_not, not_true_eq_false, not_false_eq_true, Sum.inr.injEq, exists_eq_right', true_or, or_true, and_self, Int.cast_ofNat_Int, reduceCtorEq, or_false, false_or, false_and, and_false, jb_zero, lt7_0, lt7_1, lt7_2, lt7_3, lt7_4, lt7_5, lt7_6, g8, g9, v8, v9, ↓reduceIte, ilt_t, ilt_f, ile_t, ile_f, ieq_t, ieq_f, jb_T, jb_F, jb_t, jb_f]
      exact e_wcopy57 hS hV hd ⟨⟨g1, g2, g3, g4, g5, g6, g7⟩, g8, g9, g10, g11⟩ hC hB hK
    · rw [u_X7_copyFrom]
      simp (disch := first | assumption | omega) only [WS_0, WS_1, WS_2, WS_3, WS_4, WS_5, WS_6, WS_7, WS_8, WS_9, WS_10, WS_11, WS_12, WS_13, WS_14, WS_15, WS_16, WS_17, WS_18, WS_19, WS_20, PS_0, PS_1, PS_2, PS_3, PS_4, PS_5, PS_6, ji_add, ji_sub, ji_mul, ji_neg, ji_lit0, ji_ofNat, ji_lt, ji_le, ji_eq, ji_nat, ji_in, qV_at, qI_at, qJ_at, qD_at, qA_at, qA_no, nb0, nb1, cat_r, cat_i, Option.some.injEq, exists_eq_left', true_and, and_true, if_true, if_false, ite_not, not_true_eq_false, not_false_eq_true, Sum.inr.injEq, exists_eq_right', true_or, or_true, and_self, Int.cast_ofNat_Int, reduceCtorEq, or_false, false_or, false_and, and_false, jb_zero, lt7_0, lt7_1, lt7_2, lt7_3, lt7_4, lt7_5, lt7_6, g8, g9, v8, v9, ↓reduceIte, ilt_t, ilt_f, ile_t, ile_f, ieq_t, ieq_f, jb_T, jb_F, jb_t, jb_f]
      exact hsh
  · rw [u_X7_copyFrom]
    simp (disch := first | assumption | omega) only [WS_0, WS_1, WS_2, WS_3, WS_4, WS_5, WS_6, WS_7, WS_8, WS_9, WS_10, WS_11, WS_12, WS_13, WS_14, WS_15, WS_16, WS_17, WS_18, WS_19, WS_20, PS_0, PS_1, PS_2, PS_3, PS_4, PS_5, PS_6, ji_add, ji_sub, ji_mul, ji_neg, ji_lit0, ji_ofNat, ji_lt, ji_le, ji_eq, ji_nat, ji_in, qV_at, qI_at, qJ_at, qD_at, qA_at, qA_no, nb0, nb1, cat_r, cat_i, Option.some.injEq, exists_eq_left', true_and, and_true, if_true, if_false, ite_not, not_true_eq_false, not_false_eq_true, Sum.inr.injEq, exists_eq_right', true_or, or_true, and_self, Int.cast_ofNat_Int, reduceCtorEq, or_false, false_or, false_and, and_false, jb_zero, lt7_0, lt7_1, lt7_2, lt7_3, lt7_4, lt7_5, lt7_6, g8, g9, v8, v9, ↓reduceIte, ilt_t, ilt_f, ile_t, ile_f, ieq_t, ieq_f, jb_T, jb_F, jb_t, jb_f]
    exact hsh
/-- an empty block -/
def zemp : Int → Int := fun i => if 74 ≤ i ∧ i < 2666 then -1 else 0
theorem e_clear (hS : WS μ W) (hK : ∀ μ', CH (inW W) μ' μ → CW μ' W 1 1 1 50 zemp → Q none μ') : s_X7_clear μ [.ref W] Q X := by
  simp (disch := first | assumption | omega) only [WS_0, WS_1, WS_2, WS_3, WS_4, WS_5, WS_6, WS_7, WS_8, WS_9, WS_10, WS_11, WS_12, WS_13, WS_14, WS_15, WS_16, WS_17, WS_18, WS_19, WS_20, PS_0, PS_1, PS_2, PS_3, PS_4, PS_5, PS_6, ji_add, ji_sub, ji_mul, ji_neg, ji_lit0, ji_ofNat, ji_lt, ji_le, ji_eq, ji_nat, ji_in, qV_at, qI_at, qJ_at, qD_at, qA_at, qA_no, nb0, nb1, cat_r, cat_i, Option.some.injEq, exists_eq_left', true_and, and_true, if_true, if_false, ite_not, not_true_eq_false, not_false_eq_true, Sum.inr.injEq, exists_eq_right', true_or, or_true, and_self, Int.cast_ofNat_Int, reduceCtorEq, or_false, false_or, false_and, and_false, jb_zero, lt7_0, lt7_1, lt7_2, lt7_3, lt7_4, lt7_5, lt7_6, c_X7_clear_1, u_X7_clear, c_X7_clear_2, ↓reduceIte, ilt_t, ilt_f, ile_t, ile_f, ieq_t, ieq_f, jb_T, jb_F, jb_t, jb_f]
  refine e_shape hS (by omega) (by omega) (by omega) (by omega) (fun x x1 x2 => ?_)
  have x3 : CH (inW W) x μ := x1.mono (fun a ha => by unfold inW; unfold atG at ha; omega)
  have e11 : (1 : Int) * 1 = 1 := rfl
  rw [e11] at x2
  simp (disch := first | assumption | omega) only [WS_0, WS_1, WS_2, WS_3, WS_4, WS_5, WS_6, WS_7, WS_8, WS_9, WS_10, WS_11, WS_12, WS_13, WS_14, WS_15, WS_16, WS_17, WS_18, WS_19, WS_20, PS_0, PS_1, PS_2, PS_3, PS_4, PS_5, PS_6, ji_add, ji_sub, ji_mul, ji_neg, ji_lit0, ji_ofNat, ji_lt, ji_le, ji_eq, ji_nat, ji_in, qV_at, qI_at, qJ_at, qD_at, qA_at, qA_no, nb0, nb1, cat_r, cat_i, Option.some.injEq, exists_eq_left', true_and, and_true, if_true, if_false, ite_not, not_true_eq_false, not_false_eq_true, Sum.inr.injEq, exists_eq_right', true_or, or_true, and_self, Int.cast_ofNat_Int, reduceCtorEq, or_false, false_or, false_and, and_false, jb_zero, lt7_0, lt7_1, lt7_2, lt7_3, lt7_4, lt7_5, lt7_6, c_X7_clear_1, c_X7_clear_2]
  rw [l_X7_clear_11, xseal_eq]
  refine imp_loop (fun mf x l => ln_X7_clear_11 Q X mf [some (.ref W), some (.int (ji l))] [] x 0 0) (fun l y => CH (inW W) y μ ∧ GD y W 1 1 1 ∧ ∀ i : Int, 0 ≤ i → i < l → aI y (W + 5) i.toNat = ji 0) 72 (fun mf y hy => ?_) (fun mf y l l0 l1 hy hn => ?_) 72 10000 0 x (by omega) (by omega) (by omega) ⟨x3, x2, fun i i0 i1 => by omega⟩
  · show ln_X7_clear_11 Q X (mf + 1) [some (.ref W), some (.int (ji 72))] [] y 0 0
    obtain ⟨y1, y2, y3⟩ := hy
    have hS' := hS.mono y1.1
    rw [ul_X7_clear_11]
    simp (disch := first | assumption | omega) only [WS_0, WS_1, WS_2, WS_3, WS_4, WS_5, WS_6, WS_7, WS_8, WS_9, WS_10, WS_11, WS_12, WS_13, WS_14, WS_15, WS_16, WS_17, WS_18, WS_19, WS_20, PS_0, PS_1, PS_2, PS_3, PS_4, PS_5, PS_6, ji_add, ji_sub, ji_mul, ji_neg, ji_lit0, ji_ofNat, ji_lt, ji_le, ji_eq, ji_nat, ji_in, qV_at, qI_at, qJ_at, qD_at, qA_at, qA_no, nb0, nb1, cat_r, cat_i, Option.some.injEq, exists_eq_left', true_and, and_true, if_true, if_false, ite_not, not_true_eq_false, not_false_eq_true, Sum.inr.injEq, exists_eq_right', true_or, or_true, and_self, Int.cast_ofNat_Int, reduceCtorEq, or_false, false_or, false_and, and_false, jb_zero, lt7_0, lt7_1, lt7_2, lt7_3, lt7_4, lt7_5, lt7_6, ↓reduceIte, ilt_t, ilt_f, ile_t, ile_f, ieq_t, ieq_f, jb_T, jb_F, jb_t, jb_f]
    refine e_fill (WS_17 hS') (by rw [WS_18 hS']; omega) (fun z z1 z2 => ?_)
    have hS2 := hS'.mono z1.1
    rw [WS_18 hS'] at z2
    simp (disch := first | assumption | omega) only [WS_0, WS_1, WS_2, WS_3, WS_4, WS_5, WS_6, WS_7, WS_8, WS_9, WS_10, WS_11, WS_12, WS_13, WS_14, WS_15, WS_16, WS_17, WS_18, WS_19, WS_20, PS_0, PS_1, PS_2, PS_3, PS_4, PS_5, PS_6, ji_add, ji_sub, ji_mul, ji_neg, ji_lit0, ji_ofNat, ji_lt, ji_le, ji_eq, ji_nat, ji_in, qV_at, qI_at, qJ_at, qD_at, qA_at, qA_no, nb0, nb1, cat_r, cat_i, Option.some.injEq, exists_eq_left', true_and, and_true, if_true, if_false, ite_not, not_true_eq_false, not_false_eq_true, Sum.inr.injEq, exists_eq_right', true_or, or_true, and_self, Int.cast_ofNat_Int, reduceCtorEq, or_false, false_or, false_and, and_false, jb_zero, lt7_0, lt7_1, lt7_2, lt7_3, lt7_4, lt7_5, lt7_6, c_X7_clear_1, c_X7_clear_2, gL_sI, gL_sR, gL_wI, gL_wL, gL_wD, gL_wR, gL_cI, gL_uF, gL_sL_at, gL_sL_k, gL_sL_a, gR_sI, gR_sL, gR_wI, gR_wL, gR_wD, gR_wR, gR_cI, gR_uF, gR_sR_at, gR_sR_k, gR_sR_a, aI_sI, aI_sL, aI_sR, aI_wL, aI_wD, aI_wR, aI_uF, aI_wI_at, aI_wI_a, aI_wI_i, aI_cI_at, aI_cI_a, aI_cI_i, aL_sI, aL_sL, aL_sR, aL_wI, aL_wD, aL_wR, aL_cI, aL_uF, aL_wL_at, aL_wL_a, aL_wL_i, aD_sI, aD_sL, aD_sR, aD_wI, aD_wL, aD_wR, aD_cI, aD_uF, aD_wD_at, aD_wD_a, aD_wD_i, aR_sI, aR_sL, aR_sR, aR_wI, aR_wL, aR_wD, aR_cI, aR_uF, aR_wR_at, aR_wR_a, aR_wR_i, tg_sI, tg_sL, tg_sR, tg_wI, tg_wL, tg_wD, tg_wR, tg_cI, tg_uF, ln_sI, ln_sL, ln_sR, ln_wI, ln_wL, ln_wD, ln_wR, ln_cI, ln_uF, tp_sI, tp_sL, tp_sR, tp_wI, tp_wL, tp_wD, tp_wR, tp_cI, tp_uF, fr_sI, fr_sL, fr_sR, fr_wI, fr_wL, fr_wD, fr_wR, fr_cI, gI_sL, gI_sR, gI_wI, gI_wL, gI_wD, gI_wR, gI_cI, gI_uF, gI_sI_at, gI_sI_k, gI_sI_a]
    have z3 : CH (inW W) z μ := (z1.mono (fun a ha => by unfold inW; omega)).trans y1
    have zs := fun a (ha : a ≠ W + 6) => z1.2 a ha
    refine hK _ (((z3.sI _ _ _ (by unfold inW; omega)).sI _ _ _ (by unfold inW; omega)).sI _ _ _ (by unfold inW; omega)) ⟨y2.same (fun a a0 a1 => ⟨fun k => ?_, fun i => ?_⟩), ?_, ?_, ?_, fun l l0 l1 => ?_, fun i i0 i1 => ?_, fun k k0 k1 => ?_⟩
    · simp (disch := first | assumption | omega) only [gL_sI, gL_sR, gL_wI, gL_wL, gL_wD, gL_wR, gL_cI, gL_uF, gL_sL_at, gL_sL_k, gL_sL_a, gR_sI, gR_sL, gR_wI, gR_wL, gR_wD, gR_wR, gR_cI, gR_uF, gR_sR_at, gR_sR_k, gR_sR_a, aI_sI, aI_sL, aI_sR, aI_wL, aI_wD, aI_wR, aI_uF, aI_wI_at, aI_wI_a, aI_wI_i, aI_cI_at, aI_cI_a, aI_cI_i, aL_sI, aL_sL, aL_sR, aL_wI, aL_wD, aL_wR, aL_cI, aL_uF, aL_wL_at, aL_wL_a, aL_wL_i, aD_sI, aD_sL, aD_sR, aD_wI, aD_wL, aD_wR, aD_cI, aD_uF, aD_wD_at, aD_wD_a, aD_wD_i, aR_sI, aR_sL, aR_sR, aR_wI, aR_wL, aR_wD, aR_cI, aR_uF, aR_wR_at, aR_wR_a, aR_wR_i, tg_sI, tg_sL, tg_sR, tg_wI, tg_wL, tg_wD, tg_wR, tg_cI, tg_uF, ln_sI, ln_sL, ln_sR, ln_wI, ln_wL, ln_wD, ln_wR, ln_cI, ln_uF, tp_sI, tp_sL, tp_sR, tp_wI, tp_wL, tp_wD, tp_wR, tp_cI, tp_uF, fr_sI, fr_sL, fr_sR, fr_wI, fr_wL, fr_wD, fr_wR, fr_cI, gI_sL, gI_sR, gI_wI, gI_wL, gI_wD, gI_wR, gI_cI, gI_uF, gI_sI_at, gI_sI_k, gI_sI_a, zu_at, zu_ne, (zs a (by omega)).1]
    · simp (disch := first | assumption | omega) only [gL_sI, gL_sR, gL_wI, gL_wL, gL_wD, gL_wR, gL_cI, gL_uF, gL_sL_at, gL_sL_k, gL_sL_a, gR_sI, gR_sL, gR_wI, gR_wL, gR_wD, gR_wR, gR_cI, gR_uF, gR_sR_at, gR_sR_k, gR_sR_a, aI_sI, aI_sL, aI_sR, aI_wL, aI_wD, aI_wR, aI_uF, aI_wI_at, aI_wI_a, aI_wI_i, aI_cI_at, aI_cI_a, aI_cI_i, aL_sI, aL_sL, aL_sR, aL_wI, aL_wD, aL_wR, aL_cI, aL_uF, aL_wL_at, aL_wL_a, aL_wL_i, aD_sI, aD_sL, aD_sR, aD_wI, aD_wL, aD_wR, aD_cI, aD_uF, aD_wD_at, aD_wD_a, aD_wD_i, aR_sI, aR_sL, aR_sR, aR_wI, aR_wL, aR_wD, aR_cI, aR_uF, aR_wR_at, aR_wR_a, aR_wR_i, tg_sI, tg_sL, tg_sR, tg_wI, tg_wL, tg_wD, tg_wR, tg_cI, tg_uF, ln_sI, ln_sL, ln_sR, ln_wI, ln_wL, ln_wD, ln_wR, ln_cI, ln_uF, tp_sI, tp_sL, tp_sR, tp_wI, tp_wL, tp_wD, tp_wR, tp_cI, tp_uF, fr_sI, fr_sL, fr_sR, fr_wI, fr_wL, fr_wD, fr_wR, fr_cI, gI_sL, gI_sR, gI_wI, gI_wL, gI_wD, gI_wR, gI_cI, gI_uF, gI_sI_at, gI_sI_k, gI_sI_a, zu_at, zu_ne, (zs a (by omega)).2.2.1]
    · simp (disch := first | assumption | omega) only [gL_sI, gL_sR, gL_wI, gL_wL, gL_wD, gL_wR, gL_cI, gL_uF, gL_sL_at, gL_sL_k, gL_sL_a, gR_sI, gR_sL, gR_wI, gR_wL, gR_wD, gR_wR, gR_cI, gR_uF, gR_sR_at, gR_sR_k, gR_sR_a, aI_sI, aI_sL, aI_sR, aI_wL, aI_wD, aI_wR, aI_uF, aI_wI_at, aI_wI_a, aI_wI_i, aI_cI_at, aI_cI_a, aI_cI_i, aL_sI, aL_sL, aL_sR, aL_wI, aL_wD, aL_wR, aL_cI, aL_uF, aL_wL_at, aL_wL_a, aL_wL_i, aD_sI, aD_sL, aD_sR, aD_wI, aD_wL, aD_wR, aD_cI, aD_uF, aD_wD_at, aD_wD_a, aD_wD_i, aR_sI, aR_sL, aR_sR, aR_wI, aR_wL, aR_wD, aR_cI, aR_uF, aR_wR_at, aR_wR_a, aR_wR_i, tg_sI, tg_sL, tg_sR, tg_wI, tg_wL, tg_wD, tg_wR, tg_cI, tg_uF, ln_sI, ln_sL, ln_sR, ln_wI, ln_wL, ln_wD, ln_wR, ln_cI, ln_uF, tp_sI, tp_sL, tp_sR, tp_wI, tp_wL, tp_wD, tp_wR, tp_cI, tp_uF, fr_sI, fr_sL, fr_sR, fr_wI, fr_wL, fr_wD, fr_wR, fr_cI, gI_sL, gI_sR, gI_wI, gI_wL, gI_wD, gI_wR, gI_cI, gI_uF, gI_sI_at, gI_sI_k, gI_sI_a, zu_at, zu_ne]
    · simp (disch := first | assumption | omega) only [gL_sI, gL_sR, gL_wI, gL_wL, gL_wD, gL_wR, gL_cI, gL_uF, gL_sL_at, gL_sL_k, gL_sL_a, gR_sI, gR_sL, gR_wI, gR_wL, gR_wD, gR_wR, gR_cI, gR_uF, gR_sR_at, gR_sR_k, gR_sR_a, aI_sI, aI_sL, aI_sR, aI_wL, aI_wD, aI_wR, aI_uF, aI_wI_at, aI_wI_a, aI_wI_i, aI_cI_at, aI_cI_a, aI_cI_i, aL_sI, aL_sL, aL_sR, aL_wI, aL_wD, aL_wR, aL_cI, aL_uF, aL_wL_at, aL_wL_a, aL_wL_i, aD_sI, aD_sL, aD_sR, aD_wI, aD_wL, aD_wR, aD_cI, aD_uF, aD_wD_at, aD_wD_a, aD_wD_i, aR_sI, aR_sL, aR_sR, aR_wI, aR_wL, aR_wD, aR_cI, aR_uF, aR_wR_at, aR_wR_a, aR_wR_i, tg_sI, tg_sL, tg_sR, tg_wI, tg_wL, tg_wD, tg_wR, tg_cI, tg_uF, ln_sI, ln_sL, ln_sR, ln_wI, ln_wL, ln_wD, ln_wR, ln_cI, ln_uF, tp_sI, tp_sL, tp_sR, tp_wI, tp_wL, tp_wD, tp_wR, tp_cI, tp_uF, fr_sI, fr_sL, fr_sR, fr_wI, fr_wL, fr_wD, fr_wR, fr_cI, gI_sL, gI_sR, gI_wI, gI_wL, gI_wD, gI_wR, gI_cI, gI_uF, gI_sI_at, gI_sI_k, gI_sI_a, zu_at, zu_ne]; rfl
    · simp (disch := first | assumption | omega) only [gL_sI, gL_sR, gL_wI, gL_wL, gL_wD, gL_wR, gL_cI, gL_uF, gL_sL_at, gL_sL_k, gL_sL_a, gR_sI, gR_sL, gR_wI, gR_wL, gR_wD, gR_wR, gR_cI, gR_uF, gR_sR_at, gR_sR_k, gR_sR_a, aI_sI, aI_sL, aI_sR, aI_wL, aI_wD, aI_wR, aI_uF, aI_wI_at, aI_wI_a, aI_wI_i, aI_cI_at, aI_cI_a, aI_cI_i, aL_sI, aL_sL, aL_sR, aL_wI, aL_wD, aL_wR, aL_cI, aL_uF, aL_wL_at, aL_wL_a, aL_wL_i, aD_sI, aD_sL, aD_sR, aD_wI, aD_wL, aD_wR, aD_cI, aD_uF, aD_wD_at, aD_wD_a, aD_wD_i, aR_sI, aR_sL, aR_sR, aR_wI, aR_wL, aR_wD, aR_cI, aR_uF, aR_wR_at, aR_wR_a, aR_wR_i, tg_sI, tg_sL, tg_sR, tg_wI, tg_wL, tg_wD, tg_wR, tg_cI, tg_uF, ln_sI, ln_sL, ln_sR, ln_wI, ln_wL, ln_wD, ln_wR, ln_cI, ln_uF, tp_sI, tp_sL, tp_sR, tp_wI, tp_wL, tp_wD, tp_wR, tp_cI, tp_uF, fr_sI, fr_sL, fr_sR, fr_wI, fr_wL, fr_wD, fr_wR, fr_cI, gI_sL, gI_sR, gI_wI, gI_wL, gI_wD, gI_wR, gI_cI, gI_uF, gI_sI_at, gI_sI_k, gI_sI_a, zu_at, zu_ne]; rfl
    · simp (disch := first | assumption | omega) only [gL_sI, gL_sR, gL_wI, gL_wL, gL_wD, gL_wR, gL_cI, gL_uF, gL_sL_at, gL_sL_k, gL_sL_a, gR_sI, gR_sL, gR_wI, gR_wL, gR_wD, gR_wR, gR_cI, gR_uF, gR_sR_at, gR_sR_k, gR_sR_a, aI_sI, aI_sL, aI_sR, aI_wL, aI_wD, aI_wR, aI_uF, aI_wI_at, aI_wI_a, aI_wI_i, aI_cI_at, aI_cI_a, aI_cI_i, aL_sI, aL_sL, aL_sR, aL_wI, aL_wD, aL_wR, aL_cI, aL_uF, aL_wL_at, aL_wL_a, aL_wL_i, aD_sI, aD_sL, aD_sR, aD_wI, aD_wL, aD_wR, aD_cI, aD_uF, aD_wD_at, aD_wD_a, aD_wD_i, aR_sI, aR_sL, aR_sR, aR_wI, aR_wL, aR_wD, aR_cI, aR_uF, aR_wR_at, aR_wR_a, aR_wR_i, tg_sI, tg_sL, tg_sR, tg_wI, tg_wL, tg_wD, tg_wR, tg_cI, tg_uF, ln_sI, ln_sL, ln_sR, ln_wI, ln_wL, ln_wD, ln_wR, ln_cI, ln_uF, tp_sI, tp_sL, tp_sR, tp_wI, tp_wL, tp_wD, tp_wR, tp_cI, tp_uF, fr_sI, fr_sL, fr_sR, fr_wI, fr_wL, fr_wD, fr_wR, fr_cI, gI_sL, gI_sR, gI_wI, gI_wL, gI_wD, gI_wR, gI_cI, gI_uF, gI_sI_at, gI_sI_k, gI_sI_a, zu_at, zu_ne, (zs (W + 5) (by omega)).2.2.1, y3 l l0 l1]
      unfold zemp
      rw [if_neg (by omega)]
    · have := z2 i i0 (by omega)
      simp (disch := first | assumption | omega) only [gL_sI, gL_sR, gL_wI, gL_wL, gL_wD, gL_wR, gL_cI, gL_uF, gL_sL_at, gL_sL_k, gL_sL_a, gR_sI, gR_sL, gR_wI, gR_wL, gR_wD, gR_wR, gR_cI, gR_uF, gR_sR_at, gR_sR_k, gR_sR_a, aI_sI, aI_sL, aI_sR, aI_wL, aI_wD, aI_wR, aI_uF, aI_wI_at, aI_wI_a, aI_wI_i, aI_cI_at, aI_cI_a, aI_cI_i, aL_sI, aL_sL, aL_sR, aL_wI, aL_wD, aL_wR, aL_cI, aL_uF, aL_wL_at, aL_wL_a, aL_wL_i, aD_sI, aD_sL, aD_sR, aD_wI, aD_wL, aD_wR, aD_cI, aD_uF, aD_wD_at, aD_wD_a, aD_wD_i, aR_sI, aR_sL, aR_sR, aR_wI, aR_wL, aR_wD, aR_cI, aR_uF, aR_wR_at, aR_wR_a, aR_wR_i, tg_sI, tg_sL, tg_sR, tg_wI, tg_wL, tg_wD, tg_wR, tg_cI, tg_uF, ln_sI, ln_sL, ln_sR, ln_wI, ln_wL, ln_wD, ln_wR, ln_cI, ln_uF, tp_sI, tp_sL, tp_sR, tp_wI, tp_wL, tp_wD, tp_wR, tp_cI, tp_uF, fr_sI, fr_sL, fr_sR, fr_wI, fr_wL, fr_wD, fr_wR, fr_cI, gI_sL, gI_sR, gI_wI, gI_wL, gI_wD, gI_wR, gI_cI, gI_uF, gI_sI_at, gI_sI_k, gI_sI_a, zu_at, zu_ne, this]
      unfold zemp
      rw [if_pos (by omega)]
    · have : zemp 1 = 0 := rfl
      omega
  · show ln_X7_clear_11 Q X (mf + 1) [some (.ref W), some (.int (ji l))] [] y 0 0
    obtain ⟨y1, y2, y3⟩ := hy
    have hS' := hS.mono y1.1
    have hq : ∀ P : Prop, (1 = 2 ∧ P) = False := fun P => eq_false (fun q => absurd q.1 (by decide))
    rw [ul_X7_clear_11]
    simp (disch := first | assumption | omega) only [WS_0, WS_1, WS_2, WS_3, WS_4, WS_5, WS_6, WS_7, WS_8, WS_9, WS_10, WS_11, WS_12, WS_13, WS_14, WS_15, WS_16, WS_17, WS_18, WS_19, WS_20, PS_0, PS_1, PS_2, PS_3, PS_4, PS_5, PS_6, ji_add, ji_sub, ji_mul, ji_neg, ji_lit0, ji_ofNat, ji_lt, ji_le, ji_eq, ji_nat, ji_in, qV_at, qI_at, qJ_at, qD_at, qA_at, qA_no, nb0, nb1, cat_r, cat_i, Option.some.injEq, exists_eq_left', true_and, and_true, if_true, if_false, ite_not, not_true_eq_false, not_false_eq_true, Sum.inr.injEq, exists_eq_right', true_or, or_true, and_self, Int.cast_ofNat_Int, reduceCtorEq, or_false, false_or, false_and, and_false, jb_zero, lt7_0, lt7_1, lt7_2, lt7_3, lt7_4, lt7_5, lt7_6, nar0, ↓reduceIte, ilt_t, ilt_f, ile_t, ile_f, ieq_t, ieq_f, jb_T, jb_F, jb_t, jb_f]
    refine Or.inl (hn _ ⟨y1.wI _ _ _ (by unfold inW; omega), y2.same (fun a a0 a1 => ⟨fun k => rfl, fun i => aI_wI_a _ _ _ _ _ _ (by omega)⟩), fun i i0 i1 => ?_⟩)
    by_cases hi : i = l
    · rw [hi, aI_wI_at]
    · rw [aI_wI_i _ _ _ _ _ _ (by omega)]
      exact y3 i i0 (by omega)
end
