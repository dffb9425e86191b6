/-! ===== the reference: load ===== -/
def QZ (μ : XM) (m : Nat) (l : Int) (T : Int → Int) (Q : XQ) (X : XX) : (Int × Int) ⊕ YS → Prop
  | .inl (c, s) => ∀ ν, QM ν μ m c s → j_X9_load_91 Q X [some (.ref m), some (.int (ji 0)), none] [] ν 0 0
  | .inr S => ∀ ν k p, QL ν μ m l T S p 0 (-1) → yI k S → j_X9_load_91 Q X [some (.ref m), some (.int (ji 1)), none] [] ν 0 0
section
variable {μ ν ξ : XM} {m : Nat} {l p k : Int} {T : Int → Int} {S : YS} {A : AS} {Q : XQ} {X : XX}
theorem f_loads (hS : RS μ m) : ∀ (d mf : Nat) (k p : Int) (ν : XM) (S : YS), k + d = 1001 → d < mf → 0 ≤ k → k ≤ p → p ≤ l → l ≤ 1000 → QL ν μ m l T S p 0 (-1) → yI k S → QZ μ m l T Q X (yM l T d p k S) → ln_X9_load_60 Q X mf [some (.ref m), some (.int (ji 1)), some (.int (ji k))] [] ν 0 0 := by
  intro d
  induction d with
  | zero => intro mf k p ν S hd hm k0 kp pl l1; omega
  | succ d ih =>
    intro mf k p ν S hd hm k0 kp pl l1 hs hi hK
    obtain ⟨mf, rfl⟩ : ∃ j, mf = j + 1 := ⟨mf - 1, by omega⟩
    have hS2 := hS.mono hs.1.1.1
    have g313 := hs.2.1.2.1
    unfold yM at hK
    have kb : tK l T (tB l T p) = 0 ∨ tK l T (tB l T p) = 1 ∨ tK l T (tB l T p) = 2 ∨ tK l T (tB l T p) = 3 ∨ tK l T (tB l T p) = 4 := by
      unfold tK
      (repeat' split) <;> omega
    rw [ul_X9_load_60]
    by_cases h0 : tK l T (tB l T p) = 0
    · rw [if_pos h0] at hK
      have hq := hK ν k _ hs hi
      simp (disch := first | assumption | omega) only [RS_0, RS_1, RS_2, RS_3, RS_4, RS_5, RS_6, RS_7, RS_8, RS_9, RS_10, RS_11, RS_12, RS_13, RS_14, RS_15, RS_16, RS_17, RS_18, RS_19, RS_20, RS_21, RS_22, RS_23, RS_24, RS_25, RS_26, RS_27, RS_28, RS_29, RS_30, RS_31, RS_32, RS_33, RS_34, RS_35, RS_36, ji_add, ji_sub, ji_mul, ji_neg, ji_lit0, ji_ofNat, ji_lt, ji_le, ji_eq, ji_nat, ji_in, ji_rem, ji_div, jl_of, xl_lt, xl_gt, xl_eq, qV_at, qI_at, qJ_at, qD_at, qA_at, qA_no, nb0, nb1, cat_r, cat_i, Option.some.injEq, exists_eq_left', true_and, and_true, if_true, if_false, ite_not, not_true_eq_false, not_false_eq_true, Sum.inr.injEq, exists_eq_right', true_or, or_true, and_self, Int.cast_ofNat_Int, reduceCtorEq, or_false, false_or, false_and, and_false, jb_zero, lt7_0, lt7_1, lt7_2, lt7_3, lt7_4, lt7_5, lt7_6, g313, h0, ↓reduceIte, ilt_t, ilt_f, ile_t, ile_f, ieq_t, ieq_f, jb_T, jb_F, jb_t, jb_f]
      exact hq
    · rw [if_neg h0] at hK
      have cont : ∀ G : Int32 → XM → Prop, (∀ r y, G r y = ln_X9_load_60 Q X mf [some (.ref m), some (.int r), some (.int (ji k + ji 1))] [] y 0 0) → QT μ m l T 0 (-1) (qI G) (yL l T k S p) := fun G hG => by
        cases hc : yL l T k S p with
        | inl r =>
          obtain ⟨c, s⟩ := r
          rw [hc] at hK
          intro ξ2 hf
          have hq := hK ξ2 hf
          show G (ji 0) ξ2
          obtain ⟨mf, rfl⟩ : ∃ j, mf = j + 1 := ⟨mf - 1, by omega⟩
          rw [hG, ul_X9_load_60, if_pos (show ji 0 = 0 from rfl)]
          exact hq
        | inr r =>
          obtain ⟨S2, p2⟩ := r
          have hy := yL_i hi k0 pl hc
          rw [hc, bd_j] at hK
          simp only at hy hK
          intro ξ2 hf
          show G (ji 1) ξ2
          rw [hG, ji_add]
          exact ih mf (k + 1) p2 ξ2 S2 (by omega) (by omega) (by omega) (by omega) hy.2.2 l1 hf hy.1 hK
      by_cases hk : k = 0
      · have hq := f_statement (X := fun _ _ => False) hS hs hi k0 (cont (c_X9_load_2 Q X mf m (ji k) 0 0) (fun _ _ => rfl))
        rw [jb_t _ hk] at hq
        rw [hk] at hq ⊢
        simp (disch := first | assumption | omega) only [RS_0, RS_1, RS_2, RS_3, RS_4, RS_5, RS_6, RS_7, RS_8, RS_9, RS_10, RS_11, RS_12, RS_13, RS_14, RS_15, RS_16, RS_17, RS_18, RS_19, RS_20, RS_21, RS_22, RS_23, RS_24, RS_25, RS_26, RS_27, RS_28, RS_29, RS_30, RS_31, RS_32, RS_33, RS_34, RS_35, RS_36, ji_add, ji_sub, ji_mul, ji_neg, ji_lit0, ji_ofNat, ji_lt, ji_le, ji_eq, ji_nat, ji_in, ji_rem, ji_div, jl_of, xl_lt, xl_gt, xl_eq, qV_at, qI_at, qJ_at, qD_at, qA_at, qA_no, nb0, nb1, cat_r, cat_i, Option.some.injEq, exists_eq_left', true_and, and_true, if_true, if_false, ite_not, not_true_eq_false, not_false_eq_true, Sum.inr.injEq, exists_eq_right', true_or, or_true, and_self, Int.cast_ofNat_Int, reduceCtorEq, or_false, false_or, false_and, and_false, jb_zero, lt7_0, lt7_1, lt7_2, lt7_3, lt7_4, lt7_5, lt7_6, g313, h0, ↓reduceIte, ilt_t, ilt_f, ile_t, ile_f, ieq_t, ieq_f, jb_T, jb_F, jb_t, jb_f]
        exact hq
      · have hq := f_statement (X := fun _ _ => False) hS hs hi k0 (cont (c_X9_load_3 Q X mf m (ji k) 0 0) (fun _ _ => rfl))
        rw [jb_f _ hk] at hq
        simp (disch := first | assumption | omega) only [RS_0, RS_1, RS_2, RS_3, RS_4, RS_5, RS_6, RS_7, RS_8, RS_9, RS_10, RS_11, RS_12, RS_13, RS_14, RS_15, RS_16, RS_17, RS_18, RS_19, RS_20, RS_21, RS_22, RS_23, RS_24, RS_25, RS_26, RS_27, RS_28, RS_29, RS_30, RS_31, RS_32, RS_33, RS_34, RS_35, RS_36, ji_add, ji_sub, ji_mul, ji_neg, ji_lit0, ji_ofNat, ji_lt, ji_le, ji_eq, ji_nat, ji_in, ji_rem, ji_div, jl_of, xl_lt, xl_gt, xl_eq, qV_at, qI_at, qJ_at, qD_at, qA_at, qA_no, nb0, nb1, cat_r, cat_i, Option.some.injEq, exists_eq_left', true_and, and_true, if_true, if_false, ite_not, not_true_eq_false, not_false_eq_true, Sum.inr.injEq, exists_eq_right', true_or, or_true, and_self, Int.cast_ofNat_Int, reduceCtorEq, or_false, false_or, false_and, and_false, jb_zero, lt7_0, lt7_1, lt7_2, lt7_3, lt7_4, lt7_5, lt7_6, g313, h0, hk, ↓reduceIte, ilt_t, ilt_f, ile_t, ile_f, ieq_t, ieq_f, jb_T, jb_F, jb_t, jb_f]
        exact hq
theorem f_told (hS : RS μ m) (hK : ∀ ν, CH (fun a => a = m + 11) ν μ → MR ν (m + 11) 2664 (fun i => zemp (2 + i)) → s_X9_beginText ν [.ref m] (qV (c_X9_load_1 Q X m 0 0)) (fun _ _ => False)) : ∀ (d mf : Nat) (k : Int) (ν : XM), k + d = 2664 → d < mf → 0 ≤ k → CH (fun a => a = m + 11) ν μ → (∀ i, 0 ≤ i → i < k → aI ν (m + 11) i.toNat = ji (zemp (2 + i))) → ln_X9_load_22 Q X mf [some (.ref m), some (.int (ji k)), none] [] ν 0 0 := by
  intro d
  induction d with
  | zero =>
    intro mf k ν hd hm k0 c hr
    obtain ⟨mf, rfl⟩ : ∃ j, mf = j + 1 := ⟨mf - 1, by omega⟩
    have hS2 := hS.mono c.1
    have hq := hK ν c (fun i i0 i1 => hr i i0 (by omega))
    rw [ul_X9_load_22]
    simp (disch := first | assumption | omega) only [RS_0, RS_1, RS_2, RS_3, RS_4, RS_5, RS_6, RS_7, RS_8, RS_9, RS_10, RS_11, RS_12, RS_13, RS_14, RS_15, RS_16, RS_17, RS_18, RS_19, RS_20, RS_21, RS_22, RS_23, RS_24, RS_25, RS_26, RS_27, RS_28, RS_29, RS_30, RS_31, RS_32, RS_33, RS_34, RS_35, RS_36, ji_add, ji_sub, ji_mul, ji_neg, ji_lit0, ji_ofNat, ji_lt, ji_le, ji_eq, ji_nat, ji_in, ji_rem, ji_div, jl_of, xl_lt, xl_gt, xl_eq, qV_at, qI_at, qJ_at, qD_at, qA_at, qA_no, nb0, nb1, cat_r, cat_i, Option.some.injEq, exists_eq_left', true_and, and_true, if_true, if_false, ite_not, not_true_eq_false, not_false_eq_true, Sum.inr.injEq, exists_eq_right', true_or, or_true, and_self, Int.cast_ofNat_Int, reduceCtorEq, or_false, false_or, false_and, and_false, jb_zero, lt7_0, lt7_1, lt7_2, lt7_3, lt7_4, lt7_5, lt7_6, ↓reduceIte, ilt_t, ilt_f, ile_t, ile_f, ieq_t, ieq_f, jb_T, jb_F, jb_t, jb_f]
    exact hq
  | succ d ih =>
    intro mf k ν hd hm k0 c hr
    obtain ⟨mf, rfl⟩ : ∃ j, mf = j + 1 := ⟨mf - 1, by omega⟩
    have hS2 := hS.mono c.1
    have step : ∀ z : Int, zemp (2 + k) = z → ln_X9_load_22 Q X mf [some (.ref m), some (.int (ji (k + 1))), none] [] (wI ν (m + 11) k.toNat (ji z)) 0 0 := fun z hz => by
      refine ih mf (k + 1) _ (by omega) (by omega) (by omega) (c.wI _ _ _ rfl) (fun i i0 i1 => ?_)
      by_cases hik : i = k
      · rw [hik, aI_wI_at, hz]
      · rw [aI_wI_i _ _ _ _ _ _ (by omega)]; exact hr i i0 (by omega)
    rw [ul_X9_load_22]
    by_cases h72 : 72 ≤ k
    · have hq := step (-1) (if_pos (by omega))
      simp (disch := first | assumption | omega) only [RS_0, RS_1, RS_2, RS_3, RS_4, RS_5, RS_6, RS_7, RS_8, RS_9, RS_10, RS_11, RS_12, RS_13, RS_14, RS_15, RS_16, RS_17, RS_18, RS_19, RS_20, RS_21, RS_22, RS_23, RS_24, RS_25, RS_26, RS_27, RS_28, RS_29, RS_30, RS_31, RS_32, RS_33, RS_34, RS_35, RS_36, ji_add, ji_sub, ji_mul, ji_neg, ji_lit0, ji_ofNat, ji_lt, ji_le, ji_eq, ji_nat, ji_in, ji_rem, ji_div, jl_of, xl_lt, xl_gt, xl_eq, qV_at, qI_at, qJ_at, qD_at, qA_at, qA_no, nb0, nb1, cat_r, cat_i, Option.some.injEq, exists_eq_left', true_and, and_true, if_true, if_false, ite_not, not_true_eq_false, not_false_eq_true, Sum.inr.injEq, exists_eq_right', true_or, or_true, and_self, Int.cast_ofNat_Int, reduceCtorEq, or_false, false_or, false_and, and_false, jb_zero, lt7_0, lt7_1, lt7_2, lt7_3, lt7_4, lt7_5, lt7_6, ↓reduceIte, ilt_t, ilt_f, ile_t, ile_f, ieq_t, ieq_f, jb_T, jb_F, jb_t, jb_f]
      exact hq
    · have hq := step 0 (if_neg (by omega))
      simp (disch := first | assumption | omega) only [RS_0, RS_1, RS_2, RS_3, RS_4, RS_5, RS_6, RS_7, RS_8, RS_9, RS_10, RS_11, RS_12, RS_13, RS_14, RS_15, RS_16, RS_17, RS_18, RS_19, RS_20, RS_21, RS_22, RS_23, RS_24, RS_25, RS_26, RS_27, RS_28, RS_29, RS_30, RS_31, RS_32, RS_33, RS_34, RS_35, RS_36, ji_add, ji_sub, ji_mul, ji_neg, ji_lit0, ji_ofNat, ji_lt, ji_le, ji_eq, ji_nat, ji_in, ji_rem, ji_div, jl_of, xl_lt, xl_gt, xl_eq, qV_at, qI_at, qJ_at, qD_at, qA_at, qA_no, nb0, nb1, cat_r, cat_i, Option.some.injEq, exists_eq_left', true_and, and_true, if_true, if_false, ite_not, not_true_eq_false, not_false_eq_true, Sum.inr.injEq, exists_eq_right', true_or, or_true, and_self, Int.cast_ofNat_Int, reduceCtorEq, or_false, false_or, false_and, and_false, jb_zero, lt7_0, lt7_1, lt7_2, lt7_3, lt7_4, lt7_5, lt7_6, ↓reduceIte, ilt_t, ilt_f, ile_t, ile_f, ieq_t, ieq_f, jb_T, jb_F, jb_t, jb_f]
      exact hq
theorem f_clr (hS : RS μ m) (hK : ∀ ν, CH (fun a => a = m + 1) ν μ → (∀ i : Nat, i < 5666 → aI ν (m + 1) i = ji (zemp i)) → Q none ν) : s_X9_clearBlock μ [.ref m] Q X := by
  have e : pz μ m (fun i => (aI μ (m + 1) i.toNat).toInt) = μ := pz_id (fun i hi => by
    show aI μ (m + 1) i = ji (aI μ (m + 1) (i : Int).toNat).toInt
    rw [Int.toNat_natCast]
    exact ji_of _)
  have h := f_clearBlock (μ := μ) (Z := fun i => (aI μ (m + 1) i.toNat).toInt) (Q := Q) (X := X) hS
  rw [e] at h
  rw [h]
  refine hK _ (CH.fz (CH.refl _ _) rfl) (fun i hi => (pz_at hi).trans ?_)
  unfold zclr
  rw [if_pos (by omega)]
theorem f_load146 {Z : Int → Int} {w h : Int} (hS : RS μ m) (g292 : gI μ 292 m = ji w) (g293 : gI μ 293 m = ji h) (w0 : 1 ≤ w) (w1 : w ≤ 6) (h0 : 1 ≤ h) (h1 : h ≤ 6) (hR : MR μ (m + 11) 2664 (fun i => Z (2 + i))) (hz : ∀ i, 0 ≤ i → (i < 2 ∨ 2666 ≤ i) → Z i = 0) (hK : ∀ ν, CH (fun a => a = m + 1) ν μ → (∀ i : Nat, i < 5666 → aI ν (m + 1) i = ji (Z i)) → Q (some (.int (ji (w * h)))) (wI (wI (sI ν 291 m (ji 0)) (m + 2) 0 (ji 0)) (m + 2) 1 (ji 0))) : ∀ (d mf : Nat) (k : Int) (ν : XM), k + d = 2664 → d < mf → 0 ≤ k → CH (fun a => a = m + 1) ν μ → (∀ i : Nat, i < 5666 → aI ν (m + 1) i = ji (if 2 ≤ (i : Int) ∧ (i : Int) < 2 + k then Z i else zemp i)) → ln_X9_load_146 Q X mf [some (.ref m), none, some (.int (ji k))] [] ν 0 0 := by
  intro d
  induction d with
  | zero =>
    intro mf k ν hd hm k0 c hr
    obtain ⟨mf, rfl⟩ : ∃ j, mf = j + 1 := ⟨mf - 1, by omega⟩
    have hS2 := hS.mono c.1
    have hS3 : RS (sI ν 291 m (ji 0)) m := hS2.mono ⟨rfl, rfl, rfl, rfl⟩
    have hS4 : RS (wI (sI ν 291 m (ji 0)) (m + 2) 0 (ji 0)) m := hS2.mono ⟨rfl, rfl, rfl, rfl⟩
    have hS5 : RS (wI (wI (sI ν 291 m (ji 0)) (m + 2) 0 (ji 0)) (m + 2) 1 (ji 0)) m := hS2.mono ⟨rfl, rfl, rfl, rfl⟩
    have q2 : gI (wI (wI (sI ν 291 m (ji 0)) (m + 2) 0 (ji 0)) (m + 2) 1 (ji 0)) 292 m = ji w := show gI (sI ν 291 m (ji 0)) 292 m = ji w from (gI_sI_k _ _ _ _ _ _ (by omega)).trans (((c.2 m (by omega)).1 292).trans g292)
    have q3 : gI (wI (wI (sI ν 291 m (ji 0)) (m + 2) 0 (ji 0)) (m + 2) 1 (ji 0)) 293 m = ji h := show gI (sI ν 291 m (ji 0)) 293 m = ji h from (gI_sI_k _ _ _ _ _ _ (by omega)).trans (((c.2 m (by omega)).1 293).trans g293)
    have hq := hK ν c (fun i hi => by
      rw [hr i hi]
      congr 1
      by_cases hb : 2 ≤ (i : Int) ∧ (i : Int) < 2 + k
      · rw [if_pos hb]
      · rw [if_neg hb, hz i (by omega) (by omega)]
        exact if_neg (by omega))
    have b1 : 0 ≤ w * h := Int.mul_nonneg (by omega) (by omega)
    rw [ul_X9_load_146]
    simp (disch := first | assumption | omega) only [RS_0, RS_1, RS_2, RS_3, RS_4, RS_5, RS_6, RS_7, RS_8, RS_9, RS_10, RS_11, RS_12, RS_13, RS_14, RS_15, RS_16, RS_17, RS_18, RS_19, RS_20, RS_21, RS_22, RS_23, RS_24, RS_25, RS_26, RS_27, RS_28, RS_29, RS_30, RS_31, RS_32, RS_33, RS_34, RS_35, RS_36, ji_add, ji_sub, ji_mul, ji_neg, ji_lit0, ji_ofNat, ji_lt, ji_le, ji_eq, ji_nat, ji_in, ji_rem, ji_div, jl_of, xl_lt, xl_gt, xl_eq, qV_at, qI_at, qJ_at, qD_at, qA_at, qA_no, nb0, nb1, cat_r, cat_i, Option.some.injEq, exists_eq_left', true_and, and_true, if_true, if_false, ite_not, not_true_eq_false, not_false_eq_true, Sum.inr.injEq, exists_eq_right', true_or, or_true, and_self, Int.cast_ofNat_Int, reduceCtorEq, or_false, false_or, false_and, and_false, jb_zero, lt7_0, lt7_1, lt7_2, lt7_3, lt7_4, lt7_5, lt7_6, nar0, Int.toNat_zero, Int.toNat_one, u_X9_nodes, c_X9_load_6, q2, q3, ↓reduceIte, ilt_t, ilt_f, ile_t, ile_f, ieq_t, ieq_f, jb_T, jb_F, jb_t, jb_f]
    first | exact hq | exact Or.inl hq | exact Or.inl (Or.inl hq)
  | succ d ih =>
    intro mf k ν hd hm k0 c hr
    obtain ⟨mf, rfl⟩ : ∃ j, mf = j + 1 := ⟨mf - 1, by omega⟩
    have hS2 := hS.mono c.1
    have cell : aI ν (m + 11) k.toNat = ji (Z (2 + k)) := ((c.2 (m + 11) (by omega)).2.2.1 _).trans (hR k k0 (by omega))
    have hq := ih mf (k + 1) (wI ν (m + 1) (2 + k).toNat (ji (Z (2 + k)))) (by omega) (by omega) (by omega) (c.wI _ _ _ rfl) (fun i hi => by
      by_cases hik : i = (2 + k).toNat
      · rw [hik, aI_wI_at]
        rw [if_pos (by omega)]
        congr 2
        omega
      · rw [aI_wI_i _ _ _ _ _ _ hik, hr i hi]
        congr 1
        by_cases hb : 2 ≤ (i : Int) ∧ (i : Int) < 2 + k
        · rw [if_pos hb, if_pos (by omega)]
        · rw [if_neg hb, if_neg (by omega)])
    rw [ul_X9_load_146]
    simp (disch := first | assumption | omega) only [RS_0, RS_1, RS_2, RS_3, RS_4, RS_5, RS_6, RS_7, RS_8, RS_9, RS_10, RS_11, RS_12, RS_13, RS_14, RS_15, RS_16, RS_17, RS_18, RS_19, RS_20, RS_21, RS_22, RS_23, RS_24, RS_25, RS_26, RS_27, RS_28, RS_29, RS_30, RS_31, RS_32, RS_33, RS_34, RS_35, RS_36, ji_add, ji_sub, ji_mul, ji_neg, ji_lit0, ji_ofNat, ji_lt, ji_le, ji_eq, ji_nat, ji_in, ji_rem, ji_div, jl_of, xl_lt, xl_gt, xl_eq, qV_at, qI_at, qJ_at, qD_at, qA_at, qA_no, nb0, nb1, cat_r, cat_i, Option.some.injEq, exists_eq_left', true_and, and_true, if_true, if_false, ite_not, not_true_eq_false, not_false_eq_true, Sum.inr.injEq, exists_eq_right', true_or, or_true, and_self, Int.cast_ofNat_Int, reduceCtorEq, or_false, false_or, false_and, and_false, jb_zero, lt7_0, lt7_1, lt7_2, lt7_3, lt7_4, lt7_5, lt7_6, cell, ↓reduceIte, ilt_t, ilt_f, ile_t, ile_f, ieq_t, ieq_f, jb_T, jb_F, jb_t, jb_f]
    exact hq
end
