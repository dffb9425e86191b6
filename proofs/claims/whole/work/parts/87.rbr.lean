/-! ===== the reference: bridges ===== -/
section
variable {μ ν : XM} {m : Nat} {Q : XQ} {X : XX} {A : AS} {w h N s f : Int} {Z : Int → Int} {C : Nat → Prop}
theorem chundo {y : XM} {b i : Nat} {v v0 : Int32} (hc : CH C y (wI ν b i v)) (hb : ¬ C b) (hv : aI ν b i = v0) : CH C (wI y b i v0) ν := ⟨SR.trans (SR.refl ν) hc.1, fun a ha => by
  obtain ⟨h1, h2, h3, h4, h5⟩ := hc.2 a ha
  refine ⟨h1, h2, fun j => ?_, h4, h5⟩
  by_cases hab : a = b
  · rw [hab]
    by_cases hj : j = i
    · rw [hj, aI_wI_at, hv]
    · rw [aI_wI_i _ _ _ _ _ _ hj]
      have := h3 j
      rw [hab] at this
      rw [this, aI_wI_i _ _ _ _ _ _ hj]
  · rw [aI_wI_a _ _ _ _ _ _ hab, h3 j, aI_wI_a _ _ _ _ _ _ hab]⟩
theorem RW.dead (hR : RW ν m w h s Z) {l v : Int} (l0 : 0 ≤ l) : RW (wI ν (m + 1) (2 + l).toNat (ji v)) m w h s (zu Z (2 + l) v) := ⟨hR.1, hR.2.1, hR.2.2.1, fun i i0 i1 => by
  by_cases hi : i = 2 + l
  · rw [hi, aI_wI_at, zu_at]
  · rw [aI_wI_i _ _ _ _ _ _ (by omega), zu_ne hi]
    exact hR.2.2.2 i i0 i1⟩
theorem f_isBridge (hS : RS ν m) (hR : RW ν m w h s Z) (hI : IV w h N s Z) {l : Int} (l0 : 0 ≤ l) (l1 : l < 72) (hK : ∀ y, CH (inR m) y ν → Q (some (.int (jb (isB w h N Z l = true)))) y) : s_X9_isBridge ν [.ref m, .int (ji l)] Q X := by
  have hB := hI.1
  have hz := hB.z
  have g := hB.g
  have hq0 := hK ν (CH.refl _ _)
  have fl := fun (Q : XQ) X => f_isLink (Q := Q) (X := X) hS hR hz (l := l) (by omega) (by omega)
  have dd := hB.2.2.1 l l0 l1
  by_cases hl : isl w h N l = true
  · by_cases hd : Z (2 + l) = 0
    · have hl' := hl
      unfold isl at hl'
      rw [decide_eq_true_eq] at hl'
      have hnb := (nxt_b (z := l / 2) (y := l % 2) g)
      have hnb2 := hnb.2.2 hl'.2
      have fd := fun (Q : XQ) X => f_isDeadNow (Q := Q) (X := X) hS hR l0 l1 dd
      rw [jb_f _ (fun q : Z (2 + l) ≠ 0 => q hd)] at fd
      have fn := fun (Q : XQ) X => f_nextTo (Q := Q) (X := X) hS hR hz (n := l / 2) (y := l % 2) (by omega) (by omega) (by omega) (by omega)
      have hx0 : nxt w h N (l / 2) (l % 2) = nx w h (l / 2) (l % 2) := if_pos ⟨by omega, by omega, by omega, by omega⟩
      rw [← hx0] at fn
      have hR2 := hR.dead (v := 1) l0
      have hS2 : RS (wI ν (m + 1) (2 + l).toNat (ji 1)) m := hS.mono (CH.wI (S := fun _ => True) (CH.refl _ ν) (m + 1) (2 + l).toNat (ji 1) trivial).1
      simp (disch := first | assumption | omega) only [RS_0, RS_1, RS_2, RS_3, RS_4, RS_5, RS_6, RS_7, RS_8, RS_9, RS_10, RS_11, RS_12, RS_13, RS_14, RS_15, RS_16, RS_17, RS_18, RS_19, RS_20, RS_21, RS_22, RS_23, RS_24, RS_25, RS_26, RS_27, RS_28, RS_29, RS_30, RS_31, RS_32, RS_33, RS_34, RS_35, RS_36, ji_add, ji_sub, ji_mul, ji_neg, ji_lit0, ji_ofNat, ji_lt, ji_le, ji_eq, ji_nat, ji_in, ji_rem, ji_div, jl_of, xl_lt, xl_gt, xl_eq, qV_at, qI_at, qJ_at, qD_at, qA_at, qA_no, nb0, nb1, cat_r, cat_i, Option.some.injEq, exists_eq_left', true_and, and_true, if_true, if_false, ite_not, not_true_eq_false, not_false_eq_true, Sum.inr.injEq, exists_eq_right', true_or, or_true, and_self, Int.cast_ofNat_Int, reduceCtorEq, or_false, false_or, false_and, and_false, jb_zero, lt7_0, lt7_1, lt7_2, lt7_3, lt7_4, lt7_5, lt7_6, c_X9_isBridge_1, c_X9_isBridge_2, c_X9_isBridge_3, c_X9_isBridge_4, u_X9_isBridge, c_X9_isBridge_1, c_X9_isBridge_2, c_X9_isBridge_3, c_X9_isBridge_4, fl, hl, fd, fn, ↓reduceIte, ilt_t, ilt_f, ile_t, ile_f, ieq_t, ieq_f, jb_T, jb_F, jb_t, jb_f]
      refine f_layFar hS2 hR2 (hI.dd l0 l1 (Or.inr rfl)).1 (Or.inl rfl) (by omega) (by omega) (fun y d y1 y2 y3 y4 => ?_)
      have hS3 := hS2.mono y1.1
      rw [eK_0] at y3
      have e : hpA w h N (zu Z (2 + l) 1) (l / 2) (nxt w h N (l / 2) (l % 2)) = d (nxt w h N (l / 2) (l % 2)) := hop_eq y3 (by omega) hnb2.2.2.2.2
      have hv := hR.2.2.2 (2 + l) (by omega) (by omega)
      rw [hd] at hv
      have hq := hK (wI y (m + 1) (2 + l).toNat (ji 0)) (chundo (C := inR m) (CH.row3 y1) (by unfold inR; omega) hv)
      unfold isB at hq
      rw [hl, decide_eq_true hd, e, Bool.true_and, Bool.true_and] at hq
      have t := y2 (nxt w h N (l / 2) (l % 2)) (by omega) (by omega)
      have db := y3.1.2.1 _ (show 0 ≤ nxt w h N (l / 2) (l % 2) by omega) hnb2.2.2.2.2
      have db2 := y3.lt (show 0 ≤ nxt w h N (l / 2) (l % 2) by omega) hnb2.2.2.2.2
      have t' : aI (wI y (m + 1) (2 + l).toNat (ji 0)) (m + 3) (nxt w h N (l / 2) (l % 2)).toNat = ji (d (nxt w h N (l / 2) (l % 2))) := by
        rw [aI_wI_a _ _ _ _ _ _ (by omega)]; exact t
      have hS4 : RS (wI y (m + 1) (2 + l).toNat (ji 0)) m := hS3.mono (CH.wI (S := fun _ => True) (CH.refl _ y) (m + 1) (2 + l).toNat (ji 0) trivial).1
      by_cases q : d (nxt w h N (l / 2) (l % 2)) = -1
      · rw [decide_eq_true q, jb_t _ rfl] at hq
        simp (disch := first | assumption | omega) only [RS_0, RS_1, RS_2, RS_3, RS_4, RS_5, RS_6, RS_7, RS_8, RS_9, RS_10, RS_11, RS_12, RS_13, RS_14, RS_15, RS_16, RS_17, RS_18, RS_19, RS_20, RS_21, RS_22, RS_23, RS_24, RS_25, RS_26, RS_27, RS_28, RS_29, RS_30, RS_31, RS_32, RS_33, RS_34, RS_35, RS_36, ji_add, ji_sub, ji_mul, ji_neg, ji_lit0, ji_ofNat, ji_lt, ji_le, ji_eq, ji_nat, ji_in, ji_rem, ji_div, jl_of, xl_lt, xl_gt, xl_eq, qV_at, qI_at, qJ_at, qD_at, qA_at, qA_no, nb0, nb1, cat_r, cat_i, Option.some.injEq, exists_eq_left', true_and, and_true, if_true, if_false, ite_not, not_true_eq_false, not_false_eq_true, Sum.inr.injEq, exists_eq_right', true_or, or_true, and_self, Int.cast_ofNat_Int, reduceCtorEq, or_false, false_or, false_and, and_false, jb_zero, lt7_0, lt7_1, lt7_2, lt7_3, lt7_4, lt7_5, lt7_6, c_X9_isBridge_1, c_X9_isBridge_2, c_X9_isBridge_3, c_X9_isBridge_4, t', q, nb1, ↓reduceIte, ilt_t, ilt_f, ile_t, ile_f, ieq_t, ieq_f, jb_T, jb_F, jb_t, jb_f]
        exact hq
      · rw [decide_eq_false q, jb_f _ (by decide)] at hq
        simp (disch := first | assumption | omega) only [RS_0, RS_1, RS_2, RS_3, RS_4, RS_5, RS_6, RS_7, RS_8, RS_9, RS_10, RS_11, RS_12, RS_13, RS_14, RS_15, RS_16, RS_17, RS_18, RS_19, RS_20, RS_21, RS_22, RS_23, RS_24, RS_25, RS_26, RS_27, RS_28, RS_29, RS_30, RS_31, RS_32, RS_33, RS_34, RS_35, RS_36, ji_add, ji_sub, ji_mul, ji_neg, ji_lit0, ji_ofNat, ji_lt, ji_le, ji_eq, ji_nat, ji_in, ji_rem, ji_div, jl_of, xl_lt, xl_gt, xl_eq, qV_at, qI_at, qJ_at, qD_at, qA_at, qA_no, nb0, nb1, cat_r, cat_i, Option.some.injEq, exists_eq_left', true_and, and_true, if_true, if_false, ite_not, not_true_eq_false, not_false_eq_true, Sum.inr.injEq, exists_eq_right', true_or, or_true, and_self, Int.cast_ofNat_Int, reduceCtorEq, or_false, false_or, false_and, and_false, jb_zero, lt7_0, lt7_1, lt7_2, lt7_3, lt7_4, lt7_5, lt7_6, c_X9_isBridge_1, c_X9_isBridge_2, c_X9_isBridge_3, c_X9_isBridge_4, t', q, nb0, ↓reduceIte, ilt_t, ilt_f, ile_t, ile_f, ieq_t, ieq_f, jb_T, jb_F, jb_t, jb_f]
        exact hq
    · have fd := fun (Q : XQ) X => f_isDeadNow (Q := Q) (X := X) hS hR l0 l1 dd
      rw [jb_t _ hd] at fd
      have e : isB w h N Z l = false := by unfold isB; rw [decide_eq_false hd, Bool.and_false, Bool.false_and]
      rw [e, jb_f _ (by decide)] at hq0
      simp (disch := first | assumption | omega) only [RS_0, RS_1, RS_2, RS_3, RS_4, RS_5, RS_6, RS_7, RS_8, RS_9, RS_10, RS_11, RS_12, RS_13, RS_14, RS_15, RS_16, RS_17, RS_18, RS_19, RS_20, RS_21, RS_22, RS_23, RS_24, RS_25, RS_26, RS_27, RS_28, RS_29, RS_30, RS_31, RS_32, RS_33, RS_34, RS_35, RS_36, ji_add, ji_sub, ji_mul, ji_neg, ji_lit0, ji_ofNat, ji_lt, ji_le, ji_eq, ji_nat, ji_in, ji_rem, ji_div, jl_of, xl_lt, xl_gt, xl_eq, qV_at, qI_at, qJ_at, qD_at, qA_at, qA_no, nb0, nb1, cat_r, cat_i, Option.some.injEq, exists_eq_left', true_and, and_true, if_true, if_false, ite_not, not_true_eq_false, not_false_eq_true, Sum.inr.injEq, exists_eq_right', true_or, or_true, and_self, Int.cast_ofNat_Int, reduceCtorEq, or_false, false_or, false_and, and_false, jb_zero, lt7_0, lt7_1, lt7_2, lt7_3, lt7_4, lt7_5, lt7_6, c_X9_isBridge_1, c_X9_isBridge_2, c_X9_isBridge_3, c_X9_isBridge_4, u_X9_isBridge, c_X9_isBridge_1, c_X9_isBridge_2, c_X9_isBridge_3, c_X9_isBridge_4, fl, hl, fd, nb0, ↓reduceIte, ilt_t, ilt_f, ile_t, ile_f, ieq_t, ieq_f, jb_T, jb_F, jb_t, jb_f]
      exact hq0
  · have e : isB w h N Z l = false := by unfold isB; rw [Bool.eq_false_iff.mpr hl]; rfl
    rw [e, jb_f _ (by decide)] at hq0
    simp (disch := first | assumption | omega) only [RS_0, RS_1, RS_2, RS_3, RS_4, RS_5, RS_6, RS_7, RS_8, RS_9, RS_10, RS_11, RS_12, RS_13, RS_14, RS_15, RS_16, RS_17, RS_18, RS_19, RS_20, RS_21, RS_22, RS_23, RS_24, RS_25, RS_26, RS_27, RS_28, RS_29, RS_30, RS_31, RS_32, RS_33, RS_34, RS_35, RS_36, ji_add, ji_sub, ji_mul, ji_neg, ji_lit0, ji_ofNat, ji_lt, ji_le, ji_eq, ji_nat, ji_in, ji_rem, ji_div, jl_of, xl_lt, xl_gt, xl_eq, qV_at, qI_at, qJ_at, qD_at, qA_at, qA_no, nb0, nb1, cat_r, cat_i, Option.some.injEq, exists_eq_left', true_and, and_true, if_true, if_false, ite_not, not_true_eq_false, not_false_eq_true, Sum.inr.injEq, exists_eq_right', true_or, or_true, and_self, Int.cast_ofNat_Int, reduceCtorEq, or_false, false_or, false_and, and_false, jb_zero, lt7_0, lt7_1, lt7_2, lt7_3, lt7_4, lt7_5, lt7_6, c_X9_isBridge_1, c_X9_isBridge_2, c_X9_isBridge_3, c_X9_isBridge_4, u_X9_isBridge, c_X9_isBridge_1, c_X9_isBridge_2, c_X9_isBridge_3, c_X9_isBridge_4, fl, jb_eqf hl, nb0, ↓reduceIte, ilt_t, ilt_f, ile_t, ile_f, ieq_t, ieq_f, jb_T, jb_F, jb_t, jb_f]
    exact hq0
theorem r_bridge (hM : MS μ m A) (hi : INV A) {i : Int} (i0 : -2147483648 ≤ i) (i1 : i < 2147483648) (hQ : RQ μ m Q (xBridge A i)) : s_X9_bridge μ [.ref m, .int (ji i)] Q X := by
  have hS := hM.1
  have hB := hi.1.1.1
  have hz := hB.z
  have hw := hB.1
  have hbz := hB.2.1
  rw [u_X9_bridge]
  refine ⟨RS_0 hS, ?_⟩
  obtain ⟨hS1, hR1, hM1, h0, c⟩ := hM.nul hi
  generalize sI μ 298 m (ji 0) = ν at *
  unfold xBridge op1 at hQ
  by_cases h1 : 0 ≤ i
  · rw [if_pos h1] at hQ
    simp (disch := first | assumption | omega) only [RS_0, RS_1, RS_2, RS_3, RS_4, RS_5, RS_6, RS_7, RS_8, RS_9, RS_10, RS_11, RS_12, RS_13, RS_14, RS_15, RS_16, RS_17, RS_18, RS_19, RS_20, RS_21, RS_22, RS_23, RS_24, RS_25, RS_26, RS_27, RS_28, RS_29, RS_30, RS_31, RS_32, RS_33, RS_34, RS_35, RS_36, ji_add, ji_sub, ji_mul, ji_neg, ji_lit0, ji_ofNat, ji_lt, ji_le, ji_eq, ji_nat, ji_in, ji_rem, ji_div, jl_of, xl_lt, xl_gt, xl_eq, qV_at, qI_at, qJ_at, qD_at, qA_at, qA_no, nb0, nb1, cat_r, cat_i, Option.some.injEq, exists_eq_left', true_and, and_true, if_true, if_false, ite_not, not_true_eq_false, not_false_eq_true, Sum.inr.injEq, exists_eq_right', true_or, or_true, and_self, Int.cast_ofNat_Int, reduceCtorEq, or_false, false_or, false_and, and_false, jb_zero, lt7_0, lt7_1, lt7_2, lt7_3, lt7_4, lt7_5, lt7_6, c_X9_bridge_1, c_X9_bridge_2, c_X9_bridge_3, h1, g_t0 hS1, ↓reduceIte, ilt_t, ilt_f, ile_t, ile_f, ieq_t, ieq_f, jb_T, jb_F, jb_t, jb_f]
    rw [l_X9_bridge_28, xseal_eq]
    refine imp_loop (fun mf (u : XM × Int) l => ln_X9_bridge_28 Q X mf [some (.ref m), none, some (.int (ji (i - u.2))), some (.int (ji l))] [] u.1 0 0) (fun l u => CH (inR m) u.1 ν ∧ (0 ≤ u.2 ∧ u.2 ≤ l ∧ u.2 ≤ i) ∧ brz A.1.1 A.1.2.1 A.1.2.2.1 A.2.1 i (72 - l).toNat l u.2 = brz A.1.1 A.1.2.1 A.1.2.2.1 A.2.1 i 72 0 0) 72 (fun mf u hu => ?_) (fun mf u l l0 l1 hu hn => ?_) 72 10000 0 (ν, 0) (by omega) (by omega) (by omega) ⟨CH.refl _ _, by simp only; omega, rfl⟩ |> (fun z => by simpa only [Int.sub_zero] using z)
    · obtain ⟨z, c'⟩ := u
      obtain ⟨u1, u3, u4⟩ := hu
      simp only at u1 u3 u4
      show ln_X9_bridge_28 Q X (mf + 1) [some (.ref m), none, some (.int (ji (i - c'))), some (.int (ji 72))] [] z 0 0
      rw [ul_X9_bridge_28]
      simp (disch := first | assumption | omega) only [RS_0, RS_1, RS_2, RS_3, RS_4, RS_5, RS_6, RS_7, RS_8, RS_9, RS_10, RS_11, RS_12, RS_13, RS_14, RS_15, RS_16, RS_17, RS_18, RS_19, RS_20, RS_21, RS_22, RS_23, RS_24, RS_25, RS_26, RS_27, RS_28, RS_29, RS_30, RS_31, RS_32, RS_33, RS_34, RS_35, RS_36, ji_add, ji_sub, ji_mul, ji_neg, ji_lit0, ji_ofNat, ji_lt, ji_le, ji_eq, ji_nat, ji_in, ji_rem, ji_div, jl_of, xl_lt, xl_gt, xl_eq, qV_at, qI_at, qJ_at, qD_at, qA_at, qA_no, nb0, nb1, cat_r, cat_i, Option.some.injEq, exists_eq_left', true_and, and_true, if_true, if_false, ite_not, not_true_eq_false, not_false_eq_true, Sum.inr.injEq, exists_eq_right', true_or, or_true, and_self, Int.cast_ofNat_Int, reduceCtorEq, or_false, false_or, false_and, and_false, jb_zero, lt7_0, lt7_1, lt7_2, lt7_3, lt7_4, lt7_5, lt7_6, ↓reduceIte, ilt_t, ilt_f, ile_t, ile_f, ieq_t, ieq_f, jb_T, jb_F, jb_t, jb_f]
      have u4 : -1 = brz A.1.1 A.1.2.1 A.1.2.2.1 A.2.1 i 72 0 0 := u4
      rw [← u4] at hQ
      exact hQ.a (CH.trans u1.rM c) (hM1.rows u1) (hM1.n0 u1 h0)
    · obtain ⟨z, c'⟩ := u
      obtain ⟨u1, u3, u4⟩ := hu
      simp only at u1 u3 u4
      show ln_X9_bridge_28 Q X (mf + 1) [some (.ref m), none, some (.int (ji (i - c'))), some (.int (ji l))] [] z 0 0
      have hS2 := hS1.mono u1.1
      have hR2 := hR1.rows u1 (by unfold inR; omega) (by unfold inR; omega)
      rw [ul_X9_bridge_28]
      simp (disch := first | assumption | omega) only [RS_0, RS_1, RS_2, RS_3, RS_4, RS_5, RS_6, RS_7, RS_8, RS_9, RS_10, RS_11, RS_12, RS_13, RS_14, RS_15, RS_16, RS_17, RS_18, RS_19, RS_20, RS_21, RS_22, RS_23, RS_24, RS_25, RS_26, RS_27, RS_28, RS_29, RS_30, RS_31, RS_32, RS_33, RS_34, RS_35, RS_36, ji_add, ji_sub, ji_mul, ji_neg, ji_lit0, ji_ofNat, ji_lt, ji_le, ji_eq, ji_nat, ji_in, ji_rem, ji_div, jl_of, xl_lt, xl_gt, xl_eq, qV_at, qI_at, qJ_at, qD_at, qA_at, qA_no, nb0, nb1, cat_r, cat_i, Option.some.injEq, exists_eq_left', true_and, and_true, if_true, if_false, ite_not, not_true_eq_false, not_false_eq_true, Sum.inr.injEq, exists_eq_right', true_or, or_true, and_self, Int.cast_ofNat_Int, reduceCtorEq, or_false, false_or, false_and, and_false, jb_zero, lt7_0, lt7_1, lt7_2, lt7_3, lt7_4, lt7_5, lt7_6, ↓reduceIte, ilt_t, ilt_f, ile_t, ile_f, ieq_t, ieq_f, jb_T, jb_F, jb_t, jb_f]
      refine f_isBridge hS2 hR2 hi.1.1 l0 l1 (fun v v1 => ?_)
      have c2 := CH.trans v1 u1
      rw [show (72 - l).toNat = (72 - (l + 1)).toNat + 1 by omega, brz] at u4
      by_cases q : isB A.1.1 A.1.2.1 A.1.2.2.1 A.2.1 l = true
      · rw [if_pos q] at u4
        by_cases qi : c' = i
        · rw [if_pos qi] at u4
          rw [← u4] at hQ
          have qz : i - c' = 0 := by omega
          rw [qz]
          simp (disch := first | assumption | omega) only [RS_0, RS_1, RS_2, RS_3, RS_4, RS_5, RS_6, RS_7, RS_8, RS_9, RS_10, RS_11, RS_12, RS_13, RS_14, RS_15, RS_16, RS_17, RS_18, RS_19, RS_20, RS_21, RS_22, RS_23, RS_24, RS_25, RS_26, RS_27, RS_28, RS_29, RS_30, RS_31, RS_32, RS_33, RS_34, RS_35, RS_36, ji_add, ji_sub, ji_mul, ji_neg, ji_lit0, ji_ofNat, ji_lt, ji_le, ji_eq, ji_nat, ji_in, ji_rem, ji_div, jl_of, xl_lt, xl_gt, xl_eq, qV_at, qI_at, qJ_at, qD_at, qA_at, qA_no, nb0, nb1, cat_r, cat_i, Option.some.injEq, exists_eq_left', true_and, and_true, if_true, if_false, ite_not, not_true_eq_false, not_false_eq_true, Sum.inr.injEq, exists_eq_right', true_or, or_true, and_self, Int.cast_ofNat_Int, reduceCtorEq, or_false, false_or, false_and, and_false, jb_zero, lt7_0, lt7_1, lt7_2, lt7_3, lt7_4, lt7_5, lt7_6, c_X9_bridge_1, c_X9_bridge_2, c_X9_bridge_3, q, ↓reduceIte, ilt_t, ilt_f, ile_t, ile_f, ieq_t, ieq_f, jb_T, jb_F, jb_t, jb_f]
          exact hQ.a (CH.trans c2.rM c) (hM1.rows c2) (hM1.n0 c2 h0)
        · rw [if_neg qi] at u4
          have qz : ¬ i - c' = 0 := by omega
          have qe : i - c' + -1 = i - (c' + 1) := by omega
          simp (disch := first | assumption | omega) only [RS_0, RS_1, RS_2, RS_3, RS_4, RS_5, RS_6, RS_7, RS_8, RS_9, RS_10, RS_11, RS_12, RS_13, RS_14, RS_15, RS_16, RS_17, RS_18, RS_19, RS_20, RS_21, RS_22, RS_23, RS_24, RS_25, RS_26, RS_27, RS_28, RS_29, RS_30, RS_31, RS_32, RS_33, RS_34, RS_35, RS_36, ji_add, ji_sub, ji_mul, ji_neg, ji_lit0, ji_ofNat, ji_lt, ji_le, ji_eq, ji_nat, ji_in, ji_rem, ji_div, jl_of, xl_lt, xl_gt, xl_eq, qV_at, qI_at, qJ_at, qD_at, qA_at, qA_no, nb0, nb1, cat_r, cat_i, Option.some.injEq, exists_eq_left', true_and, and_true, if_true, if_false, ite_not, not_true_eq_false, not_false_eq_true, Sum.inr.injEq, exists_eq_right', true_or, or_true, and_self, Int.cast_ofNat_Int, reduceCtorEq, or_false, false_or, false_and, and_false, jb_zero, lt7_0, lt7_1, lt7_2, lt7_3, lt7_4, lt7_5, lt7_6, c_X9_bridge_1, c_X9_bridge_2, c_X9_bridge_3, q, qz, qe, ↓reduceIte, ilt_t, ilt_f, ile_t, ile_f, ieq_t, ieq_f, jb_T, jb_F, jb_t, jb_f]
          exact hn (v, c' + 1) ⟨c2, by simp only; omega, u4⟩
      · rw [if_neg q] at u4
        simp (disch := first | assumption | omega) only [RS_0, RS_1, RS_2, RS_3, RS_4, RS_5, RS_6, RS_7, RS_8, RS_9, RS_10, RS_11, RS_12, RS_13, RS_14, RS_15, RS_16, RS_17, RS_18, RS_19, RS_20, RS_21, RS_22, RS_23, RS_24, RS_25, RS_26, RS_27, RS_28, RS_29, RS_30, RS_31, RS_32, RS_33, RS_34, RS_35, RS_36, ji_add, ji_sub, ji_mul, ji_neg, ji_lit0, ji_ofNat, ji_lt, ji_le, ji_eq, ji_nat, ji_in, ji_rem, ji_div, jl_of, xl_lt, xl_gt, xl_eq, qV_at, qI_at, qJ_at, qD_at, qA_at, qA_no, nb0, nb1, cat_r, cat_i, Option.some.injEq, exists_eq_left', true_and, and_true, if_true, if_false, ite_not, not_true_eq_false, not_false_eq_true, Sum.inr.injEq, exists_eq_right', true_or, or_true, and_self, Int.cast_ofNat_Int, reduceCtorEq, or_false, false_or, false_and, and_false, jb_zero, lt7_0, lt7_1, lt7_2, lt7_3, lt7_4, lt7_5, lt7_6, c_X9_bridge_1, c_X9_bridge_2, c_X9_bridge_3, jb_eqf q, ↓reduceIte, ilt_t, ilt_f, ile_t, ile_f, ieq_t, ieq_f, jb_T, jb_F, jb_t, jb_f]
        exact hn (v, c') ⟨c2, by simp only; omega, u4⟩
  · rw [if_neg h1] at hQ
    simp (disch := first | assumption | omega) only [RS_0, RS_1, RS_2, RS_3, RS_4, RS_5, RS_6, RS_7, RS_8, RS_9, RS_10, RS_11, RS_12, RS_13, RS_14, RS_15, RS_16, RS_17, RS_18, RS_19, RS_20, RS_21, RS_22, RS_23, RS_24, RS_25, RS_26, RS_27, RS_28, RS_29, RS_30, RS_31, RS_32, RS_33, RS_34, RS_35, RS_36, ji_add, ji_sub, ji_mul, ji_neg, ji_lit0, ji_ofNat, ji_lt, ji_le, ji_eq, ji_nat, ji_in, ji_rem, ji_div, jl_of, xl_lt, xl_gt, xl_eq, qV_at, qI_at, qJ_at, qD_at, qA_at, qA_no, nb0, nb1, cat_r, cat_i, Option.some.injEq, exists_eq_left', true_and, and_true, if_true, if_false, ite_not, not_true_eq_false, not_false_eq_true, Sum.inr.injEq, exists_eq_right', true_or, or_true, and_self, Int.cast_ofNat_Int, reduceCtorEq, or_false, false_or, false_and, and_false, jb_zero, lt7_0, lt7_1, lt7_2, lt7_3, lt7_4, lt7_5, lt7_6, c_X9_bridge_1, c_X9_bridge_2, c_X9_bridge_3, h1, g_t1 hS1, ↓reduceIte, ilt_t, ilt_f, ile_t, ile_f, ieq_t, ieq_f, jb_T, jb_F, jb_t, jb_f]
    exact hQ.x (by decide) c hM1 _
end
