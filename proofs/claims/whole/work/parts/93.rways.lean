/-! ===== the reference: ways of a length ===== -/
section
variable {μ ν : XM} {m : Nat} {Q : XQ} {X : XX} {A : AS} {w h N s f : Int} {Z F : Int → Int} {C : Nat → Prop}
theorem or_z1 : ji 0 ||| ji 1 = ji 1 := by decide
theorem or_z0 : ji 0 ||| ji 0 = ji 0 := by decide
theorem or_o1 : ji 1 ||| ji 1 = ji 1 := by decide
theorem or_o0 : ji 1 ||| ji 0 = ji 1 := by decide
theorem f_isInRow (hS : RS μ m) {P : Int → Int} (hP : MR μ (m + 4) 9 P) {S : Int → Int → Bool} {v0 c v : Int} (c0 : 0 ≤ c) (c1 : c ≤ 9) (hSp : ∀ j, S v0 j = true ↔ ∃ i, 0 ≤ i ∧ i < c ∧ P i = j) (v1 : 0 ≤ v) (v2 : v < 36) (hQ : Q (some (.int (jb (S v0 v = true)))) μ) (hPb : ∀ i, 0 ≤ i → i < c → 0 ≤ P i ∧ P i < 36 := by assumption) : s_X9_isInRow μ [.ref m, .int (ji v), .int (ji c)] Q X := by
  rw [u_X9_isInRow, l_X9_isInRow_5, xseal_eq]
  refine imp_loop (fun mf (u : Int) l => ln_X9_isInRow_5 Q X mf [some (.ref m), some (.int (ji v)), some (.int (ji c)), some (.int (ji u)), some (.int (ji l))] [] μ 0 0) (fun l u => (u = 0 ∨ u = 1) ∧ (u = 1 ↔ ∃ i, 0 ≤ i ∧ i < l ∧ P i = v)) c (fun mf u hu => ?_) (fun mf u l l0 l1 hu hn => ?_) c.toNat 10000 0 0 (by omega) (by omega) (by omega) ⟨Or.inl rfl, ⟨fun q => by omega, fun ⟨i, i0, i1, _⟩ => by omega⟩⟩
  · show ln_X9_isInRow_5 Q X (mf + 1) [some (.ref m), some (.int (ji v)), some (.int (ji c)), some (.int (ji u)), some (.int (ji c))] [] μ 0 0
    rw [ul_X9_isInRow_5]
    obtain ⟨hu1, hu2⟩ := hu
    rw [← hSp v] at hu2
    rcases hu1 with rfl | rfl
    · rw [jb_f _ (fun q => by have := hu2.mpr q; omega)] at hQ
      simp (disch := first | assumption | omega) only [RS_0, RS_1, RS_2, RS_3, RS_4, RS_5, RS_6, RS_7, RS_8, RS_9, RS_10, RS_11, RS_12, RS_13, RS_14, RS_15, RS_16, RS_17, RS_18, RS_19, RS_20, RS_21, RS_22, RS_23, RS_24, RS_25, RS_26, RS_27, RS_28, RS_29, RS_30, RS_31, RS_32, RS_33, RS_34, RS_35, RS_36, ji_add, ji_sub, ji_mul, ji_neg, ji_lit0, ji_ofNat, ji_lt, ji_le, ji_eq, ji_nat, ji_in, ji_rem, ji_div, jl_of, xl_lt, xl_gt, xl_eq, qV_at, qI_at, qJ_at, qD_at, qA_at, qA_no, nb0, nb1, cat_r, cat_i, Option.some.injEq, exists_eq_left', true_and, and_true, if_true, if_false, ite_not, not_true_eq_false, not_false_eq_true, Sum.inr.injEq, exists_eq_right', true_or, or_true, and_self, Int.cast_ofNat_Int, reduceCtorEq, or_false, false_or, false_and, and_false, jb_zero, lt7_0, lt7_1, lt7_2, lt7_3, lt7_4, lt7_5, lt7_6, nb0, ↓reduceIte, ilt_t, ilt_f, ile_t, ile_f, ieq_t, ieq_f, jb_T, jb_F, jb_t, jb_f]
      exact hQ
    · rw [jb_t _ (hu2.mp rfl)] at hQ
      simp (disch := first | assumption | omega) only [RS_0, RS_1, RS_2, RS_3, RS_4, RS_5, RS_6, RS_7, RS_8, RS_9, RS_10, RS_11, RS_12, RS_13, RS_14, RS_15, RS_16, RS_17, RS_18, RS_19, RS_20, RS_21, RS_22, RS_23, RS_24, RS_25, RS_26, RS_27, RS_28, RS_29, RS_30, RS_31, RS_32, RS_33, RS_34, RS_35, RS_36, ji_add, ji_sub, ji_mul, ji_neg, ji_lit0, ji_ofNat, ji_lt, ji_le, ji_eq, ji_nat, ji_in, ji_rem, ji_div, jl_of, xl_lt, xl_gt, xl_eq, qV_at, qI_at, qJ_at, qD_at, qA_at, qA_no, nb0, nb1, cat_r, cat_i, Option.some.injEq, exists_eq_left', true_and, and_true, if_true, if_false, ite_not, not_true_eq_false, not_false_eq_true, Sum.inr.injEq, exists_eq_right', true_or, or_true, and_self, Int.cast_ofNat_Int, reduceCtorEq, or_false, false_or, false_and, and_false, jb_zero, lt7_0, lt7_1, lt7_2, lt7_3, lt7_4, lt7_5, lt7_6, nb1, ↓reduceIte, ilt_t, ilt_f, ile_t, ile_f, ieq_t, ieq_f, jb_T, jb_F, jb_t, jb_f]
      exact hQ
  · show ln_X9_isInRow_5 Q X (mf + 1) [some (.ref m), some (.int (ji v)), some (.int (ji c)), some (.int (ji u)), some (.int (ji l))] [] μ 0 0
    rw [ul_X9_isInRow_5]
    obtain ⟨hu1, hu2⟩ := hu
    have t := hP l l0 (by omega)
    have b := hPb l l0 l1
    by_cases q : P l = v
    · have hh := hn 1 ⟨Or.inr rfl, ⟨fun _ => ⟨l, l0, by omega, q⟩, fun _ => rfl⟩⟩
      rcases hu1 with rfl | rfl
      · simp (disch := first | assumption | omega) only [RS_0, RS_1, RS_2, RS_3, RS_4, RS_5, RS_6, RS_7, RS_8, RS_9, RS_10, RS_11, RS_12, RS_13, RS_14, RS_15, RS_16, RS_17, RS_18, RS_19, RS_20, RS_21, RS_22, RS_23, RS_24, RS_25, RS_26, RS_27, RS_28, RS_29, RS_30, RS_31, RS_32, RS_33, RS_34, RS_35, RS_36, ji_add, ji_sub, ji_mul, ji_neg, ji_lit0, ji_ofNat, ji_lt, ji_le, ji_eq, ji_nat, ji_in, ji_rem, ji_div, jl_of, xl_lt, xl_gt, xl_eq, qV_at, qI_at, qJ_at, qD_at, qA_at, qA_no, nb0, nb1, cat_r, cat_i, Option.some.injEq, exists_eq_left', true_and, and_true, if_true, if_false, ite_not, not_true_eq_false, not_false_eq_true, Sum.inr.injEq, exists_eq_right', true_or, or_true, and_self, Int.cast_ofNat_Int, reduceCtorEq, or_false, false_or, false_and, and_false, jb_zero, lt7_0, lt7_1, lt7_2, lt7_3, lt7_4, lt7_5, lt7_6, t, q, or_z1, ↓reduceIte, ilt_t, ilt_f, ile_t, ile_f, ieq_t, ieq_f, jb_T, jb_F, jb_t, jb_f]
        exact hh
      · simp (disch := first | assumption | omega) only [RS_0, RS_1, RS_2, RS_3, RS_4, RS_5, RS_6, RS_7, RS_8, RS_9, RS_10, RS_11, RS_12, RS_13, RS_14, RS_15, RS_16, RS_17, RS_18, RS_19, RS_20, RS_21, RS_22, RS_23, RS_24, RS_25, RS_26, RS_27, RS_28, RS_29, RS_30, RS_31, RS_32, RS_33, RS_34, RS_35, RS_36, ji_add, ji_sub, ji_mul, ji_neg, ji_lit0, ji_ofNat, ji_lt, ji_le, ji_eq, ji_nat, ji_in, ji_rem, ji_div, jl_of, xl_lt, xl_gt, xl_eq, qV_at, qI_at, qJ_at, qD_at, qA_at, qA_no, nb0, nb1, cat_r, cat_i, Option.some.injEq, exists_eq_left', true_and, and_true, if_true, if_false, ite_not, not_true_eq_false, not_false_eq_true, Sum.inr.injEq, exists_eq_right', true_or, or_true, and_self, Int.cast_ofNat_Int, reduceCtorEq, or_false, false_or, false_and, and_false, jb_zero, lt7_0, lt7_1, lt7_2, lt7_3, lt7_4, lt7_5, lt7_6, t, q, or_o1, ↓reduceIte, ilt_t, ilt_f, ile_t, ile_f, ieq_t, ieq_f, jb_T, jb_F, jb_t, jb_f]
        exact hh
    · have hh := hn u ⟨hu1, hu2.trans ⟨fun ⟨i, i0, i1, i2⟩ => ⟨i, i0, by omega, i2⟩, fun ⟨i, i0, i1, i2⟩ => ⟨i, i0, by
        have : i ≠ l := fun z => q (by rw [← z]; exact i2)
        omega, i2⟩⟩⟩
      rcases hu1 with rfl | rfl
      · simp (disch := first | assumption | omega) only [RS_0, RS_1, RS_2, RS_3, RS_4, RS_5, RS_6, RS_7, RS_8, RS_9, RS_10, RS_11, RS_12, RS_13, RS_14, RS_15, RS_16, RS_17, RS_18, RS_19, RS_20, RS_21, RS_22, RS_23, RS_24, RS_25, RS_26, RS_27, RS_28, RS_29, RS_30, RS_31, RS_32, RS_33, RS_34, RS_35, RS_36, ji_add, ji_sub, ji_mul, ji_neg, ji_lit0, ji_ofNat, ji_lt, ji_le, ji_eq, ji_nat, ji_in, ji_rem, ji_div, jl_of, xl_lt, xl_gt, xl_eq, qV_at, qI_at, qJ_at, qD_at, qA_at, qA_no, nb0, nb1, cat_r, cat_i, Option.some.injEq, exists_eq_left', true_and, and_true, if_true, if_false, ite_not, not_true_eq_false, not_false_eq_true, Sum.inr.injEq, exists_eq_right', true_or, or_true, and_self, Int.cast_ofNat_Int, reduceCtorEq, or_false, false_or, false_and, and_false, jb_zero, lt7_0, lt7_1, lt7_2, lt7_3, lt7_4, lt7_5, lt7_6, t, q, or_z0, ↓reduceIte, ilt_t, ilt_f, ile_t, ile_f, ieq_t, ieq_f, jb_T, jb_F, jb_t, jb_f]
        exact hh
      · simp (disch := first | assumption | omega) only [RS_0, RS_1, RS_2, RS_3, RS_4, RS_5, RS_6, RS_7, RS_8, RS_9, RS_10, RS_11, RS_12, RS_13, RS_14, RS_15, RS_16, RS_17, RS_18, RS_19, RS_20, RS_21, RS_22, RS_23, RS_24, RS_25, RS_26, RS_27, RS_28, RS_29, RS_30, RS_31, RS_32, RS_33, RS_34, RS_35, RS_36, ji_add, ji_sub, ji_mul, ji_neg, ji_lit0, ji_ofNat, ji_lt, ji_le, ji_eq, ji_nat, ji_in, ji_rem, ji_div, jl_of, xl_lt, xl_gt, xl_eq, qV_at, qI_at, qJ_at, qD_at, qA_at, qA_no, nb0, nb1, cat_r, cat_i, Option.some.injEq, exists_eq_left', true_and, and_true, if_true, if_false, ite_not, not_true_eq_false, not_false_eq_true, Sum.inr.injEq, exists_eq_right', true_or, or_true, and_self, Int.cast_ofNat_Int, reduceCtorEq, or_false, false_or, false_and, and_false, jb_zero, lt7_0, lt7_1, lt7_2, lt7_3, lt7_4, lt7_5, lt7_6, t, q, or_o0, ↓reduceIte, ilt_t, ilt_f, ile_t, ile_f, ieq_t, ieq_f, jb_T, jb_F, jb_t, jb_f]
        exact hh
theorem f_nextOfRow_l (hS : RS μ m) (hR : RW μ m w h s Z) (hB : BD w h N s Z) {d n y0 : Int} {P Y : Int → Int} {S : Int → Int → Bool} {v0 : Int} (d0 : 0 ≤ d) (d1 : d < 9) (n0 : 0 ≤ n) (n1 : n < N) (hPn : P d = n) (hSp : ∀ j, S v0 j = true ↔ ∃ i, 0 ≤ i ∧ i < d + 1 ∧ P i = j) (hPb : ∀ i, 0 ≤ i → i < d + 1 → 0 ≤ P i ∧ P i < 36) (y00 : 0 ≤ y0) (hK : ∀ (y' : Int) (μ' : XM), y0 ≤ y' → y' ≤ 4 → (∀ u, y0 ≤ u → u < y' → ¬ (eA w h Z n u = true ∧ ¬ S v0 (nx w h n u) = true)) → (y' < 4 → eA w h Z n y' = true ∧ ¬ S v0 (nx w h n y') = true) → CH (inR m) μ' μ → MR μ' (m + 4) 9 P → MR μ' (m + 5) 9 (zu Y d (if y' < 4 then y' + 1 else 4)) → Q (some (.int (ji (if y' < 4 then nx w h n y' else -1)))) μ') : ∀ (k mf : Nat) (y : Int) (z : XM) (G : Int → Int), y + k = 4 → k < mf → y0 ≤ y → (∀ u, y0 ≤ u → u < y → ¬ (eA w h Z n u = true ∧ ¬ S v0 (nx w h n u) = true)) → CH (inR m) z μ → MR z (m + 4) 9 P → MR z (m + 5) 9 G → G d = y → (∀ i, i ≠ d → G i = Y i) → ln_X9_nextOfRow_0 Q X mf [some (.ref m), some (.int (ji d)), none, none] [] z 0 0 := by
  have hz := hB.z
  have g := hB.g
  intro k
  induction k with
  | zero =>
    intro mf y z G hk hm yy hno z1 z2 z3 hY hYo
    obtain ⟨mf, rfl⟩ : ∃ j, mf = j + 1 := ⟨mf - 1, by omega⟩
    have hS2 := hS.mono z1.1
    have hR2 := hR.rows z1 (by unfold inR; omega) (by unfold inR; omega)
    have tp := z2 d d0 (by omega)
    have ty := z3 d d0 (by omega)
    rw [hPn] at tp
    rw [hY] at ty
    rw [ul_X9_nextOfRow_0]
    obtain rfl : y = 4 := by omega
    have hq := hK 4 z (by omega) (by omega) (fun u u0 u1 => hno u u0 (by omega)) (fun q => by omega) z1 z2 (by
      intro i i0 i1
      rw [if_neg (by omega : ¬ (4 : Int) < 4)]
      by_cases hi : i = d
      · rw [hi, zu_at, ty]
      · rw [zu_ne hi, z3 i i0 i1, hYo i hi])
    rw [if_neg (by omega : ¬ (4 : Int) < 4)] at hq
    simp (disch := first | assumption | omega) only [RS_0, RS_1, RS_2, RS_3, RS_4, RS_5, RS_6, RS_7, RS_8, RS_9, RS_10, RS_11, RS_12, RS_13, RS_14, RS_15, RS_16, RS_17, RS_18, RS_19, RS_20, RS_21, RS_22, RS_23, RS_24, RS_25, RS_26, RS_27, RS_28, RS_29, RS_30, RS_31, RS_32, RS_33, RS_34, RS_35, RS_36, ji_add, ji_sub, ji_mul, ji_neg, ji_lit0, ji_ofNat, ji_lt, ji_le, ji_eq, ji_nat, ji_in, ji_rem, ji_div, jl_of, xl_lt, xl_gt, xl_eq, qV_at, qI_at, qJ_at, qD_at, qA_at, qA_no, nb0, nb1, cat_r, cat_i, Option.some.injEq, exists_eq_left', true_and, and_true, if_true, if_false, ite_not, not_true_eq_false, not_false_eq_true, Sum.inr.injEq, exists_eq_right', true_or, or_true, and_self, Int.cast_ofNat_Int, reduceCtorEq, or_false, false_or, false_and, and_false, jb_zero, lt7_0, lt7_1, lt7_2, lt7_3, lt7_4, lt7_5, lt7_6, ty, ↓reduceIte, ilt_t, ilt_f, ile_t, ile_f, ieq_t, ieq_f, jb_T, jb_F, jb_t, jb_f]
    exact hq
  | succ k ih =>
    intro mf y z G hk hm yy hno z1 z2 z3 hY hYo
    obtain ⟨mf, rfl⟩ : ∃ j, mf = j + 1 := ⟨mf - 1, by omega⟩
    have hS2 := hS.mono z1.1
    have hR2 := hR.rows z1 (by unfold inR; omega) (by unfold inR; omega)
    have tp := z2 d d0 (by omega)
    have ty := z3 d d0 (by omega)
    rw [hPn] at tp
    rw [hY] at ty
    rw [ul_X9_nextOfRow_0]
    have h4 : ¬ y = 4 := by omega
    have xb := nx_b g n0 n1 (show 0 ≤ y by omega) (by omega)
    have c1 : CH (inR m) (wI z (m + 5) d.toNat (ji (y + 1))) μ := z1.wI _ _ _ (by unfold inR; omega)
    have hS3 := hS.mono c1.1
    have hR3 := hR.rows c1 (by unfold inR; omega) (by unfold inR; omega)
    have z2' : MR (wI z (m + 5) d.toNat (ji (y + 1))) (m + 4) 9 P := z2.ne (by omega)
    have z3' : MR (wI z (m + 5) d.toNat (ji (y + 1))) (m + 5) 9 (zu G d (y + 1)) := z3.put d0
    have tp3 := z2' d d0 (by omega)
    rw [hPn] at tp3
    have fx := fun (Q : XQ) X => f_nextTo (Q := Q) (X := X) hS3 hR3 hz n0 n1 (y := y) (by omega) (by omega)
    have flo := fun (Q : XQ) X => f_linkOf (Q := Q) (X := X) hS3 hR3 hz n0 n1 (show 0 ≤ y by omega) (show y < 4 by omega)
    have skip : ¬ (eA w h Z n y = true ∧ ¬ S v0 (nx w h n y) = true) → ln_X9_nextOfRow_0 Q X mf [some (.ref m), some (.int (ji d)), none, none] [] (wI z (m + 5) d.toNat (ji (y + 1))) 0 0 := fun hn => by
      exact ih mf (y + 1) _ _ (by omega) (by omega) (by omega) (fun u u0 u1 => by
          by_cases q : u = y
          · rw [q]; exact hn
          · exact hno u u0 (by omega)) c1 z2' z3' (zu_at _ _ _) (fun i hi => by rw [zu_ne hi]; exact hYo i hi)
    by_cases hx : nx w h n y = -1
    · rw [hx] at fx
      simp (disch := first | assumption | omega) only [RS_0, RS_1, RS_2, RS_3, RS_4, RS_5, RS_6, RS_7, RS_8, RS_9, RS_10, RS_11, RS_12, RS_13, RS_14, RS_15, RS_16, RS_17, RS_18, RS_19, RS_20, RS_21, RS_22, RS_23, RS_24, RS_25, RS_26, RS_27, RS_28, RS_29, RS_30, RS_31, RS_32, RS_33, RS_34, RS_35, RS_36, ji_add, ji_sub, ji_mul, ji_neg, ji_lit0, ji_ofNat, ji_lt, ji_le, ji_eq, ji_nat, ji_in, ji_rem, ji_div, jl_of, xl_lt, xl_gt, xl_eq, qV_at, qI_at, qJ_at, qD_at, qA_at, qA_no, nb0, nb1, cat_r, cat_i, Option.some.injEq, exists_eq_left', true_and, and_true, if_true, if_false, ite_not, not_true_eq_false, not_false_eq_true, Sum.inr.injEq, exists_eq_right', true_or, or_true, and_self, Int.cast_ofNat_Int, reduceCtorEq, or_false, false_or, false_and, and_false, jb_zero, lt7_0, lt7_1, lt7_2, lt7_3, lt7_4, lt7_5, lt7_6, c_X9_nextOfRow_1, c_X9_nextOfRow_2, c_X9_nextOfRow_3, c_X9_nextOfRow_4, c_X9_nextOfRow_5, c_X9_nextOfRow_6, c_X9_nextOfRow_7, c_X9_nextOfRow_8, ty, tp3, fx, Value.category, ↓reduceIte, ilt_t, ilt_f, ile_t, ile_f, ieq_t, ieq_f, jb_T, jb_F, jb_t, jb_f]
      exact skip (fun q => eA_nx q.1 hx)
    · have lk : lka w h N n y = lkb w n (nx w h n y) := by
        unfold lka
        rw [show nxt w h N n y = nx w h n y from if_pos ⟨n0, n1, by omega, by omega⟩, if_neg hx]
      have lb := xb.2.2.2 hx
      rw [lk] at flo
      have fd := fun (Q : XQ) X => f_isDeadNow (Q := Q) (X := X) hS3 hR3 lb.2.1 lb.2.2 (hB.2.2.1 (lkb w n (nx w h n y)) lb.2.1 lb.2.2)
      by_cases hzz : Z (2 + lkb w n (nx w h n y)) = 0
      · rw [jb_f _ (fun q : Z (2 + lkb w n (nx w h n y)) ≠ 0 => q hzz)] at fd
        simp (disch := first | assumption | omega) only [RS_0, RS_1, RS_2, RS_3, RS_4, RS_5, RS_6, RS_7, RS_8, RS_9, RS_10, RS_11, RS_12, RS_13, RS_14, RS_15, RS_16, RS_17, RS_18, RS_19, RS_20, RS_21, RS_22, RS_23, RS_24, RS_25, RS_26, RS_27, RS_28, RS_29, RS_30, RS_31, RS_32, RS_33, RS_34, RS_35, RS_36, ji_add, ji_sub, ji_mul, ji_neg, ji_lit0, ji_ofNat, ji_lt, ji_le, ji_eq, ji_nat, ji_in, ji_rem, ji_div, jl_of, xl_lt, xl_gt, xl_eq, qV_at, qI_at, qJ_at, qD_at, qA_at, qA_no, nb0, nb1, cat_r, cat_i, Option.some.injEq, exists_eq_left', true_and, and_true, if_true, if_false, ite_not, not_true_eq_false, not_false_eq_true, Sum.inr.injEq, exists_eq_right', true_or, or_true, and_self, Int.cast_ofNat_Int, reduceCtorEq, or_false, false_or, false_and, and_false, jb_zero, lt7_0, lt7_1, lt7_2, lt7_3, lt7_4, lt7_5, lt7_6, c_X9_nextOfRow_1, c_X9_nextOfRow_2, c_X9_nextOfRow_3, c_X9_nextOfRow_4, c_X9_nextOfRow_5, c_X9_nextOfRow_6, c_X9_nextOfRow_7, c_X9_nextOfRow_8, ty, tp3, fx, hx, flo, fd, Value.category, ↓reduceIte, ilt_t, ilt_f, ile_t, ile_f, ieq_t, ieq_f, jb_T, jb_F, jb_t, jb_f]
        refine f_isInRow hS3 z2' (by omega) (by omega) hSp (by omega) (by omega) ?_
        by_cases hs : S v0 (nx w h n y) = true
        · simp (disch := first | assumption | omega) only [RS_0, RS_1, RS_2, RS_3, RS_4, RS_5, RS_6, RS_7, RS_8, RS_9, RS_10, RS_11, RS_12, RS_13, RS_14, RS_15, RS_16, RS_17, RS_18, RS_19, RS_20, RS_21, RS_22, RS_23, RS_24, RS_25, RS_26, RS_27, RS_28, RS_29, RS_30, RS_31, RS_32, RS_33, RS_34, RS_35, RS_36, ji_add, ji_sub, ji_mul, ji_neg, ji_lit0, ji_ofNat, ji_lt, ji_le, ji_eq, ji_nat, ji_in, ji_rem, ji_div, jl_of, xl_lt, xl_gt, xl_eq, qV_at, qI_at, qJ_at, qD_at, qA_at, qA_no, nb0, nb1, cat_r, cat_i, Option.some.injEq, exists_eq_left', true_and, and_true, if_true, if_false, ite_not, not_true_eq_false, not_false_eq_true, Sum.inr.injEq, exists_eq_right', true_or, or_true, and_self, Int.cast_ofNat_Int, reduceCtorEq, or_false, false_or, false_and, and_false, jb_zero, lt7_0, lt7_1, lt7_2, lt7_3, lt7_4, lt7_5, lt7_6, c_X9_nextOfRow_1, c_X9_nextOfRow_2, c_X9_nextOfRow_3, c_X9_nextOfRow_4, c_X9_nextOfRow_5, c_X9_nextOfRow_6, c_X9_nextOfRow_7, c_X9_nextOfRow_8, hs, ↓reduceIte, ilt_t, ilt_f, ile_t, ile_f, ieq_t, ieq_f, jb_T, jb_F, jb_t, jb_f]
          exact skip (fun q => q.2 hs)
        · have hq := hK y _ (by omega) (by omega) (fun u u0 u1 => hno u u0 u1) (fun _ => ⟨eA_yes hx hzz, hs⟩) c1 z2' (by
            rw [if_pos (by omega)]
            intro i i0 i1
            rw [z3' i i0 i1]
            by_cases hi : i = d
            · rw [hi, zu_at, zu_at]
            · rw [zu_ne hi, zu_ne hi, hYo i hi])
          rw [if_pos (by omega)] at hq
          simp (disch := first | assumption | omega) only [RS_0, RS_1, RS_2, RS_3, RS_4, RS_5, RS_6, RS_7, RS_8, RS_9, RS_10, RS_11, RS_12, RS_13, RS_14, RS_15, RS_16, RS_17, RS_18, RS_19, RS_20, RS_21, RS_22, RS_23, RS_24, RS_25, RS_26, RS_27, RS_28, RS_29, RS_30, RS_31, RS_32, RS_33, RS_34, RS_35, RS_36, ji_add, ji_sub, ji_mul, ji_neg, ji_lit0, ji_ofNat, ji_lt, ji_le, ji_eq, ji_nat, ji_in, ji_rem, ji_div, jl_of, xl_lt, xl_gt, xl_eq, qV_at, qI_at, qJ_at, qD_at, qA_at, qA_no, nb0, nb1, cat_r, cat_i, Option.some.injEq, exists_eq_left', true_and, and_true, if_true, if_false, ite_not, not_true_eq_false, not_false_eq_true, Sum.inr.injEq, exists_eq_right', true_or, or_true, and_self, Int.cast_ofNat_Int, reduceCtorEq, or_false, false_or, false_and, and_false, jb_zero, lt7_0, lt7_1, lt7_2, lt7_3, lt7_4, lt7_5, lt7_6, c_X9_nextOfRow_1, c_X9_nextOfRow_2, c_X9_nextOfRow_3, c_X9_nextOfRow_4, c_X9_nextOfRow_5, c_X9_nextOfRow_6, c_X9_nextOfRow_7, c_X9_nextOfRow_8, jb_eqf hs, ↓reduceIte, ilt_t, ilt_f, ile_t, ile_f, ieq_t, ieq_f, jb_T, jb_F, jb_t, jb_f]
          exact hq
      · rw [jb_t _ hzz] at fd
        simp (disch := first | assumption | omega) only [RS_0, RS_1, RS_2, RS_3, RS_4, RS_5, RS_6, RS_7, RS_8, RS_9, RS_10, RS_11, RS_12, RS_13, RS_14, RS_15, RS_16, RS_17, RS_18, RS_19, RS_20, RS_21, RS_22, RS_23, RS_24, RS_25, RS_26, RS_27, RS_28, RS_29, RS_30, RS_31, RS_32, RS_33, RS_34, RS_35, RS_36, ji_add, ji_sub, ji_mul, ji_neg, ji_lit0, ji_ofNat, ji_lt, ji_le, ji_eq, ji_nat, ji_in, ji_rem, ji_div, jl_of, xl_lt, xl_gt, xl_eq, qV_at, qI_at, qJ_at, qD_at, qA_at, qA_no, nb0, nb1, cat_r, cat_i, Option.some.injEq, exists_eq_left', true_and, and_true, if_true, if_false, ite_not, not_true_eq_false, not_false_eq_true, Sum.inr.injEq, exists_eq_right', true_or, or_true, and_self, Int.cast_ofNat_Int, reduceCtorEq, or_false, false_or, false_and, and_false, jb_zero, lt7_0, lt7_1, lt7_2, lt7_3, lt7_4, lt7_5, lt7_6, c_X9_nextOfRow_1, c_X9_nextOfRow_2, c_X9_nextOfRow_3, c_X9_nextOfRow_4, c_X9_nextOfRow_5, c_X9_nextOfRow_6, c_X9_nextOfRow_7, c_X9_nextOfRow_8, ty, tp3, fx, hx, flo, fd, Value.category, ↓reduceIte, ilt_t, ilt_f, ile_t, ile_f, ieq_t, ieq_f, jb_T, jb_F, jb_t, jb_f]
        exact skip (fun q => hzz (eA_z q.1))
theorem f_nextOfRow (hS : RS μ m) (hR : RW μ m w h s Z) (hB : BD w h N s Z) {d n y0 : Int} {P Y : Int → Int} {S : Int → Int → Bool} {v0 : Int} (d0 : 0 ≤ d) (d1 : d < 9) (n0 : 0 ≤ n) (n1 : n < N) (hPn : P d = n) (hSp : ∀ j, S v0 j = true ↔ ∃ i, 0 ≤ i ∧ i < d + 1 ∧ P i = j) (hPb : ∀ i, 0 ≤ i → i < d + 1 → 0 ≤ P i ∧ P i < 36) (y00 : 0 ≤ y0) (hK : ∀ (y' : Int) (μ' : XM), y0 ≤ y' → y' ≤ 4 → (∀ u, y0 ≤ u → u < y' → ¬ (eA w h Z n u = true ∧ ¬ S v0 (nx w h n u) = true)) → (y' < 4 → eA w h Z n y' = true ∧ ¬ S v0 (nx w h n y') = true) → CH (inR m) μ' μ → MR μ' (m + 4) 9 P → MR μ' (m + 5) 9 (zu Y d (if y' < 4 then y' + 1 else 4)) → Q (some (.int (ji (if y' < 4 then nx w h n y' else -1)))) μ') (hP : MR μ (m + 4) 9 P) (hYr : MR μ (m + 5) 9 Y) (hY : Y d = y0) (y04 : y0 ≤ 4) : s_X9_nextOfRow μ [.ref m, .int (ji d)] Q X := by
  have lp := f_nextOfRow_l (X := X) hS hR hB d0 d1 n0 n1 hPn hSp hPb y00 hK
  have hz := hB.z
  have g := hB.g
  revert hY
  suffices hh : ∀ (y : Int) (z : XM) (G : Int → Int), y = y0 → z = μ → G = Y → CH (inR m) z μ → MR z (m + 4) 9 P → MR z (m + 5) 9 G → G d = y → (∀ i, i ≠ d → G i = Y i) → (∀ u, y0 ≤ u → u < y → ¬ (eA w h Z n u = true ∧ ¬ S v0 (nx w h n u) = true)) → s_X9_nextOfRow z [.ref m, .int (ji d)] Q X from fun q => hh y0 μ Y rfl rfl rfl (CH.refl _ _) hP hYr q (fun _ _ => rfl) (fun u u0 u1 => by omega)
  · intro y z G ey _ _ z1 z2 z3 hY hYo hno
    have hS2 := hS.mono z1.1
    have hR2 := hR.rows z1 (by unfold inR; omega) (by unfold inR; omega)
    have tp := z2 d d0 (by omega)
    have ty := z3 d d0 (by omega)
    rw [hPn] at tp
    rw [hY] at ty
    rw [u_X9_nextOfRow]
    by_cases h4 : y = 4
    · subst h4
      have hq := hK 4 z (by omega) (by omega) (fun u u0 u1 => hno u u0 (by omega)) (fun q => by omega) z1 z2 (by
        intro i i0 i1
        rw [if_neg (by omega : ¬ (4 : Int) < 4)]
        by_cases hi : i = d
        · rw [hi, zu_at, ty]
        · rw [zu_ne hi, z3 i i0 i1, hYo i hi])
      rw [if_neg (by omega : ¬ (4 : Int) < 4)] at hq
      simp (disch := first | assumption | omega) only [RS_0, RS_1, RS_2, RS_3, RS_4, RS_5, RS_6, RS_7, RS_8, RS_9, RS_10, RS_11, RS_12, RS_13, RS_14, RS_15, RS_16, RS_17, RS_18, RS_19, RS_20, RS_21, RS_22, RS_23, RS_24, RS_25, RS_26, RS_27, RS_28, RS_29, RS_30, RS_31, RS_32, RS_33, RS_34, RS_35, RS_36, ji_add, ji_sub, ji_mul, ji_neg, ji_lit0, ji_ofNat, ji_lt, ji_le, ji_eq, ji_nat, ji_in, ji_rem, ji_div, jl_of, xl_lt, xl_gt, xl_eq, qV_at, qI_at, qJ_at, qD_at, qA_at, qA_no, nb0, nb1, cat_r, cat_i, Option.some.injEq, exists_eq_left', true_and, and_true, if_true, if_false, ite_not, not_true_eq_false, not_false_eq_true, Sum.inr.injEq, exists_eq_right', true_or, or_true, and_self, Int.cast_ofNat_Int, reduceCtorEq, or_false, false_or, false_and, and_false, jb_zero, lt7_0, lt7_1, lt7_2, lt7_3, lt7_4, lt7_5, lt7_6, ty, ↓reduceIte, ilt_t, ilt_f, ile_t, ile_f, ieq_t, ieq_f, jb_T, jb_F, jb_t, jb_f]
      exact hq
    · have xb := nx_b g n0 n1 (show 0 ≤ y by omega) (by omega)
      have c1 : CH (inR m) (wI z (m + 5) d.toNat (ji (y + 1))) μ := z1.wI _ _ _ (by unfold inR; omega)
      have hS3 := hS.mono c1.1
      have hR3 := hR.rows c1 (by unfold inR; omega) (by unfold inR; omega)
      have z2' : MR (wI z (m + 5) d.toNat (ji (y + 1))) (m + 4) 9 P := z2.ne (by omega)
      have z3' : MR (wI z (m + 5) d.toNat (ji (y + 1))) (m + 5) 9 (zu G d (y + 1)) := z3.put d0
      have tp3 := z2' d d0 (by omega)
      rw [hPn] at tp3
      have fx := fun (Q : XQ) X => f_nextTo (Q := Q) (X := X) hS3 hR3 hz n0 n1 (y := y) (by omega) (by omega)
      have flo := fun (Q : XQ) X => f_linkOf (Q := Q) (X := X) hS3 hR3 hz n0 n1 (show 0 ≤ y by omega) (show y < 4 by omega)
      have skip : ¬ (eA w h Z n y = true ∧ ¬ S v0 (nx w h n y) = true) → l_X9_nextOfRow_0 Q X [some (.ref m), some (.int (ji d)), none, none] [] (wI z (m + 5) d.toNat (ji (y + 1))) 0 0 := fun hn => by
        rw [l_X9_nextOfRow_0, xseal_eq]
        exact lp (4 - (y + 1)).toNat 10000 (y + 1) _ _ (by omega) (by omega) (by omega) (fun u u0 u1 => by
          by_cases q : u = y
          · rw [q]; exact hn
          · exact hno u u0 (by omega)) c1 z2' z3' (zu_at _ _ _) (fun i hi => by rw [zu_ne hi]; exact hYo i hi)
      by_cases hx : nx w h n y = -1
      · rw [hx] at fx
        simp (disch := first | assumption | omega) only [RS_0, RS_1, RS_2, RS_3, RS_4, RS_5, RS_6, RS_7, RS_8, RS_9, RS_10, RS_11, RS_12, RS_13, RS_14, RS_15, RS_16, RS_17, RS_18, RS_19, RS_20, RS_21, RS_22, RS_23, RS_24, RS_25, RS_26, RS_27, RS_28, RS_29, RS_30, RS_31, RS_32, RS_33, RS_34, RS_35, RS_36, ji_add, ji_sub, ji_mul, ji_neg, ji_lit0, ji_ofNat, ji_lt, ji_le, ji_eq, ji_nat, ji_in, ji_rem, ji_div, jl_of, xl_lt, xl_gt, xl_eq, qV_at, qI_at, qJ_at, qD_at, qA_at, qA_no, nb0, nb1, cat_r, cat_i, Option.some.injEq, exists_eq_left', true_and, and_true, if_true, if_false, ite_not, not_true_eq_false, not_false_eq_true, Sum.inr.injEq, exists_eq_right', true_or, or_true, and_self, Int.cast_ofNat_Int, reduceCtorEq, or_false, false_or, false_and, and_false, jb_zero, lt7_0, lt7_1, lt7_2, lt7_3, lt7_4, lt7_5, lt7_6, c_X9_nextOfRow_1, c_X9_nextOfRow_2, c_X9_nextOfRow_3, c_X9_nextOfRow_4, c_X9_nextOfRow_5, c_X9_nextOfRow_6, c_X9_nextOfRow_7, c_X9_nextOfRow_8, ty, tp3, fx, Value.category, ↓reduceIte, ilt_t, ilt_f, ile_t, ile_f, ieq_t, ieq_f, jb_T, jb_F, jb_t, jb_f]
        exact skip (fun q => eA_nx q.1 hx)
      · have lk : lka w h N n y = lkb w n (nx w h n y) := by
          unfold lka
          rw [show nxt w h N n y = nx w h n y from if_pos ⟨n0, n1, by omega, by omega⟩, if_neg hx]
        have lb := xb.2.2.2 hx
        rw [lk] at flo
        have fd := fun (Q : XQ) X => f_isDeadNow (Q := Q) (X := X) hS3 hR3 lb.2.1 lb.2.2 (hB.2.2.1 (lkb w n (nx w h n y)) lb.2.1 lb.2.2)
        by_cases hzz : Z (2 + lkb w n (nx w h n y)) = 0
        · rw [jb_f _ (fun q : Z (2 + lkb w n (nx w h n y)) ≠ 0 => q hzz)] at fd
          simp (disch := first | assumption | omega) only [RS_0, RS_1, RS_2, RS_3, RS_4, RS_5, RS_6, RS_7, RS_8, RS_9, RS_10, RS_11, RS_12, RS_13, RS_14, RS_15, RS_16, RS_17, RS_18, RS_19, RS_20, RS_21, RS_22, RS_23, RS_24, RS_25, RS_26, RS_27, RS_28, RS_29, RS_30, RS_31, RS_32, RS_33, RS_34, RS_35, RS_36, ji_add, ji_sub, ji_mul, ji_neg, ji_lit0, ji_ofNat, ji_lt, ji_le, ji_eq, ji_nat, ji_in, ji_rem, ji_div, jl_of, xl_lt, xl_gt, xl_eq, qV_at, qI_at, qJ_at, qD_at, qA_at, qA_no, nb0, nb1, cat_r, cat_i, Option.some.injEq, exists_eq_left', true_and, and_true, if_true, if_false, ite_not, not_true_eq_false, not_false_eq_true, Sum.inr.injEq, exists_eq_right', true_or, or_true, and_self, Int.cast_ofNat_Int, reduceCtorEq, or_false, false_or, false_and, and_false, jb_zero, lt7_0, lt7_1, lt7_2, lt7_3, lt7_4, lt7_5, lt7_6, c_X9_nextOfRow_1, c_X9_nextOfRow_2, c_X9_nextOfRow_3, c_X9_nextOfRow_4, c_X9_nextOfRow_5, c_X9_nextOfRow_6, c_X9_nextOfRow_7, c_X9_nextOfRow_8, ty, tp3, fx, hx, flo, fd, Value.category, ↓reduceIte, ilt_t, ilt_f, ile_t, ile_f, ieq_t, ieq_f, jb_T, jb_F, jb_t, jb_f]
          refine f_isInRow hS3 z2' (by omega) (by omega) hSp (by omega) (by omega) ?_
          by_cases hs : S v0 (nx w h n y) = true
          · simp (disch := first | assumption | omega) only [RS_0, RS_1, RS_2, RS_3, RS_4, RS_5, RS_6, RS_7, RS_8, RS_9, RS_10, RS_11, RS_12, RS_13, RS_14, RS_15, RS_16, RS_17, RS_18, RS_19, RS_20, RS_21, RS_22, RS_23, RS_24, RS_25, RS_26, RS_27, RS_28, RS_29, RS_30, RS_31, RS_32, RS_33, RS_34, RS_35, RS_36, ji_add, ji_sub, ji_mul, ji_neg, ji_lit0, ji_ofNat, ji_lt, ji_le, ji_eq, ji_nat, ji_in, ji_rem, ji_div, jl_of, xl_lt, xl_gt, xl_eq, qV_at, qI_at, qJ_at, qD_at, qA_at, qA_no, nb0, nb1, cat_r, cat_i, Option.some.injEq, exists_eq_left', true_and, and_true, if_true, if_false, ite_not, not_true_eq_false, not_false_eq_true, Sum.inr.injEq, exists_eq_right', true_or, or_true, and_self, Int.cast_ofNat_Int, reduceCtorEq, or_false, false_or, false_and, and_false, jb_zero, lt7_0, lt7_1, lt7_2, lt7_3, lt7_4, lt7_5, lt7_6, c_X9_nextOfRow_1, c_X9_nextOfRow_2, c_X9_nextOfRow_3, c_X9_nextOfRow_4, c_X9_nextOfRow_5, c_X9_nextOfRow_6, c_X9_nextOfRow_7, c_X9_nextOfRow_8, hs, ↓reduceIte, ilt_t, ilt_f, ile_t, ile_f, ieq_t, ieq_f, jb_T, jb_F, jb_t, jb_f]
            exact skip (fun q => q.2 hs)
          · have hq := hK y _ (by omega) (by omega) (fun u u0 u1 => hno u u0 u1) (fun _ => ⟨eA_yes hx hzz, hs⟩) c1 z2' (by
              rw [if_pos (by omega)]
              intro i i0 i1
              rw [z3' i i0 i1]
              by_cases hi : i = d
              · rw [hi, zu_at, zu_at]
              · rw [zu_ne hi, zu_ne hi, hYo i hi])
            rw [if_pos (by omega)] at hq
            simp (disch := first | assumption | omega) only [RS_0, RS_1, RS_2, RS_3, RS_4, RS_5, RS_6, RS_7, RS_8, RS_9, RS_10, RS_11, RS_12, RS_13, RS_14, RS_15, RS_16, RS_17, RS_18, RS_19, RS_20, RS_21, RS_22, RS_23, RS_24, RS_25, RS_26, RS_27, RS_28, RS_29, RS_30, RS_31, RS_32, RS_33, RS_34, RS_35, RS_36, ji_add, ji_sub, ji_mul, ji_neg, ji_lit0, ji_ofNat, ji_lt, ji_le, ji_eq, ji_nat, ji_in, ji_rem, ji_div, jl_of, xl_lt, xl_gt, xl_eq, qV_at, qI_at, qJ_at, qD_at, qA_at, qA_no, nb0, nb1, cat_r, cat_i, Option.some.injEq, exists_eq_left', true_and, and_true, if_true, if_false, ite_not, not_true_eq_false, not_false_eq_true, Sum.inr.injEq, exists_eq_right', true_or, or_true, and_self, Int.cast_ofNat_Int, reduceCtorEq, or_false, false_or, false_and, and_false, jb_zero, lt7_0, lt7_1, lt7_2, lt7_3, lt7_4, lt7_5, lt7_6, c_X9_nextOfRow_1, c_X9_nextOfRow_2, c_X9_nextOfRow_3, c_X9_nextOfRow_4, c_X9_nextOfRow_5, c_X9_nextOfRow_6, c_X9_nextOfRow_7, c_X9_nextOfRow_8, jb_eqf hs, ↓reduceIte, ilt_t, ilt_f, ile_t, ile_f, ieq_t, ieq_f, jb_T, jb_F, jb_t, jb_f]
            exact hq
        · rw [jb_t _ hzz] at fd
          simp (disch := first | assumption | omega) only [RS_0, RS_1, RS_2, RS_3, RS_4, RS_5, RS_6, RS_7, RS_8, RS_9, RS_10, RS_11, RS_12, RS_13, RS_14, RS_15, RS_16, RS_17, RS_18, RS_19, RS_20, RS_21, RS_22, RS_23, RS_24, RS_25, RS_26, RS_27, RS_28, RS_29, RS_30, RS_31, RS_32, RS_33, RS_34, RS_35, RS_36, ji_add, ji_sub, ji_mul, ji_neg, ji_lit0, ji_ofNat, ji_lt, ji_le, ji_eq, ji_nat, ji_in, ji_rem, ji_div, jl_of, xl_lt, xl_gt, xl_eq, qV_at, qI_at, qJ_at, qD_at, qA_at, qA_no, nb0, nb1, cat_r, cat_i, Option.some.injEq, exists_eq_left', true_and, and_true, if_true, if_false, ite_not, not_true_eq_false, not_false_eq_true, Sum.inr.injEq, exists_eq_right', true_or, or_true, and_self, Int.cast_ofNat_Int, reduceCtorEq, or_false, false_or, false_and, and_false, jb_zero, lt7_0, lt7_1, lt7_2, lt7_3, lt7_4, lt7_5, lt7_6, c_X9_nextOfRow_1, c_X9_nextOfRow_2, c_X9_nextOfRow_3, c_X9_nextOfRow_4, c_X9_nextOfRow_5, c_X9_nextOfRow_6, c_X9_nextOfRow_7, c_X9_nextOfRow_8, ty, tp3, fx, hx, flo, fd, Value.category, ↓reduceIte, ilt_t, ilt_f, ile_t, ile_f, ieq_t, ieq_f, jb_T, jb_F, jb_t, jb_f]
          exact skip (fun q => hzz (eA_z q.1))
end
