/-! ===== the reference: ways of a length, counted ===== -/
def co : Nat → Nat
  | 0 => 1
  | k + 1 => 4 * (co k + 1) + 1
theorem cws_skip {F : Int → Int} {y' : Int} : ∀ (r : Nat) (y : Int), y + r = 4 → y ≤ y' → y' ≤ 4 → (∀ z, y ≤ z → z < y' → F z = 0) → cws F r y = cws F (4 - y').toNat y' := by
  intro r
  induction r with
  | zero =>
    intro y h1 h2 h3 _
    obtain rfl : y = y' := by omega
    rw [show (4 - y).toNat = 0 by omega]
  | succ r ih =>
    intro y h1 h2 h3 hz
    by_cases q : y = y'
    · rw [← q, show (4 - y).toNat = r + 1 by omega]
    · show F y + cws F r (y + 1) = _
      rw [hz y (by omega) (by omega), ih (y + 1) (by omega) (by omega) h3 (fun z z0 z1 => hz z (by omega) z1)]
      omega
section
variable {μ ν : XM} {m : Nat} {Q : XQ} {X : XX} {A : AS} {w h N s f : Int} {Z F : Int → Int} {C : Nat → Prop}
theorem f_run (hS : RS μ m) (hR : RW μ m w h s Z) (hB : BD w h N s Z) {t H : Int} (t0 : 0 ≤ t) (t1 : t < N) (H8 : H ≤ 8) : ∀ (k : Nat) (F0 : Nat) (d n c : Int) (P Y : Int → Int) (S : Int → Bool) (ν : XM), d + k = H → 0 ≤ d → P d = n → 0 ≤ n → n < N → (∀ j, S j = true ↔ ∃ i, 0 ≤ i ∧ i < d ∧ P i = j) → (∀ i, 0 ≤ i → i < d → 0 ≤ P i ∧ P i < 36) → MR ν (m + 4) 9 P → MR ν (m + 5) 9 Y → Y d = 0 → CH (inR m) ν μ →
    (∀ (f : Nat) (ν' : XM) (P' Y' : Int → Int), F0 ≤ f → CH (inR m) ν' μ → MR ν' (m + 4) 9 P' → MR ν' (m + 5) 9 Y' → (∀ i, 0 ≤ i → i < d → P' i = P i ∧ Y' i = Y i) → ln_X9_waysNow_20 Q X f [some (.ref m), none, some (.int (ji t)), some (.int (ji H)), some (.int (ji (c + cw w h Z t k n S))), some (.int (ji (d - 1))), none] [] ν' 0 0) →
    ∀ f : Nat, F0 + co k ≤ f → ln_X9_waysNow_20 Q X f [some (.ref m), none, some (.int (ji t)), some (.int (ji H)), some (.int (ji c)), some (.int (ji d)), none] [] ν 0 0 := by
  have hz := hB.z
  have g := hB.g
  intro k
  induction k with
  | zero =>
    intro F0 d n c P Y S ν hd d0 hP n0 n1 hSp hPb hPr hYr hY hc hK f hf
    have hco : co 0 = 1 := rfl
    rw [hco] at hf
    obtain ⟨f, rfl⟩ : ∃ j, f = j + 1 := ⟨f - 1, by omega⟩
    obtain rfl : d = H := by omega
    have hS2 := hS.mono hc.1
    have hk := hK f ν P Y (by omega) hc hPr hYr (fun i i0 i1 => ⟨rfl, rfl⟩)
    have tp := hPr d d0 (by omega)
    rw [hP] at tp
    have em : d + -1 = d - 1 := by omega
    rw [ul_X9_waysNow_20]
    by_cases q : n = t
    · have e : cw w h Z t 0 n S = 1 := if_pos q
      rw [e] at hk
      simp (disch := first | assumption | omega) only [RS_0, RS_1, RS_2, RS_3, RS_4, RS_5, RS_6, RS_7, RS_8, RS_9, RS_10, RS_11, RS_12, RS_13, RS_14, RS_15, RS_16, RS_17, RS_18, RS_19, RS_20, RS_21, RS_22, RS_23, RS_24, RS_25, RS_26, RS_27, RS_28, RS_29, RS_30, RS_31, RS_32, RS_33, RS_34, RS_35, RS_36, ji_add, ji_sub, ji_mul, ji_neg, ji_lit0, ji_ofNat, ji_lt, ji_le, ji_eq, ji_nat, ji_in, ji_rem, ji_div, jl_of, xl_lt, xl_gt, xl_eq, qV_at, qI_at, qJ_at, qD_at, qA_at, qA_no, nb0, nb1, cat_r, cat_i, Option.some.injEq, exists_eq_left', true_and, and_true, if_true, if_false, ite_not, not_true_eq_false, not_false_eq_true, Sum.inr.injEq, exists_eq_right', true_or, or_true, and_self, Int.cast_ofNat_Int, reduceCtorEq, or_false, false_or, false_and, and_false, jb_zero, lt7_0, lt7_1, lt7_2, lt7_3, lt7_4, lt7_5, lt7_6, uj_X9_waysNow_41, tp, q, em, ↓reduceIte, ilt_t, ilt_f, ile_t, ile_f, ieq_t, ieq_f, jb_T, jb_F, jb_t, jb_f]
      exact hk
    · have e : cw w h Z t 0 n S = 0 := if_neg q
      rw [e] at hk
      simp (disch := first | assumption | omega) only [RS_0, RS_1, RS_2, RS_3, RS_4, RS_5, RS_6, RS_7, RS_8, RS_9, RS_10, RS_11, RS_12, RS_13, RS_14, RS_15, RS_16, RS_17, RS_18, RS_19, RS_20, RS_21, RS_22, RS_23, RS_24, RS_25, RS_26, RS_27, RS_28, RS_29, RS_30, RS_31, RS_32, RS_33, RS_34, RS_35, RS_36, ji_add, ji_sub, ji_mul, ji_neg, ji_lit0, ji_ofNat, ji_lt, ji_le, ji_eq, ji_nat, ji_in, ji_rem, ji_div, jl_of, xl_lt, xl_gt, xl_eq, qV_at, qI_at, qJ_at, qD_at, qA_at, qA_no, nb0, nb1, cat_r, cat_i, Option.some.injEq, exists_eq_left', true_and, and_true, if_true, if_false, ite_not, not_true_eq_false, not_false_eq_true, Sum.inr.injEq, exists_eq_right', true_or, or_true, and_self, Int.cast_ofNat_Int, reduceCtorEq, or_false, false_or, false_and, and_false, jb_zero, lt7_0, lt7_1, lt7_2, lt7_3, lt7_4, lt7_5, lt7_6, uj_X9_waysNow_41, tp, q, em, ↓reduceIte, ilt_t, ilt_f, ile_t, ile_f, ieq_t, ieq_f, jb_T, jb_F, jb_t, jb_f]
      exact hk
  | succ k ih =>
    intro F0 d n c P Y S ν hd d0 hP n0 n1 hSp hPb hPr hYr hY hc hK f hf
    have hco : co (k + 1) = 4 * (co k + 1) + 1 := rfl
    rw [hco] at hf
    have hSn : ∀ (P' : Int → Int), (∀ i, 0 ≤ i → i ≤ d → P' i = P i) → ∀ j, S2 S n j = true ↔ ∃ i, 0 ≤ i ∧ i < d + 1 ∧ P' i = j := fun P' hP' j => by
      unfold S2
      rw [Bool.or_eq_true, decide_eq_true_eq, hSp j]
      constructor
      · rintro (⟨i, i0, i1, i2⟩ | q)
        · exact ⟨i, i0, by omega, by rw [hP' i i0 (by omega)]; exact i2⟩
        · exact ⟨d, d0, by omega, by rw [hP' d d0 (by omega), hP, q]⟩
      · rintro ⟨i, i0, i1, i2⟩
        by_cases q : i = d
        · right
          rw [q, hP' d d0 (by omega), hP] at i2
          exact i2.symm
        · left
          rw [hP' i i0 (by omega)] at i2
          exact ⟨i, i0, by omega, i2⟩
    have inner : ∀ (r : Nat) (y c : Int) (P1 Y1 : Int → Int) (ν1 : XM), y + r = 4 → 0 ≤ y → (∀ i, 0 ≤ i → i ≤ d → P1 i = P i) → (∀ i, 0 ≤ i → i < d → Y1 i = Y i) → Y1 d = y → MR ν1 (m + 4) 9 P1 → MR ν1 (m + 5) 9 Y1 → CH (inR m) ν1 μ →
      (∀ (f : Nat) (ν' : XM) (P' Y' : Int → Int), F0 ≤ f → CH (inR m) ν' μ → MR ν' (m + 4) 9 P' → MR ν' (m + 5) 9 Y' → (∀ i, 0 ≤ i → i < d → P' i = P i ∧ Y' i = Y i) → ln_X9_waysNow_20 Q X f [some (.ref m), none, some (.int (ji t)), some (.int (ji H)), some (.int (ji (c + cws (cwf w h Z t k n S) r y))), some (.int (ji (d - 1))), none] [] ν' 0 0) →
      ∀ f : Nat, F0 + r * (co k + 1) + 1 ≤ f → ln_X9_waysNow_20 Q X f [some (.ref m), none, some (.int (ji t)), some (.int (ji H)), some (.int (ji c)), some (.int (ji d)), none] [] ν1 0 0 := by
      intro r
      induction r using Nat.strongRecOn with
      | ind r ihr =>
        intro y c P1 Y1 ν1 hy y0 hP1 hY1 hYd hPr1 hYr1 hc1 hK1 f hf
        obtain ⟨f, rfl⟩ : ∃ j, f = j + 1 := ⟨f - 1, by omega⟩
        have hS2 := hS.mono hc1.1
        have hR2 := hR.rows hc1 (by unfold inR; omega) (by unfold inR; omega)
        have hdH : ¬ d = H := by omega
        have hPd : P1 d = n := by rw [hP1 d d0 (by omega)]; exact hP
        rw [ul_X9_waysNow_20]
        simp (disch := first | assumption | omega) only [RS_0, RS_1, RS_2, RS_3, RS_4, RS_5, RS_6, RS_7, RS_8, RS_9, RS_10, RS_11, RS_12, RS_13, RS_14, RS_15, RS_16, RS_17, RS_18, RS_19, RS_20, RS_21, RS_22, RS_23, RS_24, RS_25, RS_26, RS_27, RS_28, RS_29, RS_30, RS_31, RS_32, RS_33, RS_34, RS_35, RS_36, ji_add, ji_sub, ji_mul, ji_neg, ji_lit0, ji_ofNat, ji_lt, ji_le, ji_eq, ji_nat, ji_in, ji_rem, ji_div, jl_of, xl_lt, xl_gt, xl_eq, qV_at, qI_at, qJ_at, qD_at, qA_at, qA_no, nb0, nb1, cat_r, cat_i, Option.some.injEq, exists_eq_left', true_and, and_true, if_true, if_false, ite_not, not_true_eq_false, not_false_eq_true, Sum.inr.injEq, exists_eq_right', true_or, or_true, and_self, Int.cast_ofNat_Int, reduceCtorEq, or_false, false_or, false_and, and_false, jb_zero, lt7_0, lt7_1, lt7_2, lt7_3, lt7_4, lt7_5, lt7_6, hdH, ↓reduceIte, ilt_t, ilt_f, ile_t, ile_f, ieq_t, ieq_f, jb_T, jb_F, jb_t, jb_f]
        refine f_nextOfRow (S := fun _ => S2 S n) (v0 := 0) (P := P1) (Y := Y1) (y0 := y) hS2 hR2 hB d0 (by omega) n0 n1 hPd (hSn P1 hP1) (fun i i0 i1 => ?_) y0 (fun y' z u0 u1 u2 u3 u4 u5 u6 => ?_) hPr1 hYr1 hYd (by omega)
        · by_cases q : i = d
          · rw [q, hPd]; omega
          · rw [hP1 i i0 (by omega)]; exact hPb i i0 (by omega)
        · have hS3 := hS.mono (CH.trans u4 hc1).1
          have zf : ∀ u, y ≤ u → u < y' → cwf w h Z t k n S u = 0 := fun u v0 v1 => cwf_no (u2 u v0 v1)
          have sk := cws_skip r y hy u0 u1 zf
          by_cases q4 : y' = 4
          · subst q4
            rw [if_neg (by omega : ¬ (4 : Int) < 4)] at u6 ⊢
            have hk := hK1 f z P1 _ (by omega) (CH.trans u4 hc1) u5 u6 (fun i i0 i1 => ⟨hP1 i i0 (by omega), by rw [zu_ne (by omega)]; exact hY1 i i0 i1⟩)
            rw [sk, show (4 - (4 : Int)).toNat = 0 from rfl, cws, Int.add_zero] at hk
            have em : d + -1 = d - 1 := by omega
            simp (disch := first | assumption | omega) only [RS_0, RS_1, RS_2, RS_3, RS_4, RS_5, RS_6, RS_7, RS_8, RS_9, RS_10, RS_11, RS_12, RS_13, RS_14, RS_15, RS_16, RS_17, RS_18, RS_19, RS_20, RS_21, RS_22, RS_23, RS_24, RS_25, RS_26, RS_27, RS_28, RS_29, RS_30, RS_31, RS_32, RS_33, RS_34, RS_35, RS_36, ji_add, ji_sub, ji_mul, ji_neg, ji_lit0, ji_ofNat, ji_lt, ji_le, ji_eq, ji_nat, ji_in, ji_rem, ji_div, jl_of, xl_lt, xl_gt, xl_eq, qV_at, qI_at, qJ_at, qD_at, qA_at, qA_no, nb0, nb1, cat_r, cat_i, Option.some.injEq, exists_eq_left', true_and, and_true, if_true, if_false, ite_not, not_true_eq_false, not_false_eq_true, Sum.inr.injEq, exists_eq_right', true_or, or_true, and_self, Int.cast_ofNat_Int, reduceCtorEq, or_false, false_or, false_and, and_false, jb_zero, lt7_0, lt7_1, lt7_2, lt7_3, lt7_4, lt7_5, lt7_6, c_X9_waysNow_1, uj_X9_waysNow_41, uj_X9_waysNow_41, hdH, em, Int.add_zero, ↓reduceIte, ilt_t, ilt_f, ile_t, ile_f, ieq_t, ieq_f, jb_T, jb_F, jb_t, jb_f]
            exact hk
          · have hlt : y' < 4 := by omega
            rw [if_pos hlt] at u6 ⊢
            obtain ⟨ok1, ok2⟩ := u3 hlt
            have hx := eA_nx ok1
            have xb := nx_b g n0 n1 (show 0 ≤ y' by omega) hlt
            rw [show (4 - y').toNat = (4 - (y' + 1)).toNat + 1 by omega, cws, cwf_yes ⟨ok1, ok2⟩] at sk
            have hS4 : RS (wI z (m + 4) (d + 1).toNat (ji (nx w h n y'))) m := hS3.mono (CH.wI (S := fun _ => True) (CH.refl _ z) _ _ _ trivial).1
            simp (disch := first | assumption | omega) only [RS_0, RS_1, RS_2, RS_3, RS_4, RS_5, RS_6, RS_7, RS_8, RS_9, RS_10, RS_11, RS_12, RS_13, RS_14, RS_15, RS_16, RS_17, RS_18, RS_19, RS_20, RS_21, RS_22, RS_23, RS_24, RS_25, RS_26, RS_27, RS_28, RS_29, RS_30, RS_31, RS_32, RS_33, RS_34, RS_35, RS_36, ji_add, ji_sub, ji_mul, ji_neg, ji_lit0, ji_ofNat, ji_lt, ji_le, ji_eq, ji_nat, ji_in, ji_rem, ji_div, jl_of, xl_lt, xl_gt, xl_eq, qV_at, qI_at, qJ_at, qD_at, qA_at, qA_no, nb0, nb1, cat_r, cat_i, Option.some.injEq, exists_eq_left', true_and, and_true, if_true, if_false, ite_not, not_true_eq_false, not_false_eq_true, Sum.inr.injEq, exists_eq_right', true_or, or_true, and_self, Int.cast_ofNat_Int, reduceCtorEq, or_false, false_or, false_and, and_false, jb_zero, lt7_0, lt7_1, lt7_2, lt7_3, lt7_4, lt7_5, lt7_6, c_X9_waysNow_1, uj_X9_waysNow_41, uj_X9_waysNow_41, hx, ↓reduceIte, ilt_t, ilt_f, ile_t, ile_f, ieq_t, ieq_f, jb_T, jb_F, jb_t, jb_f]
            have c2 : CH (inR m) (wI (wI z (m + 4) (d + 1).toNat (ji (nx w h n y'))) (m + 5) (d + 1).toNat (ji 0)) μ := ((CH.trans u4 hc1).wI _ _ _ (by unfold inR; omega)).wI _ _ _ (by unfold inR; omega)
            refine ih (F0 + (4 - (y' + 1)).toNat * (co k + 1) + 1) (d + 1) (nx w h n y') c (zu P1 (d + 1) (nx w h n y')) (zu (zu Y1 d (y' + 1)) (d + 1) 0) (S2 S n) _ (by omega) (by omega) (zu_at _ _ _) (by omega) (by omega) (hSn _ (fun i i0 i1 => by rw [zu_ne (by omega)]; exact hP1 i i0 i1)) (fun i i0 i1 => ?_) (MR.ne (MR.put u5 (by omega)) (by omega)) (MR.put (MR.ne u6 (by omega)) (by omega)) (zu_at _ _ _) c2 (fun f' ν' P' Y' hf' hc' hPr' hYr' hq' => ?_) f ?_
            · rw [zu_ne (by omega)]
              by_cases q : i = d
              · rw [q, hPd]; omega
              · rw [hP1 i i0 (by omega)]; exact hPb i i0 (by omega)
            · rw [show d + 1 - 1 = d by omega]
              refine ihr (4 - (y' + 1)).toNat (by omega) (y' + 1) _ P' Y' ν' (by omega) (by omega) (fun i i0 i1 => ?_) (fun i i0 i1 => ?_) ?_ hPr' hYr' hc' (fun f2 ν2 P2 Y2 v1 v2 v3 v4 v5 => ?_) f' hf'
              · rw [(hq' i i0 (by omega)).1, zu_ne (by omega)]; exact hP1 i i0 i1
              · rw [(hq' i i0 (by omega)).2, zu_ne (by omega), zu_ne (by omega)]; exact hY1 i i0 i1
              · rw [(hq' d d0 (by omega)).2, zu_ne (by omega), zu_at]
              · have hk := hK1 f2 ν2 P2 Y2 v1 v2 v3 v4 v5
                rw [sk, ← Int.add_assoc] at hk
                exact hk
            · have h1 : (4 - (y' + 1)).toNat + 1 ≤ r := by omega
              have h2 := Nat.mul_le_mul_right (co k + 1) h1
              rw [Nat.add_mul, Nat.one_mul] at h2
              omega
    refine inner 4 0 c P Y ν (by omega) (by omega) (fun i i0 i1 => rfl) (fun i i0 i1 => rfl) hY hPr hYr hc hK f (by omega)
theorem co_le : ∀ k < 9, co k ≤ 174761 := by decide
theorem f_waysNow (hS : RS μ m) (hR : RW μ m w h s Z) (hB : BD w h N s Z) {a t H : Int} (a0 : 0 ≤ a) (a1 : a < N) (t0 : 0 ≤ t) (t1 : t < N) (H0 : 0 ≤ H) (H8 : H ≤ 8) (hK : ∀ ν, CH (inR m) ν μ → Q (some (.int (ji (cw w h Z t H.toNat a (fun _ => false))))) ν) : s_X9_waysNow μ [.ref m, .int (ji a), .int (ji t), .int (ji H)] Q X := by
  have hS2 : RS (wI μ (m + 4) (0 : Int).toNat (ji a)) m := hS.mono (CH.wI (S := fun _ => True) (CH.refl _ μ) _ _ _ trivial).1
  have hS3 : RS (wI (wI μ (m + 4) (0 : Int).toNat (ji a)) (m + 5) (0 : Int).toNat (ji 0)) m := hS2.mono (CH.wI (S := fun _ => True) (CH.refl _ _) _ _ _ trivial).1
  have c2 : CH (inR m) (wI (wI μ (m + 4) (0 : Int).toNat (ji a)) (m + 5) (0 : Int).toNat (ji 0)) μ := (CH.wI (S := inR m) (CH.refl _ μ) _ _ _ (by unfold inR; omega)).wI _ _ _ (by unfold inR; omega)
  simp (disch := first | assumption | omega) only [RS_0, RS_1, RS_2, RS_3, RS_4, RS_5, RS_6, RS_7, RS_8, RS_9, RS_10, RS_11, RS_12, RS_13, RS_14, RS_15, RS_16, RS_17, RS_18, RS_19, RS_20, RS_21, RS_22, RS_23, RS_24, RS_25, RS_26, RS_27, RS_28, RS_29, RS_30, RS_31, RS_32, RS_33, RS_34, RS_35, RS_36, ji_add, ji_sub, ji_mul, ji_neg, ji_lit0, ji_ofNat, ji_lt, ji_le, ji_eq, ji_nat, ji_in, ji_rem, ji_div, jl_of, xl_lt, xl_gt, xl_eq, qV_at, qI_at, qJ_at, qD_at, qA_at, qA_no, nb0, nb1, cat_r, cat_i, Option.some.injEq, exists_eq_left', true_and, and_true, if_true, if_false, ite_not, not_true_eq_false, not_false_eq_true, Sum.inr.injEq, exists_eq_right', true_or, or_true, and_self, Int.cast_ofNat_Int, reduceCtorEq, or_false, false_or, false_and, and_false, jb_zero, lt7_0, lt7_1, lt7_2, lt7_3, lt7_4, lt7_5, lt7_6, u_X9_waysNow, c_X9_waysNow_1, uj_X9_waysNow_41, ↓reduceIte, ilt_t, ilt_f, ile_t, ile_f, ieq_t, ieq_f, jb_T, jb_F, jb_t, jb_f]
  rw [l_X9_waysNow_20, xseal_eq]
  have hc := co_le H.toNat (by omega)
  refine f_run hS hR hB t0 t1 H8 H.toNat 1 0 a 0 (zu (fun i => (aI μ (m + 4) i.toNat).toInt) 0 a) (zu (fun i => (aI (wI μ (m + 4) (0 : Int).toNat (ji a)) (m + 5) i.toNat).toInt) 0 0) (fun _ => false) _ (by omega) (by omega) (zu_at _ _ _) a0 a1 (fun j => ⟨fun q => absurd q (by decide), fun ⟨i, i0, i1, _⟩ => by omega⟩) (fun i i0 i1 => by omega) (MR.ne (MR.put (MR.own _ _ _) (by omega)) (by omega)) (MR.put (MR.own _ _ _) (by omega)) (zu_at _ _ _) c2 (fun f ν P' Y' hf v1 v2 v3 v4 => ?_) 1000000 (by omega)
  obtain ⟨f, rfl⟩ : ∃ j, f = j + 1 := ⟨f - 1, by omega⟩
  have hq := hK ν v1
  have em : (0 : Int) - 1 = -1 := rfl
  rw [Int.zero_add, em, ul_X9_waysNow_20]
  simp (disch := first | assumption | omega) only [RS_0, RS_1, RS_2, RS_3, RS_4, RS_5, RS_6, RS_7, RS_8, RS_9, RS_10, RS_11, RS_12, RS_13, RS_14, RS_15, RS_16, RS_17, RS_18, RS_19, RS_20, RS_21, RS_22, RS_23, RS_24, RS_25, RS_26, RS_27, RS_28, RS_29, RS_30, RS_31, RS_32, RS_33, RS_34, RS_35, RS_36, ji_add, ji_sub, ji_mul, ji_neg, ji_lit0, ji_ofNat, ji_lt, ji_le, ji_eq, ji_nat, ji_in, ji_rem, ji_div, jl_of, xl_lt, xl_gt, xl_eq, qV_at, qI_at, qJ_at, qD_at, qA_at, qA_no, nb0, nb1, cat_r, cat_i, Option.some.injEq, exists_eq_left', true_and, and_true, if_true, if_false, ite_not, not_true_eq_false, not_false_eq_true, Sum.inr.injEq, exists_eq_right', true_or, or_true, and_self, Int.cast_ofNat_Int, reduceCtorEq, or_false, false_or, false_and, and_false, jb_zero, lt7_0, lt7_1, lt7_2, lt7_3, lt7_4, lt7_5, lt7_6, ↓reduceIte, ilt_t, ilt_f, ile_t, ile_f, ieq_t, ieq_f, jb_T, jb_F, jb_t, jb_f]
  exact hq
theorem r_ways (hM : MS μ m A) (hi : INV A) {a b k : Int} (a0 : -2147483648 ≤ a) (a1 : a < 2147483648) (b0 : -2147483648 ≤ b) (b1 : b < 2147483648) (k0 : -2147483648 ≤ k) (k1 : k < 2147483648) (hQ : RQ μ m Q (xWays A a b k)) : s_X9_ways μ [.ref m, .int (ji a), .int (ji b), .int (ji k)] Q X := by
  have hS := hM.1
  have hB := hi.1.1.1
  have hz := hB.z
  have hw := hB.1
  have hbz := hB.2.1
  rw [u_X9_ways]
  refine ⟨RS_0 hS, ?_⟩
  obtain ⟨hS1, hR1, hM1, h0, c⟩ := hM.nul hi
  generalize sI μ 298 m (ji 0) = ν at *
  unfold xWays op2 at hQ
  by_cases hn : (0 ≤ a ∧ a < A.1.2.2.1) ∧ 0 ≤ b ∧ b < A.1.2.2.1
  · rw [if_pos hn] at hQ
    by_cases h3 : 0 ≤ k ∧ k ≤ 8
    · rw [if_pos h3] at hQ
      simp (disch := first | assumption | omega) only [RS_0, RS_1, RS_2, RS_3, RS_4, RS_5, RS_6, RS_7, RS_8, RS_9, RS_10, RS_11, RS_12, RS_13, RS_14, RS_15, RS_16, RS_17, RS_18, RS_19, RS_20, RS_21, RS_22, RS_23, RS_24, RS_25, RS_26, RS_27, RS_28, RS_29, RS_30, RS_31, RS_32, RS_33, RS_34, RS_35, RS_36, ji_add, ji_sub, ji_mul, ji_neg, ji_lit0, ji_ofNat, ji_lt, ji_le, ji_eq, ji_nat, ji_in, ji_rem, ji_div, jl_of, xl_lt, xl_gt, xl_eq, qV_at, qI_at, qJ_at, qD_at, qA_at, qA_no, nb0, nb1, cat_r, cat_i, Option.some.injEq, exists_eq_left', true_and, and_true, if_true, if_false, ite_not, not_true_eq_false, not_false_eq_true, Sum.inr.injEq, exists_eq_right', true_or, or_true, and_self, Int.cast_ofNat_Int, reduceCtorEq, or_false, false_or, false_and, and_false, jb_zero, lt7_0, lt7_1, lt7_2, lt7_3, lt7_4, lt7_5, lt7_6, c_X9_ways_1, c_X9_ways_2, c_X9_ways_3, c_X9_ways_4, c_X9_ways_5, c_X9_ways_6, g_noTwo hS1 hR1 hi, hn, f_inRange, h3, g_t0 hS1, ↓reduceIte, ilt_t, ilt_f, ile_t, ile_f, ieq_t, ieq_f, jb_T, jb_F, jb_t, jb_f]
      refine f_waysNow hS1 hR1 hB hn.1.1 hn.1.2 hn.2.1 hn.2.2 h3.1 h3.2 (fun y y1 => ?_)
      simp (disch := first | assumption | omega) only [RS_0, RS_1, RS_2, RS_3, RS_4, RS_5, RS_6, RS_7, RS_8, RS_9, RS_10, RS_11, RS_12, RS_13, RS_14, RS_15, RS_16, RS_17, RS_18, RS_19, RS_20, RS_21, RS_22, RS_23, RS_24, RS_25, RS_26, RS_27, RS_28, RS_29, RS_30, RS_31, RS_32, RS_33, RS_34, RS_35, RS_36, ji_add, ji_sub, ji_mul, ji_neg, ji_lit0, ji_ofNat, ji_lt, ji_le, ji_eq, ji_nat, ji_in, ji_rem, ji_div, jl_of, xl_lt, xl_gt, xl_eq, qV_at, qI_at, qJ_at, qD_at, qA_at, qA_no, nb0, nb1, cat_r, cat_i, Option.some.injEq, exists_eq_left', true_and, and_true, if_true, if_false, ite_not, not_true_eq_false, not_false_eq_true, Sum.inr.injEq, exists_eq_right', true_or, or_true, and_self, Int.cast_ofNat_Int, reduceCtorEq, or_false, false_or, false_and, and_false, jb_zero, lt7_0, lt7_1, lt7_2, lt7_3, lt7_4, lt7_5, lt7_6, c_X9_ways_1, c_X9_ways_2, c_X9_ways_3, c_X9_ways_4, c_X9_ways_5, c_X9_ways_6, ↓reduceIte, ilt_t, ilt_f, ile_t, ile_f, ieq_t, ieq_f, jb_T, jb_F, jb_t, jb_f]
      exact hQ.a (CH.trans y1.rM c) (hM1.rows y1) (hM1.n0 y1 h0)
    · rw [if_neg h3] at hQ
      simp (disch := first | assumption | omega) only [RS_0, RS_1, RS_2, RS_3, RS_4, RS_5, RS_6, RS_7, RS_8, RS_9, RS_10, RS_11, RS_12, RS_13, RS_14, RS_15, RS_16, RS_17, RS_18, RS_19, RS_20, RS_21, RS_22, RS_23, RS_24, RS_25, RS_26, RS_27, RS_28, RS_29, RS_30, RS_31, RS_32, RS_33, RS_34, RS_35, RS_36, ji_add, ji_sub, ji_mul, ji_neg, ji_lit0, ji_ofNat, ji_lt, ji_le, ji_eq, ji_nat, ji_in, ji_rem, ji_div, jl_of, xl_lt, xl_gt, xl_eq, qV_at, qI_at, qJ_at, qD_at, qA_at, qA_no, nb0, nb1, cat_r, cat_i, Option.some.injEq, exists_eq_left', true_and, and_true, if_true, if_false, ite_not, not_true_eq_false, not_false_eq_true, Sum.inr.injEq, exists_eq_right', true_or, or_true, and_self, Int.cast_ofNat_Int, reduceCtorEq, or_false, false_or, false_and, and_false, jb_zero, lt7_0, lt7_1, lt7_2, lt7_3, lt7_4, lt7_5, lt7_6, c_X9_ways_1, c_X9_ways_2, c_X9_ways_3, c_X9_ways_4, c_X9_ways_5, c_X9_ways_6, g_noTwo hS1 hR1 hi, hn, f_inRange, jb_eqf h3, g_t1 hS1, ↓reduceIte, ilt_t, ilt_f, ile_t, ile_f, ieq_t, ieq_f, jb_T, jb_F, jb_t, jb_f]
      exact hQ.x (by decide) c hM1 _
  · rw [if_neg hn] at hQ
    simp (disch := first | assumption | omega) only [RS_0, RS_1, RS_2, RS_3, RS_4, RS_5, RS_6, RS_7, RS_8, RS_9, RS_10, RS_11, RS_12, RS_13, RS_14, RS_15, RS_16, RS_17, RS_18, RS_19, RS_20, RS_21, RS_22, RS_23, RS_24, RS_25, RS_26, RS_27, RS_28, RS_29, RS_30, RS_31, RS_32, RS_33, RS_34, RS_35, RS_36, ji_add, ji_sub, ji_mul, ji_neg, ji_lit0, ji_ofNat, ji_lt, ji_le, ji_eq, ji_nat, ji_in, ji_rem, ji_div, jl_of, xl_lt, xl_gt, xl_eq, qV_at, qI_at, qJ_at, qD_at, qA_at, qA_no, nb0, nb1, cat_r, cat_i, Option.some.injEq, exists_eq_left', true_and, and_true, if_true, if_false, ite_not, not_true_eq_false, not_false_eq_true, Sum.inr.injEq, exists_eq_right', true_or, or_true, and_self, Int.cast_ofNat_Int, reduceCtorEq, or_false, false_or, false_and, and_false, jb_zero, lt7_0, lt7_1, lt7_2, lt7_3, lt7_4, lt7_5, lt7_6, c_X9_ways_1, c_X9_ways_2, c_X9_ways_3, c_X9_ways_4, c_X9_ways_5, c_X9_ways_6, g_noTwo hS1 hR1 hi, hn, ↓reduceIte, ilt_t, ilt_f, ile_t, ile_f, ieq_t, ieq_f, jb_T, jb_F, jb_t, jb_f]
    exact hQ.x (by decide) c hM1 _
end
