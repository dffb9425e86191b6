/-! ===== the reference: the fewest hops, by layers ===== -/
/-- rows that it works in -/
abbrev inR (m a : Nat) : Prop := m + 3 ≤ a ∧ a < m + 9
section
variable {μ ν : XM} {m : Nat} {Q : XQ} {X : XX} {A : AS} {w h N s f : Int} {Z : Int → Int} {C : Nat → Prop}
theorem MS.rows (h : MS μ m A) (hc : CH (inR m) ν μ) : MS ν m A := by
  obtain ⟨h1, F, h2, h3, ⟨h4, ⟨h5, h6, h7⟩, h8, h9⟩, h10⟩ := h
  have g0 := hc.2 m (by unfold inR; omega)
  have g1 := (hc.2 (m + 1) (by unfold inR; omega)).2.2.1
  have g2 := (hc.2 (m + 2) (by unfold inR; omega)).2.2.1
  have g9 := (hc.2 (m + 9) (by unfold inR; omega)).2.2.1
  have g10 := (hc.2 (m + 10) (by unfold inR; omega)).2.2.1
  refine ⟨h1.mono hc.1, F, fun k => (g0.1 k).trans (h2 k), h3, ⟨fun j j0 j1 i i0 i1 => ?_, ⟨?_, ?_, fun p p0 p1 hp i i0 i1 => ?_⟩, fun i i0 i1 => ?_, fun i i0 i1 => ?_⟩, fun i hi => ?_⟩
  · rw [g1]; exact h4 j j0 j1 i i0 i1
  · rw [g2]; exact h5
  · rw [g2]; exact h6
  · rw [g1]; exact h7 p p0 p1 hp i i0 i1
  · rw [g10]; exact h8 i i0 i1
  · rw [g9]; exact h9 i i0 i1
  · rw [g1]; exact h10 i hi
theorem RW.rows (h : RW μ m w N s Z) (hc : CH C ν μ) (h0 : ¬ C m) (h1 : ¬ C (m + 1)) : RW ν m w N s Z := by
  have g0 := (hc.2 m h0).1
  have g1 := (hc.2 (m + 1) h1).2.2.1
  refine ⟨(g0 _).trans h.1, (g0 _).trans h.2.1, (g0 _).trans h.2.2.1, fun i i0 i1 => ?_⟩
  rw [g1]
  exact h.2.2.2 i i0 i1
/-- the ways of a search: over links not dead, or over those not held -/
def eK (w h s : Int) (Z : Int → Int) (k f n y : Int) : Bool := if k = 0 then eA w h Z n y else eB w h s Z f n y
theorem eA_in {w h N n z : Int} {Z : Int → Int} (g : 0 ≤ w ∧ w ≤ 6 ∧ 0 ≤ h ∧ h ≤ 6 ∧ 0 ≤ N ∧ N ≤ 36 ∧ N = w * h) (n0 : 0 ≤ n) (n1 : n < N) (z0 : 0 ≤ z) (z1 : z < 4) (he : nx w h n z ≠ -1) : 0 ≤ nx w h n z ∧ nx w h n z < N := by
  have := nx_b g n0 n1 z0 z1
  omega
theorem eK_nx {k n y : Int} (he : eK w h s Z k f n y = true) : nx w h n y ≠ -1 := by
  unfold eK eA eB at he
  intro q
  rw [q] at he
  split at he <;> simp at he
theorem f_layFar (hS : RS μ m) (hR : RW μ m w h s Z) (hB : BD w h N s Z) {k : Int} (k0 : k = 0 ∨ k = 1) (f0 : 0 ≤ f) (f1 : f < N) (hK : ∀ ν d, CH (fun a => a = m + 3) ν μ → MR ν (m + 3) 36 d → BF w h N (eK w h s Z k f) f d → (∀ n, N ≤ n → n < 36 → d n = -1) → Q none ν) : s_X9_layFar μ [.ref m, .int (ji f), .int (ji k)] Q X := by
  have hz := hB.z
  have g := hB.g
  have hN := g.2.2.2.2.2.2
  have he : ∀ n z, 0 ≤ n → n < N → 0 ≤ z → z < 4 → eK w h s Z k f n z = true → 0 ≤ nx w h n z ∧ nx w h n z < N := fun n z n0 n1 z0 z1 he => eA_in g n0 n1 z0 z1 (Z := Z) (eK_nx he)
  rw [u_X9_layFar, l_X9_layFar_2, xseal_eq]
  refine imp_loop (fun mf (y : XM) l => ln_X9_layFar_2 Q X mf [some (.ref m), some (.int (ji f)), some (.int (ji k)), some (.int (ji l)), none, none, none, none] [] y 0 0) (fun l y => CH (fun a => a = m + 3) y μ ∧ MR y (m + 3) l.toNat (fun _ => -1)) 36 (fun mf y hy => ?_) (fun mf y l l0 l1 hy hn => ?_) 36 10000 0 μ (by omega) (by omega) (by omega) ⟨CH.refl _ _, fun i i0 i1 => by omega⟩
  · show ln_X9_layFar_2 Q X (mf + 1) [some (.ref m), some (.int (ji f)), some (.int (ji k)), some (.int (ji 36)), none, none, none, none] [] y 0 0
    have hS' := hS.mono hy.1.1
    rw [ul_X9_layFar_2]
    simp (disch := first | assumption | omega) only [RS_0, RS_1, RS_2, RS_3, RS_4, RS_5, RS_6, RS_7, RS_8, RS_9, RS_10, RS_11, RS_12, RS_13, RS_14, RS_15, RS_16, RS_17, RS_18, RS_19, RS_20, RS_21, RS_22, RS_23, RS_24, RS_25, RS_26, RS_27, RS_28, RS_29, RS_30, RS_31, RS_32, RS_33, RS_34, RS_35, RS_36, ji_add, ji_sub, ji_mul, ji_neg, ji_lit0, ji_ofNat, ji_lt, ji_le, ji_eq, ji_nat, ji_in, ji_rem, ji_div, jl_of, xl_lt, xl_gt, xl_eq, qV_at, qI_at, qJ_at, qD_at, qA_at, qA_no, nb0, nb1, cat_r, cat_i, Option.some.injEq, exists_eq_left', true_and, and_true, if_true, if_false, ite_not, not_true_eq_false, not_false_eq_true, Sum.inr.injEq, exists_eq_right', true_or, or_true, and_self, Int.cast_ofNat_Int, reduceCtorEq, or_false, false_or, false_and, and_false, jb_zero, lt7_0, lt7_1, lt7_2, lt7_3, lt7_4, lt7_5, lt7_6, ↓reduceIte, ilt_t, ilt_f, ile_t, ile_f, ieq_t, ieq_f, jb_T, jb_F, jb_t, jb_f]
    have s1 : CH (fun a => a = m + 3) (wI y (m + 3) f.toNat (ji 0)) μ := hy.1.wI _ _ _ rfl
    have s2 : MR (wI y (m + 3) f.toNat (ji 0)) (m + 3) 36 (zu (fun _ => -1) f 0) := MR.put hy.2 f0
    have b0 : LI w h N (eK w h s Z k f) f 0 0 0 (zu (fun _ => -1) f 0) := LI.init f0 f1 (zu_at _ _ _) (fun n n0 n1 hn => zu_ne hn)
    have t0 : ∀ n, N ≤ n → n < 36 → zu (fun _ => -1) f 0 n = -1 := fun n n0 n1 => zu_ne (by omega)
    generalize zu (fun _ => -1) f 0 = d0 at *
    generalize wI y (m + 3) f.toNat (ji 0) = ν0 at *
    rw [l_X9_layFar_30, xseal_eq]
    refine imp_loop (fun mg (u : XM × (Int → Int)) l => ln_X9_layFar_30 Q X mg [some (.ref m), some (.int (ji f)), some (.int (ji k)), some (.int (ji l)), none, none, none, none] [] u.1 0 0) (fun l u => CH (fun a => a = m + 3) u.1 μ ∧ MR u.1 (m + 3) 36 u.2 ∧ (∀ n, N ≤ n → n < 36 → u.2 n = -1) ∧ LI w h N (eK w h s Z k f) f l 0 0 u.2) N (fun mg u hu => ?_) (fun mg u c c0 c1 hu hn => ?_) N.toNat 10000 0 (ν0, d0) (by omega) (by omega) (by omega) ⟨s1, s2, t0, b0⟩
    · obtain ⟨z, d⟩ := u
      obtain ⟨u1, u2, u3, u4⟩ := hu
      simp only at u1 u2 u3 u4
      show ln_X9_layFar_30 Q X (mg + 1) [some (.ref m), some (.int (ji f)), some (.int (ji k)), some (.int (ji N)), none, none, none, none] [] z 0 0
      have hS2 := hS.mono u1.1
      have hR2 := hR.rows u1 (by omega) (by omega)
      rw [ul_X9_layFar_30]
      simp (disch := first | assumption | omega) only [RS_0, RS_1, RS_2, RS_3, RS_4, RS_5, RS_6, RS_7, RS_8, RS_9, RS_10, RS_11, RS_12, RS_13, RS_14, RS_15, RS_16, RS_17, RS_18, RS_19, RS_20, RS_21, RS_22, RS_23, RS_24, RS_25, RS_26, RS_27, RS_28, RS_29, RS_30, RS_31, RS_32, RS_33, RS_34, RS_35, RS_36, ji_add, ji_sub, ji_mul, ji_neg, ji_lit0, ji_ofNat, ji_lt, ji_le, ji_eq, ji_nat, ji_in, ji_rem, ji_div, jl_of, xl_lt, xl_gt, xl_eq, qV_at, qI_at, qJ_at, qD_at, qA_at, qA_no, nb0, nb1, cat_r, cat_i, Option.some.injEq, exists_eq_left', true_and, and_true, if_true, if_false, ite_not, not_true_eq_false, not_false_eq_true, Sum.inr.injEq, exists_eq_right', true_or, or_true, and_self, Int.cast_ofNat_Int, reduceCtorEq, or_false, false_or, false_and, and_false, jb_zero, lt7_0, lt7_1, lt7_2, lt7_3, lt7_4, lt7_5, lt7_6, c_X9_layFar_1, c_X9_layFar_2, c_X9_layFar_3, c_X9_layFar_4, c_X9_layFar_5, c_X9_layFar_6, c_X9_layFar_7, uj_X9_layFar_148, f_nodes hS2 hR2 hN, ↓reduceIte, ilt_t, ilt_f, ile_t, ile_f, ieq_t, ieq_f, jb_T, jb_F, jb_t, jb_f]
      exact hK z d u1 u2 u4.fin u3
    · obtain ⟨z, d⟩ := u
      obtain ⟨u1, u2, u3, u4⟩ := hu
      simp only at u1 u2 u3 u4
      show ln_X9_layFar_30 Q X (mg + 1) [some (.ref m), some (.int (ji f)), some (.int (ji k)), some (.int (ji c)), none, none, none, none] [] z 0 0
      have hS2 := hS.mono u1.1
      have hR2 := hR.rows u1 (by omega) (by omega)
      rw [ul_X9_layFar_30]
      simp (disch := first | assumption | omega) only [RS_0, RS_1, RS_2, RS_3, RS_4, RS_5, RS_6, RS_7, RS_8, RS_9, RS_10, RS_11, RS_12, RS_13, RS_14, RS_15, RS_16, RS_17, RS_18, RS_19, RS_20, RS_21, RS_22, RS_23, RS_24, RS_25, RS_26, RS_27, RS_28, RS_29, RS_30, RS_31, RS_32, RS_33, RS_34, RS_35, RS_36, ji_add, ji_sub, ji_mul, ji_neg, ji_lit0, ji_ofNat, ji_lt, ji_le, ji_eq, ji_nat, ji_in, ji_rem, ji_div, jl_of, xl_lt, xl_gt, xl_eq, qV_at, qI_at, qJ_at, qD_at, qA_at, qA_no, nb0, nb1, cat_r, cat_i, Option.some.injEq, exists_eq_left', true_and, and_true, if_true, if_false, ite_not, not_true_eq_false, not_false_eq_true, Sum.inr.injEq, exists_eq_right', true_or, or_true, and_self, Int.cast_ofNat_Int, reduceCtorEq, or_false, false_or, false_and, and_false, jb_zero, lt7_0, lt7_1, lt7_2, lt7_3, lt7_4, lt7_5, lt7_6, c_X9_layFar_1, c_X9_layFar_2, c_X9_layFar_3, c_X9_layFar_4, c_X9_layFar_5, c_X9_layFar_6, c_X9_layFar_7, uj_X9_layFar_148, f_nodes hS2 hR2 hN, ↓reduceIte, ilt_t, ilt_f, ile_t, ile_f, ieq_t, ieq_f, jb_T, jb_F, jb_t, jb_f]
      rw [l_X9_layFar_41, xseal_eq]
      refine imp_loop (fun mh (u : XM × (Int → Int)) l => ln_X9_layFar_41 Q X (ln_X9_layFar_30 Q X mg) mh [some (.ref m), some (.int (ji f)), some (.int (ji k)), some (.int (ji c)), some (.int (ji l)), none, none, none] [] u.1 0 0) (fun l u => CH (fun a => a = m + 3) u.1 μ ∧ MR u.1 (m + 3) 36 u.2 ∧ (∀ n, N ≤ n → n < 36 → u.2 n = -1) ∧ LI w h N (eK w h s Z k f) f c l 0 u.2) N (fun mh u hu => ?_) (fun mh u n n0 n1 hu hn2 => ?_) N.toNat 10000 0 (z, d) (by omega) (by omega) (by omega) ⟨u1, u2, u3, u4⟩
      · obtain ⟨z, d⟩ := u
        obtain ⟨u1, u2, u3, u4⟩ := hu
        simp only at u1 u2 u3 u4
        show ln_X9_layFar_41 Q X (ln_X9_layFar_30 Q X mg) (mh + 1) [some (.ref m), some (.int (ji f)), some (.int (ji k)), some (.int (ji c)), some (.int (ji N)), none, none, none] [] z 0 0
        have hS2 := hS.mono u1.1
        have hR2 := hR.rows u1 (by omega) (by omega)
        rw [ul_X9_layFar_41]
        simp (disch := first | assumption | omega) only [RS_0, RS_1, RS_2, RS_3, RS_4, RS_5, RS_6, RS_7, RS_8, RS_9, RS_10, RS_11, RS_12, RS_13, RS_14, RS_15, RS_16, RS_17, RS_18, RS_19, RS_20, RS_21, RS_22, RS_23, RS_24, RS_25, RS_26, RS_27, RS_28, RS_29, RS_30, RS_31, RS_32, RS_33, RS_34, RS_35, RS_36, ji_add, ji_sub, ji_mul, ji_neg, ji_lit0, ji_ofNat, ji_lt, ji_le, ji_eq, ji_nat, ji_in, ji_rem, ji_div, jl_of, xl_lt, xl_gt, xl_eq, qV_at, qI_at, qJ_at, qD_at, qA_at, qA_no, nb0, nb1, cat_r, cat_i, Option.some.injEq, exists_eq_left', true_and, and_true, if_true, if_false, ite_not, not_true_eq_false, not_false_eq_true, Sum.inr.injEq, exists_eq_right', true_or, or_true, and_self, Int.cast_ofNat_Int, reduceCtorEq, or_false, false_or, false_and, and_false, jb_zero, lt7_0, lt7_1, lt7_2, lt7_3, lt7_4, lt7_5, lt7_6, c_X9_layFar_1, c_X9_layFar_2, c_X9_layFar_3, c_X9_layFar_4, c_X9_layFar_5, c_X9_layFar_6, c_X9_layFar_7, uj_X9_layFar_148, f_nodes hS2 hR2 hN, ↓reduceIte, ilt_t, ilt_f, ile_t, ile_f, ieq_t, ieq_f, jb_T, jb_F, jb_t, jb_f]
        exact hn (z, d) ⟨u1, u2, u3, u4.up⟩
      · obtain ⟨z, d⟩ := u
        obtain ⟨u1, u2, u3, u4⟩ := hu
        simp only at u1 u2 u3 u4
        show ln_X9_layFar_41 Q X (ln_X9_layFar_30 Q X mg) (mh + 1) [some (.ref m), some (.int (ji f)), some (.int (ji k)), some (.int (ji c)), some (.int (ji n)), none, none, none] [] z 0 0
        have hS2 := hS.mono u1.1
        have hR2 := hR.rows u1 (by omega) (by omega)
        rw [ul_X9_layFar_41]
        simp (disch := first | assumption | omega) only [RS_0, RS_1, RS_2, RS_3, RS_4, RS_5, RS_6, RS_7, RS_8, RS_9, RS_10, RS_11, RS_12, RS_13, RS_14, RS_15, RS_16, RS_17, RS_18, RS_19, RS_20, RS_21, RS_22, RS_23, RS_24, RS_25, RS_26, RS_27, RS_28, RS_29, RS_30, RS_31, RS_32, RS_33, RS_34, RS_35, RS_36, ji_add, ji_sub, ji_mul, ji_neg, ji_lit0, ji_ofNat, ji_lt, ji_le, ji_eq, ji_nat, ji_in, ji_rem, ji_div, jl_of, xl_lt, xl_gt, xl_eq, qV_at, qI_at, qJ_at, qD_at, qA_at, qA_no, nb0, nb1, cat_r, cat_i, Option.some.injEq, exists_eq_left', true_and, and_true, if_true, if_false, ite_not, not_true_eq_false, not_false_eq_true, Sum.inr.injEq, exists_eq_right', true_or, or_true, and_self, Int.cast_ofNat_Int, reduceCtorEq, or_false, false_or, false_and, and_false, jb_zero, lt7_0, lt7_1, lt7_2, lt7_3, lt7_4, lt7_5, lt7_6, c_X9_layFar_1, c_X9_layFar_2, c_X9_layFar_3, c_X9_layFar_4, c_X9_layFar_5, c_X9_layFar_6, c_X9_layFar_7, uj_X9_layFar_148, f_nodes hS2 hR2 hN, ↓reduceIte, ilt_t, ilt_f, ile_t, ile_f, ieq_t, ieq_f, jb_T, jb_F, jb_t, jb_f]
        rw [l_X9_layFar_53, xseal_eq]
        refine imp_loop (fun mi (u : XM × (Int → Int)) l => ln_X9_layFar_53 Q X (ln_X9_layFar_30 Q X mg) (ln_X9_layFar_41 Q X (ln_X9_layFar_30 Q X mg) mh) mi [some (.ref m), some (.int (ji f)), some (.int (ji k)), some (.int (ji c)), some (.int (ji n)), some (.int (ji l)), none, none] [] u.1 0 0) (fun l u => CH (fun a => a = m + 3) u.1 μ ∧ MR u.1 (m + 3) 36 u.2 ∧ (∀ n, N ≤ n → n < 36 → u.2 n = -1) ∧ LI w h N (eK w h s Z k f) f c n l u.2) 4 (fun mi u hu => ?_) (fun mi u y y0 y1 hu hn3 => ?_) 4 10000 0 (z, d) (by omega) (by omega) (by omega) ⟨u1, u2, u3, u4⟩
        · obtain ⟨z, d⟩ := u
          obtain ⟨u1, u2, u3, u4⟩ := hu
          simp only at u1 u2 u3 u4
          show ln_X9_layFar_53 Q X (ln_X9_layFar_30 Q X mg) (ln_X9_layFar_41 Q X (ln_X9_layFar_30 Q X mg) mh) (mi + 1) [some (.ref m), some (.int (ji f)), some (.int (ji k)), some (.int (ji c)), some (.int (ji n)), some (.int (ji 4)), none, none] [] z 0 0
          rw [ul_X9_layFar_53]
          simp (disch := first | assumption | omega) only [RS_0, RS_1, RS_2, RS_3, RS_4, RS_5, RS_6, RS_7, RS_8, RS_9, RS_10, RS_11, RS_12, RS_13, RS_14, RS_15, RS_16, RS_17, RS_18, RS_19, RS_20, RS_21, RS_22, RS_23, RS_24, RS_25, RS_26, RS_27, RS_28, RS_29, RS_30, RS_31, RS_32, RS_33, RS_34, RS_35, RS_36, ji_add, ji_sub, ji_mul, ji_neg, ji_lit0, ji_ofNat, ji_lt, ji_le, ji_eq, ji_nat, ji_in, ji_rem, ji_div, jl_of, xl_lt, xl_gt, xl_eq, qV_at, qI_at, qJ_at, qD_at, qA_at, qA_no, nb0, nb1, cat_r, cat_i, Option.some.injEq, exists_eq_left', true_and, and_true, if_true, if_false, ite_not, not_true_eq_false, not_false_eq_true, Sum.inr.injEq, exists_eq_right', true_or, or_true, and_self, Int.cast_ofNat_Int, reduceCtorEq, or_false, false_or, false_and, and_false, jb_zero, lt7_0, lt7_1, lt7_2, lt7_3, lt7_4, lt7_5, lt7_6, ↓reduceIte, ilt_t, ilt_f, ile_t, ile_f, ieq_t, ieq_f, jb_T, jb_F, jb_t, jb_f]
          exact hn2 (z, d) ⟨u1, u2, u3, u4.skip (Or.inr rfl)⟩
        · obtain ⟨z, d⟩ := u
          obtain ⟨u1, u2, u3, u4⟩ := hu
          simp only at u1 u2 u3 u4
          show ln_X9_layFar_53 Q X (ln_X9_layFar_30 Q X mg) (ln_X9_layFar_41 Q X (ln_X9_layFar_30 Q X mg) mh) (mi + 1) [some (.ref m), some (.int (ji f)), some (.int (ji k)), some (.int (ji c)), some (.int (ji n)), some (.int (ji y)), none, none] [] z 0 0
          have hS2 := hS.mono u1.1
          have hR2 := hR.rows u1 (by omega) (by omega)
          have tn := u2 n n0 (by omega)
          have dn := u4.1.2.1 n n0 n1
          have dn2 := u4.2.2.1 n n0 n1
          rw [ul_X9_layFar_53]
          by_cases hc : d n = c
          · have xb := nx_b g n0 n1 y0 y1
            have f1' := fun (Q : XQ) X => f_nextTo (Q := Q) (X := X) hS2 hR2 hz n0 n1 (y := y) (by omega) (by omega)
            by_cases hx : nx w h n y = -1
            · rw [hx] at f1'
              simp (disch := first | assumption | omega) only [RS_0, RS_1, RS_2, RS_3, RS_4, RS_5, RS_6, RS_7, RS_8, RS_9, RS_10, RS_11, RS_12, RS_13, RS_14, RS_15, RS_16, RS_17, RS_18, RS_19, RS_20, RS_21, RS_22, RS_23, RS_24, RS_25, RS_26, RS_27, RS_28, RS_29, RS_30, RS_31, RS_32, RS_33, RS_34, RS_35, RS_36, ji_add, ji_sub, ji_mul, ji_neg, ji_lit0, ji_ofNat, ji_lt, ji_le, ji_eq, ji_nat, ji_in, ji_rem, ji_div, jl_of, xl_lt, xl_gt, xl_eq, qV_at, qI_at, qJ_at, qD_at, qA_at, qA_no, nb0, nb1, cat_r, cat_i, Option.some.injEq, exists_eq_left', true_and, and_true, if_true, if_false, ite_not, not_true_eq_false, not_false_eq_true, Sum.inr.injEq, exists_eq_right', true_or, or_true, and_self, Int.cast_ofNat_Int, reduceCtorEq, or_false, false_or, false_and, and_false, jb_zero, lt7_0, lt7_1, lt7_2, lt7_3, lt7_4, lt7_5, lt7_6, c_X9_layFar_1, c_X9_layFar_2, c_X9_layFar_3, c_X9_layFar_4, c_X9_layFar_5, c_X9_layFar_6, c_X9_layFar_7, uj_X9_layFar_148, tn, hc, f1', ↓reduceIte, ilt_t, ilt_f, ile_t, ile_f, ieq_t, ieq_f, jb_T, jb_F, jb_t, jb_f]
              exact hn3 (z, d) ⟨u1, u2, u3, u4.no he n0 n1 y0 y1 hc (fun q => absurd hx (eK_nx q))⟩
            · have tx := u2 (nx w h n y) (by omega) (by omega)
              have dx := u4.1.2.1 (nx w h n y) (by omega) (by omega)
              have dx2 := u4.2.2.1 (nx w h n y) (by omega) (by omega)
              by_cases hd : d (nx w h n y) = -1
              · have lk : lka w h N n y = lkb w n (nx w h n y) := by
                  unfold lka
                  rw [show nxt w h N n y = nx w h n y from if_pos ⟨n0, n1, y0, y1⟩, if_neg hx]
                have lb := xb.2.2.2 hx
                have f2 := fun (Q : XQ) X => f_linkOf (Q := Q) (X := X) hS2 hR2 hz n0 n1 y0 y1
                rw [lk] at f2
                have yes : eK w h s Z k f n y = true → ln_X9_layFar_53 Q X (ln_X9_layFar_30 Q X mg) (ln_X9_layFar_41 Q X (ln_X9_layFar_30 Q X mg) mh) mi [some (.ref m), some (.int (ji f)), some (.int (ji k)), some (.int (ji c)), some (.int (ji n)), some (.int (ji (y + 1))), none, none] [] (wI z (m + 3) (nx w h n y).toNat (ji (c + 1))) 0 0 := fun q => hn3 (_, _) ⟨u1.wI _ _ _ rfl, u2.put (by omega), fun n' n0' n1' => (zu_ne (Z := d) (i := nx w h n y) (v := c + 1) (j := n') (by omega)).trans (u3 n' n0' n1'), u4.yes he n0 n1 y0 y1 c0 hc q hd⟩
                have no : ¬ eK w h s Z k f n y = true → ln_X9_layFar_53 Q X (ln_X9_layFar_30 Q X mg) (ln_X9_layFar_41 Q X (ln_X9_layFar_30 Q X mg) mh) mi [some (.ref m), some (.int (ji f)), some (.int (ji k)), some (.int (ji c)), some (.int (ji n)), some (.int (ji (y + 1))), none, none] [] z 0 0 := fun q => hn3 (z, d) ⟨u1, u2, u3, u4.no he n0 n1 y0 y1 hc (fun q2 => absurd q2 q)⟩
                rcases k0 with rfl | rfl
                · have ek : eK w h s Z 0 f n y = decide (Z (2 + lkb w n (nx w h n y)) = 0) := by
                    unfold eK eA
                    rw [if_pos rfl, decide_eq_true hx, Bool.true_and]
                  rw [ek] at yes no
                  have dd := hB.2.2.1 (lkb w n (nx w h n y)) lb.2.1 lb.2.2
                  by_cases q : Z (2 + lkb w n (nx w h n y)) = 0
                  · simp (disch := first | assumption | omega) only [RS_0, RS_1, RS_2, RS_3, RS_4, RS_5, RS_6, RS_7, RS_8, RS_9, RS_10, RS_11, RS_12, RS_13, RS_14, RS_15, RS_16, RS_17, RS_18, RS_19, RS_20, RS_21, RS_22, RS_23, RS_24, RS_25, RS_26, RS_27, RS_28, RS_29, RS_30, RS_31, RS_32, RS_33, RS_34, RS_35, RS_36, ji_add, ji_sub, ji_mul, ji_neg, ji_lit0, ji_ofNat, ji_lt, ji_le, ji_eq, ji_nat, ji_in, ji_rem, ji_div, jl_of, xl_lt, xl_gt, xl_eq, qV_at, qI_at, qJ_at, qD_at, qA_at, qA_no, nb0, nb1, cat_r, cat_i, Option.some.injEq, exists_eq_left', true_and, and_true, if_true, if_false, ite_not, not_true_eq_false, not_false_eq_true, Sum.inr.injEq, exists_eq_right', true_or, or_true, and_self, Int.cast_ofNat_Int, reduceCtorEq, or_false, false_or, false_and, and_false, jb_zero, lt7_0, lt7_1, lt7_2, lt7_3, lt7_4, lt7_5, lt7_6, c_X9_layFar_1, c_X9_layFar_2, c_X9_layFar_3, c_X9_layFar_4, c_X9_layFar_5, c_X9_layFar_6, c_X9_layFar_7, uj_X9_layFar_148, uj_X9_layFar_148, tn, hc, f1', hx, tx, hd, f2, f_isDeadNow hS2 hR2, q, ne_eq, ↓reduceIte, ilt_t, ilt_f, ile_t, ile_f, ieq_t, ieq_f, jb_T, jb_F, jb_t, jb_f]
                    exact yes (decide_eq_true q)
                  · simp (disch := first | assumption | omega) only [RS_0, RS_1, RS_2, RS_3, RS_4, RS_5, RS_6, RS_7, RS_8, RS_9, RS_10, RS_11, RS_12, RS_13, RS_14, RS_15, RS_16, RS_17, RS_18, RS_19, RS_20, RS_21, RS_22, RS_23, RS_24, RS_25, RS_26, RS_27, RS_28, RS_29, RS_30, RS_31, RS_32, RS_33, RS_34, RS_35, RS_36, ji_add, ji_sub, ji_mul, ji_neg, ji_lit0, ji_ofNat, ji_lt, ji_le, ji_eq, ji_nat, ji_in, ji_rem, ji_div, jl_of, xl_lt, xl_gt, xl_eq, qV_at, qI_at, qJ_at, qD_at, qA_at, qA_no, nb0, nb1, cat_r, cat_i, Option.some.injEq, exists_eq_left', true_and, and_true, if_true, if_false, ite_not, not_true_eq_false, not_false_eq_true, Sum.inr.injEq, exists_eq_right', true_or, or_true, and_self, Int.cast_ofNat_Int, reduceCtorEq, or_false, false_or, false_and, and_false, jb_zero, lt7_0, lt7_1, lt7_2, lt7_3, lt7_4, lt7_5, lt7_6, c_X9_layFar_1, c_X9_layFar_2, c_X9_layFar_3, c_X9_layFar_4, c_X9_layFar_5, c_X9_layFar_6, c_X9_layFar_7, uj_X9_layFar_148, uj_X9_layFar_148, tn, hc, f1', hx, tx, hd, f2, f_isDeadNow hS2 hR2, q, ne_eq, ↓reduceIte, ilt_t, ilt_f, ile_t, ile_f, ieq_t, ieq_f, jb_T, jb_F, jb_t, jb_f]
                    exact no (by rw [decide_eq_false q]; decide)
                · have ek : eK w h s Z 1 f n y = !(hol s Z f (lkb w n (nx w h n y))) := by
                    unfold eK eB
                    rw [if_neg (by decide), decide_eq_true hx, Bool.true_and]
                  rw [ek] at yes no
                  by_cases q : hol s Z f (lkb w n (nx w h n y)) = true
                  · simp (disch := first | assumption | omega) only [RS_0, RS_1, RS_2, RS_3, RS_4, RS_5, RS_6, RS_7, RS_8, RS_9, RS_10, RS_11, RS_12, RS_13, RS_14, RS_15, RS_16, RS_17, RS_18, RS_19, RS_20, RS_21, RS_22, RS_23, RS_24, RS_25, RS_26, RS_27, RS_28, RS_29, RS_30, RS_31, RS_32, RS_33, RS_34, RS_35, RS_36, ji_add, ji_sub, ji_mul, ji_neg, ji_lit0, ji_ofNat, ji_lt, ji_le, ji_eq, ji_nat, ji_in, ji_rem, ji_div, jl_of, xl_lt, xl_gt, xl_eq, qV_at, qI_at, qJ_at, qD_at, qA_at, qA_no, nb0, nb1, cat_r, cat_i, Option.some.injEq, exists_eq_left', true_and, and_true, if_true, if_false, ite_not, not_true_eq_false, not_false_eq_true, Sum.inr.injEq, exists_eq_right', true_or, or_true, and_self, Int.cast_ofNat_Int, reduceCtorEq, or_false, false_or, false_and, and_false, jb_zero, lt7_0, lt7_1, lt7_2, lt7_3, lt7_4, lt7_5, lt7_6, c_X9_layFar_1, c_X9_layFar_2, c_X9_layFar_3, c_X9_layFar_4, c_X9_layFar_5, c_X9_layFar_6, c_X9_layFar_7, uj_X9_layFar_148, uj_X9_layFar_148, tn, hc, f1', hx, tx, hd, f2, f_holds hS2 hR2 hB, q, ↓reduceIte, ilt_t, ilt_f, ile_t, ile_f, ieq_t, ieq_f, jb_T, jb_F, jb_t, jb_f]
                    exact no (by rw [q]; decide)
                  · simp (disch := first | assumption | omega) only [RS_0, RS_1, RS_2, RS_3, RS_4, RS_5, RS_6, RS_7, RS_8, RS_9, RS_10, RS_11, RS_12, RS_13, RS_14, RS_15, RS_16, RS_17, RS_18, RS_19, RS_20, RS_21, RS_22, RS_23, RS_24, RS_25, RS_26, RS_27, RS_28, RS_29, RS_30, RS_31, RS_32, RS_33, RS_34, RS_35, RS_36, ji_add, ji_sub, ji_mul, ji_neg, ji_lit0, ji_ofNat, ji_lt, ji_le, ji_eq, ji_nat, ji_in, ji_rem, ji_div, jl_of, xl_lt, xl_gt, xl_eq, qV_at, qI_at, qJ_at, qD_at, qA_at, qA_no, nb0, nb1, cat_r, cat_i, Option.some.injEq, exists_eq_left', true_and, and_true, if_true, if_false, ite_not, not_true_eq_false, not_false_eq_true, Sum.inr.injEq, exists_eq_right', true_or, or_true, and_self, Int.cast_ofNat_Int, reduceCtorEq, or_false, false_or, false_and, and_false, jb_zero, lt7_0, lt7_1, lt7_2, lt7_3, lt7_4, lt7_5, lt7_6, c_X9_layFar_1, c_X9_layFar_2, c_X9_layFar_3, c_X9_layFar_4, c_X9_layFar_5, c_X9_layFar_6, c_X9_layFar_7, uj_X9_layFar_148, uj_X9_layFar_148, tn, hc, f1', hx, tx, hd, f2, f_holds hS2 hR2 hB, jb_eqf q, ↓reduceIte, ilt_t, ilt_f, ile_t, ile_f, ieq_t, ieq_f, jb_T, jb_F, jb_t, jb_f]
                    exact yes (by rw [Bool.eq_false_iff.mpr q]; rfl)
              · simp (disch := first | assumption | omega) only [RS_0, RS_1, RS_2, RS_3, RS_4, RS_5, RS_6, RS_7, RS_8, RS_9, RS_10, RS_11, RS_12, RS_13, RS_14, RS_15, RS_16, RS_17, RS_18, RS_19, RS_20, RS_21, RS_22, RS_23, RS_24, RS_25, RS_26, RS_27, RS_28, RS_29, RS_30, RS_31, RS_32, RS_33, RS_34, RS_35, RS_36, ji_add, ji_sub, ji_mul, ji_neg, ji_lit0, ji_ofNat, ji_lt, ji_le, ji_eq, ji_nat, ji_in, ji_rem, ji_div, jl_of, xl_lt, xl_gt, xl_eq, qV_at, qI_at, qJ_at, qD_at, qA_at, qA_no, nb0, nb1, cat_r, cat_i, Option.some.injEq, exists_eq_left', true_and, and_true, if_true, if_false, ite_not, not_true_eq_false, not_false_eq_true, Sum.inr.injEq, exists_eq_right', true_or, or_true, and_self, Int.cast_ofNat_Int, reduceCtorEq, or_false, false_or, false_and, and_false, jb_zero, lt7_0, lt7_1, lt7_2, lt7_3, lt7_4, lt7_5, lt7_6, c_X9_layFar_1, c_X9_layFar_2, c_X9_layFar_3, c_X9_layFar_4, c_X9_layFar_5, c_X9_layFar_6, c_X9_layFar_7, uj_X9_layFar_148, tn, hc, f1', hx, tx, hd, ↓reduceIte, ilt_t, ilt_f, ile_t, ile_f, ieq_t, ieq_f, jb_T, jb_F, jb_t, jb_f]
                exact hn3 (z, d) ⟨u1, u2, u3, u4.no he n0 n1 y0 y1 hc (fun _ => hd)⟩
          · simp (disch := first | assumption | omega) only [RS_0, RS_1, RS_2, RS_3, RS_4, RS_5, RS_6, RS_7, RS_8, RS_9, RS_10, RS_11, RS_12, RS_13, RS_14, RS_15, RS_16, RS_17, RS_18, RS_19, RS_20, RS_21, RS_22, RS_23, RS_24, RS_25, RS_26, RS_27, RS_28, RS_29, RS_30, RS_31, RS_32, RS_33, RS_34, RS_35, RS_36, ji_add, ji_sub, ji_mul, ji_neg, ji_lit0, ji_ofNat, ji_lt, ji_le, ji_eq, ji_nat, ji_in, ji_rem, ji_div, jl_of, xl_lt, xl_gt, xl_eq, qV_at, qI_at, qJ_at, qD_at, qA_at, qA_no, nb0, nb1, cat_r, cat_i, Option.some.injEq, exists_eq_left', true_and, and_true, if_true, if_false, ite_not, not_true_eq_false, not_false_eq_true, Sum.inr.injEq, exists_eq_right', true_or, or_true, and_self, Int.cast_ofNat_Int, reduceCtorEq, or_false, false_or, false_and, and_false, jb_zero, lt7_0, lt7_1, lt7_2, lt7_3, lt7_4, lt7_5, lt7_6, tn, hc, ↓reduceIte, ilt_t, ilt_f, ile_t, ile_f, ieq_t, ieq_f, jb_T, jb_F, jb_t, jb_f]
            exact hn2 (z, d) ⟨u1, u2, u3, u4.skip (Or.inl hc)⟩
  · show ln_X9_layFar_2 Q X (mf + 1) [some (.ref m), some (.int (ji f)), some (.int (ji k)), some (.int (ji l)), none, none, none, none] [] y 0 0
    have hS' := hS.mono hy.1.1
    rw [ul_X9_layFar_2]
    simp (disch := first | assumption | omega) only [RS_0, RS_1, RS_2, RS_3, RS_4, RS_5, RS_6, RS_7, RS_8, RS_9, RS_10, RS_11, RS_12, RS_13, RS_14, RS_15, RS_16, RS_17, RS_18, RS_19, RS_20, RS_21, RS_22, RS_23, RS_24, RS_25, RS_26, RS_27, RS_28, RS_29, RS_30, RS_31, RS_32, RS_33, RS_34, RS_35, RS_36, ji_add, ji_sub, ji_mul, ji_neg, ji_lit0, ji_ofNat, ji_lt, ji_le, ji_eq, ji_nat, ji_in, ji_rem, ji_div, jl_of, xl_lt, xl_gt, xl_eq, qV_at, qI_at, qJ_at, qD_at, qA_at, qA_no, nb0, nb1, cat_r, cat_i, Option.some.injEq, exists_eq_left', true_and, and_true, if_true, if_false, ite_not, not_true_eq_false, not_false_eq_true, Sum.inr.injEq, exists_eq_right', true_or, or_true, and_self, Int.cast_ofNat_Int, reduceCtorEq, or_false, false_or, false_and, and_false, jb_zero, lt7_0, lt7_1, lt7_2, lt7_3, lt7_4, lt7_5, lt7_6, ↓reduceIte, ilt_t, ilt_f, ile_t, ile_f, ieq_t, ieq_f, jb_T, jb_F, jb_t, jb_f]
    refine hn _ ⟨hy.1.wI _ _ _ rfl, fun i i0 i1 => ?_⟩
    by_cases hi : i = l
    · rw [hi, aI_wI_at]
    · rw [aI_wI_i _ _ _ _ _ _ (by omega)]
      exact hy.2 i i0 (by omega)
end
