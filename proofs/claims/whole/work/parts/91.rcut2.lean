/-! ===== the reference: laying ways ===== -/
section
variable {μ ν : XM} {m : Nat} {Q : XQ} {X : XX} {A : AS} {w h N s f : Int} {Z F : Int → Int} {C : Nat → Prop}
theorem f_layCome (hS : RS μ m) (hR : RW μ m w h s Z) (hB : BD w h N s Z) (hF : MR μ (m + 7) 72 F) (hb : FB w h N Z F) (f0 : 0 ≤ f) (f1 : f < N) (hK : ∀ ν c d K, CH (fun a => a = m + 8) ν μ → MR ν (m + 8) 36 c → GI w h N (eO w h (oA w h N Z) F) f c d K → CU w h N (eO w h (oA w h N Z) F) c N 0 → Q none ν) : s_X9_layCome μ [.ref m, .int (ji f)] Q X := by
  have hz := hB.z
  have g := hB.g
  have hN := g.2.2.2.2.2.2
  have he := eO_in (O := oA w h N Z) (F := F) g
  rw [u_X9_layCome, l_X9_layCome_2, xseal_eq]
  refine imp_loop (fun mf (y : XM) l => ln_X9_layCome_2 Q X mf [some (.ref m), some (.int (ji f)), some (.int (ji l)), none, none] [] y 0 0) (fun l y => CH (fun a => a = m + 8) y μ ∧ MR y (m + 8) l.toNat (fun _ => -1)) 36 (fun mf y hy => ?_) (fun mf y l l0 l1 hy hn => ?_) 36 10000 0 μ (by omega) (by omega) (by omega) ⟨CH.refl _ _, fun i i0 i1 => by omega⟩
  · show ln_X9_layCome_2 Q X (mf + 1) [some (.ref m), some (.int (ji f)), some (.int (ji 36)), none, none] [] y 0 0
    have hS' := hS.mono hy.1.1
    rw [ul_X9_layCome_2]
    simp (disch := first | assumption | omega) only [RS_0, RS_1, RS_2, RS_3, RS_4, RS_5, RS_6, RS_7, RS_8, RS_9, RS_10, RS_11, RS_12, RS_13, RS_14, RS_15, RS_16, RS_17, RS_18, RS_19, RS_20, RS_21, RS_22, RS_23, RS_24, RS_25, RS_26, RS_27, RS_28, RS_29, RS_30, RS_31, RS_32, RS_33, RS_34, RS_35, RS_36, ji_add, ji_sub, ji_mul, ji_neg, ji_lit0, ji_ofNat, ji_lt, ji_le, ji_eq, ji_nat, ji_in, ji_rem, ji_div, jl_of, xl_lt, xl_gt, xl_eq, qV_at, qI_at, qJ_at, qD_at, qA_at, qA_no, nb0, nb1, cat_r, cat_i, Option.some.injEq, exists_eq_left', true_and, and_true, if_true, if_false, ite_not, not_true_eq_false, not_false_eq_true, Sum.inr.injEq, exists_eq_right', true_or, or_true, and_self, Int.cast_ofNat_Int, reduceCtorEq, or_false, false_or, false_and, and_false, jb_zero, lt7_0, lt7_1, lt7_2, lt7_3, lt7_4, lt7_5, lt7_6, ↓reduceIte, ilt_t, ilt_f, ile_t, ile_f, ieq_t, ieq_f, jb_T, jb_F, jb_t, jb_f]
    have s1 : CH (fun a => a = m + 8) (wI y (m + 8) f.toNat (ji f)) μ := hy.1.wI _ _ _ rfl
    have s2 : MR (wI y (m + 8) f.toNat (ji f)) (m + 8) 36 (zu (fun _ => -1) f f) := MR.put hy.2 f0
    have g0 : GI w h N (eO w h (oA w h N Z) F) f (zu (fun _ => -1) f f) (zu (fun _ => -1) f 0) 1 := GI.init f0 f1 (by omega) (zu_at _ _ _) (fun n n0 n1 hn => zu_ne hn)
    generalize zu (fun _ => -1) f f = c0 at *
    generalize zu (fun _ => -1) f 0 = d0 at *
    generalize wI y (m + 8) f.toNat (ji f) = ν0 at *
    rw [l_X9_layCome_30, xseal_eq]
    have outer : ∀ (k mf : Nat) (y : XM) (c d : Int → Int) (K fl : Int), (37 - K).toNat ≤ k → k + 1 < mf → (fl = 0 ∨ fl = 1) → (fl = 0 → CU w h N (eO w h (oA w h N Z) F) c N 0) → CH (fun a => a = m + 8) y μ → MR y (m + 8) 36 c → GI w h N (eO w h (oA w h N Z) F) f c d K → ln_X9_layCome_30 Q X mf [some (.ref m), none, some (.int (ji fl)), none, none] [] y 0 0 := by
      intro k
      induction k with
      | zero =>
        intro mf y c d K fl hk hm hfl hcl y1 y2 y3
        have := y3.le
        omega
      | succ k ih =>
        intro mf y c d K fl hk hm hfl hcl y1 y2 y3
        obtain ⟨mf, rfl⟩ : ∃ j, mf = j + 1 := ⟨mf - 1, by omega⟩
        rw [ul_X9_layCome_30]
        rcases hfl with rfl | rfl
        · simp (disch := first | assumption | omega) only [RS_0, RS_1, RS_2, RS_3, RS_4, RS_5, RS_6, RS_7, RS_8, RS_9, RS_10, RS_11, RS_12, RS_13, RS_14, RS_15, RS_16, RS_17, RS_18, RS_19, RS_20, RS_21, RS_22, RS_23, RS_24, RS_25, RS_26, RS_27, RS_28, RS_29, RS_30, RS_31, RS_32, RS_33, RS_34, RS_35, RS_36, ji_add, ji_sub, ji_mul, ji_neg, ji_lit0, ji_ofNat, ji_lt, ji_le, ji_eq, ji_nat, ji_in, ji_rem, ji_div, jl_of, xl_lt, xl_gt, xl_eq, qV_at, qI_at, qJ_at, qD_at, qA_at, qA_no, nb0, nb1, cat_r, cat_i, Option.some.injEq, exists_eq_left', true_and, and_true, if_true, if_false, ite_not, not_true_eq_false, not_false_eq_true, Sum.inr.injEq, exists_eq_right', true_or, or_true, and_self, Int.cast_ofNat_Int, reduceCtorEq, or_false, false_or, false_and, and_false, jb_zero, lt7_0, lt7_1, lt7_2, lt7_3, lt7_4, lt7_5, lt7_6, ↓reduceIte, ilt_t, ilt_f, ile_t, ile_f, ieq_t, ieq_f, jb_T, jb_F, jb_t, jb_f]
          exact hK y c d K y1 y2 y3 (hcl rfl)
        · simp (disch := first | assumption | omega) only [RS_0, RS_1, RS_2, RS_3, RS_4, RS_5, RS_6, RS_7, RS_8, RS_9, RS_10, RS_11, RS_12, RS_13, RS_14, RS_15, RS_16, RS_17, RS_18, RS_19, RS_20, RS_21, RS_22, RS_23, RS_24, RS_25, RS_26, RS_27, RS_28, RS_29, RS_30, RS_31, RS_32, RS_33, RS_34, RS_35, RS_36, ji_add, ji_sub, ji_mul, ji_neg, ji_lit0, ji_ofNat, ji_lt, ji_le, ji_eq, ji_nat, ji_in, ji_rem, ji_div, jl_of, xl_lt, xl_gt, xl_eq, qV_at, qI_at, qJ_at, qD_at, qA_at, qA_no, nb0, nb1, cat_r, cat_i, Option.some.injEq, exists_eq_left', true_and, and_true, if_true, if_false, ite_not, not_true_eq_false, not_false_eq_true, Sum.inr.injEq, exists_eq_right', true_or, or_true, and_self, Int.cast_ofNat_Int, reduceCtorEq, or_false, false_or, false_and, and_false, jb_zero, lt7_0, lt7_1, lt7_2, lt7_3, lt7_4, lt7_5, lt7_6, ↓reduceIte, ilt_t, ilt_f, ile_t, ile_f, ieq_t, ieq_f, jb_T, jb_F, jb_t, jb_f]
          rw [l_X9_layCome_38, xseal_eq]
          refine imp_loop (fun mg (u : XM × Int × (Int → Int) × (Int → Int) × Int) l => ln_X9_layCome_38 Q X (ln_X9_layCome_30 Q X mf) mg [some (.ref m), none, some (.int (ji u.2.1)), some (.int (ji l)), none] [] u.1 0 0) (fun l u => CH (fun a => a = m + 8) u.1 μ ∧ MR u.1 (m + 8) 36 u.2.2.1 ∧ GI w h N (eO w h (oA w h N Z) F) f u.2.2.1 u.2.2.2.1 u.2.2.2.2 ∧ (((u.2.1 = 0 ∧ K ≤ u.2.2.2.2) ∧ CU w h N (eO w h (oA w h N Z) F) u.2.2.1 l 0) ∨ (u.2.1 = 1 ∧ K < u.2.2.2.2))) N (fun mg u hu => ?_) (fun mg u n n0 n1 hu hn => ?_) N.toNat 10000 0 (y, 0, c, d, K) (by omega) (by omega) (by omega) ⟨y1, y2, y3, Or.inl ⟨⟨rfl, Int.le_refl _⟩, fun a z a0 a1 z0 z1 hc => by omega⟩⟩
          · obtain ⟨z, fl, c, d, K2⟩ := u
            obtain ⟨u1, u2, u3, u4⟩ := hu
            simp only at u1 u2 u3 u4
            show ln_X9_layCome_38 Q X (ln_X9_layCome_30 Q X mf) (mg + 1) [some (.ref m), none, some (.int (ji fl)), some (.int (ji N)), none] [] z 0 0
            have hS2 := hS.mono u1.1
            have hR2 := hR.rows u1 (by omega) (by omega)
            rw [ul_X9_layCome_38]
            simp (disch := first | assumption | omega) only [RS_0, RS_1, RS_2, RS_3, RS_4, RS_5, RS_6, RS_7, RS_8, RS_9, RS_10, RS_11, RS_12, RS_13, RS_14, RS_15, RS_16, RS_17, RS_18, RS_19, RS_20, RS_21, RS_22, RS_23, RS_24, RS_25, RS_26, RS_27, RS_28, RS_29, RS_30, RS_31, RS_32, RS_33, RS_34, RS_35, RS_36, ji_add, ji_sub, ji_mul, ji_neg, ji_lit0, ji_ofNat, ji_lt, ji_le, ji_eq, ji_nat, ji_in, ji_rem, ji_div, jl_of, xl_lt, xl_gt, xl_eq, qV_at, qI_at, qJ_at, qD_at, qA_at, qA_no, nb0, nb1, cat_r, cat_i, Option.some.injEq, exists_eq_left', true_and, and_true, if_true, if_false, ite_not, not_true_eq_false, not_false_eq_true, Sum.inr.injEq, exists_eq_right', true_or, or_true, and_self, Int.cast_ofNat_Int, reduceCtorEq, or_false, false_or, false_and, and_false, jb_zero, lt7_0, lt7_1, lt7_2, lt7_3, lt7_4, lt7_5, lt7_6, c_X9_layCome_1, c_X9_layCome_2, c_X9_layCome_3, c_X9_layCome_4, f_nodes hS2 hR2 hN, ↓reduceIte, ilt_t, ilt_f, ile_t, ile_f, ieq_t, ieq_f, jb_T, jb_F, jb_t, jb_f]
            rcases u4 with ⟨q1, q2⟩ | ⟨q1, q2⟩
            · obtain ⟨q1, -⟩ := q1
              subst q1
              obtain ⟨mf, rfl⟩ : ∃ j, mf = j + 1 := ⟨mf - 1, by omega⟩
              rw [ul_X9_layCome_30]
              simp (disch := first | assumption | omega) only [RS_0, RS_1, RS_2, RS_3, RS_4, RS_5, RS_6, RS_7, RS_8, RS_9, RS_10, RS_11, RS_12, RS_13, RS_14, RS_15, RS_16, RS_17, RS_18, RS_19, RS_20, RS_21, RS_22, RS_23, RS_24, RS_25, RS_26, RS_27, RS_28, RS_29, RS_30, RS_31, RS_32, RS_33, RS_34, RS_35, RS_36, ji_add, ji_sub, ji_mul, ji_neg, ji_lit0, ji_ofNat, ji_lt, ji_le, ji_eq, ji_nat, ji_in, ji_rem, ji_div, jl_of, xl_lt, xl_gt, xl_eq, qV_at, qI_at, qJ_at, qD_at, qA_at, qA_no, nb0, nb1, cat_r, cat_i, Option.some.injEq, exists_eq_left', true_and, and_true, if_true, if_false, ite_not, not_true_eq_false, not_false_eq_true, Sum.inr.injEq, exists_eq_right', true_or, or_true, and_self, Int.cast_ofNat_Int, reduceCtorEq, or_false, false_or, false_and, and_false, jb_zero, lt7_0, lt7_1, lt7_2, lt7_3, lt7_4, lt7_5, lt7_6, ↓reduceIte, ilt_t, ilt_f, ile_t, ile_f, ieq_t, ieq_f, jb_T, jb_F, jb_t, jb_f]
              exact hK z c d K2 u1 u2 u3 q2
            · subst q1
              exact ih mf z c d K2 1 (by omega) (by omega) (Or.inr rfl) (fun q => by omega) u1 u2 u3
          · obtain ⟨z, fl, c, d, K2⟩ := u
            obtain ⟨u1, u2, u3, u4⟩ := hu
            simp only at u1 u2 u3 u4
            show ln_X9_layCome_38 Q X (ln_X9_layCome_30 Q X mf) (mg + 1) [some (.ref m), none, some (.int (ji fl)), some (.int (ji n)), none] [] z 0 0
            have hS2 := hS.mono u1.1
            have hR2 := hR.rows u1 (by omega) (by omega)
            rw [ul_X9_layCome_38]
            simp (disch := first | assumption | omega) only [RS_0, RS_1, RS_2, RS_3, RS_4, RS_5, RS_6, RS_7, RS_8, RS_9, RS_10, RS_11, RS_12, RS_13, RS_14, RS_15, RS_16, RS_17, RS_18, RS_19, RS_20, RS_21, RS_22, RS_23, RS_24, RS_25, RS_26, RS_27, RS_28, RS_29, RS_30, RS_31, RS_32, RS_33, RS_34, RS_35, RS_36, ji_add, ji_sub, ji_mul, ji_neg, ji_lit0, ji_ofNat, ji_lt, ji_le, ji_eq, ji_nat, ji_in, ji_rem, ji_div, jl_of, xl_lt, xl_gt, xl_eq, qV_at, qI_at, qJ_at, qD_at, qA_at, qA_no, nb0, nb1, cat_r, cat_i, Option.some.injEq, exists_eq_left', true_and, and_true, if_true, if_false, ite_not, not_true_eq_false, not_false_eq_true, Sum.inr.injEq, exists_eq_right', true_or, or_true, and_self, Int.cast_ofNat_Int, reduceCtorEq, or_false, false_or, false_and, and_false, jb_zero, lt7_0, lt7_1, lt7_2, lt7_3, lt7_4, lt7_5, lt7_6, c_X9_layCome_1, c_X9_layCome_2, c_X9_layCome_3, c_X9_layCome_4, f_nodes hS2 hR2 hN, ↓reduceIte, ilt_t, ilt_f, ile_t, ile_f, ieq_t, ieq_f, jb_T, jb_F, jb_t, jb_f]
            rw [l_X9_layCome_49, xseal_eq]
            refine imp_loop (fun mh (u : XM × Int × (Int → Int) × (Int → Int) × Int) l => ln_X9_layCome_49 Q X (ln_X9_layCome_30 Q X mf) (ln_X9_layCome_38 Q X (ln_X9_layCome_30 Q X mf) mg) mh [some (.ref m), none, some (.int (ji u.2.1)), some (.int (ji n)), some (.int (ji l))] [] u.1 0 0) (fun l u => CH (fun a => a = m + 8) u.1 μ ∧ MR u.1 (m + 8) 36 u.2.2.1 ∧ GI w h N (eO w h (oA w h N Z) F) f u.2.2.1 u.2.2.2.1 u.2.2.2.2 ∧ (((u.2.1 = 0 ∧ K ≤ u.2.2.2.2) ∧ CU w h N (eO w h (oA w h N Z) F) u.2.2.1 n l) ∨ (u.2.1 = 1 ∧ K < u.2.2.2.2))) 4 (fun mh u hu => ?_) (fun mh u t t0 t1 hu hn2 => ?_) 4 10000 0 (z, fl, c, d, K2) (by omega) (by omega) (by omega) ⟨u1, u2, u3, u4⟩
            · obtain ⟨z, fl, c, d, K2⟩ := u
              obtain ⟨u1, u2, u3, u4⟩ := hu
              simp only at u1 u2 u3 u4
              show ln_X9_layCome_49 Q X (ln_X9_layCome_30 Q X mf) (ln_X9_layCome_38 Q X (ln_X9_layCome_30 Q X mf) mg) (mh + 1) [some (.ref m), none, some (.int (ji fl)), some (.int (ji n)), some (.int (ji 4))] [] z 0 0
              rw [ul_X9_layCome_49]
              simp (disch := first | assumption | omega) only [RS_0, RS_1, RS_2, RS_3, RS_4, RS_5, RS_6, RS_7, RS_8, RS_9, RS_10, RS_11, RS_12, RS_13, RS_14, RS_15, RS_16, RS_17, RS_18, RS_19, RS_20, RS_21, RS_22, RS_23, RS_24, RS_25, RS_26, RS_27, RS_28, RS_29, RS_30, RS_31, RS_32, RS_33, RS_34, RS_35, RS_36, ji_add, ji_sub, ji_mul, ji_neg, ji_lit0, ji_ofNat, ji_lt, ji_le, ji_eq, ji_nat, ji_in, ji_rem, ji_div, jl_of, xl_lt, xl_gt, xl_eq, qV_at, qI_at, qJ_at, qD_at, qA_at, qA_no, nb0, nb1, cat_r, cat_i, Option.some.injEq, exists_eq_left', true_and, and_true, if_true, if_false, ite_not, not_true_eq_false, not_false_eq_true, Sum.inr.injEq, exists_eq_right', true_or, or_true, and_self, Int.cast_ofNat_Int, reduceCtorEq, or_false, false_or, false_and, and_false, jb_zero, lt7_0, lt7_1, lt7_2, lt7_3, lt7_4, lt7_5, lt7_6, ↓reduceIte, ilt_t, ilt_f, ile_t, ile_f, ieq_t, ieq_f, jb_T, jb_F, jb_t, jb_f]
              refine hn (z, fl, c, d, K2) ⟨u1, u2, u3, ?_⟩
              rcases u4 with ⟨q1, q2⟩ | q
              · exact Or.inl ⟨q1, fun a z a0 a1 z0 z1 hc => q2 a z a0 a1 z0 z1 (by omega)⟩
              · exact Or.inr q
            · obtain ⟨z, fl, c, d, K2⟩ := u
              obtain ⟨u1, u2, u3, u4⟩ := hu
              simp only at u1 u2 u3 u4
              show ln_X9_layCome_49 Q X (ln_X9_layCome_30 Q X mf) (ln_X9_layCome_38 Q X (ln_X9_layCome_30 Q X mf) mg) (mh + 1) [some (.ref m), none, some (.int (ji fl)), some (.int (ji n)), some (.int (ji t))] [] z 0 0
              have hS2 := hS.mono u1.1
              have hR2 := hR.rows u1 (by omega) (by omega)
              have hF2 := hF.frame u1 (by omega)
              have tn := u2 n n0 (by omega)
              have bn := u3.2.1 n n0 n1
              rw [ul_X9_layCome_49]
              by_cases hcn : c n = -1
              · simp (disch := first | assumption | omega) only [RS_0, RS_1, RS_2, RS_3, RS_4, RS_5, RS_6, RS_7, RS_8, RS_9, RS_10, RS_11, RS_12, RS_13, RS_14, RS_15, RS_16, RS_17, RS_18, RS_19, RS_20, RS_21, RS_22, RS_23, RS_24, RS_25, RS_26, RS_27, RS_28, RS_29, RS_30, RS_31, RS_32, RS_33, RS_34, RS_35, RS_36, ji_add, ji_sub, ji_mul, ji_neg, ji_lit0, ji_ofNat, ji_lt, ji_le, ji_eq, ji_nat, ji_in, ji_rem, ji_div, jl_of, xl_lt, xl_gt, xl_eq, qV_at, qI_at, qJ_at, qD_at, qA_at, qA_no, nb0, nb1, cat_r, cat_i, Option.some.injEq, exists_eq_left', true_and, and_true, if_true, if_false, ite_not, not_true_eq_false, not_false_eq_true, Sum.inr.injEq, exists_eq_right', true_or, or_true, and_self, Int.cast_ofNat_Int, reduceCtorEq, or_false, false_or, false_and, and_false, jb_zero, lt7_0, lt7_1, lt7_2, lt7_3, lt7_4, lt7_5, lt7_6, tn, hcn, ↓reduceIte, ilt_t, ilt_f, ile_t, ile_f, ieq_t, ieq_f, jb_T, jb_F, jb_t, jb_f]
                refine hn (z, fl, c, d, K2) ⟨u1, u2, u3, ?_⟩
                rcases u4 with ⟨q1, q2⟩ | q
                · refine Or.inl ⟨q1, fun a z a0 a1 z0 z1 hc ha => ?_⟩
                  exact q2 a z a0 a1 z0 z1 (Or.inl (by
                    have : a ≠ n := fun q => ha (by rw [q]; exact hcn)
                    omega)) ha
                · exact Or.inr q
              · have fg := fun (Q : XQ) X => f_goesOver (Q := Q) (X := X) hS2 hR2 hB hF2 hb n0 n1 t0 t1
                have xb := nx_b g n0 n1 t0 t1
                have fx := fun (Q : XQ) X => f_nextTo (Q := Q) (X := X) hS2 hR2 hz n0 n1 (y := t) (by omega) (by omega)
                have ext : (eO w h (oA w h N Z) F n t = true → c (nx w h n t) ≠ -1) → ((fl = 0 ∧ K ≤ K2) ∧ CU w h N (eO w h (oA w h N Z) F) c n t) ∨ (fl = 1 ∧ K < K2) → ((fl = 0 ∧ K ≤ K2) ∧ CU w h N (eO w h (oA w h N Z) F) c n (t + 1)) ∨ (fl = 1 ∧ K < K2) := fun hh u4 => by
                  rcases u4 with ⟨q1, q2⟩ | q
                  · refine Or.inl ⟨q1, fun a z a0 a1 z0 z1 hc ha hz' => ?_⟩
                    by_cases q : a = n ∧ z = t
                    · rw [q.1, q.2] at hz' ⊢
                      exact hh hz'
                    · exact q2 a z a0 a1 z0 z1 (by omega) ha hz'
                  · exact Or.inr q
                by_cases hgo : eO w h (oA w h N Z) F n t = true
                · have hm := he n t n0 n1 t0 t1 hgo
                  have tx := u2 (nx w h n t) hm.1 (by omega)
                  have bx := u3.2.1 (nx w h n t) hm.1 hm.2
                  by_cases hcx : c (nx w h n t) = -1
                  · simp (disch := first | assumption | omega) only [RS_0, RS_1, RS_2, RS_3, RS_4, RS_5, RS_6, RS_7, RS_8, RS_9, RS_10, RS_11, RS_12, RS_13, RS_14, RS_15, RS_16, RS_17, RS_18, RS_19, RS_20, RS_21, RS_22, RS_23, RS_24, RS_25, RS_26, RS_27, RS_28, RS_29, RS_30, RS_31, RS_32, RS_33, RS_34, RS_35, RS_36, ji_add, ji_sub, ji_mul, ji_neg, ji_lit0, ji_ofNat, ji_lt, ji_le, ji_eq, ji_nat, ji_in, ji_rem, ji_div, jl_of, xl_lt, xl_gt, xl_eq, qV_at, qI_at, qJ_at, qD_at, qA_at, qA_no, nb0, nb1, cat_r, cat_i, Option.some.injEq, exists_eq_left', true_and, and_true, if_true, if_false, ite_not, not_true_eq_false, not_false_eq_true, Sum.inr.injEq, exists_eq_right', true_or, or_true, and_self, Int.cast_ofNat_Int, reduceCtorEq, or_false, false_or, false_and, and_false, jb_zero, lt7_0, lt7_1, lt7_2, lt7_3, lt7_4, lt7_5, lt7_6, c_X9_layCome_1, c_X9_layCome_2, c_X9_layCome_3, c_X9_layCome_4, tn, hcn, fg, hgo, fx, tx, hcx, ↓reduceIte, ilt_t, ilt_f, ile_t, ile_f, ieq_t, ieq_f, jb_T, jb_F, jb_t, jb_f]
                    refine hn2 (_, 1, _, _, _) ⟨u1.wI _ _ _ rfl, u2.put hm.1, u3.set f0 f1 (by omega) n0 n1 t0 t1 hgo hm.1 hm.2 hcn hcx, Or.inr ⟨rfl, ?_⟩⟩
                    simp only
                    rcases u4 with ⟨q1, q2⟩ | q
                    · omega
                    · omega
                  · simp (disch := first | assumption | omega) only [RS_0, RS_1, RS_2, RS_3, RS_4, RS_5, RS_6, RS_7, RS_8, RS_9, RS_10, RS_11, RS_12, RS_13, RS_14, RS_15, RS_16, RS_17, RS_18, RS_19, RS_20, RS_21, RS_22, RS_23, RS_24, RS_25, RS_26, RS_27, RS_28, RS_29, RS_30, RS_31, RS_32, RS_33, RS_34, RS_35, RS_36, ji_add, ji_sub, ji_mul, ji_neg, ji_lit0, ji_ofNat, ji_lt, ji_le, ji_eq, ji_nat, ji_in, ji_rem, ji_div, jl_of, xl_lt, xl_gt, xl_eq, qV_at, qI_at, qJ_at, qD_at, qA_at, qA_no, nb0, nb1, cat_r, cat_i, Option.some.injEq, exists_eq_left', true_and, and_true, if_true, if_false, ite_not, not_true_eq_false, not_false_eq_true, Sum.inr.injEq, exists_eq_right', true_or, or_true, and_self, Int.cast_ofNat_Int, reduceCtorEq, or_false, false_or, false_and, and_false, jb_zero, lt7_0, lt7_1, lt7_2, lt7_3, lt7_4, lt7_5, lt7_6, c_X9_layCome_1, c_X9_layCome_2, c_X9_layCome_3, c_X9_layCome_4, tn, hcn, fg, hgo, fx, tx, hcx, ↓reduceIte, ilt_t, ilt_f, ile_t, ile_f, ieq_t, ieq_f, jb_T, jb_F, jb_t, jb_f]
                    exact hn2 (z, fl, c, d, K2) ⟨u1, u2, u3, ext (fun _ => hcx) u4⟩
                · simp (disch := first | assumption | omega) only [RS_0, RS_1, RS_2, RS_3, RS_4, RS_5, RS_6, RS_7, RS_8, RS_9, RS_10, RS_11, RS_12, RS_13, RS_14, RS_15, RS_16, RS_17, RS_18, RS_19, RS_20, RS_21, RS_22, RS_23, RS_24, RS_25, RS_26, RS_27, RS_28, RS_29, RS_30, RS_31, RS_32, RS_33, RS_34, RS_35, RS_36, ji_add, ji_sub, ji_mul, ji_neg, ji_lit0, ji_ofNat, ji_lt, ji_le, ji_eq, ji_nat, ji_in, ji_rem, ji_div, jl_of, xl_lt, xl_gt, xl_eq, qV_at, qI_at, qJ_at, qD_at, qA_at, qA_no, nb0, nb1, cat_r, cat_i, Option.some.injEq, exists_eq_left', true_and, and_true, if_true, if_false, ite_not, not_true_eq_false, not_false_eq_true, Sum.inr.injEq, exists_eq_right', true_or, or_true, and_self, Int.cast_ofNat_Int, reduceCtorEq, or_false, false_or, false_and, and_false, jb_zero, lt7_0, lt7_1, lt7_2, lt7_3, lt7_4, lt7_5, lt7_6, c_X9_layCome_1, c_X9_layCome_2, c_X9_layCome_3, c_X9_layCome_4, tn, hcn, fg, jb_eqf hgo, ↓reduceIte, ilt_t, ilt_f, ile_t, ile_f, ieq_t, ieq_f, jb_T, jb_F, jb_t, jb_f]
                  exact hn2 (z, fl, c, d, K2) ⟨u1, u2, u3, ext (fun q => absurd q hgo) u4⟩
    exact outer 37 10000 ν0 c0 d0 1 1 (by omega) (by omega) (Or.inr rfl) (fun q => by omega) s1 s2 g0
  · show ln_X9_layCome_2 Q X (mf + 1) [some (.ref m), some (.int (ji f)), some (.int (ji l)), none, none] [] y 0 0
    have hS' := hS.mono hy.1.1
    rw [ul_X9_layCome_2]
    simp (disch := first | assumption | omega) only [RS_0, RS_1, RS_2, RS_3, RS_4, RS_5, RS_6, RS_7, RS_8, RS_9, RS_10, RS_11, RS_12, RS_13, RS_14, RS_15, RS_16, RS_17, RS_18, RS_19, RS_20, RS_21, RS_22, RS_23, RS_24, RS_25, RS_26, RS_27, RS_28, RS_29, RS_30, RS_31, RS_32, RS_33, RS_34, RS_35, RS_36, ji_add, ji_sub, ji_mul, ji_neg, ji_lit0, ji_ofNat, ji_lt, ji_le, ji_eq, ji_nat, ji_in, ji_rem, ji_div, jl_of, xl_lt, xl_gt, xl_eq, qV_at, qI_at, qJ_at, qD_at, qA_at, qA_no, nb0, nb1, cat_r, cat_i, Option.some.injEq, exists_eq_left', true_and, and_true, if_true, if_false, ite_not, not_true_eq_false, not_false_eq_true, Sum.inr.injEq, exists_eq_right', true_or, or_true, and_self, Int.cast_ofNat_Int, reduceCtorEq, or_false, false_or, false_and, and_false, jb_zero, lt7_0, lt7_1, lt7_2, lt7_3, lt7_4, lt7_5, lt7_6, ↓reduceIte, ilt_t, ilt_f, ile_t, ile_f, ieq_t, ieq_f, jb_T, jb_F, jb_t, jb_f]
    refine hn _ ⟨hy.1.wI _ _ _ rfl, fun i i0 i1 => ?_⟩
    by_cases hi : i = l
    · rw [hi, aI_wI_at]
    · rw [aI_wI_i _ _ _ _ _ _ (by omega)]
      exact hy.2 i i0 (by omega)
theorem f_addsWay {a b v : Int} (hS : RS μ m) (hR : RW μ m w h s Z) (hB : BD w h N s Z) (hF : MR μ (m + 7) 72 F) (hb : FW w h N Z a b F v) (a0 : 0 ≤ a) (a1 : a < N) (b0 : 0 ≤ b) (b1 : b < N) (hN : ∀ ν, CH (inR m) ν μ → (∀ F' v', FW w h N Z a b F' v' → v' ≤ v) → Q (some (.int (ji 0))) ν) (hY : ∀ ν F', CH (inR m) ν μ → MR ν (m + 7) 72 F' → FW w h N Z a b F' (v + 1) → Q (some (.int (ji 1))) ν) : s_X9_addsWay μ [.ref m, .int (ji a), .int (ji b)] Q X := by
  have hz := hB.z
  have g := hB.g
  simp (disch := first | assumption | omega) only [RS_0, RS_1, RS_2, RS_3, RS_4, RS_5, RS_6, RS_7, RS_8, RS_9, RS_10, RS_11, RS_12, RS_13, RS_14, RS_15, RS_16, RS_17, RS_18, RS_19, RS_20, RS_21, RS_22, RS_23, RS_24, RS_25, RS_26, RS_27, RS_28, RS_29, RS_30, RS_31, RS_32, RS_33, RS_34, RS_35, RS_36, ji_add, ji_sub, ji_mul, ji_neg, ji_lit0, ji_ofNat, ji_lt, ji_le, ji_eq, ji_nat, ji_in, ji_rem, ji_div, jl_of, xl_lt, xl_gt, xl_eq, qV_at, qI_at, qJ_at, qD_at, qA_at, qA_no, nb0, nb1, cat_r, cat_i, Option.some.injEq, exists_eq_left', true_and, and_true, if_true, if_false, ite_not, not_true_eq_false, not_false_eq_true, Sum.inr.injEq, exists_eq_right', true_or, or_true, and_self, Int.cast_ofNat_Int, reduceCtorEq, or_false, false_or, false_and, and_false, jb_zero, lt7_0, lt7_1, lt7_2, lt7_3, lt7_4, lt7_5, lt7_6, c_X9_addsWay_1, u_X9_addsWay, c_X9_addsWay_2, c_X9_addsWay_3, ↓reduceIte, ilt_t, ilt_f, ile_t, ile_f, ieq_t, ieq_f, jb_T, jb_F, jb_t, jb_f]
  refine f_layCome hS hR hB hF hb.1 a0 a1 (fun y c d K y1 y2 y3 y4 => ?_)
  have hS2 := hS.mono y1.1
  have y1' : CH (inR m) y μ := y1.mono (fun a ha => by unfold inR; omega)
  have tb' := y2 b b0 (by omega)
  have cb := y3.2.1 b b0 b1
  by_cases q : c b = -1
  · have hq := hN y y1' (fun F' v' hv => hb.max g hv (fun n => decide (c n ≠ -1)) (decide_eq_true (by rw [y3.1.1]; omega)) (decide_eq_false (fun z => z q)) (fun n t n0 n1 t0 t1 hn he => decide_eq_true (y4 n t n0 n1 t0 t1 (Or.inl n1) (of_decide_eq_true hn) he)))
    simp (disch := first | assumption | omega) only [RS_0, RS_1, RS_2, RS_3, RS_4, RS_5, RS_6, RS_7, RS_8, RS_9, RS_10, RS_11, RS_12, RS_13, RS_14, RS_15, RS_16, RS_17, RS_18, RS_19, RS_20, RS_21, RS_22, RS_23, RS_24, RS_25, RS_26, RS_27, RS_28, RS_29, RS_30, RS_31, RS_32, RS_33, RS_34, RS_35, RS_36, ji_add, ji_sub, ji_mul, ji_neg, ji_lit0, ji_ofNat, ji_lt, ji_le, ji_eq, ji_nat, ji_in, ji_rem, ji_div, jl_of, xl_lt, xl_gt, xl_eq, qV_at, qI_at, qJ_at, qD_at, qA_at, qA_no, nb0, nb1, cat_r, cat_i, Option.some.injEq, exists_eq_left', true_and, and_true, if_true, if_false, ite_not, not_true_eq_false, not_false_eq_true, Sum.inr.injEq, exists_eq_right', true_or, or_true, and_self, Int.cast_ofNat_Int, reduceCtorEq, or_false, false_or, false_and, and_false, jb_zero, lt7_0, lt7_1, lt7_2, lt7_3, lt7_4, lt7_5, lt7_6, c_X9_addsWay_1, c_X9_addsWay_2, c_X9_addsWay_3, tb', q, nb0, ↓reduceIte, ilt_t, ilt_f, ile_t, ile_f, ieq_t, ieq_f, jb_T, jb_F, jb_t, jb_f]
    exact hq
  · simp (disch := first | assumption | omega) only [RS_0, RS_1, RS_2, RS_3, RS_4, RS_5, RS_6, RS_7, RS_8, RS_9, RS_10, RS_11, RS_12, RS_13, RS_14, RS_15, RS_16, RS_17, RS_18, RS_19, RS_20, RS_21, RS_22, RS_23, RS_24, RS_25, RS_26, RS_27, RS_28, RS_29, RS_30, RS_31, RS_32, RS_33, RS_34, RS_35, RS_36, ji_add, ji_sub, ji_mul, ji_neg, ji_lit0, ji_ofNat, ji_lt, ji_le, ji_eq, ji_nat, ji_in, ji_rem, ji_div, jl_of, xl_lt, xl_gt, xl_eq, qV_at, qI_at, qJ_at, qD_at, qA_at, qA_no, nb0, nb1, cat_r, cat_i, Option.some.injEq, exists_eq_left', true_and, and_true, if_true, if_false, ite_not, not_true_eq_false, not_false_eq_true, Sum.inr.injEq, exists_eq_right', true_or, or_true, and_self, Int.cast_ofNat_Int, reduceCtorEq, or_false, false_or, false_and, and_false, jb_zero, lt7_0, lt7_1, lt7_2, lt7_3, lt7_4, lt7_5, lt7_6, c_X9_addsWay_1, c_X9_addsWay_2, c_X9_addsWay_3, tb', q, ↓reduceIte, ilt_t, ilt_f, ile_t, ile_f, ieq_t, ieq_f, jb_T, jb_F, jb_t, jb_f]
    have db : d b ≠ -1 := fun z => q (cb.2.2.1.mp z)
    have hKl := y3.le
    rw [l_X9_addsWay_19, xseal_eq]
    have walk : ∀ (k mf : Nat) (u : Int) (z : XM) (G : Int → Int), d u = k → k < mf → WK w h N Z a b F d v u G → CH (inR m) z μ → MR z (m + 7) 72 G → MR z (m + 8) 36 c → ln_X9_addsWay_19 Q X mf [some (.ref m), some (.int (ji a)), none, some (.int (ji u))] [] z 0 0 := by
      intro k
      induction k using Nat.strongRecOn with
      | ind k ih =>
        intro mf u z G hk hm hW z1 z2 z3
        obtain ⟨mf, rfl⟩ : ∃ j, mf = j + 1 := ⟨mf - 1, by omega⟩
        have hS3 := hS.mono z1.1
        have hR3 := hR.rows z1 (by unfold inR; omega) (by unfold inR; omega)
        have hu := hW.1
        rw [ul_X9_addsWay_19]
        by_cases ua : u = a
        · subst ua
          have hq := hY z G z1 z2 hW.fin
          simp (disch := first | assumption | omega) only [RS_0, RS_1, RS_2, RS_3, RS_4, RS_5, RS_6, RS_7, RS_8, RS_9, RS_10, RS_11, RS_12, RS_13, RS_14, RS_15, RS_16, RS_17, RS_18, RS_19, RS_20, RS_21, RS_22, RS_23, RS_24, RS_25, RS_26, RS_27, RS_28, RS_29, RS_30, RS_31, RS_32, RS_33, RS_34, RS_35, RS_36, ji_add, ji_sub, ji_mul, ji_neg, ji_lit0, ji_ofNat, ji_lt, ji_le, ji_eq, ji_nat, ji_in, ji_rem, ji_div, jl_of, xl_lt, xl_gt, xl_eq, qV_at, qI_at, qJ_at, qD_at, qA_at, qA_no, nb0, nb1, cat_r, cat_i, Option.some.injEq, exists_eq_left', true_and, and_true, if_true, if_false, ite_not, not_true_eq_false, not_false_eq_true, Sum.inr.injEq, exists_eq_right', true_or, or_true, and_self, Int.cast_ofNat_Int, reduceCtorEq, or_false, false_or, false_and, and_false, jb_zero, lt7_0, lt7_1, lt7_2, lt7_3, lt7_4, lt7_5, lt7_6, nb1, ↓reduceIte, ilt_t, ilt_f, ile_t, ile_f, ieq_t, ieq_f, jb_T, jb_F, jb_t, jb_f]
          exact hq
        · have gu := y3.2.1 u hu.1 hu.2.1
          have dpos : 0 < d u := by
            have : d u ≠ 0 := fun q => ua (gu.2.2.2.1 q)
            omega
          obtain ⟨c2, c3, t, t0, t1, t2, t3⟩ := y3.2.2.1 u hu.1 hu.2.1 dpos
          have cu := gu.1
          have cn : c u ≠ -1 := fun q => by have := gu.2.2.1.mpr q; omega
          obtain ⟨w1, w2, w3⟩ := hW.step g (by omega) cu.2 t0 t1 t2 t3 c2 c3
          have tu := z3 u hu.1 (by omega)
          have tx : nx w h (c u) t ≠ -1 := by omega
          have bk := nx_back g (show 0 ≤ c u by omega) cu.2 t0 t1 tx
          rw [t3] at bk
          obtain ⟨x1, x2, x3, x4⟩ := f_wayTo hS3 hR3 hz hu.1 hu.2.1 (b := c u) (by omega) (by omega) ⟨(t + 2) % 4, by omega, by omega, bk⟩
          have fl := fun (Q : XQ) X => f_linkOf (Q := Q) (X := X) hS3 hR3 hz hu.1 hu.2.1 x1 x2
          have lk : lka w h N u (wto w h N u (c u)) = lkb w (c u) u := by
            unfold lka
            rw [show nxt w h N u (wto w h N u (c u)) = nx w h u (wto w h N u (c u)) from if_pos ⟨hu.1, hu.2.1, x1, x2⟩, x3, if_neg cn, lkb_c]
          rw [lk] at fl
          generalize lkb w (c u) u = l at *
          have tl := z2 l w2.1 (by omega)
          by_cases q : c u < u
          · rw [if_pos q] at w1
            have tu2 : aI (wI z (m + 7) l.toNat (ji (G l + 1))) (m + 8) u.toNat = ji (c u) := by rw [aI_wI_a _ _ _ _ _ _ (by omega)]; exact tu
            have hS4 : RS (wI z (m + 7) l.toNat (ji (G l + 1))) m := hS3.mono (CH.wI (S := fun _ => True) (CH.refl _ z) _ _ _ trivial).1
            simp (disch := first | assumption | omega) only [RS_0, RS_1, RS_2, RS_3, RS_4, RS_5, RS_6, RS_7, RS_8, RS_9, RS_10, RS_11, RS_12, RS_13, RS_14, RS_15, RS_16, RS_17, RS_18, RS_19, RS_20, RS_21, RS_22, RS_23, RS_24, RS_25, RS_26, RS_27, RS_28, RS_29, RS_30, RS_31, RS_32, RS_33, RS_34, RS_35, RS_36, ji_add, ji_sub, ji_mul, ji_neg, ji_lit0, ji_ofNat, ji_lt, ji_le, ji_eq, ji_nat, ji_in, ji_rem, ji_div, jl_of, xl_lt, xl_gt, xl_eq, qV_at, qI_at, qJ_at, qD_at, qA_at, qA_no, nb0, nb1, cat_r, cat_i, Option.some.injEq, exists_eq_left', true_and, and_true, if_true, if_false, ite_not, not_true_eq_false, not_false_eq_true, Sum.inr.injEq, exists_eq_right', true_or, or_true, and_self, Int.cast_ofNat_Int, reduceCtorEq, or_false, false_or, false_and, and_false, jb_zero, lt7_0, lt7_1, lt7_2, lt7_3, lt7_4, lt7_5, lt7_6, c_X9_addsWay_1, c_X9_addsWay_2, c_X9_addsWay_3, ua, tu, x4, fl, tl, q, tu2, ↓reduceIte, ilt_t, ilt_f, ile_t, ile_f, ieq_t, ieq_f, jb_T, jb_F, jb_t, jb_f, Value.category]
            exact ih (d (c u)).toNat (by omega) mf (c u) _ _ (by omega) (by omega) w1 (z1.wI _ _ _ (by unfold inR; omega)) (z2.put w2.1) (z3.ne (by omega))
          · rw [if_neg q] at w1
            have tu2 : aI (wI z (m + 7) l.toNat (ji (G l + -1))) (m + 8) u.toNat = ji (c u) := by rw [aI_wI_a _ _ _ _ _ _ (by omega)]; exact tu
            have hS4 : RS (wI z (m + 7) l.toNat (ji (G l + -1))) m := hS3.mono (CH.wI (S := fun _ => True) (CH.refl _ z) _ _ _ trivial).1
            simp (disch := first | assumption | omega) only [RS_0, RS_1, RS_2, RS_3, RS_4, RS_5, RS_6, RS_7, RS_8, RS_9, RS_10, RS_11, RS_12, RS_13, RS_14, RS_15, RS_16, RS_17, RS_18, RS_19, RS_20, RS_21, RS_22, RS_23, RS_24, RS_25, RS_26, RS_27, RS_28, RS_29, RS_30, RS_31, RS_32, RS_33, RS_34, RS_35, RS_36, ji_add, ji_sub, ji_mul, ji_neg, ji_lit0, ji_ofNat, ji_lt, ji_le, ji_eq, ji_nat, ji_in, ji_rem, ji_div, jl_of, xl_lt, xl_gt, xl_eq, qV_at, qI_at, qJ_at, qD_at, qA_at, qA_no, nb0, nb1, cat_r, cat_i, Option.some.injEq, exists_eq_left', true_and, and_true, if_true, if_false, ite_not, not_true_eq_false, not_false_eq_true, Sum.inr.injEq, exists_eq_right', true_or, or_true, and_self, Int.cast_ofNat_Int, reduceCtorEq, or_false, false_or, false_and, and_false, jb_zero, lt7_0, lt7_1, lt7_2, lt7_3, lt7_4, lt7_5, lt7_6, c_X9_addsWay_1, c_X9_addsWay_2, c_X9_addsWay_3, ua, tu, x4, fl, tl, q, tu2, ↓reduceIte, ilt_t, ilt_f, ile_t, ile_f, ieq_t, ieq_f, jb_T, jb_F, jb_t, jb_f, Value.category]
            exact ih (d (c u)).toNat (by omega) mf (c u) _ _ (by omega) (by omega) w1 (z1.wI _ _ _ (by unfold inR; omega)) (z2.put w2.1) (z3.ne (by omega))
    exact walk (d b).toNat 10000 b y F (by omega) (by omega) (WK.init hb b0 b1 (by omega)) y1' (hF.frame y1 (by omega)) y2
theorem f_cutNow {a b : Int} (hS : RS μ m) (hR : RW μ m w h s Z) (hB : BD w h N s Z) (a0 : 0 ≤ a) (a1 : a < N) (b0 : 0 ≤ b) (b1 : b < N) (hab : a ≠ b) (hK : ∀ ν, CH (inR m) ν μ → Q (some (.int (ji (mxc w h N Z a b)))) ν) : s_X9_cutNow μ [.ref m, .int (ji a), .int (ji b)] Q X := by
  have g := hB.g
  rw [u_X9_cutNow, l_X9_cutNow_2, xseal_eq]
  refine imp_loop (fun mf (y : XM) l => ln_X9_cutNow_2 Q X mf [some (.ref m), some (.int (ji a)), some (.int (ji b)), some (.int (ji l))] [] y 0 0) (fun l y => CH (inR m) y μ ∧ MR y (m + 7) l.toNat (fun _ => 0)) 72 (fun mf y hy => ?_) (fun mf y l l0 l1 hy hn => ?_) 72 10000 0 μ (by omega) (by omega) (by omega) ⟨CH.refl _ _, fun i i0 i1 => by omega⟩
  · show ln_X9_cutNow_2 Q X (mf + 1) [some (.ref m), some (.int (ji a)), some (.int (ji b)), some (.int (ji 72))] [] y 0 0
    rw [ul_X9_cutNow_2]
    simp (disch := first | assumption | omega) only [RS_0, RS_1, RS_2, RS_3, RS_4, RS_5, RS_6, RS_7, RS_8, RS_9, RS_10, RS_11, RS_12, RS_13, RS_14, RS_15, RS_16, RS_17, RS_18, RS_19, RS_20, RS_21, RS_22, RS_23, RS_24, RS_25, RS_26, RS_27, RS_28, RS_29, RS_30, RS_31, RS_32, RS_33, RS_34, RS_35, RS_36, ji_add, ji_sub, ji_mul, ji_neg, ji_lit0, ji_ofNat, ji_lt, ji_le, ji_eq, ji_nat, ji_in, ji_rem, ji_div, jl_of, xl_lt, xl_gt, xl_eq, qV_at, qI_at, qJ_at, qD_at, qA_at, qA_no, nb0, nb1, cat_r, cat_i, Option.some.injEq, exists_eq_left', true_and, and_true, if_true, if_false, ite_not, not_true_eq_false, not_false_eq_true, Sum.inr.injEq, exists_eq_right', true_or, or_true, and_self, Int.cast_ofNat_Int, reduceCtorEq, or_false, false_or, false_and, and_false, jb_zero, lt7_0, lt7_1, lt7_2, lt7_3, lt7_4, lt7_5, lt7_6, ↓reduceIte, ilt_t, ilt_f, ile_t, ile_f, ieq_t, ieq_f, jb_T, jb_F, jb_t, jb_f]
    rw [l_X9_cutNow_23, xseal_eq]
    have adds : ∀ (k mf : Nat) (v : Int) (z : XM) (G : Int → Int), (5 - v).toNat ≤ k → k < mf → 0 ≤ v → CH (inR m) z μ → MR z (m + 7) 72 G → FW w h N Z a b G v → ln_X9_cutNow_23 Q X mf [some (.ref m), some (.int (ji a)), some (.int (ji b)), some (.int (ji v))] [] z 0 0 := by
      intro k
      induction k with
      | zero =>
        intro mf v z G hk hm v0 z1 z2 z3
        have := z3.four g hab
        omega
      | succ k ih =>
        intro mf v z G hk hm v0 z1 z2 z3
        obtain ⟨mf, rfl⟩ : ∃ j, mf = j + 1 := ⟨mf - 1, by omega⟩
        have h4 := z3.four g hab
        have hS3 := hS.mono z1.1
        have hR3 := hR.rows z1 (by unfold inR; omega) (by unfold inR; omega)
        rw [ul_X9_cutNow_23]
        simp (disch := first | assumption | omega) only [RS_0, RS_1, RS_2, RS_3, RS_4, RS_5, RS_6, RS_7, RS_8, RS_9, RS_10, RS_11, RS_12, RS_13, RS_14, RS_15, RS_16, RS_17, RS_18, RS_19, RS_20, RS_21, RS_22, RS_23, RS_24, RS_25, RS_26, RS_27, RS_28, RS_29, RS_30, RS_31, RS_32, RS_33, RS_34, RS_35, RS_36, ji_add, ji_sub, ji_mul, ji_neg, ji_lit0, ji_ofNat, ji_lt, ji_le, ji_eq, ji_nat, ji_in, ji_rem, ji_div, jl_of, xl_lt, xl_gt, xl_eq, qV_at, qI_at, qJ_at, qD_at, qA_at, qA_no, nb0, nb1, cat_r, cat_i, Option.some.injEq, exists_eq_left', true_and, and_true, if_true, if_false, ite_not, not_true_eq_false, not_false_eq_true, Sum.inr.injEq, exists_eq_right', true_or, or_true, and_self, Int.cast_ofNat_Int, reduceCtorEq, or_false, false_or, false_and, and_false, jb_zero, lt7_0, lt7_1, lt7_2, lt7_3, lt7_4, lt7_5, lt7_6, ↓reduceIte, ilt_t, ilt_f, ile_t, ile_f, ieq_t, ieq_f, jb_T, jb_F, jb_t, jb_f]
        refine f_addsWay hS3 hR3 hB z2 z3 a0 a1 b0 b1 (fun y y1 y2 => ?_) (fun y F' y1 y2 y3 => ?_)
        · have hq := hK y (CH.trans y1 z1)
          rw [mxc_eq z3 y2] at hq
          simp (disch := first | assumption | omega) only [RS_0, RS_1, RS_2, RS_3, RS_4, RS_5, RS_6, RS_7, RS_8, RS_9, RS_10, RS_11, RS_12, RS_13, RS_14, RS_15, RS_16, RS_17, RS_18, RS_19, RS_20, RS_21, RS_22, RS_23, RS_24, RS_25, RS_26, RS_27, RS_28, RS_29, RS_30, RS_31, RS_32, RS_33, RS_34, RS_35, RS_36, ji_add, ji_sub, ji_mul, ji_neg, ji_lit0, ji_ofNat, ji_lt, ji_le, ji_eq, ji_nat, ji_in, ji_rem, ji_div, jl_of, xl_lt, xl_gt, xl_eq, qV_at, qI_at, qJ_at, qD_at, qA_at, qA_no, nb0, nb1, cat_r, cat_i, Option.some.injEq, exists_eq_left', true_and, and_true, if_true, if_false, ite_not, not_true_eq_false, not_false_eq_true, Sum.inr.injEq, exists_eq_right', true_or, or_true, and_self, Int.cast_ofNat_Int, reduceCtorEq, or_false, false_or, false_and, and_false, jb_zero, lt7_0, lt7_1, lt7_2, lt7_3, lt7_4, lt7_5, lt7_6, c_X9_cutNow_1, ↓reduceIte, ilt_t, ilt_f, ile_t, ile_f, ieq_t, ieq_f, jb_T, jb_F, jb_t, jb_f]
          exact hq
        · simp (disch := first | assumption | omega) only [RS_0, RS_1, RS_2, RS_3, RS_4, RS_5, RS_6, RS_7, RS_8, RS_9, RS_10, RS_11, RS_12, RS_13, RS_14, RS_15, RS_16, RS_17, RS_18, RS_19, RS_20, RS_21, RS_22, RS_23, RS_24, RS_25, RS_26, RS_27, RS_28, RS_29, RS_30, RS_31, RS_32, RS_33, RS_34, RS_35, RS_36, ji_add, ji_sub, ji_mul, ji_neg, ji_lit0, ji_ofNat, ji_lt, ji_le, ji_eq, ji_nat, ji_in, ji_rem, ji_div, jl_of, xl_lt, xl_gt, xl_eq, qV_at, qI_at, qJ_at, qD_at, qA_at, qA_no, nb0, nb1, cat_r, cat_i, Option.some.injEq, exists_eq_left', true_and, and_true, if_true, if_false, ite_not, not_true_eq_false, not_false_eq_true, Sum.inr.injEq, exists_eq_right', true_or, or_true, and_self, Int.cast_ofNat_Int, reduceCtorEq, or_false, false_or, false_and, and_false, jb_zero, lt7_0, lt7_1, lt7_2, lt7_3, lt7_4, lt7_5, lt7_6, c_X9_cutNow_1, ↓reduceIte, ilt_t, ilt_f, ile_t, ile_f, ieq_t, ieq_f, jb_T, jb_F, jb_t, jb_f]
          exact ih mf (v + 1) y F' (by omega) (by omega) (by omega) (CH.trans y1 z1) y2 y3
    exact adds 5 10000 0 y (fun _ => 0) (by omega) (by omega) (by omega) hy.1 hy.2 FW.init
  · show ln_X9_cutNow_2 Q X (mf + 1) [some (.ref m), some (.int (ji a)), some (.int (ji b)), some (.int (ji l))] [] y 0 0
    have hS' := hS.mono hy.1.1
    rw [ul_X9_cutNow_2]
    simp (disch := first | assumption | omega) only [RS_0, RS_1, RS_2, RS_3, RS_4, RS_5, RS_6, RS_7, RS_8, RS_9, RS_10, RS_11, RS_12, RS_13, RS_14, RS_15, RS_16, RS_17, RS_18, RS_19, RS_20, RS_21, RS_22, RS_23, RS_24, RS_25, RS_26, RS_27, RS_28, RS_29, RS_30, RS_31, RS_32, RS_33, RS_34, RS_35, RS_36, ji_add, ji_sub, ji_mul, ji_neg, ji_lit0, ji_ofNat, ji_lt, ji_le, ji_eq, ji_nat, ji_in, ji_rem, ji_div, jl_of, xl_lt, xl_gt, xl_eq, qV_at, qI_at, qJ_at, qD_at, qA_at, qA_no, nb0, nb1, cat_r, cat_i, Option.some.injEq, exists_eq_left', true_and, and_true, if_true, if_false, ite_not, not_true_eq_false, not_false_eq_true, Sum.inr.injEq, exists_eq_right', true_or, or_true, and_self, Int.cast_ofNat_Int, reduceCtorEq, or_false, false_or, false_and, and_false, jb_zero, lt7_0, lt7_1, lt7_2, lt7_3, lt7_4, lt7_5, lt7_6, ↓reduceIte, ilt_t, ilt_f, ile_t, ile_f, ieq_t, ieq_f, jb_T, jb_F, jb_t, jb_f]
    refine hn _ ⟨hy.1.wI _ _ _ (by unfold inR; omega), fun i i0 i1 => ?_⟩
    by_cases hi : i = l
    · rw [hi, aI_wI_at]
    · rw [aI_wI_i _ _ _ _ _ _ (by omega)]
      exact hy.2 i i0 (by omega)
theorem r_cut (hM : MS μ m A) (hi : INV A) {a b : Int} (a0 : -2147483648 ≤ a) (a1 : a < 2147483648) (b0 : -2147483648 ≤ b) (b1 : b < 2147483648) (hQ : RQ μ m Q (xCut A a b)) : s_X9_cut μ [.ref m, .int (ji a), .int (ji b)] Q X := by
  have hS := hM.1
  have hB := hi.1.1.1
  have hz := hB.z
  have hw := hB.1
  have hbz := hB.2.1
  rw [u_X9_cut]
  refine ⟨RS_0 hS, ?_⟩
  obtain ⟨hS1, hR1, hM1, h0, c⟩ := hM.nul hi
  generalize sI μ 298 m (ji 0) = ν at *
  unfold xCut op1 at hQ
  by_cases hn : (0 ≤ a ∧ a < A.1.2.2.1) ∧ 0 ≤ b ∧ b < A.1.2.2.1
  · rw [if_pos hn] at hQ
    by_cases hab : a = b
    · rw [if_pos hab] at hQ
      simp (disch := first | assumption | omega) only [RS_0, RS_1, RS_2, RS_3, RS_4, RS_5, RS_6, RS_7, RS_8, RS_9, RS_10, RS_11, RS_12, RS_13, RS_14, RS_15, RS_16, RS_17, RS_18, RS_19, RS_20, RS_21, RS_22, RS_23, RS_24, RS_25, RS_26, RS_27, RS_28, RS_29, RS_30, RS_31, RS_32, RS_33, RS_34, RS_35, RS_36, ji_add, ji_sub, ji_mul, ji_neg, ji_lit0, ji_ofNat, ji_lt, ji_le, ji_eq, ji_nat, ji_in, ji_rem, ji_div, jl_of, xl_lt, xl_gt, xl_eq, qV_at, qI_at, qJ_at, qD_at, qA_at, qA_no, nb0, nb1, cat_r, cat_i, Option.some.injEq, exists_eq_left', true_and, and_true, if_true, if_false, ite_not, not_true_eq_false, not_false_eq_true, Sum.inr.injEq, exists_eq_right', true_or, or_true, and_self, Int.cast_ofNat_Int, reduceCtorEq, or_false, false_or, false_and, and_false, jb_zero, lt7_0, lt7_1, lt7_2, lt7_3, lt7_4, lt7_5, lt7_6, c_X9_cut_1, c_X9_cut_2, g_noTwo hS1 hR1 hi, hn, hab, ↓reduceIte, ilt_t, ilt_f, ile_t, ile_f, ieq_t, ieq_f, jb_T, jb_F, jb_t, jb_f]
      exact hQ.a c hM1 h0
    · rw [if_neg hab] at hQ
      simp (disch := first | assumption | omega) only [RS_0, RS_1, RS_2, RS_3, RS_4, RS_5, RS_6, RS_7, RS_8, RS_9, RS_10, RS_11, RS_12, RS_13, RS_14, RS_15, RS_16, RS_17, RS_18, RS_19, RS_20, RS_21, RS_22, RS_23, RS_24, RS_25, RS_26, RS_27, RS_28, RS_29, RS_30, RS_31, RS_32, RS_33, RS_34, RS_35, RS_36, ji_add, ji_sub, ji_mul, ji_neg, ji_lit0, ji_ofNat, ji_lt, ji_le, ji_eq, ji_nat, ji_in, ji_rem, ji_div, jl_of, xl_lt, xl_gt, xl_eq, qV_at, qI_at, qJ_at, qD_at, qA_at, qA_no, nb0, nb1, cat_r, cat_i, Option.some.injEq, exists_eq_left', true_and, and_true, if_true, if_false, ite_not, not_true_eq_false, not_false_eq_true, Sum.inr.injEq, exists_eq_right', true_or, or_true, and_self, Int.cast_ofNat_Int, reduceCtorEq, or_false, false_or, false_and, and_false, jb_zero, lt7_0, lt7_1, lt7_2, lt7_3, lt7_4, lt7_5, lt7_6, c_X9_cut_1, c_X9_cut_2, g_noTwo hS1 hR1 hi, hn, hab, ↓reduceIte, ilt_t, ilt_f, ile_t, ile_f, ieq_t, ieq_f, jb_T, jb_F, jb_t, jb_f]
      refine f_cutNow hS1 hR1 hB hn.1.1 hn.1.2 hn.2.1 hn.2.2 hab (fun y y1 => ?_)
      simp (disch := first | assumption | omega) only [RS_0, RS_1, RS_2, RS_3, RS_4, RS_5, RS_6, RS_7, RS_8, RS_9, RS_10, RS_11, RS_12, RS_13, RS_14, RS_15, RS_16, RS_17, RS_18, RS_19, RS_20, RS_21, RS_22, RS_23, RS_24, RS_25, RS_26, RS_27, RS_28, RS_29, RS_30, RS_31, RS_32, RS_33, RS_34, RS_35, RS_36, ji_add, ji_sub, ji_mul, ji_neg, ji_lit0, ji_ofNat, ji_lt, ji_le, ji_eq, ji_nat, ji_in, ji_rem, ji_div, jl_of, xl_lt, xl_gt, xl_eq, qV_at, qI_at, qJ_at, qD_at, qA_at, qA_no, nb0, nb1, cat_r, cat_i, Option.some.injEq, exists_eq_left', true_and, and_true, if_true, if_false, ite_not, not_true_eq_false, not_false_eq_true, Sum.inr.injEq, exists_eq_right', true_or, or_true, and_self, Int.cast_ofNat_Int, reduceCtorEq, or_false, false_or, false_and, and_false, jb_zero, lt7_0, lt7_1, lt7_2, lt7_3, lt7_4, lt7_5, lt7_6, c_X9_cut_1, c_X9_cut_2, ↓reduceIte, ilt_t, ilt_f, ile_t, ile_f, ieq_t, ieq_f, jb_T, jb_F, jb_t, jb_f]
      exact hQ.a (CH.trans y1.rM c) (hM1.rows y1) (hM1.n0 y1 h0)
  · rw [if_neg hn] at hQ
    simp (disch := first | assumption | omega) only [RS_0, RS_1, RS_2, RS_3, RS_4, RS_5, RS_6, RS_7, RS_8, RS_9, RS_10, RS_11, RS_12, RS_13, RS_14, RS_15, RS_16, RS_17, RS_18, RS_19, RS_20, RS_21, RS_22, RS_23, RS_24, RS_25, RS_26, RS_27, RS_28, RS_29, RS_30, RS_31, RS_32, RS_33, RS_34, RS_35, RS_36, ji_add, ji_sub, ji_mul, ji_neg, ji_lit0, ji_ofNat, ji_lt, ji_le, ji_eq, ji_nat, ji_in, ji_rem, ji_div, jl_of, xl_lt, xl_gt, xl_eq, qV_at, qI_at, qJ_at, qD_at, qA_at, qA_no, nb0, nb1, cat_r, cat_i, Option.some.injEq, exists_eq_left', true_and, and_true, if_true, if_false, ite_not, not_true_eq_false, not_false_eq_true, Sum.inr.injEq, exists_eq_right', true_or, or_true, and_self, Int.cast_ofNat_Int, reduceCtorEq, or_false, false_or, false_and, and_false, jb_zero, lt7_0, lt7_1, lt7_2, lt7_3, lt7_4, lt7_5, lt7_6, c_X9_cut_1, c_X9_cut_2, g_noTwo hS1 hR1 hi, hn, ↓reduceIte, ilt_t, ilt_f, ile_t, ile_f, ieq_t, ieq_f, jb_T, jb_F, jb_t, jb_f]
    exact hQ.x (by decide) c hM1 _
end
