/-! ===== the reference does the calls ===== -/
section
variable {μ μ' : XM} {m : Nat} {Q : XQ} {X : XX} {A : AS} {F : Nat → Int} {Z Y : Int → Int} {w h N s : Int} {C : Nat → Prop}
theorem RQ.p {r : AR} (hQ : RQ μ m Q r) (h0 : r.2.1 = 0) : RP μ m Q r := fun y y1 y2 y3 => hQ y _ y1 y2 (by rw [h0]; exact y3) (fun _ => rfl)
theorem RP.stay (hS : RS μ m) (hF : RF F A) (hM : RM μ m (F 290) A) (h0 : F 298 = 0) {v : Int} (hQ : RP μ m Q (A, (0, v))) : Q (some (.int (ji v))) (pz (pf μ m F) m A.2.1) := hQ _ CH.all0 (MS.mk hS hF hM) (pzf_g.trans (by rw [h0]))
theorem RQ.thr (hS : RS μ m) (hF : RF F A) (hM : RM μ m (F 290) A) {k v : Int} (hk : k ≠ 0) (hQ : RQ μ m Q (A, (k, v))) (z : Int) : Q (some (.int (ji z))) (pz (pf μ m (fu F 298 k)) m A.2.1) := hQ _ z CH.all0 (MS.mk (F := fu F 298 k) hS hF hM) (pzf_g.trans (by rw [fu_at])) (fun q => absurd q hk)
/-- the memory as it is, with nothing thrown -/
theorem MS.go (h : MS μ m A) {P : XM → Prop} (hP : ∀ F, RF F A → RM μ m (F 290) A → RS μ m → F 298 = 0 → P (pz (pf μ m F) m A.2.1)) : P (sI μ 298 m (ji 0)) := by
  obtain ⟨F, hF, hM, e, hS⟩ := h.get
  have := hP (fu F 298 0) hF hM hS (fu_at _ _ _)
  rw [← pzf_w, e] at this
  exact this
theorem f_ticks (hS : RS μ m) (hb : RB μ m w h s) (hI : IV w h N s Z) {t : Int} (t0 : 0 ≤ t) (t1 : t ≤ 500) (ht : Z 0 + t ≤ 31000) : l_X9_tickNow_23 Q X [some (.ref m), some (.int (ji t)), some (.int (ji 0))] [] (pz μ m Z) 0 0 = Q (some (.int (ji (Z 0 + t)))) (pz μ m (zps w h N s t.toNat Z)) := by
  have hz := hI.1.2.1
  have e : zps w h N s t.toNat Z = foldz (fun _ Y => ztk w h N s Y) 0 t.toNat Z := by
    have : ∀ (d : Nat) (l : Int) (Z : Int → Int), zps w h N s d Z = foldz (fun _ Y => ztk w h N s Y) l d Z := by
      intro d
      induction d with
      | zero => intro l Z; rfl
      | succ d ih => intro l Z; exact ih (l + 1) _
    exact this _ _ _
  rw [e, l_X9_tickNow_23, xseal_eq]
  refine fold_loop (fun mf x l => ln_X9_tickNow_23 Q X mf [some (.ref m), some (.int (ji t)), some (.int (ji l))] [] (pz μ m x) 0 0) (fun x => Q (some (.int (ji (Z 0 + t)))) (pz μ m x)) (fun _ Y => ztk w h N s Y) (fun l x => IV w h N s x ∧ x 0 = Z 0 + l) t (fun mf x hx => ?_) (fun mf x l l0 l1 hx => ?_) t.toNat 10000 0 Z (by omega) (by omega) (by omega) ⟨hI, by omega⟩
  · show ln_X9_tickNow_23 Q X (mf + 1) [some (.ref m), some (.int (ji t)), some (.int (ji t))] [] (pz μ m x) 0 0 = Q (some (.int (ji (Z 0 + t)))) (pz μ m x)
    have x0 : aI (pz μ m x) (m + 1) (0 : Int).toNat = ji (Z 0 + t) := by rw [pz_ati (by omega) (by omega), hx.2]
    rw [ul_X9_tickNow_23]
    simp (disch := first | assumption | omega) only [RS_0, RS_1, RS_2, RS_3, RS_4, RS_5, RS_6, RS_7, RS_8, RS_9, RS_10, RS_11, RS_12, RS_13, RS_14, RS_15, RS_16, RS_17, RS_18, RS_19, RS_20, RS_21, RS_22, RS_23, RS_24, RS_25, RS_26, RS_27, RS_28, RS_29, RS_30, RS_31, RS_32, RS_33, RS_34, RS_35, RS_36, ji_add, ji_sub, ji_mul, ji_neg, ji_lit0, ji_ofNat, ji_lt, ji_le, ji_eq, ji_nat, ji_in, ji_rem, ji_div, jl_of, xl_lt, xl_gt, xl_eq, qV_at, qI_at, qJ_at, qD_at, qA_at, qA_no, nb0, nb1, cat_r, cat_i, Option.some.injEq, exists_eq_left', true_and, and_true, if_true, if_false, ite_not, not_true_eq_false, not_false_eq_true, Sum.inr.injEq, exists_eq_right', true_or, or_true, and_self, Int.cast_ofNat_Int, reduceCtorEq, or_false, false_or, false_and, and_false, jb_zero, lt7_0, lt7_1, lt7_2, lt7_3, lt7_4, lt7_5, lt7_6, x0, pz_tg, pz_ln, pz_gI, pz_gL, pz_gR, pz_aR, pz_aL, pz_aD, ↓reduceIte, ilt_t, ilt_f, ile_t, ile_f, ieq_t, ieq_f, jb_T, jb_F, jb_t, jb_f]
  · show ln_X9_tickNow_23 Q X (mf + 1) [some (.ref m), some (.int (ji t)), some (.int (ji l))] [] (pz μ m x) 0 0 = ln_X9_tickNow_23 Q X mf [some (.ref m), some (.int (ji t)), some (.int (ji (l + 1)))] [] (pz μ m (ztk w h N s x)) 0 0 ∧ _
    obtain ⟨q1, q2⟩ := hx
    obtain ⟨t1, t2, t3⟩ := tk_f q1 (by omega)
    refine ⟨?_, t1, by show ztk w h N s x 0 = _; omega⟩
    rw [ul_X9_tickNow_23]
    simp (disch := first | assumption | omega) only [RS_0, RS_1, RS_2, RS_3, RS_4, RS_5, RS_6, RS_7, RS_8, RS_9, RS_10, RS_11, RS_12, RS_13, RS_14, RS_15, RS_16, RS_17, RS_18, RS_19, RS_20, RS_21, RS_22, RS_23, RS_24, RS_25, RS_26, RS_27, RS_28, RS_29, RS_30, RS_31, RS_32, RS_33, RS_34, RS_35, RS_36, ji_add, ji_sub, ji_mul, ji_neg, ji_lit0, ji_ofNat, ji_lt, ji_le, ji_eq, ji_nat, ji_in, ji_rem, ji_div, jl_of, xl_lt, xl_gt, xl_eq, qV_at, qI_at, qJ_at, qD_at, qA_at, qA_no, nb0, nb1, cat_r, cat_i, Option.some.injEq, exists_eq_left', true_and, and_true, if_true, if_false, ite_not, not_true_eq_false, not_false_eq_true, Sum.inr.injEq, exists_eq_right', true_or, or_true, and_self, Int.cast_ofNat_Int, reduceCtorEq, or_false, false_or, false_and, and_false, jb_zero, lt7_0, lt7_1, lt7_2, lt7_3, lt7_4, lt7_5, lt7_6, c_X9_tickNow_1, c_X9_tickNow_2, f_tickOnce hS hb q1, pz_tg, pz_ln, pz_gI, pz_gL, pz_gR, pz_aR, pz_aL, pz_aD, ↓reduceIte, ilt_t, ilt_f, ile_t, ile_f, ieq_t, ieq_f, jb_T, jb_F, jb_t, jb_f]
theorem r_sendNow (hS : RS μ m) (hF : RF F A) (hM : RM μ m (F 290) A) (hi : INV A) (h0 : F 298 = 0) {a b l : Int} (a0 : 0 ≤ a) (a1 : a < A.1.2.2.1) (b0 : 0 ≤ b) (b1 : b < A.1.2.2.1) (hQ : RP μ m Q (oSend A a b l)) : s_X9_sendNow (pz (pf μ m F) m A.2.1) [.ref m, .int (ji a), .int (ji b), .int (ji l)] Q X := by
  have hB := hi.1.1.1
  have hbw := hB.1
  have hbz := hB.2.1
  have hpk := hi.1.2.2.1
  have hn := hi.2.1
  have z1 : aI (pz (pf μ m F) m A.2.1) (m + 1) (1 : Int).toNat = ji (A.2.1 1) := pz_ati (by omega) (by omega)
  have n4 := hF.2.2.2
  unfold oSend at hQ
  by_cases h1 : a = b
  · rw [if_pos h1] at hQ
    simp (disch := first | assumption | omega) only [RS_0, RS_1, RS_2, RS_3, RS_4, RS_5, RS_6, RS_7, RS_8, RS_9, RS_10, RS_11, RS_12, RS_13, RS_14, RS_15, RS_16, RS_17, RS_18, RS_19, RS_20, RS_21, RS_22, RS_23, RS_24, RS_25, RS_26, RS_27, RS_28, RS_29, RS_30, RS_31, RS_32, RS_33, RS_34, RS_35, RS_36, ji_add, ji_sub, ji_mul, ji_neg, ji_lit0, ji_ofNat, ji_lt, ji_le, ji_eq, ji_nat, ji_in, ji_rem, ji_div, jl_of, xl_lt, xl_gt, xl_eq, qV_at, qI_at, qJ_at, qD_at, qA_at, qA_no, nb0, nb1, cat_r, cat_i, Option.some.injEq, exists_eq_left', true_and, and_true, if_true, if_false, ite_not, not_true_eq_false, not_false_eq_true, Sum.inr.injEq, exists_eq_right', true_or, or_true, and_self, Int.cast_ofNat_Int, reduceCtorEq, or_false, false_or, false_and, and_false, jb_zero, lt7_0, lt7_1, lt7_2, lt7_3, lt7_4, lt7_5, lt7_6, u_X9_sendNow, h1, pz_tg, pz_ln, pz_gI, pz_gL, pz_gR, pz_aR, pz_aL, pz_aD, pzf_w, pzf_g, pf_w, pf_tg, pf_ln, pf_gR, pf_aI, pf_aR, pf_gL, pz_w, ↓reduceIte, ilt_t, ilt_f, ile_t, ile_f, ieq_t, ieq_f, jb_T, jb_F, jb_t, jb_f]
    exact RP.stay hS hF hM h0 hQ
  · rw [if_neg h1] at hQ
    by_cases h2 : 24 ≤ A.2.1 1
    · rw [if_pos h2] at hQ
      have h3 : A.2.1 1 = 24 := by omega
      simp (disch := first | assumption | omega) only [RS_0, RS_1, RS_2, RS_3, RS_4, RS_5, RS_6, RS_7, RS_8, RS_9, RS_10, RS_11, RS_12, RS_13, RS_14, RS_15, RS_16, RS_17, RS_18, RS_19, RS_20, RS_21, RS_22, RS_23, RS_24, RS_25, RS_26, RS_27, RS_28, RS_29, RS_30, RS_31, RS_32, RS_33, RS_34, RS_35, RS_36, ji_add, ji_sub, ji_mul, ji_neg, ji_lit0, ji_ofNat, ji_lt, ji_le, ji_eq, ji_nat, ji_in, ji_rem, ji_div, jl_of, xl_lt, xl_gt, xl_eq, qV_at, qI_at, qJ_at, qD_at, qA_at, qA_no, nb0, nb1, cat_r, cat_i, Option.some.injEq, exists_eq_left', true_and, and_true, if_true, if_false, ite_not, not_true_eq_false, not_false_eq_true, Sum.inr.injEq, exists_eq_right', true_or, or_true, and_self, Int.cast_ofNat_Int, reduceCtorEq, or_false, false_or, false_and, and_false, jb_zero, lt7_0, lt7_1, lt7_2, lt7_3, lt7_4, lt7_5, lt7_6, u_X9_sendNow, h1, z1, h3, pz_tg, pz_ln, pz_gI, pz_gL, pz_gR, pz_aR, pz_aL, pz_aD, pzf_w, pzf_g, pf_w, pf_tg, pf_ln, pf_gR, pf_aI, pf_aR, pf_gL, pz_w, ↓reduceIte, ilt_t, ilt_f, ile_t, ile_f, ieq_t, ieq_f, jb_T, jb_F, jb_t, jb_f]
      exact RP.stay hS hF hM h0 hQ
    · rw [if_neg h2] at hQ
      have hk := fun Q X => f_keep (Q := Q) (X := X) (Z := A.2.1) hS (F := F) (by omega) (by omega) n4.2.1 n4.2.2.1
      have ha := fun Q X => f_addPacket (Q := Q) (X := X) (μ := pf (pb μ m (kB (F 290) (F 291)) A.2.1) m (kF F)) (m := m) (Z := A.2.1) (a := a) (b := b) (l := l) (RS_pf (RS_pb hS _ _) _) (RF.psh (Y := A.2.1) (v := 0) hF hi).b (by omega) (by omega) a0 (by omega)
      have hS' := RS_pb hS (kB (F 290) (F 291)) A.2.1
      simp (disch := first | assumption | omega) only [RS_0, RS_1, RS_2, RS_3, RS_4, RS_5, RS_6, RS_7, RS_8, RS_9, RS_10, RS_11, RS_12, RS_13, RS_14, RS_15, RS_16, RS_17, RS_18, RS_19, RS_20, RS_21, RS_22, RS_23, RS_24, RS_25, RS_26, RS_27, RS_28, RS_29, RS_30, RS_31, RS_32, RS_33, RS_34, RS_35, RS_36, ji_add, ji_sub, ji_mul, ji_neg, ji_lit0, ji_ofNat, ji_lt, ji_le, ji_eq, ji_nat, ji_in, ji_rem, ji_div, jl_of, xl_lt, xl_gt, xl_eq, qV_at, qI_at, qJ_at, qD_at, qA_at, qA_no, nb0, nb1, cat_r, cat_i, Option.some.injEq, exists_eq_left', true_and, and_true, if_true, if_false, ite_not, not_true_eq_false, not_false_eq_true, Sum.inr.injEq, exists_eq_right', true_or, or_true, and_self, Int.cast_ofNat_Int, reduceCtorEq, or_false, false_or, false_and, and_false, jb_zero, lt7_0, lt7_1, lt7_2, lt7_3, lt7_4, lt7_5, lt7_6, c_X9_sendNow_1, c_X9_sendNow_2, u_X9_sendNow, h1, z1, hk, ha, pz_tg, pz_ln, pz_gI, pz_gL, pz_gR, pz_aR, pz_aL, pz_aD, pzf_w, pzf_g, pf_w, pf_tg, pf_ln, pf_gR, pf_aI, pf_aR, pf_gL, pz_w, ↓reduceIte, ilt_t, ilt_f, ile_t, ile_f, ieq_t, ieq_f, jb_T, jb_F, jb_t, jb_f]
      exact hQ _ CH.all (MS_psh hS hF hM hi) (pzf_g.trans (by rw [kF_298, h0]))
theorem r_tickNow (hS : RS μ m) (hF : RF F A) (hM : RM μ m (F 290) A) (hi : INV A) (h0 : F 298 = 0) {t : Int} (t0 : 1 ≤ t) (t1 : t ≤ 500) (hQ : RP μ m Q (oTick A t)) : s_X9_tickNow (pz (pf μ m F) m A.2.1) [.ref m, .int (ji t)] Q X := by
  have hB := hi.1.1.1
  have hbz := hB.2.1
  have hn := hi.2.1
  have z0 : aI (pz (pf μ m F) m A.2.1) (m + 1) (0 : Int).toNat = ji (A.2.1 0) := pz_ati (by omega) (by omega)
  have n4 := hF.2.2.2
  unfold oTick at hQ
  by_cases h1 : 30000 < A.2.1 0 + t
  · rw [if_pos h1] at hQ
    simp (disch := first | assumption | omega) only [RS_0, RS_1, RS_2, RS_3, RS_4, RS_5, RS_6, RS_7, RS_8, RS_9, RS_10, RS_11, RS_12, RS_13, RS_14, RS_15, RS_16, RS_17, RS_18, RS_19, RS_20, RS_21, RS_22, RS_23, RS_24, RS_25, RS_26, RS_27, RS_28, RS_29, RS_30, RS_31, RS_32, RS_33, RS_34, RS_35, RS_36, ji_add, ji_sub, ji_mul, ji_neg, ji_lit0, ji_ofNat, ji_lt, ji_le, ji_eq, ji_nat, ji_in, ji_rem, ji_div, jl_of, xl_lt, xl_gt, xl_eq, qV_at, qI_at, qJ_at, qD_at, qA_at, qA_no, nb0, nb1, cat_r, cat_i, Option.some.injEq, exists_eq_left', true_and, and_true, if_true, if_false, ite_not, not_true_eq_false, not_false_eq_true, Sum.inr.injEq, exists_eq_right', true_or, or_true, and_self, Int.cast_ofNat_Int, reduceCtorEq, or_false, false_or, false_and, and_false, jb_zero, lt7_0, lt7_1, lt7_2, lt7_3, lt7_4, lt7_5, lt7_6, u_X9_tickNow, z0, pz_tg, pz_ln, pz_gI, pz_gL, pz_gR, pz_aR, pz_aL, pz_aD, pzf_w, pzf_g, pf_w, pf_tg, pf_ln, pf_gR, pf_aI, pf_aR, pf_gL, pz_w, ↓reduceIte, ilt_t, ilt_f, ile_t, ile_f, ieq_t, ieq_f, jb_T, jb_F, jb_t, jb_f]
    exact RP.stay hS hF hM h0 hQ
  · rw [if_neg h1] at hQ
    have hk := fun Q X => f_keep (Q := Q) (X := X) (Z := A.2.1) hS (F := F) (by omega) (by omega) n4.2.1 n4.2.2.1
    have ha := fun Q X => f_ticks (Q := Q) (X := X) (μ := pf (pb μ m (kB (F 290) (F 291)) A.2.1) m (kF F)) (m := m) (Z := A.2.1) (t := t) (RS_pf (RS_pb hS _ _) _) (RF.psh (Y := A.2.1) (v := 0) hF hi).b hi.1.1 (by omega) (by omega) (by omega)
    simp (disch := first | assumption | omega) only [RS_0, RS_1, RS_2, RS_3, RS_4, RS_5, RS_6, RS_7, RS_8, RS_9, RS_10, RS_11, RS_12, RS_13, RS_14, RS_15, RS_16, RS_17, RS_18, RS_19, RS_20, RS_21, RS_22, RS_23, RS_24, RS_25, RS_26, RS_27, RS_28, RS_29, RS_30, RS_31, RS_32, RS_33, RS_34, RS_35, RS_36, ji_add, ji_sub, ji_mul, ji_neg, ji_lit0, ji_ofNat, ji_lt, ji_le, ji_eq, ji_nat, ji_in, ji_rem, ji_div, jl_of, xl_lt, xl_gt, xl_eq, qV_at, qI_at, qJ_at, qD_at, qA_at, qA_no, nb0, nb1, cat_r, cat_i, Option.some.injEq, exists_eq_left', true_and, and_true, if_true, if_false, ite_not, not_true_eq_false, not_false_eq_true, Sum.inr.injEq, exists_eq_right', true_or, or_true, and_self, Int.cast_ofNat_Int, reduceCtorEq, or_false, false_or, false_and, and_false, jb_zero, lt7_0, lt7_1, lt7_2, lt7_3, lt7_4, lt7_5, lt7_6, u_X9_tickNow, z0, hk, c_X9_tickNow_1, ha, pz_tg, pz_ln, pz_gI, pz_gL, pz_gR, pz_aR, pz_aL, pz_aD, pzf_w, pzf_g, pf_w, pf_tg, pf_ln, pf_gR, pf_aI, pf_aR, pf_gL, pz_w, ↓reduceIte, ilt_t, ilt_f, ile_t, ile_f, ieq_t, ieq_f, jb_T, jb_F, jb_t, jb_f]
    exact hQ _ CH.all (MS_psh hS hF hM hi) (pzf_g.trans (by rw [kF_298, h0]))
theorem r_turnNow (hS : RS μ m) (hF : RF F A) (hM : RM μ m (F 290) A) (hi : INV A) (h0 : F 298 = 0) {n y d : Int} (n0 : 0 ≤ n) (n1 : n < A.1.2.2.1) (y0 : 0 ≤ y) (y1 : y < 4) (d0 : d = 0 ∨ d = 1) (hQ : RP μ m Q (oTurn A n y d)) : s_X9_turnNow (pz (pf μ m F) m A.2.1) [.ref m, .int (ji n), .int (ji y), .int (ji d)] Q X := by
  have hB := hi.1.1.1
  have hlb := lka_b (z := n) (y := y) hB.g
  have hn := hi.2.1
  have n4 := hF.2.2.2
  have hl := fun Q X => f_linkOf (Q := Q) (X := X) (RS_pz (RS_pf hS F) A.2.1) (RW_pz (RF.b hF) A.2.1) hB.z n0 n1 y0 y1
  unfold oTurn at hQ
  generalize hlk : lka A.1.1 A.1.2.1 A.1.2.2.1 n y = l at *
  by_cases h1 : l = -1
  · rw [if_pos (Or.inl h1)] at hQ
    simp (disch := first | assumption | omega) only [RS_0, RS_1, RS_2, RS_3, RS_4, RS_5, RS_6, RS_7, RS_8, RS_9, RS_10, RS_11, RS_12, RS_13, RS_14, RS_15, RS_16, RS_17, RS_18, RS_19, RS_20, RS_21, RS_22, RS_23, RS_24, RS_25, RS_26, RS_27, RS_28, RS_29, RS_30, RS_31, RS_32, RS_33, RS_34, RS_35, RS_36, ji_add, ji_sub, ji_mul, ji_neg, ji_lit0, ji_ofNat, ji_lt, ji_le, ji_eq, ji_nat, ji_in, ji_rem, ji_div, jl_of, xl_lt, xl_gt, xl_eq, qV_at, qI_at, qJ_at, qD_at, qA_at, qA_no, nb0, nb1, cat_r, cat_i, Option.some.injEq, exists_eq_left', true_and, and_true, if_true, if_false, ite_not, not_true_eq_false, not_false_eq_true, Sum.inr.injEq, exists_eq_right', true_or, or_true, and_self, Int.cast_ofNat_Int, reduceCtorEq, or_false, false_or, false_and, and_false, jb_zero, lt7_0, lt7_1, lt7_2, lt7_3, lt7_4, lt7_5, lt7_6, c_X9_turnNow_1, c_X9_turnNow_2, c_X9_turnNow_3, u_X9_turnNow, hl, h1, pz_tg, pz_ln, pz_gI, pz_gL, pz_gR, pz_aR, pz_aL, pz_aD, pzf_w, pzf_g, pf_w, pf_tg, pf_ln, pf_gR, pf_aI, pf_aR, pf_gL, pz_w, ↓reduceIte, ilt_t, ilt_f, ile_t, ile_f, ieq_t, ieq_f, jb_T, jb_F, jb_t, jb_f]
    exact RP.stay hS hF hM h0 hQ
  · have hd := hB.2.2.1 l (by omega) (by omega)
    have z2 : aI (pz (pf μ m F) m A.2.1) (m + 1) (2 + l).toNat = ji (A.2.1 (2 + l)) := pz_ati (by omega) (by omega)
    by_cases h2 : A.2.1 (2 + l) = d
    · rw [if_pos (Or.inr h2)] at hQ
      simp (disch := first | assumption | omega) only [RS_0, RS_1, RS_2, RS_3, RS_4, RS_5, RS_6, RS_7, RS_8, RS_9, RS_10, RS_11, RS_12, RS_13, RS_14, RS_15, RS_16, RS_17, RS_18, RS_19, RS_20, RS_21, RS_22, RS_23, RS_24, RS_25, RS_26, RS_27, RS_28, RS_29, RS_30, RS_31, RS_32, RS_33, RS_34, RS_35, RS_36, ji_add, ji_sub, ji_mul, ji_neg, ji_lit0, ji_ofNat, ji_lt, ji_le, ji_eq, ji_nat, ji_in, ji_rem, ji_div, jl_of, xl_lt, xl_gt, xl_eq, qV_at, qI_at, qJ_at, qD_at, qA_at, qA_no, nb0, nb1, cat_r, cat_i, Option.some.injEq, exists_eq_left', true_and, and_true, if_true, if_false, ite_not, not_true_eq_false, not_false_eq_true, Sum.inr.injEq, exists_eq_right', true_or, or_true, and_self, Int.cast_ofNat_Int, reduceCtorEq, or_false, false_or, false_and, and_false, jb_zero, lt7_0, lt7_1, lt7_2, lt7_3, lt7_4, lt7_5, lt7_6, c_X9_turnNow_1, c_X9_turnNow_2, c_X9_turnNow_3, u_X9_turnNow, hl, h1, z2, h2, pz_tg, pz_ln, pz_gI, pz_gL, pz_gR, pz_aR, pz_aL, pz_aD, pzf_w, pzf_g, pf_w, pf_tg, pf_ln, pf_gR, pf_aI, pf_aR, pf_gL, pz_w, ↓reduceIte, ilt_t, ilt_f, ile_t, ile_f, ieq_t, ieq_f, jb_T, jb_F, jb_t, jb_f]
      exact RP.stay hS hF hM h0 hQ
    · rw [if_neg (by omega)] at hQ
      have hil := isl_lka (n := n) (y := y) hB.g (by rw [hlk]; exact h1)
      rw [hlk] at hil
      have ho := hi.1.dd (l := l) (v := d) (by omega) (by omega) d0 hil
      have hk := fun Q X => f_keep (Q := Q) (X := X) (Z := A.2.1) hS (F := F) (by omega) (by omega) n4.2.1 n4.2.2.1
      have hS' := RS_pb hS (kB (F 290) (F 291)) A.2.1
      have ha := fun Q X => f_deadLinks (Q := Q) (X := X) (μ := pf (pb μ m (kB (F 290) (F 291)) A.2.1) m (kF F)) (m := m) (Z := zu A.2.1 (2 + l) d) (RS_pf hS' _) (RF.psh (Y := A.2.1) (v := 0) hF hi).b ho.1.1
      simp (disch := first | assumption | omega) only [RS_0, RS_1, RS_2, RS_3, RS_4, RS_5, RS_6, RS_7, RS_8, RS_9, RS_10, RS_11, RS_12, RS_13, RS_14, RS_15, RS_16, RS_17, RS_18, RS_19, RS_20, RS_21, RS_22, RS_23, RS_24, RS_25, RS_26, RS_27, RS_28, RS_29, RS_30, RS_31, RS_32, RS_33, RS_34, RS_35, RS_36, ji_add, ji_sub, ji_mul, ji_neg, ji_lit0, ji_ofNat, ji_lt, ji_le, ji_eq, ji_nat, ji_in, ji_rem, ji_div, jl_of, xl_lt, xl_gt, xl_eq, qV_at, qI_at, qJ_at, qD_at, qA_at, qA_no, nb0, nb1, cat_r, cat_i, Option.some.injEq, exists_eq_left', true_and, and_true, if_true, if_false, ite_not, not_true_eq_false, not_false_eq_true, Sum.inr.injEq, exists_eq_right', true_or, or_true, and_self, Int.cast_ofNat_Int, reduceCtorEq, or_false, false_or, false_and, and_false, jb_zero, lt7_0, lt7_1, lt7_2, lt7_3, lt7_4, lt7_5, lt7_6, c_X9_turnNow_1, c_X9_turnNow_2, c_X9_turnNow_3, u_X9_turnNow, hl, h1, z2, h2, hk, ha, pz_tg, pz_ln, pz_gI, pz_gL, pz_gR, pz_aR, pz_aL, pz_aD, pzf_w, pzf_g, pf_w, pf_tg, pf_ln, pf_gR, pf_aI, pf_aR, pf_gL, pz_w, ↓reduceIte, ilt_t, ilt_f, ile_t, ile_f, ieq_t, ieq_f, jb_T, jb_F, jb_t, jb_f]
      exact hQ _ CH.all (MS_psh hS hF hM hi) (pzf_g.trans (by rw [kF_298, h0]))
theorem r_forgetNow (hS : RS μ m) (hF : RF F A) (hM : RM μ m (F 290) A) (hi : INV A) (h0 : F 298 = 0) {n : Int} (n0 : 0 ≤ n) (n1 : n < A.1.2.2.1) (hQ : RP μ m Q (oForget A n)) : s_X9_forgetNow (pz (pf μ m F) m A.2.1) [.ref m, .int (ji n)] Q X := by
  have hB := hi.1.1.1
  have hbw := hB.1
  have hn := hi.2.1
  have n4 := hF.2.2.2
  have hk := fun Q X => f_keep (Q := Q) (X := X) (Z := A.2.1) hS (F := F) (by omega) (by omega) n4.2.1 n4.2.2.1
  have hS' := RS_pb hS (kB (F 290) (F 291)) A.2.1
  have ha := fun Q X => f_lessonsOf (Q := Q) (X := X) (μ := pf (pb μ m (kB (F 290) (F 291)) A.2.1) m (kF F)) (m := m) (Z := A.2.1) (n := n) (RS_pf hS' _) (RF.psh (Y := A.2.1) (v := 0) hF hi).b hB n0 (by omega)
  have key : ∀ (ν : XM) (c : Int) (hSv : RS ν m), l_X9_forgetNow_12 Q X [some (.ref m), some (.int (ji n)), some (.int (ji c)), some (.int (ji 0))] [] (pz ν m A.2.1) 0 0 = Q (some (.int (ji c))) (pz ν m (zfgt A.2.1 n)) := by
    intro ν c hSv
    unfold zfgt zrow
    rw [l_X9_forgetNow_12, xseal_eq]
    refine fold_loop (fun mf x l => ln_X9_forgetNow_12 Q X mf [some (.ref m), some (.int (ji n)), some (.int (ji c)), some (.int (ji l))] [] (pz ν m x) 0 0) (fun x => Q (some (.int (ji c))) (pz ν m x)) (fun i Y => zu Y (74 + 72 * n + i) (-1)) (fun _ _ => True) 72 (fun mf x hx => ?_) (fun mf x l l0 l1 hx => ⟨?_, trivial⟩) 72 10000 0 _ (by omega) (by omega) (by omega) trivial
    · show ln_X9_forgetNow_12 Q X (mf + 1) [some (.ref m), some (.int (ji n)), some (.int (ji c)), some (.int (ji 72))] [] (pz ν m x) 0 0 = Q (some (.int (ji c))) (pz ν m x)
      rw [ul_X9_forgetNow_12]
      simp (disch := first | assumption | omega) only [RS_0, RS_1, RS_2, RS_3, RS_4, RS_5, RS_6, RS_7, RS_8, RS_9, RS_10, RS_11, RS_12, RS_13, RS_14, RS_15, RS_16, RS_17, RS_18, RS_19, RS_20, RS_21, RS_22, RS_23, RS_24, RS_25, RS_26, RS_27, RS_28, RS_29, RS_30, RS_31, RS_32, RS_33, RS_34, RS_35, RS_36, ji_add, ji_sub, ji_mul, ji_neg, ji_lit0, ji_ofNat, ji_lt, ji_le, ji_eq, ji_nat, ji_in, ji_rem, ji_div, jl_of, xl_lt, xl_gt, xl_eq, qV_at, qI_at, qJ_at, qD_at, qA_at, qA_no, nb0, nb1, cat_r, cat_i, Option.some.injEq, exists_eq_left', true_and, and_true, if_true, if_false, ite_not, not_true_eq_false, not_false_eq_true, Sum.inr.injEq, exists_eq_right', true_or, or_true, and_self, Int.cast_ofNat_Int, reduceCtorEq, or_false, false_or, false_and, and_false, jb_zero, lt7_0, lt7_1, lt7_2, lt7_3, lt7_4, lt7_5, lt7_6, ↓reduceIte, ilt_t, ilt_f, ile_t, ile_f, ieq_t, ieq_f, jb_T, jb_F, jb_t, jb_f]
    · show ln_X9_forgetNow_12 Q X (mf + 1) [some (.ref m), some (.int (ji n)), some (.int (ji c)), some (.int (ji l))] [] (pz ν m x) 0 0 = ln_X9_forgetNow_12 Q X mf [some (.ref m), some (.int (ji n)), some (.int (ji c)), some (.int (ji (l + 1)))] [] (pz ν m (zu x (74 + 72 * n + l) (-1))) 0 0
      rw [ul_X9_forgetNow_12]
      simp (disch := first | assumption | omega) only [RS_0, RS_1, RS_2, RS_3, RS_4, RS_5, RS_6, RS_7, RS_8, RS_9, RS_10, RS_11, RS_12, RS_13, RS_14, RS_15, RS_16, RS_17, RS_18, RS_19, RS_20, RS_21, RS_22, RS_23, RS_24, RS_25, RS_26, RS_27, RS_28, RS_29, RS_30, RS_31, RS_32, RS_33, RS_34, RS_35, RS_36, ji_add, ji_sub, ji_mul, ji_neg, ji_lit0, ji_ofNat, ji_lt, ji_le, ji_eq, ji_nat, ji_in, ji_rem, ji_div, jl_of, xl_lt, xl_gt, xl_eq, qV_at, qI_at, qJ_at, qD_at, qA_at, qA_no, nb0, nb1, cat_r, cat_i, Option.some.injEq, exists_eq_left', true_and, and_true, if_true, if_false, ite_not, not_true_eq_false, not_false_eq_true, Sum.inr.injEq, exists_eq_right', true_or, or_true, and_self, Int.cast_ofNat_Int, reduceCtorEq, or_false, false_or, false_and, and_false, jb_zero, lt7_0, lt7_1, lt7_2, lt7_3, lt7_4, lt7_5, lt7_6, pz_tg, pz_ln, pz_gI, pz_gL, pz_gR, pz_aR, pz_aL, pz_aD, pzf_w, pzf_g, pf_w, pf_tg, pf_ln, pf_gR, pf_aI, pf_aR, pf_gL, pz_w, ↓reduceIte, ilt_t, ilt_f, ile_t, ile_f, ieq_t, ieq_f, jb_T, jb_F, jb_t, jb_f]
  unfold oForget at hQ
  simp (disch := first | assumption | omega) only [RS_0, RS_1, RS_2, RS_3, RS_4, RS_5, RS_6, RS_7, RS_8, RS_9, RS_10, RS_11, RS_12, RS_13, RS_14, RS_15, RS_16, RS_17, RS_18, RS_19, RS_20, RS_21, RS_22, RS_23, RS_24, RS_25, RS_26, RS_27, RS_28, RS_29, RS_30, RS_31, RS_32, RS_33, RS_34, RS_35, RS_36, ji_add, ji_sub, ji_mul, ji_neg, ji_lit0, ji_ofNat, ji_lt, ji_le, ji_eq, ji_nat, ji_in, ji_rem, ji_div, jl_of, xl_lt, xl_gt, xl_eq, qV_at, qI_at, qJ_at, qD_at, qA_at, qA_no, nb0, nb1, cat_r, cat_i, Option.some.injEq, exists_eq_left', true_and, and_true, if_true, if_false, ite_not, not_true_eq_false, not_false_eq_true, Sum.inr.injEq, exists_eq_right', true_or, or_true, and_self, Int.cast_ofNat_Int, reduceCtorEq, or_false, false_or, false_and, and_false, jb_zero, lt7_0, lt7_1, lt7_2, lt7_3, lt7_4, lt7_5, lt7_6, u_X9_forgetNow, hk, c_X9_forgetNow_1, c_X9_forgetNow_2, ha, pz_tg, pz_ln, pz_gI, pz_gL, pz_gR, pz_aR, pz_aL, pz_aD, pzf_w, pzf_g, pf_w, pf_tg, pf_ln, pf_gR, pf_aI, pf_aR, pf_gL, pz_w, ↓reduceIte, ilt_t, ilt_f, ile_t, ile_f, ieq_t, ieq_f, jb_T, jb_F, jb_t, jb_f]
  rw [key _ _ (RS_pf hS' _), show (psh A A.2.1 0).1.1.2.2.2 = A.1.2.2.2 from rfl]
  exact hQ _ CH.all (MS_psh hS hF hM hi) (pzf_g.trans (by rw [kF_298, h0]))
theorem r_send (hM : MS μ m A) (hi : INV A) {a b l : Int} (a0 : -2147483648 ≤ a) (a1 : a < 2147483648) (b0 : -2147483648 ≤ b) (b1 : b < 2147483648) (l0 : -2147483648 ≤ l) (l1 : l < 2147483648) (hQ : RQ μ m Q (xSend A a b l)) : s_X9_send μ [.ref m, .int (ji a), .int (ji b), .int (ji l)] Q X := by
  have hS := hM.1
  have hT := RS_0 hS
  rw [u_X9_send]
  refine ⟨hT, ?_⟩
  refine hM.go (P := fun ν => tg ν m = some (.inl 9) ∧ s_X9_noTwo ν [.ref m, .int (ji a), .int (ji b)] (qI (c_X9_send_6 (ji l) m (ji a) (ji b) Q)) (fun _ _ => False)) (fun F hF hR _ h0 => ?_)
  have hno := fun Q X => f_noTwo (Q := Q) (X := X) (Z := A.2.1) hS hF hi a0 a1 b0 b1
  unfold xSend op2 at hQ
  by_cases h1 : (0 ≤ a ∧ a < A.1.2.2.1) ∧ 0 ≤ b ∧ b < A.1.2.2.1
  · rw [if_pos h1] at hQ
    by_cases h2 : 1 ≤ l ∧ l ≤ 200
    · rw [if_pos h2] at hQ
      simp (disch := first | assumption | omega) only [RS_0, RS_1, RS_2, RS_3, RS_4, RS_5, RS_6, RS_7, RS_8, RS_9, RS_10, RS_11, RS_12, RS_13, RS_14, RS_15, RS_16, RS_17, RS_18, RS_19, RS_20, RS_21, RS_22, RS_23, RS_24, RS_25, RS_26, RS_27, RS_28, RS_29, RS_30, RS_31, RS_32, RS_33, RS_34, RS_35, RS_36, ji_add, ji_sub, ji_mul, ji_neg, ji_lit0, ji_ofNat, ji_lt, ji_le, ji_eq, ji_nat, ji_in, ji_rem, ji_div, jl_of, xl_lt, xl_gt, xl_eq, qV_at, qI_at, qJ_at, qD_at, qA_at, qA_no, nb0, nb1, cat_r, cat_i, Option.some.injEq, exists_eq_left', true_and, and_true, if_true, if_false, ite_not, not_true_eq_false, not_false_eq_true, Sum.inr.injEq, exists_eq_right', true_or, or_true, and_self, Int.cast_ofNat_Int, reduceCtorEq, or_false, false_or, false_and, and_false, jb_zero, lt7_0, lt7_1, lt7_2, lt7_3, lt7_4, lt7_5, lt7_6, c_X9_send_1, c_X9_send_2, c_X9_send_3, c_X9_send_4, c_X9_send_5, c_X9_send_6, hno, h1, h2, f_inRange, f_t0 hS, pz_tg, pz_ln, pz_gI, pz_gL, pz_gR, pz_aR, pz_aL, pz_aD, pzf_w, pzf_g, pf_w, pf_tg, pf_ln, pf_gR, pf_aI, pf_aR, pf_gL, pz_w, ↓reduceIte, ilt_t, ilt_f, ile_t, ile_f, ieq_t, ieq_f, jb_T, jb_F, jb_t, jb_f]
      exact r_sendNow hS hF hR hi h0 h1.1.1 h1.1.2 h1.2.1 h1.2.2 (hQ.p oSend_0)
    · rw [if_neg h2] at hQ
      have e : jb (1 ≤ l ∧ l ≤ 200) = ji 0 := jb_f _ h2
      simp (disch := first | assumption | omega) only [RS_0, RS_1, RS_2, RS_3, RS_4, RS_5, RS_6, RS_7, RS_8, RS_9, RS_10, RS_11, RS_12, RS_13, RS_14, RS_15, RS_16, RS_17, RS_18, RS_19, RS_20, RS_21, RS_22, RS_23, RS_24, RS_25, RS_26, RS_27, RS_28, RS_29, RS_30, RS_31, RS_32, RS_33, RS_34, RS_35, RS_36, ji_add, ji_sub, ji_mul, ji_neg, ji_lit0, ji_ofNat, ji_lt, ji_le, ji_eq, ji_nat, ji_in, ji_rem, ji_div, jl_of, xl_lt, xl_gt, xl_eq, qV_at, qI_at, qJ_at, qD_at, qA_at, qA_no, nb0, nb1, cat_r, cat_i, Option.some.injEq, exists_eq_left', true_and, and_true, if_true, if_false, ite_not, not_true_eq_false, not_false_eq_true, Sum.inr.injEq, exists_eq_right', true_or, or_true, and_self, Int.cast_ofNat_Int, reduceCtorEq, or_false, false_or, false_and, and_false, jb_zero, lt7_0, lt7_1, lt7_2, lt7_3, lt7_4, lt7_5, lt7_6, c_X9_send_1, c_X9_send_2, c_X9_send_3, c_X9_send_4, c_X9_send_5, c_X9_send_6, hno, h1, f_inRange, e, f_t1 hS, pz_tg, pz_ln, pz_gI, pz_gL, pz_gR, pz_aR, pz_aL, pz_aD, pzf_w, pzf_g, pf_w, pf_tg, pf_ln, pf_gR, pf_aI, pf_aR, pf_gL, pz_w, ↓reduceIte, ilt_t, ilt_f, ile_t, ile_f, ieq_t, ieq_f, jb_T, jb_F, jb_t, jb_f]
      exact RQ.thr hS hF hR (by decide) hQ _
  · rw [if_neg h1] at hQ
    simp (disch := first | assumption | omega) only [RS_0, RS_1, RS_2, RS_3, RS_4, RS_5, RS_6, RS_7, RS_8, RS_9, RS_10, RS_11, RS_12, RS_13, RS_14, RS_15, RS_16, RS_17, RS_18, RS_19, RS_20, RS_21, RS_22, RS_23, RS_24, RS_25, RS_26, RS_27, RS_28, RS_29, RS_30, RS_31, RS_32, RS_33, RS_34, RS_35, RS_36, ji_add, ji_sub, ji_mul, ji_neg, ji_lit0, ji_ofNat, ji_lt, ji_le, ji_eq, ji_nat, ji_in, ji_rem, ji_div, jl_of, xl_lt, xl_gt, xl_eq, qV_at, qI_at, qJ_at, qD_at, qA_at, qA_no, nb0, nb1, cat_r, cat_i, Option.some.injEq, exists_eq_left', true_and, and_true, if_true, if_false, ite_not, not_true_eq_false, not_false_eq_true, Sum.inr.injEq, exists_eq_right', true_or, or_true, and_self, Int.cast_ofNat_Int, reduceCtorEq, or_false, false_or, false_and, and_false, jb_zero, lt7_0, lt7_1, lt7_2, lt7_3, lt7_4, lt7_5, lt7_6, c_X9_send_1, c_X9_send_2, c_X9_send_3, c_X9_send_4, c_X9_send_5, c_X9_send_6, hno, h1, pz_tg, pz_ln, pz_gI, pz_gL, pz_gR, pz_aR, pz_aL, pz_aD, pzf_w, pzf_g, pf_w, pf_tg, pf_ln, pf_gR, pf_aI, pf_aR, pf_gL, pz_w, ↓reduceIte, ilt_t, ilt_f, ile_t, ile_f, ieq_t, ieq_f, jb_T, jb_F, jb_t, jb_f]
    exact RQ.thr hS hF hR (by decide) hQ _
theorem r_tick (hM : MS μ m A) (hi : INV A) {t : Int} (l0 : -2147483648 ≤ t) (l1 : t < 2147483648) (hQ : RQ μ m Q (xTick A t)) : s_X9_tick μ [.ref m, .int (ji t)] Q X := by
  have hS := hM.1
  have hT := RS_0 hS
  obtain ⟨F, hF, hR, e, -⟩ := hM.get
  rw [← e]
  unfold xTick op1 at hQ
  by_cases h2 : 1 ≤ t ∧ t ≤ 500
  · rw [if_pos h2] at hQ
    simp (disch := first | assumption | omega) only [RS_0, RS_1, RS_2, RS_3, RS_4, RS_5, RS_6, RS_7, RS_8, RS_9, RS_10, RS_11, RS_12, RS_13, RS_14, RS_15, RS_16, RS_17, RS_18, RS_19, RS_20, RS_21, RS_22, RS_23, RS_24, RS_25, RS_26, RS_27, RS_28, RS_29, RS_30, RS_31, RS_32, RS_33, RS_34, RS_35, RS_36, ji_add, ji_sub, ji_mul, ji_neg, ji_lit0, ji_ofNat, ji_lt, ji_le, ji_eq, ji_nat, ji_in, ji_rem, ji_div, jl_of, xl_lt, xl_gt, xl_eq, qV_at, qI_at, qJ_at, qD_at, qA_at, qA_no, nb0, nb1, cat_r, cat_i, Option.some.injEq, exists_eq_left', true_and, and_true, if_true, if_false, ite_not, not_true_eq_false, not_false_eq_true, Sum.inr.injEq, exists_eq_right', true_or, or_true, and_self, Int.cast_ofNat_Int, reduceCtorEq, or_false, false_or, false_and, and_false, jb_zero, lt7_0, lt7_1, lt7_2, lt7_3, lt7_4, lt7_5, lt7_6, c_X9_tick_1, c_X9_tick_2, c_X9_tick_3, c_X9_tick_4, c_X9_tick_5, u_X9_tick, h2, f_inRange, f_t0 hS, pz_tg, pz_ln, pz_gI, pz_gL, pz_gR, pz_aR, pz_aL, pz_aD, pzf_w, pzf_g, pf_w, pf_tg, pf_ln, pf_gR, pf_aI, pf_aR, pf_gL, pz_w, ↓reduceIte, ilt_t, ilt_f, ile_t, ile_f, ieq_t, ieq_f, jb_T, jb_F, jb_t, jb_f]
    exact r_tickNow (F := fu F 298 0) hS hF hR hi (fu_at _ _ _) h2.1 h2.2 (hQ.p oTick_0)
  · rw [if_neg h2] at hQ
    have e : jb (1 ≤ t ∧ t ≤ 500) = ji 0 := jb_f _ h2
    simp (disch := first | assumption | omega) only [RS_0, RS_1, RS_2, RS_3, RS_4, RS_5, RS_6, RS_7, RS_8, RS_9, RS_10, RS_11, RS_12, RS_13, RS_14, RS_15, RS_16, RS_17, RS_18, RS_19, RS_20, RS_21, RS_22, RS_23, RS_24, RS_25, RS_26, RS_27, RS_28, RS_29, RS_30, RS_31, RS_32, RS_33, RS_34, RS_35, RS_36, ji_add, ji_sub, ji_mul, ji_neg, ji_lit0, ji_ofNat, ji_lt, ji_le, ji_eq, ji_nat, ji_in, ji_rem, ji_div, jl_of, xl_lt, xl_gt, xl_eq, qV_at, qI_at, qJ_at, qD_at, qA_at, qA_no, nb0, nb1, cat_r, cat_i, Option.some.injEq, exists_eq_left', true_and, and_true, if_true, if_false, ite_not, not_true_eq_false, not_false_eq_true, Sum.inr.injEq, exists_eq_right', true_or, or_true, and_self, Int.cast_ofNat_Int, reduceCtorEq, or_false, false_or, false_and, and_false, jb_zero, lt7_0, lt7_1, lt7_2, lt7_3, lt7_4, lt7_5, lt7_6, c_X9_tick_1, c_X9_tick_2, c_X9_tick_3, c_X9_tick_4, c_X9_tick_5, u_X9_tick, e, f_inRange, f_t1 hS, pz_tg, pz_ln, pz_gI, pz_gL, pz_gR, pz_aR, pz_aL, pz_aD, pzf_w, pzf_g, pf_w, pf_tg, pf_ln, pf_gR, pf_aI, pf_aR, pf_gL, pz_w, ↓reduceIte, ilt_t, ilt_f, ile_t, ile_f, ieq_t, ieq_f, jb_T, jb_F, jb_t, jb_f]
    exact RQ.thr (F := fu F 298 0) hS hF hR (by decide) hQ _
theorem r_kill (hM : MS μ m A) (hi : INV A) {n y : Int} (a0 : -2147483648 ≤ n) (a1 : n < 2147483648) (b0 : -2147483648 ≤ y) (b1 : y < 2147483648) (hQ : RQ μ m Q (xTurn A n y 1)) : s_X9_kill μ [.ref m, .int (ji n), .int (ji y)] Q X := by
  have hS := hM.1
  have hT := RS_0 hS
  rw [u_X9_kill]
  refine ⟨hT, ?_⟩
  refine hM.go (P := fun ν => tg ν m = some (.inl 9) ∧ s_X9_isNode ν [.ref m, .int (ji n)] (qI (c_X9_kill_1 Q X m (ji n) (ji y))) (fun _ _ => False)) (fun F hF hR _ h0 => ?_)
  have n1 := fun Q X => f_isNodeA (Q := Q) (X := X) (Z := A.2.1) hS hF hi a0 a1
  unfold xTurn op2 at hQ
  by_cases h1 : 0 ≤ n ∧ n < A.1.2.2.1
  · rw [if_pos h1] at hQ
    by_cases h2 : 0 ≤ y ∧ y < 4
    · rw [if_pos h2] at hQ
      simp (disch := first | assumption | omega) only [RS_0, RS_1, RS_2, RS_3, RS_4, RS_5, RS_6, RS_7, RS_8, RS_9, RS_10, RS_11, RS_12, RS_13, RS_14, RS_15, RS_16, RS_17, RS_18, RS_19, RS_20, RS_21, RS_22, RS_23, RS_24, RS_25, RS_26, RS_27, RS_28, RS_29, RS_30, RS_31, RS_32, RS_33, RS_34, RS_35, RS_36, ji_add, ji_sub, ji_mul, ji_neg, ji_lit0, ji_ofNat, ji_lt, ji_le, ji_eq, ji_nat, ji_in, ji_rem, ji_div, jl_of, xl_lt, xl_gt, xl_eq, qV_at, qI_at, qJ_at, qD_at, qA_at, qA_no, nb0, nb1, cat_r, cat_i, Option.some.injEq, exists_eq_left', true_and, and_true, if_true, if_false, ite_not, not_true_eq_false, not_false_eq_true, Sum.inr.injEq, exists_eq_right', true_or, or_true, and_self, Int.cast_ofNat_Int, reduceCtorEq, or_false, false_or, false_and, and_false, jb_zero, lt7_0, lt7_1, lt7_2, lt7_3, lt7_4, lt7_5, lt7_6, c_X9_kill_1, c_X9_kill_2, c_X9_kill_3, c_X9_kill_4, c_X9_kill_5, c_X9_kill_6, c_X9_kill_7, uj_X9_kill_19, n1, h1, h2, f_isWay, f_t0 hS, pz_tg, pz_ln, pz_gI, pz_gL, pz_gR, pz_aR, pz_aL, pz_aD, pzf_w, pzf_g, pf_w, pf_tg, pf_ln, pf_gR, pf_aI, pf_aR, pf_gL, pz_w, ↓reduceIte, ilt_t, ilt_f, ile_t, ile_f, ieq_t, ieq_f, jb_T, jb_F, jb_t, jb_f]
      exact r_turnNow hS hF hR hi h0 h1.1 h1.2 h2.1 h2.2 (Or.inr rfl) (hQ.p oTurn_0)
    · rw [if_neg h2] at hQ
      have e : jb (0 ≤ y ∧ y < 4) = ji 0 := jb_f _ h2
      simp (disch := first | assumption | omega) only [RS_0, RS_1, RS_2, RS_3, RS_4, RS_5, RS_6, RS_7, RS_8, RS_9, RS_10, RS_11, RS_12, RS_13, RS_14, RS_15, RS_16, RS_17, RS_18, RS_19, RS_20, RS_21, RS_22, RS_23, RS_24, RS_25, RS_26, RS_27, RS_28, RS_29, RS_30, RS_31, RS_32, RS_33, RS_34, RS_35, RS_36, ji_add, ji_sub, ji_mul, ji_neg, ji_lit0, ji_ofNat, ji_lt, ji_le, ji_eq, ji_nat, ji_in, ji_rem, ji_div, jl_of, xl_lt, xl_gt, xl_eq, qV_at, qI_at, qJ_at, qD_at, qA_at, qA_no, nb0, nb1, cat_r, cat_i, Option.some.injEq, exists_eq_left', true_and, and_true, if_true, if_false, ite_not, not_true_eq_false, not_false_eq_true, Sum.inr.injEq, exists_eq_right', true_or, or_true, and_self, Int.cast_ofNat_Int, reduceCtorEq, or_false, false_or, false_and, and_false, jb_zero, lt7_0, lt7_1, lt7_2, lt7_3, lt7_4, lt7_5, lt7_6, c_X9_kill_1, c_X9_kill_2, c_X9_kill_3, c_X9_kill_4, c_X9_kill_5, c_X9_kill_6, c_X9_kill_7, uj_X9_kill_19, n1, h1, f_isWay, e, f_t0 hS, f_t1 hS, pz_tg, pz_ln, pz_gI, pz_gL, pz_gR, pz_aR, pz_aL, pz_aD, pzf_w, pzf_g, pf_w, pf_tg, pf_ln, pf_gR, pf_aI, pf_aR, pf_gL, pz_w, ↓reduceIte, ilt_t, ilt_f, ile_t, ile_f, ieq_t, ieq_f, jb_T, jb_F, jb_t, jb_f]
      exact RQ.thr hS hF hR (by decide) hQ _
  · rw [if_neg h1] at hQ
    have e : jb (0 ≤ n ∧ n < A.1.2.2.1) = ji 0 := jb_f _ h1
    simp (disch := first | assumption | omega) only [RS_0, RS_1, RS_2, RS_3, RS_4, RS_5, RS_6, RS_7, RS_8, RS_9, RS_10, RS_11, RS_12, RS_13, RS_14, RS_15, RS_16, RS_17, RS_18, RS_19, RS_20, RS_21, RS_22, RS_23, RS_24, RS_25, RS_26, RS_27, RS_28, RS_29, RS_30, RS_31, RS_32, RS_33, RS_34, RS_35, RS_36, ji_add, ji_sub, ji_mul, ji_neg, ji_lit0, ji_ofNat, ji_lt, ji_le, ji_eq, ji_nat, ji_in, ji_rem, ji_div, jl_of, xl_lt, xl_gt, xl_eq, qV_at, qI_at, qJ_at, qD_at, qA_at, qA_no, nb0, nb1, cat_r, cat_i, Option.some.injEq, exists_eq_left', true_and, and_true, if_true, if_false, ite_not, not_true_eq_false, not_false_eq_true, Sum.inr.injEq, exists_eq_right', true_or, or_true, and_self, Int.cast_ofNat_Int, reduceCtorEq, or_false, false_or, false_and, and_false, jb_zero, lt7_0, lt7_1, lt7_2, lt7_3, lt7_4, lt7_5, lt7_6, c_X9_kill_1, c_X9_kill_2, c_X9_kill_3, c_X9_kill_4, c_X9_kill_5, c_X9_kill_6, c_X9_kill_7, uj_X9_kill_19, n1, e, f_t1 hS, pz_tg, pz_ln, pz_gI, pz_gL, pz_gR, pz_aR, pz_aL, pz_aD, pzf_w, pzf_g, pf_w, pf_tg, pf_ln, pf_gR, pf_aI, pf_aR, pf_gL, pz_w, ↓reduceIte, ilt_t, ilt_f, ile_t, ile_f, ieq_t, ieq_f, jb_T, jb_F, jb_t, jb_f]
    exact RQ.thr hS hF hR (by decide) hQ _
theorem r_mend (hM : MS μ m A) (hi : INV A) {n y : Int} (a0 : -2147483648 ≤ n) (a1 : n < 2147483648) (b0 : -2147483648 ≤ y) (b1 : y < 2147483648) (hQ : RQ μ m Q (xTurn A n y 0)) : s_X9_mend μ [.ref m, .int (ji n), .int (ji y)] Q X := by
  have hS := hM.1
  have hT := RS_0 hS
  rw [u_X9_mend]
  refine ⟨hT, ?_⟩
  refine hM.go (P := fun ν => tg ν m = some (.inl 9) ∧ s_X9_isNode ν [.ref m, .int (ji n)] (qI (c_X9_mend_1 Q X m (ji n) (ji y))) (fun _ _ => False)) (fun F hF hR _ h0 => ?_)
  have n1 := fun Q X => f_isNodeA (Q := Q) (X := X) (Z := A.2.1) hS hF hi a0 a1
  unfold xTurn op2 at hQ
  by_cases h1 : 0 ≤ n ∧ n < A.1.2.2.1
  · rw [if_pos h1] at hQ
    by_cases h2 : 0 ≤ y ∧ y < 4
    · rw [if_pos h2] at hQ
      simp (disch := first | assumption | omega) only [RS_0, RS_1, RS_2, RS_3, RS_4, RS_5, RS_6, RS_7, RS_8, RS_9, RS_10, RS_11, RS_12, RS_13, RS_14, RS_15, RS_16, RS_17, RS_18, RS_19, RS_20, RS_21, RS_22, RS_23, RS_24, RS_25, RS_26, RS_27, RS_28, RS_29, RS_30, RS_31, RS_32, RS_33, RS_34, RS_35, RS_36, ji_add, ji_sub, ji_mul, ji_neg, ji_lit0, ji_ofNat, ji_lt, ji_le, ji_eq, ji_nat, ji_in, ji_rem, ji_div, jl_of, xl_lt, xl_gt, xl_eq, qV_at, qI_at, qJ_at, qD_at, qA_at, qA_no, nb0, nb1, cat_r, cat_i, Option.some.injEq, exists_eq_left', true_and, and_true, if_true, if_false, ite_not, not_true_eq_false, not_false_eq_true, Sum.inr.injEq, exists_eq_right', true_or, or_true, and_self, Int.cast_ofNat_Int, reduceCtorEq, or_false, false_or, false_and, and_false, jb_zero, lt7_0, lt7_1, lt7_2, lt7_3, lt7_4, lt7_5, lt7_6, c_X9_mend_1, c_X9_mend_2, c_X9_mend_3, c_X9_mend_4, c_X9_mend_5, c_X9_mend_6, c_X9_mend_7, uj_X9_mend_19, n1, h1, h2, f_isWay, f_t0 hS, pz_tg, pz_ln, pz_gI, pz_gL, pz_gR, pz_aR, pz_aL, pz_aD, pzf_w, pzf_g, pf_w, pf_tg, pf_ln, pf_gR, pf_aI, pf_aR, pf_gL, pz_w, ↓reduceIte, ilt_t, ilt_f, ile_t, ile_f, ieq_t, ieq_f, jb_T, jb_F, jb_t, jb_f]
      exact r_turnNow hS hF hR hi h0 h1.1 h1.2 h2.1 h2.2 (Or.inl rfl) (hQ.p oTurn_0)
    · rw [if_neg h2] at hQ
      have e : jb (0 ≤ y ∧ y < 4) = ji 0 := jb_f _ h2
      simp (disch := first | assumption | omega) only [RS_0, RS_1, RS_2, RS_3, RS_4, RS_5, RS_6, RS_7, RS_8, RS_9, RS_10, RS_11, RS_12, RS_13, RS_14, RS_15, RS_16, RS_17, RS_18, RS_19, RS_20, RS_21, RS_22, RS_23, RS_24, RS_25, RS_26, RS_27, RS_28, RS_29, RS_30, RS_31, RS_32, RS_33, RS_34, RS_35, RS_36, ji_add, ji_sub, ji_mul, ji_neg, ji_lit0, ji_ofNat, ji_lt, ji_le, ji_eq, ji_nat, ji_in, ji_rem, ji_div, jl_of, xl_lt, xl_gt, xl_eq, qV_at, qI_at, qJ_at, qD_at, qA_at, qA_no, nb0, nb1, cat_r, cat_i, Option.some.injEq, exists_eq_left', true_and, and_true, if_true, if_false, ite_not, not_true_eq_false, not_false_eq_true, Sum.inr.injEq, exists_eq_right', true_or, or_true, and_self, Int.cast_ofNat_Int, reduceCtorEq, or_false, false_or, false_and, and_false, jb_zero, lt7_0, lt7_1, lt7_2, lt7_3, lt7_4, lt7_5, lt7_6, c_X9_mend_1, c_X9_mend_2, c_X9_mend_3, c_X9_mend_4, c_X9_mend_5, c_X9_mend_6, c_X9_mend_7, uj_X9_mend_19, n1, h1, f_isWay, e, f_t0 hS, f_t1 hS, pz_tg, pz_ln, pz_gI, pz_gL, pz_gR, pz_aR, pz_aL, pz_aD, pzf_w, pzf_g, pf_w, pf_tg, pf_ln, pf_gR, pf_aI, pf_aR, pf_gL, pz_w, ↓reduceIte, ilt_t, ilt_f, ile_t, ile_f, ieq_t, ieq_f, jb_T, jb_F, jb_t, jb_f]
      exact RQ.thr hS hF hR (by decide) hQ _
  · rw [if_neg h1] at hQ
    have e : jb (0 ≤ n ∧ n < A.1.2.2.1) = ji 0 := jb_f _ h1
    simp (disch := first | assumption | omega) only [RS_0, RS_1, RS_2, RS_3, RS_4, RS_5, RS_6, RS_7, RS_8, RS_9, RS_10, RS_11, RS_12, RS_13, RS_14, RS_15, RS_16, RS_17, RS_18, RS_19, RS_20, RS_21, RS_22, RS_23, RS_24, RS_25, RS_26, RS_27, RS_28, RS_29, RS_30, RS_31, RS_32, RS_33, RS_34, RS_35, RS_36, ji_add, ji_sub, ji_mul, ji_neg, ji_lit0, ji_ofNat, ji_lt, ji_le, ji_eq, ji_nat, ji_in, ji_rem, ji_div, jl_of, xl_lt, xl_gt, xl_eq, qV_at, qI_at, qJ_at, qD_at, qA_at, qA_no, nb0, nb1, cat_r, cat_i, Option.some.injEq, exists_eq_left', true_and, and_true, if_true, if_false, ite_not, not_true_eq_false, not_false_eq_true, Sum.inr.injEq, exists_eq_right', true_or, or_true, and_self, Int.cast_ofNat_Int, reduceCtorEq, or_false, false_or, false_and, and_false, jb_zero, lt7_0, lt7_1, lt7_2, lt7_3, lt7_4, lt7_5, lt7_6, c_X9_mend_1, c_X9_mend_2, c_X9_mend_3, c_X9_mend_4, c_X9_mend_5, c_X9_mend_6, c_X9_mend_7, uj_X9_mend_19, n1, e, f_t1 hS, pz_tg, pz_ln, pz_gI, pz_gL, pz_gR, pz_aR, pz_aL, pz_aD, pzf_w, pzf_g, pf_w, pf_tg, pf_ln, pf_gR, pf_aI, pf_aR, pf_gL, pz_w, ↓reduceIte, ilt_t, ilt_f, ile_t, ile_f, ieq_t, ieq_f, jb_T, jb_F, jb_t, jb_f]
    exact RQ.thr hS hF hR (by decide) hQ _
theorem r_forget (hM : MS μ m A) (hi : INV A) {n : Int} (a0 : -2147483648 ≤ n) (a1 : n < 2147483648) (hQ : RQ μ m Q (xForget A n)) : s_X9_forget μ [.ref m, .int (ji n)] Q X := by
  have hS := hM.1
  have hT := RS_0 hS
  rw [u_X9_forget]
  refine ⟨hT, ?_⟩
  refine hM.go (P := fun ν => tg ν m = some (.inl 9) ∧ s_X9_isNode ν [.ref m, .int (ji n)] (qI (c_X9_forget_5 m (ji n) Q)) (fun _ _ => False)) (fun F hF hR _ h0 => ?_)
  have n1 := fun Q X => f_isNodeA (Q := Q) (X := X) (Z := A.2.1) hS hF hi a0 a1
  unfold xForget op1 at hQ
  by_cases h1 : 0 ≤ n ∧ n < A.1.2.2.1
  · rw [if_pos h1] at hQ
    simp (disch := first | assumption | omega) only [RS_0, RS_1, RS_2, RS_3, RS_4, RS_5, RS_6, RS_7, RS_8, RS_9, RS_10, RS_11, RS_12, RS_13, RS_14, RS_15, RS_16, RS_17, RS_18, RS_19, RS_20, RS_21, RS_22, RS_23, RS_24, RS_25, RS_26, RS_27, RS_28, RS_29, RS_30, RS_31, RS_32, RS_33, RS_34, RS_35, RS_36, ji_add, ji_sub, ji_mul, ji_neg, ji_lit0, ji_ofNat, ji_lt, ji_le, ji_eq, ji_nat, ji_in, ji_rem, ji_div, jl_of, xl_lt, xl_gt, xl_eq, qV_at, qI_at, qJ_at, qD_at, qA_at, qA_no, nb0, nb1, cat_r, cat_i, Option.some.injEq, exists_eq_left', true_and, and_true, if_true, if_false, ite_not, not_true_eq_false, not_false_eq_true, Sum.inr.injEq, exists_eq_right', true_or, or_true, and_self, Int.cast_ofNat_Int, reduceCtorEq, or_false, false_or, false_and, and_false, jb_zero, lt7_0, lt7_1, lt7_2, lt7_3, lt7_4, lt7_5, lt7_6, c_X9_forget_1, c_X9_forget_2, c_X9_forget_3, c_X9_forget_4, c_X9_forget_5, n1, h1, f_t0 hS, pz_tg, pz_ln, pz_gI, pz_gL, pz_gR, pz_aR, pz_aL, pz_aD, pzf_w, pzf_g, pf_w, pf_tg, pf_ln, pf_gR, pf_aI, pf_aR, pf_gL, pz_w, ↓reduceIte, ilt_t, ilt_f, ile_t, ile_f, ieq_t, ieq_f, jb_T, jb_F, jb_t, jb_f]
    exact r_forgetNow hS hF hR hi h0 h1.1 h1.2 (hQ.p oForget_0)
  · rw [if_neg h1] at hQ
    have e : jb (0 ≤ n ∧ n < A.1.2.2.1) = ji 0 := jb_f _ h1
    simp (disch := first | assumption | omega) only [RS_0, RS_1, RS_2, RS_3, RS_4, RS_5, RS_6, RS_7, RS_8, RS_9, RS_10, RS_11, RS_12, RS_13, RS_14, RS_15, RS_16, RS_17, RS_18, RS_19, RS_20, RS_21, RS_22, RS_23, RS_24, RS_25, RS_26, RS_27, RS_28, RS_29, RS_30, RS_31, RS_32, RS_33, RS_34, RS_35, RS_36, ji_add, ji_sub, ji_mul, ji_neg, ji_lit0, ji_ofNat, ji_lt, ji_le, ji_eq, ji_nat, ji_in, ji_rem, ji_div, jl_of, xl_lt, xl_gt, xl_eq, qV_at, qI_at, qJ_at, qD_at, qA_at, qA_no, nb0, nb1, cat_r, cat_i, Option.some.injEq, exists_eq_left', true_and, and_true, if_true, if_false, ite_not, not_true_eq_false, not_false_eq_true, Sum.inr.injEq, exists_eq_right', true_or, or_true, and_self, Int.cast_ofNat_Int, reduceCtorEq, or_false, false_or, false_and, and_false, jb_zero, lt7_0, lt7_1, lt7_2, lt7_3, lt7_4, lt7_5, lt7_6, c_X9_forget_1, c_X9_forget_2, c_X9_forget_3, c_X9_forget_4, c_X9_forget_5, n1, e, f_t1 hS, pz_tg, pz_ln, pz_gI, pz_gL, pz_gR, pz_aR, pz_aL, pz_aD, pzf_w, pzf_g, pf_w, pf_tg, pf_ln, pf_gR, pf_aI, pf_aR, pf_gL, pz_w, ↓reduceIte, ilt_t, ilt_f, ile_t, ile_f, ieq_t, ieq_f, jb_T, jb_F, jb_t, jb_f]
    exact RQ.thr hS hF hR (by decide) hQ _
end
