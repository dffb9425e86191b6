/-! ===== the reference: input and output ===== -/
theorem bp_b (x : Int32) : x.toInt8.toInt32 &&& 255 = x &&& 255 := by
  apply Int32.toBitVec_inj.mp
  rw [Int32.toBitVec_and, Int32.toBitVec_and, Int8.toBitVec_toInt32, Int32.toBitVec_toInt8]
  apply BitVec.eq_of_getLsbD_eq
  intro i hi
  rw [BitVec.getLsbD_and, BitVec.getLsbD_and]
  have hm : ∀ i < 32, 8 ≤ i → (255 : Int32).toBitVec.getLsbD i = false := by decide
  rcases Nat.lt_or_ge i 8 with z | z
  · rw [BitVec.getLsbD_signExtend, BitVec.getLsbD_signExtend, if_pos z, if_pos hi]
    simp only [z, hi, decide_true, Bool.true_and]
  · rw [hm i hi z]; simp
theorem nar_byte (x : Int32) : vp_nar .byte (jtob x) &&& ji 255 = x &&& ji 255 := by
  have e : vp_nar .byte (jtob x) = x.toInt8.toInt32.toInt8.toInt32 := rfl
  have e2 : ji 255 = 255 := rfl
  rw [e, e2, bp_b, bp_b]
section
variable {μ μ' ν : XM} {m : Nat} {Q : XQ} {X : XX} {A : AS} {l : Int} {T O U : Int → Int}
theorem MS.txt (hM : MS μ m A) (hs : SR μ μ') (hk : ∀ k, k ≠ 309 → gI μ' k m = gI μ k m) (h9 : gI μ' 309 m = ji l) (hr : ∀ a i, a ≠ m + 10 → aI μ' a i = aI μ a i) (hT : ∀ i, 0 ≤ i → i < l → aI μ' (m + 10) i.toNat &&& ji 255 = ji (T i)) : MS μ' m (A.1, A.2.1, A.2.2.1, A.2.2.2.1, (l, T), A.2.2.2.2.2) := by
  obtain ⟨h1, F, h2, h3, ⟨h4, ⟨h5, h6, h7⟩, h8, h10⟩, h11⟩ := hM
  obtain ⟨f1, f2, f3, f4, f5, f6, f7, f8⟩ := h3
  refine ⟨h1.mono hs, fu F 309 l, fun k => ?_, ⟨f1, f2, f3, f4, f5, f6, rfl, f8⟩, ⟨fun j j0 j1 i i0 i1 => ?_, ⟨?_, ?_, fun p p0 p1 hp i i0 i1 => ?_⟩, hT, fun i i0 i1 => ?_⟩, fun i hi => ?_⟩
  · by_cases e : k = 309
    · rw [e, h9, fu_at]
    · rw [hk k e, fu_ne e]; exact h2 k
  · rw [hr _ _ (by omega)]; exact h4 j j0 j1 i i0 i1
  · rw [hr _ _ (by omega)]; exact h5
  · rw [hr _ _ (by omega)]; exact h6
  · rw [hr _ _ (by omega)]; exact h7 p p0 p1 hp i i0 i1
  · rw [hr _ _ (by omega)]; exact h10 i i0 i1
  · rw [hr _ _ (by omega)]; exact h11 i hi
theorem MS.outp (hM : MS μ m A) (hs : SR μ μ') (hk : ∀ k, k ≠ 307 → gI μ' k m = gI μ k m) (h9 : gI μ' 307 m = ji l) (hr : ∀ a i, a ≠ m + 9 → aI μ' a i = aI μ a i) (hT : ∀ i, 0 ≤ i → i < l → aI μ' (m + 9) i.toNat = ji (O i)) : MS μ' m (A.1, A.2.1, A.2.2.1, A.2.2.2.1, A.2.2.2.2.1, A.2.2.2.2.2.1, (l, O)) := by
  obtain ⟨h1, F, h2, h3, ⟨h4, ⟨h5, h6, h7⟩, h8, h10⟩, h11⟩ := hM
  obtain ⟨f1, f2, f3, f4, f5, f6, f7, f8, f9, f10⟩ := h3
  refine ⟨h1.mono hs, fu F 307 l, fun k => ?_, ⟨f1, f2, f3, f4, f5, f6, f7, f8, f9, rfl⟩, ⟨fun j j0 j1 i i0 i1 => ?_, ⟨?_, ?_, fun p p0 p1 hp i i0 i1 => ?_⟩, fun i i0 i1 => ?_, hT⟩, fun i hi => ?_⟩
  · by_cases e : k = 307
    · rw [e, h9, fu_at]
    · rw [hk k e, fu_ne e]; exact h2 k
  · rw [hr _ _ (by omega)]; exact h4 j j0 j1 i i0 i1
  · rw [hr _ _ (by omega)]; exact h5
  · rw [hr _ _ (by omega)]; exact h6
  · rw [hr _ _ (by omega)]; exact h7 p p0 p1 hp i i0 i1
  · rw [hr _ _ (by omega)]; exact h8 i i0 i1
  · rw [hr _ _ (by omega)]; exact h11 i hi
/-- what is written at the text alone -/
def TXc (μ' μ : XM) (m : Nat) (l : Int) (T : Int → Int) : Prop := CH (inM m) μ' μ ∧ (∀ k, k ≠ 309 → gI μ' k m = gI μ k m) ∧ gI μ' 309 m = ji l ∧ (∀ a i, a ≠ m + 10 → aI μ' a i = aI μ a i) ∧ ∀ i, 0 ≤ i → i < l → aI μ' (m + 10) i.toNat &&& ji 255 = ji (T i)
theorem TXc.trans {a b c : XM} {l l' : Int} {T T' : Int → Int} (h : TXc c b m l' T') (g : TXc b a m l T) : TXc c a m l' T' := ⟨h.1.trans g.1, fun k hk => (h.2.1 k hk).trans (g.2.1 k hk), h.2.2.1, fun x i hx => (h.2.2.2.1 x i hx).trans (g.2.2.2.1 x i hx), h.2.2.2.2⟩
theorem f_appendBytes {v : Int32} (hS : RS μ m) (hl : gI μ 309 m = ji l) (hT : ∀ i, 0 ≤ i → i < l → aI μ (m + 10) i.toNat &&& ji 255 = ji (T i)) (l0 : 0 ≤ l) (l1 : l + 4 ≤ 1000) (hK : ∀ μ', TXc μ' μ m (l + 4) (apw T l v) → Q none μ') : s_X9_appendBytes μ [.ref m, .int v] Q X := by
  have step : ∀ (mf : Nat) (y : XM) (k : Int) (n : Int) (U : Int → Int), 0 ≤ k → k ≤ 24 → 0 ≤ n → n < 1000 → RS y m → TXc y μ m n U → (∀ z, RS z m → TXc z μ m (n + 1) (zu U n (byt v k)) → ln_X9_appendBytes_3 Q X mf [some (.ref m), some (.int v), some (.int (ji (k - 8)))] [] z 0 0) → ln_X9_appendBytes_3 Q X (mf + 1) [some (.ref m), some (.int v), some (.int (ji k))] [] y 0 0 := by
    intro mf y k n U k0 k1 n0 n1 hS hT hK
    obtain ⟨t1, t2, t3, t4, t5⟩ := hT
    have hb := byt_ok v k
    have t26 := fun i v => RS_0 (hS.mono (μ' := wI y (m + 10) i v) ⟨rfl, rfl, rfl, rfl⟩)
    have ek : k + -8 = k - 8 := by omega
    have g1 : ∀ i v, gI (wI y (m + 10) i v) 309 m = ji n := fun _ _ => t3
    rw [ul_X9_appendBytes_3]
    simp (disch := first | assumption | omega) only [RS_0, RS_1, RS_2, RS_3, RS_4, RS_5, RS_6, RS_7, RS_8, RS_9, RS_10, RS_11, RS_12, RS_13, RS_14, RS_15, RS_16, RS_17, RS_18, RS_19, RS_20, RS_21, RS_22, RS_23, RS_24, RS_25, RS_26, RS_27, RS_28, RS_29, RS_30, RS_31, RS_32, RS_33, RS_34, RS_35, RS_36, ji_add, ji_sub, ji_mul, ji_neg, ji_lit0, ji_ofNat, ji_lt, ji_le, ji_eq, ji_nat, ji_in, ji_rem, ji_div, jl_of, xl_lt, xl_gt, xl_eq, qV_at, qI_at, qJ_at, qD_at, qA_at, qA_no, nb0, nb1, cat_r, cat_i, Option.some.injEq, exists_eq_left', true_and, and_true, if_true, if_false, ite_not, not_true_eq_false, not_false_eq_true, Sum.inr.injEq, exists_eq_right', true_or, or_true, and_self, Int.cast_ofNat_Int, reduceCtorEq, or_false, false_or, false_and, and_false, jb_zero, lt7_0, lt7_1, lt7_2, lt7_3, lt7_4, lt7_5, lt7_6, t3, t26, g1, ek, Value.category, ↓reduceIte, ilt_t, ilt_f, ile_t, ile_f, ieq_t, ieq_f, jb_T, jb_F, jb_t, jb_f]
    refine Or.inr (hK _ (hS.mono ⟨rfl, rfl, rfl, rfl⟩) ⟨?_, fun q hq => ?_, gI_sI_at _ _ _ _, fun a i ha => ?_, fun i i0 i1 => ?_⟩)
    · exact ((t1.wI _ _ _ (by unfold inM; omega)).sI _ _ _ (by unfold inM; omega))
    · rw [gI_sI_k _ _ _ _ _ _ hq]; exact t2 q hq
    · show aI (wI y (m + 10) n.toNat _) a i = _
      rw [aI_wI_a _ _ _ _ _ _ ha]; exact t4 a i ha
    · show aI (wI y (m + 10) n.toNat (vp_nar .byte (jtob (jshr v (ji k))))) (m + 10) i.toNat &&& ji 255 = _
      by_cases he : i = n
      · rw [he, aI_wI_at, nar_byte, hb.1, zu_at]
      · rw [aI_wI_i _ _ _ _ _ _ (by omega), zu_ne he]
        exact t5 i i0 (by omega)
  rw [u_X9_appendBytes, l_X9_appendBytes_3, xseal_eq]
  refine step 9999 μ 24 l T (by omega) (by omega) l0 (by omega) hS ⟨CH.refl _ _, fun _ _ => rfl, hl, fun _ _ _ => rfl, hT⟩ (fun z1 L1 T1 => ?_)
  refine step 9998 z1 16 (l + 1) _ (by omega) (by omega) (by omega) (by omega) L1 T1 (fun z2 L2 T2 => ?_)
  refine step 9997 z2 8 (l + 1 + 1) _ (by omega) (by omega) (by omega) (by omega) L2 T2 (fun z3 L3 T3 => ?_)
  refine step 9996 z3 0 (l + 1 + 1 + 1) _ (by omega) (by omega) (by omega) (by omega) L3 T3 (fun z4 L4 T4 => ?_)
  have fin : ∀ mf, ln_X9_appendBytes_3 Q X (mf + 1) [some (.ref m), some (.int v), some (.int (ji (0 - 8)))] [] z4 0 0 := by
    intro mf
    rw [ul_X9_appendBytes_3]
    simp (disch := first | assumption | omega) only [RS_0, RS_1, RS_2, RS_3, RS_4, RS_5, RS_6, RS_7, RS_8, RS_9, RS_10, RS_11, RS_12, RS_13, RS_14, RS_15, RS_16, RS_17, RS_18, RS_19, RS_20, RS_21, RS_22, RS_23, RS_24, RS_25, RS_26, RS_27, RS_28, RS_29, RS_30, RS_31, RS_32, RS_33, RS_34, RS_35, RS_36, ji_add, ji_sub, ji_mul, ji_neg, ji_lit0, ji_ofNat, ji_lt, ji_le, ji_eq, ji_nat, ji_in, ji_rem, ji_div, jl_of, xl_lt, xl_gt, xl_eq, qV_at, qI_at, qJ_at, qD_at, qA_at, qA_no, nb0, nb1, cat_r, cat_i, Option.some.injEq, exists_eq_left', true_and, and_true, if_true, if_false, ite_not, not_true_eq_false, not_false_eq_true, Sum.inr.injEq, exists_eq_right', true_or, or_true, and_self, Int.cast_ofNat_Int, reduceCtorEq, or_false, false_or, false_and, and_false, jb_zero, lt7_0, lt7_1, lt7_2, lt7_3, lt7_4, lt7_5, lt7_6, ↓reduceIte, ilt_t, ilt_f, ile_t, ile_f, ieq_t, ieq_f, jb_T, jb_F, jb_t, jb_f]
    refine hK z4 ?_
    have e1 : l + 1 + 1 + 1 + 1 = l + 4 := by omega
    have e2 : l + 1 + 1 + 1 = l + 3 := by omega
    have e3 : l + 1 + 1 = l + 2 := by omega
    rw [e1, e2, e3] at T4
    exact T4
  exact fin 9995
theorem r_append {v0 v1 v2 v3 v4 : Int32} (hM : MS μ m A) (hi : INV A) (hQ : RP μ m Q (oApp A v0 v1 v2 v3 v4)) : s_X9_appendInput μ [.ref m, .int v0, .int v1, .int v2, .int v3, .int v4] Q X := by
  have hS := hM.1
  have hB := hi.1.1.1
  have hz := hB.z
  have hw := hB.1
  have hbz := hB.2.1
  rw [u_X9_appendInput]
  refine ⟨RS_0 hS, ?_⟩
  obtain ⟨hS1, hR1, hM1, h0, c⟩ := hM.nul hi
  generalize sI μ 298 m (ji 0) = ν at *
  have hl := hi.2.2.2.1
  have h9 : gI ν 309 m = ji A.2.2.2.2.1.1 := by
    obtain ⟨_, F, h2, h3, _⟩ := hM1
    rw [h2, h3.2.2.2.2.2.2.1]
  have hT := hM1.2.choose_spec.2.2.1.2.2.1
  unfold oApp at hQ
  by_cases h1 : 1000 < A.2.2.2.2.1.1 + 20
  · rw [if_pos h1] at hQ
    simp (disch := first | assumption | omega) only [RS_0, RS_1, RS_2, RS_3, RS_4, RS_5, RS_6, RS_7, RS_8, RS_9, RS_10, RS_11, RS_12, RS_13, RS_14, RS_15, RS_16, RS_17, RS_18, RS_19, RS_20, RS_21, RS_22, RS_23, RS_24, RS_25, RS_26, RS_27, RS_28, RS_29, RS_30, RS_31, RS_32, RS_33, RS_34, RS_35, RS_36, ji_add, ji_sub, ji_mul, ji_neg, ji_lit0, ji_ofNat, ji_lt, ji_le, ji_eq, ji_nat, ji_in, ji_rem, ji_div, jl_of, xl_lt, xl_gt, xl_eq, qV_at, qI_at, qJ_at, qD_at, qA_at, qA_no, nb0, nb1, cat_r, cat_i, Option.some.injEq, exists_eq_left', true_and, and_true, if_true, if_false, ite_not, not_true_eq_false, not_false_eq_true, Sum.inr.injEq, exists_eq_right', true_or, or_true, and_self, Int.cast_ofNat_Int, reduceCtorEq, or_false, false_or, false_and, and_false, jb_zero, lt7_0, lt7_1, lt7_2, lt7_3, lt7_4, lt7_5, lt7_6, h9, ↓reduceIte, ilt_t, ilt_f, ile_t, ile_f, ieq_t, ieq_f, jb_T, jb_F, jb_t, jb_f]
    exact hQ.a c hM1 h0
  · rw [if_neg h1] at hQ
    simp (disch := first | assumption | omega) only [RS_0, RS_1, RS_2, RS_3, RS_4, RS_5, RS_6, RS_7, RS_8, RS_9, RS_10, RS_11, RS_12, RS_13, RS_14, RS_15, RS_16, RS_17, RS_18, RS_19, RS_20, RS_21, RS_22, RS_23, RS_24, RS_25, RS_26, RS_27, RS_28, RS_29, RS_30, RS_31, RS_32, RS_33, RS_34, RS_35, RS_36, ji_add, ji_sub, ji_mul, ji_neg, ji_lit0, ji_ofNat, ji_lt, ji_le, ji_eq, ji_nat, ji_in, ji_rem, ji_div, jl_of, xl_lt, xl_gt, xl_eq, qV_at, qI_at, qJ_at, qD_at, qA_at, qA_no, nb0, nb1, cat_r, cat_i, Option.some.injEq, exists_eq_left', true_and, and_true, if_true, if_false, ite_not, not_true_eq_false, not_false_eq_true, Sum.inr.injEq, exists_eq_right', true_or, or_true, and_self, Int.cast_ofNat_Int, reduceCtorEq, or_false, false_or, false_and, and_false, jb_zero, lt7_0, lt7_1, lt7_2, lt7_3, lt7_4, lt7_5, lt7_6, h9, ↓reduceIte, ilt_t, ilt_f, ile_t, ile_f, ieq_t, ieq_f, jb_T, jb_F, jb_t, jb_f]
    refine f_appendBytes hS1 h9 hT hl.1 (by omega) (fun y1 T1 => ?_)
    have L1 := hS1.mono T1.1.1
    simp (disch := first | assumption | omega) only [RS_0, RS_1, RS_2, RS_3, RS_4, RS_5, RS_6, RS_7, RS_8, RS_9, RS_10, RS_11, RS_12, RS_13, RS_14, RS_15, RS_16, RS_17, RS_18, RS_19, RS_20, RS_21, RS_22, RS_23, RS_24, RS_25, RS_26, RS_27, RS_28, RS_29, RS_30, RS_31, RS_32, RS_33, RS_34, RS_35, RS_36, ji_add, ji_sub, ji_mul, ji_neg, ji_lit0, ji_ofNat, ji_lt, ji_le, ji_eq, ji_nat, ji_in, ji_rem, ji_div, jl_of, xl_lt, xl_gt, xl_eq, qV_at, qI_at, qJ_at, qD_at, qA_at, qA_no, nb0, nb1, cat_r, cat_i, Option.some.injEq, exists_eq_left', true_and, and_true, if_true, if_false, ite_not, not_true_eq_false, not_false_eq_true, Sum.inr.injEq, exists_eq_right', true_or, or_true, and_self, Int.cast_ofNat_Int, reduceCtorEq, or_false, false_or, false_and, and_false, jb_zero, lt7_0, lt7_1, lt7_2, lt7_3, lt7_4, lt7_5, lt7_6, c_X9_appendInput_1, c_X9_appendInput_2, c_X9_appendInput_3, c_X9_appendInput_4, c_X9_appendInput_5, ↓reduceIte, ilt_t, ilt_f, ile_t, ile_f, ieq_t, ieq_f, jb_T, jb_F, jb_t, jb_f]
    refine f_appendBytes L1 T1.2.2.1 T1.2.2.2.2 (by omega) (by omega) (fun y2 T2 => ?_)
    have L2 := L1.mono T2.1.1
    simp (disch := first | assumption | omega) only [RS_0, RS_1, RS_2, RS_3, RS_4, RS_5, RS_6, RS_7, RS_8, RS_9, RS_10, RS_11, RS_12, RS_13, RS_14, RS_15, RS_16, RS_17, RS_18, RS_19, RS_20, RS_21, RS_22, RS_23, RS_24, RS_25, RS_26, RS_27, RS_28, RS_29, RS_30, RS_31, RS_32, RS_33, RS_34, RS_35, RS_36, ji_add, ji_sub, ji_mul, ji_neg, ji_lit0, ji_ofNat, ji_lt, ji_le, ji_eq, ji_nat, ji_in, ji_rem, ji_div, jl_of, xl_lt, xl_gt, xl_eq, qV_at, qI_at, qJ_at, qD_at, qA_at, qA_no, nb0, nb1, cat_r, cat_i, Option.some.injEq, exists_eq_left', true_and, and_true, if_true, if_false, ite_not, not_true_eq_false, not_false_eq_true, Sum.inr.injEq, exists_eq_right', true_or, or_true, and_self, Int.cast_ofNat_Int, reduceCtorEq, or_false, false_or, false_and, and_false, jb_zero, lt7_0, lt7_1, lt7_2, lt7_3, lt7_4, lt7_5, lt7_6, c_X9_appendInput_1, c_X9_appendInput_2, c_X9_appendInput_3, c_X9_appendInput_4, c_X9_appendInput_5, ↓reduceIte, ilt_t, ilt_f, ile_t, ile_f, ieq_t, ieq_f, jb_T, jb_F, jb_t, jb_f]
    refine f_appendBytes L2 T2.2.2.1 T2.2.2.2.2 (by omega) (by omega) (fun y3 T3 => ?_)
    have L3 := L2.mono T3.1.1
    simp (disch := first | assumption | omega) only [RS_0, RS_1, RS_2, RS_3, RS_4, RS_5, RS_6, RS_7, RS_8, RS_9, RS_10, RS_11, RS_12, RS_13, RS_14, RS_15, RS_16, RS_17, RS_18, RS_19, RS_20, RS_21, RS_22, RS_23, RS_24, RS_25, RS_26, RS_27, RS_28, RS_29, RS_30, RS_31, RS_32, RS_33, RS_34, RS_35, RS_36, ji_add, ji_sub, ji_mul, ji_neg, ji_lit0, ji_ofNat, ji_lt, ji_le, ji_eq, ji_nat, ji_in, ji_rem, ji_div, jl_of, xl_lt, xl_gt, xl_eq, qV_at, qI_at, qJ_at, qD_at, qA_at, qA_no, nb0, nb1, cat_r, cat_i, Option.some.injEq, exists_eq_left', true_and, and_true, if_true, if_false, ite_not, not_true_eq_false, not_false_eq_true, Sum.inr.injEq, exists_eq_right', true_or, or_true, and_self, Int.cast_ofNat_Int, reduceCtorEq, or_false, false_or, false_and, and_false, jb_zero, lt7_0, lt7_1, lt7_2, lt7_3, lt7_4, lt7_5, lt7_6, c_X9_appendInput_1, c_X9_appendInput_2, c_X9_appendInput_3, c_X9_appendInput_4, c_X9_appendInput_5, ↓reduceIte, ilt_t, ilt_f, ile_t, ile_f, ieq_t, ieq_f, jb_T, jb_F, jb_t, jb_f]
    refine f_appendBytes L3 T3.2.2.1 T3.2.2.2.2 (by omega) (by omega) (fun y4 T4 => ?_)
    have L4 := L3.mono T4.1.1
    simp (disch := first | assumption | omega) only [RS_0, RS_1, RS_2, RS_3, RS_4, RS_5, RS_6, RS_7, RS_8, RS_9, RS_10, RS_11, RS_12, RS_13, RS_14, RS_15, RS_16, RS_17, RS_18, RS_19, RS_20, RS_21, RS_22, RS_23, RS_24, RS_25, RS_26, RS_27, RS_28, RS_29, RS_30, RS_31, RS_32, RS_33, RS_34, RS_35, RS_36, ji_add, ji_sub, ji_mul, ji_neg, ji_lit0, ji_ofNat, ji_lt, ji_le, ji_eq, ji_nat, ji_in, ji_rem, ji_div, jl_of, xl_lt, xl_gt, xl_eq, qV_at, qI_at, qJ_at, qD_at, qA_at, qA_no, nb0, nb1, cat_r, cat_i, Option.some.injEq, exists_eq_left', true_and, and_true, if_true, if_false, ite_not, not_true_eq_false, not_false_eq_true, Sum.inr.injEq, exists_eq_right', true_or, or_true, and_self, Int.cast_ofNat_Int, reduceCtorEq, or_false, false_or, false_and, and_false, jb_zero, lt7_0, lt7_1, lt7_2, lt7_3, lt7_4, lt7_5, lt7_6, c_X9_appendInput_1, c_X9_appendInput_2, c_X9_appendInput_3, c_X9_appendInput_4, c_X9_appendInput_5, ↓reduceIte, ilt_t, ilt_f, ile_t, ile_f, ieq_t, ieq_f, jb_T, jb_F, jb_t, jb_f]
    refine f_appendBytes L4 T4.2.2.1 T4.2.2.2.2 (by omega) (by omega) (fun y5 T5 => ?_)
    have L5 := L4.mono T5.1.1
    have T := T5.trans (T4.trans (T3.trans (T2.trans T1)))
    have e1 : A.2.2.2.2.1.1 + 4 + 4 = A.2.2.2.2.1.1 + 8 := by omega
    have e2 : A.2.2.2.2.1.1 + 8 + 4 = A.2.2.2.2.1.1 + 12 := by omega
    have e3 : A.2.2.2.2.1.1 + 12 + 4 = A.2.2.2.2.1.1 + 16 := by omega
    have e4 : A.2.2.2.2.1.1 + 16 + 4 = A.2.2.2.2.1.1 + 20 := by omega
    rw [e1, e2, e3, e4] at T
    obtain ⟨t1, t2, t3, t4, t5⟩ := T
    simp (disch := first | assumption | omega) only [RS_0, RS_1, RS_2, RS_3, RS_4, RS_5, RS_6, RS_7, RS_8, RS_9, RS_10, RS_11, RS_12, RS_13, RS_14, RS_15, RS_16, RS_17, RS_18, RS_19, RS_20, RS_21, RS_22, RS_23, RS_24, RS_25, RS_26, RS_27, RS_28, RS_29, RS_30, RS_31, RS_32, RS_33, RS_34, RS_35, RS_36, ji_add, ji_sub, ji_mul, ji_neg, ji_lit0, ji_ofNat, ji_lt, ji_le, ji_eq, ji_nat, ji_in, ji_rem, ji_div, jl_of, xl_lt, xl_gt, xl_eq, qV_at, qI_at, qJ_at, qD_at, qA_at, qA_no, nb0, nb1, cat_r, cat_i, Option.some.injEq, exists_eq_left', true_and, and_true, if_true, if_false, ite_not, not_true_eq_false, not_false_eq_true, Sum.inr.injEq, exists_eq_right', true_or, or_true, and_self, Int.cast_ofNat_Int, reduceCtorEq, or_false, false_or, false_and, and_false, jb_zero, lt7_0, lt7_1, lt7_2, lt7_3, lt7_4, lt7_5, lt7_6, c_X9_appendInput_1, c_X9_appendInput_2, c_X9_appendInput_3, c_X9_appendInput_4, c_X9_appendInput_5, t3, ↓reduceIte, ilt_t, ilt_f, ile_t, ile_f, ieq_t, ieq_f, jb_T, jb_F, jb_t, jb_f]
    exact hQ y5 (t1.trans c) (hM1.txt t1.1 t2 t3 t4 t5) ((t2 298 (by omega)).trans h0)
theorem r_trunc (hM : MS μ m A) (hi : INV A) {n : Int} (m0 : -2147483648 ≤ n) (m1 : n < 2147483648) (hQ : RP μ m Q (oTrunc A n)) : s_X9_truncateInput μ [.ref m, .int (ji n)] Q X := by
  have hS := hM.1
  have hB := hi.1.1.1
  have hz := hB.z
  have hw := hB.1
  have hbz := hB.2.1
  rw [u_X9_truncateInput]
  refine ⟨RS_0 hS, ?_⟩
  obtain ⟨hS1, hR1, hM1, h0, c⟩ := hM.nul hi
  generalize sI μ 298 m (ji 0) = ν at *
  have hl := hi.2.2.2.1
  have h9 : gI ν 309 m = ji A.2.2.2.2.1.1 := by
    obtain ⟨_, F, h2, h3, _⟩ := hM1
    rw [h2, h3.2.2.2.2.2.2.1]
  have hT := hM1.2.choose_spec.2.2.1.2.2.1
  unfold oTrunc at hQ
  by_cases h1 : 0 ≤ n ∧ n ≤ A.2.2.2.2.1.1
  · rw [if_pos h1] at hQ
    simp (disch := first | assumption | omega) only [RS_0, RS_1, RS_2, RS_3, RS_4, RS_5, RS_6, RS_7, RS_8, RS_9, RS_10, RS_11, RS_12, RS_13, RS_14, RS_15, RS_16, RS_17, RS_18, RS_19, RS_20, RS_21, RS_22, RS_23, RS_24, RS_25, RS_26, RS_27, RS_28, RS_29, RS_30, RS_31, RS_32, RS_33, RS_34, RS_35, RS_36, ji_add, ji_sub, ji_mul, ji_neg, ji_lit0, ji_ofNat, ji_lt, ji_le, ji_eq, ji_nat, ji_in, ji_rem, ji_div, jl_of, xl_lt, xl_gt, xl_eq, qV_at, qI_at, qJ_at, qD_at, qA_at, qA_no, nb0, nb1, cat_r, cat_i, Option.some.injEq, exists_eq_left', true_and, and_true, if_true, if_false, ite_not, not_true_eq_false, not_false_eq_true, Sum.inr.injEq, exists_eq_right', true_or, or_true, and_self, Int.cast_ofNat_Int, reduceCtorEq, or_false, false_or, false_and, and_false, jb_zero, lt7_0, lt7_1, lt7_2, lt7_3, lt7_4, lt7_5, lt7_6, h9, c_X9_truncateInput_1, f_inRange, h1, ↓reduceIte, ilt_t, ilt_f, ile_t, ile_f, ieq_t, ieq_f, jb_T, jb_F, jb_t, jb_f]
    exact hQ _ (c.sI _ _ _ (by unfold inM; omega)) (hM1.txt (l := n) (T := A.2.2.2.2.1.2) ⟨rfl, rfl, rfl, rfl⟩ (fun k hk => gI_sI_k _ _ _ _ _ _ hk) (gI_sI_at _ _ _ _) (fun _ _ _ => rfl) (fun i i0 i1 => hT i i0 (by omega))) ((gI_sI_k _ _ _ _ _ _ (by omega)).trans h0)
  · rw [if_neg h1] at hQ
    simp (disch := first | assumption | omega) only [RS_0, RS_1, RS_2, RS_3, RS_4, RS_5, RS_6, RS_7, RS_8, RS_9, RS_10, RS_11, RS_12, RS_13, RS_14, RS_15, RS_16, RS_17, RS_18, RS_19, RS_20, RS_21, RS_22, RS_23, RS_24, RS_25, RS_26, RS_27, RS_28, RS_29, RS_30, RS_31, RS_32, RS_33, RS_34, RS_35, RS_36, ji_add, ji_sub, ji_mul, ji_neg, ji_lit0, ji_ofNat, ji_lt, ji_le, ji_eq, ji_nat, ji_in, ji_rem, ji_div, jl_of, xl_lt, xl_gt, xl_eq, qV_at, qI_at, qJ_at, qD_at, qA_at, qA_no, nb0, nb1, cat_r, cat_i, Option.some.injEq, exists_eq_left', true_and, and_true, if_true, if_false, ite_not, not_true_eq_false, not_false_eq_true, Sum.inr.injEq, exists_eq_right', true_or, or_true, and_self, Int.cast_ofNat_Int, reduceCtorEq, or_false, false_or, false_and, and_false, jb_zero, lt7_0, lt7_1, lt7_2, lt7_3, lt7_4, lt7_5, lt7_6, h9, c_X9_truncateInput_1, f_inRange, jb_eqf h1, ↓reduceIte, ilt_t, ilt_f, ile_t, ile_f, ieq_t, ieq_f, jb_T, jb_F, jb_t, jb_f]
    exact hQ.a c hM1 h0
theorem r_errorCode (hM : MS μ m A) (hi : INV A) (hQ : RP μ m Q (A, (0, A.2.2.2.2.2.1.1))) : s_X9_errorCode μ [.ref m] Q X := by
  have hS := hM.1
  have hB := hi.1.1.1
  have hz := hB.z
  have hw := hB.1
  have hbz := hB.2.1
  rw [u_X9_errorCode]
  refine ⟨RS_0 hS, ?_⟩
  obtain ⟨hS1, hR1, hM1, h0, c⟩ := hM.nul hi
  generalize sI μ 298 m (ji 0) = ν at *
  have h9 : gI ν 311 m = ji A.2.2.2.2.2.1.1 := by
    obtain ⟨_, F, h2, h3, _⟩ := hM1
    rw [h2, h3.2.2.2.2.2.2.2.1]
  simp (disch := first | assumption | omega) only [RS_0, RS_1, RS_2, RS_3, RS_4, RS_5, RS_6, RS_7, RS_8, RS_9, RS_10, RS_11, RS_12, RS_13, RS_14, RS_15, RS_16, RS_17, RS_18, RS_19, RS_20, RS_21, RS_22, RS_23, RS_24, RS_25, RS_26, RS_27, RS_28, RS_29, RS_30, RS_31, RS_32, RS_33, RS_34, RS_35, RS_36, ji_add, ji_sub, ji_mul, ji_neg, ji_lit0, ji_ofNat, ji_lt, ji_le, ji_eq, ji_nat, ji_in, ji_rem, ji_div, jl_of, xl_lt, xl_gt, xl_eq, qV_at, qI_at, qJ_at, qD_at, qA_at, qA_no, nb0, nb1, cat_r, cat_i, Option.some.injEq, exists_eq_left', true_and, and_true, if_true, if_false, ite_not, not_true_eq_false, not_false_eq_true, Sum.inr.injEq, exists_eq_right', true_or, or_true, and_self, Int.cast_ofNat_Int, reduceCtorEq, or_false, false_or, false_and, and_false, jb_zero, lt7_0, lt7_1, lt7_2, lt7_3, lt7_4, lt7_5, lt7_6, h9, ↓reduceIte, ilt_t, ilt_f, ile_t, ile_f, ieq_t, ieq_f, jb_T, jb_F, jb_t, jb_f]
  exact hQ.a c hM1 h0
theorem r_errorPosition (hM : MS μ m A) (hi : INV A) (hQ : RP μ m Q (A, (0, A.2.2.2.2.2.1.2))) : s_X9_errorPosition μ [.ref m] Q X := by
  have hS := hM.1
  have hB := hi.1.1.1
  have hz := hB.z
  have hw := hB.1
  have hbz := hB.2.1
  rw [u_X9_errorPosition]
  refine ⟨RS_0 hS, ?_⟩
  obtain ⟨hS1, hR1, hM1, h0, c⟩ := hM.nul hi
  generalize sI μ 298 m (ji 0) = ν at *
  have h9 : gI ν 312 m = ji A.2.2.2.2.2.1.2 := by
    obtain ⟨_, F, h2, h3, _⟩ := hM1
    rw [h2, h3.2.2.2.2.2.2.2.2.1]
  simp (disch := first | assumption | omega) only [RS_0, RS_1, RS_2, RS_3, RS_4, RS_5, RS_6, RS_7, RS_8, RS_9, RS_10, RS_11, RS_12, RS_13, RS_14, RS_15, RS_16, RS_17, RS_18, RS_19, RS_20, RS_21, RS_22, RS_23, RS_24, RS_25, RS_26, RS_27, RS_28, RS_29, RS_30, RS_31, RS_32, RS_33, RS_34, RS_35, RS_36, ji_add, ji_sub, ji_mul, ji_neg, ji_lit0, ji_ofNat, ji_lt, ji_le, ji_eq, ji_nat, ji_in, ji_rem, ji_div, jl_of, xl_lt, xl_gt, xl_eq, qV_at, qI_at, qJ_at, qD_at, qA_at, qA_no, nb0, nb1, cat_r, cat_i, Option.some.injEq, exists_eq_left', true_and, and_true, if_true, if_false, ite_not, not_true_eq_false, not_false_eq_true, Sum.inr.injEq, exists_eq_right', true_or, or_true, and_self, Int.cast_ofNat_Int, reduceCtorEq, or_false, false_or, false_and, and_false, jb_zero, lt7_0, lt7_1, lt7_2, lt7_3, lt7_4, lt7_5, lt7_6, h9, ↓reduceIte, ilt_t, ilt_f, ile_t, ile_f, ieq_t, ieq_f, jb_T, jb_F, jb_t, jb_f]
  exact hQ.a c hM1 h0
theorem r_outputByte (hM : MS μ m A) (hi : INV A) {i : Int} (i0 : -2147483648 ≤ i) (i1 : i < 2147483648) (hQ : RP μ m Q (A, (0, vOut A i))) : s_X9_outputByte μ [.ref m, .int (ji i)] Q X := by
  have hS := hM.1
  have hB := hi.1.1.1
  have hz := hB.z
  have hw := hB.1
  have hbz := hB.2.1
  rw [u_X9_outputByte]
  refine ⟨RS_0 hS, ?_⟩
  obtain ⟨hS1, hR1, hM1, h0, c⟩ := hM.nul hi
  generalize sI μ 298 m (ji 0) = ν at *
  have ho := hi.2.2.2.2.2
  have h9 : gI ν 307 m = ji A.2.2.2.2.2.2.1 := by
    obtain ⟨_, F, h2, h3, _⟩ := hM1
    rw [h2, h3.2.2.2.2.2.2.2.2.2]
  have hO := hM1.2.choose_spec.2.2.1.2.2.2
  have hq := hQ.a c hM1 h0
  unfold vOut at hq
  by_cases h1 : 0 ≤ i ∧ i < A.2.2.2.2.2.2.1
  · have h2 : 0 ≤ i ∧ i ≤ A.2.2.2.2.2.2.1 - 1 := by omega
    have hv := hO i h1.1 h1.2
    rw [if_pos h1] at hq
    simp (disch := first | assumption | omega) only [RS_0, RS_1, RS_2, RS_3, RS_4, RS_5, RS_6, RS_7, RS_8, RS_9, RS_10, RS_11, RS_12, RS_13, RS_14, RS_15, RS_16, RS_17, RS_18, RS_19, RS_20, RS_21, RS_22, RS_23, RS_24, RS_25, RS_26, RS_27, RS_28, RS_29, RS_30, RS_31, RS_32, RS_33, RS_34, RS_35, RS_36, ji_add, ji_sub, ji_mul, ji_neg, ji_lit0, ji_ofNat, ji_lt, ji_le, ji_eq, ji_nat, ji_in, ji_rem, ji_div, jl_of, xl_lt, xl_gt, xl_eq, qV_at, qI_at, qJ_at, qD_at, qA_at, qA_no, nb0, nb1, cat_r, cat_i, Option.some.injEq, exists_eq_left', true_and, and_true, if_true, if_false, ite_not, not_true_eq_false, not_false_eq_true, Sum.inr.injEq, exists_eq_right', true_or, or_true, and_self, Int.cast_ofNat_Int, reduceCtorEq, or_false, false_or, false_and, and_false, jb_zero, lt7_0, lt7_1, lt7_2, lt7_3, lt7_4, lt7_5, lt7_6, h9, c_X9_outputByte_1, f_inRange, h2, hv, ↓reduceIte, ilt_t, ilt_f, ile_t, ile_f, ieq_t, ieq_f, jb_T, jb_F, jb_t, jb_f]
    exact hq
  · rw [if_neg h1] at hq
    have h2 : ¬ (0 ≤ i ∧ i ≤ A.2.2.2.2.2.2.1 - 1) := by omega
    simp (disch := first | assumption | omega) only [RS_0, RS_1, RS_2, RS_3, RS_4, RS_5, RS_6, RS_7, RS_8, RS_9, RS_10, RS_11, RS_12, RS_13, RS_14, RS_15, RS_16, RS_17, RS_18, RS_19, RS_20, RS_21, RS_22, RS_23, RS_24, RS_25, RS_26, RS_27, RS_28, RS_29, RS_30, RS_31, RS_32, RS_33, RS_34, RS_35, RS_36, ji_add, ji_sub, ji_mul, ji_neg, ji_lit0, ji_ofNat, ji_lt, ji_le, ji_eq, ji_nat, ji_in, ji_rem, ji_div, jl_of, xl_lt, xl_gt, xl_eq, qV_at, qI_at, qJ_at, qD_at, qA_at, qA_no, nb0, nb1, cat_r, cat_i, Option.some.injEq, exists_eq_left', true_and, and_true, if_true, if_false, ite_not, not_true_eq_false, not_false_eq_true, Sum.inr.injEq, exists_eq_right', true_or, or_true, and_self, Int.cast_ofNat_Int, reduceCtorEq, or_false, false_or, false_and, and_false, jb_zero, lt7_0, lt7_1, lt7_2, lt7_3, lt7_4, lt7_5, lt7_6, h9, c_X9_outputByte_1, f_inRange, jb_eqf h2, ↓reduceIte, ilt_t, ilt_f, ile_t, ile_f, ieq_t, ieq_f, jb_T, jb_F, jb_t, jb_f]
    exact hq
/-- what a mean is answered with -/
def RD (μ : XM) (m : Nat) (Q : XQ) (A : AS) : Prop := ∀ μ' (v : UInt64), CH (inM m) μ' μ → MS μ' m A → gI μ' 298 m = ji (if (mhf A.2.1).2 = 0 then 1 else 0) → (¬ (mhf A.2.1).2 = 0 → v = dvq (mhf A.2.1).1 (mhf A.2.1).2) → Q (some (.double v)) μ'
theorem r_meanHops (hM : MS μ m A) (hi : INV A) (hQ : RD μ m Q A) : s_X9_meanHops μ [.ref m] Q X := by
  have hS := hM.1
  have hB := hi.1.1.1
  have hz := hB.z
  have hw := hB.1
  have hbz := hB.2.1
  rw [u_X9_meanHops]
  refine ⟨RS_0 hS, ?_⟩
  obtain ⟨hS1, hR1, hM1, h0, c⟩ := hM.nul hi
  generalize sI μ 298 m (ji 0) = ν at *
  rw [g_meanHops hS1 hR1 hB]
  unfold mhS
  by_cases h1 : (mhf A.2.1).2 = 0
  · rw [if_pos h1]
    exact hQ _ _ (c.sI _ _ _ (by unfold inM; omega)) (hM1.t 1) (by rw [if_pos h1]; exact gI_sI_at _ _ _ _) (fun q => absurd h1 q)
  · rw [if_neg h1]
    exact hQ _ _ c hM1 (by rw [if_neg h1]; exact h0) (fun _ => rfl)
end
