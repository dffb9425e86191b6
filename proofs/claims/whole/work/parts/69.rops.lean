/-! ===== the reference: what it holds of the state ===== -/
theorem pzf_g {μ : XM} {m k : Nat} {F : Nat → Int} {Z : Int → Int} : gI (pz (pf μ m F) m Z) k m = ji (F k) := by rw [pz_gI]; exact if_pos rfl
abbrev inM (m a : Nat) : Prop := m ≤ a ∧ a < m + 11
/-- its int fields -/
def RF (F : Nat → Int) (A : AS) : Prop := F 292 = A.1.1 ∧ F 293 = A.1.2.1 ∧ F 294 = A.1.2.2.2 ∧ F 291 = A.2.2.1.1 ∧ 0 ≤ F 290 ∧ F 290 < 12 ∧ F 309 = A.2.2.2.2.1.1 ∧ F 311 = A.2.2.2.2.2.1.1 ∧ F 312 = A.2.2.2.2.2.1.2 ∧ F 307 = A.2.2.2.2.2.2.1
/-- its rows, but the present block -/
def RM (μ : XM) (m : Nat) (f : Int) (A : AS) : Prop := (∀ j, 0 ≤ j → j < A.2.2.1.1 → ∀ i, 0 ≤ i → i < 5666 → aI μ (m + 1) (5666 * (3 + (f + j) % 12) + i).toNat = ji (A.2.2.1.2 j i)) ∧ (aI μ (m + 2) 0 = ji (if A.2.2.2.1.1 0 = true then 1 else 0) ∧ aI μ (m + 2) 1 = ji (if A.2.2.2.1.1 1 = true then 1 else 0) ∧ ∀ p, 0 ≤ p → p < 2 → A.2.2.2.1.1 p = true → ∀ i, 0 ≤ i → i < 5666 → aI μ (m + 1) (5666 * (1 + p) + i).toNat = ji (A.2.2.2.1.2 p i)) ∧ (∀ i, 0 ≤ i → i < A.2.2.2.2.1.1 → aI μ (m + 10) i.toNat &&& ji 255 = ji (A.2.2.2.2.1.2 i)) ∧ ∀ i, 0 ≤ i → i < A.2.2.2.2.2.2.1 → aI μ (m + 9) i.toNat = ji (A.2.2.2.2.2.2.2 i)
def MS (μ : XM) (m : Nat) (A : AS) : Prop := RS μ m ∧ ∃ F, (∀ k, gI μ k m = ji (F k)) ∧ RF F A ∧ RM μ m (F 290) A ∧ ∀ i : Nat, i < 5666 → aI μ (m + 1) i = ji (A.2.1 i)
/-- the reference does it -/
def RQ (μ : XM) (m : Nat) (Q : XQ) (r : AR) : Prop := ∀ μ' v, CH (inM m) μ' μ → MS μ' m r.1 → gI μ' 298 m = ji r.2.1 → (r.2.1 = 0 → v = r.2.2) → Q (some (.int (ji v))) μ'
def RP (μ : XM) (m : Nat) (Q : XQ) (r : AR) : Prop := ∀ μ', CH (inM m) μ' μ → MS μ' m r.1 → gI μ' 298 m = ji 0 → Q (some (.int (ji r.2.2))) μ'
section
variable {μ μ' : XM} {m : Nat} {Q : XQ} {X : XX} {A : AS} {F : Nat → Int} {Z Y : Int → Int} {w h N s : Int} {C : Nat → Prop}
theorem MS.get (h : MS μ m A) : ∃ F, RF F A ∧ RM μ m (F 290) A ∧ pz (pf μ m F) m A.2.1 = μ ∧ RS μ m := by
  obtain ⟨h1, F, h2, h3, h4, h5⟩ := h
  exact ⟨F, h3, h4, by rw [pf_id h2, pz_id h5], h1⟩
theorem pz_o {a i : Nat} (h : a ≠ m + 1 ∨ 5666 ≤ i) : aI (pz μ m Z) a i = aI μ a i := if_neg (by omega)
theorem RM.fz (h : RM μ m (F 290) A) : RM (pz (pf μ m F) m Z) m (F 290) A := by
  obtain ⟨h1, ⟨h2, h3, h4⟩, h5, h6⟩ := h
  refine ⟨fun j j0 j1 i i0 i1 => ?_, ⟨?_, ?_, fun p p0 p1 hp i i0 i1 => ?_⟩, fun i i0 i1 => ?_, fun i i0 i1 => ?_⟩
  · rw [pz_o (by omega), pf_aI]; exact h1 j j0 j1 i i0 i1
  · rw [pz_o (by omega), pf_aI]; exact h2
  · rw [pz_o (by omega), pf_aI]; exact h3
  · rw [pz_o (by omega), pf_aI]; exact h4 p p0 p1 hp i i0 i1
  · rw [pz_o (by omega), pf_aI]; exact h5 i i0 i1
  · rw [pz_o (by omega), pf_aI]; exact h6 i i0 i1
theorem MS.mk (hS : RS μ m) (hF : RF F A) (hM : RM μ m (F 290) A) : MS (pz (pf μ m F) m A.2.1) m A := ⟨RS_pz (RS_pf hS _) _, F, fun _ => pzf_g, hF, hM.fz, fun _ hi => pz_at hi⟩
theorem RF.t (h : RF F A) (t : Int) : RF (fu F 298 t) A := h
theorem RF.b (h : RF F A) : RB (pf μ m F) m A.1.1 A.1.2.1 A.1.2.2.2 := RB_pf h.1 h.2.1 h.2.2.1
theorem CH.fz {ν : XM} (h : CH C ν μ) (hc : C (m + 1)) : CH C (pz ν m Z) μ := ⟨h.1.trans ⟨rfl, rfl, rfl, rfl⟩, fun a ha => by
  obtain ⟨h1, h2, h3, h4, h5⟩ := h.2 a ha
  exact ⟨h1, h2, fun i => (pz_ne (fun e : a = m + 1 => ha (by rw [e]; exact hc))).trans (h3 i), h4, h5⟩⟩
theorem CH.ff {ν : XM} (h : CH C ν μ) (hc : C m) : CH C (pf ν m F) μ := ⟨h.1.trans ⟨rfl, rfl, rfl, rfl⟩, fun a ha => by
  obtain ⟨h1, h2, h3, h4, h5⟩ := h.2 a ha
  exact ⟨fun k => (pf_ne (fun e : a = m => ha (by rw [e]; exact hc))).trans (h1 k), h2, h3, h4, h5⟩⟩
theorem CH.fw {ν : XM} {a : Nat} {c : Int} {d : Nat} {f : Int → Int32} (h : CH C ν μ) (hc : C a) : CH C (wr ν a c d f) μ := ⟨h.1.trans ⟨rfl, rfl, rfl, rfl⟩, fun b hb => by
  obtain ⟨h1, h2, h3, h4, h5⟩ := h.2 b hb
  exact ⟨h1, h2, fun i => (wr_a (fun e : b = a => hb (by rw [e]; exact hc))).trans (h3 i), h4, h5⟩⟩
/-- the memory of the reference, changed in its fields, its present block and one block behind -/
theorem CH.all {b : Int} {U : Int → Int} : CH (inM m) (pz (pf (pb μ m b U) m F) m Z) μ := CH.fz (CH.ff (CH.fw (CH.refl _ _) (by unfold inM; omega)) (by unfold inM; omega)) (by unfold inM; omega)
theorem CH.all0 : CH (inM m) (pz (pf μ m F) m Z) μ := CH.fz (CH.ff (CH.refl _ _) (by unfold inM; omega)) (by unfold inM; omega)
theorem MS.frame (h : MS μ m A) (hc : CH C μ' μ) (hs : ∀ a, m ≤ a → a < m + 13 → ¬ C a) : MS μ' m A := by
  obtain ⟨h1, F, h2, h3, ⟨h4, ⟨h5, h6, h7⟩, h8, h9⟩, h10⟩ := h
  have g0 := hc.2 m (hs _ (by omega) (by omega))
  have g1 := (hc.2 (m + 1) (hs _ (by omega) (by omega))).2.2.1
  have g2 := (hc.2 (m + 2) (hs _ (by omega) (by omega))).2.2.1
  have g9 := (hc.2 (m + 9) (hs _ (by omega) (by omega))).2.2.1
  have g10 := (hc.2 (m + 10) (hs _ (by omega) (by omega))).2.2.1
  refine ⟨h1.mono hc.1, F, fun k => (g0.1 k).trans (h2 k), h3, ⟨fun j j0 j1 i i0 i1 => ?_, ⟨?_, ?_, fun p p0 p1 hp i i0 i1 => ?_⟩, fun i i0 i1 => ?_, fun i i0 i1 => ?_⟩, fun i hi => ?_⟩
  · rw [g1]; exact h4 j j0 j1 i i0 i1
  · rw [g2]; exact h5
  · rw [g2]; exact h6
  · rw [g1]; exact h7 p p0 p1 hp i i0 i1
  · rw [g10]; exact h8 i i0 i1
  · rw [g9]; exact h9 i i0 i1
  · rw [g1]; exact h10 i hi
theorem f_throwsIf (hS : RS μ m) {b k : Int} (hb : b = 0 ∨ b = 1) : s_X9_throwsIf (pz (pf μ m F) m Z) [.ref m, .int (ji b), .int (ji k)] Q X = Q (some (.int (ji b))) (pz (pf μ m (if b = 0 then F else fu F 298 k)) m Z) := by
  rcases hb with rfl | rfl
  · simp (disch := first | assumption | omega) only [RS_0, RS_1, RS_2, RS_3, RS_4, RS_5, RS_6, RS_7, RS_8, RS_9, RS_10, RS_11, RS_12, RS_13, RS_14, RS_15, RS_16, RS_17, RS_18, RS_19, RS_20, RS_21, RS_22, RS_23, RS_24, RS_25, RS_26, RS_27, RS_28, RS_29, RS_30, RS_31, RS_32, RS_33, RS_34, RS_35, RS_36, ji_add, ji_sub, ji_mul, ji_neg, ji_lit0, ji_ofNat, ji_lt, ji_le, ji_eq, ji_nat, ji_in, ji_rem, ji_div, jl_of, xl_lt, xl_gt, xl_eq, qV_at, qI_at, qJ_at, qD_at, qA_at, qA_no, nb0, nb1, cat_r, cat_i, Option.some.injEq, exists_eq_left', true_and, and_true, if_true, if_false, ite_not, not_true_eq_false, not_false_eq_true, Sum.inr.injEq, exists_eq_right', true_or, or_true, and_self, Int.cast_ofNat_Int, reduceCtorEq, or_false, false_or, false_and, and_false, jb_zero, lt7_0, lt7_1, lt7_2, lt7_3, lt7_4, lt7_5, lt7_6, u_X9_throwsIf, nb0, pz_tg, pz_ln, pz_gI, pz_gL, pz_gR, pz_aR, pz_aL, pz_aD, pzf_w, pzf_g, pf_w, pf_tg, pf_ln, pf_gR, pf_aI, pf_aR, pf_gL, ↓reduceIte, ilt_t, ilt_f, ile_t, ile_f, ieq_t, ieq_f, jb_T, jb_F, jb_t, jb_f]
  · simp (disch := first | assumption | omega) only [RS_0, RS_1, RS_2, RS_3, RS_4, RS_5, RS_6, RS_7, RS_8, RS_9, RS_10, RS_11, RS_12, RS_13, RS_14, RS_15, RS_16, RS_17, RS_18, RS_19, RS_20, RS_21, RS_22, RS_23, RS_24, RS_25, RS_26, RS_27, RS_28, RS_29, RS_30, RS_31, RS_32, RS_33, RS_34, RS_35, RS_36, ji_add, ji_sub, ji_mul, ji_neg, ji_lit0, ji_ofNat, ji_lt, ji_le, ji_eq, ji_nat, ji_in, ji_rem, ji_div, jl_of, xl_lt, xl_gt, xl_eq, qV_at, qI_at, qJ_at, qD_at, qA_at, qA_no, nb0, nb1, cat_r, cat_i, Option.some.injEq, exists_eq_left', true_and, and_true, if_true, if_false, ite_not, not_true_eq_false, not_false_eq_true, Sum.inr.injEq, exists_eq_right', true_or, or_true, and_self, Int.cast_ofNat_Int, reduceCtorEq, or_false, false_or, false_and, and_false, jb_zero, lt7_0, lt7_1, lt7_2, lt7_3, lt7_4, lt7_5, lt7_6, u_X9_throwsIf, nb1, pz_tg, pz_ln, pz_gI, pz_gL, pz_gR, pz_aR, pz_aL, pz_aD, pzf_w, pzf_g, pf_w, pf_tg, pf_ln, pf_gR, pf_aI, pf_aR, pf_gL, ↓reduceIte, ilt_t, ilt_f, ile_t, ile_f, ieq_t, ieq_f, jb_T, jb_F, jb_t, jb_f]
theorem f_t0 (hS : RS μ m) {k : Int} : s_X9_throwsIf (pz (pf μ m F) m Z) [.ref m, .int (ji 0), .int (ji k)] Q X = Q (some (.int (ji 0))) (pz (pf μ m F) m Z) := f_throwsIf hS (Or.inl rfl)
theorem f_t1 (hS : RS μ m) {k : Int} : s_X9_throwsIf (pz (pf μ m F) m Z) [.ref m, .int (ji 1), .int (ji k)] Q X = Q (some (.int (ji 1))) (pz (pf μ m (fu F 298 k)) m Z) := f_throwsIf hS (Or.inr rfl)
theorem f_isNodeA (hS : RS μ m) (hF : RF F A) (hi : INV A) {z : Int} (z1 : -2147483648 ≤ z) (z2 : z < 2147483648) : s_X9_isNode (pz (pf μ m F) m Z) [.ref m, .int (ji z)] Q X = Q (some (.int (jb (0 ≤ z ∧ z < A.1.2.2.1)))) (pz (pf μ m F) m Z) := by
  have hz := hi.1.1.1.z
  have hz' := hz
  unfold SZ at hz'
  exact f_isNode (RS_pz (RS_pf hS _) _) (RW_pz (RF.b hF) Z) hz.g.2.2.2.2.2.2 (by omega) z1 z2
theorem f_noTwo (hS : RS μ m) (hF : RF F A) (hi : INV A) {a b : Int} (a0 : -2147483648 ≤ a) (a1 : a < 2147483648) (b0 : -2147483648 ≤ b) (b1 : b < 2147483648) : s_X9_noTwo (pz (pf μ m F) m Z) [.ref m, .int (ji a), .int (ji b)] Q X = if (0 ≤ a ∧ a < A.1.2.2.1) ∧ 0 ≤ b ∧ b < A.1.2.2.1 then Q (some (.int (ji 0))) (pz (pf μ m F) m Z) else Q (some (.int (ji 1))) (pz (pf μ m (fu F 298 1)) m Z) := by
  have n1 := fun Q X => f_isNodeA (Q := Q) (X := X) (Z := Z) hS hF hi a0 a1
  have n2 := fun Q X => f_isNodeA (Q := Q) (X := X) (Z := Z) hS hF hi b0 b1
  by_cases h1 : 0 ≤ a ∧ a < A.1.2.2.1
  · rw [jb_t _ h1] at n1
    by_cases h2 : 0 ≤ b ∧ b < A.1.2.2.1
    · rw [jb_t _ h2] at n2
      rw [if_pos ⟨h1, h2⟩]
      simp (disch := first | assumption | omega) only [RS_0, RS_1, RS_2, RS_3, RS_4, RS_5, RS_6, RS_7, RS_8, RS_9, RS_10, RS_11, RS_12, RS_13, RS_14, RS_15, RS_16, RS_17, RS_18, RS_19, RS_20, RS_21, RS_22, RS_23, RS_24, RS_25, RS_26, RS_27, RS_28, RS_29, RS_30, RS_31, RS_32, RS_33, RS_34, RS_35, RS_36, ji_add, ji_sub, ji_mul, ji_neg, ji_lit0, ji_ofNat, ji_lt, ji_le, ji_eq, ji_nat, ji_in, ji_rem, ji_div, jl_of, xl_lt, xl_gt, xl_eq, qV_at, qI_at, qJ_at, qD_at, qA_at, qA_no, nb0, nb1, cat_r, cat_i, Option.some.injEq, exists_eq_left', true_and, and_true, if_true, if_false, ite_not, not_true_eq_false, not_false_eq_true, Sum.inr.injEq, exists_eq_right', true_or, or_true, and_self, Int.cast_ofNat_Int, reduceCtorEq, or_false, false_or, false_and, and_false, jb_zero, lt7_0, lt7_1, lt7_2, lt7_3, lt7_4, lt7_5, lt7_6, c_X9_noTwo_1, c_X9_noTwo_2, c_X9_noTwo_3, c_X9_noTwo_4, c_X9_noTwo_5, u_X9_noTwo, n1, n2, f_t0 hS, nb0, pz_tg, pz_ln, pz_gI, pz_gL, pz_gR, pz_aR, pz_aL, pz_aD, pzf_w, pzf_g, pf_w, pf_tg, pf_ln, pf_gR, pf_aI, pf_aR, pf_gL, ↓reduceIte, ilt_t, ilt_f, ile_t, ile_f, ieq_t, ieq_f, jb_T, jb_F, jb_t, jb_f]
    · rw [jb_f _ h2] at n2
      rw [if_neg (fun q => h2 q.2)]
      simp (disch := first | assumption | omega) only [RS_0, RS_1, RS_2, RS_3, RS_4, RS_5, RS_6, RS_7, RS_8, RS_9, RS_10, RS_11, RS_12, RS_13, RS_14, RS_15, RS_16, RS_17, RS_18, RS_19, RS_20, RS_21, RS_22, RS_23, RS_24, RS_25, RS_26, RS_27, RS_28, RS_29, RS_30, RS_31, RS_32, RS_33, RS_34, RS_35, RS_36, ji_add, ji_sub, ji_mul, ji_neg, ji_lit0, ji_ofNat, ji_lt, ji_le, ji_eq, ji_nat, ji_in, ji_rem, ji_div, jl_of, xl_lt, xl_gt, xl_eq, qV_at, qI_at, qJ_at, qD_at, qA_at, qA_no, nb0, nb1, cat_r, cat_i, Option.some.injEq, exists_eq_left', true_and, and_true, if_true, if_false, ite_not, not_true_eq_false, not_false_eq_true, Sum.inr.injEq, exists_eq_right', true_or, or_true, and_self, Int.cast_ofNat_Int, reduceCtorEq, or_false, false_or, false_and, and_false, jb_zero, lt7_0, lt7_1, lt7_2, lt7_3, lt7_4, lt7_5, lt7_6, c_X9_noTwo_1, c_X9_noTwo_2, c_X9_noTwo_3, c_X9_noTwo_4, c_X9_noTwo_5, u_X9_noTwo, n1, n2, f_t1 hS, nb1, pz_tg, pz_ln, pz_gI, pz_gL, pz_gR, pz_aR, pz_aL, pz_aD, pzf_w, pzf_g, pf_w, pf_tg, pf_ln, pf_gR, pf_aI, pf_aR, pf_gL, ↓reduceIte, ilt_t, ilt_f, ile_t, ile_f, ieq_t, ieq_f, jb_T, jb_F, jb_t, jb_f]
  · rw [jb_f _ h1] at n1
    rw [if_neg (fun q => h1 q.1)]
    simp (disch := first | assumption | omega) only [RS_0, RS_1, RS_2, RS_3, RS_4, RS_5, RS_6, RS_7, RS_8, RS_9, RS_10, RS_11, RS_12, RS_13, RS_14, RS_15, RS_16, RS_17, RS_18, RS_19, RS_20, RS_21, RS_22, RS_23, RS_24, RS_25, RS_26, RS_27, RS_28, RS_29, RS_30, RS_31, RS_32, RS_33, RS_34, RS_35, RS_36, ji_add, ji_sub, ji_mul, ji_neg, ji_lit0, ji_ofNat, ji_lt, ji_le, ji_eq, ji_nat, ji_in, ji_rem, ji_div, jl_of, xl_lt, xl_gt, xl_eq, qV_at, qI_at, qJ_at, qD_at, qA_at, qA_no, nb0, nb1, cat_r, cat_i, Option.some.injEq, exists_eq_left', true_and, and_true, if_true, if_false, ite_not, not_true_eq_false, not_false_eq_true, Sum.inr.injEq, exists_eq_right', true_or, or_true, and_self, Int.cast_ofNat_Int, reduceCtorEq, or_false, false_or, false_and, and_false, jb_zero, lt7_0, lt7_1, lt7_2, lt7_3, lt7_4, lt7_5, lt7_6, c_X9_noTwo_1, c_X9_noTwo_2, c_X9_noTwo_3, c_X9_noTwo_4, c_X9_noTwo_5, u_X9_noTwo, n1, f_t1 hS, nb1, pz_tg, pz_ln, pz_gI, pz_gL, pz_gR, pz_aR, pz_aL, pz_aD, pzf_w, pzf_g, pf_w, pf_tg, pf_ln, pf_gR, pf_aI, pf_aR, pf_gL, ↓reduceIte, ilt_t, ilt_f, ile_t, ile_f, ieq_t, ieq_f, jb_T, jb_F, jb_t, jb_f]
/-! steps back -/
theorem pb_pf {b : Int} {U : Int → Int} : pb (pf μ m F) m b U = pf (pb μ m b U) m F := rfl
def kF (F : Nat → Int) : Nat → Int := if F 291 = 12 then fu (fu (fu F 290 ((F 290 + 1) % 12)) 291 11) 291 12 else fu F 291 (F 291 + 1)
def kB (f n : Int) : Int := if n = 12 then 3 + ((f + 1) % 12 + 11) % 12 else 3 + (f + n) % 12
theorem f_keep32 (hS : RS μ m) (n0 : 0 ≤ F 291) (n1 : F 291 < 12) (f0 : 0 ≤ F 290) (f1 : F 290 < 12) : j_X9_keep_32 Q X [some (.ref m)] [] (pz (pf μ m F) m Z) 0 0 = Q none (pz (pf (pb μ m (3 + (F 290 + F 291) % 12) Z) m (fu F 291 (F 291 + 1))) m Z) := by
  have e := fun Q X => f_copyTo (Q := Q) (X := X) (Z := Z) (b := 3 + (F 290 + F 291) % 12) (RS_pf hS F) (by omega) (by omega)
  simp only [pb_pf] at e
  have hS' := RS_pb hS (3 + (F 290 + F 291) % 12) Z
  simp (disch := first | assumption | omega) only [RS_0, RS_1, RS_2, RS_3, RS_4, RS_5, RS_6, RS_7, RS_8, RS_9, RS_10, RS_11, RS_12, RS_13, RS_14, RS_15, RS_16, RS_17, RS_18, RS_19, RS_20, RS_21, RS_22, RS_23, RS_24, RS_25, RS_26, RS_27, RS_28, RS_29, RS_30, RS_31, RS_32, RS_33, RS_34, RS_35, RS_36, ji_add, ji_sub, ji_mul, ji_neg, ji_lit0, ji_ofNat, ji_lt, ji_le, ji_eq, ji_nat, ji_in, ji_rem, ji_div, jl_of, xl_lt, xl_gt, xl_eq, qV_at, qI_at, qJ_at, qD_at, qA_at, qA_no, nb0, nb1, cat_r, cat_i, Option.some.injEq, exists_eq_left', true_and, and_true, if_true, if_false, ite_not, not_true_eq_false, not_false_eq_true, Sum.inr.injEq, exists_eq_right', true_or, or_true, and_self, Int.cast_ofNat_Int, reduceCtorEq, or_false, false_or, false_and, and_false, jb_zero, lt7_0, lt7_1, lt7_2, lt7_3, lt7_4, lt7_5, lt7_6, uj_X9_keep_32, c_X9_keep_1, uj_X9_keep_32, e, pz_tg, pz_ln, pz_gI, pz_gL, pz_gR, pz_aR, pz_aL, pz_aD, pzf_w, pzf_g, pf_w, pf_tg, pf_ln, pf_gR, pf_aI, pf_aR, pf_gL, ↓reduceIte, ilt_t, ilt_f, ile_t, ile_f, ieq_t, ieq_f, jb_T, jb_F, jb_t, jb_f]
theorem f_keep (hS : RS μ m) (n0 : 0 ≤ F 291) (n1 : F 291 ≤ 12) (f0 : 0 ≤ F 290) (f1 : F 290 < 12) : s_X9_keep (pz (pf μ m F) m Z) [.ref m] Q X = Q none (pz (pf (pb μ m (kB (F 290) (F 291)) Z) m (kF F)) m Z) := by
  by_cases hn : F 291 = 12
  · have e1 : kF F = fu (fu (fu F 290 ((F 290 + 1) % 12)) 291 11) 291 12 := if_pos hn
    have e2 : kB (F 290) (F 291) = 3 + ((F 290 + 1) % 12 + 11) % 12 := if_pos hn
    have g1 : fu F 290 ((F 290 + 1) % 12) 291 = 12 := hn
    have hk := fun Q X => f_keep32 (Q := Q) (X := X) (Z := Z) (F := fu (fu F 290 ((F 290 + 1) % 12)) 291 11) hS (by show (0 : Int) ≤ 11; omega) (by show (11 : Int) < 12; omega) (by show 0 ≤ (F 290 + 1) % 12; omega) (by show (F 290 + 1) % 12 < 12; omega)
    have hk' : ∀ Q X, j_X9_keep_32 Q X [some (.ref m)] [] (pz (pf μ m (fu (fu F 290 ((F 290 + 1) % 12)) 291 11)) m Z) 0 0 = Q none (pz (pf (pb μ m (3 + ((F 290 + 1) % 12 + 11) % 12) Z) m (fu (fu (fu F 290 ((F 290 + 1) % 12)) 291 11) 291 12)) m Z) := hk
    have e12 : (12 : Int) - 1 = 11 := rfl
    rw [e1, e2]
    simp (disch := first | assumption | omega) only [RS_0, RS_1, RS_2, RS_3, RS_4, RS_5, RS_6, RS_7, RS_8, RS_9, RS_10, RS_11, RS_12, RS_13, RS_14, RS_15, RS_16, RS_17, RS_18, RS_19, RS_20, RS_21, RS_22, RS_23, RS_24, RS_25, RS_26, RS_27, RS_28, RS_29, RS_30, RS_31, RS_32, RS_33, RS_34, RS_35, RS_36, ji_add, ji_sub, ji_mul, ji_neg, ji_lit0, ji_ofNat, ji_lt, ji_le, ji_eq, ji_nat, ji_in, ji_rem, ji_div, jl_of, xl_lt, xl_gt, xl_eq, qV_at, qI_at, qJ_at, qD_at, qA_at, qA_no, nb0, nb1, cat_r, cat_i, Option.some.injEq, exists_eq_left', true_and, and_true, if_true, if_false, ite_not, not_true_eq_false, not_false_eq_true, Sum.inr.injEq, exists_eq_right', true_or, or_true, and_self, Int.cast_ofNat_Int, reduceCtorEq, or_false, false_or, false_and, and_false, jb_zero, lt7_0, lt7_1, lt7_2, lt7_3, lt7_4, lt7_5, lt7_6, u_X9_keep, hn, g1, e12, hk', Value.category, pz_tg, pz_ln, pz_gI, pz_gL, pz_gR, pz_aR, pz_aL, pz_aD, pzf_w, pzf_g, pf_w, pf_tg, pf_ln, pf_gR, pf_aI, pf_aR, pf_gL, ↓reduceIte, ilt_t, ilt_f, ile_t, ile_f, ieq_t, ieq_f, jb_T, jb_F, jb_t, jb_f]
  · have e1 : kF F = fu F 291 (F 291 + 1) := if_neg hn
    have e2 : kB (F 290) (F 291) = 3 + (F 290 + F 291) % 12 := if_neg hn
    have hk := fun Q X => f_keep32 (Q := Q) (X := X) (Z := Z) hS n0 (by omega) f0 f1
    rw [e1, e2]
    simp (disch := first | assumption | omega) only [RS_0, RS_1, RS_2, RS_3, RS_4, RS_5, RS_6, RS_7, RS_8, RS_9, RS_10, RS_11, RS_12, RS_13, RS_14, RS_15, RS_16, RS_17, RS_18, RS_19, RS_20, RS_21, RS_22, RS_23, RS_24, RS_25, RS_26, RS_27, RS_28, RS_29, RS_30, RS_31, RS_32, RS_33, RS_34, RS_35, RS_36, ji_add, ji_sub, ji_mul, ji_neg, ji_lit0, ji_ofNat, ji_lt, ji_le, ji_eq, ji_nat, ji_in, ji_rem, ji_div, jl_of, xl_lt, xl_gt, xl_eq, qV_at, qI_at, qJ_at, qD_at, qA_at, qA_no, nb0, nb1, cat_r, cat_i, Option.some.injEq, exists_eq_left', true_and, and_true, if_true, if_false, ite_not, not_true_eq_false, not_false_eq_true, Sum.inr.injEq, exists_eq_right', true_or, or_true, and_self, Int.cast_ofNat_Int, reduceCtorEq, or_false, false_or, false_and, and_false, jb_zero, lt7_0, lt7_1, lt7_2, lt7_3, lt7_4, lt7_5, lt7_6, u_X9_keep, hn, hk, Value.category, pz_tg, pz_ln, pz_gI, pz_gL, pz_gR, pz_aR, pz_aL, pz_aD, pzf_w, pzf_g, pf_w, pf_tg, pf_ln, pf_gR, pf_aI, pf_aR, pf_gL, ↓reduceIte, ilt_t, ilt_f, ile_t, ile_f, ieq_t, ieq_f, jb_T, jb_F, jb_t, jb_f]
theorem pb_in {b i : Int} (b0 : 0 ≤ b) (i0 : 0 ≤ i) (i1 : i < 5666) : aI (pb μ m b Z) (m + 1) (5666 * b + i).toNat = ji (Z i) := by
  have : aI (pb μ m b Z) (m + 1) (5666 * b + i).toNat = ji (Z (5666 * b + i - 5666 * b)) := wr_in (by omega) (by omega) (by omega)
  rw [this, show 5666 * b + i - 5666 * b = i from by omega]
theorem RF.psh {Y : Int → Int} {v : Int} (hF : RF F A) (hi : INV A) : RF (kF F) (psh A Y v).1 := by
  obtain ⟨h1, h2, h3, h4, h5, h6, h7, h8, h9, h10⟩ := hF
  have hn := hi.2.1
  by_cases e : F 291 = 12
  · have e1 : kF F = fu (fu (fu F 290 ((F 290 + 1) % 12)) 291 11) 291 12 := if_pos e
    rw [e1]
    refine ⟨h1, h2, h3, ?_, ?_, ?_, h7, h8, h9, h10⟩
    · show (12 : Int) = hpn A.2.2.1.1
      rw [← h4, e]; rfl
    · show 0 ≤ (F 290 + 1) % 12
      omega
    · show (F 290 + 1) % 12 < 12
      omega
  · have e1 : kF F = fu F 291 (F 291 + 1) := if_neg e
    rw [e1]
    refine ⟨h1, h2, h3, ?_, h5, h6, h7, h8, h9, h10⟩
    show F 291 + 1 = hpn A.2.2.1.1
    unfold hpn
    rw [← h4] at hn ⊢
    rw [if_pos (by omega)]
theorem kF_290 : kF F 290 = if F 291 = 12 then (F 290 + 1) % 12 else F 290 := by
  unfold kF
  by_cases e : F 291 = 12
  · rw [if_pos e, if_pos e]; rfl
  · rw [if_neg e, if_neg e]; rfl
theorem kF_298 : kF F 298 = F 298 := by
  unfold kF
  by_cases e : F 291 = 12
  · rw [if_pos e]; rfl
  · rw [if_neg e]; rfl
theorem RM.psh {Y : Int → Int} {v : Int} (hF : RF F A) (hM : RM μ m (F 290) A) (hi : INV A) : RM (pb μ m (kB (F 290) (F 291)) A.2.1) m (kF F 290) (psh A Y v).1 := by
  obtain ⟨g1, g2, g3, g4, g5, g6, g7, g8, g9, g10⟩ := hF
  obtain ⟨h1, ⟨h2, h3, h4⟩, h5, h6⟩ := hM
  have hn := hi.2.1
  have hkb : 3 ≤ kB (F 290) (F 291) ∧ kB (F 290) (F 291) < 15 := by unfold kB; split <;> omega
  refine ⟨fun j j0 j1 i i0 i1 => ?_, ⟨(wr_a (by omega)).trans h2, (wr_a (by omega)).trans h3, fun p p0 p1 hp i i0 i1 => ?_⟩, fun i i0 i1 => ?_, fun i i0 i1 => ?_⟩
  · have j1' : j < hpn A.2.2.1.1 := j1
    show aI (wr μ (m + 1) (5666 * kB (F 290) (F 291)) 5666 (fun i => ji (A.2.1 i))) (m + 1) _ = ji (hpH A.2.2.1.1 A.2.2.1.2 A.2.1 j i)
    by_cases e : A.2.2.1.1 = 12
    · have a1 : hpn A.2.2.1.1 = 12 := if_neg (by omega)
      have a2 : hpH A.2.2.1.1 A.2.2.1.2 A.2.1 j = if j = 11 then A.2.1 else A.2.2.1.2 (j + 1) := if_neg (by omega)
      have a3 : kB (F 290) (F 291) = 3 + ((F 290 + 1) % 12 + 11) % 12 := if_pos (by omega)
      have a4 : kF F 290 = (F 290 + 1) % 12 := by rw [kF_290, if_pos (by omega)]
      rw [a1] at j1'
      rw [a2, a3, a4]
      by_cases e2 : j = 11
      · rw [if_pos e2, e2]
        exact pb_in (by omega) i0 i1
      · rw [if_neg e2, wr_out (by omega) (by omega), ← h1 (j + 1) (by omega) (by omega) i i0 i1]
        congr 2
        omega
    · have a1 : hpn A.2.2.1.1 = A.2.2.1.1 + 1 := if_pos (by omega)
      have a2 : hpH A.2.2.1.1 A.2.2.1.2 A.2.1 j = if j = A.2.2.1.1 then A.2.1 else A.2.2.1.2 j := if_pos (by omega)
      have a3 : kB (F 290) (F 291) = 3 + (F 290 + A.2.2.1.1) % 12 := by rw [← g4]; exact if_neg (by omega)
      have a4 : kF F 290 = F 290 := by rw [kF_290, if_neg (by omega)]
      rw [a1] at j1'
      rw [a2, a3, a4]
      by_cases e2 : j = A.2.2.1.1
      · rw [if_pos e2, e2]
        exact pb_in (by omega) i0 i1
      · rw [if_neg e2, wr_out (by omega) (by omega), ← h1 j j0 (by omega) i i0 i1]
  · show aI (wr μ (m + 1) (5666 * kB (F 290) (F 291)) 5666 (fun i => ji (A.2.1 i))) (m + 1) _ = _
    rw [wr_out (by omega) (by omega)]
    exact h4 p p0 p1 hp i i0 i1
  · rw [show aI (pb μ m (kB (F 290) (F 291)) A.2.1) (m + 10) i.toNat = aI μ (m + 10) i.toNat from wr_a (by omega)]
    exact h5 i i0 i1
  · rw [show aI (pb μ m (kB (F 290) (F 291)) A.2.1) (m + 9) i.toNat = aI μ (m + 9) i.toNat from wr_a (by omega)]
    exact h6 i i0 i1
/-- behind a step that was remembered -/
theorem MS_psh {Y : Int → Int} {v : Int} (hS : RS μ m) (hF : RF F A) (hM : RM μ m (F 290) A) (hi : INV A) : MS (pz (pf (pb μ m (kB (F 290) (F 291)) A.2.1) m (kF F)) m Y) m (psh A Y v).1 := MS.mk (A := (psh A Y v).1) (RS_pb hS _ _) (RF.psh hF hi) (RM.psh hF hM hi)
end
