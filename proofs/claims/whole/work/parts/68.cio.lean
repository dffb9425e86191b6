/-! ===== the class: busiest, mean hops, output, input ===== -/
abbrev ARE : String := "java/lang/ArithmeticException"
theorem dv_ok (a : Int32) {b : Int32} (h : b ≠ 0) : vf_n64 (FP.ddiv (FP.i2d a) (FP.i2d b)) := by
  have h1 : FP.Core.dIsNaN (FP.Core.i2d a) = false := by
    rw [FP.Core.notNaN_iff]
    obtain ⟨s, c, q, e⟩ := FP.Core.i2d_fin a
    rw [e]
    exact fun z => by cases z
  have h2 : ¬ FP.Core.DZero (FP.Core.i2d b) := by
    intro z
    have hb := FP.Core.i2d_big (FP.Core.int32_ne h)
    have hz := FP.Core.zero_bits (FP.Core.zero_iff.mpr z)
    rcases hz with hz | hz
    · rw [hz] at hb; exact absurd hb.1 (by decide)
    · rw [hz] at hb; exact absurd hb.1 (by decide)
  have h3 := FP.Core.ddiv_out (a := FP.Core.i2d a) (b := FP.Core.i2d b) h1 (FP.Core.i2d_fin b) h2
  show FP.Core.ddiv (FP.Core.i2d a) (FP.Core.i2d b) &&& 0x7fffffffffffffff ≤ 0x7ff0000000000000
  have h4 := mt (FP.Core.isNaN_bits (FP.Core.ddiv (FP.Core.i2d a) (FP.Core.i2d b))).mpr (by rw [h3]; exact Bool.false_ne_true)
  rw [UInt64.le_iff_toNat_le, UInt64.toNat_and]
  have e1 : (0x7fffffffffffffff : UInt64).toNat = 2 ^ 63 - 1 := by decide
  have e2 : (0x7ff0000000000000 : UInt64).toNat = 9218868437227405312 := by decide
  rw [e1, e2, Nat.and_two_pow_sub_one_eq_mod]
  omega
/-- the quotient of two ints, as doubles -/
noncomputable def dvq (a b : Int) : UInt64 := xseal (FP.ddiv (FP.i2d (ji a)) (FP.i2d (ji b)))
theorem dvq_r (a b : Int) : FP.ddiv (FP.i2d (ji a)) (FP.i2d (ji b)) = dvq a b := (xseal_eq _).symm
theorem dvq_ok (a : Int) {b : Int} (h : ¬ ji b = ji 0) : vf_n64 (dvq a b) := by
  rw [← dvq_r]
  exact dv_ok _ h
def mhR (Q : XQ) (X : XX) (μ : XM) (p : Int × Int) : Prop := if p.2 = 0 then X ARE (uF μ) else Q (some (.double (dvq p.1 p.2))) μ
section
variable {μ : XM} {xa : Nat} {w h N s : Int} {Z : Int → Int} {Q : XQ} {X : XX}
theorem mat_b (hB : BD w h N s Z) (n : Int) : 0 ≤ mat Z n ∧ mat Z n ≤ 25 := by
  have := cntz_b (fun k => act Z k && decide (Z ((2666 + 120 * k) + 4) = n)) (Z 1).toNat 0 0
  have := hB.2.1
  unfold mat
  omega
theorem q_busiest (hX : XW μ xa w h N s Z) : s_X8_busiest μ [.ref xa] Q X = Q (some (.int (ji (mxf (mat Z) N.toNat)))) μ := by
  obtain ⟨⟨X0, X1⟩, hS, hC, hI, htm, hpk⟩ := hX
  have hbz := hI.1.2.1
  have hw := hI.1.1
  have nn := nodesX hC
  unfold mxf
  rw [u_X8_busiest, l_X8_busiest_6, xseal_eq]
  refine fold_loop (fun mf x l => ln_X8_busiest_6 Q X mf [some (.ref xa), some (.int (ji x.1)), some (.int (ji x.2)), some (.int (ji l)), none] [] μ 0 0) (fun x => Q (some (.int (ji x.1))) μ) (fun l x => mxs (mat Z) l x) (fun l x => -1 ≤ x.1 ∧ x.1 < 36 ∧ 0 ≤ x.2 ∧ x.2 ≤ 25) (N) (fun mf x hx => ?_) (fun mf x l l0 l1 hx => ⟨?_, ?_⟩) _ 10000 (0) ((-1, 0)) (by omega) (by omega) (by omega) (by decide)
  · show ln_X8_busiest_6 Q X (mf + 1) [some (.ref xa), some (.int (ji x.1)), some (.int (ji x.2)), some (.int (ji (N))), none] [] μ 0 0 = Q (some (.int (ji x.1))) μ
    rw [ul_X8_busiest_6]
    simp (disch := first | assumption | omega) only [WS_0, WS_1, WS_2, WS_3, WS_4, WS_5, WS_6, WS_7, WS_8, WS_9, WS_10, WS_11, WS_12, WS_13, WS_14, WS_15, WS_16, WS_17, WS_18, WS_19, WS_20, PS_0, PS_1, PS_2, PS_3, PS_4, PS_5, PS_6, ji_add, ji_sub, ji_mul, ji_neg, ji_lit0, ji_ofNat, ji_lt, ji_le, ji_eq, ji_nat, ji_in, qV_at, qI_at, qJ_at, qD_at, qA_at, qA_no, nb0, nb1, cat_r, cat_i, Option.some.injEq, exists_eq_left', true_and, and_true, if_true, if_false, ite_not, not_true_eq_false, not_false_eq_true, Sum.inr.injEq, exists_eq_right', true_or, or_true, and_self, Int.cast_ofNat_Int, reduceCtorEq, or_false, false_or, false_and, and_false, jb_zero, lt7_0, lt7_1, lt7_2, lt7_3, lt7_4, lt7_5, lt7_6, c_X8_busiest_1, c_X8_busiest_2, X0, X1, nn, ↓reduceIte, ilt_t, ilt_f, ile_t, ile_f, ieq_t, ieq_f, jb_T, jb_F, jb_t, jb_f]
  · show ln_X8_busiest_6 Q X (mf + 1) [some (.ref xa), some (.int (ji x.1)), some (.int (ji x.2)), some (.int (ji l)), none] [] μ 0 0 = ln_X8_busiest_6 Q X mf [some (.ref xa), some (.int (ji (mxs (mat Z) l x).1)), some (.int (ji (mxs (mat Z) l x).2)), some (.int (ji (l + 1))), none] [] μ 0 0
    rw [ul_X8_busiest_6]
    have hc := mat_b hI.1 l
    unfold mxs
    by_cases hm : x.2 < mat Z l <;> simp (disch := first | assumption | omega) only [WS_0, WS_1, WS_2, WS_3, WS_4, WS_5, WS_6, WS_7, WS_8, WS_9, WS_10, WS_11, WS_12, WS_13, WS_14, WS_15, WS_16, WS_17, WS_18, WS_19, WS_20, PS_0, PS_1, PS_2, PS_3, PS_4, PS_5, PS_6, ji_add, ji_sub, ji_mul, ji_neg, ji_lit0, ji_ofNat, ji_lt, ji_le, ji_eq, ji_nat, ji_in, qV_at, qI_at, qJ_at, qD_at, qA_at, qA_no, nb0, nb1, cat_r, cat_i, Option.some.injEq, exists_eq_left', true_and, and_true, if_true, if_false, ite_not, not_true_eq_false, not_false_eq_true, Sum.inr.injEq, exists_eq_right', true_or, or_true, and_self, Int.cast_ofNat_Int, reduceCtorEq, or_false, false_or, false_and, and_false, jb_zero, lt7_0, lt7_1, lt7_2, lt7_3, lt7_4, lt7_5, lt7_6, c_X8_busiest_1, c_X8_busiest_2, X0, X1, nn, e_activeAt hS hC hI.1, e_busy hI.1, hm, ↓reduceIte, ilt_t, ilt_f, ile_t, ile_f, ieq_t, ieq_f, jb_T, jb_F, jb_t, jb_f]
  · show -1 ≤ (mxs (mat Z) l x).1 ∧ (mxs (mat Z) l x).1 < 36 ∧ 0 ≤ (mxs (mat Z) l x).2 ∧ (mxs (mat Z) l x).2 ≤ 25
    have hc := mat_b hI.1 l
    unfold mxs
    split
    · show -1 ≤ l ∧ l < 36 ∧ 0 ≤ mat Z l ∧ mat Z l ≤ 25
      omega
    · exact hx
theorem q_meanHops (hX : XW μ xa w h N s Z) : s_X8_meanHops μ [.ref xa] Q X = mhR Q X μ (mhf Z) := by
  obtain ⟨⟨X0, X1⟩, hS, hC, hI, htm, hpk⟩ := hX
  have hbz := hI.1.2.1
  have c3 := hC.2.2.2.1
  have key := fold_loop (fun mf x l => ln_X8_meanHops_6 Q X mf [some (.ref xa), some (.int (ji x.1)), some (.int (ji x.2)), some (.int (ji l)), none] [] μ 0 0) (fun x => mhR Q X μ x) (fun l x => mhg Z l x) (fun l x => 0 ≤ x.1 ∧ x.1 ≤ 200 * l ∧ 0 ≤ x.2 ∧ x.2 ≤ l) (Z 1) (fun mf x hx => by
    show ln_X8_meanHops_6 Q X (mf + 1) [some (.ref xa), some (.int (ji x.1)), some (.int (ji x.2)), some (.int (ji (Z 1))), none] [] μ 0 0 = mhR Q X μ x
    obtain ⟨x1, x2⟩ := x
    simp only at hx
    show ln_X8_meanHops_6 Q X (mf + 1) [some (.ref xa), some (.int (ji x1)), some (.int (ji x2)), some (.int (ji (Z 1))), none] [] μ 0 0 = if x2 = 0 then X ARE (uF μ) else Q (some (.double (dvq x1 x2))) μ
    rw [ul_X8_meanHops_6]
    by_cases h0 : x2 = 0
    · simp (disch := first | assumption | omega) only [WS_0, WS_1, WS_2, WS_3, WS_4, WS_5, WS_6, WS_7, WS_8, WS_9, WS_10, WS_11, WS_12, WS_13, WS_14, WS_15, WS_16, WS_17, WS_18, WS_19, WS_20, PS_0, PS_1, PS_2, PS_3, PS_4, PS_5, PS_6, ji_add, ji_sub, ji_mul, ji_neg, ji_lit0, ji_ofNat, ji_lt, ji_le, ji_eq, ji_nat, ji_in, qV_at, qI_at, qJ_at, qD_at, qA_at, qA_no, nb0, nb1, cat_r, cat_i, Option.some.injEq, exists_eq_left', true_and, and_true, if_true, if_false, ite_not, not_true_eq_false, not_false_eq_true, Sum.inr.injEq, exists_eq_right', true_or, or_true, and_self, Int.cast_ofNat_Int, reduceCtorEq, or_false, false_or, false_and, and_false, jb_zero, lt7_0, lt7_1, lt7_2, lt7_3, lt7_4, lt7_5, lt7_6, X0, X1, c3, h0, Nat.reduceAdd, Nat.reduceLeDiff, ↓reduceIte, ilt_t, ilt_f, ile_t, ile_f, ieq_t, ieq_f, jb_T, jb_F, jb_t, jb_f]
    · have hv := dvq_ok x1 (b := x2) (fun q => h0 (by rwa [ji_eq (by omega) (by omega) (by omega) (by omega)] at q))
      simp (disch := first | assumption | omega) only [WS_0, WS_1, WS_2, WS_3, WS_4, WS_5, WS_6, WS_7, WS_8, WS_9, WS_10, WS_11, WS_12, WS_13, WS_14, WS_15, WS_16, WS_17, WS_18, WS_19, WS_20, PS_0, PS_1, PS_2, PS_3, PS_4, PS_5, PS_6, ji_add, ji_sub, ji_mul, ji_neg, ji_lit0, ji_ofNat, ji_lt, ji_le, ji_eq, ji_nat, ji_in, qV_at, qI_at, qJ_at, qD_at, qA_at, qA_no, nb0, nb1, cat_r, cat_i, Option.some.injEq, exists_eq_left', true_and, and_true, if_true, if_false, ite_not, not_true_eq_false, not_false_eq_true, Sum.inr.injEq, exists_eq_right', true_or, or_true, and_self, Int.cast_ofNat_Int, reduceCtorEq, or_false, false_or, false_and, and_false, jb_zero, lt7_0, lt7_1, lt7_2, lt7_3, lt7_4, lt7_5, lt7_6, X0, X1, c3, h0, dvq_r, hv, ↓reduceIte, ilt_t, ilt_f, ile_t, ile_f, ieq_t, ieq_f, jb_T, jb_F, jb_t, jb_f]) (fun mf x l l0 l1 hx => by
    show ln_X8_meanHops_6 Q X (mf + 1) [some (.ref xa), some (.int (ji x.1)), some (.int (ji x.2)), some (.int (ji l)), none] [] μ 0 0 = ln_X8_meanHops_6 Q X mf [some (.ref xa), some (.int (ji (mhg Z l x).1)), some (.int (ji (mhg Z l x).2)), some (.int (ji (l + 1))), none] [] μ 0 0 ∧ 0 ≤ (mhg Z l x).1 ∧ (mhg Z l x).1 ≤ 200 * (l + 1) ∧ 0 ≤ (mhg Z l x).2 ∧ (mhg Z l x).2 ≤ l + 1
    obtain ⟨x1, x2⟩ := x
    simp only at hx
    have hps := PS_0 (WS_ps hS l l0 (by omega))
    have hb1 := (BD_p hI.1 l l0 l1).1
    have p := (CW_p hC l l0 l1).1
    have p3 := p.2.2.2.1
    have p5 := p.2.2.2.2.2.1
    unfold mhg
    by_cases hv : Z ((2666 + 120 * l) + 3) = 3
    · rw [if_pos hv]
      refine ⟨?_, by simp only; omega⟩
      rw [ul_X8_meanHops_6]
      simp (disch := first | assumption | omega) only [WS_0, WS_1, WS_2, WS_3, WS_4, WS_5, WS_6, WS_7, WS_8, WS_9, WS_10, WS_11, WS_12, WS_13, WS_14, WS_15, WS_16, WS_17, WS_18, WS_19, WS_20, PS_0, PS_1, PS_2, PS_3, PS_4, PS_5, PS_6, ji_add, ji_sub, ji_mul, ji_neg, ji_lit0, ji_ofNat, ji_lt, ji_le, ji_eq, ji_nat, ji_in, qV_at, qI_at, qJ_at, qD_at, qA_at, qA_no, nb0, nb1, cat_r, cat_i, Option.some.injEq, exists_eq_left', true_and, and_true, if_true, if_false, ite_not, not_true_eq_false, not_false_eq_true, Sum.inr.injEq, exists_eq_right', true_or, or_true, and_self, Int.cast_ofNat_Int, reduceCtorEq, or_false, false_or, false_and, and_false, jb_zero, lt7_0, lt7_1, lt7_2, lt7_3, lt7_4, lt7_5, lt7_6, X0, X1, c_X8_meanHops_1, e_packetOf hS hC hI.1, c3, hps, p3, p5, hv, ↓reduceIte, ilt_t, ilt_f, ile_t, ile_f, ieq_t, ieq_f, jb_T, jb_F, jb_t, jb_f]
    · rw [if_neg hv]
      refine ⟨?_, by simp only; omega⟩
      rw [ul_X8_meanHops_6]
      simp (disch := first | assumption | omega) only [WS_0, WS_1, WS_2, WS_3, WS_4, WS_5, WS_6, WS_7, WS_8, WS_9, WS_10, WS_11, WS_12, WS_13, WS_14, WS_15, WS_16, WS_17, WS_18, WS_19, WS_20, PS_0, PS_1, PS_2, PS_3, PS_4, PS_5, PS_6, ji_add, ji_sub, ji_mul, ji_neg, ji_lit0, ji_ofNat, ji_lt, ji_le, ji_eq, ji_nat, ji_in, qV_at, qI_at, qJ_at, qD_at, qA_at, qA_no, nb0, nb1, cat_r, cat_i, Option.some.injEq, exists_eq_left', true_and, and_true, if_true, if_false, ite_not, not_true_eq_false, not_false_eq_true, Sum.inr.injEq, exists_eq_right', true_or, or_true, and_self, Int.cast_ofNat_Int, reduceCtorEq, or_false, false_or, false_and, and_false, jb_zero, lt7_0, lt7_1, lt7_2, lt7_3, lt7_4, lt7_5, lt7_6, X0, X1, c_X8_meanHops_1, e_packetOf hS hC hI.1, c3, hps, p3, p5, hv, ↓reduceIte, ilt_t, ilt_f, ile_t, ile_f, ieq_t, ieq_f, jb_T, jb_F, jb_t, jb_f]) (Z 1).toNat 10000 0 (0, 0) (by omega) (by omega) (by omega) ⟨by decide, by decide, by decide, by decide⟩
  rw [u_X8_meanHops, l_X8_meanHops_6, xseal_eq]
  exact key
end
/-! input -/
/-- a byte of a word -/
def byt (v : Int32) (k : Int) : Int := (jshr v (ji k) &&& ji 255).toInt
theorem byt_ok (v : Int32) (k : Int) : jshr v (ji k) &&& ji 255 = ji (byt v k) ∧ 0 ≤ byt v k ∧ byt v k < 256 := by
  refine ⟨ji_of _, ?_⟩
  unfold byt
  have h : (jshr v (ji k) &&& ji 255).toBitVec.toNat < 256 := by
    rw [Int32.toBitVec_and, BitVec.toNat_and]
    have : (ji 255).toBitVec.toNat = 255 := by decide
    rw [this]
    exact Nat.lt_of_le_of_lt Nat.and_le_right (by omega)
  have e : (jshr v (ji k) &&& ji 255).toInt = ((jshr v (ji k) &&& ji 255).toBitVec.toNat : Int) := by
    show (jshr v (ji k) &&& ji 255).toBitVec.toInt = _
    rw [BitVec.toInt_eq_toNat_of_lt (by omega)]
  omega
def apw (T : Int → Int) (l : Int) (v : Int32) : Int → Int := zu (zu (zu (zu T l (byt v 24)) (l + 1) (byt v 16)) (l + 2) (byt v 8)) (l + 3) (byt v 0)
def apv (T : Int → Int) (l : Int) (v0 v1 v2 v3 v4 : Int32) : Int → Int := apw (apw (apw (apw (apw T l v0) (l + 4) v1) (l + 8) v2) (l + 12) v3) (l + 16) v4
def oApp (A : AS) (v0 v1 v2 v3 v4 : Int32) : AR := if 1000 < A.2.2.2.2.1.1 + 20 then (A, (0, -1)) else ((A.1, A.2.1, A.2.2.1, A.2.2.2.1, (A.2.2.2.2.1.1 + 20, apv A.2.2.2.2.1.2 A.2.2.2.2.1.1 v0 v1 v2 v3 v4), A.2.2.2.2.2), (0, A.2.2.2.2.1.1 + 20))
def oTrunc (A : AS) (l : Int) : AR := if 0 ≤ l ∧ l ≤ A.2.2.2.2.1.1 then ((A.1, A.2.1, A.2.2.1, A.2.2.2.1, (l, A.2.2.2.2.1.2), A.2.2.2.2.2), (0, l)) else (A, (0, -1))
def vOut (A : AS) (i : Int) : Int := if 0 ≤ i ∧ i < A.2.2.2.2.2.2.1 then A.2.2.2.2.2.2.2 i else -1
section
variable {μ : XM} {x : Nat} {Q : XQ} {X : XX} {A : AS} {l e p : Int} {T O : Int → Int}
theorem apw_in {v : Int32} {B : Int} (h : ∀ i, 0 ≤ i → i < l → 0 ≤ T i ∧ T i < 256) : ∀ i, 0 ≤ i → i < l + 4 → 0 ≤ apw T l v i ∧ apw T l v i < 256 := by
  intro i i0 i1
  have b0 := byt_ok v 24
  have b1 := byt_ok v 16
  have b2 := byt_ok v 8
  have b3 := byt_ok v 0
  unfold apw zu
  (repeat' split) <;> first | omega | exact h i i0 (by omega)
abbrev inT (x a : Nat) : Prop := a = x + 1171 ∨ a = x + 1172
theorem e_appendWord {v : Int32} (hL : XL μ x) (hT : XT μ x l T e p) (l0 : 0 ≤ l) (l1 : l + 4 ≤ 1000) (hK : ∀ μ', CH (inT x) μ' μ → XT μ' x (l + 4) (apw T l v) e p → Q none μ') : s_X6_appendWord μ [.ref (x + 1171), .int v] Q X := by
  have step : ∀ (mf : Nat) (y : XM) (k : Int) (m : Int) (U : Int → Int), 0 ≤ k → k ≤ 24 → 0 ≤ m → m < 1000 → XL y x → XT y x m U e p → (∀ z, CH (inT x) z y → XL z x → XT z x (m + 1) (zu U m (byt v k)) e p → ln_X6_appendWord_3 Q X mf [some (.ref (x + 1171)), some (.int v), some (.int (ji (k - 8)))] [] z 0 0) → ln_X6_appendWord_3 Q X (mf + 1) [some (.ref (x + 1171)), some (.int v), some (.int (ji k))] [] y 0 0 := by
    intro mf y k m U k0 k1 m0 m1 hL hT hK
    obtain ⟨t1, t2, t3, t4⟩ := hT
    have hb := byt_ok v k
    have t26 := fun i v => XL_31 (hL.wI (x + 1172) i v)
    have ek : k + -8 = k - 8 := by omega
    have g1 : gI (wI y (x + 1172) m.toNat (ji (byt v k))) 193 (x + 1171) = ji m := t1
    rw [ul_X6_appendWord_3]
    simp (disch := first | assumption | omega) only [XL_0, XL_1, XL_2, XL_3, XL_4, XL_5, XL_6, XL_7, XL_8, XL_9, XL_10, XL_11, XL_12, XL_13, XL_14, XL_15, XL_16, XL_17, XL_18, XL_19, XL_20, XL_21, XL_22, XL_23, XL_24, XL_25, XL_26, XL_27, XL_28, XL_29, XL_30, XL_31, XL_32, XL_33, XL_34, XL_35, XL_36, XL_37, XL_38, XL_39, XL_40, XL_41, XL_42, XL_43, XL_44, XL_45, XL_46, XL_47, WS_0, WS_1, WS_2, WS_3, WS_4, WS_5, WS_6, WS_7, WS_8, WS_9, WS_10, WS_11, WS_12, WS_13, WS_14, WS_15, WS_16, WS_17, WS_18, WS_19, WS_20, PS_0, PS_1, PS_2, PS_3, PS_4, PS_5, PS_6, ji_add, ji_sub, ji_mul, ji_neg, ji_lit0, ji_ofNat, ji_lt, ji_le, ji_eq, ji_nat, ji_in, qV_at, qI_at, qJ_at, qD_at, qA_at, qA_no, nb0, nb1, cat_r, cat_i, Option.some.injEq, exists_eq_left', true_and, and_true, if_true, if_false, ite_not, not_true_eq_false, not_false_eq_true, Sum.inr.injEq, exists_eq_right', true_or, or_true, and_self, Int.cast_ofNat_Int, reduceCtorEq, or_false, false_or, false_and, and_false, jb_zero, lt7_0, lt7_1, lt7_2, lt7_3, lt7_4, lt7_5, lt7_6, Nat.reduceAdd, Nat.reduceLeDiff, t1, hb.1, t26, g1, ek, ↓reduceIte, ilt_t, ilt_f, ile_t, ile_f, ieq_t, ieq_f, jb_T, jb_F, jb_t, jb_f]
    refine hK _ ((CH.wI (S := inT x) (CH.refl _ _) _ _ _ (Or.inr rfl)).sI _ _ _ (Or.inl rfl)) ((hL.wI _ _ _).sI _ _ _) ⟨gI_sI_at _ _ _ _, ?_, ?_, fun i i0 i1 => ?_⟩
    · rw [gI_sI_k _ _ _ _ _ _ (by omega)]; exact t2
    · rw [gI_sI_k _ _ _ _ _ _ (by omega)]; exact t3
    · show aI (wI y (x + 1172) m.toNat (ji (byt v k))) (x + 1172) i.toNat = _
      by_cases he : i = m
      · rw [he, aI_wI_at, zu_at]
      · rw [aI_wI_i _ _ _ _ _ _ (by omega), zu_ne he]
        exact t4 i i0 (by omega)
  rw [u_X6_appendWord, l_X6_appendWord_3, xseal_eq]
  refine step 9999 μ 24 l T (by omega) (by omega) l0 (by omega) hL hT (fun z1 c1 L1 T1 => ?_)
  refine step 9998 z1 16 (l + 1) _ (by omega) (by omega) (by omega) (by omega) L1 T1 (fun z2 c2 L2 T2 => ?_)
  refine step 9997 z2 8 (l + 1 + 1) _ (by omega) (by omega) (by omega) (by omega) L2 T2 (fun z3 c3 L3 T3 => ?_)
  refine step 9996 z3 0 (l + 1 + 1 + 1) _ (by omega) (by omega) (by omega) (by omega) L3 T3 (fun z4 c4 L4 T4 => ?_)
  have fin : ∀ mf, ln_X6_appendWord_3 Q X (mf + 1) [some (.ref (x + 1171)), some (.int v), some (.int (ji (0 - 8)))] [] z4 0 0 := by
    intro mf
    rw [ul_X6_appendWord_3]
    simp (disch := first | assumption | omega) only [XL_0, XL_1, XL_2, XL_3, XL_4, XL_5, XL_6, XL_7, XL_8, XL_9, XL_10, XL_11, XL_12, XL_13, XL_14, XL_15, XL_16, XL_17, XL_18, XL_19, XL_20, XL_21, XL_22, XL_23, XL_24, XL_25, XL_26, XL_27, XL_28, XL_29, XL_30, XL_31, XL_32, XL_33, XL_34, XL_35, XL_36, XL_37, XL_38, XL_39, XL_40, XL_41, XL_42, XL_43, XL_44, XL_45, XL_46, XL_47, WS_0, WS_1, WS_2, WS_3, WS_4, WS_5, WS_6, WS_7, WS_8, WS_9, WS_10, WS_11, WS_12, WS_13, WS_14, WS_15, WS_16, WS_17, WS_18, WS_19, WS_20, PS_0, PS_1, PS_2, PS_3, PS_4, PS_5, PS_6, ji_add, ji_sub, ji_mul, ji_neg, ji_lit0, ji_ofNat, ji_lt, ji_le, ji_eq, ji_nat, ji_in, qV_at, qI_at, qJ_at, qD_at, qA_at, qA_no, nb0, nb1, cat_r, cat_i, Option.some.injEq, exists_eq_left', true_and, and_true, if_true, if_false, ite_not, not_true_eq_false, not_false_eq_true, Sum.inr.injEq, exists_eq_right', true_or, or_true, and_self, Int.cast_ofNat_Int, reduceCtorEq, or_false, false_or, false_and, and_false, jb_zero, lt7_0, lt7_1, lt7_2, lt7_3, lt7_4, lt7_5, lt7_6, Nat.reduceAdd, Nat.reduceLeDiff, ↓reduceIte, ilt_t, ilt_f, ile_t, ile_f, ieq_t, ieq_f, jb_T, jb_F, jb_t, jb_f]
    refine hK z4 (c4.trans (c3.trans (c2.trans c1))) ?_
    have e1 : l + 1 + 1 + 1 + 1 = l + 4 := by omega
    have e2 : l + 1 + 1 + 1 = l + 3 := by omega
    have e3 : l + 1 + 1 = l + 2 := by omega
    rw [e1, e2, e3] at T4
    exact T4
  exact fin 9995
theorem q_append {v0 v1 v2 v3 v4 : Int32} (hx : XS μ x A) (hi : INV A) (hQ : CP μ x Q (oApp A v0 v1 v2 v3 v4)) : s_X8_appendInput μ [.ref x, .int v0, .int v1, .int v2, .int v3, .int v4] Q X := by
  have hL := hx.1
  have hT := hx.2.2.2.2.2.1
  have hl := hi.2.2.2.1
  have t1 := hT.1
  unfold oApp at hQ
  by_cases h1 : 1000 < A.2.2.2.2.1.1 + 20
  · rw [if_pos h1] at hQ
    simp (disch := first | assumption | omega) only [XL_0, XL_1, XL_2, XL_3, XL_4, XL_5, XL_6, XL_7, XL_8, XL_9, XL_10, XL_11, XL_12, XL_13, XL_14, XL_15, XL_16, XL_17, XL_18, XL_19, XL_20, XL_21, XL_22, XL_23, XL_24, XL_25, XL_26, XL_27, XL_28, XL_29, XL_30, XL_31, XL_32, XL_33, XL_34, XL_35, XL_36, XL_37, XL_38, XL_39, XL_40, XL_41, XL_42, XL_43, XL_44, XL_45, XL_46, XL_47, WS_0, WS_1, WS_2, WS_3, WS_4, WS_5, WS_6, WS_7, WS_8, WS_9, WS_10, WS_11, WS_12, WS_13, WS_14, WS_15, WS_16, WS_17, WS_18, WS_19, WS_20, PS_0, PS_1, PS_2, PS_3, PS_4, PS_5, PS_6, ji_add, ji_sub, ji_mul, ji_neg, ji_lit0, ji_ofNat, ji_lt, ji_le, ji_eq, ji_nat, ji_in, qV_at, qI_at, qJ_at, qD_at, qA_at, qA_no, nb0, nb1, cat_r, cat_i, Option.some.injEq, exists_eq_left', true_and, and_true, if_true, if_false, ite_not, not_true_eq_false, not_false_eq_true, Sum.inr.injEq, exists_eq_right', true_or, or_true, and_self, Int.cast_ofNat_Int, reduceCtorEq, or_false, false_or, false_and, and_false, jb_zero, lt7_0, lt7_1, lt7_2, lt7_3, lt7_4, lt7_5, lt7_6, Nat.reduceAdd, Nat.reduceLeDiff, c_X8_appendInput_1, c_X8_appendInput_2, c_X8_appendInput_3, c_X8_appendInput_4, c_X8_appendInput_5, u_X8_appendInput, t1, ↓reduceIte, ilt_t, ilt_f, ile_t, ile_f, ieq_t, ieq_f, jb_T, jb_F, jb_t, jb_f]
    exact CP.stay hx hQ
  · rw [if_neg h1] at hQ
    simp (disch := first | assumption | omega) only [XL_0, XL_1, XL_2, XL_3, XL_4, XL_5, XL_6, XL_7, XL_8, XL_9, XL_10, XL_11, XL_12, XL_13, XL_14, XL_15, XL_16, XL_17, XL_18, XL_19, XL_20, XL_21, XL_22, XL_23, XL_24, XL_25, XL_26, XL_27, XL_28, XL_29, XL_30, XL_31, XL_32, XL_33, XL_34, XL_35, XL_36, XL_37, XL_38, XL_39, XL_40, XL_41, XL_42, XL_43, XL_44, XL_45, XL_46, XL_47, WS_0, WS_1, WS_2, WS_3, WS_4, WS_5, WS_6, WS_7, WS_8, WS_9, WS_10, WS_11, WS_12, WS_13, WS_14, WS_15, WS_16, WS_17, WS_18, WS_19, WS_20, PS_0, PS_1, PS_2, PS_3, PS_4, PS_5, PS_6, ji_add, ji_sub, ji_mul, ji_neg, ji_lit0, ji_ofNat, ji_lt, ji_le, ji_eq, ji_nat, ji_in, qV_at, qI_at, qJ_at, qD_at, qA_at, qA_no, nb0, nb1, cat_r, cat_i, Option.some.injEq, exists_eq_left', true_and, and_true, if_true, if_false, ite_not, not_true_eq_false, not_false_eq_true, Sum.inr.injEq, exists_eq_right', true_or, or_true, and_self, Int.cast_ofNat_Int, reduceCtorEq, or_false, false_or, false_and, and_false, jb_zero, lt7_0, lt7_1, lt7_2, lt7_3, lt7_4, lt7_5, lt7_6, Nat.reduceAdd, Nat.reduceLeDiff, c_X8_appendInput_1, c_X8_appendInput_2, c_X8_appendInput_3, c_X8_appendInput_4, c_X8_appendInput_5, u_X8_appendInput, t1, ↓reduceIte, ilt_t, ilt_f, ile_t, ile_f, ieq_t, ieq_f, jb_T, jb_F, jb_t, jb_f]
    refine e_appendWord hL hT hl.1 (by omega) (fun y1 c1 T1 => ?_)
    have L1 := hL.mono c1.1
    simp (disch := first | assumption | omega) only [XL_0, XL_1, XL_2, XL_3, XL_4, XL_5, XL_6, XL_7, XL_8, XL_9, XL_10, XL_11, XL_12, XL_13, XL_14, XL_15, XL_16, XL_17, XL_18, XL_19, XL_20, XL_21, XL_22, XL_23, XL_24, XL_25, XL_26, XL_27, XL_28, XL_29, XL_30, XL_31, XL_32, XL_33, XL_34, XL_35, XL_36, XL_37, XL_38, XL_39, XL_40, XL_41, XL_42, XL_43, XL_44, XL_45, XL_46, XL_47, WS_0, WS_1, WS_2, WS_3, WS_4, WS_5, WS_6, WS_7, WS_8, WS_9, WS_10, WS_11, WS_12, WS_13, WS_14, WS_15, WS_16, WS_17, WS_18, WS_19, WS_20, PS_0, PS_1, PS_2, PS_3, PS_4, PS_5, PS_6, ji_add, ji_sub, ji_mul, ji_neg, ji_lit0, ji_ofNat, ji_lt, ji_le, ji_eq, ji_nat, ji_in, qV_at, qI_at, qJ_at, qD_at, qA_at, qA_no, nb0, nb1, cat_r, cat_i, Option.some.injEq, exists_eq_left', true_and, and_true, if_true, if_false, ite_not, not_true_eq_false, not_false_eq_true, Sum.inr.injEq, exists_eq_right', true_or, or_true, and_self, Int.cast_ofNat_Int, reduceCtorEq, or_false, false_or, false_and, and_false, jb_zero, lt7_0, lt7_1, lt7_2, lt7_3, lt7_4, lt7_5, lt7_6, Nat.reduceAdd, Nat.reduceLeDiff, c_X8_appendInput_1, c_X8_appendInput_2, c_X8_appendInput_3, c_X8_appendInput_4, c_X8_appendInput_5, ↓reduceIte, ilt_t, ilt_f, ile_t, ile_f, ieq_t, ieq_f, jb_T, jb_F, jb_t, jb_f]
    refine e_appendWord L1 T1 (by omega) (by omega) (fun y2 c2 T2 => ?_)
    have L2 := L1.mono c2.1
    simp (disch := first | assumption | omega) only [XL_0, XL_1, XL_2, XL_3, XL_4, XL_5, XL_6, XL_7, XL_8, XL_9, XL_10, XL_11, XL_12, XL_13, XL_14, XL_15, XL_16, XL_17, XL_18, XL_19, XL_20, XL_21, XL_22, XL_23, XL_24, XL_25, XL_26, XL_27, XL_28, XL_29, XL_30, XL_31, XL_32, XL_33, XL_34, XL_35, XL_36, XL_37, XL_38, XL_39, XL_40, XL_41, XL_42, XL_43, XL_44, XL_45, XL_46, XL_47, WS_0, WS_1, WS_2, WS_3, WS_4, WS_5, WS_6, WS_7, WS_8, WS_9, WS_10, WS_11, WS_12, WS_13, WS_14, WS_15, WS_16, WS_17, WS_18, WS_19, WS_20, PS_0, PS_1, PS_2, PS_3, PS_4, PS_5, PS_6, ji_add, ji_sub, ji_mul, ji_neg, ji_lit0, ji_ofNat, ji_lt, ji_le, ji_eq, ji_nat, ji_in, qV_at, qI_at, qJ_at, qD_at, qA_at, qA_no, nb0, nb1, cat_r, cat_i, Option.some.injEq, exists_eq_left', true_and, and_true, if_true, if_false, ite_not, not_true_eq_false, not_false_eq_true, Sum.inr.injEq, exists_eq_right', true_or, or_true, and_self, Int.cast_ofNat_Int, reduceCtorEq, or_false, false_or, false_and, and_false, jb_zero, lt7_0, lt7_1, lt7_2, lt7_3, lt7_4, lt7_5, lt7_6, Nat.reduceAdd, Nat.reduceLeDiff, c_X8_appendInput_1, c_X8_appendInput_2, c_X8_appendInput_3, c_X8_appendInput_4, c_X8_appendInput_5, ↓reduceIte, ilt_t, ilt_f, ile_t, ile_f, ieq_t, ieq_f, jb_T, jb_F, jb_t, jb_f]
    refine e_appendWord L2 T2 (by omega) (by omega) (fun y3 c3 T3 => ?_)
    have L3 := L2.mono c3.1
    simp (disch := first | assumption | omega) only [XL_0, XL_1, XL_2, XL_3, XL_4, XL_5, XL_6, XL_7, XL_8, XL_9, XL_10, XL_11, XL_12, XL_13, XL_14, XL_15, XL_16, XL_17, XL_18, XL_19, XL_20, XL_21, XL_22, XL_23, XL_24, XL_25, XL_26, XL_27, XL_28, XL_29, XL_30, XL_31, XL_32, XL_33, XL_34, XL_35, XL_36, XL_37, XL_38, XL_39, XL_40, XL_41, XL_42, XL_43, XL_44, XL_45, XL_46, XL_47, WS_0, WS_1, WS_2, WS_3, WS_4, WS_5, WS_6, WS_7, WS_8, WS_9, WS_10, WS_11, WS_12, WS_13, WS_14, WS_15, WS_16, WS_17, WS_18, WS_19, WS_20, PS_0, PS_1, PS_2, PS_3, PS_4, PS_5, PS_6, ji_add, ji_sub, ji_mul, ji_neg, ji_lit0, ji_ofNat, ji_lt, ji_le, ji_eq, ji_nat, ji_in, qV_at, qI_at, qJ_at, qD_at, qA_at, qA_no, nb0, nb1, cat_r, cat_i, Option.some.injEq, exists_eq_left', true_and, and_true, if_true, if_false, ite_not, not_true_eq_false, not_false_eq_true, Sum.inr.injEq, exists_eq_right', true_or, or_true, and_self, Int.cast_ofNat_Int, reduceCtorEq, or_false, false_or, false_and, and_false, jb_zero, lt7_0, lt7_1, lt7_2, lt7_3, lt7_4, lt7_5, lt7_6, Nat.reduceAdd, Nat.reduceLeDiff, c_X8_appendInput_1, c_X8_appendInput_2, c_X8_appendInput_3, c_X8_appendInput_4, c_X8_appendInput_5, ↓reduceIte, ilt_t, ilt_f, ile_t, ile_f, ieq_t, ieq_f, jb_T, jb_F, jb_t, jb_f]
    refine e_appendWord L3 T3 (by omega) (by omega) (fun y4 c4 T4 => ?_)
    have L4 := L3.mono c4.1
    simp (disch := first | assumption | omega) only [XL_0, XL_1, XL_2, XL_3, XL_4, XL_5, XL_6, XL_7, XL_8, XL_9, XL_10, XL_11, XL_12, XL_13, XL_14, XL_15, XL_16, XL_17, XL_18, XL_19, XL_20, XL_21, XL_22, XL_23, XL_24, XL_25, XL_26, XL_27, XL_28, XL_29, XL_30, XL_31, XL_32, XL_33, XL_34, XL_35, XL_36, XL_37, XL_38, XL_39, XL_40, XL_41, XL_42, XL_43, XL_44, XL_45, XL_46, XL_47, WS_0, WS_1, WS_2, WS_3, WS_4, WS_5, WS_6, WS_7, WS_8, WS_9, WS_10, WS_11, WS_12, WS_13, WS_14, WS_15, WS_16, WS_17, WS_18, WS_19, WS_20, PS_0, PS_1, PS_2, PS_3, PS_4, PS_5, PS_6, ji_add, ji_sub, ji_mul, ji_neg, ji_lit0, ji_ofNat, ji_lt, ji_le, ji_eq, ji_nat, ji_in, qV_at, qI_at, qJ_at, qD_at, qA_at, qA_no, nb0, nb1, cat_r, cat_i, Option.some.injEq, exists_eq_left', true_and, and_true, if_true, if_false, ite_not, not_true_eq_false, not_false_eq_true, Sum.inr.injEq, exists_eq_right', true_or, or_true, and_self, Int.cast_ofNat_Int, reduceCtorEq, or_false, false_or, false_and, and_false, jb_zero, lt7_0, lt7_1, lt7_2, lt7_3, lt7_4, lt7_5, lt7_6, Nat.reduceAdd, Nat.reduceLeDiff, c_X8_appendInput_1, c_X8_appendInput_2, c_X8_appendInput_3, c_X8_appendInput_4, c_X8_appendInput_5, ↓reduceIte, ilt_t, ilt_f, ile_t, ile_f, ieq_t, ieq_f, jb_T, jb_F, jb_t, jb_f]
    refine e_appendWord L4 T4 (by omega) (by omega) (fun y5 c5 T5 => ?_)
    have L5 := L4.mono c5.1
    have e1 : A.2.2.2.2.1.1 + 4 + 4 = A.2.2.2.2.1.1 + 8 := by omega
    have e2 : A.2.2.2.2.1.1 + 8 + 4 = A.2.2.2.2.1.1 + 12 := by omega
    have e3 : A.2.2.2.2.1.1 + 12 + 4 = A.2.2.2.2.1.1 + 16 := by omega
    have e4 : A.2.2.2.2.1.1 + 16 + 4 = A.2.2.2.2.1.1 + 20 := by omega
    rw [e1, e2, e3, e4] at T5
    have t5 := T5.1
    simp (disch := first | assumption | omega) only [XL_0, XL_1, XL_2, XL_3, XL_4, XL_5, XL_6, XL_7, XL_8, XL_9, XL_10, XL_11, XL_12, XL_13, XL_14, XL_15, XL_16, XL_17, XL_18, XL_19, XL_20, XL_21, XL_22, XL_23, XL_24, XL_25, XL_26, XL_27, XL_28, XL_29, XL_30, XL_31, XL_32, XL_33, XL_34, XL_35, XL_36, XL_37, XL_38, XL_39, XL_40, XL_41, XL_42, XL_43, XL_44, XL_45, XL_46, XL_47, WS_0, WS_1, WS_2, WS_3, WS_4, WS_5, WS_6, WS_7, WS_8, WS_9, WS_10, WS_11, WS_12, WS_13, WS_14, WS_15, WS_16, WS_17, WS_18, WS_19, WS_20, PS_0, PS_1, PS_2, PS_3, PS_4, PS_5, PS_6, ji_add, ji_sub, ji_mul, ji_neg, ji_lit0, ji_ofNat, ji_lt, ji_le, ji_eq, ji_nat, ji_in, qV_at, qI_at, qJ_at, qD_at, qA_at, qA_no, nb0, nb1, cat_r, cat_i, Option.some.injEq, exists_eq_left', true_and, and_true, if_true, if_false, ite_not, not_true_eq_false, not_false_eq_true, Sum.inr.injEq, exists_eq_right', true_or, or_true, and_self, Int.cast_ofNat_Int, reduceCtorEq, or_false, false_or, false_and, and_false, jb_zero, lt7_0, lt7_1, lt7_2, lt7_3, lt7_4, lt7_5, lt7_6, Nat.reduceAdd, Nat.reduceLeDiff, c_X8_appendInput_1, c_X8_appendInput_2, c_X8_appendInput_3, c_X8_appendInput_4, c_X8_appendInput_5, t5, ↓reduceIte, ilt_t, ilt_f, ile_t, ile_f, ieq_t, ieq_f, jb_T, jb_F, jb_t, jb_f]
    have c := c5.trans (c4.trans (c3.trans (c2.trans c1)))
    obtain ⟨x1, x2, x3, x4, x5, x6, x7⟩ := hx
    exact hQ y5 (c.mono (fun a ha => by unfold inT at ha; unfold inX; omega)) ⟨L5, x2.frame hi.1.1.1 c (fun a a0 a1 => by unfold inT; omega), x3.frame c (fun a a0 a1 => by unfold inT; omega), x4.frame hi.2.1.2.2 c (fun a a0 a1 => by unfold inT; omega), x5.frame hi.2.2.1 c (fun a a0 a1 a2 => by unfold inT; omega), T5, x7.frame c (by unfold inT; omega) (by unfold inT; omega)⟩
theorem q_trunc (hx : XS μ x A) (hi : INV A) {m : Int} (m0 : -2147483648 ≤ m) (m1 : m < 2147483648) (hQ : CP μ x Q (oTrunc A m)) : s_X8_truncateInput μ [.ref x, .int (ji m)] Q X := by
  have hL := hx.1
  have hT := hx.2.2.2.2.2.1
  have hl := hi.2.2.2.1
  have t1 := hT.1
  unfold oTrunc at hQ
  by_cases h1 : 0 ≤ m ∧ m ≤ A.2.2.2.2.1.1
  · rw [if_pos h1] at hQ
    simp (disch := first | assumption | omega) only [XL_0, XL_1, XL_2, XL_3, XL_4, XL_5, XL_6, XL_7, XL_8, XL_9, XL_10, XL_11, XL_12, XL_13, XL_14, XL_15, XL_16, XL_17, XL_18, XL_19, XL_20, XL_21, XL_22, XL_23, XL_24, XL_25, XL_26, XL_27, XL_28, XL_29, XL_30, XL_31, XL_32, XL_33, XL_34, XL_35, XL_36, XL_37, XL_38, XL_39, XL_40, XL_41, XL_42, XL_43, XL_44, XL_45, XL_46, XL_47, WS_0, WS_1, WS_2, WS_3, WS_4, WS_5, WS_6, WS_7, WS_8, WS_9, WS_10, WS_11, WS_12, WS_13, WS_14, WS_15, WS_16, WS_17, WS_18, WS_19, WS_20, PS_0, PS_1, PS_2, PS_3, PS_4, PS_5, PS_6, ji_add, ji_sub, ji_mul, ji_neg, ji_lit0, ji_ofNat, ji_lt, ji_le, ji_eq, ji_nat, ji_in, qV_at, qI_at, qJ_at, qD_at, qA_at, qA_no, nb0, nb1, cat_r, cat_i, Option.some.injEq, exists_eq_left', true_and, and_true, if_true, if_false, ite_not, not_true_eq_false, not_false_eq_true, Sum.inr.injEq, exists_eq_right', true_or, or_true, and_self, Int.cast_ofNat_Int, reduceCtorEq, or_false, false_or, false_and, and_false, jb_zero, lt7_0, lt7_1, lt7_2, lt7_3, lt7_4, lt7_5, lt7_6, Nat.reduceAdd, Nat.reduceLeDiff, u_X8_truncateInput, t1, ↓reduceIte, ilt_t, ilt_f, ile_t, ile_f, ieq_t, ieq_f, jb_T, jb_F, jb_t, jb_f]
    have c : CH (inT x) (sI μ 193 (x + 1171) (ji m)) μ := CH.sI (S := inT x) (CH.refl _ _) _ _ _ (Or.inl rfl)
    obtain ⟨x1, x2, x3, x4, x5, x6, x7⟩ := hx
    refine hQ _ (c.mono (fun a ha => by unfold inT at ha; unfold inX; omega)) ⟨hL.mono c.1, x2.frame hi.1.1.1 c (fun a a0 a1 => by unfold inT; omega), x3.frame c (fun a a0 a1 => by unfold inT; omega), x4.frame hi.2.1.2.2 c (fun a a0 a1 => by unfold inT; omega), x5.frame hi.2.2.1 c (fun a a0 a1 a2 => by unfold inT; omega), ⟨gI_sI_at _ _ _ _, ?_, ?_, fun i i0 i1 => x6.2.2.2 i i0 (by simp only at i1; omega)⟩, x7.frame c (by unfold inT; omega) (by unfold inT; omega)⟩
    · rw [gI_sI_k _ _ _ _ _ _ (by omega)]; exact x6.2.1
    · rw [gI_sI_k _ _ _ _ _ _ (by omega)]; exact x6.2.2.1
  · rw [if_neg h1] at hQ
    by_cases h2 : m < 0
    · simp (disch := first | assumption | omega) only [XL_0, XL_1, XL_2, XL_3, XL_4, XL_5, XL_6, XL_7, XL_8, XL_9, XL_10, XL_11, XL_12, XL_13, XL_14, XL_15, XL_16, XL_17, XL_18, XL_19, XL_20, XL_21, XL_22, XL_23, XL_24, XL_25, XL_26, XL_27, XL_28, XL_29, XL_30, XL_31, XL_32, XL_33, XL_34, XL_35, XL_36, XL_37, XL_38, XL_39, XL_40, XL_41, XL_42, XL_43, XL_44, XL_45, XL_46, XL_47, WS_0, WS_1, WS_2, WS_3, WS_4, WS_5, WS_6, WS_7, WS_8, WS_9, WS_10, WS_11, WS_12, WS_13, WS_14, WS_15, WS_16, WS_17, WS_18, WS_19, WS_20, PS_0, PS_1, PS_2, PS_3, PS_4, PS_5, PS_6, ji_add, ji_sub, ji_mul, ji_neg, ji_lit0, ji_ofNat, ji_lt, ji_le, ji_eq, ji_nat, ji_in, qV_at, qI_at, qJ_at, qD_at, qA_at, qA_no, nb0, nb1, cat_r, cat_i, Option.some.injEq, exists_eq_left', true_and, and_true, if_true, if_false, ite_not, not_true_eq_false, not_false_eq_true, Sum.inr.injEq, exists_eq_right', true_or, or_true, and_self, Int.cast_ofNat_Int, reduceCtorEq, or_false, false_or, false_and, and_false, jb_zero, lt7_0, lt7_1, lt7_2, lt7_3, lt7_4, lt7_5, lt7_6, Nat.reduceAdd, Nat.reduceLeDiff, u_X8_truncateInput, t1, ↓reduceIte, ilt_t, ilt_f, ile_t, ile_f, ieq_t, ieq_f, jb_T, jb_F, jb_t, jb_f]
      exact CP.stay hx hQ
    · simp (disch := first | assumption | omega) only [XL_0, XL_1, XL_2, XL_3, XL_4, XL_5, XL_6, XL_7, XL_8, XL_9, XL_10, XL_11, XL_12, XL_13, XL_14, XL_15, XL_16, XL_17, XL_18, XL_19, XL_20, XL_21, XL_22, XL_23, XL_24, XL_25, XL_26, XL_27, XL_28, XL_29, XL_30, XL_31, XL_32, XL_33, XL_34, XL_35, XL_36, XL_37, XL_38, XL_39, XL_40, XL_41, XL_42, XL_43, XL_44, XL_45, XL_46, XL_47, WS_0, WS_1, WS_2, WS_3, WS_4, WS_5, WS_6, WS_7, WS_8, WS_9, WS_10, WS_11, WS_12, WS_13, WS_14, WS_15, WS_16, WS_17, WS_18, WS_19, WS_20, PS_0, PS_1, PS_2, PS_3, PS_4, PS_5, PS_6, ji_add, ji_sub, ji_mul, ji_neg, ji_lit0, ji_ofNat, ji_lt, ji_le, ji_eq, ji_nat, ji_in, qV_at, qI_at, qJ_at, qD_at, qA_at, qA_no, nb0, nb1, cat_r, cat_i, Option.some.injEq, exists_eq_left', true_and, and_true, if_true, if_false, ite_not, not_true_eq_false, not_false_eq_true, Sum.inr.injEq, exists_eq_right', true_or, or_true, and_self, Int.cast_ofNat_Int, reduceCtorEq, or_false, false_or, false_and, and_false, jb_zero, lt7_0, lt7_1, lt7_2, lt7_3, lt7_4, lt7_5, lt7_6, Nat.reduceAdd, Nat.reduceLeDiff, u_X8_truncateInput, t1, ↓reduceIte, ilt_t, ilt_f, ile_t, ile_f, ieq_t, ieq_f, jb_T, jb_F, jb_t, jb_f]
      exact CP.stay hx hQ
theorem q_errorCode (hx : XS μ x A) : s_X8_errorCode μ [.ref x] Q X = Q (some (.int (ji A.2.2.2.2.2.1.1))) μ := by
  have hL := hx.1
  have t2 := hx.2.2.2.2.2.1.2.1
  simp (disch := first | assumption | omega) only [XL_0, XL_1, XL_2, XL_3, XL_4, XL_5, XL_6, XL_7, XL_8, XL_9, XL_10, XL_11, XL_12, XL_13, XL_14, XL_15, XL_16, XL_17, XL_18, XL_19, XL_20, XL_21, XL_22, XL_23, XL_24, XL_25, XL_26, XL_27, XL_28, XL_29, XL_30, XL_31, XL_32, XL_33, XL_34, XL_35, XL_36, XL_37, XL_38, XL_39, XL_40, XL_41, XL_42, XL_43, XL_44, XL_45, XL_46, XL_47, WS_0, WS_1, WS_2, WS_3, WS_4, WS_5, WS_6, WS_7, WS_8, WS_9, WS_10, WS_11, WS_12, WS_13, WS_14, WS_15, WS_16, WS_17, WS_18, WS_19, WS_20, PS_0, PS_1, PS_2, PS_3, PS_4, PS_5, PS_6, ji_add, ji_sub, ji_mul, ji_neg, ji_lit0, ji_ofNat, ji_lt, ji_le, ji_eq, ji_nat, ji_in, qV_at, qI_at, qJ_at, qD_at, qA_at, qA_no, nb0, nb1, cat_r, cat_i, Option.some.injEq, exists_eq_left', true_and, and_true, if_true, if_false, ite_not, not_true_eq_false, not_false_eq_true, Sum.inr.injEq, exists_eq_right', true_or, or_true, and_self, Int.cast_ofNat_Int, reduceCtorEq, or_false, false_or, false_and, and_false, jb_zero, lt7_0, lt7_1, lt7_2, lt7_3, lt7_4, lt7_5, lt7_6, Nat.reduceAdd, Nat.reduceLeDiff, u_X8_errorCode, t2, ↓reduceIte, ilt_t, ilt_f, ile_t, ile_f, ieq_t, ieq_f, jb_T, jb_F, jb_t, jb_f]
theorem q_errorPosition (hx : XS μ x A) : s_X8_errorPosition μ [.ref x] Q X = Q (some (.int (ji A.2.2.2.2.2.1.2))) μ := by
  have hL := hx.1
  have t3 := hx.2.2.2.2.2.1.2.2.1
  simp (disch := first | assumption | omega) only [XL_0, XL_1, XL_2, XL_3, XL_4, XL_5, XL_6, XL_7, XL_8, XL_9, XL_10, XL_11, XL_12, XL_13, XL_14, XL_15, XL_16, XL_17, XL_18, XL_19, XL_20, XL_21, XL_22, XL_23, XL_24, XL_25, XL_26, XL_27, XL_28, XL_29, XL_30, XL_31, XL_32, XL_33, XL_34, XL_35, XL_36, XL_37, XL_38, XL_39, XL_40, XL_41, XL_42, XL_43, XL_44, XL_45, XL_46, XL_47, WS_0, WS_1, WS_2, WS_3, WS_4, WS_5, WS_6, WS_7, WS_8, WS_9, WS_10, WS_11, WS_12, WS_13, WS_14, WS_15, WS_16, WS_17, WS_18, WS_19, WS_20, PS_0, PS_1, PS_2, PS_3, PS_4, PS_5, PS_6, ji_add, ji_sub, ji_mul, ji_neg, ji_lit0, ji_ofNat, ji_lt, ji_le, ji_eq, ji_nat, ji_in, qV_at, qI_at, qJ_at, qD_at, qA_at, qA_no, nb0, nb1, cat_r, cat_i, Option.some.injEq, exists_eq_left', true_and, and_true, if_true, if_false, ite_not, not_true_eq_false, not_false_eq_true, Sum.inr.injEq, exists_eq_right', true_or, or_true, and_self, Int.cast_ofNat_Int, reduceCtorEq, or_false, false_or, false_and, and_false, jb_zero, lt7_0, lt7_1, lt7_2, lt7_3, lt7_4, lt7_5, lt7_6, Nat.reduceAdd, Nat.reduceLeDiff, u_X8_errorPosition, t3, ↓reduceIte, ilt_t, ilt_f, ile_t, ile_f, ieq_t, ieq_f, jb_T, jb_F, jb_t, jb_f]
theorem e_valueAt {a : Nat} {i v : Int} (ha : tg μ a = some (.inr 0)) (hl : ln μ a < 2147483648) (i0 : 0 ≤ i) (i1 : i < ln μ a) (hv : aI μ a i.toNat = ji v) : s_X8_valueAt μ [.ref a, .int (ji i)] Q X = Q (some (.int (ji v))) μ := by
  simp (disch := first | assumption | omega) only [XL_0, XL_1, XL_2, XL_3, XL_4, XL_5, XL_6, XL_7, XL_8, XL_9, XL_10, XL_11, XL_12, XL_13, XL_14, XL_15, XL_16, XL_17, XL_18, XL_19, XL_20, XL_21, XL_22, XL_23, XL_24, XL_25, XL_26, XL_27, XL_28, XL_29, XL_30, XL_31, XL_32, XL_33, XL_34, XL_35, XL_36, XL_37, XL_38, XL_39, XL_40, XL_41, XL_42, XL_43, XL_44, XL_45, XL_46, XL_47, WS_0, WS_1, WS_2, WS_3, WS_4, WS_5, WS_6, WS_7, WS_8, WS_9, WS_10, WS_11, WS_12, WS_13, WS_14, WS_15, WS_16, WS_17, WS_18, WS_19, WS_20, PS_0, PS_1, PS_2, PS_3, PS_4, PS_5, PS_6, ji_add, ji_sub, ji_mul, ji_neg, ji_lit0, ji_ofNat, ji_lt, ji_le, ji_eq, ji_nat, ji_in, qV_at, qI_at, qJ_at, qD_at, qA_at, qA_no, nb0, nb1, cat_r, cat_i, Option.some.injEq, exists_eq_left', true_and, and_true, if_true, if_false, ite_not, not_true_eq_false, not_false_eq_true, Sum.inr.injEq, exists_eq_right', true_or, or_true, and_self, Int.cast_ofNat_Int, reduceCtorEq, or_false, false_or, false_and, and_false, jb_zero, lt7_0, lt7_1, lt7_2, lt7_3, lt7_4, lt7_5, lt7_6, Nat.reduceAdd, Nat.reduceLeDiff, u_X8_valueAt, ha, hv, ↓reduceIte, ilt_t, ilt_f, ile_t, ile_f, ieq_t, ieq_f, jb_T, jb_F, jb_t, jb_f]
theorem e_valueNo {a : Nat} {i : Int} (ha : tg μ a = some (.inr 0)) (hl : ln μ a < 2147483648) (a0 : -2147483648 ≤ i) (a1 : i < 2147483648) (hi : ¬ (0 ≤ i ∧ i < ln μ a)) : s_X8_valueAt μ [.ref a, .int (ji i)] Q X = Q (some (.int (ji (-1)))) μ := by
  by_cases h : i < 0
  · simp (disch := first | assumption | omega) only [XL_0, XL_1, XL_2, XL_3, XL_4, XL_5, XL_6, XL_7, XL_8, XL_9, XL_10, XL_11, XL_12, XL_13, XL_14, XL_15, XL_16, XL_17, XL_18, XL_19, XL_20, XL_21, XL_22, XL_23, XL_24, XL_25, XL_26, XL_27, XL_28, XL_29, XL_30, XL_31, XL_32, XL_33, XL_34, XL_35, XL_36, XL_37, XL_38, XL_39, XL_40, XL_41, XL_42, XL_43, XL_44, XL_45, XL_46, XL_47, WS_0, WS_1, WS_2, WS_3, WS_4, WS_5, WS_6, WS_7, WS_8, WS_9, WS_10, WS_11, WS_12, WS_13, WS_14, WS_15, WS_16, WS_17, WS_18, WS_19, WS_20, PS_0, PS_1, PS_2, PS_3, PS_4, PS_5, PS_6, ji_add, ji_sub, ji_mul, ji_neg, ji_lit0, ji_ofNat, ji_lt, ji_le, ji_eq, ji_nat, ji_in, qV_at, qI_at, qJ_at, qD_at, qA_at, qA_no, nb0, nb1, cat_r, cat_i, Option.some.injEq, exists_eq_left', true_and, and_true, if_true, if_false, ite_not, not_true_eq_false, not_false_eq_true, Sum.inr.injEq, exists_eq_right', true_or, or_true, and_self, Int.cast_ofNat_Int, reduceCtorEq, or_false, false_or, false_and, and_false, jb_zero, lt7_0, lt7_1, lt7_2, lt7_3, lt7_4, lt7_5, lt7_6, Nat.reduceAdd, Nat.reduceLeDiff, u_X8_valueAt, ha, ↓reduceIte, ilt_t, ilt_f, ile_t, ile_f, ieq_t, ieq_f, jb_T, jb_F, jb_t, jb_f]
  · simp (disch := first | assumption | omega) only [XL_0, XL_1, XL_2, XL_3, XL_4, XL_5, XL_6, XL_7, XL_8, XL_9, XL_10, XL_11, XL_12, XL_13, XL_14, XL_15, XL_16, XL_17, XL_18, XL_19, XL_20, XL_21, XL_22, XL_23, XL_24, XL_25, XL_26, XL_27, XL_28, XL_29, XL_30, XL_31, XL_32, XL_33, XL_34, XL_35, XL_36, XL_37, XL_38, XL_39, XL_40, XL_41, XL_42, XL_43, XL_44, XL_45, XL_46, XL_47, WS_0, WS_1, WS_2, WS_3, WS_4, WS_5, WS_6, WS_7, WS_8, WS_9, WS_10, WS_11, WS_12, WS_13, WS_14, WS_15, WS_16, WS_17, WS_18, WS_19, WS_20, PS_0, PS_1, PS_2, PS_3, PS_4, PS_5, PS_6, ji_add, ji_sub, ji_mul, ji_neg, ji_lit0, ji_ofNat, ji_lt, ji_le, ji_eq, ji_nat, ji_in, qV_at, qI_at, qJ_at, qD_at, qA_at, qA_no, nb0, nb1, cat_r, cat_i, Option.some.injEq, exists_eq_left', true_and, and_true, if_true, if_false, ite_not, not_true_eq_false, not_false_eq_true, Sum.inr.injEq, exists_eq_right', true_or, or_true, and_self, Int.cast_ofNat_Int, reduceCtorEq, or_false, false_or, false_and, and_false, jb_zero, lt7_0, lt7_1, lt7_2, lt7_3, lt7_4, lt7_5, lt7_6, Nat.reduceAdd, Nat.reduceLeDiff, u_X8_valueAt, ha, ↓reduceIte, ilt_t, ilt_f, ile_t, ile_f, ieq_t, ieq_f, jb_T, jb_F, jb_t, jb_f]
theorem q_outputByte (hx : XS μ x A) (hi : INV A) {i : Int} (i0 : -2147483648 ≤ i) (i1 : i < 2147483648) : s_X8_outputByte μ [.ref x, .int (ji i)] Q X = Q (some (.int (ji (vOut A i)))) μ := by
  have hL := hx.1
  have hO := hx.2.2.2.2.2.2
  have ho := hi.2.2.2.2.2
  have o1 := hO.1
  have l1 := XL_45 hL
  have t1 := XL_44 hL
  unfold vOut
  by_cases h1 : A.2.2.2.2.2.2.1 ≤ i
  · simp (disch := first | assumption | omega) only [XL_0, XL_1, XL_2, XL_3, XL_4, XL_5, XL_6, XL_7, XL_8, XL_9, XL_10, XL_11, XL_12, XL_13, XL_14, XL_15, XL_16, XL_17, XL_18, XL_19, XL_20, XL_21, XL_22, XL_23, XL_24, XL_25, XL_26, XL_27, XL_28, XL_29, XL_30, XL_31, XL_32, XL_33, XL_34, XL_35, XL_36, XL_37, XL_38, XL_39, XL_40, XL_41, XL_42, XL_43, XL_44, XL_45, XL_46, XL_47, WS_0, WS_1, WS_2, WS_3, WS_4, WS_5, WS_6, WS_7, WS_8, WS_9, WS_10, WS_11, WS_12, WS_13, WS_14, WS_15, WS_16, WS_17, WS_18, WS_19, WS_20, PS_0, PS_1, PS_2, PS_3, PS_4, PS_5, PS_6, ji_add, ji_sub, ji_mul, ji_neg, ji_lit0, ji_ofNat, ji_lt, ji_le, ji_eq, ji_nat, ji_in, qV_at, qI_at, qJ_at, qD_at, qA_at, qA_no, nb0, nb1, cat_r, cat_i, Option.some.injEq, exists_eq_left', true_and, and_true, if_true, if_false, ite_not, not_true_eq_false, not_false_eq_true, Sum.inr.injEq, exists_eq_right', true_or, or_true, and_self, Int.cast_ofNat_Int, reduceCtorEq, or_false, false_or, false_and, and_false, jb_zero, lt7_0, lt7_1, lt7_2, lt7_3, lt7_4, lt7_5, lt7_6, Nat.reduceAdd, Nat.reduceLeDiff, c_X8_outputByte_1, u_X8_outputByte, o1, ↓reduceIte, ilt_t, ilt_f, ile_t, ile_f, ieq_t, ieq_f, jb_T, jb_F, jb_t, jb_f]
  · by_cases h2 : 0 ≤ i
    · have hv := hO.2 i h2 (by omega)
      simp (disch := first | assumption | omega) only [XL_0, XL_1, XL_2, XL_3, XL_4, XL_5, XL_6, XL_7, XL_8, XL_9, XL_10, XL_11, XL_12, XL_13, XL_14, XL_15, XL_16, XL_17, XL_18, XL_19, XL_20, XL_21, XL_22, XL_23, XL_24, XL_25, XL_26, XL_27, XL_28, XL_29, XL_30, XL_31, XL_32, XL_33, XL_34, XL_35, XL_36, XL_37, XL_38, XL_39, XL_40, XL_41, XL_42, XL_43, XL_44, XL_45, XL_46, XL_47, WS_0, WS_1, WS_2, WS_3, WS_4, WS_5, WS_6, WS_7, WS_8, WS_9, WS_10, WS_11, WS_12, WS_13, WS_14, WS_15, WS_16, WS_17, WS_18, WS_19, WS_20, PS_0, PS_1, PS_2, PS_3, PS_4, PS_5, PS_6, ji_add, ji_sub, ji_mul, ji_neg, ji_lit0, ji_ofNat, ji_lt, ji_le, ji_eq, ji_nat, ji_in, qV_at, qI_at, qJ_at, qD_at, qA_at, qA_no, nb0, nb1, cat_r, cat_i, Option.some.injEq, exists_eq_left', true_and, and_true, if_true, if_false, ite_not, not_true_eq_false, not_false_eq_true, Sum.inr.injEq, exists_eq_right', true_or, or_true, and_self, Int.cast_ofNat_Int, reduceCtorEq, or_false, false_or, false_and, and_false, jb_zero, lt7_0, lt7_1, lt7_2, lt7_3, lt7_4, lt7_5, lt7_6, Nat.reduceAdd, Nat.reduceLeDiff, c_X8_outputByte_1, u_X8_outputByte, o1, e_valueAt t1 (by rw [l1]; omega) h2 (by rw [l1]; omega) hv, ↓reduceIte, ilt_t, ilt_f, ile_t, ile_f, ieq_t, ieq_f, jb_T, jb_F, jb_t, jb_f]
    · simp (disch := first | assumption | omega) only [XL_0, XL_1, XL_2, XL_3, XL_4, XL_5, XL_6, XL_7, XL_8, XL_9, XL_10, XL_11, XL_12, XL_13, XL_14, XL_15, XL_16, XL_17, XL_18, XL_19, XL_20, XL_21, XL_22, XL_23, XL_24, XL_25, XL_26, XL_27, XL_28, XL_29, XL_30, XL_31, XL_32, XL_33, XL_34, XL_35, XL_36, XL_37, XL_38, XL_39, XL_40, XL_41, XL_42, XL_43, XL_44, XL_45, XL_46, XL_47, WS_0, WS_1, WS_2, WS_3, WS_4, WS_5, WS_6, WS_7, WS_8, WS_9, WS_10, WS_11, WS_12, WS_13, WS_14, WS_15, WS_16, WS_17, WS_18, WS_19, WS_20, PS_0, PS_1, PS_2, PS_3, PS_4, PS_5, PS_6, ji_add, ji_sub, ji_mul, ji_neg, ji_lit0, ji_ofNat, ji_lt, ji_le, ji_eq, ji_nat, ji_in, qV_at, qI_at, qJ_at, qD_at, qA_at, qA_no, nb0, nb1, cat_r, cat_i, Option.some.injEq, exists_eq_left', true_and, and_true, if_true, if_false, ite_not, not_true_eq_false, not_false_eq_true, Sum.inr.injEq, exists_eq_right', true_or, or_true, and_self, Int.cast_ofNat_Int, reduceCtorEq, or_false, false_or, false_and, and_false, jb_zero, lt7_0, lt7_1, lt7_2, lt7_3, lt7_4, lt7_5, lt7_6, Nat.reduceAdd, Nat.reduceLeDiff, c_X8_outputByte_1, u_X8_outputByte, o1, e_valueNo t1 (by rw [l1]; omega) i0 i1 (by omega), ↓reduceIte, ilt_t, ilt_f, ile_t, ile_f, ieq_t, ieq_f, jb_T, jb_F, jb_t, jb_f]
end
