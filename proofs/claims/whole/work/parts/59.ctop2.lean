/-! ===== the class's questions, with loops ===== -/
/-- of several the first one with the most -/
def mxs (f : Int → Int) (l : Int) (x : Int × Int) : Int × Int := if x.2 < f l then (l, f l) else x
def mxf (f : Int → Int) (d : Nat) : Int := (foldz (mxs f) 0 d (-1, 0)).1
def wis (s N : Int) (Z : Int → Int) : Int := mxf (fun n => cntz (lsn s Z 0 n) 0 72 0) N.toNat
def fcn (Z : Int → Int) (l : Int) : Int := cntz (fun k => decide (fnd Z ((2666 + 120 * k)) l ≠ -1)) 0 (Z 1).toNat 0
def nsg (s : Int) (Z : Int → Int) (n l o : Int) : Int := if hol s Z n l = true ∧ (o = -1 ∨ les Z n l < o) then les Z n l else o
def nsf (s N : Int) (Z : Int → Int) : Int := foldz (fun n o => foldz (nsg s Z n) 0 72 o) 0 N.toNat (-1)
def dhm (w : Int) (Z : Int → Int) (o : Int) : Nat → Int
  | 0 => -1
  | i + 1 => if Z (2 + lkb w (Z (o + 11 + (i + 1))) (Z (o + 11 + i))) ≠ 0 then lkb w (Z (o + 11 + (i + 1))) (Z (o + 11 + i)) else dhm w Z o i
def dgl (w h N : Int) (Z : Int → Int) (l x : Int) : Int := if isl w h N l = true then 31 * x + (if Z (2 + l) ≠ 0 then 1 else 0) else x
def dgk (Z : Int → Int) (k x : Int) : Int := 31 * (31 * (31 * x + Z ((2666 + 120 * k) + 4)) + Z ((2666 + 120 * k) + 3)) + Z ((2666 + 120 * k) + 5)
def alc (s N c : Int) (Z : Int → Int) : Int := foldz (fun n x => x + cntz (lsn s Z c n) 0 72 0) 0 N.toNat 0
def dig (w h N s : Int) (Z : Int → Int) : Int := 31 * foldz (dgk Z) 0 (Z 1).toNat (foldz (dgl w h N Z) 0 72 (31 + Z 0)) + alc s N 0 Z
def mhg (Z : Int → Int) (k : Int) (x : Int × Int) : Int × Int := if Z ((2666 + 120 * k) + 3) = 3 then (x.1 + Z ((2666 + 120 * k) + 5), x.2 + 1) else x
def mhf (Z : Int → Int) : Int × Int := foldz (mhg Z) 0 (Z 1).toNat (0, 0)
def sn (Z : Int → Int) (n : Int) : Bool := foldz (fun k b => b || vis Z ((2666 + 120 * k)) n) 0 (Z 1).toNat false
def ung (Z : Int → Int) (i l b : Int) : Int ⊕ Int := if sn Z l = true then .inl b else if b = i then .inr l else .inl (b + 1)
def unf (Z : Int → Int) (N i : Int) : Int := match findz (ung Z i) 0 N.toNat 0 with
  | .inl _ => -1
  | .inr r => r
def pin (Z : Int → Int) (c v : Int) : Int32 := foldz (fun k x => if Z ((2666 + 120 * k) + c) = v then x ||| jshl (ji 1) (ji k) else x) 0 (Z 1).toNat (ji 0)
def cnt (w h N s sm : Int) (Z : Int → Int) (c : Int) : Int :=
  if c = 0 then w else if c = 1 then h else if c = 2 then s else if c = 3 then Z 0 else if c = 4 then cntz (fun l => isl w h N l && (decide ((0 : Int) = 0) || decide (Z (2 + l) ≠ 0))) 0 72 0 else if c = 5 then cntz (fun l => isl w h N l && (decide ((1 : Int) = 0) || decide (Z (2 + l) ≠ 0))) 0 72 0 else if c = 6 then Z 1 else if c = 7 then cntz (act Z) 0 (Z 1).toNat 0 else if c = 8 then alc s N 0 Z else if c = 9 then alc s N 1 Z else if c = 10 then foldz (fun k x => x + Z ((2666 + 120 * k) + 5)) 0 (Z 1).toNat 0 else if c = 11 then sm else -1
section
variable {μ : XM} {xa : Nat} {w h N s : Int} {Z : Int → Int} {Q : XQ} {X : XX}
theorem nodesX (hC : CW μ (xa + 1) w h N s Z) : gI μ 2 (xa + 1 + 1) = ji N := hC.1.2.2.2.1
theorem q_count (hX : XW μ xa w h N s Z) {sm c : Int} (n1 : -2147483648 ≤ c) (n2 : c < 2147483648) (X2 : gR μ 258 xa = some (xa + 167)) (X3 : tg μ (xa + 167) = some (.inl 1)) (X4 : gI μ 34 (xa + 167) = ji sm) : s_X8_count μ [.ref xa, .int (ji c)] Q X = Q (some (.int (ji (cnt w h N s sm Z c)))) μ := by
  obtain ⟨⟨X0, X1⟩, hS, hC, hI, htm, hpk⟩ := hX
  have g8 := hC.1.2.1
  have g9 := hC.1.2.2.1
  have c1 := hC.2.1
  have c2 := hC.2.2.1
  have c3 := hC.2.2.2.1
  have hc : c = 0 ∨ c = 1 ∨ c = 2 ∨ c = 3 ∨ c = 4 ∨ c = 5 ∨ c = 6 ∨ c = 7 ∨ c = 8 ∨ c = 9 ∨ c = 10 ∨ c = 11 ∨ (c < 0 ∨ 11 < c) := by omega
  unfold cnt alc
  rw [u_X8_count]
  rcases hc with rfl | rfl | rfl | rfl | rfl | rfl | rfl | rfl | rfl | rfl | rfl | rfl | hc
  all_goals simp (disch := first | assumption | omega) only [WS_0, WS_1, WS_2, WS_3, WS_4, WS_5, WS_6, WS_7, WS_8, WS_9, WS_10, WS_11, WS_12, WS_13, WS_14, WS_15, WS_16, WS_17, WS_18, WS_19, WS_20, PS_0, PS_1, PS_2, PS_3, PS_4, PS_5, PS_6, ji_add, ji_sub, ji_mul, ji_neg, ji_lit0, ji_ofNat, ji_lt, ji_le, ji_eq, ji_nat, ji_in, qV_at, qI_at, qJ_at, qD_at, qA_at, qA_no, nb0, nb1, cat_r, cat_i, Option.some.injEq, exists_eq_left', true_and, and_true, if_true, if_false, ite_not, not_true_eq_false, not_false_eq_true, Sum.inr.injEq, exists_eq_right', true_or, or_true, and_self, Int.cast_ofNat_Int, reduceCtorEq, or_false, false_or, false_and, and_false, jb_zero, lt7_0, lt7_1, lt7_2, lt7_3, lt7_4, lt7_5, lt7_6, X0, X1, X2, X3, X4, g8, g9, c1, c2, c3, c_X8_count_1, c_X8_count_2, c_X8_count_3, c_X8_count_4, c_X8_count_5, c_X8_count_6, e_countLinks hS hC hI.1, e_countActive hS hC hI.1, e_countAllLessons hS hC hI.1, e_sumHops hS hC hI.1, ↓reduceIte, ilt_t, ilt_f, ile_t, ile_f, ieq_t, ieq_f, jb_T, jb_F, jb_t, jb_f]
theorem q_knowers (hX : XW μ xa w h N s Z) {l' : Int} (n1 : -2147483648 ≤ l') (n2 : l' < 2147483648) : s_X8_knowers μ [.ref xa, .int (ji l')] Q X = ocC Q X μ IOB IAE (oc1 (isl w h N l' = true) (cntz (fun n => hol s Z n l') 0 N.toNat 0)) := by
  have hX' := hX
  obtain ⟨⟨X0, X1⟩, hS, hC, hI, htm, hpk⟩ := hX
  have nn := nodesX hC
  have hw := hI.1.1
  rw [ocC_1]
  by_cases hn : isl w h N l' = true
  · rw [if_pos hn]
    simp (disch := first | assumption | omega) only [WS_0, WS_1, WS_2, WS_3, WS_4, WS_5, WS_6, WS_7, WS_8, WS_9, WS_10, WS_11, WS_12, WS_13, WS_14, WS_15, WS_16, WS_17, WS_18, WS_19, WS_20, PS_0, PS_1, PS_2, PS_3, PS_4, PS_5, PS_6, ji_add, ji_sub, ji_mul, ji_neg, ji_lit0, ji_ofNat, ji_lt, ji_le, ji_eq, ji_nat, ji_in, qV_at, qI_at, qJ_at, qD_at, qA_at, qA_no, nb0, nb1, cat_r, cat_i, Option.some.injEq, exists_eq_left', true_and, and_true, if_true, if_false, ite_not, not_true_eq_false, not_false_eq_true, Sum.inr.injEq, exists_eq_right', true_or, or_true, and_self, Int.cast_ofNat_Int, reduceCtorEq, or_false, false_or, false_and, and_false, jb_zero, lt7_0, lt7_1, lt7_2, lt7_3, lt7_4, lt7_5, lt7_6, c_X8_knowers_1, u_X8_knowers, c_X8_knowers_2, X0, X1, q_reqLink hX', hn, Nat.reduceAdd, Nat.reduceLeDiff, ↓reduceIte, ilt_t, ilt_f, ile_t, ile_f, ieq_t, ieq_f, jb_T, jb_F, jb_t, jb_f]
    rw [l_X8_knowers_9, xseal_eq]
    refine fold_loop (fun mf x l => ln_X8_knowers_9 Q X mf [some (.ref xa), some (.int (ji l')), some (.int (ji x)), some (.int (ji l))] [] μ 1 6) (fun x => Q (some (.int (ji x))) μ) (fun l x => if hol s Z l l' = true then x + 1 else x) (fun l x => 0 ≤ x ∧ x ≤ l) (N) (fun mf x hx => ?_) (fun mf x l l0 l1 hx => ⟨?_, ?_⟩) _ 10000 (0) (0) (by omega) (by omega) (by omega) (by omega)
    · show ln_X8_knowers_9 Q X (mf + 1) [some (.ref xa), some (.int (ji l')), some (.int (ji x)), some (.int (ji (N)))] [] μ 1 6 = Q (some (.int (ji x))) μ
      rw [ul_X8_knowers_9]
      simp (disch := first | assumption | omega) only [WS_0, WS_1, WS_2, WS_3, WS_4, WS_5, WS_6, WS_7, WS_8, WS_9, WS_10, WS_11, WS_12, WS_13, WS_14, WS_15, WS_16, WS_17, WS_18, WS_19, WS_20, PS_0, PS_1, PS_2, PS_3, PS_4, PS_5, PS_6, ji_add, ji_sub, ji_mul, ji_neg, ji_lit0, ji_ofNat, ji_lt, ji_le, ji_eq, ji_nat, ji_in, qV_at, qI_at, qJ_at, qD_at, qA_at, qA_no, nb0, nb1, cat_r, cat_i, Option.some.injEq, exists_eq_left', true_and, and_true, if_true, if_false, ite_not, not_true_eq_false, not_false_eq_true, Sum.inr.injEq, exists_eq_right', true_or, or_true, and_self, Int.cast_ofNat_Int, reduceCtorEq, or_false, false_or, false_and, and_false, jb_zero, lt7_0, lt7_1, lt7_2, lt7_3, lt7_4, lt7_5, lt7_6, c_X8_knowers_1, c_X8_knowers_2, X0, X1, nn, ↓reduceIte, ilt_t, ilt_f, ile_t, ile_f, ieq_t, ieq_f, jb_T, jb_F, jb_t, jb_f]
    · show ln_X8_knowers_9 Q X (mf + 1) [some (.ref xa), some (.int (ji l')), some (.int (ji x)), some (.int (ji l))] [] μ 1 6 = ln_X8_knowers_9 Q X mf [some (.ref xa), some (.int (ji l')), some (.int (ji (if hol s Z l l' = true then x + 1 else x))), some (.int (ji (l + 1)))] [] μ 1 6
      rw [ul_X8_knowers_9]
      by_cases hw : hol s Z l l' = true <;> simp (disch := first | assumption | omega) only [WS_0, WS_1, WS_2, WS_3, WS_4, WS_5, WS_6, WS_7, WS_8, WS_9, WS_10, WS_11, WS_12, WS_13, WS_14, WS_15, WS_16, WS_17, WS_18, WS_19, WS_20, PS_0, PS_1, PS_2, PS_3, PS_4, PS_5, PS_6, ji_add, ji_sub, ji_mul, ji_neg, ji_lit0, ji_ofNat, ji_lt, ji_le, ji_eq, ji_nat, ji_in, qV_at, qI_at, qJ_at, qD_at, qA_at, qA_no, nb0, nb1, cat_r, cat_i, Option.some.injEq, exists_eq_left', true_and, and_true, if_true, if_false, ite_not, not_true_eq_false, not_false_eq_true, Sum.inr.injEq, exists_eq_right', true_or, or_true, and_self, Int.cast_ofNat_Int, reduceCtorEq, or_false, false_or, false_and, and_false, jb_zero, lt7_0, lt7_1, lt7_2, lt7_3, lt7_4, lt7_5, lt7_6, c_X8_knowers_1, c_X8_knowers_2, X0, X1, nn, e_isWarned hS hC hI.1, hw, ↓reduceIte, ilt_t, ilt_f, ile_t, ile_f, ieq_t, ieq_f, jb_T, jb_F, jb_t, jb_f]
    · show 0 ≤ (if hol s Z l l' = true then x + 1 else x) ∧ (if hol s Z l l' = true then x + 1 else x) ≤ (l + 1)
      split <;> omega
  · simp (disch := first | assumption | omega) only [WS_0, WS_1, WS_2, WS_3, WS_4, WS_5, WS_6, WS_7, WS_8, WS_9, WS_10, WS_11, WS_12, WS_13, WS_14, WS_15, WS_16, WS_17, WS_18, WS_19, WS_20, PS_0, PS_1, PS_2, PS_3, PS_4, PS_5, PS_6, ji_add, ji_sub, ji_mul, ji_neg, ji_lit0, ji_ofNat, ji_lt, ji_le, ji_eq, ji_nat, ji_in, qV_at, qI_at, qJ_at, qD_at, qA_at, qA_no, nb0, nb1, cat_r, cat_i, Option.some.injEq, exists_eq_left', true_and, and_true, if_true, if_false, ite_not, not_true_eq_false, not_false_eq_true, Sum.inr.injEq, exists_eq_right', true_or, or_true, and_self, Int.cast_ofNat_Int, reduceCtorEq, or_false, false_or, false_and, and_false, jb_zero, lt7_0, lt7_1, lt7_2, lt7_3, lt7_4, lt7_5, lt7_6, c_X8_knowers_1, u_X8_knowers, c_X8_knowers_2, X0, X1, q_reqLink hX', hn, Bool.false_eq_true, Nat.reduceAdd, Nat.reduceLeDiff, ↓reduceIte, ilt_t, ilt_f, ile_t, ile_f, ieq_t, ieq_f, jb_T, jb_F, jb_t, jb_f]
theorem q_wisest (hX : XW μ xa w h N s Z) : s_X8_wisest μ [.ref xa] Q X = Q (some (.int (ji (wis s N Z)))) μ := by
  obtain ⟨⟨X0, X1⟩, hS, hC, hI, htm, hpk⟩ := hX
  have nn := nodesX hC
  have hw := hI.1.1
  unfold wis mxf
  rw [u_X8_wisest, l_X8_wisest_6, xseal_eq]
  refine fold_loop (fun mf x l => ln_X8_wisest_6 Q X mf [some (.ref xa), some (.int (ji x.1)), some (.int (ji x.2)), some (.int (ji l)), none] [] μ 0 0) (fun x => Q (some (.int (ji x.1))) μ) (fun l x => mxs (fun n => cntz (lsn s Z 0 n) 0 72 0) l x) (fun l x => -1 ≤ x.1 ∧ x.1 < 36 ∧ 0 ≤ x.2 ∧ x.2 ≤ 72) (N) (fun mf x hx => ?_) (fun mf x l l0 l1 hx => ⟨?_, ?_⟩) _ 10000 (0) ((-1, 0)) (by omega) (by omega) (by omega) (by decide)
  · show ln_X8_wisest_6 Q X (mf + 1) [some (.ref xa), some (.int (ji x.1)), some (.int (ji x.2)), some (.int (ji (N))), none] [] μ 0 0 = Q (some (.int (ji x.1))) μ
    rw [ul_X8_wisest_6]
    simp (disch := first | assumption | omega) only [WS_0, WS_1, WS_2, WS_3, WS_4, WS_5, WS_6, WS_7, WS_8, WS_9, WS_10, WS_11, WS_12, WS_13, WS_14, WS_15, WS_16, WS_17, WS_18, WS_19, WS_20, PS_0, PS_1, PS_2, PS_3, PS_4, PS_5, PS_6, ji_add, ji_sub, ji_mul, ji_neg, ji_lit0, ji_ofNat, ji_lt, ji_le, ji_eq, ji_nat, ji_in, qV_at, qI_at, qJ_at, qD_at, qA_at, qA_no, nb0, nb1, cat_r, cat_i, Option.some.injEq, exists_eq_left', true_and, and_true, if_true, if_false, ite_not, not_true_eq_false, not_false_eq_true, Sum.inr.injEq, exists_eq_right', true_or, or_true, and_self, Int.cast_ofNat_Int, reduceCtorEq, or_false, false_or, false_and, and_false, jb_zero, lt7_0, lt7_1, lt7_2, lt7_3, lt7_4, lt7_5, lt7_6, c_X8_wisest_1, X0, X1, nn, ↓reduceIte, ilt_t, ilt_f, ile_t, ile_f, ieq_t, ieq_f, jb_T, jb_F, jb_t, jb_f]
  · show ln_X8_wisest_6 Q X (mf + 1) [some (.ref xa), some (.int (ji x.1)), some (.int (ji x.2)), some (.int (ji l)), none] [] μ 0 0 = ln_X8_wisest_6 Q X mf [some (.ref xa), some (.int (ji (mxs (fun n => cntz (lsn s Z 0 n) 0 72 0) l x).1)), some (.int (ji (mxs (fun n => cntz (lsn s Z 0 n) 0 72 0) l x).2)), some (.int (ji (l + 1))), none] [] μ 0 0
    rw [ul_X8_wisest_6]
    have hc := cntz_b (lsn s Z 0 l) 72 0 0
    unfold mxs
    by_cases hm : x.2 < cntz (lsn s Z 0 l) 0 72 0 <;> simp (disch := first | assumption | omega) only [WS_0, WS_1, WS_2, WS_3, WS_4, WS_5, WS_6, WS_7, WS_8, WS_9, WS_10, WS_11, WS_12, WS_13, WS_14, WS_15, WS_16, WS_17, WS_18, WS_19, WS_20, PS_0, PS_1, PS_2, PS_3, PS_4, PS_5, PS_6, ji_add, ji_sub, ji_mul, ji_neg, ji_lit0, ji_ofNat, ji_lt, ji_le, ji_eq, ji_nat, ji_in, qV_at, qI_at, qJ_at, qD_at, qA_at, qA_no, nb0, nb1, cat_r, cat_i, Option.some.injEq, exists_eq_left', true_and, and_true, if_true, if_false, ite_not, not_true_eq_false, not_false_eq_true, Sum.inr.injEq, exists_eq_right', true_or, or_true, and_self, Int.cast_ofNat_Int, reduceCtorEq, or_false, false_or, false_and, and_false, jb_zero, lt7_0, lt7_1, lt7_2, lt7_3, lt7_4, lt7_5, lt7_6, c_X8_wisest_1, X0, X1, nn, e_countLessons hS hC hI.1, hm, ↓reduceIte, ilt_t, ilt_f, ile_t, ile_f, ieq_t, ieq_f, jb_T, jb_F, jb_t, jb_f]
  · show -1 ≤ (mxs (fun n => cntz (lsn s Z 0 n) 0 72 0) l x).1 ∧ (mxs (fun n => cntz (lsn s Z 0 n) 0 72 0) l x).1 < 36 ∧ 0 ≤ (mxs (fun n => cntz (lsn s Z 0 n) 0 72 0) l x).2 ∧ (mxs (fun n => cntz (lsn s Z 0 n) 0 72 0) l x).2 ≤ 72
    have hc := cntz_b (lsn s Z 0 l) 72 0 0
    unfold mxs
    split
    · show -1 ≤ l ∧ l < 36 ∧ 0 ≤ cntz (lsn s Z 0 l) 0 72 0 ∧ cntz (lsn s Z 0 l) 0 72 0 ≤ 72
      omega
    · exact hx
theorem q_mostFound (hX : XW μ xa w h N s Z) : s_X8_mostFound μ [.ref xa] Q X = Q (some (.int (ji (mxf (fcn Z) 72)))) μ := by
  obtain ⟨⟨X0, X1⟩, hS, hC, hI, htm, hpk⟩ := hX
  have hbz := hI.1.2.1
  unfold mxf
  rw [u_X8_mostFound, l_X8_mostFound_6, xseal_eq]
  refine fold_loop (fun mf x l => ln_X8_mostFound_6 Q X mf [some (.ref xa), some (.int (ji x.1)), some (.int (ji x.2)), some (.int (ji l)), none] [] μ 0 0) (fun x => Q (some (.int (ji x.1))) μ) (fun l x => mxs (fcn Z) l x) (fun l x => -1 ≤ x.1 ∧ x.1 < 72 ∧ 0 ≤ x.2 ∧ x.2 ≤ 72) (72) (fun mf x hx => ?_) (fun mf x l l0 l1 hx => ⟨?_, ?_⟩) _ 10000 (0) ((-1, 0)) (by omega) (by omega) (by omega) (by decide)
  · show ln_X8_mostFound_6 Q X (mf + 1) [some (.ref xa), some (.int (ji x.1)), some (.int (ji x.2)), some (.int (ji (72))), none] [] μ 0 0 = Q (some (.int (ji x.1))) μ
    rw [ul_X8_mostFound_6]
    simp (disch := first | assumption | omega) only [WS_0, WS_1, WS_2, WS_3, WS_4, WS_5, WS_6, WS_7, WS_8, WS_9, WS_10, WS_11, WS_12, WS_13, WS_14, WS_15, WS_16, WS_17, WS_18, WS_19, WS_20, PS_0, PS_1, PS_2, PS_3, PS_4, PS_5, PS_6, ji_add, ji_sub, ji_mul, ji_neg, ji_lit0, ji_ofNat, ji_lt, ji_le, ji_eq, ji_nat, ji_in, qV_at, qI_at, qJ_at, qD_at, qA_at, qA_no, nb0, nb1, cat_r, cat_i, Option.some.injEq, exists_eq_left', true_and, and_true, if_true, if_false, ite_not, not_true_eq_false, not_false_eq_true, Sum.inr.injEq, exists_eq_right', true_or, or_true, and_self, Int.cast_ofNat_Int, reduceCtorEq, or_false, false_or, false_and, and_false, jb_zero, lt7_0, lt7_1, lt7_2, lt7_3, lt7_4, lt7_5, lt7_6, c_X8_mostFound_1, X0, X1, ↓reduceIte, ilt_t, ilt_f, ile_t, ile_f, ieq_t, ieq_f, jb_T, jb_F, jb_t, jb_f]
  · show ln_X8_mostFound_6 Q X (mf + 1) [some (.ref xa), some (.int (ji x.1)), some (.int (ji x.2)), some (.int (ji l)), none] [] μ 0 0 = ln_X8_mostFound_6 Q X mf [some (.ref xa), some (.int (ji (mxs (fcn Z) l x).1)), some (.int (ji (mxs (fcn Z) l x).2)), some (.int (ji (l + 1))), none] [] μ 0 0
    rw [ul_X8_mostFound_6]
    have hc := cntz_b (fun k => decide (fnd Z ((2666 + 120 * k)) l ≠ -1)) (Z 1).toNat 0 0
    unfold mxs fcn
    by_cases hm : x.2 < cntz (fun k => decide (fnd Z ((2666 + 120 * k)) l ≠ -1)) 0 (Z 1).toNat 0 <;> simp (disch := first | assumption | omega) only [WS_0, WS_1, WS_2, WS_3, WS_4, WS_5, WS_6, WS_7, WS_8, WS_9, WS_10, WS_11, WS_12, WS_13, WS_14, WS_15, WS_16, WS_17, WS_18, WS_19, WS_20, PS_0, PS_1, PS_2, PS_3, PS_4, PS_5, PS_6, ji_add, ji_sub, ji_mul, ji_neg, ji_lit0, ji_ofNat, ji_lt, ji_le, ji_eq, ji_nat, ji_in, qV_at, qI_at, qJ_at, qD_at, qA_at, qA_no, nb0, nb1, cat_r, cat_i, Option.some.injEq, exists_eq_left', true_and, and_true, if_true, if_false, ite_not, not_true_eq_false, not_false_eq_true, Sum.inr.injEq, exists_eq_right', true_or, or_true, and_self, Int.cast_ofNat_Int, reduceCtorEq, or_false, false_or, false_and, and_false, jb_zero, lt7_0, lt7_1, lt7_2, lt7_3, lt7_4, lt7_5, lt7_6, c_X8_mostFound_1, X0, X1, e_countFinders hS hC hI.1, hm, ↓reduceIte, ilt_t, ilt_f, ile_t, ile_f, ieq_t, ieq_f, jb_T, jb_F, jb_t, jb_f]
  · show -1 ≤ (mxs (fcn Z) l x).1 ∧ (mxs (fcn Z) l x).1 < 72 ∧ 0 ≤ (mxs (fcn Z) l x).2 ∧ (mxs (fcn Z) l x).2 ≤ 72
    have hc := cntz_b (fun k => decide (fnd Z ((2666 + 120 * k)) l ≠ -1)) (Z 1).toNat 0 0
    unfold mxs fcn
    split
    · show -1 ≤ l ∧ l < 72 ∧ 0 ≤ cntz (fun k => decide (fnd Z ((2666 + 120 * k)) l ≠ -1)) 0 (Z 1).toNat 0 ∧ cntz (fun k => decide (fnd Z ((2666 + 120 * k)) l ≠ -1)) 0 (Z 1).toNat 0 ≤ 72
      omega
    · exact hx
theorem q_packetsIn (hX : XW μ xa w h N s Z) {v : Int} (n1 : -2147483648 ≤ v) (n2 : v < 2147483648) : s_X8_packetsIn μ [.ref xa, .int (ji v)] Q X = if 0 ≤ v ∧ v ≤ 5 then Q (some (.int (pin Z 3 v))) μ else X IAE (uF μ) := by
  obtain ⟨⟨X0, X1⟩, hS, hC, hI, htm, hpk⟩ := hX
  have hbz := hI.1.2.1
  have c3 := hC.2.2.2.1
  unfold pin
  by_cases h0 : 0 ≤ v
  · by_cases h5 : v ≤ 5
    · rw [if_pos ⟨h0, h5⟩]
      simp (disch := first | assumption | omega) only [WS_0, WS_1, WS_2, WS_3, WS_4, WS_5, WS_6, WS_7, WS_8, WS_9, WS_10, WS_11, WS_12, WS_13, WS_14, WS_15, WS_16, WS_17, WS_18, WS_19, WS_20, PS_0, PS_1, PS_2, PS_3, PS_4, PS_5, PS_6, ji_add, ji_sub, ji_mul, ji_neg, ji_lit0, ji_ofNat, ji_lt, ji_le, ji_eq, ji_nat, ji_in, qV_at, qI_at, qJ_at, qD_at, qA_at, qA_no, nb0, nb1, cat_r, cat_i, Option.some.injEq, exists_eq_left', true_and, and_true, if_true, if_false, ite_not, not_true_eq_false, not_false_eq_true, Sum.inr.injEq, exists_eq_right', true_or, or_true, and_self, Int.cast_ofNat_Int, reduceCtorEq, or_false, false_or, false_and, and_false, jb_zero, lt7_0, lt7_1, lt7_2, lt7_3, lt7_4, lt7_5, lt7_6, u_X8_packetsIn, c_X8_packetsIn_1, c_X8_packetsIn_2, ↓reduceIte, ilt_t, ilt_f, ile_t, ile_f, ieq_t, ieq_f, jb_T, jb_F, jb_t, jb_f]
      rw [l_X8_packetsIn_24, xseal_eq]
      refine fold_loop (fun mf x l => ln_X8_packetsIn_24 Q X mf [some (.ref xa), some (.int (ji v)), some (.int x), some (.int (ji l)), none] [] μ 0 0) (fun x => Q (some (.int x)) μ) (fun l x => if Z ((2666 + 120 * l) + 3) = v then x ||| jshl (ji 1) (ji l) else x) (fun l x => True) (Z 1) (fun mf x hx => ?_) (fun mf x l l0 l1 hx => ⟨?_, ?_⟩) _ 10000 (0) (ji 0) (by omega) (by omega) (by omega) (trivial)
      · show ln_X8_packetsIn_24 Q X (mf + 1) [some (.ref xa), some (.int (ji v)), some (.int x), some (.int (ji (Z 1))), none] [] μ 0 0 = Q (some (.int x)) μ
        rw [ul_X8_packetsIn_24]
        simp (disch := first | assumption | omega) only [WS_0, WS_1, WS_2, WS_3, WS_4, WS_5, WS_6, WS_7, WS_8, WS_9, WS_10, WS_11, WS_12, WS_13, WS_14, WS_15, WS_16, WS_17, WS_18, WS_19, WS_20, PS_0, PS_1, PS_2, PS_3, PS_4, PS_5, PS_6, ji_add, ji_sub, ji_mul, ji_neg, ji_lit0, ji_ofNat, ji_lt, ji_le, ji_eq, ji_nat, ji_in, qV_at, qI_at, qJ_at, qD_at, qA_at, qA_no, nb0, nb1, cat_r, cat_i, Option.some.injEq, exists_eq_left', true_and, and_true, if_true, if_false, ite_not, not_true_eq_false, not_false_eq_true, Sum.inr.injEq, exists_eq_right', true_or, or_true, and_self, Int.cast_ofNat_Int, reduceCtorEq, or_false, false_or, false_and, and_false, jb_zero, lt7_0, lt7_1, lt7_2, lt7_3, lt7_4, lt7_5, lt7_6, c_X8_packetsIn_1, c_X8_packetsIn_2, X0, X1, c3, ↓reduceIte, ilt_t, ilt_f, ile_t, ile_f, ieq_t, ieq_f, jb_T, jb_F, jb_t, jb_f]
      · show ln_X8_packetsIn_24 Q X (mf + 1) [some (.ref xa), some (.int (ji v)), some (.int x), some (.int (ji l)), none] [] μ 0 0 = ln_X8_packetsIn_24 Q X mf [some (.ref xa), some (.int (ji v)), some (.int (if Z ((2666 + 120 * l) + 3) = v then x ||| jshl (ji 1) (ji l) else x)), some (.int (ji (l + 1))), none] [] μ 0 0
        rw [ul_X8_packetsIn_24]
        have hps := WS_ps hS l l0 (by omega)
        have hb1 := (BD_p hI.1 l l0 l1).1
        have p3 := (CW_p hC l l0 l1).1.2.2.2.1
        by_cases hv : Z ((2666 + 120 * l) + 3) = v <;> simp (disch := first | assumption | omega) only [WS_0, WS_1, WS_2, WS_3, WS_4, WS_5, WS_6, WS_7, WS_8, WS_9, WS_10, WS_11, WS_12, WS_13, WS_14, WS_15, WS_16, WS_17, WS_18, WS_19, WS_20, PS_0, PS_1, PS_2, PS_3, PS_4, PS_5, PS_6, ji_add, ji_sub, ji_mul, ji_neg, ji_lit0, ji_ofNat, ji_lt, ji_le, ji_eq, ji_nat, ji_in, qV_at, qI_at, qJ_at, qD_at, qA_at, qA_no, nb0, nb1, cat_r, cat_i, Option.some.injEq, exists_eq_left', true_and, and_true, if_true, if_false, ite_not, not_true_eq_false, not_false_eq_true, Sum.inr.injEq, exists_eq_right', true_or, or_true, and_self, Int.cast_ofNat_Int, reduceCtorEq, or_false, false_or, false_and, and_false, jb_zero, lt7_0, lt7_1, lt7_2, lt7_3, lt7_4, lt7_5, lt7_6, c_X8_packetsIn_1, c_X8_packetsIn_2, X0, X1, c3, e_packetOf hS hC hI.1, p3, hv, ↓reduceIte, ilt_t, ilt_f, ile_t, ile_f, ieq_t, ieq_f, jb_T, jb_F, jb_t, jb_f]
      · show True
        trivial
    · simp (disch := first | assumption | omega) only [WS_0, WS_1, WS_2, WS_3, WS_4, WS_5, WS_6, WS_7, WS_8, WS_9, WS_10, WS_11, WS_12, WS_13, WS_14, WS_15, WS_16, WS_17, WS_18, WS_19, WS_20, PS_0, PS_1, PS_2, PS_3, PS_4, PS_5, PS_6, ji_add, ji_sub, ji_mul, ji_neg, ji_lit0, ji_ofNat, ji_lt, ji_le, ji_eq, ji_nat, ji_in, qV_at, qI_at, qJ_at, qD_at, qA_at, qA_no, nb0, nb1, cat_r, cat_i, Option.some.injEq, exists_eq_left', true_and, and_true, if_true, if_false, ite_not, not_true_eq_false, not_false_eq_true, Sum.inr.injEq, exists_eq_right', true_or, or_true, and_self, Int.cast_ofNat_Int, reduceCtorEq, or_false, false_or, false_and, and_false, jb_zero, lt7_0, lt7_1, lt7_2, lt7_3, lt7_4, lt7_5, lt7_6, u_X8_packetsIn, c_X8_packetsIn_1, c_X8_packetsIn_2, Nat.reduceAdd, Nat.reduceLeDiff, ↓reduceIte, ilt_t, ilt_f, ile_t, ile_f, ieq_t, ieq_f, jb_T, jb_F, jb_t, jb_f]
  · simp (disch := first | assumption | omega) only [WS_0, WS_1, WS_2, WS_3, WS_4, WS_5, WS_6, WS_7, WS_8, WS_9, WS_10, WS_11, WS_12, WS_13, WS_14, WS_15, WS_16, WS_17, WS_18, WS_19, WS_20, PS_0, PS_1, PS_2, PS_3, PS_4, PS_5, PS_6, ji_add, ji_sub, ji_mul, ji_neg, ji_lit0, ji_ofNat, ji_lt, ji_le, ji_eq, ji_nat, ji_in, qV_at, qI_at, qJ_at, qD_at, qA_at, qA_no, nb0, nb1, cat_r, cat_i, Option.some.injEq, exists_eq_left', true_and, and_true, if_true, if_false, ite_not, not_true_eq_false, not_false_eq_true, Sum.inr.injEq, exists_eq_right', true_or, or_true, and_self, Int.cast_ofNat_Int, reduceCtorEq, or_false, false_or, false_and, and_false, jb_zero, lt7_0, lt7_1, lt7_2, lt7_3, lt7_4, lt7_5, lt7_6, u_X8_packetsIn, c_X8_packetsIn_1, c_X8_packetsIn_2, Nat.reduceAdd, Nat.reduceLeDiff, ↓reduceIte, ilt_t, ilt_f, ile_t, ile_f, ieq_t, ieq_f, jb_T, jb_F, jb_t, jb_f]
theorem q_packetsTo (hX : XW μ xa w h N s Z) {v : Int} (n1 : -2147483648 ≤ v) (n2 : v < 2147483648) : s_X8_packetsTo μ [.ref xa, .int (ji v)] Q X = if 0 ≤ v ∧ v < N then Q (some (.int (pin Z 1 v))) μ else X IOB (uF μ) := by
  have hX' := hX
  obtain ⟨⟨X0, X1⟩, hS, hC, hI, htm, hpk⟩ := hX
  have hbz := hI.1.2.1
  have hw := hI.1.1
  have c3 := hC.2.2.2.1
  unfold pin
  by_cases hn : 0 ≤ v ∧ v < N
  · rw [if_pos hn]
    simp (disch := first | assumption | omega) only [WS_0, WS_1, WS_2, WS_3, WS_4, WS_5, WS_6, WS_7, WS_8, WS_9, WS_10, WS_11, WS_12, WS_13, WS_14, WS_15, WS_16, WS_17, WS_18, WS_19, WS_20, PS_0, PS_1, PS_2, PS_3, PS_4, PS_5, PS_6, ji_add, ji_sub, ji_mul, ji_neg, ji_lit0, ji_ofNat, ji_lt, ji_le, ji_eq, ji_nat, ji_in, qV_at, qI_at, qJ_at, qD_at, qA_at, qA_no, nb0, nb1, cat_r, cat_i, Option.some.injEq, exists_eq_left', true_and, and_true, if_true, if_false, ite_not, not_true_eq_false, not_false_eq_true, Sum.inr.injEq, exists_eq_right', true_or, or_true, and_self, Int.cast_ofNat_Int, reduceCtorEq, or_false, false_or, false_and, and_false, jb_zero, lt7_0, lt7_1, lt7_2, lt7_3, lt7_4, lt7_5, lt7_6, c_X8_packetsTo_1, u_X8_packetsTo, c_X8_packetsTo_2, c_X8_packetsTo_3, X0, X1, q_reqNode hX', hn, Nat.reduceAdd, Nat.reduceLeDiff, ↓reduceIte, ilt_t, ilt_f, ile_t, ile_f, ieq_t, ieq_f, jb_T, jb_F, jb_t, jb_f]
    rw [l_X8_packetsTo_9, xseal_eq]
    refine fold_loop (fun mf x l => ln_X8_packetsTo_9 Q X mf [some (.ref xa), some (.int (ji v)), some (.int x), some (.int (ji l)), none] [] μ 1 6) (fun x => Q (some (.int x)) μ) (fun l x => if Z ((2666 + 120 * l) + 1) = v then x ||| jshl (ji 1) (ji l) else x) (fun l x => True) (Z 1) (fun mf x hx => ?_) (fun mf x l l0 l1 hx => ⟨?_, ?_⟩) _ 10000 (0) (ji 0) (by omega) (by omega) (by omega) (trivial)
    · show ln_X8_packetsTo_9 Q X (mf + 1) [some (.ref xa), some (.int (ji v)), some (.int x), some (.int (ji (Z 1))), none] [] μ 1 6 = Q (some (.int x)) μ
      rw [ul_X8_packetsTo_9]
      simp (disch := first | assumption | omega) only [WS_0, WS_1, WS_2, WS_3, WS_4, WS_5, WS_6, WS_7, WS_8, WS_9, WS_10, WS_11, WS_12, WS_13, WS_14, WS_15, WS_16, WS_17, WS_18, WS_19, WS_20, PS_0, PS_1, PS_2, PS_3, PS_4, PS_5, PS_6, ji_add, ji_sub, ji_mul, ji_neg, ji_lit0, ji_ofNat, ji_lt, ji_le, ji_eq, ji_nat, ji_in, qV_at, qI_at, qJ_at, qD_at, qA_at, qA_no, nb0, nb1, cat_r, cat_i, Option.some.injEq, exists_eq_left', true_and, and_true, if_true, if_false, ite_not, not_true_eq_false, not_false_eq_true, Sum.inr.injEq, exists_eq_right', true_or, or_true, and_self, Int.cast_ofNat_Int, reduceCtorEq, or_false, false_or, false_and, and_false, jb_zero, lt7_0, lt7_1, lt7_2, lt7_3, lt7_4, lt7_5, lt7_6, c_X8_packetsTo_1, c_X8_packetsTo_2, c_X8_packetsTo_3, X0, X1, c3, ↓reduceIte, ilt_t, ilt_f, ile_t, ile_f, ieq_t, ieq_f, jb_T, jb_F, jb_t, jb_f]
    · show ln_X8_packetsTo_9 Q X (mf + 1) [some (.ref xa), some (.int (ji v)), some (.int x), some (.int (ji l)), none] [] μ 1 6 = ln_X8_packetsTo_9 Q X mf [some (.ref xa), some (.int (ji v)), some (.int (if Z ((2666 + 120 * l) + 1) = v then x ||| jshl (ji 1) (ji l) else x)), some (.int (ji (l + 1))), none] [] μ 1 6
      rw [ul_X8_packetsTo_9]
      have hps := WS_ps hS l l0 (by omega)
      have hb1 := (BD_p hI.1 l l0 l1).1
      have p1 := (CW_p hC l l0 l1).1.2.1
      by_cases hv : Z ((2666 + 120 * l) + 1) = v <;> simp (disch := first | assumption | omega) only [WS_0, WS_1, WS_2, WS_3, WS_4, WS_5, WS_6, WS_7, WS_8, WS_9, WS_10, WS_11, WS_12, WS_13, WS_14, WS_15, WS_16, WS_17, WS_18, WS_19, WS_20, PS_0, PS_1, PS_2, PS_3, PS_4, PS_5, PS_6, ji_add, ji_sub, ji_mul, ji_neg, ji_lit0, ji_ofNat, ji_lt, ji_le, ji_eq, ji_nat, ji_in, qV_at, qI_at, qJ_at, qD_at, qA_at, qA_no, nb0, nb1, cat_r, cat_i, Option.some.injEq, exists_eq_left', true_and, and_true, if_true, if_false, ite_not, not_true_eq_false, not_false_eq_true, Sum.inr.injEq, exists_eq_right', true_or, or_true, and_self, Int.cast_ofNat_Int, reduceCtorEq, or_false, false_or, false_and, and_false, jb_zero, lt7_0, lt7_1, lt7_2, lt7_3, lt7_4, lt7_5, lt7_6, c_X8_packetsTo_1, c_X8_packetsTo_2, c_X8_packetsTo_3, X0, X1, c3, e_packetOf hS hC hI.1, p1, hv, ↓reduceIte, ilt_t, ilt_f, ile_t, ile_f, ieq_t, ieq_f, jb_T, jb_F, jb_t, jb_f]
    · show True
      trivial
  · simp (disch := first | assumption | omega) only [WS_0, WS_1, WS_2, WS_3, WS_4, WS_5, WS_6, WS_7, WS_8, WS_9, WS_10, WS_11, WS_12, WS_13, WS_14, WS_15, WS_16, WS_17, WS_18, WS_19, WS_20, PS_0, PS_1, PS_2, PS_3, PS_4, PS_5, PS_6, ji_add, ji_sub, ji_mul, ji_neg, ji_lit0, ji_ofNat, ji_lt, ji_le, ji_eq, ji_nat, ji_in, qV_at, qI_at, qJ_at, qD_at, qA_at, qA_no, nb0, nb1, cat_r, cat_i, Option.some.injEq, exists_eq_left', true_and, and_true, if_true, if_false, ite_not, not_true_eq_false, not_false_eq_true, Sum.inr.injEq, exists_eq_right', true_or, or_true, and_self, Int.cast_ofNat_Int, reduceCtorEq, or_false, false_or, false_and, and_false, jb_zero, lt7_0, lt7_1, lt7_2, lt7_3, lt7_4, lt7_5, lt7_6, c_X8_packetsTo_1, u_X8_packetsTo, c_X8_packetsTo_2, c_X8_packetsTo_3, X0, X1, q_reqNode hX', hn, Nat.reduceAdd, Nat.reduceLeDiff, ↓reduceIte, ilt_t, ilt_f, ile_t, ile_f, ieq_t, ieq_f, jb_T, jb_F, jb_t, jb_f]
theorem q_healed (hX : XW μ xa w h N s Z) {n : Int} (n1 : -2147483648 ≤ n) (n2 : n < 2147483648) : s_X8_healed μ [.ref xa, .int (ji n)] Q X = ocC Q X μ IOB IAE (oc1 (0 ≤ n ∧ n < Z 1) (cntz (fun l => decide (Z (2666 + 120 * n + 47 + l) ≠ -1 ∧ Z (2 + l) = 0)) 0 72 0)) := by
  have hX' := hX
  obtain ⟨⟨X0, X1⟩, hS, hC, hI, htm, hpk⟩ := hX
  have hbz := hI.1.2.1
  rw [ocC_1]
  by_cases hn : 0 ≤ n ∧ n < Z 1
  · rw [if_pos hn]
    have hps := WS_ps hS n hn.1 (by omega)
    have hp := CW_p hC n hn.1 hn.2
    have hb := BD_p hI.1 n hn.1 hn.2
    simp (disch := first | assumption | omega) only [WS_0, WS_1, WS_2, WS_3, WS_4, WS_5, WS_6, WS_7, WS_8, WS_9, WS_10, WS_11, WS_12, WS_13, WS_14, WS_15, WS_16, WS_17, WS_18, WS_19, WS_20, PS_0, PS_1, PS_2, PS_3, PS_4, PS_5, PS_6, ji_add, ji_sub, ji_mul, ji_neg, ji_lit0, ji_ofNat, ji_lt, ji_le, ji_eq, ji_nat, ji_in, qV_at, qI_at, qJ_at, qD_at, qA_at, qA_no, nb0, nb1, cat_r, cat_i, Option.some.injEq, exists_eq_left', true_and, and_true, if_true, if_false, ite_not, not_true_eq_false, not_false_eq_true, Sum.inr.injEq, exists_eq_right', true_or, or_true, and_self, Int.cast_ofNat_Int, reduceCtorEq, or_false, false_or, false_and, and_false, jb_zero, lt7_0, lt7_1, lt7_2, lt7_3, lt7_4, lt7_5, lt7_6, c_X8_healed_1, c_X8_healed_2, c_X8_healed_3, u_X8_healed, c_X8_healed_4, c_X8_healed_5, X0, X1, q_reqPacket hX', e_packetOf hS hC hI.1, hn, Nat.reduceAdd, Nat.reduceLeDiff, ↓reduceIte, ilt_t, ilt_f, ile_t, ile_f, ieq_t, ieq_f, jb_T, jb_F, jb_t, jb_f]
    rw [l_X8_healed_25, xseal_eq]
    refine fold_loop (fun mf x l => ln_X8_healed_25 Q X mf [some (.ref xa), none, some (.ref (pka (xa + 1) n)), some (.int (ji x)), some (.int (ji l))] [] μ 1 6) (fun x => Q (some (.int (ji x))) μ) (fun l x => if decide (Z (2666 + 120 * n + 47 + l) ≠ -1 ∧ Z (2 + l) = 0) = true then x + 1 else x) (fun l x => 0 ≤ x ∧ x ≤ l) (72) (fun mf x hx => ?_) (fun mf x l l0 l1 hx => ⟨?_, ?_⟩) _ 10000 (0) (0) (by omega) (by omega) (by omega) (by omega)
    · show ln_X8_healed_25 Q X (mf + 1) [some (.ref xa), none, some (.ref (pka (xa + 1) n)), some (.int (ji x)), some (.int (ji (72)))] [] μ 1 6 = Q (some (.int (ji x))) μ
      rw [ul_X8_healed_25]
      simp (disch := first | assumption | omega) only [WS_0, WS_1, WS_2, WS_3, WS_4, WS_5, WS_6, WS_7, WS_8, WS_9, WS_10, WS_11, WS_12, WS_13, WS_14, WS_15, WS_16, WS_17, WS_18, WS_19, WS_20, PS_0, PS_1, PS_2, PS_3, PS_4, PS_5, PS_6, ji_add, ji_sub, ji_mul, ji_neg, ji_lit0, ji_ofNat, ji_lt, ji_le, ji_eq, ji_nat, ji_in, qV_at, qI_at, qJ_at, qD_at, qA_at, qA_no, nb0, nb1, cat_r, cat_i, Option.some.injEq, exists_eq_left', true_and, and_true, if_true, if_false, ite_not, not_true_eq_false, not_false_eq_true, Sum.inr.injEq, exists_eq_right', true_or, or_true, and_self, Int.cast_ofNat_Int, reduceCtorEq, or_false, false_or, false_and, and_false, jb_zero, lt7_0, lt7_1, lt7_2, lt7_3, lt7_4, lt7_5, lt7_6, c_X8_healed_1, c_X8_healed_2, c_X8_healed_3, c_X8_healed_4, c_X8_healed_5, ↓reduceIte, ilt_t, ilt_f, ile_t, ile_f, ieq_t, ieq_f, jb_T, jb_F, jb_t, jb_f]
    · show ln_X8_healed_25 Q X (mf + 1) [some (.ref xa), none, some (.ref (pka (xa + 1) n)), some (.int (ji x)), some (.int (ji l))] [] μ 1 6 = ln_X8_healed_25 Q X mf [some (.ref xa), none, some (.ref (pka (xa + 1) n)), some (.int (ji (if decide (Z (2666 + 120 * n + 47 + l) ≠ -1 ∧ Z (2 + l) = 0) = true then x + 1 else x))), some (.int (ji (l + 1)))] [] μ 1 6
      rw [ul_X8_healed_25]
      have hm := hb.2.2.2 l l0 l1
      have hf : fnd Z (2666 + 120 * n) l = Z (2666 + 120 * n + 47 + l) := fnd_in l0 l1
      by_cases h1 : Z (2666 + 120 * n + 47 + l) = -1 <;> by_cases h2 : Z (2 + l) = 0 <;> simp (disch := first | assumption | omega) only [WS_0, WS_1, WS_2, WS_3, WS_4, WS_5, WS_6, WS_7, WS_8, WS_9, WS_10, WS_11, WS_12, WS_13, WS_14, WS_15, WS_16, WS_17, WS_18, WS_19, WS_20, PS_0, PS_1, PS_2, PS_3, PS_4, PS_5, PS_6, ji_add, ji_sub, ji_mul, ji_neg, ji_lit0, ji_ofNat, ji_lt, ji_le, ji_eq, ji_nat, ji_in, qV_at, qI_at, qJ_at, qD_at, qA_at, qA_no, nb0, nb1, cat_r, cat_i, Option.some.injEq, exists_eq_left', true_and, and_true, if_true, if_false, ite_not, not_true_eq_false, not_false_eq_true, Sum.inr.injEq, exists_eq_right', true_or, or_true, and_self, Int.cast_ofNat_Int, reduceCtorEq, or_false, false_or, false_and, and_false, jb_zero, lt7_0, lt7_1, lt7_2, lt7_3, lt7_4, lt7_5, lt7_6, c_X8_healed_1, c_X8_healed_2, c_X8_healed_3, c_X8_healed_4, c_X8_healed_5, X0, X1, e_foundTime hps hp, hf, e_isLinkDead hS hC hI.1, h1, h2, ne_eq, decide_true, decide_false, Bool.false_eq_true, ↓reduceIte, ilt_t, ilt_f, ile_t, ile_f, ieq_t, ieq_f, jb_T, jb_F, jb_t, jb_f]
    · show 0 ≤ (if decide (Z (2666 + 120 * n + 47 + l) ≠ -1 ∧ Z (2 + l) = 0) = true then x + 1 else x) ∧ (if decide (Z (2666 + 120 * n + 47 + l) ≠ -1 ∧ Z (2 + l) = 0) = true then x + 1 else x) ≤ (l + 1)
      split <;> omega
  · simp (disch := first | assumption | omega) only [WS_0, WS_1, WS_2, WS_3, WS_4, WS_5, WS_6, WS_7, WS_8, WS_9, WS_10, WS_11, WS_12, WS_13, WS_14, WS_15, WS_16, WS_17, WS_18, WS_19, WS_20, PS_0, PS_1, PS_2, PS_3, PS_4, PS_5, PS_6, ji_add, ji_sub, ji_mul, ji_neg, ji_lit0, ji_ofNat, ji_lt, ji_le, ji_eq, ji_nat, ji_in, qV_at, qI_at, qJ_at, qD_at, qA_at, qA_no, nb0, nb1, cat_r, cat_i, Option.some.injEq, exists_eq_left', true_and, and_true, if_true, if_false, ite_not, not_true_eq_false, not_false_eq_true, Sum.inr.injEq, exists_eq_right', true_or, or_true, and_self, Int.cast_ofNat_Int, reduceCtorEq, or_false, false_or, false_and, and_false, jb_zero, lt7_0, lt7_1, lt7_2, lt7_3, lt7_4, lt7_5, lt7_6, c_X8_healed_1, c_X8_healed_2, c_X8_healed_3, u_X8_healed, c_X8_healed_4, c_X8_healed_5, X0, X1, q_reqPacket hX', hn, Nat.reduceAdd, Nat.reduceLeDiff, ↓reduceIte, ilt_t, ilt_f, ile_t, ile_f, ieq_t, ieq_f, jb_T, jb_F, jb_t, jb_f]
end
