/-! ===== a world's content ===== -/
/-- a long's bit -/
def tb (x : Int64) (n : Int) : Bool := x.toBitVec.getLsbD n.toNat
/-- the nodes that a packet has visited -/
def vis (Z : Int → Int) (o n : Int) : Bool := if n < 18 then (Z (o + 9)).toNat.testBit n.toNat else if n < 36 then (Z (o + 10)).toNat.testBit (n - 18).toNat else false
/-- what a packet at P holds: the block's cells from o on -/
def PW (μ : XM) (P : Nat) (Z : Int → Int) (o : Int) : Prop :=
  (gI μ 96 P = ji (Z o) ∧ gI μ 97 P = ji (Z (o + 1)) ∧ gI μ 98 P = ji (Z (o + 2)) ∧ gI μ 99 P = ji (Z (o + 3)) ∧ gI μ 100 P = ji (Z (o + 4)) ∧ gI μ 101 P = ji (Z (o + 5)) ∧ gI μ 104 P = ji (Z (o + 6)) ∧ gI μ 102 P = ji (Z (o + 7)) ∧ gI μ 103 P = ji (Z (o + 8))) ∧
  (∀ n : Int, 0 ≤ n → n < 64 → tb (gL μ 105 P) n = vis Z o n) ∧ (∀ i : Int, 0 ≤ i → i < Z (o + 6) → aI μ (P + 1) i.toNat = ji (Z (o + 11 + i))) ∧ ∀ l : Int, 0 ≤ l → l < 72 → aI μ (P + 2) l.toNat = ji (Z (o + 47 + l))
/-- what a world at W holds -/
def CW (μ : XM) (W : Nat) (w h N s : Int) (Z : Int → Int) : Prop :=
  GD μ W w h N ∧ gI μ 228 W = ji s ∧ gI μ 229 W = ji (Z 0) ∧ gI μ 230 W = ji (Z 1) ∧ (∀ l : Int, 0 ≤ l → l < 72 → aI μ (W + 5) l.toNat = ji (Z (2 + l))) ∧ (∀ i : Int, 0 ≤ i → i < 2592 → aI μ (W + 6) i.toNat = ji (Z (74 + i))) ∧
  ∀ k : Int, 0 ≤ k → k < Z 1 → PW μ (W + 8 + 3 * k.toNat) Z (2666 + 120 * k)
/-- the bounds of a packet's cells -/
def BP (N : Int) (Z : Int → Int) (o : Int) : Prop :=
  (0 ≤ Z o ∧ Z o < N ∧ 0 ≤ Z (o + 1) ∧ Z (o + 1) < N ∧ 1 ≤ Z (o + 2) ∧ Z (o + 2) ≤ 200 ∧ 0 ≤ Z (o + 3) ∧ Z (o + 3) ≤ 5 ∧ 0 ≤ Z (o + 4) ∧ Z (o + 4) < N ∧ 0 ≤ Z (o + 5) ∧ Z (o + 5) ≤ 200 ∧ 1 ≤ Z (o + 6) ∧ Z (o + 6) ≤ 36) ∧
  (0 ≤ Z (o + 7) ∧ Z (o + 7) ≤ 31000 ∧ -1 ≤ Z (o + 8) ∧ Z (o + 8) ≤ 31000 ∧ 0 ≤ Z (o + 9) ∧ Z (o + 9) < 262144 ∧ 0 ≤ Z (o + 10) ∧ Z (o + 10) < 262144) ∧
  (∀ i : Int, 0 ≤ i → i < Z (o + 6) → 0 ≤ Z (o + 11 + i) ∧ Z (o + 11 + i) < N) ∧ ∀ l : Int, 0 ≤ l → l < 72 → -1 ≤ Z (o + 47 + l) ∧ Z (o + 47 + l) ≤ 31000
/-- the bounds of a block's cells -/
def BD (w h N s : Int) (Z : Int → Int) : Prop :=
  (1 ≤ w ∧ w ≤ 6 ∧ 1 ≤ h ∧ h ≤ 6 ∧ 1 ≤ N ∧ N ≤ 36 ∧ N = w * h) ∧ (1 ≤ s ∧ s ≤ 1000 ∧ 0 ≤ Z 0 ∧ Z 0 ≤ 31000 ∧ 0 ≤ Z 1 ∧ Z 1 ≤ 25) ∧ (∀ l : Int, 0 ≤ l → l < 72 → Z (2 + l) = 0 ∨ Z (2 + l) = 1) ∧ (∀ i : Int, 0 ≤ i → i < 2592 → -1 ≤ Z (74 + i) ∧ Z (74 + i) ≤ 31000) ∧ ∀ k : Int, 0 ≤ k → k < Z 1 → BP N Z (2666 + 120 * k)
theorem nb_jb (p : Prop) [Decidable p] : nb (jb p) = True := by
  unfold jb
  by_cases h : p
  · rw [if_pos h]; exact nb1
  · rw [if_neg h]; exact nb0
section
variable {μ : XM} {W : Nat} {w h N s : Int} {Z : Int → Int} {Q : XQ} {X : XX}
theorem e_isLinkDead (hS : WS μ W) (hC : CW μ W w h N s Z) (hB : BD w h N s Z) {z : Int} (z1 : -2147483648 ≤ z) (z2 : z < 2147483648) : s_X7_isLinkDead μ [.ref W, .int (ji z)] Q X = Q (some (.int (jb (0 ≤ z ∧ z < 72 ∧ Z (2 + z) ≠ 0)))) μ := by
  obtain ⟨hG, c1, c2, c3, c4, c5, c6⟩ := hC
  obtain ⟨b1, b2, b3, b4, b5⟩ := hB
  by_cases hz : 0 ≤ z ∧ z < 72
  · rcases b3 z hz.1 hz.2 with b | b
    · simp (disch := first | assumption | omega) only [WS_0, WS_1, WS_2, WS_3, WS_4, WS_5, WS_6, WS_7, WS_8, WS_9, WS_10, WS_11, WS_12, WS_13, WS_14, WS_15, WS_16, WS_17, WS_18, WS_19, WS_20, PS_0, PS_1, PS_2, PS_3, PS_4, PS_5, PS_6, ji_add, ji_sub, ji_mul, ji_neg, ji_lit0, ji_ofNat, ji_lt, ji_le, ji_eq, ji_nat, ji_in, qV_at, qI_at, qJ_at, qD_at, qA_at, qA_no, nb0, nb1, cat_r, cat_i, Option.some.injEq, exists_eq_left', true_and, and_true, if_true, if_false, ite_not, not_true_eq_false, not_false_eq_true, Sum.inr.injEq, exists_eq_right', true_or, or_true, and_self, Int.cast_ofNat_Int, reduceCtorEq, or_false, false_or, false_and, and_false, jb_zero, lt7_0, lt7_1, lt7_2, lt7_3, lt7_4, lt7_5, lt7_6, u_X7_isLinkDead, c4 z hz.1 hz.2, b, ↓reduceIte, ilt_t, ilt_f, ile_t, ile_f, ieq_t, ieq_f, jb_T, jb_F, jb_t, jb_f]
    · simp (disch := first | assumption | omega) only [WS_0, WS_1, WS_2, WS_3, WS_4, WS_5, WS_6, WS_7, WS_8, WS_9, WS_10, WS_11, WS_12, WS_13, WS_14, WS_15, WS_16, WS_17, WS_18, WS_19, WS_20, PS_0, PS_1, PS_2, PS_3, PS_4, PS_5, PS_6, ji_add, ji_sub, ji_mul, ji_neg, ji_lit0, ji_ofNat, ji_lt, ji_le, ji_eq, ji_nat, ji_in, qV_at, qI_at, qJ_at, qD_at, qA_at, qA_no, nb0, nb1, cat_r, cat_i, Option.some.injEq, exists_eq_left', true_and, and_true, if_true, if_false, ite_not, not_true_eq_false, not_false_eq_true, Sum.inr.injEq, exists_eq_right', true_or, or_true, and_self, Int.cast_ofNat_Int, reduceCtorEq, or_false, false_or, false_and, and_false, jb_zero, lt7_0, lt7_1, lt7_2, lt7_3, lt7_4, lt7_5, lt7_6, u_X7_isLinkDead, c4 z hz.1 hz.2, b, ↓reduceIte, ilt_t, ilt_f, ile_t, ile_f, ieq_t, ieq_f, jb_T, jb_F, jb_t, jb_f]
  · rw [jb_f _ (by omega)]
    simp (disch := first | assumption | omega) only [WS_0, WS_1, WS_2, WS_3, WS_4, WS_5, WS_6, WS_7, WS_8, WS_9, WS_10, WS_11, WS_12, WS_13, WS_14, WS_15, WS_16, WS_17, WS_18, WS_19, WS_20, PS_0, PS_1, PS_2, PS_3, PS_4, PS_5, PS_6, ji_add, ji_sub, ji_mul, ji_neg, ji_lit0, ji_ofNat, ji_lt, ji_le, ji_eq, ji_nat, ji_in, qV_at, qI_at, qJ_at, qD_at, qA_at, qA_no, nb0, nb1, cat_r, cat_i, Option.some.injEq, exists_eq_left', true_and, and_true, if_true, if_false, ite_not, not_true_eq_false, not_false_eq_true, Sum.inr.injEq, exists_eq_right', true_or, or_true, and_self, Int.cast_ofNat_Int, reduceCtorEq, or_false, false_or, false_and, and_false, jb_zero, lt7_0, lt7_1, lt7_2, lt7_3, lt7_4, lt7_5, lt7_6, u_X7_isLinkDead]
    (repeat' split) <;> first | rfl | (exfalso; omega)
/-- a lesson, of anything -/
def les (Z : Int → Int) (n l : Int) : Int := if 0 ≤ n ∧ n < 36 ∧ 0 ≤ l ∧ l < 72 then Z (74 + (72 * n + l)) else -1
theorem les_b (hB : BD w h N s Z) (n l : Int) : -1 ≤ les Z n l ∧ les Z n l ≤ 31000 := by
  unfold les
  split
  · exact hB.2.2.2.1 (72 * n + l) (by omega) (by omega)
  · omega
theorem e_lessonTime (hS : WS μ W) (hC : CW μ W w h N s Z) {n l : Int} (n1 : -2147483648 ≤ n) (n2 : n < 2147483648) (l1 : -2147483648 ≤ l) (l2 : l < 2147483648) : s_X7_lessonTime μ [.ref W, .int (ji n), .int (ji l)] Q X = Q (some (.int (ji (les Z n l)))) μ := by
  obtain ⟨hG, c1, c2, c3, c4, c5, c6⟩ := hC
  unfold les
  by_cases hz : 0 ≤ n ∧ n < 36 ∧ 0 ≤ l ∧ l < 72
  · simp (disch := first | assumption | omega) only [WS_0, WS_1, WS_2, WS_3, WS_4, WS_5, WS_6, WS_7, WS_8, WS_9, WS_10, WS_11, WS_12, WS_13, WS_14, WS_15, WS_16, WS_17, WS_18, WS_19, WS_20, PS_0, PS_1, PS_2, PS_3, PS_4, PS_5, PS_6, ji_add, ji_sub, ji_mul, ji_neg, ji_lit0, ji_ofNat, ji_lt, ji_le, ji_eq, ji_nat, ji_in, qV_at, qI_at, qJ_at, qD_at, qA_at, qA_no, nb0, nb1, cat_r, cat_i, Option.some.injEq, exists_eq_left', true_and, and_true, if_true, if_false, ite_not, not_true_eq_false, not_false_eq_true, Sum.inr.injEq, exists_eq_right', true_or, or_true, and_self, Int.cast_ofNat_Int, reduceCtorEq, or_false, false_or, false_and, and_false, jb_zero, lt7_0, lt7_1, lt7_2, lt7_3, lt7_4, lt7_5, lt7_6, u_X7_lessonTime, c5 (72 * n + l) (by omega) (by omega), ↓reduceIte, ilt_t, ilt_f, ile_t, ile_f, ieq_t, ieq_f, jb_T, jb_F, jb_t, jb_f]
  · rw [if_neg hz]
    simp (disch := first | assumption | omega) only [WS_0, WS_1, WS_2, WS_3, WS_4, WS_5, WS_6, WS_7, WS_8, WS_9, WS_10, WS_11, WS_12, WS_13, WS_14, WS_15, WS_16, WS_17, WS_18, WS_19, WS_20, PS_0, PS_1, PS_2, PS_3, PS_4, PS_5, PS_6, ji_add, ji_sub, ji_mul, ji_neg, ji_lit0, ji_ofNat, ji_lt, ji_le, ji_eq, ji_nat, ji_in, qV_at, qI_at, qJ_at, qD_at, qA_at, qA_no, nb0, nb1, cat_r, cat_i, Option.some.injEq, exists_eq_left', true_and, and_true, if_true, if_false, ite_not, not_true_eq_false, not_false_eq_true, Sum.inr.injEq, exists_eq_right', true_or, or_true, and_self, Int.cast_ofNat_Int, reduceCtorEq, or_false, false_or, false_and, and_false, jb_zero, lt7_0, lt7_1, lt7_2, lt7_3, lt7_4, lt7_5, lt7_6, u_X7_lessonTime]
    (repeat' split) <;> first | rfl | (exfalso; omega)
/-- a lesson holds -/
def hol (s : Int) (Z : Int → Int) (n l : Int) : Bool := decide (les Z n l ≠ -1 ∧ Z 0 < les Z n l + s)
theorem e_isWarned (hS : WS μ W) (hC : CW μ W w h N s Z) (hB : BD w h N s Z) {n l : Int} (n1 : -2147483648 ≤ n) (n2 : n < 2147483648) (l1 : -2147483648 ≤ l) (l2 : l < 2147483648) : s_X7_isWarned μ [.ref W, .int (ji n), .int (ji l)] Q X = Q (some (.int (jb (hol s Z n l = true)))) μ := by
  have hl := les_b hB n l
  have hC' := hC
  obtain ⟨hG, c1, c2, c3, c4, c5, c6⟩ := hC
  obtain ⟨b1, b2, b3, b4, b5⟩ := hB
  unfold hol
  rw [u_X7_isWarned]
  rw [e_lessonTime hS hC' n1 n2 l1 l2]
  unfold jb
  simp only [decide_eq_true_eq]
  simp (disch := first | assumption | omega) only [WS_0, WS_1, WS_2, WS_3, WS_4, WS_5, WS_6, WS_7, WS_8, WS_9, WS_10, WS_11, WS_12, WS_13, WS_14, WS_15, WS_16, WS_17, WS_18, WS_19, WS_20, PS_0, PS_1, PS_2, PS_3, PS_4, PS_5, PS_6, ji_add, ji_sub, ji_mul, ji_neg, ji_lit0, ji_ofNat, ji_lt, ji_le, ji_eq, ji_nat, ji_in, qV_at, qI_at, qJ_at, qD_at, qA_at, qA_no, nb0, nb1, cat_r, cat_i, Option.some.injEq, exists_eq_left', true_and, and_true, if_true, if_false, ite_not, not_true_eq_false, not_false_eq_true, Sum.inr.injEq, exists_eq_right', true_or, or_true, and_self, Int.cast_ofNat_Int, reduceCtorEq, or_false, false_or, false_and, and_false, jb_zero, lt7_0, lt7_1, lt7_2, lt7_3, lt7_4, lt7_5, lt7_6, c_X7_isWarned_1, c1, c2]
  (repeat' split) <;> first | rfl | (exfalso; omega)
end
section
variable {μ : XM} {W : Nat} {w h N s : Int} {Z : Int → Int} {Q : XQ} {X : XX}
/-- a lesson that is counted -/
def lsn (s : Int) (Z : Int → Int) (c n l : Int) : Bool := hol s Z n l && !(decide (c ≠ 0) && decide (Z (2 + l) ≠ 0))
theorem e_countLessons (hS : WS μ W) (hC : CW μ W w h N s Z) (hB : BD w h N s Z) {n c : Int} (n1 : -2147483648 ≤ n) (n2 : n < 2147483648) (hc : c = 0 ∨ c = 1) : s_X7_countLessons μ [.ref W, .int (ji n), .int (ji c)] Q X = Q (some (.int (ji (cntz (lsn s Z c n) 0 72 0)))) μ := by
  rw [u_X7_countLessons, l_X7_countLessons_5, xseal_eq]
  refine fold_loop (fun mf x l => ln_X7_countLessons_5 Q X mf [some (.ref W), some (.int (ji n)), some (.int (ji c)), some (.int (ji x)), some (.int (ji l))] [] μ 0 0) (fun x => Q (some (.int (ji x))) μ) (fun l x => if lsn s Z c n l = true then x + 1 else x) (fun l x => 0 ≤ x ∧ x ≤ l) (72) (fun mf x hx => ?_) (fun mf x l l0 l1 hx => ⟨?_, ?_⟩) _ 10000 (0) (0) (by omega) (by omega) (by omega) (by omega)
  · show ln_X7_countLessons_5 Q X (mf + 1) [some (.ref W), some (.int (ji n)), some (.int (ji c)), some (.int (ji x)), some (.int (ji (72)))] [] μ 0 0 = Q (some (.int (ji x))) μ
    rw [ul_X7_countLessons_5]
    simp (disch := first | assumption | omega) only [WS_0, WS_1, WS_2, WS_3, WS_4, WS_5, WS_6, WS_7, WS_8, WS_9, WS_10, WS_11, WS_12, WS_13, WS_14, WS_15, WS_16, WS_17, WS_18, WS_19, WS_20, PS_0, PS_1, PS_2, PS_3, PS_4, PS_5, PS_6, ji_add, ji_sub, ji_mul, ji_neg, ji_lit0, ji_ofNat, ji_lt, ji_le, ji_eq, ji_nat, ji_in, qV_at, qI_at, qJ_at, qD_at, qA_at, qA_no, nb0, nb1, cat_r, cat_i, Option.some.injEq, exists_eq_left', true_and, and_true, if_true, if_false, ite_not, not_true_eq_false, not_false_eq_true, Sum.inr.injEq, exists_eq_right', true_or, or_true, and_self, Int.cast_ofNat_Int, reduceCtorEq, or_false, false_or, false_and, and_false, jb_zero, lt7_0, lt7_1, lt7_2, lt7_3, lt7_4, lt7_5, lt7_6, c_X7_countLessons_1, c_X7_countLessons_2, ↓reduceIte, ilt_t, ilt_f, ile_t, ile_f, ieq_t, ieq_f, jb_T, jb_F, jb_t, jb_f]
  · show ln_X7_countLessons_5 Q X (mf + 1) [some (.ref W), some (.int (ji n)), some (.int (ji c)), some (.int (ji x)), some (.int (ji l))] [] μ 0 0 = ln_X7_countLessons_5 Q X mf [some (.ref W), some (.int (ji n)), some (.int (ji c)), some (.int (ji (if lsn s Z c n l = true then x + 1 else x))), some (.int (ji (l + 1)))] [] μ 0 0
    rw [ul_X7_countLessons_5]
    unfold lsn
    by_cases hw : hol s Z n l = true <;> by_cases hd : Z (2 + l) = 0 <;> by_cases h0 : c = 0 <;> simp (disch := first | assumption | omega) only [WS_0, WS_1, WS_2, WS_3, WS_4, WS_5, WS_6, WS_7, WS_8, WS_9, WS_10, WS_11, WS_12, WS_13, WS_14, WS_15, WS_16, WS_17, WS_18, WS_19, WS_20, PS_0, PS_1, PS_2, PS_3, PS_4, PS_5, PS_6, ji_add, ji_sub, ji_mul, ji_neg, ji_lit0, ji_ofNat, ji_lt, ji_le, ji_eq, ji_nat, ji_in, qV_at, qI_at, qJ_at, qD_at, qA_at, qA_no, nb0, nb1, cat_r, cat_i, Option.some.injEq, exists_eq_left', true_and, and_true, if_true, if_false, ite_not, not_true_eq_false, not_false_eq_true, Sum.inr.injEq, exists_eq_right', true_or, or_true, and_self, Int.cast_ofNat_Int, reduceCtorEq, or_false, false_or, false_and, and_false, jb_zero, lt7_0, lt7_1, lt7_2, lt7_3, lt7_4, lt7_5, lt7_6, c_X7_countLessons_1, c_X7_countLessons_2, e_isWarned hS hC hB, e_isLinkDead hS hC hB, hw, hd, h0, ↓reduceIte, ilt_t, ilt_f, ile_t, ile_f, ieq_t, ieq_f, jb_T, jb_F, jb_t, jb_f] <;> simp [hd, h0]
  · show 0 ≤ (if lsn s Z c n l = true then x + 1 else x) ∧ (if lsn s Z c n l = true then x + 1 else x) ≤ (l + 1)
    split <;> omega
theorem e_countAllLessons (hS : WS μ W) (hC : CW μ W w h N s Z) (hB : BD w h N s Z) {c : Int} (hc : c = 0 ∨ c = 1) : s_X7_countAllLessons μ [.ref W, .int (ji c)] Q X = Q (some (.int (ji (foldz (fun n x => x + cntz (lsn s Z c n) 0 72 0) 0 N.toNat 0)))) μ := by
  have hC' := hC
  obtain ⟨⟨g0, g8, g9, g10, g11⟩, c1, c2, c3, c4, c5, c6⟩ := hC'
  rw [u_X7_countAllLessons, l_X7_countAllLessons_4, xseal_eq]
  refine fold_loop (fun mf x l => ln_X7_countAllLessons_4 Q X mf [some (.ref W), some (.int (ji c)), some (.int (ji x)), some (.int (ji l))] [] μ 0 0) (fun x => Q (some (.int (ji x))) μ) (fun l x => x + cntz (lsn s Z c l) 0 72 0) (fun l x => 0 ≤ x ∧ x ≤ 72 * l) (N) (fun mf x hx => ?_) (fun mf x l l0 l1 hx => ⟨?_, ?_⟩) _ 10000 (0) (0) (by omega) (by omega) (by omega) (by omega)
  · show ln_X7_countAllLessons_4 Q X (mf + 1) [some (.ref W), some (.int (ji c)), some (.int (ji x)), some (.int (ji (N)))] [] μ 0 0 = Q (some (.int (ji x))) μ
    rw [ul_X7_countAllLessons_4]
    simp (disch := first | assumption | omega) only [WS_0, WS_1, WS_2, WS_3, WS_4, WS_5, WS_6, WS_7, WS_8, WS_9, WS_10, WS_11, WS_12, WS_13, WS_14, WS_15, WS_16, WS_17, WS_18, WS_19, WS_20, PS_0, PS_1, PS_2, PS_3, PS_4, PS_5, PS_6, ji_add, ji_sub, ji_mul, ji_neg, ji_lit0, ji_ofNat, ji_lt, ji_le, ji_eq, ji_nat, ji_in, qV_at, qI_at, qJ_at, qD_at, qA_at, qA_no, nb0, nb1, cat_r, cat_i, Option.some.injEq, exists_eq_left', true_and, and_true, if_true, if_false, ite_not, not_true_eq_false, not_false_eq_true, Sum.inr.injEq, exists_eq_right', true_or, or_true, and_self, Int.cast_ofNat_Int, reduceCtorEq, or_false, false_or, false_and, and_false, jb_zero, lt7_0, lt7_1, lt7_2, lt7_3, lt7_4, lt7_5, lt7_6, c_X7_countAllLessons_1, g10, ↓reduceIte, ilt_t, ilt_f, ile_t, ile_f, ieq_t, ieq_f, jb_T, jb_F, jb_t, jb_f]
  · show ln_X7_countAllLessons_4 Q X (mf + 1) [some (.ref W), some (.int (ji c)), some (.int (ji x)), some (.int (ji l))] [] μ 0 0 = ln_X7_countAllLessons_4 Q X mf [some (.ref W), some (.int (ji c)), some (.int (ji (x + cntz (lsn s Z c l) 0 72 0))), some (.int (ji (l + 1)))] [] μ 0 0
    rw [ul_X7_countAllLessons_4]
    simp (disch := first | assumption | omega) only [WS_0, WS_1, WS_2, WS_3, WS_4, WS_5, WS_6, WS_7, WS_8, WS_9, WS_10, WS_11, WS_12, WS_13, WS_14, WS_15, WS_16, WS_17, WS_18, WS_19, WS_20, PS_0, PS_1, PS_2, PS_3, PS_4, PS_5, PS_6, ji_add, ji_sub, ji_mul, ji_neg, ji_lit0, ji_ofNat, ji_lt, ji_le, ji_eq, ji_nat, ji_in, qV_at, qI_at, qJ_at, qD_at, qA_at, qA_no, nb0, nb1, cat_r, cat_i, Option.some.injEq, exists_eq_left', true_and, and_true, if_true, if_false, ite_not, not_true_eq_false, not_false_eq_true, Sum.inr.injEq, exists_eq_right', true_or, or_true, and_self, Int.cast_ofNat_Int, reduceCtorEq, or_false, false_or, false_and, and_false, jb_zero, lt7_0, lt7_1, lt7_2, lt7_3, lt7_4, lt7_5, lt7_6, c_X7_countAllLessons_1, g10, e_countLessons hS hC hB, ↓reduceIte, ilt_t, ilt_f, ile_t, ile_f, ieq_t, ieq_f, jb_T, jb_F, jb_t, jb_f]
  · show 0 ≤ (x + cntz (lsn s Z c l) 0 72 0) ∧ (x + cntz (lsn s Z c l) 0 72 0) ≤ 72 * (l + 1)
    have := cntz_b (lsn s Z c l) 72 0 0
    omega
/-- the k-th packet's address -/
abbrev pka (W : Nat) (k : Int) : Nat := W + 8 + 3 * k.toNat
theorem WS_p (h : WS μ W) (k : Int) (h0 : 0 ≤ k) (h1 : k < 25) : aR μ (W + 7) k.toNat = some (pka W k) := (h.2.2.2 k.toNat (by omega)).1
theorem WS_ps (h : WS μ W) (k : Int) (h0 : 0 ≤ k) (h1 : k < 25) : PS μ (pka W k) := (h.2.2.2 k.toNat (by omega)).2
theorem e_packetOf (hS : WS μ W) (hC : CW μ W w h N s Z) (hB : BD w h N s Z) {k : Int} (k0 : 0 ≤ k) (k1 : k < Z 1) : s_X7_packetOf μ [.ref W, .int (ji k)] Q X = Q (some (.ref (pka W k))) μ := by
  obtain ⟨hG, c1, c2, c3, c4, c5, c6⟩ := hC
  obtain ⟨b1, b2, b3, b4, b5⟩ := hB
  simp (disch := first | assumption | omega) only [WS_0, WS_1, WS_2, WS_3, WS_4, WS_5, WS_6, WS_7, WS_8, WS_9, WS_10, WS_11, WS_12, WS_13, WS_14, WS_15, WS_16, WS_17, WS_18, WS_19, WS_20, PS_0, PS_1, PS_2, PS_3, PS_4, PS_5, PS_6, ji_add, ji_sub, ji_mul, ji_neg, ji_lit0, ji_ofNat, ji_lt, ji_le, ji_eq, ji_nat, ji_in, qV_at, qI_at, qJ_at, qD_at, qA_at, qA_no, nb0, nb1, cat_r, cat_i, Option.some.injEq, exists_eq_left', true_and, and_true, if_true, if_false, ite_not, not_true_eq_false, not_false_eq_true, Sum.inr.injEq, exists_eq_right', true_or, or_true, and_self, Int.cast_ofNat_Int, reduceCtorEq, or_false, false_or, false_and, and_false, jb_zero, lt7_0, lt7_1, lt7_2, lt7_3, lt7_4, lt7_5, lt7_6, u_X7_packetOf, c3, WS_p hS, ↓reduceIte, ilt_t, ilt_f, ile_t, ile_f, ieq_t, ieq_f, jb_T, jb_F, jb_t, jb_f]
end
