/-! ===== the class: questions by a search ===== -/
/-- ways over links that are not dead; of those that a node holds for whole -/
def eA (w h : Int) (Z : Int → Int) (n y : Int) : Bool := decide (nx w h n y ≠ -1) && decide (Z (2 + lkb w n (nx w h n y)) = 0)
def eB (w h s : Int) (Z : Int → Int) (v n y : Int) : Bool := decide (nx w h n y ≠ -1) && !(hol s Z v (lkb w n (nx w h n y)))
theorem isl_nx {w h N n y : Int} (g : 0 ≤ w ∧ w ≤ 6 ∧ 0 ≤ h ∧ h ≤ 6 ∧ 0 ≤ N ∧ N ≤ 36 ∧ N = w * h) (n0 : 0 ≤ n) (n1 : n < N) (y0 : 0 ≤ y) (y1 : y < 4) (hx : nx w h n y ≠ -1) : isl w h N (lkb w n (nx w h n y)) = true := by
  have e : nxt w h N n y = nx w h n y := if_pos ⟨n0, n1, y0, y1⟩
  have e2 : lka w h N n y = lkb w n (nx w h n y) := by unfold lka; rw [e, if_neg hx]
  have := nx_b g n0 n1 y0 y1
  rw [← e2]
  refine isl_lka g ?_
  rw [e2]
  have := this.2.2.2 hx
  omega
theorem eO_A {w h N n y : Int} {Z : Int → Int} (g : 0 ≤ w ∧ w ≤ 6 ∧ 0 ≤ h ∧ h ≤ 6 ∧ 0 ≤ N ∧ N ≤ 36 ∧ N = w * h) (n0 : 0 ≤ n) (n1 : n < N) (y0 : 0 ≤ y) (y1 : y < 4) : eO w h (oA w h N Z) (fun _ => 0) n y = eA w h Z n y := by
  unfold eO eA
  by_cases hx : nx w h n y = -1
  · rw [decide_eq_false (fun q => q hx), Bool.false_and, Bool.false_and]
  · rw [decide_eq_true hx, Bool.true_and, Bool.true_and]
    unfold rom oA
    by_cases hz : Z (2 + lkb w n (nx w h n y)) = 0
    · rw [if_pos ⟨isl_nx g n0 n1 y0 y1 hx, hz⟩]
      simp [hz]
    · rw [if_neg (fun q => hz q.2)]
      simp [hz]
theorem eO_B {w h N s n y v : Int} {Z : Int → Int} (g : 0 ≤ w ∧ w ≤ 6 ∧ 0 ≤ h ∧ h ≤ 6 ∧ 0 ≤ N ∧ N ≤ 36 ∧ N = w * h) (n0 : 0 ≤ n) (n1 : n < N) (y0 : 0 ≤ y) (y1 : y < 4) : eO w h (oB w h N s Z v) (fun _ => 0) n y = eB w h s Z v n y := by
  unfold eO eB
  by_cases hx : nx w h n y = -1
  · rw [decide_eq_false (fun q => q hx), Bool.false_and, Bool.false_and]
  · rw [decide_eq_true hx, Bool.true_and, Bool.true_and]
    unfold rom oB
    by_cases hz : hol s Z v (lkb w n (nx w h n y)) = true
    · rw [if_neg (fun q => q.2 hz)]
      simp [hz]
    · rw [if_pos ⟨isl_nx g n0 n1 y0 y1 hx, hz⟩]
      simp [hz]
theorem BF.cong {w h N f : Int} {e e' : Int → Int → Bool} {d : Int → Int} (hb : BF w h N e f d) (he : ∀ n z, 0 ≤ n → n < N → 0 ≤ z → z < 4 → e n z = e' n z) : BF w h N e' f d := by
  refine ⟨hb.1, fun n z n0 n1 z0 z1 hz => hb.2.1 n z n0 n1 z0 z1 (by rw [he n z n0 n1 z0 z1]; exact hz), fun n n0 n1 hn => ?_⟩
  obtain ⟨m, z, m0, m1, z0, z1, h1, h2⟩ := hb.2.2 n n0 n1 hn
  exact ⟨m, z, m0, m1, z0, z1, by rw [← he m z m0 m1 z0 z1]; exact h1, h2⟩
/-- the fewest hops over links that are not dead -/
noncomputable def hpA (w h N : Int) (Z : Int → Int) (f n : Int) : Int := hop w h N (eA w h Z) f n
noncomputable def hpB (w h N s : Int) (Z : Int → Int) (f n : Int) : Int := hop w h N (eB w h s Z f) f n
noncomputable def prg (w h N : Int) (Z : Int → Int) (n : Int) (x : Int × (Int → Bool)) : Int × (Int → Bool) := if x.2 n = true then x else (x.1 + 1, fun t => x.2 t || (decide (0 ≤ t ∧ t < N) && decide (hpA w h N Z n t ≠ -1)))
noncomputable def prt (w h N : Int) (Z : Int → Int) : Int := (foldz (prg w h N Z) 0 N.toNat (0, fun _ => false)).1
noncomputable def isB (w h N : Int) (Z : Int → Int) (l : Int) : Bool := isl w h N l && decide (Z (2 + l) = 0) && decide (hpA w h N (zu Z (2 + l) 1) (l / 2) (nxt w h N (l / 2) (l % 2)) = -1)
noncomputable def brz (w h N : Int) (Z : Int → Int) (i : Int) : Nat → Int → Int → Int
  | 0, _, _ => -1
  | d + 1, l, x => if isB w h N Z l = true then (if x = i then l else brz w h N Z i d (l + 1) (x + 1)) else brz w h N Z i d (l + 1) x
noncomputable def fag (w h N : Int) (Z : Int → Int) (f n : Int) (x : Int × Int) : Int × Int := if x.2 < hpA w h N Z f n then (n, hpA w h N Z f n) else x
noncomputable def far (w h N : Int) (Z : Int → Int) (f : Int) : Int := (foldz (fag w h N Z f) 0 N.toNat (f, 0)).1
noncomputable def xShortest (A : AS) (a b : Int) : AR := op1 ((0 ≤ a ∧ a < A.1.2.2.1) ∧ 0 ≤ b ∧ b < A.1.2.2.1) A (A, (0, hpA A.1.1 A.1.2.1 A.1.2.2.1 A.2.1 a b))
noncomputable def xBelieved (A : AS) (a b : Int) : AR := op1 ((0 ≤ a ∧ a < A.1.2.2.1) ∧ 0 ≤ b ∧ b < A.1.2.2.1) A (A, (0, hpB A.1.1 A.1.2.1 A.1.2.2.1 A.1.2.2.2 A.2.1 a b))
noncomputable def xParts (A : AS) : AR := (A, (0, prt A.1.1 A.1.2.1 A.1.2.2.1 A.2.1))
noncomputable def xBridge (A : AS) (i : Int) : AR := op1 (0 ≤ i) A (A, (0, brz A.1.1 A.1.2.1 A.1.2.2.1 A.2.1 i 72 0 0))
noncomputable def xFarthest (A : AS) (a : Int) : AR := op1 (0 ≤ a ∧ a < A.1.2.2.1) A (A, (0, far A.1.1 A.1.2.1 A.1.2.2.1 A.2.1 a))
abbrev inP (x a : Nat) : Prop := x + 1166 ≤ a ∧ a < x + 1171
section
variable {μ : XM} {x : Nat} {w h N s f : Int} {Z O F : Int → Int} {Q : XQ} {X : XX} {A : AS} {e1 e2 : String}
theorem q_shortest (hx : XS μ x A) (hi : INV A) {a b : Int} (a0 : -2147483648 ≤ a) (a1 : a < 2147483648) (b0 : -2147483648 ≤ b) (b1 : b < 2147483648) (hQ : CQ μ x Q X IOB e2 (xShortest A a b)) : s_X8_shortest μ [.ref x, .int (ji a), .int (ji b)] Q X := by
  have hL := hx.1
  have hX := hx.xw hi
  have hB := hi.1.1.1
  unfold xShortest op1 at hQ
  by_cases h1 : 0 ≤ a ∧ a < A.1.2.2.1
  · by_cases h2 : 0 ≤ b ∧ b < A.1.2.2.1
    · rw [if_pos ⟨h1, h2⟩] at hQ
      simp (disch := first | assumption | omega) only [XL_0, XL_1, XL_2, XL_3, XL_4, XL_5, XL_6, XL_7, XL_8, XL_9, XL_10, XL_11, XL_12, XL_13, XL_14, XL_15, XL_16, XL_17, XL_18, XL_19, XL_20, XL_21, XL_22, XL_23, XL_24, XL_25, XL_26, XL_27, XL_28, XL_29, XL_30, XL_31, XL_32, XL_33, XL_34, XL_35, XL_36, XL_37, XL_38, XL_39, XL_40, XL_41, XL_42, XL_43, XL_44, XL_45, XL_46, XL_47, WS_0, WS_1, WS_2, WS_3, WS_4, WS_5, WS_6, WS_7, WS_8, WS_9, WS_10, WS_11, WS_12, WS_13, WS_14, WS_15, WS_16, WS_17, WS_18, WS_19, WS_20, PS_0, PS_1, PS_2, PS_3, PS_4, PS_5, PS_6, ji_add, ji_sub, ji_mul, ji_neg, ji_lit0, ji_ofNat, ji_lt, ji_le, ji_eq, ji_nat, ji_in, qV_at, qI_at, qJ_at, qD_at, qA_at, qA_no, nb0, nb1, cat_r, cat_i, Option.some.injEq, exists_eq_left', true_and, and_true, if_true, if_false, ite_not, not_true_eq_false, not_false_eq_true, Sum.inr.injEq, exists_eq_right', true_or, or_true, and_self, Int.cast_ofNat_Int, reduceCtorEq, or_false, false_or, false_and, and_false, jb_zero, lt7_0, lt7_1, lt7_2, lt7_3, lt7_4, lt7_5, lt7_6, Nat.reduceAdd, Nat.reduceLeDiff, c_X8_shortest_1, c_X8_shortest_2, c_X8_shortest_3, c_X8_shortest_4, c_X8_shortest_5, u_X8_shortest, q_reqNode hX, h1, h2, ↓reduceIte, ilt_t, ilt_f, ile_t, ile_f, ieq_t, ieq_f, jb_T, jb_F, jb_t, jb_f]
      refine e_openAlive hL hx.2.1 hB (fun y y1 y2 => ?_)
      have hL' := hL.mono y1.1
      have hS' := hL'.w
      simp (disch := first | assumption | omega) only [XL_0, XL_1, XL_2, XL_3, XL_4, XL_5, XL_6, XL_7, XL_8, XL_9, XL_10, XL_11, XL_12, XL_13, XL_14, XL_15, XL_16, XL_17, XL_18, XL_19, XL_20, XL_21, XL_22, XL_23, XL_24, XL_25, XL_26, XL_27, XL_28, XL_29, XL_30, XL_31, XL_32, XL_33, XL_34, XL_35, XL_36, XL_37, XL_38, XL_39, XL_40, XL_41, XL_42, XL_43, XL_44, XL_45, XL_46, XL_47, WS_0, WS_1, WS_2, WS_3, WS_4, WS_5, WS_6, WS_7, WS_8, WS_9, WS_10, WS_11, WS_12, WS_13, WS_14, WS_15, WS_16, WS_17, WS_18, WS_19, WS_20, PS_0, PS_1, PS_2, PS_3, PS_4, PS_5, PS_6, ji_add, ji_sub, ji_mul, ji_neg, ji_lit0, ji_ofNat, ji_lt, ji_le, ji_eq, ji_nat, ji_in, qV_at, qI_at, qJ_at, qD_at, qA_at, qA_no, nb0, nb1, cat_r, cat_i, Option.some.injEq, exists_eq_left', true_and, and_true, if_true, if_false, ite_not, not_true_eq_false, not_false_eq_true, Sum.inr.injEq, exists_eq_right', true_or, or_true, and_self, Int.cast_ofNat_Int, reduceCtorEq, or_false, false_or, false_and, and_false, jb_zero, lt7_0, lt7_1, lt7_2, lt7_3, lt7_4, lt7_5, lt7_6, Nat.reduceAdd, Nat.reduceLeDiff, c_X8_shortest_1, c_X8_shortest_2, c_X8_shortest_3, c_X8_shortest_4, c_X8_shortest_5, ↓reduceIte, ilt_t, ilt_f, ile_t, ile_f, ieq_t, ieq_f, jb_T, jb_F, jb_t, jb_f]
      refine e_spread hL' (hx.2.1.frame hB y1 (fun a a0 a1 => by omega)) hB y2 (oA_b _ _ _ _) h1.1 h1.2 (fun z d c z1 z2 z3 z4 z5 z6 => ?_)
      have hL2 := hL'.mono z1.1
      have g := hB.g
      simp (disch := first | assumption | omega) only [XL_0, XL_1, XL_2, XL_3, XL_4, XL_5, XL_6, XL_7, XL_8, XL_9, XL_10, XL_11, XL_12, XL_13, XL_14, XL_15, XL_16, XL_17, XL_18, XL_19, XL_20, XL_21, XL_22, XL_23, XL_24, XL_25, XL_26, XL_27, XL_28, XL_29, XL_30, XL_31, XL_32, XL_33, XL_34, XL_35, XL_36, XL_37, XL_38, XL_39, XL_40, XL_41, XL_42, XL_43, XL_44, XL_45, XL_46, XL_47, WS_0, WS_1, WS_2, WS_3, WS_4, WS_5, WS_6, WS_7, WS_8, WS_9, WS_10, WS_11, WS_12, WS_13, WS_14, WS_15, WS_16, WS_17, WS_18, WS_19, WS_20, PS_0, PS_1, PS_2, PS_3, PS_4, PS_5, PS_6, ji_add, ji_sub, ji_mul, ji_neg, ji_lit0, ji_ofNat, ji_lt, ji_le, ji_eq, ji_nat, ji_in, qV_at, qI_at, qJ_at, qD_at, qA_at, qA_no, nb0, nb1, cat_r, cat_i, Option.some.injEq, exists_eq_left', true_and, and_true, if_true, if_false, ite_not, not_true_eq_false, not_false_eq_true, Sum.inr.injEq, exists_eq_right', true_or, or_true, and_self, Int.cast_ofNat_Int, reduceCtorEq, or_false, false_or, false_and, and_false, jb_zero, lt7_0, lt7_1, lt7_2, lt7_3, lt7_4, lt7_5, lt7_6, Nat.reduceAdd, Nat.reduceLeDiff, c_X8_shortest_1, c_X8_shortest_2, c_X8_shortest_3, c_X8_shortest_4, c_X8_shortest_5, e_hopsTo hL2 z2, ↓reduceIte, ilt_t, ilt_f, ile_t, ile_f, ieq_t, ieq_f, jb_T, jb_F, jb_t, jb_f]
      have c : CH (inP x) z μ := CH.trans (z1.mono (fun a ha => by unfold inP; omega)) (y1.mono (fun a ha => by unfold inP; omega))
      have e : hpA A.1.1 A.1.2.1 A.1.2.2.1 A.2.1 a b = d b := hop_eq (z4.cong (fun n y n0 n1 y0 y1 => eO_A g n0 n1 y0 y1)) h2.1 h2.2
      rw [e] at hQ
      exact hQ.p rfl z (c.mono (fun a ha => by unfold inP at ha; unfold inX; omega)) (hx.frame hi c (fun a a0 a1 ha => by unfold inP at ha; omega))
    · rw [if_neg (fun q => h2 q.2)] at hQ
      simp (disch := first | assumption | omega) only [XL_0, XL_1, XL_2, XL_3, XL_4, XL_5, XL_6, XL_7, XL_8, XL_9, XL_10, XL_11, XL_12, XL_13, XL_14, XL_15, XL_16, XL_17, XL_18, XL_19, XL_20, XL_21, XL_22, XL_23, XL_24, XL_25, XL_26, XL_27, XL_28, XL_29, XL_30, XL_31, XL_32, XL_33, XL_34, XL_35, XL_36, XL_37, XL_38, XL_39, XL_40, XL_41, XL_42, XL_43, XL_44, XL_45, XL_46, XL_47, WS_0, WS_1, WS_2, WS_3, WS_4, WS_5, WS_6, WS_7, WS_8, WS_9, WS_10, WS_11, WS_12, WS_13, WS_14, WS_15, WS_16, WS_17, WS_18, WS_19, WS_20, PS_0, PS_1, PS_2, PS_3, PS_4, PS_5, PS_6, ji_add, ji_sub, ji_mul, ji_neg, ji_lit0, ji_ofNat, ji_lt, ji_le, ji_eq, ji_nat, ji_in, qV_at, qI_at, qJ_at, qD_at, qA_at, qA_no, nb0, nb1, cat_r, cat_i, Option.some.injEq, exists_eq_left', true_and, and_true, if_true, if_false, ite_not, not_true_eq_false, not_false_eq_true, Sum.inr.injEq, exists_eq_right', true_or, or_true, and_self, Int.cast_ofNat_Int, reduceCtorEq, or_false, false_or, false_and, and_false, jb_zero, lt7_0, lt7_1, lt7_2, lt7_3, lt7_4, lt7_5, lt7_6, Nat.reduceAdd, Nat.reduceLeDiff, c_X8_shortest_1, c_X8_shortest_2, c_X8_shortest_3, c_X8_shortest_4, c_X8_shortest_5, u_X8_shortest, q_reqNode hX, h1, h2, ↓reduceIte, ilt_t, ilt_f, ile_t, ile_f, ieq_t, ieq_f, jb_T, jb_F, jb_t, jb_f]
      exact CQ.stay hx hQ
  · rw [if_neg (fun q => h1 q.1)] at hQ
    simp (disch := first | assumption | omega) only [XL_0, XL_1, XL_2, XL_3, XL_4, XL_5, XL_6, XL_7, XL_8, XL_9, XL_10, XL_11, XL_12, XL_13, XL_14, XL_15, XL_16, XL_17, XL_18, XL_19, XL_20, XL_21, XL_22, XL_23, XL_24, XL_25, XL_26, XL_27, XL_28, XL_29, XL_30, XL_31, XL_32, XL_33, XL_34, XL_35, XL_36, XL_37, XL_38, XL_39, XL_40, XL_41, XL_42, XL_43, XL_44, XL_45, XL_46, XL_47, WS_0, WS_1, WS_2, WS_3, WS_4, WS_5, WS_6, WS_7, WS_8, WS_9, WS_10, WS_11, WS_12, WS_13, WS_14, WS_15, WS_16, WS_17, WS_18, WS_19, WS_20, PS_0, PS_1, PS_2, PS_3, PS_4, PS_5, PS_6, ji_add, ji_sub, ji_mul, ji_neg, ji_lit0, ji_ofNat, ji_lt, ji_le, ji_eq, ji_nat, ji_in, qV_at, qI_at, qJ_at, qD_at, qA_at, qA_no, nb0, nb1, cat_r, cat_i, Option.some.injEq, exists_eq_left', true_and, and_true, if_true, if_false, ite_not, not_true_eq_false, not_false_eq_true, Sum.inr.injEq, exists_eq_right', true_or, or_true, and_self, Int.cast_ofNat_Int, reduceCtorEq, or_false, false_or, false_and, and_false, jb_zero, lt7_0, lt7_1, lt7_2, lt7_3, lt7_4, lt7_5, lt7_6, Nat.reduceAdd, Nat.reduceLeDiff, c_X8_shortest_1, c_X8_shortest_2, c_X8_shortest_3, c_X8_shortest_4, c_X8_shortest_5, u_X8_shortest, q_reqNode hX, h1, ↓reduceIte, ilt_t, ilt_f, ile_t, ile_f, ieq_t, ieq_f, jb_T, jb_F, jb_t, jb_f]
    exact CQ.stay hx hQ
theorem q_believed (hx : XS μ x A) (hi : INV A) {a b : Int} (a0 : -2147483648 ≤ a) (a1 : a < 2147483648) (b0 : -2147483648 ≤ b) (b1 : b < 2147483648) (hQ : CQ μ x Q X IOB e2 (xBelieved A a b)) : s_X8_believed μ [.ref x, .int (ji a), .int (ji b)] Q X := by
  have hL := hx.1
  have hX := hx.xw hi
  have hB := hi.1.1.1
  have hw := hB.1
  unfold xBelieved op1 at hQ
  by_cases h1 : 0 ≤ a ∧ a < A.1.2.2.1
  · by_cases h2 : 0 ≤ b ∧ b < A.1.2.2.1
    · rw [if_pos ⟨h1, h2⟩] at hQ
      simp (disch := first | assumption | omega) only [XL_0, XL_1, XL_2, XL_3, XL_4, XL_5, XL_6, XL_7, XL_8, XL_9, XL_10, XL_11, XL_12, XL_13, XL_14, XL_15, XL_16, XL_17, XL_18, XL_19, XL_20, XL_21, XL_22, XL_23, XL_24, XL_25, XL_26, XL_27, XL_28, XL_29, XL_30, XL_31, XL_32, XL_33, XL_34, XL_35, XL_36, XL_37, XL_38, XL_39, XL_40, XL_41, XL_42, XL_43, XL_44, XL_45, XL_46, XL_47, WS_0, WS_1, WS_2, WS_3, WS_4, WS_5, WS_6, WS_7, WS_8, WS_9, WS_10, WS_11, WS_12, WS_13, WS_14, WS_15, WS_16, WS_17, WS_18, WS_19, WS_20, PS_0, PS_1, PS_2, PS_3, PS_4, PS_5, PS_6, ji_add, ji_sub, ji_mul, ji_neg, ji_lit0, ji_ofNat, ji_lt, ji_le, ji_eq, ji_nat, ji_in, qV_at, qI_at, qJ_at, qD_at, qA_at, qA_no, nb0, nb1, cat_r, cat_i, Option.some.injEq, exists_eq_left', true_and, and_true, if_true, if_false, ite_not, not_true_eq_false, not_false_eq_true, Sum.inr.injEq, exists_eq_right', true_or, or_true, and_self, Int.cast_ofNat_Int, reduceCtorEq, or_false, false_or, false_and, and_false, jb_zero, lt7_0, lt7_1, lt7_2, lt7_3, lt7_4, lt7_5, lt7_6, Nat.reduceAdd, Nat.reduceLeDiff, c_X8_believed_1, c_X8_believed_2, c_X8_believed_3, c_X8_believed_4, c_X8_believed_5, u_X8_believed, q_reqNode hX, h1, h2, ↓reduceIte, ilt_t, ilt_f, ile_t, ile_f, ieq_t, ieq_f, jb_T, jb_F, jb_t, jb_f]
      refine e_openBelieved hL hx.2.1 hB h1.1 (by omega) (fun y y1 y2 => ?_)
      have hL' := hL.mono y1.1
      have hS' := hL'.w
      simp (disch := first | assumption | omega) only [XL_0, XL_1, XL_2, XL_3, XL_4, XL_5, XL_6, XL_7, XL_8, XL_9, XL_10, XL_11, XL_12, XL_13, XL_14, XL_15, XL_16, XL_17, XL_18, XL_19, XL_20, XL_21, XL_22, XL_23, XL_24, XL_25, XL_26, XL_27, XL_28, XL_29, XL_30, XL_31, XL_32, XL_33, XL_34, XL_35, XL_36, XL_37, XL_38, XL_39, XL_40, XL_41, XL_42, XL_43, XL_44, XL_45, XL_46, XL_47, WS_0, WS_1, WS_2, WS_3, WS_4, WS_5, WS_6, WS_7, WS_8, WS_9, WS_10, WS_11, WS_12, WS_13, WS_14, WS_15, WS_16, WS_17, WS_18, WS_19, WS_20, PS_0, PS_1, PS_2, PS_3, PS_4, PS_5, PS_6, ji_add, ji_sub, ji_mul, ji_neg, ji_lit0, ji_ofNat, ji_lt, ji_le, ji_eq, ji_nat, ji_in, qV_at, qI_at, qJ_at, qD_at, qA_at, qA_no, nb0, nb1, cat_r, cat_i, Option.some.injEq, exists_eq_left', true_and, and_true, if_true, if_false, ite_not, not_true_eq_false, not_false_eq_true, Sum.inr.injEq, exists_eq_right', true_or, or_true, and_self, Int.cast_ofNat_Int, reduceCtorEq, or_false, false_or, false_and, and_false, jb_zero, lt7_0, lt7_1, lt7_2, lt7_3, lt7_4, lt7_5, lt7_6, Nat.reduceAdd, Nat.reduceLeDiff, c_X8_believed_1, c_X8_believed_2, c_X8_believed_3, c_X8_believed_4, c_X8_believed_5, ↓reduceIte, ilt_t, ilt_f, ile_t, ile_f, ieq_t, ieq_f, jb_T, jb_F, jb_t, jb_f]
      refine e_spread hL' (hx.2.1.frame hB y1 (fun a a0 a1 => by omega)) hB y2 (oB_b _ _ _ _ _ _) h1.1 h1.2 (fun z d c z1 z2 z3 z4 z5 z6 => ?_)
      have hL2 := hL'.mono z1.1
      have g := hB.g
      simp (disch := first | assumption | omega) only [XL_0, XL_1, XL_2, XL_3, XL_4, XL_5, XL_6, XL_7, XL_8, XL_9, XL_10, XL_11, XL_12, XL_13, XL_14, XL_15, XL_16, XL_17, XL_18, XL_19, XL_20, XL_21, XL_22, XL_23, XL_24, XL_25, XL_26, XL_27, XL_28, XL_29, XL_30, XL_31, XL_32, XL_33, XL_34, XL_35, XL_36, XL_37, XL_38, XL_39, XL_40, XL_41, XL_42, XL_43, XL_44, XL_45, XL_46, XL_47, WS_0, WS_1, WS_2, WS_3, WS_4, WS_5, WS_6, WS_7, WS_8, WS_9, WS_10, WS_11, WS_12, WS_13, WS_14, WS_15, WS_16, WS_17, WS_18, WS_19, WS_20, PS_0, PS_1, PS_2, PS_3, PS_4, PS_5, PS_6, ji_add, ji_sub, ji_mul, ji_neg, ji_lit0, ji_ofNat, ji_lt, ji_le, ji_eq, ji_nat, ji_in, qV_at, qI_at, qJ_at, qD_at, qA_at, qA_no, nb0, nb1, cat_r, cat_i, Option.some.injEq, exists_eq_left', true_and, and_true, if_true, if_false, ite_not, not_true_eq_false, not_false_eq_true, Sum.inr.injEq, exists_eq_right', true_or, or_true, and_self, Int.cast_ofNat_Int, reduceCtorEq, or_false, false_or, false_and, and_false, jb_zero, lt7_0, lt7_1, lt7_2, lt7_3, lt7_4, lt7_5, lt7_6, Nat.reduceAdd, Nat.reduceLeDiff, c_X8_believed_1, c_X8_believed_2, c_X8_believed_3, c_X8_believed_4, c_X8_believed_5, e_hopsTo hL2 z2, ↓reduceIte, ilt_t, ilt_f, ile_t, ile_f, ieq_t, ieq_f, jb_T, jb_F, jb_t, jb_f]
      have c : CH (inP x) z μ := CH.trans (z1.mono (fun a ha => by unfold inP; omega)) (y1.mono (fun a ha => by unfold inP; omega))
      have e : hpB A.1.1 A.1.2.1 A.1.2.2.1 A.1.2.2.2 A.2.1 a b = d b := hop_eq (z4.cong (fun n y n0 n1 y0 y1 => eO_B g n0 n1 y0 y1)) h2.1 h2.2
      rw [e] at hQ
      exact hQ.p rfl z (c.mono (fun a ha => by unfold inP at ha; unfold inX; omega)) (hx.frame hi c (fun a a0 a1 ha => by unfold inP at ha; omega))
    · rw [if_neg (fun q => h2 q.2)] at hQ
      simp (disch := first | assumption | omega) only [XL_0, XL_1, XL_2, XL_3, XL_4, XL_5, XL_6, XL_7, XL_8, XL_9, XL_10, XL_11, XL_12, XL_13, XL_14, XL_15, XL_16, XL_17, XL_18, XL_19, XL_20, XL_21, XL_22, XL_23, XL_24, XL_25, XL_26, XL_27, XL_28, XL_29, XL_30, XL_31, XL_32, XL_33, XL_34, XL_35, XL_36, XL_37, XL_38, XL_39, XL_40, XL_41, XL_42, XL_43, XL_44, XL_45, XL_46, XL_47, WS_0, WS_1, WS_2, WS_3, WS_4, WS_5, WS_6, WS_7, WS_8, WS_9, WS_10, WS_11, WS_12, WS_13, WS_14, WS_15, WS_16, WS_17, WS_18, WS_19, WS_20, PS_0, PS_1, PS_2, PS_3, PS_4, PS_5, PS_6, ji_add, ji_sub, ji_mul, ji_neg, ji_lit0, ji_ofNat, ji_lt, ji_le, ji_eq, ji_nat, ji_in, qV_at, qI_at, qJ_at, qD_at, qA_at, qA_no, nb0, nb1, cat_r, cat_i, Option.some.injEq, exists_eq_left', true_and, and_true, if_true, if_false, ite_not, not_true_eq_false, not_false_eq_true, Sum.inr.injEq, exists_eq_right', true_or, or_true, and_self, Int.cast_ofNat_Int, reduceCtorEq, or_false, false_or, false_and, and_false, jb_zero, lt7_0, lt7_1, lt7_2, lt7_3, lt7_4, lt7_5, lt7_6, Nat.reduceAdd, Nat.reduceLeDiff, c_X8_believed_1, c_X8_believed_2, c_X8_believed_3, c_X8_believed_4, c_X8_believed_5, u_X8_believed, q_reqNode hX, h1, h2, ↓reduceIte, ilt_t, ilt_f, ile_t, ile_f, ieq_t, ieq_f, jb_T, jb_F, jb_t, jb_f]
      exact CQ.stay hx hQ
  · rw [if_neg (fun q => h1 q.1)] at hQ
    simp (disch := first | assumption | omega) only [XL_0, XL_1, XL_2, XL_3, XL_4, XL_5, XL_6, XL_7, XL_8, XL_9, XL_10, XL_11, XL_12, XL_13, XL_14, XL_15, XL_16, XL_17, XL_18, XL_19, XL_20, XL_21, XL_22, XL_23, XL_24, XL_25, XL_26, XL_27, XL_28, XL_29, XL_30, XL_31, XL_32, XL_33, XL_34, XL_35, XL_36, XL_37, XL_38, XL_39, XL_40, XL_41, XL_42, XL_43, XL_44, XL_45, XL_46, XL_47, WS_0, WS_1, WS_2, WS_3, WS_4, WS_5, WS_6, WS_7, WS_8, WS_9, WS_10, WS_11, WS_12, WS_13, WS_14, WS_15, WS_16, WS_17, WS_18, WS_19, WS_20, PS_0, PS_1, PS_2, PS_3, PS_4, PS_5, PS_6, ji_add, ji_sub, ji_mul, ji_neg, ji_lit0, ji_ofNat, ji_lt, ji_le, ji_eq, ji_nat, ji_in, qV_at, qI_at, qJ_at, qD_at, qA_at, qA_no, nb0, nb1, cat_r, cat_i, Option.some.injEq, exists_eq_left', true_and, and_true, if_true, if_false, ite_not, not_true_eq_false, not_false_eq_true, Sum.inr.injEq, exists_eq_right', true_or, or_true, and_self, Int.cast_ofNat_Int, reduceCtorEq, or_false, false_or, false_and, and_false, jb_zero, lt7_0, lt7_1, lt7_2, lt7_3, lt7_4, lt7_5, lt7_6, Nat.reduceAdd, Nat.reduceLeDiff, c_X8_believed_1, c_X8_believed_2, c_X8_believed_3, c_X8_believed_4, c_X8_believed_5, u_X8_believed, q_reqNode hX, h1, ↓reduceIte, ilt_t, ilt_f, ile_t, ile_f, ieq_t, ieq_f, jb_T, jb_F, jb_t, jb_f]
    exact CQ.stay hx hQ
theorem q_farthest (hx : XS μ x A) (hi : INV A) {a : Int} (a0 : -2147483648 ≤ a) (a1 : a < 2147483648) (hQ : CQ μ x Q X IOB e2 (xFarthest A a)) : s_X8_farthest μ [.ref x, .int (ji a)] Q X := by
  have hL := hx.1
  have hX := hx.xw hi
  have hB := hi.1.1.1
  have hw := hB.1
  unfold xFarthest op1 at hQ
  by_cases h1 : 0 ≤ a ∧ a < A.1.2.2.1
  · rw [if_pos h1] at hQ
    simp (disch := first | assumption | omega) only [XL_0, XL_1, XL_2, XL_3, XL_4, XL_5, XL_6, XL_7, XL_8, XL_9, XL_10, XL_11, XL_12, XL_13, XL_14, XL_15, XL_16, XL_17, XL_18, XL_19, XL_20, XL_21, XL_22, XL_23, XL_24, XL_25, XL_26, XL_27, XL_28, XL_29, XL_30, XL_31, XL_32, XL_33, XL_34, XL_35, XL_36, XL_37, XL_38, XL_39, XL_40, XL_41, XL_42, XL_43, XL_44, XL_45, XL_46, XL_47, WS_0, WS_1, WS_2, WS_3, WS_4, WS_5, WS_6, WS_7, WS_8, WS_9, WS_10, WS_11, WS_12, WS_13, WS_14, WS_15, WS_16, WS_17, WS_18, WS_19, WS_20, PS_0, PS_1, PS_2, PS_3, PS_4, PS_5, PS_6, ji_add, ji_sub, ji_mul, ji_neg, ji_lit0, ji_ofNat, ji_lt, ji_le, ji_eq, ji_nat, ji_in, qV_at, qI_at, qJ_at, qD_at, qA_at, qA_no, nb0, nb1, cat_r, cat_i, Option.some.injEq, exists_eq_left', true_and, and_true, if_true, if_false, ite_not, not_true_eq_false, not_false_eq_true, Sum.inr.injEq, exists_eq_right', true_or, or_true, and_self, Int.cast_ofNat_Int, reduceCtorEq, or_false, false_or, false_and, and_false, jb_zero, lt7_0, lt7_1, lt7_2, lt7_3, lt7_4, lt7_5, lt7_6, Nat.reduceAdd, Nat.reduceLeDiff, c_X8_farthest_1, c_X8_farthest_2, c_X8_farthest_3, u_X8_farthest, c_X8_farthest_4, c_X8_farthest_5, q_reqNode hX, h1, ↓reduceIte, ilt_t, ilt_f, ile_t, ile_f, ieq_t, ieq_f, jb_T, jb_F, jb_t, jb_f]
    refine e_openAlive hL hx.2.1 hB (fun y y1 y2 => ?_)
    have hL' := hL.mono y1.1
    have hS' := hL'.w
    simp (disch := first | assumption | omega) only [XL_0, XL_1, XL_2, XL_3, XL_4, XL_5, XL_6, XL_7, XL_8, XL_9, XL_10, XL_11, XL_12, XL_13, XL_14, XL_15, XL_16, XL_17, XL_18, XL_19, XL_20, XL_21, XL_22, XL_23, XL_24, XL_25, XL_26, XL_27, XL_28, XL_29, XL_30, XL_31, XL_32, XL_33, XL_34, XL_35, XL_36, XL_37, XL_38, XL_39, XL_40, XL_41, XL_42, XL_43, XL_44, XL_45, XL_46, XL_47, WS_0, WS_1, WS_2, WS_3, WS_4, WS_5, WS_6, WS_7, WS_8, WS_9, WS_10, WS_11, WS_12, WS_13, WS_14, WS_15, WS_16, WS_17, WS_18, WS_19, WS_20, PS_0, PS_1, PS_2, PS_3, PS_4, PS_5, PS_6, ji_add, ji_sub, ji_mul, ji_neg, ji_lit0, ji_ofNat, ji_lt, ji_le, ji_eq, ji_nat, ji_in, qV_at, qI_at, qJ_at, qD_at, qA_at, qA_no, nb0, nb1, cat_r, cat_i, Option.some.injEq, exists_eq_left', true_and, and_true, if_true, if_false, ite_not, not_true_eq_false, not_false_eq_true, Sum.inr.injEq, exists_eq_right', true_or, or_true, and_self, Int.cast_ofNat_Int, reduceCtorEq, or_false, false_or, false_and, and_false, jb_zero, lt7_0, lt7_1, lt7_2, lt7_3, lt7_4, lt7_5, lt7_6, Nat.reduceAdd, Nat.reduceLeDiff, c_X8_farthest_1, c_X8_farthest_2, c_X8_farthest_3, c_X8_farthest_4, c_X8_farthest_5, ↓reduceIte, ilt_t, ilt_f, ile_t, ile_f, ieq_t, ieq_f, jb_T, jb_F, jb_t, jb_f]
    refine e_spread hL' (hx.2.1.frame hB y1 (fun a a0 a1 => by omega)) hB y2 (oA_b _ _ _ _) h1.1 h1.2 (fun z d c z1 z2 z3 z4 z5 z6 => ?_)
    have hL2 := hL'.mono z1.1
    have hS2 := hL2.w
    have g := hB.g
    have c : CH (inP x) z μ := CH.trans (z1.mono (fun a ha => by unfold inP; omega)) (y1.mono (fun a ha => by unfold inP; omega))
    have hC2 := hx.2.1.frame hB c (fun a a0 a1 => by unfold inP; omega)
    have nn := nodesX hC2
    have e : ∀ n, 0 ≤ n → n < A.1.2.2.1 → hpA A.1.1 A.1.2.1 A.1.2.2.1 A.2.1 a n = d n := fun n n0 n1 => hop_eq (z4.cong (fun n y n0 n1 y0 y1 => eO_A g n0 n1 y0 y1)) n0 n1
    have hq := hQ.p rfl z (c.mono (fun a ha => by unfold inP at ha; unfold inX; omega)) (hx.frame hi c (fun a a0 a1 ha => by unfold inP at ha; omega))
    show l_X8_farthest_38 Q X [some (.ref x), none, some (.int (ji a)), some (.int (ji 0)), some (.int (ji 0))] [] z (0 + 1) (0 + 6)
    rw [l_X8_farthest_38, xseal_eq]
    refine imp_loop (fun mf (u : Int × Int) l => ln_X8_farthest_38 Q X mf [some (.ref x), none, some (.int (ji u.1)), some (.int (ji u.2)), some (.int (ji l))] [] z (0 + 1) (0 + 6)) (fun l u => (0 ≤ u.1 ∧ u.1 < 36 ∧ 0 ≤ u.2 ∧ u.2 < 36) ∧ (foldz (fag A.1.1 A.1.2.1 A.1.2.2.1 A.2.1 a) l (A.1.2.2.1 - l).toNat u).1 = far A.1.1 A.1.2.1 A.1.2.2.1 A.2.1 a) A.1.2.2.1 (fun mf u hu => ?_) (fun mf u l l0 l1 hu hn => ?_) A.1.2.2.1.toNat 10000 0 (a, 0) (by omega) (by omega) (by omega) ⟨by simp only; omega, by rw [show (A.1.2.2.1 - 0).toNat = A.1.2.2.1.toNat by omega]; rfl⟩
    · obtain ⟨u1, u2⟩ := u
      show ln_X8_farthest_38 Q X (mf + 1) [some (.ref x), none, some (.int (ji u1)), some (.int (ji u2)), some (.int (ji A.1.2.2.1))] [] z (0 + 1) (0 + 6)
      rw [ul_X8_farthest_38]
      simp (disch := first | assumption | omega) only [XL_0, XL_1, XL_2, XL_3, XL_4, XL_5, XL_6, XL_7, XL_8, XL_9, XL_10, XL_11, XL_12, XL_13, XL_14, XL_15, XL_16, XL_17, XL_18, XL_19, XL_20, XL_21, XL_22, XL_23, XL_24, XL_25, XL_26, XL_27, XL_28, XL_29, XL_30, XL_31, XL_32, XL_33, XL_34, XL_35, XL_36, XL_37, XL_38, XL_39, XL_40, XL_41, XL_42, XL_43, XL_44, XL_45, XL_46, XL_47, WS_0, WS_1, WS_2, WS_3, WS_4, WS_5, WS_6, WS_7, WS_8, WS_9, WS_10, WS_11, WS_12, WS_13, WS_14, WS_15, WS_16, WS_17, WS_18, WS_19, WS_20, PS_0, PS_1, PS_2, PS_3, PS_4, PS_5, PS_6, ji_add, ji_sub, ji_mul, ji_neg, ji_lit0, ji_ofNat, ji_lt, ji_le, ji_eq, ji_nat, ji_in, qV_at, qI_at, qJ_at, qD_at, qA_at, qA_no, nb0, nb1, cat_r, cat_i, Option.some.injEq, exists_eq_left', true_and, and_true, if_true, if_false, ite_not, not_true_eq_false, not_false_eq_true, Sum.inr.injEq, exists_eq_right', true_or, or_true, and_self, Int.cast_ofNat_Int, reduceCtorEq, or_false, false_or, false_and, and_false, jb_zero, lt7_0, lt7_1, lt7_2, lt7_3, lt7_4, lt7_5, lt7_6, Nat.reduceAdd, Nat.reduceLeDiff, nn, ↓reduceIte, ilt_t, ilt_f, ile_t, ile_f, ieq_t, ieq_f, jb_T, jb_F, jb_t, jb_f]
      have := hu.2
      rw [show (A.1.2.2.1 - A.1.2.2.1).toNat = 0 by omega] at this
      have this : u1 = far A.1.1 A.1.2.1 A.1.2.2.1 A.2.1 a := this
      rw [this]
      exact hq
    · obtain ⟨u1, u2⟩ := u
      obtain ⟨hb, hf⟩ := hu
      simp only at hb
      show ln_X8_farthest_38 Q X (mf + 1) [some (.ref x), none, some (.int (ji u1)), some (.int (ji u2)), some (.int (ji l))] [] z (0 + 1) (0 + 6)
      have hd := z4.lt l0 l1
      have hd2 := z4.1.2.1 l l0 l1
      rw [show (A.1.2.2.1 - l).toNat = (A.1.2.2.1 - (l + 1)).toNat + 1 by omega, foldz] at hf
      unfold fag at hf
      simp only [e l l0 l1] at hf
      rw [ul_X8_farthest_38]
      by_cases hm : u2 < d l
      · rw [if_pos hm] at hf
        simp (disch := first | assumption | omega) only [XL_0, XL_1, XL_2, XL_3, XL_4, XL_5, XL_6, XL_7, XL_8, XL_9, XL_10, XL_11, XL_12, XL_13, XL_14, XL_15, XL_16, XL_17, XL_18, XL_19, XL_20, XL_21, XL_22, XL_23, XL_24, XL_25, XL_26, XL_27, XL_28, XL_29, XL_30, XL_31, XL_32, XL_33, XL_34, XL_35, XL_36, XL_37, XL_38, XL_39, XL_40, XL_41, XL_42, XL_43, XL_44, XL_45, XL_46, XL_47, WS_0, WS_1, WS_2, WS_3, WS_4, WS_5, WS_6, WS_7, WS_8, WS_9, WS_10, WS_11, WS_12, WS_13, WS_14, WS_15, WS_16, WS_17, WS_18, WS_19, WS_20, PS_0, PS_1, PS_2, PS_3, PS_4, PS_5, PS_6, ji_add, ji_sub, ji_mul, ji_neg, ji_lit0, ji_ofNat, ji_lt, ji_le, ji_eq, ji_nat, ji_in, qV_at, qI_at, qJ_at, qD_at, qA_at, qA_no, nb0, nb1, cat_r, cat_i, Option.some.injEq, exists_eq_left', true_and, and_true, if_true, if_false, ite_not, not_true_eq_false, not_false_eq_true, Sum.inr.injEq, exists_eq_right', true_or, or_true, and_self, Int.cast_ofNat_Int, reduceCtorEq, or_false, false_or, false_and, and_false, jb_zero, lt7_0, lt7_1, lt7_2, lt7_3, lt7_4, lt7_5, lt7_6, Nat.reduceAdd, Nat.reduceLeDiff, c_X8_farthest_1, c_X8_farthest_2, c_X8_farthest_3, c_X8_farthest_4, c_X8_farthest_5, nn, e_hopsTo hL2 z2, hm, ↓reduceIte, ilt_t, ilt_f, ile_t, ile_f, ieq_t, ieq_f, jb_T, jb_F, jb_t, jb_f]
        exact hn (l, d l) ⟨by simp only; omega, hf⟩
      · rw [if_neg hm] at hf
        simp (disch := first | assumption | omega) only [XL_0, XL_1, XL_2, XL_3, XL_4, XL_5, XL_6, XL_7, XL_8, XL_9, XL_10, XL_11, XL_12, XL_13, XL_14, XL_15, XL_16, XL_17, XL_18, XL_19, XL_20, XL_21, XL_22, XL_23, XL_24, XL_25, XL_26, XL_27, XL_28, XL_29, XL_30, XL_31, XL_32, XL_33, XL_34, XL_35, XL_36, XL_37, XL_38, XL_39, XL_40, XL_41, XL_42, XL_43, XL_44, XL_45, XL_46, XL_47, WS_0, WS_1, WS_2, WS_3, WS_4, WS_5, WS_6, WS_7, WS_8, WS_9, WS_10, WS_11, WS_12, WS_13, WS_14, WS_15, WS_16, WS_17, WS_18, WS_19, WS_20, PS_0, PS_1, PS_2, PS_3, PS_4, PS_5, PS_6, ji_add, ji_sub, ji_mul, ji_neg, ji_lit0, ji_ofNat, ji_lt, ji_le, ji_eq, ji_nat, ji_in, qV_at, qI_at, qJ_at, qD_at, qA_at, qA_no, nb0, nb1, cat_r, cat_i, Option.some.injEq, exists_eq_left', true_and, and_true, if_true, if_false, ite_not, not_true_eq_false, not_false_eq_true, Sum.inr.injEq, exists_eq_right', true_or, or_true, and_self, Int.cast_ofNat_Int, reduceCtorEq, or_false, false_or, false_and, and_false, jb_zero, lt7_0, lt7_1, lt7_2, lt7_3, lt7_4, lt7_5, lt7_6, Nat.reduceAdd, Nat.reduceLeDiff, c_X8_farthest_1, c_X8_farthest_2, c_X8_farthest_3, c_X8_farthest_4, c_X8_farthest_5, nn, e_hopsTo hL2 z2, hm, ↓reduceIte, ilt_t, ilt_f, ile_t, ile_f, ieq_t, ieq_f, jb_T, jb_F, jb_t, jb_f]
        exact hn (u1, u2) ⟨hb, hf⟩
  · rw [if_neg h1] at hQ
    simp (disch := first | assumption | omega) only [XL_0, XL_1, XL_2, XL_3, XL_4, XL_5, XL_6, XL_7, XL_8, XL_9, XL_10, XL_11, XL_12, XL_13, XL_14, XL_15, XL_16, XL_17, XL_18, XL_19, XL_20, XL_21, XL_22, XL_23, XL_24, XL_25, XL_26, XL_27, XL_28, XL_29, XL_30, XL_31, XL_32, XL_33, XL_34, XL_35, XL_36, XL_37, XL_38, XL_39, XL_40, XL_41, XL_42, XL_43, XL_44, XL_45, XL_46, XL_47, WS_0, WS_1, WS_2, WS_3, WS_4, WS_5, WS_6, WS_7, WS_8, WS_9, WS_10, WS_11, WS_12, WS_13, WS_14, WS_15, WS_16, WS_17, WS_18, WS_19, WS_20, PS_0, PS_1, PS_2, PS_3, PS_4, PS_5, PS_6, ji_add, ji_sub, ji_mul, ji_neg, ji_lit0, ji_ofNat, ji_lt, ji_le, ji_eq, ji_nat, ji_in, qV_at, qI_at, qJ_at, qD_at, qA_at, qA_no, nb0, nb1, cat_r, cat_i, Option.some.injEq, exists_eq_left', true_and, and_true, if_true, if_false, ite_not, not_true_eq_false, not_false_eq_true, Sum.inr.injEq, exists_eq_right', true_or, or_true, and_self, Int.cast_ofNat_Int, reduceCtorEq, or_false, false_or, false_and, and_false, jb_zero, lt7_0, lt7_1, lt7_2, lt7_3, lt7_4, lt7_5, lt7_6, Nat.reduceAdd, Nat.reduceLeDiff, c_X8_farthest_1, c_X8_farthest_2, c_X8_farthest_3, u_X8_farthest, c_X8_farthest_4, c_X8_farthest_5, q_reqNode hX, h1, ↓reduceIte, ilt_t, ilt_f, ile_t, ile_f, ieq_t, ieq_f, jb_T, jb_F, jb_t, jb_f]
    exact CQ.stay hx hQ
end
