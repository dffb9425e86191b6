/-! ===== the grid's finite facts, and its further methods ===== -/
theorem fin4 (p : Int → Int → Int → Int → Bool) (H : ∀ w < 7, ∀ h < 7, ∀ n < 36, ∀ y < 4, p (w : Nat) (h : Nat) (n : Nat) (y : Nat) = true) {w h n y : Int} (w0 : 0 ≤ w) (w1 : w ≤ 6) (h0 : 0 ≤ h) (h1 : h ≤ 6) (n0 : 0 ≤ n) (n1 : n < 36) (y0 : 0 ≤ y) (y1 : y < 4) : p w h n y = true := by
  have := H w.toNat (by omega) h.toNat (by omega) n.toNat (by omega) y.toNat (by omega)
  rwa [Int.toNat_of_nonneg w0, Int.toNat_of_nonneg h0, Int.toNat_of_nonneg n0, Int.toNat_of_nonneg y0] at this
def nxP (w h n y : Int) : Bool := decide (n < w * h → -1 ≤ nx w h n y ∧ nx w h n y < w * h ∧ nx w h n y ≠ n ∧ (nx w h n y ≠ -1 → lkb w n (nx w h n y) = 2 * (if n < nx w h n y then n else nx w h n y) + y % 2 ∧ 0 ≤ lkb w n (nx w h n y) ∧ lkb w n (nx w h n y) < 72))
theorem nx_f : ∀ w < 7, ∀ h < 7, ∀ n < 36, ∀ y < 4, nxP (w : Nat) (h : Nat) (n : Nat) (y : Nat) = true := by decide +kernel
theorem nx_b {w h N n y : Int} (g : 0 ≤ w ∧ w ≤ 6 ∧ 0 ≤ h ∧ h ≤ 6 ∧ 0 ≤ N ∧ N ≤ 36 ∧ N = w * h) (n0 : 0 ≤ n) (n1 : n < N) (y0 : 0 ≤ y) (y1 : y < 4) : -1 ≤ nx w h n y ∧ nx w h n y < N ∧ nx w h n y ≠ n ∧ (nx w h n y ≠ -1 → lkb w n (nx w h n y) = 2 * (if n < nx w h n y then n else nx w h n y) + y % 2 ∧ 0 ≤ lkb w n (nx w h n y) ∧ lkb w n (nx w h n y) < 72) := by
  have := fin4 nxP nx_f g.1 g.2.1 g.2.2.1 g.2.2.2.1 n0 (by omega) y0 y1
  rw [nxP, decide_eq_true_eq] at this
  rw [← g.2.2.2.2.2.2] at this
  exact this n1
theorem nxt_in {w h N n y : Int} (n0 : 0 ≤ n) (n1 : n < N) (y0 : 0 ≤ y) (y1 : y < 4) : nxt w h N n y = nx w h n y := if_pos ⟨n0, n1, y0, y1⟩
theorem nxt_b {w h N z y : Int} (g : 0 ≤ w ∧ w ≤ 6 ∧ 0 ≤ h ∧ h ≤ 6 ∧ 0 ≤ N ∧ N ≤ 36 ∧ N = w * h) : -1 ≤ nxt w h N z y ∧ nxt w h N z y < 36 ∧ (nxt w h N z y ≠ -1 → 0 ≤ z ∧ z < N ∧ 0 ≤ y ∧ y < 4 ∧ nxt w h N z y < N) := by
  by_cases hz : 0 ≤ z ∧ z < N ∧ 0 ≤ y ∧ y < 4
  · have := nx_b g hz.1 hz.2.1 hz.2.2.1 hz.2.2.2
    rw [nxt, if_pos hz]
    exact ⟨this.1, by omega, fun _ => ⟨hz.1, hz.2.1, hz.2.2.1, hz.2.2.2, this.2.1⟩⟩
  · rw [nxt, if_neg hz]
    omega
/-- the link from a node in a direction; none -/
def lka (w h N z y : Int) : Int := if nxt w h N z y = -1 then -1 else lkb w z (nxt w h N z y)
theorem lka_b {w h N z y : Int} (g : 0 ≤ w ∧ w ≤ 6 ∧ 0 ≤ h ∧ h ≤ 6 ∧ 0 ≤ N ∧ N ≤ 36 ∧ N = w * h) : -1 ≤ lka w h N z y ∧ lka w h N z y < 72 := by
  unfold lka
  by_cases hz : nxt w h N z y = -1
  · rw [if_pos hz]; omega
  · rw [if_neg hz]
    obtain ⟨a0, a1, a2, a3, a4⟩ := (nxt_b (z := z) (y := y) g).2.2 hz
    rw [nxt_in a0 a1 a2 a3] at hz ⊢
    have := (nx_b g a0 a1 a2 a3).2.2.2 hz
    omega
section
variable {μ : XM} {W : Nat} {w h N s : Int} {Z : Int → Int} {Q : XQ} {X : XX}
theorem e_linkAt (hS : WS μ W) (hG : GD μ W w h N) {z y : Int} (z1 : -2147483648 ≤ z) (z2 : z < 2147483648) (y1 : -2147483648 ≤ y) (y2 : y < 2147483648) : s_X0_linkAt μ [.ref (W + 1), .int (ji z), .int (ji y)] Q X = Q (some (.int (ji (lka w h N z y)))) μ := by
  have hb := nxt_b (z := z) (y := y) hG.1
  unfold lka
  by_cases hz : nxt w h N z y = -1
  · rw [if_pos hz]
    simp (disch := first | assumption | omega) only [WS_0, WS_1, WS_2, WS_3, WS_4, WS_5, WS_6, WS_7, WS_8, WS_9, WS_10, WS_11, WS_12, WS_13, WS_14, WS_15, WS_16, WS_17, WS_18, WS_19, WS_20, PS_0, PS_1, PS_2, PS_3, PS_4, PS_5, PS_6, ji_add, ji_sub, ji_mul, ji_neg, ji_lit0, ji_ofNat, ji_lt, ji_le, ji_eq, ji_nat, ji_in, qV_at, qI_at, qJ_at, qD_at, qA_at, qA_no, nb0, nb1, cat_r, cat_i, Option.some.injEq, exists_eq_left', true_and, and_true, if_true, if_false, ite_not, not_true_eq_false, not_false_eq_true, Sum.inr.injEq, exists_eq_right', true_or, or_true, and_self, Int.cast_ofNat_Int, reduceCtorEq, or_false, false_or, false_and, and_false, jb_zero, lt7_0, lt7_1, lt7_2, lt7_3, lt7_4, lt7_5, lt7_6, c_X0_linkAt_1, c_X0_linkAt_2, u_X0_linkAt, e_beyond hS hG, hz, ↓reduceIte, ilt_t, ilt_f, ile_t, ile_f, ieq_t, ieq_f, jb_T, jb_F, jb_t, jb_f]
  · rw [if_neg hz]
    obtain ⟨a0, a1, a2, a3, a4⟩ := hb.2.2 hz
    have := hG.1
    simp (disch := first | assumption | omega) only [WS_0, WS_1, WS_2, WS_3, WS_4, WS_5, WS_6, WS_7, WS_8, WS_9, WS_10, WS_11, WS_12, WS_13, WS_14, WS_15, WS_16, WS_17, WS_18, WS_19, WS_20, PS_0, PS_1, PS_2, PS_3, PS_4, PS_5, PS_6, ji_add, ji_sub, ji_mul, ji_neg, ji_lit0, ji_ofNat, ji_lt, ji_le, ji_eq, ji_nat, ji_in, qV_at, qI_at, qJ_at, qD_at, qA_at, qA_no, nb0, nb1, cat_r, cat_i, Option.some.injEq, exists_eq_left', true_and, and_true, if_true, if_false, ite_not, not_true_eq_false, not_false_eq_true, Sum.inr.injEq, exists_eq_right', true_or, or_true, and_self, Int.cast_ofNat_Int, reduceCtorEq, or_false, false_or, false_and, and_false, jb_zero, lt7_0, lt7_1, lt7_2, lt7_3, lt7_4, lt7_5, lt7_6, c_X0_linkAt_1, c_X0_linkAt_2, u_X0_linkAt, e_beyond hS hG, e_linkBetween hS hG, ↓reduceIte, ilt_t, ilt_f, ile_t, ile_f, ieq_t, ieq_f, jb_T, jb_F, jb_t, jb_f]
theorem e_greaterEnd (hS : WS μ W) (hG : GD μ W w h N) {l : Int} (l1 : 0 ≤ l) (l2 : l < 2147483648) : s_X0_greaterEnd μ [.ref (W + 1), .int (ji l)] Q X = Q (some (.int (ji (nxt w h N (l / 2) (l % 2))))) μ := by
  simp (disch := first | assumption | omega) only [WS_0, WS_1, WS_2, WS_3, WS_4, WS_5, WS_6, WS_7, WS_8, WS_9, WS_10, WS_11, WS_12, WS_13, WS_14, WS_15, WS_16, WS_17, WS_18, WS_19, WS_20, PS_0, PS_1, PS_2, PS_3, PS_4, PS_5, PS_6, ji_add, ji_sub, ji_mul, ji_neg, ji_lit0, ji_ofNat, ji_lt, ji_le, ji_eq, ji_nat, ji_in, qV_at, qI_at, qJ_at, qD_at, qA_at, qA_no, nb0, nb1, cat_r, cat_i, Option.some.injEq, exists_eq_left', true_and, and_true, if_true, if_false, ite_not, not_true_eq_false, not_false_eq_true, Sum.inr.injEq, exists_eq_right', true_or, or_true, and_self, Int.cast_ofNat_Int, reduceCtorEq, or_false, false_or, false_and, and_false, jb_zero, lt7_0, lt7_1, lt7_2, lt7_3, lt7_4, lt7_5, lt7_6, c_X0_greaterEnd_1, u_X0_greaterEnd, ji_shr1, ji_and1, e_beyond hS hG]
theorem e_lesserEnd {l : Int} (l1 : 0 ≤ l) (l2 : l < 2147483648) {a : Nat} : s_X0_lesserEnd μ [.ref a, .int (ji l)] Q X = Q (some (.int (ji (l / 2)))) μ := by
  simp (disch := first | assumption | omega) only [WS_0, WS_1, WS_2, WS_3, WS_4, WS_5, WS_6, WS_7, WS_8, WS_9, WS_10, WS_11, WS_12, WS_13, WS_14, WS_15, WS_16, WS_17, WS_18, WS_19, WS_20, PS_0, PS_1, PS_2, PS_3, PS_4, PS_5, PS_6, ji_add, ji_sub, ji_mul, ji_neg, ji_lit0, ji_ofNat, ji_lt, ji_le, ji_eq, ji_nat, ji_in, qV_at, qI_at, qJ_at, qD_at, qA_at, qA_no, nb0, nb1, cat_r, cat_i, Option.some.injEq, exists_eq_left', true_and, and_true, if_true, if_false, ite_not, not_true_eq_false, not_false_eq_true, Sum.inr.injEq, exists_eq_right', true_or, or_true, and_self, Int.cast_ofNat_Int, reduceCtorEq, or_false, false_or, false_and, and_false, jb_zero, lt7_0, lt7_1, lt7_2, lt7_3, lt7_4, lt7_5, lt7_6, u_X0_lesserEnd, ji_shr1]
/-- a link's number -/
def isl (w h N l : Int) : Bool := decide (0 ≤ l ∧ nxt w h N (l / 2) (l % 2) ≠ -1)
theorem e_hasLink (hS : WS μ W) (hG : GD μ W w h N) {l : Int} (l1 : -2147483648 ≤ l) (l2 : l < 2147483648) : s_X0_hasLink μ [.ref (W + 1), .int (ji l)] Q X = Q (some (.int (jb (isl w h N l = true)))) μ := by
  unfold isl
  have hb := nxt_b (z := l / 2) (y := l % 2) hG.1
  by_cases h0 : 0 ≤ l
  · by_cases hz : nxt w h N (l / 2) (l % 2) = -1
    · simp (disch := first | assumption | omega) only [WS_0, WS_1, WS_2, WS_3, WS_4, WS_5, WS_6, WS_7, WS_8, WS_9, WS_10, WS_11, WS_12, WS_13, WS_14, WS_15, WS_16, WS_17, WS_18, WS_19, WS_20, PS_0, PS_1, PS_2, PS_3, PS_4, PS_5, PS_6, ji_add, ji_sub, ji_mul, ji_neg, ji_lit0, ji_ofNat, ji_lt, ji_le, ji_eq, ji_nat, ji_in, qV_at, qI_at, qJ_at, qD_at, qA_at, qA_no, nb0, nb1, cat_r, cat_i, Option.some.injEq, exists_eq_left', true_and, and_true, if_true, if_false, ite_not, not_true_eq_false, not_false_eq_true, Sum.inr.injEq, exists_eq_right', true_or, or_true, and_self, Int.cast_ofNat_Int, reduceCtorEq, or_false, false_or, false_and, and_false, jb_zero, lt7_0, lt7_1, lt7_2, lt7_3, lt7_4, lt7_5, lt7_6, c_X0_hasLink_1, u_X0_hasLink, e_greaterEnd hS hG, hz, decide_eq_true_eq, ↓reduceIte, ilt_t, ilt_f, ile_t, ile_f, ieq_t, ieq_f, jb_T, jb_F, jb_t, jb_f]
    · simp (disch := first | assumption | omega) only [WS_0, WS_1, WS_2, WS_3, WS_4, WS_5, WS_6, WS_7, WS_8, WS_9, WS_10, WS_11, WS_12, WS_13, WS_14, WS_15, WS_16, WS_17, WS_18, WS_19, WS_20, PS_0, PS_1, PS_2, PS_3, PS_4, PS_5, PS_6, ji_add, ji_sub, ji_mul, ji_neg, ji_lit0, ji_ofNat, ji_lt, ji_le, ji_eq, ji_nat, ji_in, qV_at, qI_at, qJ_at, qD_at, qA_at, qA_no, nb0, nb1, cat_r, cat_i, Option.some.injEq, exists_eq_left', true_and, and_true, if_true, if_false, ite_not, not_true_eq_false, not_false_eq_true, Sum.inr.injEq, exists_eq_right', true_or, or_true, and_self, Int.cast_ofNat_Int, reduceCtorEq, or_false, false_or, false_and, and_false, jb_zero, lt7_0, lt7_1, lt7_2, lt7_3, lt7_4, lt7_5, lt7_6, c_X0_hasLink_1, u_X0_hasLink, e_greaterEnd hS hG, decide_eq_true_eq, ↓reduceIte, ilt_t, ilt_f, ile_t, ile_f, ieq_t, ieq_f, jb_T, jb_F, jb_t, jb_f]
  · simp (disch := first | assumption | omega) only [WS_0, WS_1, WS_2, WS_3, WS_4, WS_5, WS_6, WS_7, WS_8, WS_9, WS_10, WS_11, WS_12, WS_13, WS_14, WS_15, WS_16, WS_17, WS_18, WS_19, WS_20, PS_0, PS_1, PS_2, PS_3, PS_4, PS_5, PS_6, ji_add, ji_sub, ji_mul, ji_neg, ji_lit0, ji_ofNat, ji_lt, ji_le, ji_eq, ji_nat, ji_in, qV_at, qI_at, qJ_at, qD_at, qA_at, qA_no, nb0, nb1, cat_r, cat_i, Option.some.injEq, exists_eq_left', true_and, and_true, if_true, if_false, ite_not, not_true_eq_false, not_false_eq_true, Sum.inr.injEq, exists_eq_right', true_or, or_true, and_self, Int.cast_ofNat_Int, reduceCtorEq, or_false, false_or, false_and, and_false, jb_zero, lt7_0, lt7_1, lt7_2, lt7_3, lt7_4, lt7_5, lt7_6, c_X0_hasLink_1, u_X0_hasLink, decide_eq_true_eq, ↓reduceIte, ilt_t, ilt_f, ile_t, ile_f, ieq_t, ieq_f, jb_T, jb_F, jb_t, jb_f]
theorem isl_b {w h N l : Int} (g : 0 ≤ w ∧ w ≤ 6 ∧ 0 ≤ h ∧ h ≤ 6 ∧ 0 ≤ N ∧ N ≤ 36 ∧ N = w * h) (hl : isl w h N l = true) : 0 ≤ l ∧ l < 72 := by
  unfold isl at hl
  rw [decide_eq_true_eq] at hl
  have := (nxt_b (z := l / 2) (y := l % 2) g).2.2 hl.2
  omega
def iab (a : Int) : Int := if a < 0 then -a else a
/-- how far two nodes are apart -/
def dst (w a b : Int) : Int := iab (a % w - b % w) + iab (a / w - b / w)
theorem GD_c (hG : GD μ W w h N) {n : Int} (n0 : 0 ≤ n) (n1 : n < N) : aI μ (W + 2) n.toNat = ji (n % w) := (hG.2.2.2.2 n n0 n1).1
theorem GD_r (hG : GD μ W w h N) {n : Int} (n0 : 0 ≤ n) (n1 : n < N) : aI μ (W + 3) n.toNat = ji (n / w) := (hG.2.2.2.2 n n0 n1).2.1
def nxQ (w h n y : Int) : Bool := decide (n < w * h → 0 ≤ n % w ∧ n % w < w ∧ 0 ≤ n / w ∧ n / w < h)
theorem nx_g : ∀ w < 7, ∀ h < 7, ∀ n < 36, ∀ y < 4, nxQ (w : Nat) (h : Nat) (n : Nat) (y : Nat) = true := by decide +kernel
theorem nx_c {w h N n : Int} (g : 0 ≤ w ∧ w ≤ 6 ∧ 0 ≤ h ∧ h ≤ 6 ∧ 0 ≤ N ∧ N ≤ 36 ∧ N = w * h) (n0 : 0 ≤ n) (n1 : n < N) : 0 ≤ n % w ∧ n % w < w ∧ 0 ≤ n / w ∧ n / w < h := by
  have := fin4 nxQ nx_g g.1 g.2.1 g.2.2.1 g.2.2.2.1 n0 (by omega) (y := 0) (by omega) (by omega)
  rw [nxQ, decide_eq_true_eq] at this
  rw [← g.2.2.2.2.2.2] at this
  exact this n1
theorem dst_z {w h N a b : Int} (g : 0 ≤ w ∧ w ≤ 6 ∧ 0 ≤ h ∧ h ≤ 6 ∧ 0 ≤ N ∧ N ≤ 36 ∧ N = w * h) (a0 : 0 ≤ a) (a1 : a < N) (b0 : 0 ≤ b) (b1 : b < N) : 0 ≤ dst w a b ∧ dst w a b ≤ 10 := by
  have ha := nx_c g a0 a1
  have hb := nx_c g b0 b1
  unfold dst iab
  (repeat' split) <;> omega
theorem dst_b {a b : Int} (hG : GD μ W w h N) (a0 : 0 ≤ a) (a1 : a < N) (b0 : 0 ≤ b) (b1 : b < N) : 0 ≤ dst w a b ∧ dst w a b ≤ 10 := by
  have ha := nx_c hG.1 a0 a1
  have hb := nx_c hG.1 b0 b1
  have := hG.1
  unfold dst iab
  (repeat' split) <;> omega
theorem e_apart (hS : WS μ W) (hG : GD μ W w h N) {a b : Int} (a0 : 0 ≤ a) (a1 : a < N) (b0 : 0 ≤ b) (b1 : b < N) : s_X0_apart μ [.ref (W + 1), .int (ji a), .int (ji b)] Q X = Q (some (.int (ji (dst w a b)))) μ := by
  have ha := nx_c hG.1 a0 a1
  have hb := nx_c hG.1 b0 b1
  have := hG.1
  unfold dst iab
  by_cases h1 : a % w - b % w < 0 <;> by_cases h2 : a / w - b / w < 0 <;> simp (disch := first | assumption | omega) only [WS_0, WS_1, WS_2, WS_3, WS_4, WS_5, WS_6, WS_7, WS_8, WS_9, WS_10, WS_11, WS_12, WS_13, WS_14, WS_15, WS_16, WS_17, WS_18, WS_19, WS_20, PS_0, PS_1, PS_2, PS_3, PS_4, PS_5, PS_6, ji_add, ji_sub, ji_mul, ji_neg, ji_lit0, ji_ofNat, ji_lt, ji_le, ji_eq, ji_nat, ji_in, qV_at, qI_at, qJ_at, qD_at, qA_at, qA_no, nb0, nb1, cat_r, cat_i, Option.some.injEq, exists_eq_left', true_and, and_true, if_true, if_false, ite_not, not_true_eq_false, not_false_eq_true, Sum.inr.injEq, exists_eq_right', true_or, or_true, and_self, Int.cast_ofNat_Int, reduceCtorEq, or_false, false_or, false_and, and_false, jb_zero, lt7_0, lt7_1, lt7_2, lt7_3, lt7_4, lt7_5, lt7_6, u_X0_apart, GD_c hG, GD_r hG, ↓reduceIte, ilt_t, ilt_f, ile_t, ile_f, ieq_t, ieq_f, jb_T, jb_F, jb_t, jb_f]
/-- the direction from a node to another; none -/
def wto (w h N z m : Int) : Int := match findz (fun y (_ : Unit) => if nxt w h N z y = m then (.inr y : Unit ⊕ Int) else .inl ()) 0 4 () with
  | .inl _ => -1
  | .inr y => y
theorem e_wayTo (hS : WS μ W) (hG : GD μ W w h N) {z m : Int} (z1 : -2147483648 ≤ z) (z2 : z < 2147483648) (y1 : -2147483648 ≤ m) (y2 : m < 2147483648) : s_X0_wayTo μ [.ref (W + 1), .int (ji z), .int (ji m)] Q X = Q (some (.int (ji (wto w h N z m)))) μ := by
  have e : eit (fun _ => Q (some (.int (ji (-1)))) μ) (fun r => Q (some (.int (ji r))) μ) (findz (fun y (_ : Unit) => if nxt w h N z y = m then (.inr y : Unit ⊕ Int) else .inl ()) 0 4 ()) = Q (some (.int (ji (wto w h N z m)))) μ := by
    unfold wto
    cases findz (fun y (_ : Unit) => if nxt w h N z y = m then (.inr y : Unit ⊕ Int) else .inl ()) 0 4 () <;> rfl
  rw [← e]
  rw [u_X0_wayTo, l_X0_wayTo_2, xseal_eq]
  refine find_loop (fun mf x l => ln_X0_wayTo_2 Q X mf [some (.ref (W + 1)), some (.int (ji z)), some (.int (ji m)), some (.int (ji l))] [] μ 0 0) (fun x => Q (some (.int (ji (-1)))) μ) (fun r => Q (some (.int (ji r))) μ) (fun l x => if nxt w h N z l = m then (.inr l : Unit ⊕ Int) else .inl ()) (fun l x => True) (4) (fun mf x hx => ?_) (fun mf x l l0 l1 hx => ⟨?_, ?_⟩) 4 10000 (0) (()) (by omega) (by omega) (by omega) (trivial)
  · show ln_X0_wayTo_2 Q X (mf + 1) [some (.ref (W + 1)), some (.int (ji z)), some (.int (ji m)), some (.int (ji (4)))] [] μ 0 0 = Q (some (.int (ji (-1)))) μ
    rw [ul_X0_wayTo_2]
    simp (disch := first | assumption | omega) only [WS_0, WS_1, WS_2, WS_3, WS_4, WS_5, WS_6, WS_7, WS_8, WS_9, WS_10, WS_11, WS_12, WS_13, WS_14, WS_15, WS_16, WS_17, WS_18, WS_19, WS_20, PS_0, PS_1, PS_2, PS_3, PS_4, PS_5, PS_6, ji_add, ji_sub, ji_mul, ji_neg, ji_lit0, ji_ofNat, ji_lt, ji_le, ji_eq, ji_nat, ji_in, qV_at, qI_at, qJ_at, qD_at, qA_at, qA_no, nb0, nb1, cat_r, cat_i, Option.some.injEq, exists_eq_left', true_and, and_true, if_true, if_false, ite_not, not_true_eq_false, not_false_eq_true, Sum.inr.injEq, exists_eq_right', true_or, or_true, and_self, Int.cast_ofNat_Int, reduceCtorEq, or_false, false_or, false_and, and_false, jb_zero, lt7_0, lt7_1, lt7_2, lt7_3, lt7_4, lt7_5, lt7_6, c_X0_wayTo_1, ↓reduceIte, ilt_t, ilt_f, ile_t, ile_f, ieq_t, ieq_f, jb_T, jb_F, jb_t, jb_f]
  · show ln_X0_wayTo_2 Q X (mf + 1) [some (.ref (W + 1)), some (.int (ji z)), some (.int (ji m)), some (.int (ji l))] [] μ 0 0 = eit (fun x => ln_X0_wayTo_2 Q X mf [some (.ref (W + 1)), some (.int (ji z)), some (.int (ji m)), some (.int (ji (l + 1)))] [] μ 0 0) (fun r => Q (some (.int (ji r))) μ) (if nxt w h N z l = m then (.inr l : Unit ⊕ Int) else .inl ())
    rw [ul_X0_wayTo_2]
    have hb := nxt_b (z := z) (y := l) hG.1
    by_cases hw : nxt w h N z l = m <;> simp (disch := first | assumption | omega) only [WS_0, WS_1, WS_2, WS_3, WS_4, WS_5, WS_6, WS_7, WS_8, WS_9, WS_10, WS_11, WS_12, WS_13, WS_14, WS_15, WS_16, WS_17, WS_18, WS_19, WS_20, PS_0, PS_1, PS_2, PS_3, PS_4, PS_5, PS_6, ji_add, ji_sub, ji_mul, ji_neg, ji_lit0, ji_ofNat, ji_lt, ji_le, ji_eq, ji_nat, ji_in, qV_at, qI_at, qJ_at, qD_at, qA_at, qA_no, nb0, nb1, cat_r, cat_i, Option.some.injEq, exists_eq_left', true_and, and_true, if_true, if_false, ite_not, not_true_eq_false, not_false_eq_true, Sum.inr.injEq, exists_eq_right', true_or, or_true, and_self, Int.cast_ofNat_Int, reduceCtorEq, or_false, false_or, false_and, and_false, jb_zero, lt7_0, lt7_1, lt7_2, lt7_3, lt7_4, lt7_5, lt7_6, c_X0_wayTo_1, e_beyond hS hG, hw, ↓reduceIte, ilt_t, ilt_f, ile_t, ile_f, ieq_t, ieq_f, jb_T, jb_F, jb_t, jb_f] <;> rfl
  · intro y hy
    have hy : (if nxt w h N z l = m then (.inr l : Unit ⊕ Int) else .inl ()) = .inl y := hy
    show True
    trivial
end
