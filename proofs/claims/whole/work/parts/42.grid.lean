/-! ===== a world's shape ===== -/
/-- a packet's own: its row of nodes, its map -/
def PS (μ : XM) (P : Nat) : Prop := tg μ P = some (.inl 3) ∧ gR μ 106 P = some (P + 1) ∧ gR μ 107 P = some (P + 2) ∧ tg μ (P + 1) = some (.inr 0) ∧ ln μ (P + 1) = 36 ∧ tg μ (P + 2) = some (.inr 0) ∧ ln μ (P + 2) = 72
/-- a world at W: grid, columns, rows, nexts, dead, lessons, packets -/
def WS (μ : XM) (W : Nat) : Prop :=
  (tg μ W = some (.inl 7) ∧ gR μ 224 W = some (W + 1) ∧ gR μ 225 W = some (W + 5) ∧ gR μ 226 W = some (W + 6) ∧ gR μ 227 W = some (W + 7) ∧ tg μ (W + 1) = some (.inl 0) ∧ gR μ 3 (W + 1) = some (W + 2) ∧ gR μ 4 (W + 1) = some (W + 3) ∧ gR μ 5 (W + 1) = some (W + 4)) ∧
  (tg μ (W + 2) = some (.inr 0) ∧ ln μ (W + 2) = 36 ∧ tg μ (W + 3) = some (.inr 0) ∧ ln μ (W + 3) = 36 ∧ tg μ (W + 4) = some (.inr 0) ∧ ln μ (W + 4) = 144) ∧
  (tg μ (W + 5) = some (.inr 1) ∧ ln μ (W + 5) = 72 ∧ tg μ (W + 6) = some (.inr 0) ∧ ln μ (W + 6) = 2592 ∧ tg μ (W + 7) = some (.inr 6) ∧ ln μ (W + 7) = 25) ∧
  ∀ k, k < 25 → aR μ (W + 7) k = some (W + 8 + 3 * k) ∧ PS μ (W + 8 + 3 * k)
theorem WS_0 {μ : XM} {W : Nat} (h : WS μ W) : tg μ W = some (.inl 7) := h.1.1
theorem WS_1 {μ : XM} {W : Nat} (h : WS μ W) : gR μ 224 W = some (W + 1) := h.1.2.1
theorem WS_2 {μ : XM} {W : Nat} (h : WS μ W) : gR μ 225 W = some (W + 5) := h.1.2.2.1
theorem WS_3 {μ : XM} {W : Nat} (h : WS μ W) : gR μ 226 W = some (W + 6) := h.1.2.2.2.1
theorem WS_4 {μ : XM} {W : Nat} (h : WS μ W) : gR μ 227 W = some (W + 7) := h.1.2.2.2.2.1
theorem WS_5 {μ : XM} {W : Nat} (h : WS μ W) : tg μ (W + 1) = some (.inl 0) := h.1.2.2.2.2.2.1
theorem WS_6 {μ : XM} {W : Nat} (h : WS μ W) : gR μ 3 (W + 1) = some (W + 2) := h.1.2.2.2.2.2.2.1
theorem WS_7 {μ : XM} {W : Nat} (h : WS μ W) : gR μ 4 (W + 1) = some (W + 3) := h.1.2.2.2.2.2.2.2.1
theorem WS_8 {μ : XM} {W : Nat} (h : WS μ W) : gR μ 5 (W + 1) = some (W + 4) := h.1.2.2.2.2.2.2.2.2
theorem WS_9 {μ : XM} {W : Nat} (h : WS μ W) : tg μ (W + 2) = some (.inr 0) := h.2.1.1
theorem WS_10 {μ : XM} {W : Nat} (h : WS μ W) : ln μ (W + 2) = 36 := h.2.1.2.1
theorem WS_11 {μ : XM} {W : Nat} (h : WS μ W) : tg μ (W + 3) = some (.inr 0) := h.2.1.2.2.1
theorem WS_12 {μ : XM} {W : Nat} (h : WS μ W) : ln μ (W + 3) = 36 := h.2.1.2.2.2.1
theorem WS_13 {μ : XM} {W : Nat} (h : WS μ W) : tg μ (W + 4) = some (.inr 0) := h.2.1.2.2.2.2.1
theorem WS_14 {μ : XM} {W : Nat} (h : WS μ W) : ln μ (W + 4) = 144 := h.2.1.2.2.2.2.2
theorem WS_15 {μ : XM} {W : Nat} (h : WS μ W) : tg μ (W + 5) = some (.inr 1) := h.2.2.1.1
theorem WS_16 {μ : XM} {W : Nat} (h : WS μ W) : ln μ (W + 5) = 72 := h.2.2.1.2.1
theorem WS_17 {μ : XM} {W : Nat} (h : WS μ W) : tg μ (W + 6) = some (.inr 0) := h.2.2.1.2.2.1
theorem WS_18 {μ : XM} {W : Nat} (h : WS μ W) : ln μ (W + 6) = 2592 := h.2.2.1.2.2.2.1
theorem WS_19 {μ : XM} {W : Nat} (h : WS μ W) : tg μ (W + 7) = some (.inr 6) := h.2.2.1.2.2.2.2.1
theorem WS_20 {μ : XM} {W : Nat} (h : WS μ W) : ln μ (W + 7) = 25 := h.2.2.1.2.2.2.2.2
theorem PS_0 {μ : XM} {P : Nat} (h : PS μ P) : tg μ P = some (.inl 3) := h.1
theorem PS_1 {μ : XM} {P : Nat} (h : PS μ P) : gR μ 106 P = some (P + 1) := h.2.1
theorem PS_2 {μ : XM} {P : Nat} (h : PS μ P) : gR μ 107 P = some (P + 2) := h.2.2.1
theorem PS_3 {μ : XM} {P : Nat} (h : PS μ P) : tg μ (P + 1) = some (.inr 0) := h.2.2.2.1
theorem PS_4 {μ : XM} {P : Nat} (h : PS μ P) : ln μ (P + 1) = 36 := h.2.2.2.2.1
theorem PS_5 {μ : XM} {P : Nat} (h : PS μ P) : tg μ (P + 2) = some (.inr 0) := h.2.2.2.2.2.1
theorem PS_6 {μ : XM} {P : Nat} (h : PS μ P) : ln μ (P + 2) = 72 := h.2.2.2.2.2.2
/-- what is at a place stays that -/
def SR (μ μ' : XM) : Prop := tg μ' = tg μ ∧ ln μ' = ln μ ∧ gR μ' = gR μ ∧ aR μ' = aR μ
theorem SR.refl (μ : XM) : SR μ μ := ⟨rfl, rfl, rfl, rfl⟩
theorem SR.trans {a b c : XM} (h : SR a b) (g : SR b c) : SR a c := ⟨g.1.trans h.1, g.2.1.trans h.2.1, g.2.2.1.trans h.2.2.1, g.2.2.2.trans h.2.2.2⟩
theorem PS.mono {μ μ' : XM} {P : Nat} (s : SR μ μ') (h : PS μ P) : PS μ' P := by
  obtain ⟨s1, s2, s3, s4⟩ := s
  unfold PS at h ⊢
  rw [s1, s2, s3]
  exact h
theorem WS.mono {μ μ' : XM} {W : Nat} (s : SR μ μ') (h : WS μ W) : WS μ' W := by
  refine ⟨?_, ?_, ?_, fun k hk => ?_⟩
  · rw [s.1, s.2.2.1]; exact h.1
  · rw [s.1, s.2.1]; exact h.2.1
  · rw [s.1, s.2.1]; exact h.2.2.1
  · rw [s.2.2.2]; exact ⟨(h.2.2.2 k hk).1, (h.2.2.2 k hk).2.mono s⟩
/-! ===== the grid ===== -/
def jb (p : Prop) [Decidable p] : Int32 := ji (if p then 1 else 0)
theorem jb_zero (p : Prop) [Decidable p] : (jb p = ji 0) = ¬ p := by
  unfold jb
  by_cases h : p <;> simp [h] <;> decide
theorem lt7_0 : ((0 : Nat) < 7) = True := eq_true (by decide)
theorem lt7_1 : ((1 : Nat) < 7) = True := eq_true (by decide)
theorem lt7_2 : ((2 : Nat) < 7) = True := eq_true (by decide)
theorem lt7_3 : ((3 : Nat) < 7) = True := eq_true (by decide)
theorem lt7_4 : ((4 : Nat) < 7) = True := eq_true (by decide)
theorem lt7_5 : ((5 : Nat) < 7) = True := eq_true (by decide)
theorem lt7_6 : ((6 : Nat) < 7) = True := eq_true (by decide)
theorem jb_t0 (p : Prop) [Decidable p] (h : p) : jb p = ji 1 := by rw [jb, if_pos h]
theorem jb_f0 (p : Prop) [Decidable p] (h : ¬ p) : jb p = ji 0 := by rw [jb, if_neg h]
theorem jb_T [i : Decidable True] : @jb True i = ji 1 := jb_t0 _ trivial
theorem jb_F [i : Decidable False] : @jb False i = ji 0 := jb_f0 _ id
theorem ilt_t {a b : Int} (h : a < b) : (a < b) = True := eq_true h
theorem ilt_f {a b : Int} (h : ¬ a < b) : (a < b) = False := eq_false h
theorem ile_t {a b : Int} (h : a ≤ b) : (a ≤ b) = True := eq_true h
theorem ile_f {a b : Int} (h : ¬ a ≤ b) : (a ≤ b) = False := eq_false h
theorem ieq_t {a b : Int} (h : a = b) : (a = b) = True := eq_true h
theorem ieq_f {a b : Int} (h : ¬ a = b) : (a = b) = False := eq_false h
theorem jb_t (p : Prop) [Decidable p] (h : p) : jb p = ji 1 := by rw [jb, if_pos h]
theorem jb_f (p : Prop) [Decidable p] (h : ¬ p) : jb p = ji 0 := by rw [jb, if_neg h]
/-- the next node in a direction; none -/
def nx (w h n y : Int) : Int :=
  if n % w + (if y = 0 then 1 else if y = 2 then -1 else 0) < 0 ∨ n / w + (if y = 1 then 1 else if y = 3 then -1 else 0) < 0 ∨ w ≤ n % w + (if y = 0 then 1 else if y = 2 then -1 else 0) ∨ h ≤ n / w + (if y = 1 then 1 else if y = 3 then -1 else 0) then -1
  else w * (n / w + (if y = 1 then 1 else if y = 3 then -1 else 0)) + (n % w + (if y = 0 then 1 else if y = 2 then -1 else 0))
/-- a world's grid -/
def GD (μ : XM) (W : Nat) (w h N : Int) : Prop := (0 ≤ w ∧ w ≤ 6 ∧ 0 ≤ h ∧ h ≤ 6 ∧ 0 ≤ N ∧ N ≤ 36 ∧ N = w * h) ∧ gI μ 0 (W + 1) = ji w ∧ gI μ 1 (W + 1) = ji h ∧ gI μ 2 (W + 1) = ji N ∧ ∀ n : Int, 0 ≤ n → n < N → aI μ (W + 2) n.toNat = ji (n % w) ∧ aI μ (W + 3) n.toNat = ji (n / w) ∧ ∀ y : Int, 0 ≤ y → y < 4 → aI μ (W + 4) (4 * n + y).toNat = ji (nx w h n y)
theorem e_hasNode {μ : XM} {W : Nat} {w h N z : Int} {Q : XQ} {X : XX} (hS : WS μ W) (hG : GD μ W w h N) (z1 : -2147483648 ≤ z) (z2 : z < 2147483648) : s_X0_hasNode μ [.ref (W + 1), .int (ji z)] Q X = Q (some (.int (jb (0 ≤ z ∧ z < N)))) μ := by
  obtain ⟨⟨g1, g2, g3, g4, g5, g6, g7⟩, g8, g9, g10, g11⟩ := hG
  rw [u_X0_hasNode]
  simp (disch := first | assumption | omega) only [WS_0, WS_1, WS_2, WS_3, WS_4, WS_5, WS_6, WS_7, WS_8, WS_9, WS_10, WS_11, WS_12, WS_13, WS_14, WS_15, WS_16, WS_17, WS_18, WS_19, WS_20, PS_0, PS_1, PS_2, PS_3, PS_4, PS_5, PS_6, ji_add, ji_sub, ji_mul, ji_neg, ji_lit0, ji_ofNat, ji_lt, ji_le, ji_eq, ji_nat, ji_in, qV_at, qI_at, qJ_at, qD_at, qA_at, qA_no, nb0, nb1, cat_r, cat_i, Option.some.injEq, exists_eq_left', true_and, and_true, if_true, if_false, ite_not, not_true_eq_false, not_false_eq_true, Sum.inr.injEq, exists_eq_right', true_or, or_true, and_self, Int.cast_ofNat_Int, reduceCtorEq, or_false, false_or, false_and, and_false, jb_zero, lt7_0, lt7_1, lt7_2, lt7_3, lt7_4, lt7_5, lt7_6, g10]
  unfold jb
  by_cases hz : 0 ≤ z ∧ z < N
  · simp (disch := first | assumption | omega) only [WS_0, WS_1, WS_2, WS_3, WS_4, WS_5, WS_6, WS_7, WS_8, WS_9, WS_10, WS_11, WS_12, WS_13, WS_14, WS_15, WS_16, WS_17, WS_18, WS_19, WS_20, PS_0, PS_1, PS_2, PS_3, PS_4, PS_5, PS_6, ji_add, ji_sub, ji_mul, ji_neg, ji_lit0, ji_ofNat, ji_lt, ji_le, ji_eq, ji_nat, ji_in, qV_at, qI_at, qJ_at, qD_at, qA_at, qA_no, nb0, nb1, cat_r, cat_i, Option.some.injEq, exists_eq_left', true_and, and_true, if_true, if_false, ite_not, not_true_eq_false, not_false_eq_true, Sum.inr.injEq, exists_eq_right', true_or, or_true, and_self, Int.cast_ofNat_Int, reduceCtorEq, or_false, false_or, false_and, and_false, jb_zero, lt7_0, lt7_1, lt7_2, lt7_3, lt7_4, lt7_5, lt7_6, ↓reduceIte, ilt_t, ilt_f, ile_t, ile_f, ieq_t, ieq_f, jb_T, jb_F, jb_t, jb_f]
  · rw [if_neg hz]
    (repeat' split) <;> first | rfl | (exfalso; omega)
/-- the next node in a direction, of anything -/
def nxt (w h N z y : Int) : Int := if 0 ≤ z ∧ z < N ∧ 0 ≤ y ∧ y < 4 then nx w h z y else -1
theorem e_beyond {μ : XM} {W : Nat} {w h N z y : Int} {Q : XQ} {X : XX} (hS : WS μ W) (hG : GD μ W w h N) (z1 : -2147483648 ≤ z) (z2 : z < 2147483648) (y1 : -2147483648 ≤ y) (y2 : y < 2147483648) : s_X0_beyond μ [.ref (W + 1), .int (ji z), .int (ji y)] Q X = Q (some (.int (ji (nxt w h N z y)))) μ := by
  obtain ⟨⟨g1, g2, g3, g4, g5, g6, g7⟩, g8, g9, g10, g11⟩ := hG
  rw [u_X0_beyond]
  unfold nxt
  by_cases hz : 0 ≤ z ∧ z < N ∧ 0 ≤ y ∧ y < 4
  · simp (disch := first | assumption | omega) only [WS_0, WS_1, WS_2, WS_3, WS_4, WS_5, WS_6, WS_7, WS_8, WS_9, WS_10, WS_11, WS_12, WS_13, WS_14, WS_15, WS_16, WS_17, WS_18, WS_19, WS_20, PS_0, PS_1, PS_2, PS_3, PS_4, PS_5, PS_6, ji_add, ji_sub, ji_mul, ji_neg, ji_lit0, ji_ofNat, ji_lt, ji_le, ji_eq, ji_nat, ji_in, qV_at, qI_at, qJ_at, qD_at, qA_at, qA_no, nb0, nb1, cat_r, cat_i, Option.some.injEq, exists_eq_left', true_and, and_true, if_true, if_false, ite_not, not_true_eq_false, not_false_eq_true, Sum.inr.injEq, exists_eq_right', true_or, or_true, and_self, Int.cast_ofNat_Int, reduceCtorEq, or_false, false_or, false_and, and_false, jb_zero, lt7_0, lt7_1, lt7_2, lt7_3, lt7_4, lt7_5, lt7_6, g10, ↓reduceIte, ilt_t, ilt_f, ile_t, ile_f, ieq_t, ieq_f, jb_T, jb_F, jb_t, jb_f, (g11 z (by omega) (by omega)).2.2 y (by omega) (by omega)]
  · simp (disch := first | assumption | omega) only [WS_0, WS_1, WS_2, WS_3, WS_4, WS_5, WS_6, WS_7, WS_8, WS_9, WS_10, WS_11, WS_12, WS_13, WS_14, WS_15, WS_16, WS_17, WS_18, WS_19, WS_20, PS_0, PS_1, PS_2, PS_3, PS_4, PS_5, PS_6, ji_add, ji_sub, ji_mul, ji_neg, ji_lit0, ji_ofNat, ji_lt, ji_le, ji_eq, ji_nat, ji_in, qV_at, qI_at, qJ_at, qD_at, qA_at, qA_no, nb0, nb1, cat_r, cat_i, Option.some.injEq, exists_eq_left', true_and, and_true, if_true, if_false, ite_not, not_true_eq_false, not_false_eq_true, Sum.inr.injEq, exists_eq_right', true_or, or_true, and_self, Int.cast_ofNat_Int, reduceCtorEq, or_false, false_or, false_and, and_false, jb_zero, lt7_0, lt7_1, lt7_2, lt7_3, lt7_4, lt7_5, lt7_6, g10]
    rw [if_neg hz]
    (repeat' split) <;> first | rfl | (exfalso; omega)
def lkb (w n m : Int) : Int := 2 * (if n < m then n else m) + (if (if n < m then m else n) - (if n < m then n else m) = w then 1 else 0)
theorem e_linkBetween {μ : XM} {W : Nat} {w h N n m : Int} {Q : XQ} {X : XX} (hS : WS μ W) (hG : GD μ W w h N) (n1 : -1 ≤ n) (n2 : n < 36) (m1 : -1 ≤ m) (m2 : m < 36) : s_X0_linkBetween μ [.ref (W + 1), .int (ji n), .int (ji m)] Q X = Q (some (.int (ji (lkb w n m)))) μ := by
  obtain ⟨⟨g1, g2, g3, g4, g5, g6, g7⟩, g8, g9, g10, g11⟩ := hG
  unfold lkb
  by_cases hz : n < m
  · by_cases hw : m - n = w
    · simp (disch := first | assumption | omega) only [WS_0, WS_1, WS_2, WS_3, WS_4, WS_5, WS_6, WS_7, WS_8, WS_9, WS_10, WS_11, WS_12, WS_13, WS_14, WS_15, WS_16, WS_17, WS_18, WS_19, WS_20, PS_0, PS_1, PS_2, PS_3, PS_4, PS_5, PS_6, ji_add, ji_sub, ji_mul, ji_neg, ji_lit0, ji_ofNat, ji_lt, ji_le, ji_eq, ji_nat, ji_in, qV_at, qI_at, qJ_at, qD_at, qA_at, qA_no, nb0, nb1, cat_r, cat_i, Option.some.injEq, exists_eq_left', true_and, and_true, if_true, if_false, ite_not, not_true_eq_false, not_false_eq_true, Sum.inr.injEq, exists_eq_right', true_or, or_true, and_self, Int.cast_ofNat_Int, reduceCtorEq, or_false, false_or, false_and, and_false, jb_zero, lt7_0, lt7_1, lt7_2, lt7_3, lt7_4, lt7_5, lt7_6, u_X0_linkBetween, uj_X0_linkBetween_21, g8, ↓reduceIte, ilt_t, ilt_f, ile_t, ile_f, ieq_t, ieq_f, jb_T, jb_F, jb_t, jb_f]
    · simp (disch := first | assumption | omega) only [WS_0, WS_1, WS_2, WS_3, WS_4, WS_5, WS_6, WS_7, WS_8, WS_9, WS_10, WS_11, WS_12, WS_13, WS_14, WS_15, WS_16, WS_17, WS_18, WS_19, WS_20, PS_0, PS_1, PS_2, PS_3, PS_4, PS_5, PS_6, ji_add, ji_sub, ji_mul, ji_neg, ji_lit0, ji_ofNat, ji_lt, ji_le, ji_eq, ji_nat, ji_in, qV_at, qI_at, qJ_at, qD_at, qA_at, qA_no, nb0, nb1, cat_r, cat_i, Option.some.injEq, exists_eq_left', true_and, and_true, if_true, if_false, ite_not, not_true_eq_false, not_false_eq_true, Sum.inr.injEq, exists_eq_right', true_or, or_true, and_self, Int.cast_ofNat_Int, reduceCtorEq, or_false, false_or, false_and, and_false, jb_zero, lt7_0, lt7_1, lt7_2, lt7_3, lt7_4, lt7_5, lt7_6, u_X0_linkBetween, uj_X0_linkBetween_21, g8, ↓reduceIte, ilt_t, ilt_f, ile_t, ile_f, ieq_t, ieq_f, jb_T, jb_F, jb_t, jb_f]
  · by_cases hw : n - m = w
    · simp (disch := first | assumption | omega) only [WS_0, WS_1, WS_2, WS_3, WS_4, WS_5, WS_6, WS_7, WS_8, WS_9, WS_10, WS_11, WS_12, WS_13, WS_14, WS_15, WS_16, WS_17, WS_18, WS_19, WS_20, PS_0, PS_1, PS_2, PS_3, PS_4, PS_5, PS_6, ji_add, ji_sub, ji_mul, ji_neg, ji_lit0, ji_ofNat, ji_lt, ji_le, ji_eq, ji_nat, ji_in, qV_at, qI_at, qJ_at, qD_at, qA_at, qA_no, nb0, nb1, cat_r, cat_i, Option.some.injEq, exists_eq_left', true_and, and_true, if_true, if_false, ite_not, not_true_eq_false, not_false_eq_true, Sum.inr.injEq, exists_eq_right', true_or, or_true, and_self, Int.cast_ofNat_Int, reduceCtorEq, or_false, false_or, false_and, and_false, jb_zero, lt7_0, lt7_1, lt7_2, lt7_3, lt7_4, lt7_5, lt7_6, u_X0_linkBetween, uj_X0_linkBetween_21, g8, ↓reduceIte, ilt_t, ilt_f, ile_t, ile_f, ieq_t, ieq_f, jb_T, jb_F, jb_t, jb_f]
    · simp (disch := first | assumption | omega) only [WS_0, WS_1, WS_2, WS_3, WS_4, WS_5, WS_6, WS_7, WS_8, WS_9, WS_10, WS_11, WS_12, WS_13, WS_14, WS_15, WS_16, WS_17, WS_18, WS_19, WS_20, PS_0, PS_1, PS_2, PS_3, PS_4, PS_5, PS_6, ji_add, ji_sub, ji_mul, ji_neg, ji_lit0, ji_ofNat, ji_lt, ji_le, ji_eq, ji_nat, ji_in, qV_at, qI_at, qJ_at, qD_at, qA_at, qA_no, nb0, nb1, cat_r, cat_i, Option.some.injEq, exists_eq_left', true_and, and_true, if_true, if_false, ite_not, not_true_eq_false, not_false_eq_true, Sum.inr.injEq, exists_eq_right', true_or, or_true, and_self, Int.cast_ofNat_Int, reduceCtorEq, or_false, false_or, false_and, and_false, jb_zero, lt7_0, lt7_1, lt7_2, lt7_3, lt7_4, lt7_5, lt7_6, u_X0_linkBetween, uj_X0_linkBetween_21, g8, ↓reduceIte, ilt_t, ilt_f, ile_t, ile_f, ieq_t, ieq_f, jb_T, jb_F, jb_t, jb_f]
