/-! ===== the reference's moves: its row is the state ===== -/
/-- the memory with the present block of the reference's row -/
def pz (μ : XM) (m : Nat) (Z : Int → Int) : XM := (μ.1, μ.2.1, μ.2.2.1, fun a i => if a = m + 1 ∧ i < 5666 then ji (Z i) else aI μ a i, μ.2.2.2.2)
section
variable {μ : XM} {m : Nat} {w h N s : Int} {Z Y : Int → Int} {Q : XQ} {X : XX} {k : Int}
theorem pz_at {i : Nat} (hi : i < 5666) : aI (pz μ m Z) (m + 1) i = ji (Z i) := if_pos ⟨rfl, hi⟩
theorem pz_ati {i : Int} (i0 : 0 ≤ i) (hi : i < 5666) : aI (pz μ m Z) (m + 1) i.toNat = ji (Z i) := by
  rw [pz_at (by omega), Int.toNat_of_nonneg i0]
theorem pz_ne {a i : Nat} (ha : a ≠ m + 1) : aI (pz μ m Z) a i = aI μ a i := if_neg (fun q => ha q.1)
theorem pz_tg : tg (pz μ m Z) = tg μ := Eq.trans rfl rfl
theorem pz_ln : ln (pz μ m Z) = ln μ := Eq.trans rfl rfl
theorem pz_gI : gI (pz μ m Z) = gI μ := Eq.trans rfl rfl
theorem pz_gL : gL (pz μ m Z) = gL μ := Eq.trans rfl rfl
theorem pz_gR : gR (pz μ m Z) = gR μ := Eq.trans rfl rfl
theorem pz_aR : aR (pz μ m Z) = aR μ := Eq.trans rfl rfl
theorem pz_aL : aL (pz μ m Z) = aL μ := Eq.trans rfl rfl
theorem pz_aD : aD (pz μ m Z) = aD μ := Eq.trans rfl rfl
theorem pz_ext (h : ∀ a i, aI (pz μ m Z) a i = aI (pz μ m Y) a i) : pz μ m Z = pz μ m Y := by
  have e : aI (pz μ m Z) = aI (pz μ m Y) := funext fun a => funext fun i => h a i
  unfold pz
  unfold aI pz at e
  rw [e]
theorem pz_w {i v : Int} (i0 : 0 ≤ i) (i1 : i < 5666) : wI (pz μ m Z) (m + 1) i.toNat (ji v) = pz μ m (zu Z i v) := by
  have e : (fun a' i' => if a' = m + 1 ∧ i' = i.toNat then ji v else aI (pz μ m Z) a' i') = aI (pz μ m (zu Z i v)) := by
    funext a j
    by_cases ha : a = m + 1
    · subst ha
      by_cases hj : j = i.toNat
      · rw [if_pos ⟨rfl, hj⟩, pz_at (by omega), hj, Int.toNat_of_nonneg i0, zu_at]
      · rw [if_neg (fun q => hj q.2)]
        by_cases h9 : j < 5666
        · rw [pz_at h9, pz_at h9, zu_ne (by omega)]
        · show (if _ then _ else _) = (if _ then _ else _)
          rw [if_neg (fun q => h9 q.2), if_neg (fun q => h9 q.2)]
    · rw [if_neg (fun q => ha q.1), pz_ne ha, pz_ne ha]
  unfold wI
  rw [e]
  rfl
theorem pz_pz : pz (pz μ m Z) m Y = pz μ m Y := by
  have e : (fun (a i : Nat) => if a = m + 1 ∧ i < 5666 then ji (Y i) else aI (pz μ m Z) a i) = fun (a i : Nat) => if a = m + 1 ∧ i < 5666 then ji (Y i) else aI μ a i := by
    funext a i
    by_cases h : a = m + 1 ∧ i < 5666
    · rw [if_pos h, if_pos h]
    · rw [if_neg h, if_neg h]
      exact if_neg h
  show (_, _, _, _, _) = (_, _, _, _, _)
  rw [e]
  rfl
theorem pz_id (h : ∀ i : Nat, i < 5666 → aI μ (m + 1) i = ji (Z i)) : pz μ m Z = μ := by
  have e : (fun (a i : Nat) => if a = m + 1 ∧ i < 5666 then ji (Z i) else aI μ a i) = μ.2.2.2.1 := by
    funext a i
    by_cases q : a = m + 1 ∧ i < 5666
    · rw [if_pos q, ← h i q.2, q.1]
      rfl
    · rw [if_neg q]
      rfl
  unfold pz
  rw [e]
theorem pz_congr (h : ∀ i : Int, 0 ≤ i → i < 5666 → Z i = Y i) : pz μ m Z = pz μ m Y := pz_ext fun a i => by
  by_cases q : a = m + 1 ∧ i < 5666
  · rw [q.1, pz_at q.2, pz_at q.2, h i (by omega) (by omega)]
  · show (if _ then _ else _) = (if _ then _ else _)
    rw [if_neg q, if_neg q]
def RB (μ : XM) (m : Nat) (w h s : Int) : Prop := gI μ 292 m = ji w ∧ gI μ 293 m = ji h ∧ gI μ 294 m = ji s
theorem RS_pz (hS : RS μ m) (Z : Int → Int) : RS (pz μ m Z) m := by
  unfold RS at hS ⊢
  exact hS
theorem RW_pz (hb : RB μ m w h s) (Z : Int → Int) : RW (pz μ m Z) m w h s Z := ⟨hb.1, hb.2.1, hb.2.2, fun i i0 i1 => pz_ati i0 (by omega)⟩
theorem f_set (hS : RS μ m) {j v : Int} (k0 : 0 ≤ k) (k1 : k < 25) (j0 : 0 ≤ j) (j1 : j < 120) : s_X9_set (pz μ m Z) [.ref m, .int (ji k), .int (ji j), .int (ji v)] Q X = Q none (pz μ m (zu Z (2666 + 120 * k + j) v)) := by
  rw [← pz_w (μ := μ) (m := m) (Z := Z) (i := 2666 + 120 * k + j) (v := v) (by omega) (by omega)]
  simp (disch := first | assumption | omega) only [RS_0, RS_1, RS_2, RS_3, RS_4, RS_5, RS_6, RS_7, RS_8, RS_9, RS_10, RS_11, RS_12, RS_13, RS_14, RS_15, RS_16, RS_17, RS_18, RS_19, RS_20, RS_21, RS_22, RS_23, RS_24, RS_25, RS_26, RS_27, RS_28, RS_29, RS_30, RS_31, RS_32, RS_33, RS_34, RS_35, RS_36, ji_add, ji_sub, ji_mul, ji_neg, ji_lit0, ji_ofNat, ji_lt, ji_le, ji_eq, ji_nat, ji_in, ji_rem, ji_div, jl_of, xl_lt, xl_gt, xl_eq, qV_at, qI_at, qJ_at, qD_at, qA_at, qA_no, nb0, nb1, cat_r, cat_i, Option.some.injEq, exists_eq_left', true_and, and_true, if_true, if_false, ite_not, not_true_eq_false, not_false_eq_true, Sum.inr.injEq, exists_eq_right', true_or, or_true, and_self, Int.cast_ofNat_Int, reduceCtorEq, or_false, false_or, false_and, and_false, jb_zero, lt7_0, lt7_1, lt7_2, lt7_3, lt7_4, lt7_5, lt7_6, u_X9_set, pz_tg, pz_ln, pz_gI, pz_gL, pz_gR, pz_aR, pz_aL, pz_aD, ↓reduceIte, ilt_t, ilt_f, ile_t, ile_f, ieq_t, ieq_f, jb_T, jb_F, jb_t, jb_f]
theorem f_hop (hS : RS μ m) (hb : RB μ m w h s) (k0 : 0 ≤ k) (k1 : k < 25) : s_X9_hop (pz μ m Z) [.ref m, .int (ji k)] Q X = Q none (pz μ m (zhop Z (2666 + 120 * k))) := by
  simp (disch := first | assumption | omega) only [RS_0, RS_1, RS_2, RS_3, RS_4, RS_5, RS_6, RS_7, RS_8, RS_9, RS_10, RS_11, RS_12, RS_13, RS_14, RS_15, RS_16, RS_17, RS_18, RS_19, RS_20, RS_21, RS_22, RS_23, RS_24, RS_25, RS_26, RS_27, RS_28, RS_29, RS_30, RS_31, RS_32, RS_33, RS_34, RS_35, RS_36, ji_add, ji_sub, ji_mul, ji_neg, ji_lit0, ji_ofNat, ji_lt, ji_le, ji_eq, ji_nat, ji_in, ji_rem, ji_div, jl_of, xl_lt, xl_gt, xl_eq, qV_at, qI_at, qJ_at, qD_at, qA_at, qA_no, nb0, nb1, cat_r, cat_i, Option.some.injEq, exists_eq_left', true_and, and_true, if_true, if_false, ite_not, not_true_eq_false, not_false_eq_true, Sum.inr.injEq, exists_eq_right', true_or, or_true, and_self, Int.cast_ofNat_Int, reduceCtorEq, or_false, false_or, false_and, and_false, jb_zero, lt7_0, lt7_1, lt7_2, lt7_3, lt7_4, lt7_5, lt7_6, c_X9_hop_1, c_X9_hop_2, u_X9_hop, f_of (RS_pz hS _) (RW_pz hb _), f_set hS, pz_tg, pz_ln, pz_gI, pz_gL, pz_gR, pz_aR, pz_aL, pz_aD, ↓reduceIte, ilt_t, ilt_f, ile_t, ile_f, ieq_t, ieq_f, jb_T, jb_F, jb_t, jb_f]
  rfl
theorem f_become (hS : RS μ m) (k0 : 0 ≤ k) (k1 : k < 25) {t : Int} (t0 : 0 ≤ t) (t1 : t ≤ 5) : s_X9_become (pz μ m Z) [.ref m, .int (ji k), .int (ji t)] Q X = Q none (pz μ m (if t < 3 then zst Z (2666 + 120 * k) t else zfin Z (2666 + 120 * k) t)) := by
  have e0 : zu Z (2666 + 120 * k + 3) t 0 = Z 0 := zu_ne (by omega)
  have e1 : aI (pz μ m (zu Z (2666 + 120 * k + 3) t)) (m + 1) (0 : Int).toNat = ji (Z 0) := by rw [pz_ati (by omega) (by omega), e0]
  by_cases ht : t < 3
  · simp (disch := first | assumption | omega) only [RS_0, RS_1, RS_2, RS_3, RS_4, RS_5, RS_6, RS_7, RS_8, RS_9, RS_10, RS_11, RS_12, RS_13, RS_14, RS_15, RS_16, RS_17, RS_18, RS_19, RS_20, RS_21, RS_22, RS_23, RS_24, RS_25, RS_26, RS_27, RS_28, RS_29, RS_30, RS_31, RS_32, RS_33, RS_34, RS_35, RS_36, ji_add, ji_sub, ji_mul, ji_neg, ji_lit0, ji_ofNat, ji_lt, ji_le, ji_eq, ji_nat, ji_in, ji_rem, ji_div, jl_of, xl_lt, xl_gt, xl_eq, qV_at, qI_at, qJ_at, qD_at, qA_at, qA_no, nb0, nb1, cat_r, cat_i, Option.some.injEq, exists_eq_left', true_and, and_true, if_true, if_false, ite_not, not_true_eq_false, not_false_eq_true, Sum.inr.injEq, exists_eq_right', true_or, or_true, and_self, Int.cast_ofNat_Int, reduceCtorEq, or_false, false_or, false_and, and_false, jb_zero, lt7_0, lt7_1, lt7_2, lt7_3, lt7_4, lt7_5, lt7_6, c_X9_become_1, c_X9_become_2, u_X9_become, f_set hS, pz_tg, pz_ln, pz_gI, pz_gL, pz_gR, pz_aR, pz_aL, pz_aD, ↓reduceIte, ilt_t, ilt_f, ile_t, ile_f, ieq_t, ieq_f, jb_T, jb_F, jb_t, jb_f]
    rfl
  · simp (disch := first | assumption | omega) only [RS_0, RS_1, RS_2, RS_3, RS_4, RS_5, RS_6, RS_7, RS_8, RS_9, RS_10, RS_11, RS_12, RS_13, RS_14, RS_15, RS_16, RS_17, RS_18, RS_19, RS_20, RS_21, RS_22, RS_23, RS_24, RS_25, RS_26, RS_27, RS_28, RS_29, RS_30, RS_31, RS_32, RS_33, RS_34, RS_35, RS_36, ji_add, ji_sub, ji_mul, ji_neg, ji_lit0, ji_ofNat, ji_lt, ji_le, ji_eq, ji_nat, ji_in, ji_rem, ji_div, jl_of, xl_lt, xl_gt, xl_eq, qV_at, qI_at, qJ_at, qD_at, qA_at, qA_no, nb0, nb1, cat_r, cat_i, Option.some.injEq, exists_eq_left', true_and, and_true, if_true, if_false, ite_not, not_true_eq_false, not_false_eq_true, Sum.inr.injEq, exists_eq_right', true_or, or_true, and_self, Int.cast_ofNat_Int, reduceCtorEq, or_false, false_or, false_and, and_false, jb_zero, lt7_0, lt7_1, lt7_2, lt7_3, lt7_4, lt7_5, lt7_6, c_X9_become_1, c_X9_become_2, u_X9_become, f_set hS, e1, pz_tg, pz_ln, pz_gI, pz_gL, pz_gR, pz_aR, pz_aL, pz_aD, ↓reduceIte, ilt_t, ilt_f, ile_t, ile_f, ieq_t, ieq_f, jb_T, jb_F, jb_t, jb_f]
    rfl
theorem f_learn (hS : RS μ m) {n l t : Int} (n0 : 0 ≤ n) (n1 : n < 36) (l0 : 0 ≤ l) (l1 : l < 72) (hz : -2147483648 ≤ Z (74 + 72 * n + l) ∧ Z (74 + 72 * n + l) < 2147483648) (t0 : -2147483648 ≤ t) (t1 : t < 2147483648) : s_X9_learn (pz μ m Z) [.ref m, .int (ji n), .int (ji l), .int (ji t)] Q X = Q none (pz μ m (zlrn Z n l t)) := by
  unfold zlrn
  rw [← pz_w (μ := μ) (m := m) (by omega) (by omega)]
  have e1 : aI (pz μ m Z) (m + 1) (74 + 72 * n + l).toNat = ji (Z (74 + 72 * n + l)) := pz_ati (by omega) (by omega)
  by_cases ht : Z (74 + 72 * n + l) < t
  · have hn : ¬ t < Z (74 + 72 * n + l) := by omega
    simp (disch := first | assumption | omega) only [RS_0, RS_1, RS_2, RS_3, RS_4, RS_5, RS_6, RS_7, RS_8, RS_9, RS_10, RS_11, RS_12, RS_13, RS_14, RS_15, RS_16, RS_17, RS_18, RS_19, RS_20, RS_21, RS_22, RS_23, RS_24, RS_25, RS_26, RS_27, RS_28, RS_29, RS_30, RS_31, RS_32, RS_33, RS_34, RS_35, RS_36, ji_add, ji_sub, ji_mul, ji_neg, ji_lit0, ji_ofNat, ji_lt, ji_le, ji_eq, ji_nat, ji_in, ji_rem, ji_div, jl_of, xl_lt, xl_gt, xl_eq, qV_at, qI_at, qJ_at, qD_at, qA_at, qA_no, nb0, nb1, cat_r, cat_i, Option.some.injEq, exists_eq_left', true_and, and_true, if_true, if_false, ite_not, not_true_eq_false, not_false_eq_true, Sum.inr.injEq, exists_eq_right', true_or, or_true, and_self, Int.cast_ofNat_Int, reduceCtorEq, or_false, false_or, false_and, and_false, jb_zero, lt7_0, lt7_1, lt7_2, lt7_3, lt7_4, lt7_5, lt7_6, c_X9_learn_1, u_X9_learn, e1, f_max, ht, hn, pz_tg, pz_ln, pz_gI, pz_gL, pz_gR, pz_aR, pz_aL, pz_aD, ↓reduceIte, ilt_t, ilt_f, ile_t, ile_f, ieq_t, ieq_f, jb_T, jb_F, jb_t, jb_f]
  · by_cases hn : t < Z (74 + 72 * n + l)
    · simp (disch := first | assumption | omega) only [RS_0, RS_1, RS_2, RS_3, RS_4, RS_5, RS_6, RS_7, RS_8, RS_9, RS_10, RS_11, RS_12, RS_13, RS_14, RS_15, RS_16, RS_17, RS_18, RS_19, RS_20, RS_21, RS_22, RS_23, RS_24, RS_25, RS_26, RS_27, RS_28, RS_29, RS_30, RS_31, RS_32, RS_33, RS_34, RS_35, RS_36, ji_add, ji_sub, ji_mul, ji_neg, ji_lit0, ji_ofNat, ji_lt, ji_le, ji_eq, ji_nat, ji_in, ji_rem, ji_div, jl_of, xl_lt, xl_gt, xl_eq, qV_at, qI_at, qJ_at, qD_at, qA_at, qA_no, nb0, nb1, cat_r, cat_i, Option.some.injEq, exists_eq_left', true_and, and_true, if_true, if_false, ite_not, not_true_eq_false, not_false_eq_true, Sum.inr.injEq, exists_eq_right', true_or, or_true, and_self, Int.cast_ofNat_Int, reduceCtorEq, or_false, false_or, false_and, and_false, jb_zero, lt7_0, lt7_1, lt7_2, lt7_3, lt7_4, lt7_5, lt7_6, c_X9_learn_1, u_X9_learn, e1, f_max, ht, hn, pz_tg, pz_ln, pz_gI, pz_gL, pz_gR, pz_aR, pz_aL, pz_aD, ↓reduceIte, ilt_t, ilt_f, ile_t, ile_f, ieq_t, ieq_f, jb_T, jb_F, jb_t, jb_f]
    · have : t = Z (74 + 72 * n + l) := by omega
      subst this
      simp (disch := first | assumption | omega) only [RS_0, RS_1, RS_2, RS_3, RS_4, RS_5, RS_6, RS_7, RS_8, RS_9, RS_10, RS_11, RS_12, RS_13, RS_14, RS_15, RS_16, RS_17, RS_18, RS_19, RS_20, RS_21, RS_22, RS_23, RS_24, RS_25, RS_26, RS_27, RS_28, RS_29, RS_30, RS_31, RS_32, RS_33, RS_34, RS_35, RS_36, ji_add, ji_sub, ji_mul, ji_neg, ji_lit0, ji_ofNat, ji_lt, ji_le, ji_eq, ji_nat, ji_in, ji_rem, ji_div, jl_of, xl_lt, xl_gt, xl_eq, qV_at, qI_at, qJ_at, qD_at, qA_at, qA_no, nb0, nb1, cat_r, cat_i, Option.some.injEq, exists_eq_left', true_and, and_true, if_true, if_false, ite_not, not_true_eq_false, not_false_eq_true, Sum.inr.injEq, exists_eq_right', true_or, or_true, and_self, Int.cast_ofNat_Int, reduceCtorEq, or_false, false_or, false_and, and_false, jb_zero, lt7_0, lt7_1, lt7_2, lt7_3, lt7_4, lt7_5, lt7_6, c_X9_learn_1, u_X9_learn, e1, f_max, ht, hn, pz_tg, pz_ln, pz_gI, pz_gL, pz_gR, pz_aR, pz_aL, pz_aD, ↓reduceIte, ilt_t, ilt_f, ile_t, ile_f, ieq_t, ieq_f, jb_T, jb_F, jb_t, jb_f]
theorem f_visit (hS : RS μ m) (hb : RB μ m w h s) (k0 : 0 ≤ k) (k1 : k < 25) {n : Int} (n0 : 0 ≤ n) (n1 : n < 36) (l0 : 0 ≤ Z (2666 + 120 * k + 6)) (l1 : Z (2666 + 120 * k + 6) < 36) (v0 : 0 ≤ Z (2666 + 120 * k + 9) ∧ Z (2666 + 120 * k + 9) < 262144 ∧ 0 ≤ Z (2666 + 120 * k + 10) ∧ Z (2666 + 120 * k + 10) < 262144) : s_X9_visit (pz μ m Z) [.ref m, .int (ji k), .int (ji n)] Q X = Q none (pz μ m (zvst Z (2666 + 120 * k) n)) := by
  have hq : n / 18 = 0 ∨ n / 18 = 1 := by omega
  have hr : 0 ≤ n % 18 ∧ n % 18 < 18 := by omega
  have ea : ∀ x : Int, 2666 + 120 * k + (9 + x) = 2666 + 120 * k + 9 + x := fun x => by omega
  have eb : ∀ x : Int, 2666 + 120 * k + (11 + x) = 2666 + 120 * k + 11 + x := fun x => by omega
  have ec : 0 ≤ Z (2666 + 120 * k + 9 + n / 18) ∧ Z (2666 + 120 * k + 9 + n / 18) < 262144 := by
    rcases hq with q | q <;> rw [q]
    · rw [Int.add_zero]; omega
    · have : 2666 + 120 * k + 9 + 1 = 2666 + 120 * k + 10 := by omega
      rw [this]; omega
  have ed : ji (Z (2666 + 120 * k + 9 + n / 18)) ||| jshl (ji 1) (ji (n % 18)) = ji (bs (Z (2666 + 120 * k + 9 + n / 18)) (n % 18)) := by
    have hp : 2 ^ (n % 18).toNat < 2 ^ 18 := Nat.pow_lt_pow_right (by omega) (by omega)
    have hp0 : (0 : Int) ≤ ((2 ^ (n % 18).toNat : Nat) : Int) := Int.natCast_nonneg _
    rw [ji_shl1 (by omega) (by omega), ji_or (by omega) (by omega) (by omega) (by omega), Int.toNat_natCast]
    rfl
  have z1 : zu Z (2666 + 120 * k + 4) n (2666 + 120 * k + 9 + n / 18) = Z (2666 + 120 * k + 9 + n / 18) := zu_ne (by omega)
  have z2 : ∀ v, zu (zu Z (2666 + 120 * k + 4) n) (2666 + 120 * k + 9 + n / 18) v (2666 + 120 * k + 6) = Z (2666 + 120 * k + 6) := fun v => by rw [zu_ne (by omega), zu_ne (by omega)]
  have z3 : ∀ v x, zu (zu (zu Z (2666 + 120 * k + 4) n) (2666 + 120 * k + 9 + n / 18) v) (2666 + 120 * k + 11 + Z (2666 + 120 * k + 6)) x (2666 + 120 * k + 6) = Z (2666 + 120 * k + 6) := fun v x => by rw [zu_ne (by omega), zu_ne (by omega), zu_ne (by omega)]
  unfold zvst
  simp (disch := first | assumption | omega) only [RS_0, RS_1, RS_2, RS_3, RS_4, RS_5, RS_6, RS_7, RS_8, RS_9, RS_10, RS_11, RS_12, RS_13, RS_14, RS_15, RS_16, RS_17, RS_18, RS_19, RS_20, RS_21, RS_22, RS_23, RS_24, RS_25, RS_26, RS_27, RS_28, RS_29, RS_30, RS_31, RS_32, RS_33, RS_34, RS_35, RS_36, ji_add, ji_sub, ji_mul, ji_neg, ji_lit0, ji_ofNat, ji_lt, ji_le, ji_eq, ji_nat, ji_in, ji_rem, ji_div, jl_of, xl_lt, xl_gt, xl_eq, qV_at, qI_at, qJ_at, qD_at, qA_at, qA_no, nb0, nb1, cat_r, cat_i, Option.some.injEq, exists_eq_left', true_and, and_true, if_true, if_false, ite_not, not_true_eq_false, not_false_eq_true, Sum.inr.injEq, exists_eq_right', true_or, or_true, and_self, Int.cast_ofNat_Int, reduceCtorEq, or_false, false_or, false_and, and_false, jb_zero, lt7_0, lt7_1, lt7_2, lt7_3, lt7_4, lt7_5, lt7_6, c_X9_visit_1, c_X9_visit_2, c_X9_visit_3, c_X9_visit_4, c_X9_visit_5, c_X9_visit_6, c_X9_visit_7, u_X9_visit, f_of (RS_pz hS _) (RW_pz hb _), f_set hS, ea, eb, z1, ed, z2, z3, pz_tg, pz_ln, pz_gI, pz_gL, pz_gR, pz_aR, pz_aL, pz_aD, ↓reduceIte, ilt_t, ilt_f, ile_t, ile_f, ieq_t, ieq_f, jb_T, jb_F, jb_t, jb_f]
/-- the direction to a node that is beside -/
theorem f_wayTo (hS : RS μ m) (hR : RW μ m w h s Z) (hz : SZ w h N s) {n b : Int} (n0 : 0 ≤ n) (n1 : n < N) (b0 : 0 ≤ b) (b1 : b < 36) (hx : ∃ y : Int, 0 ≤ y ∧ y < 4 ∧ nx w h n y = b) : 0 ≤ wto w h N n b ∧ wto w h N n b < 4 ∧ nx w h n (wto w h N n b) = b ∧ ∀ Q X, s_X9_wayTo μ [.ref m, .int (ji n), .int (ji b)] Q X = Q (some (.int (ji (wto w h N n b)))) μ := by
  have a0 := nx_b hz.g n0 n1 (y := 0) (by omega) (by omega)
  have a1 := nx_b hz.g n0 n1 (y := 1) (by omega) (by omega)
  have a2 := nx_b hz.g n0 n1 (y := 2) (by omega) (by omega)
  have a3 := nx_b hz.g n0 n1 (y := 3) (by omega) (by omega)
  have g := hz.g
  have t0 := nxt_in (w := w) (h := h) n0 n1 (y := 0) (by omega) (by omega)
  have t1 := nxt_in (w := w) (h := h) n0 n1 (y := 1) (by omega) (by omega)
  have t2 := nxt_in (w := w) (h := h) n0 n1 (y := 2) (by omega) (by omega)
  have t3 := nxt_in (w := w) (h := h) n0 n1 (y := 3) (by omega) (by omega)
  have i1 : (0 : Int) + 1 = 1 := rfl
  have i2 : (1 : Int) + 1 = 2 := rfl
  have i3 : (2 : Int) + 1 = 3 := rfl
  have st : ∀ (q : Nat) (l : Int) (Q : XQ) (X : XX), 0 ≤ l → l < 4 → ln_X9_wayTo_2 Q X (q + 1) [some (.ref m), some (.int (ji n)), some (.int (ji b)), some (.int (ji l))] [] μ 0 0 = if nx w h n l = b then Q (some (.int (ji l))) μ else ln_X9_wayTo_2 Q X q [some (.ref m), some (.int (ji n)), some (.int (ji b)), some (.int (ji (l + 1)))] [] μ 0 0 := fun q l Q X l0 l1 => by
    have al := nx_b hz.g n0 n1 l0 l1
    rw [ul_X9_wayTo_2]
    by_cases hl : nx w h n l = b <;> simp (disch := first | assumption | omega) only [RS_0, RS_1, RS_2, RS_3, RS_4, RS_5, RS_6, RS_7, RS_8, RS_9, RS_10, RS_11, RS_12, RS_13, RS_14, RS_15, RS_16, RS_17, RS_18, RS_19, RS_20, RS_21, RS_22, RS_23, RS_24, RS_25, RS_26, RS_27, RS_28, RS_29, RS_30, RS_31, RS_32, RS_33, RS_34, RS_35, RS_36, ji_add, ji_sub, ji_mul, ji_neg, ji_lit0, ji_ofNat, ji_lt, ji_le, ji_eq, ji_nat, ji_in, ji_rem, ji_div, jl_of, xl_lt, xl_gt, xl_eq, qV_at, qI_at, qJ_at, qD_at, qA_at, qA_no, nb0, nb1, cat_r, cat_i, Option.some.injEq, exists_eq_left', true_and, and_true, if_true, if_false, ite_not, not_true_eq_false, not_false_eq_true, Sum.inr.injEq, exists_eq_right', true_or, or_true, and_self, Int.cast_ofNat_Int, reduceCtorEq, or_false, false_or, false_and, and_false, jb_zero, lt7_0, lt7_1, lt7_2, lt7_3, lt7_4, lt7_5, lt7_6, c_X9_wayTo_1, f_nextTo hS hR hz, hl, ↓reduceIte, ilt_t, ilt_f, ile_t, ile_f, ieq_t, ieq_f, jb_T, jb_F, jb_t, jb_f]
  have key : ∀ (r : Int) (Q : XQ) (X : XX), (∀ q, 4 ≤ q → ln_X9_wayTo_2 Q X q [some (.ref m), some (.int (ji n)), some (.int (ji b)), some (.int (ji 0))] [] μ 0 0 = Q (some (.int (ji r))) μ) → s_X9_wayTo μ [.ref m, .int (ji n), .int (ji b)] Q X = Q (some (.int (ji r))) μ := fun r Q X hh => by
    rw [u_X9_wayTo, l_X9_wayTo_2, xseal_eq]
    exact hh _ (by omega)
  by_cases h0 : nx w h n 0 = b
  · have e : wto w h N n b = 0 := by simp only [wto, findz, t0, h0, if_true]
    rw [e]
    refine ⟨by omega, by omega, h0, fun Q X => key _ Q X (fun q hq => ?_)⟩
    obtain ⟨q, rfl⟩ : ∃ j, q = j + 1 := ⟨q - 1, by omega⟩
    rw [st q 0 Q X (by omega) (by omega), if_pos h0]
  · by_cases h1 : nx w h n 1 = b
    · have e : wto w h N n b = 1 := by simp only [wto, findz, t0, h0, if_false, i1, t1, h1, if_true]
      rw [e]
      refine ⟨by omega, by omega, h1, fun Q X => key _ Q X (fun q hq => ?_)⟩
      obtain ⟨q, rfl⟩ : ∃ j, q = j + 1 + 1 := ⟨q - 2, by omega⟩
      rw [st _ 0 Q X (by omega) (by omega), if_neg h0, i1, st _ 1 Q X (by omega) (by omega), if_pos h1]
    · by_cases h2 : nx w h n 2 = b
      · have e : wto w h N n b = 2 := by simp only [wto, findz, t0, h0, if_false, i1, t1, h1, i2, t2, h2, if_true]
        rw [e]
        refine ⟨by omega, by omega, h2, fun Q X => key _ Q X (fun q hq => ?_)⟩
        obtain ⟨q, rfl⟩ : ∃ j, q = j + 1 + 1 + 1 := ⟨q - 3, by omega⟩
        rw [st _ 0 Q X (by omega) (by omega), if_neg h0, i1, st _ 1 Q X (by omega) (by omega), if_neg h1, i2, st _ 2 Q X (by omega) (by omega), if_pos h2]
      · have h3 : nx w h n 3 = b := by
          obtain ⟨y, y0, y1, y2⟩ := hx
          have : y = 0 ∨ y = 1 ∨ y = 2 ∨ y = 3 := by omega
          rcases this with rfl | rfl | rfl | rfl
          · exact absurd y2 h0
          · exact absurd y2 h1
          · exact absurd y2 h2
          · exact y2
        have e : wto w h N n b = 3 := by simp only [wto, findz, t0, h0, if_false, i1, t1, h1, i2, t2, h2, i3, t3, h3, if_true]
        rw [e]
        refine ⟨by omega, by omega, h3, fun Q X => key _ Q X (fun q hq => ?_)⟩
        obtain ⟨q, rfl⟩ : ∃ j, q = j + 1 + 1 + 1 + 1 := ⟨q - 4, by omega⟩
        rw [st _ 0 Q X (by omega) (by omega), if_neg h0, i1, st _ 1 Q X (by omega) (by omega), if_neg h1, i2, st _ 2 Q X (by omega) (by omega), if_neg h2, i3, st _ 3 Q X (by omega) (by omega), if_pos h3]
theorem BD.z (hB : BD w h N s Z) : SZ w h N s := by
  have := hB.1
  have := hB.2.1
  unfold SZ
  omega
theorem zteg_1 {o n l : Int} (n0 : 0 ≤ n) (l0 : 0 ≤ l) {i : Int} (hi : i < 74) : zteg o n l Z i = Z i := by
  unfold zteg
  split
  · rfl
  · unfold zlrn
    rw [zu_ne (by omega)]
theorem f_tea (hS : RS μ m) (hb : RB μ m w h s) (hB : BD w h N s Z) (k0 : 0 ≤ k) (k1 : k < Z 1) (h3 : Z (2666 + 120 * k + 3) ≠ 0) {n : Int} (n0 : 0 ≤ n) (n1 : n < 36) : l_X9_stepBack_76 Q X [some (.ref m), some (.int (ji k)), none, some (.int (ji n)), some (.int (ji 0))] [] (pz μ m Z) 0 0 = Q none (pz μ m (ztea Z (2666 + 120 * k) n)) := by
  have hbz := hB.2.1
  rw [l_X9_stepBack_76, xseal_eq]
  unfold ztea
  refine fold_loop (fun mf x l => ln_X9_stepBack_76 Q X mf [some (.ref m), some (.int (ji k)), none, some (.int (ji n)), some (.int (ji l))] [] (pz μ m x) 0 0) (fun x => Q none (pz μ m x)) (zteg (2666 + 120 * k) n) (fun l x => BD w h N s x ∧ agr 74 2666 x Z) 72 (fun mf x hx => ?_) (fun mf x l l0 l1 hx => ?_) 72 10000 0 Z (by omega) (by omega) (by omega) ⟨hB, agr.refl _ _ _⟩
  · show ln_X9_stepBack_76 Q X (mf + 1) [some (.ref m), some (.int (ji k)), none, some (.int (ji n)), some (.int (ji 72))] [] (pz μ m x) 0 0 = Q none (pz μ m x)
    rw [ul_X9_stepBack_76]
    simp (disch := first | assumption | omega) only [RS_0, RS_1, RS_2, RS_3, RS_4, RS_5, RS_6, RS_7, RS_8, RS_9, RS_10, RS_11, RS_12, RS_13, RS_14, RS_15, RS_16, RS_17, RS_18, RS_19, RS_20, RS_21, RS_22, RS_23, RS_24, RS_25, RS_26, RS_27, RS_28, RS_29, RS_30, RS_31, RS_32, RS_33, RS_34, RS_35, RS_36, ji_add, ji_sub, ji_mul, ji_neg, ji_lit0, ji_ofNat, ji_lt, ji_le, ji_eq, ji_nat, ji_in, ji_rem, ji_div, jl_of, xl_lt, xl_gt, xl_eq, qV_at, qI_at, qJ_at, qD_at, qA_at, qA_no, nb0, nb1, cat_r, cat_i, Option.some.injEq, exists_eq_left', true_and, and_true, if_true, if_false, ite_not, not_true_eq_false, not_false_eq_true, Sum.inr.injEq, exists_eq_right', true_or, or_true, and_self, Int.cast_ofNat_Int, reduceCtorEq, or_false, false_or, false_and, and_false, jb_zero, lt7_0, lt7_1, lt7_2, lt7_3, lt7_4, lt7_5, lt7_6, ↓reduceIte, ilt_t, ilt_f, ile_t, ile_f, ieq_t, ieq_f, jb_T, jb_F, jb_t, jb_f]
  · show ln_X9_stepBack_76 Q X (mf + 1) [some (.ref m), some (.int (ji k)), none, some (.int (ji n)), some (.int (ji l))] [] (pz μ m x) 0 0 = ln_X9_stepBack_76 Q X mf [some (.ref m), some (.int (ji k)), none, some (.int (ji n)), some (.int (ji (l + 1)))] [] (pz μ m (zteg (2666 + 120 * k) n l x)) 0 0 ∧ _
    obtain ⟨hx1, hx2⟩ := hx
    have e1 := hx2 1 (by omega)
    have e3 := hx2 (2666 + 120 * k + 3) (by omega)
    have hbk := BD_p hx1 k k0 (by rw [e1]; exact k1)
    have hbm := hbk.2.2.2 l l0 l1
    have hbk1 := hbk.1
    rw [e3] at hbk1
    have hbl := hx1.2.2.2.1 (72 * n + l) (by omega) (by omega)
    have e5 : (74 : Int) + (72 * n + l) = 74 + 72 * n + l := by omega
    rw [e5] at hbl
    have ea : 2666 + 120 * k + (47 + l) = 2666 + 120 * k + 47 + l := by omega
    unfold zteg
    by_cases hm : x (2666 + 120 * k + 47 + l) = -1
    · rw [if_pos hm]
      refine ⟨?_, hx1, hx2⟩
      rw [ul_X9_stepBack_76]
      simp (disch := first | assumption | omega) only [RS_0, RS_1, RS_2, RS_3, RS_4, RS_5, RS_6, RS_7, RS_8, RS_9, RS_10, RS_11, RS_12, RS_13, RS_14, RS_15, RS_16, RS_17, RS_18, RS_19, RS_20, RS_21, RS_22, RS_23, RS_24, RS_25, RS_26, RS_27, RS_28, RS_29, RS_30, RS_31, RS_32, RS_33, RS_34, RS_35, RS_36, ji_add, ji_sub, ji_mul, ji_neg, ji_lit0, ji_ofNat, ji_lt, ji_le, ji_eq, ji_nat, ji_in, ji_rem, ji_div, jl_of, xl_lt, xl_gt, xl_eq, qV_at, qI_at, qJ_at, qD_at, qA_at, qA_no, nb0, nb1, cat_r, cat_i, Option.some.injEq, exists_eq_left', true_and, and_true, if_true, if_false, ite_not, not_true_eq_false, not_false_eq_true, Sum.inr.injEq, exists_eq_right', true_or, or_true, and_self, Int.cast_ofNat_Int, reduceCtorEq, or_false, false_or, false_and, and_false, jb_zero, lt7_0, lt7_1, lt7_2, lt7_3, lt7_4, lt7_5, lt7_6, c_X9_stepBack_1, c_X9_stepBack_2, c_X9_stepBack_3, c_X9_stepBack_4, c_X9_stepBack_5, c_X9_stepBack_6, c_X9_stepBack_7, c_X9_stepBack_8, c_X9_stepBack_9, c_X9_stepBack_10, c_X9_stepBack_11, c_X9_stepBack_12, c_X9_stepBack_13, c_X9_stepBack_14, f_of (RS_pz hS _) (RW_pz hb _), e3, ea, hm, pz_tg, pz_ln, pz_gI, pz_gL, pz_gR, pz_aR, pz_aL, pz_aD, ↓reduceIte, ilt_t, ilt_f, ile_t, ile_f, ieq_t, ieq_f, jb_T, jb_F, jb_t, jb_f]
    · rw [if_neg hm]
      refine ⟨?_, hx1.l (agr_lrn n0 n1 l0 l1) (lrn_b hx1 (by omega) (by omega)), (agr_lrn n0 n1 l0 l1).trans hx2⟩
      rw [ul_X9_stepBack_76]
      simp (disch := first | assumption | omega) only [RS_0, RS_1, RS_2, RS_3, RS_4, RS_5, RS_6, RS_7, RS_8, RS_9, RS_10, RS_11, RS_12, RS_13, RS_14, RS_15, RS_16, RS_17, RS_18, RS_19, RS_20, RS_21, RS_22, RS_23, RS_24, RS_25, RS_26, RS_27, RS_28, RS_29, RS_30, RS_31, RS_32, RS_33, RS_34, RS_35, RS_36, ji_add, ji_sub, ji_mul, ji_neg, ji_lit0, ji_ofNat, ji_lt, ji_le, ji_eq, ji_nat, ji_in, ji_rem, ji_div, jl_of, xl_lt, xl_gt, xl_eq, qV_at, qI_at, qJ_at, qD_at, qA_at, qA_no, nb0, nb1, cat_r, cat_i, Option.some.injEq, exists_eq_left', true_and, and_true, if_true, if_false, ite_not, not_true_eq_false, not_false_eq_true, Sum.inr.injEq, exists_eq_right', true_or, or_true, and_self, Int.cast_ofNat_Int, reduceCtorEq, or_false, false_or, false_and, and_false, jb_zero, lt7_0, lt7_1, lt7_2, lt7_3, lt7_4, lt7_5, lt7_6, c_X9_stepBack_1, c_X9_stepBack_2, c_X9_stepBack_3, c_X9_stepBack_4, c_X9_stepBack_5, c_X9_stepBack_6, c_X9_stepBack_7, c_X9_stepBack_8, c_X9_stepBack_9, c_X9_stepBack_10, c_X9_stepBack_11, c_X9_stepBack_12, c_X9_stepBack_13, c_X9_stepBack_14, f_of (RS_pz hS _) (RW_pz hb _), e3, ea, f_learn hS, pz_tg, pz_ln, pz_gI, pz_gL, pz_gR, pz_aR, pz_aL, pz_aD, ↓reduceIte, ilt_t, ilt_f, ile_t, ile_f, ieq_t, ieq_f, jb_T, jb_F, jb_t, jb_f]
theorem f_stepBack (hS : RS μ m) (hb : RB μ m w h s) (hB : BD w h N s Z) (k0 : 0 ≤ k) (k1 : k < Z 1) (hl : ¬ Z (2666 + 120 * k + 6) ≤ 1) (hf : 0 ≤ ahd Z (2666 + 120 * k) ∧ ahd Z (2666 + 120 * k) < N ∧ 0 ≤ lkd w Z (2666 + 120 * k) ∧ lkd w Z (2666 + 120 * k) < 72 ∧ ∃ y : Int, 0 ≤ y ∧ y < 4 ∧ nx w h (Z (2666 + 120 * k + 4)) y = ahd Z (2666 + 120 * k)) : s_X9_stepBack (pz μ m Z) [.ref m, .int (ji k)] Q X = Q none (pz μ m (if Z (2 + lkd w Z (2666 + 120 * k)) ≠ 0 then zfin Z (2666 + 120 * k) 5 else if Z (2666 + 120 * k + 3) = 0 then zbak Z (2666 + 120 * k) else ztea (zbak Z (2666 + 120 * k)) (2666 + 120 * k) (ahd Z (2666 + 120 * k)))) := by
  have hbz := hB.2.1
  have hbk := BD_p hB k k0 k1
  have hbk1 := hbk.1
  have hw := hB.1
  obtain ⟨f1, f2, f3, f4, f5⟩ := hf
  obtain ⟨w1, w2, w3, w4⟩ := f_wayTo (RS_pz hS Z) (RW_pz hb Z) hB.z (n := Z (2666 + 120 * k + 4)) (b := ahd Z (2666 + 120 * k)) (by omega) (by omega) f1 (by omega) f5
  have el : lka w h N (Z (2666 + 120 * k + 4)) (wto w h N (Z (2666 + 120 * k + 4)) (ahd Z (2666 + 120 * k))) = lkd w Z (2666 + 120 * k) := by
    unfold lka
    rw [nxt_in (by omega) (by omega) w1 w2, w3, if_neg (by omega)]
    rfl
  have ea : 2666 + 120 * k + (11 + Z (2666 + 120 * k + 6) - 2) = 2666 + 120 * k + 11 + (Z (2666 + 120 * k + 6) - 2) := by omega
  have eb : Z (2666 + 120 * k + 11 + (Z (2666 + 120 * k + 6) - 2)) = ahd Z (2666 + 120 * k) := rfl
  have hd01 := hB.2.2.1 (lkd w Z (2666 + 120 * k)) f3 f4
  have z1 : zu Z (2666 + 120 * k + 4) (ahd Z (2666 + 120 * k)) (2666 + 120 * k + 6) = Z (2666 + 120 * k + 6) := zu_ne (by omega)
  have z2 : zu (zu Z (2666 + 120 * k + 4) (ahd Z (2666 + 120 * k))) (2666 + 120 * k + 6) (Z (2666 + 120 * k + 6) - 1) = zbak Z (2666 + 120 * k) := rfl
  by_cases hd : Z (2 + lkd w Z (2666 + 120 * k)) = 0
  · rw [if_neg (fun q => q hd)]
    have z3 : zbak Z (2666 + 120 * k) (2666 + 120 * k + 3) = Z (2666 + 120 * k + 3) := by unfold zbak; simp (disch := first | assumption | omega) only [gL_sI, gL_sR, gL_wI, gL_wL, gL_wD, gL_wR, gL_cI, gL_uF, gL_sL_at, gL_sL_k, gL_sL_a, gR_sI, gR_sL, gR_wI, gR_wL, gR_wD, gR_wR, gR_cI, gR_uF, gR_sR_at, gR_sR_k, gR_sR_a, aI_sI, aI_sL, aI_sR, aI_wL, aI_wD, aI_wR, aI_uF, aI_wI_at, aI_wI_a, aI_wI_i, aI_cI_at, aI_cI_a, aI_cI_i, aL_sI, aL_sL, aL_sR, aL_wI, aL_wD, aL_wR, aL_cI, aL_uF, aL_wL_at, aL_wL_a, aL_wL_i, aD_sI, aD_sL, aD_sR, aD_wI, aD_wL, aD_wR, aD_cI, aD_uF, aD_wD_at, aD_wD_a, aD_wD_i, aR_sI, aR_sL, aR_sR, aR_wI, aR_wL, aR_wD, aR_cI, aR_uF, aR_wR_at, aR_wR_a, aR_wR_i, tg_sI, tg_sL, tg_sR, tg_wI, tg_wL, tg_wD, tg_wR, tg_cI, tg_uF, ln_sI, ln_sL, ln_sR, ln_wI, ln_wL, ln_wD, ln_wR, ln_cI, ln_uF, tp_sI, tp_sL, tp_sR, tp_wI, tp_wL, tp_wD, tp_wR, tp_cI, tp_uF, fr_sI, fr_sL, fr_sR, fr_wI, fr_wL, fr_wD, fr_wR, fr_cI, gI_sL, gI_sR, gI_wI, gI_wL, gI_wD, gI_wR, gI_cI, gI_uF, gI_sI_at, gI_sI_k, gI_sI_a, zu_at, zu_ne]
    have z4 : zbak Z (2666 + 120 * k) 1 = Z 1 := by unfold zbak; simp (disch := first | assumption | omega) only [gL_sI, gL_sR, gL_wI, gL_wL, gL_wD, gL_wR, gL_cI, gL_uF, gL_sL_at, gL_sL_k, gL_sL_a, gR_sI, gR_sL, gR_wI, gR_wL, gR_wD, gR_wR, gR_cI, gR_uF, gR_sR_at, gR_sR_k, gR_sR_a, aI_sI, aI_sL, aI_sR, aI_wL, aI_wD, aI_wR, aI_uF, aI_wI_at, aI_wI_a, aI_wI_i, aI_cI_at, aI_cI_a, aI_cI_i, aL_sI, aL_sL, aL_sR, aL_wI, aL_wD, aL_wR, aL_cI, aL_uF, aL_wL_at, aL_wL_a, aL_wL_i, aD_sI, aD_sL, aD_sR, aD_wI, aD_wL, aD_wR, aD_cI, aD_uF, aD_wD_at, aD_wD_a, aD_wD_i, aR_sI, aR_sL, aR_sR, aR_wI, aR_wL, aR_wD, aR_cI, aR_uF, aR_wR_at, aR_wR_a, aR_wR_i, tg_sI, tg_sL, tg_sR, tg_wI, tg_wL, tg_wD, tg_wR, tg_cI, tg_uF, ln_sI, ln_sL, ln_sR, ln_wI, ln_wL, ln_wD, ln_wR, ln_cI, ln_uF, tp_sI, tp_sL, tp_sR, tp_wI, tp_wL, tp_wD, tp_wR, tp_cI, tp_uF, fr_sI, fr_sL, fr_sR, fr_wI, fr_wL, fr_wD, fr_wR, fr_cI, gI_sL, gI_sR, gI_wI, gI_wL, gI_wD, gI_wR, gI_cI, gI_uF, gI_sI_at, gI_sI_k, gI_sI_a, zu_at, zu_ne]
    by_cases h3 : Z (2666 + 120 * k + 3) = 0
    · rw [if_pos h3]
      have hc : ∀ (d n : Nat) (l : Int), d < n → l + d = 72 → 0 ≤ l → ln_X9_stepBack_76 Q X n [some (.ref m), some (.int (ji k)), none, some (.int (ji (ahd Z (2666 + 120 * k)))), some (.int (ji l))] [] (pz μ m (zbak Z (2666 + 120 * k))) 0 0 = Q none (pz μ m (zbak Z (2666 + 120 * k))) := fun d n l hn hl l0 => by
        have := fold_loop (fun mf (_ : Unit) l => ln_X9_stepBack_76 Q X mf [some (.ref m), some (.int (ji k)), none, some (.int (ji (ahd Z (2666 + 120 * k)))), some (.int (ji l))] [] (pz μ m (zbak Z (2666 + 120 * k))) 0 0) (fun _ => Q none (pz μ m (zbak Z (2666 + 120 * k)))) (fun _ x => x) (fun _ _ => True) 72 (fun mf x hx => by
          show ln_X9_stepBack_76 Q X (mf + 1) [some (.ref m), some (.int (ji k)), none, some (.int (ji (ahd Z (2666 + 120 * k)))), some (.int (ji 72))] [] (pz μ m (zbak Z (2666 + 120 * k))) 0 0 = Q none (pz μ m (zbak Z (2666 + 120 * k)))
          rw [ul_X9_stepBack_76]
          simp (disch := first | assumption | omega) only [RS_0, RS_1, RS_2, RS_3, RS_4, RS_5, RS_6, RS_7, RS_8, RS_9, RS_10, RS_11, RS_12, RS_13, RS_14, RS_15, RS_16, RS_17, RS_18, RS_19, RS_20, RS_21, RS_22, RS_23, RS_24, RS_25, RS_26, RS_27, RS_28, RS_29, RS_30, RS_31, RS_32, RS_33, RS_34, RS_35, RS_36, ji_add, ji_sub, ji_mul, ji_neg, ji_lit0, ji_ofNat, ji_lt, ji_le, ji_eq, ji_nat, ji_in, ji_rem, ji_div, jl_of, xl_lt, xl_gt, xl_eq, qV_at, qI_at, qJ_at, qD_at, qA_at, qA_no, nb0, nb1, cat_r, cat_i, Option.some.injEq, exists_eq_left', true_and, and_true, if_true, if_false, ite_not, not_true_eq_false, not_false_eq_true, Sum.inr.injEq, exists_eq_right', true_or, or_true, and_self, Int.cast_ofNat_Int, reduceCtorEq, or_false, false_or, false_and, and_false, jb_zero, lt7_0, lt7_1, lt7_2, lt7_3, lt7_4, lt7_5, lt7_6, ↓reduceIte, ilt_t, ilt_f, ile_t, ile_f, ieq_t, ieq_f, jb_T, jb_F, jb_t, jb_f]) (fun mf x l l0 l1 hx => by
          refine ⟨?_, trivial⟩
          show ln_X9_stepBack_76 Q X (mf + 1) [some (.ref m), some (.int (ji k)), none, some (.int (ji (ahd Z (2666 + 120 * k)))), some (.int (ji l))] [] (pz μ m (zbak Z (2666 + 120 * k))) 0 0 = ln_X9_stepBack_76 Q X mf [some (.ref m), some (.int (ji k)), none, some (.int (ji (ahd Z (2666 + 120 * k)))), some (.int (ji (l + 1)))] [] (pz μ m (zbak Z (2666 + 120 * k))) 0 0
          rw [ul_X9_stepBack_76]
          simp (disch := first | assumption | omega) only [RS_0, RS_1, RS_2, RS_3, RS_4, RS_5, RS_6, RS_7, RS_8, RS_9, RS_10, RS_11, RS_12, RS_13, RS_14, RS_15, RS_16, RS_17, RS_18, RS_19, RS_20, RS_21, RS_22, RS_23, RS_24, RS_25, RS_26, RS_27, RS_28, RS_29, RS_30, RS_31, RS_32, RS_33, RS_34, RS_35, RS_36, ji_add, ji_sub, ji_mul, ji_neg, ji_lit0, ji_ofNat, ji_lt, ji_le, ji_eq, ji_nat, ji_in, ji_rem, ji_div, jl_of, xl_lt, xl_gt, xl_eq, qV_at, qI_at, qJ_at, qD_at, qA_at, qA_no, nb0, nb1, cat_r, cat_i, Option.some.injEq, exists_eq_left', true_and, and_true, if_true, if_false, ite_not, not_true_eq_false, not_false_eq_true, Sum.inr.injEq, exists_eq_right', true_or, or_true, and_self, Int.cast_ofNat_Int, reduceCtorEq, or_false, false_or, false_and, and_false, jb_zero, lt7_0, lt7_1, lt7_2, lt7_3, lt7_4, lt7_5, lt7_6, c_X9_stepBack_1, c_X9_stepBack_2, c_X9_stepBack_3, c_X9_stepBack_4, c_X9_stepBack_5, c_X9_stepBack_6, c_X9_stepBack_7, c_X9_stepBack_8, c_X9_stepBack_9, c_X9_stepBack_10, c_X9_stepBack_11, c_X9_stepBack_12, c_X9_stepBack_13, c_X9_stepBack_14, f_of (RS_pz hS _) (RW_pz hb _), z3, h3, pz_tg, pz_ln, pz_gI, pz_gL, pz_gR, pz_aR, pz_aL, pz_aD, ↓reduceIte, ilt_t, ilt_f, ile_t, ile_f, ieq_t, ieq_f, jb_T, jb_F, jb_t, jb_f]) d n l () hn hl l0 trivial
        exact this
      simp (disch := first | assumption | omega) only [RS_0, RS_1, RS_2, RS_3, RS_4, RS_5, RS_6, RS_7, RS_8, RS_9, RS_10, RS_11, RS_12, RS_13, RS_14, RS_15, RS_16, RS_17, RS_18, RS_19, RS_20, RS_21, RS_22, RS_23, RS_24, RS_25, RS_26, RS_27, RS_28, RS_29, RS_30, RS_31, RS_32, RS_33, RS_34, RS_35, RS_36, ji_add, ji_sub, ji_mul, ji_neg, ji_lit0, ji_ofNat, ji_lt, ji_le, ji_eq, ji_nat, ji_in, ji_rem, ji_div, jl_of, xl_lt, xl_gt, xl_eq, qV_at, qI_at, qJ_at, qD_at, qA_at, qA_no, nb0, nb1, cat_r, cat_i, Option.some.injEq, exists_eq_left', true_and, and_true, if_true, if_false, ite_not, not_true_eq_false, not_false_eq_true, Sum.inr.injEq, exists_eq_right', true_or, or_true, and_self, Int.cast_ofNat_Int, reduceCtorEq, or_false, false_or, false_and, and_false, jb_zero, lt7_0, lt7_1, lt7_2, lt7_3, lt7_4, lt7_5, lt7_6, c_X9_stepBack_1, c_X9_stepBack_2, c_X9_stepBack_3, c_X9_stepBack_4, c_X9_stepBack_5, c_X9_stepBack_6, c_X9_stepBack_7, c_X9_stepBack_8, c_X9_stepBack_9, c_X9_stepBack_10, u_X9_stepBack, c_X9_stepBack_11, c_X9_stepBack_12, c_X9_stepBack_13, c_X9_stepBack_14, f_of (RS_pz hS _) (RW_pz hb _), f_set hS, ea, eb, w4, f_linkOf (RS_pz hS _) (RW_pz hb _) hB.z, el, f_isDeadNow (RS_pz hS _) (RW_pz hb _), hd, z1, z2, ne_eq, pz_tg, pz_ln, pz_gI, pz_gL, pz_gR, pz_aR, pz_aL, pz_aD, ↓reduceIte, ilt_t, ilt_f, ile_t, ile_f, ieq_t, ieq_f, jb_T, jb_F, jb_t, jb_f]
      rw [l_X9_stepBack_76, xseal_eq]
      exact hc 72 10000 0 (by omega) (by omega) (by omega)
    · rw [if_neg h3]
      have hBb := hB.k k0 agr_bak (BP_bak (by omega) hbk ⟨f1, f2⟩ hl)
      simp (disch := first | assumption | omega) only [RS_0, RS_1, RS_2, RS_3, RS_4, RS_5, RS_6, RS_7, RS_8, RS_9, RS_10, RS_11, RS_12, RS_13, RS_14, RS_15, RS_16, RS_17, RS_18, RS_19, RS_20, RS_21, RS_22, RS_23, RS_24, RS_25, RS_26, RS_27, RS_28, RS_29, RS_30, RS_31, RS_32, RS_33, RS_34, RS_35, RS_36, ji_add, ji_sub, ji_mul, ji_neg, ji_lit0, ji_ofNat, ji_lt, ji_le, ji_eq, ji_nat, ji_in, ji_rem, ji_div, jl_of, xl_lt, xl_gt, xl_eq, qV_at, qI_at, qJ_at, qD_at, qA_at, qA_no, nb0, nb1, cat_r, cat_i, Option.some.injEq, exists_eq_left', true_and, and_true, if_true, if_false, ite_not, not_true_eq_false, not_false_eq_true, Sum.inr.injEq, exists_eq_right', true_or, or_true, and_self, Int.cast_ofNat_Int, reduceCtorEq, or_false, false_or, false_and, and_false, jb_zero, lt7_0, lt7_1, lt7_2, lt7_3, lt7_4, lt7_5, lt7_6, c_X9_stepBack_1, c_X9_stepBack_2, c_X9_stepBack_3, c_X9_stepBack_4, c_X9_stepBack_5, c_X9_stepBack_6, c_X9_stepBack_7, c_X9_stepBack_8, c_X9_stepBack_9, c_X9_stepBack_10, u_X9_stepBack, c_X9_stepBack_11, c_X9_stepBack_12, c_X9_stepBack_13, c_X9_stepBack_14, f_of (RS_pz hS _) (RW_pz hb _), f_set hS, ea, eb, w4, f_linkOf (RS_pz hS _) (RW_pz hb _) hB.z, el, f_isDeadNow (RS_pz hS _) (RW_pz hb _), hd, z1, z2, ne_eq, pz_tg, pz_ln, pz_gI, pz_gL, pz_gR, pz_aR, pz_aL, pz_aD, ↓reduceIte, ilt_t, ilt_f, ile_t, ile_f, ieq_t, ieq_f, jb_T, jb_F, jb_t, jb_f]
      exact f_tea hS hb hBb k0 (by rw [z4]; exact k1) (by rw [z3]; exact h3) f1 (by omega)
  · rw [if_pos hd]
    simp (disch := first | assumption | omega) only [RS_0, RS_1, RS_2, RS_3, RS_4, RS_5, RS_6, RS_7, RS_8, RS_9, RS_10, RS_11, RS_12, RS_13, RS_14, RS_15, RS_16, RS_17, RS_18, RS_19, RS_20, RS_21, RS_22, RS_23, RS_24, RS_25, RS_26, RS_27, RS_28, RS_29, RS_30, RS_31, RS_32, RS_33, RS_34, RS_35, RS_36, ji_add, ji_sub, ji_mul, ji_neg, ji_lit0, ji_ofNat, ji_lt, ji_le, ji_eq, ji_nat, ji_in, ji_rem, ji_div, jl_of, xl_lt, xl_gt, xl_eq, qV_at, qI_at, qJ_at, qD_at, qA_at, qA_no, nb0, nb1, cat_r, cat_i, Option.some.injEq, exists_eq_left', true_and, and_true, if_true, if_false, ite_not, not_true_eq_false, not_false_eq_true, Sum.inr.injEq, exists_eq_right', true_or, or_true, and_self, Int.cast_ofNat_Int, reduceCtorEq, or_false, false_or, false_and, and_false, jb_zero, lt7_0, lt7_1, lt7_2, lt7_3, lt7_4, lt7_5, lt7_6, c_X9_stepBack_1, c_X9_stepBack_2, c_X9_stepBack_3, c_X9_stepBack_4, c_X9_stepBack_5, c_X9_stepBack_6, c_X9_stepBack_7, c_X9_stepBack_8, c_X9_stepBack_9, c_X9_stepBack_10, u_X9_stepBack, c_X9_stepBack_11, c_X9_stepBack_12, c_X9_stepBack_13, c_X9_stepBack_14, f_of (RS_pz hS _) (RW_pz hb _), f_set hS, ea, eb, w4, f_linkOf (RS_pz hS _) (RW_pz hb _) hB.z, el, f_isDeadNow (RS_pz hS _) (RW_pz hb _), f_become hS, ne_eq, pz_tg, pz_ln, pz_gI, pz_gL, pz_gR, pz_aR, pz_aL, pz_aD, ↓reduceIte, ilt_t, ilt_f, ile_t, ile_f, ieq_t, ieq_f, jb_T, jb_F, jb_t, jb_f]
end
