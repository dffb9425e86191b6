/-! ===== the reference: blocks, fields ===== -/
/-- the memory with the reference's int fields -/
def pf (μ : XM) (m : Nat) (F : Nat → Int) : XM := (fun k a => if a = m then ji (F k) else gI μ k a, μ.2)
def fu (F : Nat → Int) (k : Nat) (v : Int) : Nat → Int := fun j => if j = k then v else F j
theorem fu_at (F : Nat → Int) (k : Nat) (v : Int) : fu F k v k = v := if_pos rfl
theorem fu_ne {F : Nat → Int} {k j : Nat} {v : Int} (h : ¬ j = k) : fu F k v j = F j := if_neg h
def zclr (Z : Int → Int) : Int → Int := fun i => if 0 ≤ i ∧ i < 5666 then zemp i else Z i
section
variable {μ : XM} {m : Nat} {w h N s : Int} {Z Y : Int → Int} {Q : XQ} {X : XX} {k : Int} {F : Nat → Int}
theorem pf_at {k : Nat} : gI (pf μ m F) k m = ji (F k) := if_pos rfl
theorem pf_ne {k a : Nat} (h : a ≠ m) : gI (pf μ m F) k a = gI μ k a := if_neg h
theorem pf_tg : tg (pf μ m F) = tg μ := Eq.trans rfl rfl
theorem pf_ln : ln (pf μ m F) = ln μ := Eq.trans rfl rfl
theorem pf_gL : gL (pf μ m F) = gL μ := Eq.trans rfl rfl
theorem pf_gR : gR (pf μ m F) = gR μ := Eq.trans rfl rfl
theorem pf_aI : aI (pf μ m F) = aI μ := Eq.trans rfl rfl
theorem pf_aR : aR (pf μ m F) = aR μ := Eq.trans rfl rfl
theorem pf_w (k : Nat) (v : Int) : sI (pf μ m F) k m (ji v) = pf μ m (fu F k v) := by
  have e : (fun k' a' => if k' = k ∧ a' = m then ji v else gI (pf μ m F) k' a') = gI (pf μ m (fu F k v)) := by
    funext k' a'
    by_cases ha : a' = m
    · subst ha
      by_cases hk : k' = k
      · subst hk
        rw [if_pos ⟨rfl, rfl⟩, pf_at, fu_at]
      · rw [if_neg (fun q => hk q.1), pf_at, pf_at, fu_ne hk]
    · rw [if_neg (fun q => ha q.2), pf_ne ha, pf_ne ha]
  unfold sI
  rw [e]
  rfl
theorem pzf_w (k : Nat) (v : Int) : sI (pz (pf μ m F) m Z) k m (ji v) = pz (pf μ m (fu F k v)) m Z := by
  rw [← pf_w]
  rfl
theorem pz_sI (k a : Nat) (v : Int32) : sI (pz μ m Z) k a v = pz (sI μ k a v) m Z := rfl
theorem RS_pf (hS : RS μ m) (F : Nat → Int) : RS (pf μ m F) m := by
  unfold RS at hS ⊢
  exact hS
theorem RB_pf (h1 : F 292 = w) (h2 : F 293 = h) (h3 : F 294 = s) : RB (pf μ m F) m w h s := ⟨by rw [pf_at, h1], by rw [pf_at, h2], by rw [pf_at, h3]⟩
theorem pf_id (h : ∀ k, gI μ k m = ji (F k)) : pf μ m F = μ := by
  have e : (fun k a => if a = m then ji (F k) else gI μ k a) = μ.1 := by
    funext k a
    by_cases ha : a = m
    · rw [if_pos ha, ← h k, ha]
      rfl
    · rw [if_neg ha]
      rfl
  unfold pf
  rw [e]
/-- a range of a row, written -/
def wr (μ : XM) (a : Nat) (c : Int) (d : Nat) (f : Int → Int32) : XM := (μ.1, μ.2.1, μ.2.2.1, fun a' i => if a' = a ∧ c ≤ (i : Int) ∧ (i : Int) < c + d then f (i - c) else aI μ a' i, μ.2.2.2.2)
theorem wr_in {a : Nat} {c i : Int} {d : Nat} {f : Int → Int32} (i0 : 0 ≤ i) (h1 : c ≤ i) (h2 : i < c + d) : aI (wr μ a c d f) a i.toNat = f (i - c) := by
  have : aI (wr μ a c d f) a i.toNat = f ((i.toNat : Int) - c) := if_pos ⟨rfl, by omega, by omega⟩
  rw [this, Int.toNat_of_nonneg i0]
theorem wr_a {a b i : Nat} {c : Int} {d : Nat} {f : Int → Int32} (h : b ≠ a) : aI (wr μ a c d f) b i = aI μ b i := if_neg (fun q => h q.1)
theorem wr_out {a : Nat} {c i : Int} {d : Nat} {f : Int → Int32} (i0 : 0 ≤ i) (h : i < c ∨ c + d ≤ i) : aI (wr μ a c d f) a i.toNat = aI μ a i.toNat := if_neg (fun q => by omega)
theorem wr_ext {ν ξ : XM} (h1 : (ν.1, ν.2.1, ν.2.2.1, ν.2.2.2.2) = (ξ.1, ξ.2.1, ξ.2.2.1, ξ.2.2.2.2)) (h2 : ∀ a i, aI ν a i = aI ξ a i) : ν = ξ := by
  obtain ⟨a1, a2, a3, a4, a5⟩ := ν
  obtain ⟨b1, b2, b3, b4, b5⟩ := ξ
  simp only [Prod.mk.injEq] at h1
  obtain ⟨rfl, rfl, rfl, rfl⟩ := h1
  have : a4 = b4 := funext fun a => funext fun i => h2 a i
  rw [this]
theorem wr_fold {a : Nat} {c : Int} (c0 : 0 ≤ c) (f : Int → Int32) : ∀ d : Nat, foldz (fun l y => wI y a (c + l).toNat (f l)) 0 d μ = wr μ a c d f := by
  intro d
  induction d with
  | zero =>
    refine wr_ext rfl (fun b i => ?_)
    show aI μ b i = if _ then _ else _
    rw [if_neg (by omega)]
  | succ d ih =>
    rw [foldz_last, ih]
    refine wr_ext rfl (fun b i => ?_)
    show (if b = a ∧ i = (c + (0 + d)).toNat then f (0 + d) else if b = a ∧ c ≤ (i : Int) ∧ (i : Int) < c + d then f (i - c) else aI μ b i) = if b = a ∧ c ≤ (i : Int) ∧ (i : Int) < c + (d + 1 : Nat) then f (i - c) else aI μ b i
    by_cases hb : b = a
    · by_cases hi : i = (c + (0 + d)).toNat
      · rw [if_pos ⟨hb, hi⟩, if_pos ⟨hb, by omega, by omega⟩]
        congr 1
        omega
      · rw [if_neg (fun q => hi q.2)]
        by_cases h2 : c ≤ (i : Int) ∧ (i : Int) < c + d
        · rw [if_pos ⟨hb, h2⟩, if_pos ⟨hb, h2.1, by omega⟩]
        · rw [if_neg (fun q => h2 q.2), if_neg (fun q => by omega)]
    · rw [if_neg (fun q => hb q.1), if_neg (fun q => hb q.1), if_neg (fun q => hb q.1)]
/-- a block of the reference's row that lies behind the present one -/
def pb (μ : XM) (m : Nat) (b : Int) (Z : Int → Int) : XM := wr μ (m + 1) (5666 * b) 5666 (fun i => ji (Z i))
theorem RS_pb (hS : RS μ m) (b : Int) (Y : Int → Int) : RS (pb μ m b Y) m := hS.mono ⟨rfl, rfl, rfl, rfl⟩
theorem f_copyTo (hS : RS μ m) {b : Int} (b0 : 1 ≤ b) (b1 : b < 16) : s_X9_copyBlock (pz μ m Z) [.ref m, .int (ji 0), .int (ji b)] Q X = Q none (pz (pb μ m b Z) m Z) := by
  have e : pz (pb μ m b Z) m Z = foldz (fun l y => wI y (m + 1) (5666 * b + l).toNat (ji (Z l))) 0 5666 (pz μ m Z) := by
    rw [wr_fold (by omega) (fun i => ji (Z i))]
    refine wr_ext rfl (fun a i => ?_)
    show (if a = m + 1 ∧ i < 5666 then ji (Z i) else if a = m + 1 ∧ 5666 * b ≤ (i : Int) ∧ (i : Int) < 5666 * b + (5666 : Nat) then ji (Z (i - 5666 * b)) else aI μ a i) = if a = m + 1 ∧ 5666 * b ≤ (i : Int) ∧ (i : Int) < 5666 * b + (5666 : Nat) then ji (Z (i - 5666 * b)) else if a = m + 1 ∧ i < 5666 then ji (Z i) else aI μ a i
    by_cases h1 : a = m + 1 ∧ i < 5666
    · rw [if_pos h1, if_neg (by omega), if_pos h1]
    · rw [if_neg h1, if_neg h1]
  rw [e, u_X9_copyBlock, l_X9_copyBlock_2, xseal_eq]
  refine fold_loop (fun mf x l => ln_X9_copyBlock_2 Q X mf [some (.ref m), some (.int (ji 0)), some (.int (ji b)), some (.int (ji l))] [] x 0 0) (fun x => Q none x) (fun l y => wI y (m + 1) (5666 * b + l).toNat (ji (Z l))) (fun l x => RS x m ∧ ∀ i : Nat, i < 5666 → aI x (m + 1) i = ji (Z i)) 5666 (fun mf x hx => ?_) (fun mf x l l0 l1 hx => ⟨?_, ?_⟩) 5666 10000 0 _ (by omega) (by omega) (by omega) ⟨RS_pz hS _, fun i hi => pz_at hi⟩
  · show ln_X9_copyBlock_2 Q X (mf + 1) [some (.ref m), some (.int (ji 0)), some (.int (ji b)), some (.int (ji 5666))] [] x 0 0 = Q none x
    have hS' := hx.1
    rw [ul_X9_copyBlock_2]
    simp (disch := first | assumption | omega) only [RS_0, RS_1, RS_2, RS_3, RS_4, RS_5, RS_6, RS_7, RS_8, RS_9, RS_10, RS_11, RS_12, RS_13, RS_14, RS_15, RS_16, RS_17, RS_18, RS_19, RS_20, RS_21, RS_22, RS_23, RS_24, RS_25, RS_26, RS_27, RS_28, RS_29, RS_30, RS_31, RS_32, RS_33, RS_34, RS_35, RS_36, ji_add, ji_sub, ji_mul, ji_neg, ji_lit0, ji_ofNat, ji_lt, ji_le, ji_eq, ji_nat, ji_in, ji_rem, ji_div, jl_of, xl_lt, xl_gt, xl_eq, qV_at, qI_at, qJ_at, qD_at, qA_at, qA_no, nb0, nb1, cat_r, cat_i, Option.some.injEq, exists_eq_left', true_and, and_true, if_true, if_false, ite_not, not_true_eq_false, not_false_eq_true, Sum.inr.injEq, exists_eq_right', true_or, or_true, and_self, Int.cast_ofNat_Int, reduceCtorEq, or_false, false_or, false_and, and_false, jb_zero, lt7_0, lt7_1, lt7_2, lt7_3, lt7_4, lt7_5, lt7_6, ↓reduceIte, ilt_t, ilt_f, ile_t, ile_f, ieq_t, ieq_f, jb_T, jb_F, jb_t, jb_f]
  · show ln_X9_copyBlock_2 Q X (mf + 1) [some (.ref m), some (.int (ji 0)), some (.int (ji b)), some (.int (ji l))] [] x 0 0 = ln_X9_copyBlock_2 Q X mf [some (.ref m), some (.int (ji 0)), some (.int (ji b)), some (.int (ji (l + 1)))] [] (wI x (m + 1) (5666 * b + l).toNat (ji (Z l))) 0 0
    have hS' := hx.1
    have e1 : aI x (m + 1) l.toNat = ji (Z l) := by
      rw [hx.2 l.toNat (by omega), Int.toNat_of_nonneg l0]
    rw [ul_X9_copyBlock_2]
    simp (disch := first | assumption | omega) only [RS_0, RS_1, RS_2, RS_3, RS_4, RS_5, RS_6, RS_7, RS_8, RS_9, RS_10, RS_11, RS_12, RS_13, RS_14, RS_15, RS_16, RS_17, RS_18, RS_19, RS_20, RS_21, RS_22, RS_23, RS_24, RS_25, RS_26, RS_27, RS_28, RS_29, RS_30, RS_31, RS_32, RS_33, RS_34, RS_35, RS_36, ji_add, ji_sub, ji_mul, ji_neg, ji_lit0, ji_ofNat, ji_lt, ji_le, ji_eq, ji_nat, ji_in, ji_rem, ji_div, jl_of, xl_lt, xl_gt, xl_eq, qV_at, qI_at, qJ_at, qD_at, qA_at, qA_no, nb0, nb1, cat_r, cat_i, Option.some.injEq, exists_eq_left', true_and, and_true, if_true, if_false, ite_not, not_true_eq_false, not_false_eq_true, Sum.inr.injEq, exists_eq_right', true_or, or_true, and_self, Int.cast_ofNat_Int, reduceCtorEq, or_false, false_or, false_and, and_false, jb_zero, lt7_0, lt7_1, lt7_2, lt7_3, lt7_4, lt7_5, lt7_6, e1, ↓reduceIte, ilt_t, ilt_f, ile_t, ile_f, ieq_t, ieq_f, jb_T, jb_F, jb_t, jb_f, Int.mul_zero, Int.zero_add]
  · show RS (wI x (m + 1) (5666 * b + l).toNat (ji (Z l))) m ∧ ∀ i : Nat, i < 5666 → aI (wI x (m + 1) (5666 * b + l).toNat (ji (Z l))) (m + 1) i = ji (Z i)
    refine ⟨hx.1.mono ⟨rfl, rfl, rfl, rfl⟩, fun i hi => ?_⟩
    rw [aI_wI_i _ _ _ _ _ _ (by omega)]
    exact hx.2 i hi
theorem f_copyFrom (hS : RS μ m) {b : Int} (b0 : 1 ≤ b) (b1 : b < 16) (hY : ∀ i : Int, 0 ≤ i → i < 5666 → aI μ (m + 1) (5666 * b + i).toNat = ji (Y i)) : s_X9_copyBlock (pz μ m Z) [.ref m, .int (ji b), .int (ji 0)] Q X = Q none (pz μ m Y) := by
  have e : pz μ m Y = pz μ m (foldz (fun i U => zu U (0 + i) (Y i)) 0 5666 Z) := pz_congr fun i i0 i1 => by
    rw [foldz_set (fun i => Y i), if_pos (by omega), Int.sub_zero]
  rw [e, u_X9_copyBlock, l_X9_copyBlock_2, xseal_eq]
  refine fold_loop (fun mf x l => ln_X9_copyBlock_2 Q X mf [some (.ref m), some (.int (ji b)), some (.int (ji 0)), some (.int (ji l))] [] (pz μ m x) 0 0) (fun x => Q none (pz μ m x)) (fun i U => zu U (0 + i) (Y i)) (fun l x => True) 5666 (fun mf x hx => ?_) (fun mf x l l0 l1 hx => ⟨?_, trivial⟩) 5666 10000 0 Z (by omega) (by omega) (by omega) trivial
  · show ln_X9_copyBlock_2 Q X (mf + 1) [some (.ref m), some (.int (ji b)), some (.int (ji 0)), some (.int (ji 5666))] [] (pz μ m x) 0 0 = Q none (pz μ m x)
    rw [ul_X9_copyBlock_2]
    simp (disch := first | assumption | omega) only [RS_0, RS_1, RS_2, RS_3, RS_4, RS_5, RS_6, RS_7, RS_8, RS_9, RS_10, RS_11, RS_12, RS_13, RS_14, RS_15, RS_16, RS_17, RS_18, RS_19, RS_20, RS_21, RS_22, RS_23, RS_24, RS_25, RS_26, RS_27, RS_28, RS_29, RS_30, RS_31, RS_32, RS_33, RS_34, RS_35, RS_36, ji_add, ji_sub, ji_mul, ji_neg, ji_lit0, ji_ofNat, ji_lt, ji_le, ji_eq, ji_nat, ji_in, ji_rem, ji_div, jl_of, xl_lt, xl_gt, xl_eq, qV_at, qI_at, qJ_at, qD_at, qA_at, qA_no, nb0, nb1, cat_r, cat_i, Option.some.injEq, exists_eq_left', true_and, and_true, if_true, if_false, ite_not, not_true_eq_false, not_false_eq_true, Sum.inr.injEq, exists_eq_right', true_or, or_true, and_self, Int.cast_ofNat_Int, reduceCtorEq, or_false, false_or, false_and, and_false, jb_zero, lt7_0, lt7_1, lt7_2, lt7_3, lt7_4, lt7_5, lt7_6, ↓reduceIte, ilt_t, ilt_f, ile_t, ile_f, ieq_t, ieq_f, jb_T, jb_F, jb_t, jb_f]
  · show ln_X9_copyBlock_2 Q X (mf + 1) [some (.ref m), some (.int (ji b)), some (.int (ji 0)), some (.int (ji l))] [] (pz μ m x) 0 0 = ln_X9_copyBlock_2 Q X mf [some (.ref m), some (.int (ji b)), some (.int (ji 0)), some (.int (ji (l + 1)))] [] (pz μ m (zu x (0 + l) (Y l))) 0 0
    have e0 : (0 : Int) + l = l := by omega
    have e1 : aI (pz μ m x) (m + 1) (5666 * b + l).toNat = ji (Y l) := by
      rw [← hY l l0 l1]
      exact if_neg (fun q => by omega)
    rw [e0, ← pz_w (by omega) (by omega), ul_X9_copyBlock_2]
    simp (disch := first | assumption | omega) only [RS_0, RS_1, RS_2, RS_3, RS_4, RS_5, RS_6, RS_7, RS_8, RS_9, RS_10, RS_11, RS_12, RS_13, RS_14, RS_15, RS_16, RS_17, RS_18, RS_19, RS_20, RS_21, RS_22, RS_23, RS_24, RS_25, RS_26, RS_27, RS_28, RS_29, RS_30, RS_31, RS_32, RS_33, RS_34, RS_35, RS_36, ji_add, ji_sub, ji_mul, ji_neg, ji_lit0, ji_ofNat, ji_lt, ji_le, ji_eq, ji_nat, ji_in, ji_rem, ji_div, jl_of, xl_lt, xl_gt, xl_eq, qV_at, qI_at, qJ_at, qD_at, qA_at, qA_no, nb0, nb1, cat_r, cat_i, Option.some.injEq, exists_eq_left', true_and, and_true, if_true, if_false, ite_not, not_true_eq_false, not_false_eq_true, Sum.inr.injEq, exists_eq_right', true_or, or_true, and_self, Int.cast_ofNat_Int, reduceCtorEq, or_false, false_or, false_and, and_false, jb_zero, lt7_0, lt7_1, lt7_2, lt7_3, lt7_4, lt7_5, lt7_6, e1, pz_tg, pz_ln, pz_gI, pz_gL, pz_gR, pz_aR, pz_aL, pz_aD, ↓reduceIte, ilt_t, ilt_f, ile_t, ile_f, ieq_t, ieq_f, jb_T, jb_F, jb_t, jb_f, Int.mul_zero, Int.zero_add]
theorem f_clearBlock (hS : RS μ m) : s_X9_clearBlock (pz μ m Z) [.ref m] Q X = Q none (pz μ m (zclr Z)) := by
  have e : zclr Z = zrow 74 (-1) 2592 (zrow 0 0 5666 Z) := funext fun j => by
    unfold zclr zemp
    by_cases h : 0 ≤ j ∧ j < 5666
    · rw [if_pos h]
      by_cases h2 : 74 ≤ j ∧ j < 2666
      · rw [if_pos h2, zrow_in (by omega)]
      · rw [if_neg h2, zrow_ne (by omega), zrow_in (by omega)]
    · rw [if_neg h, zrow_ne (by omega), zrow_ne (by omega)]
  have e2 : foldz (fun i Y => zu Y (0 + i) 0) 0 5666 Z = zrow 0 0 5666 Z := rfl
  have key : ∀ x, l_X9_clearBlock_24 Q X [some (.ref m), some (.int (ji 0))] [] (pz μ m x) 0 0 = Q none (pz μ m (zrow 74 (-1) 2592 x)) := by
    intro x
    rw [l_X9_clearBlock_24, xseal_eq]
    refine fold_loop (fun mf x l => ln_X9_clearBlock_24 Q X mf [some (.ref m), some (.int (ji l))] [] (pz μ m x) 0 0) (fun x => Q none (pz μ m x)) (fun i Y => zu Y (74 + i) (-1)) (fun l x => True) 2592 (fun mf x hx => ?_) (fun mf x l l0 l1 hx => ⟨?_, trivial⟩) 2592 10000 0 x (by omega) (by omega) (by omega) trivial
    · show ln_X9_clearBlock_24 Q X (mf + 1) [some (.ref m), some (.int (ji 2592))] [] (pz μ m x) 0 0 = Q none (pz μ m x)
      rw [ul_X9_clearBlock_24]
      simp (disch := first | assumption | omega) only [RS_0, RS_1, RS_2, RS_3, RS_4, RS_5, RS_6, RS_7, RS_8, RS_9, RS_10, RS_11, RS_12, RS_13, RS_14, RS_15, RS_16, RS_17, RS_18, RS_19, RS_20, RS_21, RS_22, RS_23, RS_24, RS_25, RS_26, RS_27, RS_28, RS_29, RS_30, RS_31, RS_32, RS_33, RS_34, RS_35, RS_36, ji_add, ji_sub, ji_mul, ji_neg, ji_lit0, ji_ofNat, ji_lt, ji_le, ji_eq, ji_nat, ji_in, ji_rem, ji_div, jl_of, xl_lt, xl_gt, xl_eq, qV_at, qI_at, qJ_at, qD_at, qA_at, qA_no, nb0, nb1, cat_r, cat_i, Option.some.injEq, exists_eq_left', true_and, and_true, if_true, if_false, ite_not, not_true_eq_false, not_false_eq_true, Sum.inr.injEq, exists_eq_right', true_or, or_true, and_self, Int.cast_ofNat_Int, reduceCtorEq, or_false, false_or, false_and, and_false, jb_zero, lt7_0, lt7_1, lt7_2, lt7_3, lt7_4, lt7_5, lt7_6, ↓reduceIte, ilt_t, ilt_f, ile_t, ile_f, ieq_t, ieq_f, jb_T, jb_F, jb_t, jb_f]
    · show ln_X9_clearBlock_24 Q X (mf + 1) [some (.ref m), some (.int (ji l))] [] (pz μ m x) 0 0 = ln_X9_clearBlock_24 Q X mf [some (.ref m), some (.int (ji (l + 1)))] [] (pz μ m (zu x (74 + l) (-1))) 0 0
      rw [← pz_w (by omega) (by omega), ul_X9_clearBlock_24]
      simp (disch := first | assumption | omega) only [RS_0, RS_1, RS_2, RS_3, RS_4, RS_5, RS_6, RS_7, RS_8, RS_9, RS_10, RS_11, RS_12, RS_13, RS_14, RS_15, RS_16, RS_17, RS_18, RS_19, RS_20, RS_21, RS_22, RS_23, RS_24, RS_25, RS_26, RS_27, RS_28, RS_29, RS_30, RS_31, RS_32, RS_33, RS_34, RS_35, RS_36, ji_add, ji_sub, ji_mul, ji_neg, ji_lit0, ji_ofNat, ji_lt, ji_le, ji_eq, ji_nat, ji_in, ji_rem, ji_div, jl_of, xl_lt, xl_gt, xl_eq, qV_at, qI_at, qJ_at, qD_at, qA_at, qA_no, nb0, nb1, cat_r, cat_i, Option.some.injEq, exists_eq_left', true_and, and_true, if_true, if_false, ite_not, not_true_eq_false, not_false_eq_true, Sum.inr.injEq, exists_eq_right', true_or, or_true, and_self, Int.cast_ofNat_Int, reduceCtorEq, or_false, false_or, false_and, and_false, jb_zero, lt7_0, lt7_1, lt7_2, lt7_3, lt7_4, lt7_5, lt7_6, pz_tg, pz_ln, pz_gI, pz_gL, pz_gR, pz_aR, pz_aL, pz_aD, ↓reduceIte, ilt_t, ilt_f, ile_t, ile_f, ieq_t, ieq_f, jb_T, jb_F, jb_t, jb_f]
  rw [e, ← e2, u_X9_clearBlock, l_X9_clearBlock_2, xseal_eq]
  refine fold_loop (fun mf x l => ln_X9_clearBlock_2 Q X mf [some (.ref m), some (.int (ji l))] [] (pz μ m x) 0 0) (fun x => Q none (pz μ m (zrow 74 (-1) 2592 x))) (fun i Y => zu Y (0 + i) 0) (fun l x => True) 5666 (fun mf x hx => ?_) (fun mf x l l0 l1 hx => ⟨?_, trivial⟩) 5666 10000 0 Z (by omega) (by omega) (by omega) trivial
  · show ln_X9_clearBlock_2 Q X (mf + 1) [some (.ref m), some (.int (ji 5666))] [] (pz μ m x) 0 0 = Q none (pz μ m (zrow 74 (-1) 2592 x))
    rw [← key, ul_X9_clearBlock_2]
    simp (disch := first | assumption | omega) only [RS_0, RS_1, RS_2, RS_3, RS_4, RS_5, RS_6, RS_7, RS_8, RS_9, RS_10, RS_11, RS_12, RS_13, RS_14, RS_15, RS_16, RS_17, RS_18, RS_19, RS_20, RS_21, RS_22, RS_23, RS_24, RS_25, RS_26, RS_27, RS_28, RS_29, RS_30, RS_31, RS_32, RS_33, RS_34, RS_35, RS_36, ji_add, ji_sub, ji_mul, ji_neg, ji_lit0, ji_ofNat, ji_lt, ji_le, ji_eq, ji_nat, ji_in, ji_rem, ji_div, jl_of, xl_lt, xl_gt, xl_eq, qV_at, qI_at, qJ_at, qD_at, qA_at, qA_no, nb0, nb1, cat_r, cat_i, Option.some.injEq, exists_eq_left', true_and, and_true, if_true, if_false, ite_not, not_true_eq_false, not_false_eq_true, Sum.inr.injEq, exists_eq_right', true_or, or_true, and_self, Int.cast_ofNat_Int, reduceCtorEq, or_false, false_or, false_and, and_false, jb_zero, lt7_0, lt7_1, lt7_2, lt7_3, lt7_4, lt7_5, lt7_6, ↓reduceIte, ilt_t, ilt_f, ile_t, ile_f, ieq_t, ieq_f, jb_T, jb_F, jb_t, jb_f]
  · show ln_X9_clearBlock_2 Q X (mf + 1) [some (.ref m), some (.int (ji l))] [] (pz μ m x) 0 0 = ln_X9_clearBlock_2 Q X mf [some (.ref m), some (.int (ji (l + 1)))] [] (pz μ m (zu x (0 + l) 0)) 0 0
    have e0 : (0 : Int) + l = l := by omega
    rw [e0, ← pz_w (by omega) (by omega), ul_X9_clearBlock_2]
    simp (disch := first | assumption | omega) only [RS_0, RS_1, RS_2, RS_3, RS_4, RS_5, RS_6, RS_7, RS_8, RS_9, RS_10, RS_11, RS_12, RS_13, RS_14, RS_15, RS_16, RS_17, RS_18, RS_19, RS_20, RS_21, RS_22, RS_23, RS_24, RS_25, RS_26, RS_27, RS_28, RS_29, RS_30, RS_31, RS_32, RS_33, RS_34, RS_35, RS_36, ji_add, ji_sub, ji_mul, ji_neg, ji_lit0, ji_ofNat, ji_lt, ji_le, ji_eq, ji_nat, ji_in, ji_rem, ji_div, jl_of, xl_lt, xl_gt, xl_eq, qV_at, qI_at, qJ_at, qD_at, qA_at, qA_no, nb0, nb1, cat_r, cat_i, Option.some.injEq, exists_eq_left', true_and, and_true, if_true, if_false, ite_not, not_true_eq_false, not_false_eq_true, Sum.inr.injEq, exists_eq_right', true_or, or_true, and_self, Int.cast_ofNat_Int, reduceCtorEq, or_false, false_or, false_and, and_false, jb_zero, lt7_0, lt7_1, lt7_2, lt7_3, lt7_4, lt7_5, lt7_6, pz_tg, pz_ln, pz_gI, pz_gL, pz_gR, pz_aR, pz_aL, pz_aD, ↓reduceIte, ilt_t, ilt_f, ile_t, ile_f, ieq_t, ieq_f, jb_T, jb_F, jb_t, jb_f]
theorem f_addPacket (hS : RS μ m) (hb : RB μ m w h s) (z0 : 0 ≤ Z 1) (z1 : Z 1 < 25) {a b l : Int} (a0 : 0 ≤ a) (a1 : a < 36) : s_X9_addPacket (pz μ m Z) [.ref m, .int (ji a), .int (ji b), .int (ji l)] Q X = Q (some (.int (ji (Z 1)))) (pz μ m (zadd Z a b l)) := by
  have q1 : aI (pz μ m Z) (m + 1) (1 : Int).toNat = ji (Z 1) := pz_ati (by omega) (by omega)
  have key : ∀ x : Int → Int, l_X9_addPacket_46 Q X [some (.ref m), some (.int (ji a)), some (.int (ji b)), some (.int (ji l)), some (.int (ji (Z 1))), some (.int (ji 0))] [] (pz μ m (zrow (2666 + 120 * Z 1) 0 47 (zu Z 1 (Z 1 + 1)))) 0 0 = Q (some (.int (ji (Z 1)))) (pz μ m (zadd Z a b l)) := by
    intro x
    clear x
    obtain ⟨y0, y1, y2, y3, y4, y5, y6, y7, y8, y9, y10, y11⟩ := zbeg_f (Z := Z) (o := 2666 + 120 * Z 1) (a := a) (b := b) (l := l) (by omega)
    have hvv := fun Q X => f_visit (Q := Q) (X := X) (Z := zbeg Z (2666 + 120 * Z 1) a b l) hS hb z0 (by omega) (n := a) a0 a1 (by rw [y6]; omega) (by rw [y6]; omega) (by rw [y9, y10]; omega)
    have fin : l_X9_addPacket_46 Q X [some (.ref m), some (.int (ji a)), some (.int (ji b)), some (.int (ji l)), some (.int (ji (Z 1))), some (.int (ji 0))] [] (pz μ m (zrow (2666 + 120 * Z 1) 0 47 (zu Z 1 (Z 1 + 1)))) 0 0 = (fun Y => s_X9_set (pz μ m Y) [.ref m, .int (ji (Z 1)), .int (ji 0), .int (ji a)] (qV (c_X9_addPacket_7 m (ji (Z 1)) (ji b) (ji l) (ji a) Q)) (fun _ _ => False)) (zblk Z (2666 + 120 * Z 1)) := by
      rw [l_X9_addPacket_46, xseal_eq]
      unfold zblk
      refine fold_loop (fun mf x i => ln_X9_addPacket_46 Q X mf [some (.ref m), some (.int (ji a)), some (.int (ji b)), some (.int (ji l)), some (.int (ji (Z 1))), some (.int (ji i))] [] (pz μ m x) 0 0) (fun Y => s_X9_set (pz μ m Y) [.ref m, .int (ji (Z 1)), .int (ji 0), .int (ji a)] (qV (c_X9_addPacket_7 m (ji (Z 1)) (ji b) (ji l) (ji a) Q)) (fun _ _ => False)) (fun i Y => zu Y (2666 + 120 * Z 1 + 47 + i) (-1)) (fun l x => True) 72 (fun mf x hx => ?_) (fun mf x i l0 l1 hx => ⟨?_, trivial⟩) 72 10000 0 _ (by omega) (by omega) (by omega) trivial
      · show ln_X9_addPacket_46 Q X (mf + 1) [some (.ref m), some (.int (ji a)), some (.int (ji b)), some (.int (ji l)), some (.int (ji (Z 1))), some (.int (ji 72))] [] (pz μ m x) 0 0 = s_X9_set (pz μ m x) [.ref m, .int (ji (Z 1)), .int (ji 0), .int (ji a)] (qV (c_X9_addPacket_7 m (ji (Z 1)) (ji b) (ji l) (ji a) Q)) (fun _ _ => False)
        rw [ul_X9_addPacket_46]
        simp (disch := first | assumption | omega) only [RS_0, RS_1, RS_2, RS_3, RS_4, RS_5, RS_6, RS_7, RS_8, RS_9, RS_10, RS_11, RS_12, RS_13, RS_14, RS_15, RS_16, RS_17, RS_18, RS_19, RS_20, RS_21, RS_22, RS_23, RS_24, RS_25, RS_26, RS_27, RS_28, RS_29, RS_30, RS_31, RS_32, RS_33, RS_34, RS_35, RS_36, ji_add, ji_sub, ji_mul, ji_neg, ji_lit0, ji_ofNat, ji_lt, ji_le, ji_eq, ji_nat, ji_in, ji_rem, ji_div, jl_of, xl_lt, xl_gt, xl_eq, qV_at, qI_at, qJ_at, qD_at, qA_at, qA_no, nb0, nb1, cat_r, cat_i, Option.some.injEq, exists_eq_left', true_and, and_true, if_true, if_false, ite_not, not_true_eq_false, not_false_eq_true, Sum.inr.injEq, exists_eq_right', true_or, or_true, and_self, Int.cast_ofNat_Int, reduceCtorEq, or_false, false_or, false_and, and_false, jb_zero, lt7_0, lt7_1, lt7_2, lt7_3, lt7_4, lt7_5, lt7_6, pz_tg, pz_ln, pz_gI, pz_gL, pz_gR, pz_aR, pz_aL, pz_aD, ↓reduceIte, ilt_t, ilt_f, ile_t, ile_f, ieq_t, ieq_f, jb_T, jb_F, jb_t, jb_f]
      · show ln_X9_addPacket_46 Q X (mf + 1) [some (.ref m), some (.int (ji a)), some (.int (ji b)), some (.int (ji l)), some (.int (ji (Z 1))), some (.int (ji i))] [] (pz μ m x) 0 0 = ln_X9_addPacket_46 Q X mf [some (.ref m), some (.int (ji a)), some (.int (ji b)), some (.int (ji l)), some (.int (ji (Z 1))), some (.int (ji (i + 1)))] [] (pz μ m (zu x (2666 + 120 * Z 1 + 47 + i) (-1))) 0 0
        have e0 : 2666 + 120 * Z 1 + (47 + i) = 2666 + 120 * Z 1 + 47 + i := by omega
        rw [ul_X9_addPacket_46]
        simp (disch := first | assumption | omega) only [RS_0, RS_1, RS_2, RS_3, RS_4, RS_5, RS_6, RS_7, RS_8, RS_9, RS_10, RS_11, RS_12, RS_13, RS_14, RS_15, RS_16, RS_17, RS_18, RS_19, RS_20, RS_21, RS_22, RS_23, RS_24, RS_25, RS_26, RS_27, RS_28, RS_29, RS_30, RS_31, RS_32, RS_33, RS_34, RS_35, RS_36, ji_add, ji_sub, ji_mul, ji_neg, ji_lit0, ji_ofNat, ji_lt, ji_le, ji_eq, ji_nat, ji_in, ji_rem, ji_div, jl_of, xl_lt, xl_gt, xl_eq, qV_at, qI_at, qJ_at, qD_at, qA_at, qA_no, nb0, nb1, cat_r, cat_i, Option.some.injEq, exists_eq_left', true_and, and_true, if_true, if_false, ite_not, not_true_eq_false, not_false_eq_true, Sum.inr.injEq, exists_eq_right', true_or, or_true, and_self, Int.cast_ofNat_Int, reduceCtorEq, or_false, false_or, false_and, and_false, jb_zero, lt7_0, lt7_1, lt7_2, lt7_3, lt7_4, lt7_5, lt7_6, c_X9_addPacket_1, c_X9_addPacket_2, c_X9_addPacket_3, c_X9_addPacket_4, c_X9_addPacket_5, c_X9_addPacket_6, c_X9_addPacket_7, c_X9_addPacket_8, f_set hS, e0, pz_tg, pz_ln, pz_gI, pz_gL, pz_gR, pz_aR, pz_aL, pz_aD, ↓reduceIte, ilt_t, ilt_f, ile_t, ile_f, ieq_t, ieq_f, jb_T, jb_F, jb_t, jb_f]
    rw [fin]
    have w7 : ∀ u : Int → Int, aI (pz μ m u) (m + 1) (0 : Int).toNat = ji (u 0) := fun u => pz_ati (by omega) (by omega)
    have w8 : zu (zu (zu (zblk Z (2666 + 120 * Z 1)) (2666 + 120 * Z 1 + 0) a) (2666 + 120 * Z 1 + 1) b) (2666 + 120 * Z 1 + 2) l 0 = zblk Z (2666 + 120 * Z 1) 0 := by simp (disch := first | assumption | omega) only [gL_sI, gL_sR, gL_wI, gL_wL, gL_wD, gL_wR, gL_cI, gL_uF, gL_sL_at, gL_sL_k, gL_sL_a, gR_sI, gR_sL, gR_wI, gR_wL, gR_wD, gR_wR, gR_cI, gR_uF, gR_sR_at, gR_sR_k, gR_sR_a, aI_sI, aI_sL, aI_sR, aI_wL, aI_wD, aI_wR, aI_uF, aI_wI_at, aI_wI_a, aI_wI_i, aI_cI_at, aI_cI_a, aI_cI_i, aL_sI, aL_sL, aL_sR, aL_wI, aL_wD, aL_wR, aL_cI, aL_uF, aL_wL_at, aL_wL_a, aL_wL_i, aD_sI, aD_sL, aD_sR, aD_wI, aD_wL, aD_wR, aD_cI, aD_uF, aD_wD_at, aD_wD_a, aD_wD_i, aR_sI, aR_sL, aR_sR, aR_wI, aR_wL, aR_wD, aR_cI, aR_uF, aR_wR_at, aR_wR_a, aR_wR_i, tg_sI, tg_sL, tg_sR, tg_wI, tg_wL, tg_wD, tg_wR, tg_cI, tg_uF, ln_sI, ln_sL, ln_sR, ln_wI, ln_wL, ln_wD, ln_wR, ln_cI, ln_uF, tp_sI, tp_sL, tp_sR, tp_wI, tp_wL, tp_wD, tp_wR, tp_cI, tp_uF, fr_sI, fr_sL, fr_sR, fr_wI, fr_wL, fr_wD, fr_wR, fr_cI, gI_sL, gI_sR, gI_wI, gI_wL, gI_wD, gI_wR, gI_cI, gI_uF, gI_sI_at, gI_sI_k, gI_sI_a, zu_at, zu_ne]
    have w9 : zu (zu (zu (zu (zu (zblk Z (2666 + 120 * Z 1)) (2666 + 120 * Z 1 + 0) a) (2666 + 120 * Z 1 + 1) b) (2666 + 120 * Z 1 + 2) l) (2666 + 120 * Z 1 + 7) (zblk Z (2666 + 120 * Z 1) 0)) (2666 + 120 * Z 1 + 8) (-1) = zbeg Z (2666 + 120 * Z 1) a b l := by unfold zbeg; rw [Int.add_zero]
    simp (disch := first | assumption | omega) only [RS_0, RS_1, RS_2, RS_3, RS_4, RS_5, RS_6, RS_7, RS_8, RS_9, RS_10, RS_11, RS_12, RS_13, RS_14, RS_15, RS_16, RS_17, RS_18, RS_19, RS_20, RS_21, RS_22, RS_23, RS_24, RS_25, RS_26, RS_27, RS_28, RS_29, RS_30, RS_31, RS_32, RS_33, RS_34, RS_35, RS_36, ji_add, ji_sub, ji_mul, ji_neg, ji_lit0, ji_ofNat, ji_lt, ji_le, ji_eq, ji_nat, ji_in, ji_rem, ji_div, jl_of, xl_lt, xl_gt, xl_eq, qV_at, qI_at, qJ_at, qD_at, qA_at, qA_no, nb0, nb1, cat_r, cat_i, Option.some.injEq, exists_eq_left', true_and, and_true, if_true, if_false, ite_not, not_true_eq_false, not_false_eq_true, Sum.inr.injEq, exists_eq_right', true_or, or_true, and_self, Int.cast_ofNat_Int, reduceCtorEq, or_false, false_or, false_and, and_false, jb_zero, lt7_0, lt7_1, lt7_2, lt7_3, lt7_4, lt7_5, lt7_6, c_X9_addPacket_1, c_X9_addPacket_2, c_X9_addPacket_3, c_X9_addPacket_4, c_X9_addPacket_5, c_X9_addPacket_6, c_X9_addPacket_7, c_X9_addPacket_8, f_set hS, w7, w8, w9, hvv, pz_tg, pz_ln, pz_gI, pz_gL, pz_gR, pz_aR, pz_aL, pz_aD, ↓reduceIte, ilt_t, ilt_f, ile_t, ile_f, ieq_t, ieq_f, jb_T, jb_F, jb_t, jb_f]
    rfl
  rw [← key Z]
  simp (disch := first | assumption | omega) only [RS_0, RS_1, RS_2, RS_3, RS_4, RS_5, RS_6, RS_7, RS_8, RS_9, RS_10, RS_11, RS_12, RS_13, RS_14, RS_15, RS_16, RS_17, RS_18, RS_19, RS_20, RS_21, RS_22, RS_23, RS_24, RS_25, RS_26, RS_27, RS_28, RS_29, RS_30, RS_31, RS_32, RS_33, RS_34, RS_35, RS_36, ji_add, ji_sub, ji_mul, ji_neg, ji_lit0, ji_ofNat, ji_lt, ji_le, ji_eq, ji_nat, ji_in, ji_rem, ji_div, jl_of, xl_lt, xl_gt, xl_eq, qV_at, qI_at, qJ_at, qD_at, qA_at, qA_no, nb0, nb1, cat_r, cat_i, Option.some.injEq, exists_eq_left', true_and, and_true, if_true, if_false, ite_not, not_true_eq_false, not_false_eq_true, Sum.inr.injEq, exists_eq_right', true_or, or_true, and_self, Int.cast_ofNat_Int, reduceCtorEq, or_false, false_or, false_and, and_false, jb_zero, lt7_0, lt7_1, lt7_2, lt7_3, lt7_4, lt7_5, lt7_6, u_X9_addPacket, c_X9_addPacket_1, c_X9_addPacket_2, c_X9_addPacket_3, c_X9_addPacket_4, c_X9_addPacket_5, c_X9_addPacket_6, c_X9_addPacket_7, c_X9_addPacket_8, q1, pz_tg, pz_ln, pz_gI, pz_gL, pz_gR, pz_aR, pz_aL, pz_aD, ↓reduceIte, ilt_t, ilt_f, ile_t, ile_f, ieq_t, ieq_f, jb_T, jb_F, jb_t, jb_f]
  rw [pz_w (by omega) (by omega), l_X9_addPacket_21, xseal_eq]
  refine fold_loop (fun mf x i => ln_X9_addPacket_21 Q X mf [some (.ref m), some (.int (ji a)), some (.int (ji b)), some (.int (ji l)), some (.int (ji (Z 1))), some (.int (ji i))] [] (pz μ m x) 0 0) (fun Y => l_X9_addPacket_46 Q X [some (.ref m), some (.int (ji a)), some (.int (ji b)), some (.int (ji l)), some (.int (ji (Z 1))), some (.int (ji 0))] [] (pz μ m Y) 0 0) (fun i Y => zu Y (2666 + 120 * Z 1 + i) 0) (fun l x => True) 47 (fun mf x hx => ?_) (fun mf x i l0 l1 hx => ⟨?_, trivial⟩) 47 10000 0 _ (by omega) (by omega) (by omega) trivial
  · show ln_X9_addPacket_21 Q X (mf + 1) [some (.ref m), some (.int (ji a)), some (.int (ji b)), some (.int (ji l)), some (.int (ji (Z 1))), some (.int (ji 47))] [] (pz μ m x) 0 0 = l_X9_addPacket_46 Q X [some (.ref m), some (.int (ji a)), some (.int (ji b)), some (.int (ji l)), some (.int (ji (Z 1))), some (.int (ji 0))] [] (pz μ m x) 0 0
    rw [ul_X9_addPacket_21]
    simp (disch := first | assumption | omega) only [RS_0, RS_1, RS_2, RS_3, RS_4, RS_5, RS_6, RS_7, RS_8, RS_9, RS_10, RS_11, RS_12, RS_13, RS_14, RS_15, RS_16, RS_17, RS_18, RS_19, RS_20, RS_21, RS_22, RS_23, RS_24, RS_25, RS_26, RS_27, RS_28, RS_29, RS_30, RS_31, RS_32, RS_33, RS_34, RS_35, RS_36, ji_add, ji_sub, ji_mul, ji_neg, ji_lit0, ji_ofNat, ji_lt, ji_le, ji_eq, ji_nat, ji_in, ji_rem, ji_div, jl_of, xl_lt, xl_gt, xl_eq, qV_at, qI_at, qJ_at, qD_at, qA_at, qA_no, nb0, nb1, cat_r, cat_i, Option.some.injEq, exists_eq_left', true_and, and_true, if_true, if_false, ite_not, not_true_eq_false, not_false_eq_true, Sum.inr.injEq, exists_eq_right', true_or, or_true, and_self, Int.cast_ofNat_Int, reduceCtorEq, or_false, false_or, false_and, and_false, jb_zero, lt7_0, lt7_1, lt7_2, lt7_3, lt7_4, lt7_5, lt7_6, ↓reduceIte, ilt_t, ilt_f, ile_t, ile_f, ieq_t, ieq_f, jb_T, jb_F, jb_t, jb_f]
  · show ln_X9_addPacket_21 Q X (mf + 1) [some (.ref m), some (.int (ji a)), some (.int (ji b)), some (.int (ji l)), some (.int (ji (Z 1))), some (.int (ji i))] [] (pz μ m x) 0 0 = ln_X9_addPacket_21 Q X mf [some (.ref m), some (.int (ji a)), some (.int (ji b)), some (.int (ji l)), some (.int (ji (Z 1))), some (.int (ji (i + 1)))] [] (pz μ m (zu x (2666 + 120 * Z 1 + i) 0)) 0 0
    rw [ul_X9_addPacket_21]
    simp (disch := first | assumption | omega) only [RS_0, RS_1, RS_2, RS_3, RS_4, RS_5, RS_6, RS_7, RS_8, RS_9, RS_10, RS_11, RS_12, RS_13, RS_14, RS_15, RS_16, RS_17, RS_18, RS_19, RS_20, RS_21, RS_22, RS_23, RS_24, RS_25, RS_26, RS_27, RS_28, RS_29, RS_30, RS_31, RS_32, RS_33, RS_34, RS_35, RS_36, ji_add, ji_sub, ji_mul, ji_neg, ji_lit0, ji_ofNat, ji_lt, ji_le, ji_eq, ji_nat, ji_in, ji_rem, ji_div, jl_of, xl_lt, xl_gt, xl_eq, qV_at, qI_at, qJ_at, qD_at, qA_at, qA_no, nb0, nb1, cat_r, cat_i, Option.some.injEq, exists_eq_left', true_and, and_true, if_true, if_false, ite_not, not_true_eq_false, not_false_eq_true, Sum.inr.injEq, exists_eq_right', true_or, or_true, and_self, Int.cast_ofNat_Int, reduceCtorEq, or_false, false_or, false_and, and_false, jb_zero, lt7_0, lt7_1, lt7_2, lt7_3, lt7_4, lt7_5, lt7_6, c_X9_addPacket_1, c_X9_addPacket_2, c_X9_addPacket_3, c_X9_addPacket_4, c_X9_addPacket_5, c_X9_addPacket_6, c_X9_addPacket_7, c_X9_addPacket_8, f_set hS, pz_tg, pz_ln, pz_gI, pz_gL, pz_gR, pz_aR, pz_aL, pz_aD, ↓reduceIte, ilt_t, ilt_f, ile_t, ile_f, ieq_t, ieq_f, jb_T, jb_F, jb_t, jb_f]
theorem f_deadLinks (hS : RS μ m) (hb : RB μ m w h s) (hB : BD w h N s Z) : s_X9_deadLinks (pz μ m Z) [.ref m] Q X = Q (some (.int (ji (cntz (fun l => decide (Z (2 + l) ≠ 0)) 0 72 0)))) (pz μ m Z) := by
  rw [u_X9_deadLinks, l_X9_deadLinks_4, xseal_eq]
  refine fold_loop (fun mf x l => ln_X9_deadLinks_4 Q X mf [some (.ref m), some (.int (ji x)), some (.int (ji l))] [] (pz μ m Z) 0 0) (fun x => Q (some (.int (ji x))) (pz μ m Z)) (fun l x => if decide (Z (2 + l) ≠ 0) = true then x + 1 else x) (fun l x => 0 ≤ x ∧ x ≤ l) (72) (fun mf x hx => ?_) (fun mf x l l0 l1 hx => ⟨?_, ?_⟩) _ 10000 (0) (0) (by omega) (by omega) (by omega) (by omega)
  · show ln_X9_deadLinks_4 Q X (mf + 1) [some (.ref m), some (.int (ji x)), some (.int (ji (72)))] [] (pz μ m Z) 0 0 = Q (some (.int (ji x))) (pz μ m Z)
    rw [ul_X9_deadLinks_4]
    simp (disch := first | assumption | omega) only [RS_0, RS_1, RS_2, RS_3, RS_4, RS_5, RS_6, RS_7, RS_8, RS_9, RS_10, RS_11, RS_12, RS_13, RS_14, RS_15, RS_16, RS_17, RS_18, RS_19, RS_20, RS_21, RS_22, RS_23, RS_24, RS_25, RS_26, RS_27, RS_28, RS_29, RS_30, RS_31, RS_32, RS_33, RS_34, RS_35, RS_36, ji_add, ji_sub, ji_mul, ji_neg, ji_lit0, ji_ofNat, ji_lt, ji_le, ji_eq, ji_nat, ji_in, ji_rem, ji_div, jl_of, xl_lt, xl_gt, xl_eq, qV_at, qI_at, qJ_at, qD_at, qA_at, qA_no, nb0, nb1, cat_r, cat_i, Option.some.injEq, exists_eq_left', true_and, and_true, if_true, if_false, ite_not, not_true_eq_false, not_false_eq_true, Sum.inr.injEq, exists_eq_right', true_or, or_true, and_self, Int.cast_ofNat_Int, reduceCtorEq, or_false, false_or, false_and, and_false, jb_zero, lt7_0, lt7_1, lt7_2, lt7_3, lt7_4, lt7_5, lt7_6, c_X9_deadLinks_1, ↓reduceIte, ilt_t, ilt_f, ile_t, ile_f, ieq_t, ieq_f, jb_T, jb_F, jb_t, jb_f]
  · show ln_X9_deadLinks_4 Q X (mf + 1) [some (.ref m), some (.int (ji x)), some (.int (ji l))] [] (pz μ m Z) 0 0 = ln_X9_deadLinks_4 Q X mf [some (.ref m), some (.int (ji (if decide (Z (2 + l) ≠ 0) = true then x + 1 else x))), some (.int (ji (l + 1)))] [] (pz μ m Z) 0 0
    rw [ul_X9_deadLinks_4]
    have hd := hB.2.2.1 l l0 l1
    by_cases hw : Z (2 + l) = 0 <;> simp (disch := first | assumption | omega) only [RS_0, RS_1, RS_2, RS_3, RS_4, RS_5, RS_6, RS_7, RS_8, RS_9, RS_10, RS_11, RS_12, RS_13, RS_14, RS_15, RS_16, RS_17, RS_18, RS_19, RS_20, RS_21, RS_22, RS_23, RS_24, RS_25, RS_26, RS_27, RS_28, RS_29, RS_30, RS_31, RS_32, RS_33, RS_34, RS_35, RS_36, ji_add, ji_sub, ji_mul, ji_neg, ji_lit0, ji_ofNat, ji_lt, ji_le, ji_eq, ji_nat, ji_in, ji_rem, ji_div, jl_of, xl_lt, xl_gt, xl_eq, qV_at, qI_at, qJ_at, qD_at, qA_at, qA_no, nb0, nb1, cat_r, cat_i, Option.some.injEq, exists_eq_left', true_and, and_true, if_true, if_false, ite_not, not_true_eq_false, not_false_eq_true, Sum.inr.injEq, exists_eq_right', true_or, or_true, and_self, Int.cast_ofNat_Int, reduceCtorEq, or_false, false_or, false_and, and_false, jb_zero, lt7_0, lt7_1, lt7_2, lt7_3, lt7_4, lt7_5, lt7_6, c_X9_deadLinks_1, f_isDeadNow (RS_pz hS _) (RW_pz hb _), hw, ne_eq, decide_true, decide_false, Bool.false_eq_true, pz_tg, pz_ln, pz_gI, pz_gL, pz_gR, pz_aR, pz_aL, pz_aD, ↓reduceIte, ilt_t, ilt_f, ile_t, ile_f, ieq_t, ieq_f, jb_T, jb_F, jb_t, jb_f, Int.add_zero]
  · show 0 ≤ (if decide (Z (2 + l) ≠ 0) = true then x + 1 else x) ∧ (if decide (Z (2 + l) ≠ 0) = true then x + 1 else x) ≤ (l + 1)
    split <;> omega
theorem f_lessonsOf (hS : RS μ m) (hb : RB μ m w h s) (hB : BD w h N s Z) {n : Int} (n0 : 0 ≤ n) (n1 : n < 36) : s_X9_lessonsOf (pz μ m Z) [.ref m, .int (ji n)] Q X = Q (some (.int (ji (cntz (lsn s Z 0 n) 0 72 0)))) (pz μ m Z) := by
  rw [u_X9_lessonsOf, l_X9_lessonsOf_4, xseal_eq]
  refine fold_loop (fun mf x l => ln_X9_lessonsOf_4 Q X mf [some (.ref m), some (.int (ji n)), some (.int (ji x)), some (.int (ji l))] [] (pz μ m Z) 0 0) (fun x => Q (some (.int (ji x))) (pz μ m Z)) (fun l x => if lsn s Z 0 n l = true then x + 1 else x) (fun l x => 0 ≤ x ∧ x ≤ l) (72) (fun mf x hx => ?_) (fun mf x l l0 l1 hx => ⟨?_, ?_⟩) _ 10000 (0) (0) (by omega) (by omega) (by omega) (by omega)
  · show ln_X9_lessonsOf_4 Q X (mf + 1) [some (.ref m), some (.int (ji n)), some (.int (ji x)), some (.int (ji (72)))] [] (pz μ m Z) 0 0 = Q (some (.int (ji x))) (pz μ m Z)
    rw [ul_X9_lessonsOf_4]
    simp (disch := first | assumption | omega) only [RS_0, RS_1, RS_2, RS_3, RS_4, RS_5, RS_6, RS_7, RS_8, RS_9, RS_10, RS_11, RS_12, RS_13, RS_14, RS_15, RS_16, RS_17, RS_18, RS_19, RS_20, RS_21, RS_22, RS_23, RS_24, RS_25, RS_26, RS_27, RS_28, RS_29, RS_30, RS_31, RS_32, RS_33, RS_34, RS_35, RS_36, ji_add, ji_sub, ji_mul, ji_neg, ji_lit0, ji_ofNat, ji_lt, ji_le, ji_eq, ji_nat, ji_in, ji_rem, ji_div, jl_of, xl_lt, xl_gt, xl_eq, qV_at, qI_at, qJ_at, qD_at, qA_at, qA_no, nb0, nb1, cat_r, cat_i, Option.some.injEq, exists_eq_left', true_and, and_true, if_true, if_false, ite_not, not_true_eq_false, not_false_eq_true, Sum.inr.injEq, exists_eq_right', true_or, or_true, and_self, Int.cast_ofNat_Int, reduceCtorEq, or_false, false_or, false_and, and_false, jb_zero, lt7_0, lt7_1, lt7_2, lt7_3, lt7_4, lt7_5, lt7_6, c_X9_lessonsOf_1, ↓reduceIte, ilt_t, ilt_f, ile_t, ile_f, ieq_t, ieq_f, jb_T, jb_F, jb_t, jb_f]
  · show ln_X9_lessonsOf_4 Q X (mf + 1) [some (.ref m), some (.int (ji n)), some (.int (ji x)), some (.int (ji l))] [] (pz μ m Z) 0 0 = ln_X9_lessonsOf_4 Q X mf [some (.ref m), some (.int (ji n)), some (.int (ji (if lsn s Z 0 n l = true then x + 1 else x))), some (.int (ji (l + 1)))] [] (pz μ m Z) 0 0
    rw [ul_X9_lessonsOf_4]
    unfold lsn
    by_cases hw : hol s Z n l = true <;> simp (disch := first | assumption | omega) only [RS_0, RS_1, RS_2, RS_3, RS_4, RS_5, RS_6, RS_7, RS_8, RS_9, RS_10, RS_11, RS_12, RS_13, RS_14, RS_15, RS_16, RS_17, RS_18, RS_19, RS_20, RS_21, RS_22, RS_23, RS_24, RS_25, RS_26, RS_27, RS_28, RS_29, RS_30, RS_31, RS_32, RS_33, RS_34, RS_35, RS_36, ji_add, ji_sub, ji_mul, ji_neg, ji_lit0, ji_ofNat, ji_lt, ji_le, ji_eq, ji_nat, ji_in, ji_rem, ji_div, jl_of, xl_lt, xl_gt, xl_eq, qV_at, qI_at, qJ_at, qD_at, qA_at, qA_no, nb0, nb1, cat_r, cat_i, Option.some.injEq, exists_eq_left', true_and, and_true, if_true, if_false, ite_not, not_true_eq_false, not_false_eq_true, Sum.inr.injEq, exists_eq_right', true_or, or_true, and_self, Int.cast_ofNat_Int, reduceCtorEq, or_false, false_or, false_and, and_false, jb_zero, lt7_0, lt7_1, lt7_2, lt7_3, lt7_4, lt7_5, lt7_6, c_X9_lessonsOf_1, f_holds (RS_pz hS _) (RW_pz hb _) hB, hw, pz_tg, pz_ln, pz_gI, pz_gL, pz_gR, pz_aR, pz_aL, pz_aD, ↓reduceIte, ilt_t, ilt_f, ile_t, ile_f, ieq_t, ieq_f, jb_T, jb_F, jb_t, jb_f, Int.add_zero] <;> simp
  · show 0 ≤ (if lsn s Z 0 n l = true then x + 1 else x) ∧ (if lsn s Z 0 n l = true then x + 1 else x) ≤ (l + 1)
    split <;> omega
end
