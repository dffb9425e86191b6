/-! ===== the reference: what is read of a token ===== -/
theorem skz_in {f : Int → Bool} {l : Int} {T : Int → Int} : ∀ (d : Nat) (i : Int), (l - i).toNat = d → ∀ j, i ≤ j → j < skz f l T i → f (T j) = true := by
  intro d
  induction d with
  | zero => intro i hd j j0 j1; rw [skz_end (by omega)] at j1; omega
  | succ d ih =>
    intro i hd j j0 j1
    by_cases hf : f (T i) = true
    · by_cases q : j = i
      · rw [q]; exact hf
      · rw [skz_yes (by omega) hf] at j1
        exact ih (i + 1) (by omega) j (by omega) j1
    · rw [skz_no hf] at j1; omega
/-- a word's letters -/
theorem tK_w {l s : Int} {T : Int → Int} (hs : s ≤ l) (hk : tK l T s = 1) : (1 ≤ tE l T s - s ∧ tE l T s - s ≤ 8) ∧ ∀ i : Nat, i < (tE l T s - s).toNat → 97 ≤ T (s + i) ∧ T (s + i) ≤ 122 := by
  unfold tK at hk
  by_cases h1 : l ≤ s
  · rw [if_pos h1] at hk; omega
  · rw [if_neg h1] at hk
    by_cases h2 : tLt (T s) = true
    · rw [if_pos h2] at hk
      have hE : tE l T s = skz tLt l T s := by unfold tE; rw [if_neg h1, if_pos h2]
      have eb := tE_b (l := l) (T := T) hs
      refine ⟨by split at hk <;> omega, fun i hi => ?_⟩
      have := skz_in (f := tLt) (l := l) (T := T) _ s rfl (s + i) (by omega) (by rw [← hE]; omega)
      unfold tLt at this
      rw [decide_eq_true_eq] at this
      exact this
    · rw [if_neg h2] at hk
      by_cases h3 : tDg (T s) = true
      · rw [if_pos h3] at hk; split at hk <;> omega
      · rw [if_neg h3] at hk; split at hk <;> omega
def stc (k : Nat) (i : Int) : Int := (STX k).getD i.toNat 0
theorem STX_w : ∀ k < 13, ∀ i < (STX k).length, 97 ≤ (STX k).getD i 0 ∧ (STX k).getD i 0 ≤ 122 := by decide
theorem tW_pk {l s : Int} {T : Int → Int} {k : Nat} (hs : s ≤ l) (hk : k < 13) (h1 : tK l T s = 1) : (pkv T s (tE l T s - s).toNat = pkv (stc k) 0 (STX k).length) = tW l T s (STX k) := by
  have hw := tK_w hs h1
  have hc : ∀ i : Nat, i < (STX k).length → 97 ≤ stc k (0 + i) ∧ stc k (0 + i) ≤ 122 := fun i hi => by
    unfold stc
    rw [show (0 + (i : Int)).toNat = i by omega]
    exact STX_w k hk i hi
  apply propext
  constructor
  · intro h
    obtain ⟨e1, e2⟩ := pkv_inj _ _ hw.2 hc h
    refine ⟨h1, by omega, fun i hi => ?_⟩
    rw [e2 i (by omega)]
    unfold stc
    rw [show (0 + (i : Int)).toNat = i by omega]
  · rintro ⟨-, e1, e2⟩
    have : (tE l T s - s).toNat = (STX k).length := by omega
    rw [this]
    refine pkv_eq _ (fun i hi => ?_)
    rw [e2 i hi]
    unfold stc
    rw [show (0 + (i : Int)).toNat = i by omega]
/-- the current token is the one at p -/
def RC (ν : XM) (m : Nat) (l : Int) (T : Int → Int) (p e q : Int) : Prop := (RX ν m l T (tE l T (tB l T p)) ∧ 0 ≤ p ∧ p ≤ l) ∧ gI ν 313 m = ji (tK l T (tB l T p)) ∧ gI ν 314 m = ji (tB l T p) ∧ (tK l T (tB l T p) = 1 → gL ν 316 m = jl (pkv T (tB l T p) (tE l T (tB l T p) - tB l T p).toNat)) ∧ (tK l T (tB l T p) = 2 → gL ν 316 m = jl (tV l T (tB l T p))) ∧ gI ν 311 m = ji e ∧ gI ν 312 m = ji q
def KY (a : Nat) (ν μ : XM) : Prop := CH (fun b => b = a) ν μ ∧ ∀ k, (k < 310 ∨ 315 < k) → gI ν k a = gI μ k a
theorem KY.refl {a : Nat} {μ : XM} : KY a μ μ := ⟨CH.refl _ _, fun _ _ => rfl⟩
theorem KY.trans {a : Nat} {ξ ν μ : XM} (h : KY a ξ ν) (g : KY a ν μ) : KY a ξ μ := ⟨CH.trans h.1 g.1, fun k hk => (h.2 k hk).trans (g.2 k hk)⟩
theorem ky_s {a : Nat} {ν μ : XM} (h : KY a ν μ) (k : Nat) (v : Int32) (hk : 310 ≤ k ∧ k ≤ 315) : KY a (sI ν k a v) μ := ⟨h.1.sI _ _ _ rfl, fun j hj => (gI_sI_k _ _ _ _ _ _ (by omega)).trans (h.2 j hj)⟩
theorem KX.y {a : Nat} {ν μ : XM} (h : KX a ν μ) : KY a ν μ := ⟨h.1, fun k hk => h.2 k (by omega)⟩
/-- the reference answers so; b: the value is in its field -/
def RA (μ : XM) (m : Nat) (l : Int) (T : Int → Int) (e q : Int) (b : Bool) (Q : XQ) : PR → Prop
  | .inl (c, s) => ∀ ν, KY m ν μ → gI ν 311 m = ji c → gI ν 312 m = ji s → Q (some (.int (ji 0))) ν
  | .inr (v, p) => ∀ ν, KY m ν μ → RC ν m l T p e q → (b = true → gI ν 315 m = ji v) → Q (some (.int (ji 1))) ν
noncomputable def pWv (l : Int) (T : Int → Int) (p : Int) : Int := match pW l T p with
  | .inl _ => -1
  | .inr (v, _) => v
section
variable {μ : XM} {m : Nat} {l p s e q : Int} {T : Int → Int} {Q : XQ} {X : XX}
theorem AD.rc {ν : XM} (h : AD ν μ m l T p) (p0 : 0 ≤ p) (p1 : p ≤ l) (h1 : gI μ 311 m = ji e) (h2 : gI μ 312 m = ji q) : RC ν m l T p e q := ⟨⟨h.2.1, p0, p1⟩, h.2.2.1, h.2.2.2.1, h.2.2.2.2.1, h.2.2.2.2.2, (h.1.2 311 (by omega)).trans h1, (h.1.2 312 (by omega)).trans h2⟩
theorem f_fail {c : Int} (hS : RS μ m) (hs : gI μ 314 m = ji s) (hK : ∀ ν, KY m ν μ → gI ν 311 m = ji c → gI ν 312 m = ji s → Q (some (.int (ji 0))) ν) : s_X9_fail μ [.ref m, .int (ji c)] Q X := by
  have hS2 : RS (sI μ 311 m (ji c)) m := hS.mono (CH.sI (S := fun _ => True) (CH.refl _ μ) _ _ _ trivial).1
  have g : gI (sI μ 311 m (ji c)) 314 m = ji s := (gI_sI_k _ _ _ _ _ _ (by omega)).trans hs
  have hq := hK (sI (sI μ 311 m (ji c)) 312 m (ji s)) (ky_s (ky_s KY.refl _ _ (by omega)) _ _ (by omega)) ((gI_sI_k _ _ _ _ _ _ (by omega)).trans (gI_sI_at _ _ _ _)) (gI_sI_at _ _ _ _)
  simp (disch := first | assumption | omega) only [RS_0, RS_1, RS_2, RS_3, RS_4, RS_5, RS_6, RS_7, RS_8, RS_9, RS_10, RS_11, RS_12, RS_13, RS_14, RS_15, RS_16, RS_17, RS_18, RS_19, RS_20, RS_21, RS_22, RS_23, RS_24, RS_25, RS_26, RS_27, RS_28, RS_29, RS_30, RS_31, RS_32, RS_33, RS_34, RS_35, RS_36, ji_add, ji_sub, ji_mul, ji_neg, ji_lit0, ji_ofNat, ji_lt, ji_le, ji_eq, ji_nat, ji_in, ji_rem, ji_div, jl_of, xl_lt, xl_gt, xl_eq, qV_at, qI_at, qJ_at, qD_at, qA_at, qA_no, nb0, nb1, cat_r, cat_i, Option.some.injEq, exists_eq_left', true_and, and_true, if_true, if_false, ite_not, not_true_eq_false, not_false_eq_true, Sum.inr.injEq, exists_eq_right', true_or, or_true, and_self, Int.cast_ofNat_Int, reduceCtorEq, or_false, false_or, false_and, and_false, jb_zero, lt7_0, lt7_1, lt7_2, lt7_3, lt7_4, lt7_5, lt7_6, u_X9_fail, g, nb0, ↓reduceIte, ilt_t, ilt_f, ile_t, ile_f, ieq_t, ieq_f, jb_T, jb_F, jb_t, jb_f]
  exact hq
theorem f_next (hS : RS μ m) (hC : RC μ m l T p e q) (hK : ∀ ν, KX m ν μ → RC ν m l T (tE l T (tB l T p)) e q → Q none ν) : s_X9_advance μ [.ref m] Q X := by
  obtain ⟨⟨c1, p0, p1⟩, c2, c3, c4, c5, c6, c7⟩ := hC
  have sb := tB_b (l := l) (T := T) p1
  have eb := tE_b (l := l) (T := T) sb.2
  exact f_advance hS c1 (fun ν h => hK ν h.1 (h.rc (by omega) (by omega) c6 c7))
theorem f_readNumber {lo hi : Int} (hS : RS μ m) (hC : RC μ m l T p e q) (lo0 : -1 ≤ lo) (lo1 : lo < 1000000) (hi0 : -1 ≤ hi) (hi1 : hi < 1000000) (hK : RA μ m l T e q true Q (pN l T lo hi p)) : s_X9_readNumber μ [.ref m, .int (ji lo), .int (ji hi)] Q X := by
  have hC' := hC
  obtain ⟨⟨c1, p0, p1⟩, c2, c3, c4, c5, c6, c7⟩ := hC'
  have sb := tB_b (l := l) (T := T) p1
  have kb : tK l T (tB l T p) = 0 ∨ tK l T (tB l T p) = 1 ∨ tK l T (tB l T p) = 2 ∨ tK l T (tB l T p) = 3 ∨ tK l T (tB l T p) = 4 := by
    unfold tK
    (repeat' split) <;> omega
  unfold pN at hK
  by_cases h2 : tK l T (tB l T p) = 2
  · rw [if_pos h2] at hK
    have vb := tV_b sb.2 h2
    have g6 := c5 h2
    have c2' := c2
    rw [h2] at c2'
    by_cases h3 : lo ≤ tV l T (tB l T p) ∧ tV l T (tB l T p) ≤ hi
    · rw [if_pos h3] at hK
      have hv : Int64.toInt32 (jl (tV l T (tB l T p))) = ji (tV l T (tB l T p)) := by
        have := jl_i (tV l T (tB l T p)).toNat
        rw [Int.toNat_of_nonneg vb.1] at this
        exact this
      have hS2 : RS (sI μ 315 m (ji (tV l T (tB l T p)))) m := hS.mono (CH.sI (S := fun _ => True) (CH.refl _ μ) _ _ _ trivial).1
      have hC2 : RC (sI μ 315 m (ji (tV l T (tB l T p)))) m l T p e q := ⟨⟨⟨c1.1, (gI_sI_k _ _ _ _ _ _ (by omega)).trans c1.2.1, (gI_sI_k _ _ _ _ _ _ (by omega)).trans c1.2.2.1, c1.2.2.2⟩, p0, p1⟩, (gI_sI_k _ _ _ _ _ _ (by omega)).trans c2, (gI_sI_k _ _ _ _ _ _ (by omega)).trans c3, fun z => (gL_sI _ _ _ _ _ _).trans (c4 z), fun z => (gL_sI _ _ _ _ _ _).trans (c5 z), (gI_sI_k _ _ _ _ _ _ (by omega)).trans c6, (gI_sI_k _ _ _ _ _ _ (by omega)).trans c7⟩
      simp (disch := first | assumption | omega) only [RS_0, RS_1, RS_2, RS_3, RS_4, RS_5, RS_6, RS_7, RS_8, RS_9, RS_10, RS_11, RS_12, RS_13, RS_14, RS_15, RS_16, RS_17, RS_18, RS_19, RS_20, RS_21, RS_22, RS_23, RS_24, RS_25, RS_26, RS_27, RS_28, RS_29, RS_30, RS_31, RS_32, RS_33, RS_34, RS_35, RS_36, ji_add, ji_sub, ji_mul, ji_neg, ji_lit0, ji_ofNat, ji_lt, ji_le, ji_eq, ji_nat, ji_in, ji_rem, ji_div, jl_of, xl_lt, xl_gt, xl_eq, qV_at, qI_at, qJ_at, qD_at, qA_at, qA_no, nb0, nb1, cat_r, cat_i, Option.some.injEq, exists_eq_left', true_and, and_true, if_true, if_false, ite_not, not_true_eq_false, not_false_eq_true, Sum.inr.injEq, exists_eq_right', true_or, or_true, and_self, Int.cast_ofNat_Int, reduceCtorEq, or_false, false_or, false_and, and_false, jb_zero, lt7_0, lt7_1, lt7_2, lt7_3, lt7_4, lt7_5, lt7_6, c_X9_readNumber_1, c_X9_readNumber_2, c_X9_readNumber_3, c_X9_readNumber_4, u_X9_readNumber, c_X9_readNumber_1, c_X9_readNumber_2, c_X9_readNumber_3, c_X9_readNumber_4, c2', g6, jl_of, f_inRange, h3, hv, ↓reduceIte, ilt_t, ilt_f, ile_t, ile_f, ieq_t, ieq_f, jb_T, jb_F, jb_t, jb_f]
      refine f_next hS2 hC2 (fun ν v1 v2 => ?_)
      have hq := hK ν (KY.trans v1.y (ky_s KY.refl _ _ (by omega))) v2 (fun _ => (v1.2 315 (by omega)).trans (gI_sI_at _ _ _ _))
      simp (disch := first | assumption | omega) only [RS_0, RS_1, RS_2, RS_3, RS_4, RS_5, RS_6, RS_7, RS_8, RS_9, RS_10, RS_11, RS_12, RS_13, RS_14, RS_15, RS_16, RS_17, RS_18, RS_19, RS_20, RS_21, RS_22, RS_23, RS_24, RS_25, RS_26, RS_27, RS_28, RS_29, RS_30, RS_31, RS_32, RS_33, RS_34, RS_35, RS_36, ji_add, ji_sub, ji_mul, ji_neg, ji_lit0, ji_ofNat, ji_lt, ji_le, ji_eq, ji_nat, ji_in, ji_rem, ji_div, jl_of, xl_lt, xl_gt, xl_eq, qV_at, qI_at, qJ_at, qD_at, qA_at, qA_no, nb0, nb1, cat_r, cat_i, Option.some.injEq, exists_eq_left', true_and, and_true, if_true, if_false, ite_not, not_true_eq_false, not_false_eq_true, Sum.inr.injEq, exists_eq_right', true_or, or_true, and_self, Int.cast_ofNat_Int, reduceCtorEq, or_false, false_or, false_and, and_false, jb_zero, lt7_0, lt7_1, lt7_2, lt7_3, lt7_4, lt7_5, lt7_6, c_X9_readNumber_1, c_X9_readNumber_2, c_X9_readNumber_3, c_X9_readNumber_4, nb1, ↓reduceIte, ilt_t, ilt_f, ile_t, ile_f, ieq_t, ieq_f, jb_T, jb_F, jb_t, jb_f]
      exact hq
    · rw [if_neg h3] at hK
      simp (disch := first | assumption | omega) only [RS_0, RS_1, RS_2, RS_3, RS_4, RS_5, RS_6, RS_7, RS_8, RS_9, RS_10, RS_11, RS_12, RS_13, RS_14, RS_15, RS_16, RS_17, RS_18, RS_19, RS_20, RS_21, RS_22, RS_23, RS_24, RS_25, RS_26, RS_27, RS_28, RS_29, RS_30, RS_31, RS_32, RS_33, RS_34, RS_35, RS_36, ji_add, ji_sub, ji_mul, ji_neg, ji_lit0, ji_ofNat, ji_lt, ji_le, ji_eq, ji_nat, ji_in, ji_rem, ji_div, jl_of, xl_lt, xl_gt, xl_eq, qV_at, qI_at, qJ_at, qD_at, qA_at, qA_no, nb0, nb1, cat_r, cat_i, Option.some.injEq, exists_eq_left', true_and, and_true, if_true, if_false, ite_not, not_true_eq_false, not_false_eq_true, Sum.inr.injEq, exists_eq_right', true_or, or_true, and_self, Int.cast_ofNat_Int, reduceCtorEq, or_false, false_or, false_and, and_false, jb_zero, lt7_0, lt7_1, lt7_2, lt7_3, lt7_4, lt7_5, lt7_6, c_X9_readNumber_1, c_X9_readNumber_2, c_X9_readNumber_3, c_X9_readNumber_4, u_X9_readNumber, c_X9_readNumber_1, c_X9_readNumber_2, c_X9_readNumber_3, c_X9_readNumber_4, c2', g6, jl_of, f_inRange, jb_eqf h3, ↓reduceIte, ilt_t, ilt_f, ile_t, ile_f, ieq_t, ieq_f, jb_T, jb_F, jb_t, jb_f]
      refine f_fail hS c3 (fun ν v1 v2 v3 => ?_)
      have hq := hK ν v1 v2 v3
      simp (disch := first | assumption | omega) only [RS_0, RS_1, RS_2, RS_3, RS_4, RS_5, RS_6, RS_7, RS_8, RS_9, RS_10, RS_11, RS_12, RS_13, RS_14, RS_15, RS_16, RS_17, RS_18, RS_19, RS_20, RS_21, RS_22, RS_23, RS_24, RS_25, RS_26, RS_27, RS_28, RS_29, RS_30, RS_31, RS_32, RS_33, RS_34, RS_35, RS_36, ji_add, ji_sub, ji_mul, ji_neg, ji_lit0, ji_ofNat, ji_lt, ji_le, ji_eq, ji_nat, ji_in, ji_rem, ji_div, jl_of, xl_lt, xl_gt, xl_eq, qV_at, qI_at, qJ_at, qD_at, qA_at, qA_no, nb0, nb1, cat_r, cat_i, Option.some.injEq, exists_eq_left', true_and, and_true, if_true, if_false, ite_not, not_true_eq_false, not_false_eq_true, Sum.inr.injEq, exists_eq_right', true_or, or_true, and_self, Int.cast_ofNat_Int, reduceCtorEq, or_false, false_or, false_and, and_false, jb_zero, lt7_0, lt7_1, lt7_2, lt7_3, lt7_4, lt7_5, lt7_6, c_X9_readNumber_1, c_X9_readNumber_2, c_X9_readNumber_3, c_X9_readNumber_4, nb0, ↓reduceIte, ilt_t, ilt_f, ile_t, ile_f, ieq_t, ieq_f, jb_T, jb_F, jb_t, jb_f]
      exact hq
  · rw [if_neg h2] at hK
    simp (disch := first | assumption | omega) only [RS_0, RS_1, RS_2, RS_3, RS_4, RS_5, RS_6, RS_7, RS_8, RS_9, RS_10, RS_11, RS_12, RS_13, RS_14, RS_15, RS_16, RS_17, RS_18, RS_19, RS_20, RS_21, RS_22, RS_23, RS_24, RS_25, RS_26, RS_27, RS_28, RS_29, RS_30, RS_31, RS_32, RS_33, RS_34, RS_35, RS_36, ji_add, ji_sub, ji_mul, ji_neg, ji_lit0, ji_ofNat, ji_lt, ji_le, ji_eq, ji_nat, ji_in, ji_rem, ji_div, jl_of, xl_lt, xl_gt, xl_eq, qV_at, qI_at, qJ_at, qD_at, qA_at, qA_no, nb0, nb1, cat_r, cat_i, Option.some.injEq, exists_eq_left', true_and, and_true, if_true, if_false, ite_not, not_true_eq_false, not_false_eq_true, Sum.inr.injEq, exists_eq_right', true_or, or_true, and_self, Int.cast_ofNat_Int, reduceCtorEq, or_false, false_or, false_and, and_false, jb_zero, lt7_0, lt7_1, lt7_2, lt7_3, lt7_4, lt7_5, lt7_6, c_X9_readNumber_1, c_X9_readNumber_2, c_X9_readNumber_3, c_X9_readNumber_4, u_X9_readNumber, c_X9_readNumber_1, c_X9_readNumber_2, c_X9_readNumber_3, c_X9_readNumber_4, c2, h2, ↓reduceIte, ilt_t, ilt_f, ile_t, ile_f, ieq_t, ieq_f, jb_T, jb_F, jb_t, jb_f]
    refine f_fail hS c3 (fun ν v1 v2 v3 => ?_)
    have hq := hK ν v1 v2 v3
    simp (disch := first | assumption | omega) only [RS_0, RS_1, RS_2, RS_3, RS_4, RS_5, RS_6, RS_7, RS_8, RS_9, RS_10, RS_11, RS_12, RS_13, RS_14, RS_15, RS_16, RS_17, RS_18, RS_19, RS_20, RS_21, RS_22, RS_23, RS_24, RS_25, RS_26, RS_27, RS_28, RS_29, RS_30, RS_31, RS_32, RS_33, RS_34, RS_35, RS_36, ji_add, ji_sub, ji_mul, ji_neg, ji_lit0, ji_ofNat, ji_lt, ji_le, ji_eq, ji_nat, ji_in, ji_rem, ji_div, jl_of, xl_lt, xl_gt, xl_eq, qV_at, qI_at, qJ_at, qD_at, qA_at, qA_no, nb0, nb1, cat_r, cat_i, Option.some.injEq, exists_eq_left', true_and, and_true, if_true, if_false, ite_not, not_true_eq_false, not_false_eq_true, Sum.inr.injEq, exists_eq_right', true_or, or_true, and_self, Int.cast_ofNat_Int, reduceCtorEq, or_false, false_or, false_and, and_false, jb_zero, lt7_0, lt7_1, lt7_2, lt7_3, lt7_4, lt7_5, lt7_6, c_X9_readNumber_1, c_X9_readNumber_2, c_X9_readNumber_3, c_X9_readNumber_4, nb0, ↓reduceIte, ilt_t, ilt_f, ile_t, ile_f, ieq_t, ieq_f, jb_T, jb_F, jb_t, jb_f]
    exact hq
theorem f_readEnd (hS : RS μ m) (hC : RC μ m l T p e q) (hK : RA μ m l T e q false Q (pS l T p)) : s_X9_readEnd μ [.ref m] Q X := by
  have hC' := hC
  obtain ⟨⟨c1, p0, p1⟩, c2, c3, c4, c5, c6, c7⟩ := hC'
  have kb : tK l T (tB l T p) = 0 ∨ tK l T (tB l T p) = 1 ∨ tK l T (tB l T p) = 2 ∨ tK l T (tB l T p) = 3 ∨ tK l T (tB l T p) = 4 := by
    unfold tK
    (repeat' split) <;> omega
  unfold pS at hK
  by_cases h2 : tK l T (tB l T p) = 3
  · rw [if_pos h2] at hK
    have c2' := c2
    rw [h2] at c2'
    simp (disch := first | assumption | omega) only [RS_0, RS_1, RS_2, RS_3, RS_4, RS_5, RS_6, RS_7, RS_8, RS_9, RS_10, RS_11, RS_12, RS_13, RS_14, RS_15, RS_16, RS_17, RS_18, RS_19, RS_20, RS_21, RS_22, RS_23, RS_24, RS_25, RS_26, RS_27, RS_28, RS_29, RS_30, RS_31, RS_32, RS_33, RS_34, RS_35, RS_36, ji_add, ji_sub, ji_mul, ji_neg, ji_lit0, ji_ofNat, ji_lt, ji_le, ji_eq, ji_nat, ji_in, ji_rem, ji_div, jl_of, xl_lt, xl_gt, xl_eq, qV_at, qI_at, qJ_at, qD_at, qA_at, qA_no, nb0, nb1, cat_r, cat_i, Option.some.injEq, exists_eq_left', true_and, and_true, if_true, if_false, ite_not, not_true_eq_false, not_false_eq_true, Sum.inr.injEq, exists_eq_right', true_or, or_true, and_self, Int.cast_ofNat_Int, reduceCtorEq, or_false, false_or, false_and, and_false, jb_zero, lt7_0, lt7_1, lt7_2, lt7_3, lt7_4, lt7_5, lt7_6, c_X9_readEnd_1, c_X9_readEnd_2, u_X9_readEnd, c_X9_readEnd_1, c_X9_readEnd_2, c2', ↓reduceIte, ilt_t, ilt_f, ile_t, ile_f, ieq_t, ieq_f, jb_T, jb_F, jb_t, jb_f]
    refine f_next hS hC (fun ν v1 v2 => ?_)
    have hq := hK ν v1.y v2 (fun z => absurd z (by decide))
    simp (disch := first | assumption | omega) only [RS_0, RS_1, RS_2, RS_3, RS_4, RS_5, RS_6, RS_7, RS_8, RS_9, RS_10, RS_11, RS_12, RS_13, RS_14, RS_15, RS_16, RS_17, RS_18, RS_19, RS_20, RS_21, RS_22, RS_23, RS_24, RS_25, RS_26, RS_27, RS_28, RS_29, RS_30, RS_31, RS_32, RS_33, RS_34, RS_35, RS_36, ji_add, ji_sub, ji_mul, ji_neg, ji_lit0, ji_ofNat, ji_lt, ji_le, ji_eq, ji_nat, ji_in, ji_rem, ji_div, jl_of, xl_lt, xl_gt, xl_eq, qV_at, qI_at, qJ_at, qD_at, qA_at, qA_no, nb0, nb1, cat_r, cat_i, Option.some.injEq, exists_eq_left', true_and, and_true, if_true, if_false, ite_not, not_true_eq_false, not_false_eq_true, Sum.inr.injEq, exists_eq_right', true_or, or_true, and_self, Int.cast_ofNat_Int, reduceCtorEq, or_false, false_or, false_and, and_false, jb_zero, lt7_0, lt7_1, lt7_2, lt7_3, lt7_4, lt7_5, lt7_6, c_X9_readEnd_1, c_X9_readEnd_2, nb1, ↓reduceIte, ilt_t, ilt_f, ile_t, ile_f, ieq_t, ieq_f, jb_T, jb_F, jb_t, jb_f]
    exact hq
  · rw [if_neg h2] at hK
    simp (disch := first | assumption | omega) only [RS_0, RS_1, RS_2, RS_3, RS_4, RS_5, RS_6, RS_7, RS_8, RS_9, RS_10, RS_11, RS_12, RS_13, RS_14, RS_15, RS_16, RS_17, RS_18, RS_19, RS_20, RS_21, RS_22, RS_23, RS_24, RS_25, RS_26, RS_27, RS_28, RS_29, RS_30, RS_31, RS_32, RS_33, RS_34, RS_35, RS_36, ji_add, ji_sub, ji_mul, ji_neg, ji_lit0, ji_ofNat, ji_lt, ji_le, ji_eq, ji_nat, ji_in, ji_rem, ji_div, jl_of, xl_lt, xl_gt, xl_eq, qV_at, qI_at, qJ_at, qD_at, qA_at, qA_no, nb0, nb1, cat_r, cat_i, Option.some.injEq, exists_eq_left', true_and, and_true, if_true, if_false, ite_not, not_true_eq_false, not_false_eq_true, Sum.inr.injEq, exists_eq_right', true_or, or_true, and_self, Int.cast_ofNat_Int, reduceCtorEq, or_false, false_or, false_and, and_false, jb_zero, lt7_0, lt7_1, lt7_2, lt7_3, lt7_4, lt7_5, lt7_6, c_X9_readEnd_1, c_X9_readEnd_2, u_X9_readEnd, c_X9_readEnd_1, c_X9_readEnd_2, c2, h2, ↓reduceIte, ilt_t, ilt_f, ile_t, ile_f, ieq_t, ieq_f, jb_T, jb_F, jb_t, jb_f]
    refine f_fail hS c3 (fun ν v1 v2 v3 => ?_)
    have hq := hK ν v1 v2 v3
    simp (disch := first | assumption | omega) only [RS_0, RS_1, RS_2, RS_3, RS_4, RS_5, RS_6, RS_7, RS_8, RS_9, RS_10, RS_11, RS_12, RS_13, RS_14, RS_15, RS_16, RS_17, RS_18, RS_19, RS_20, RS_21, RS_22, RS_23, RS_24, RS_25, RS_26, RS_27, RS_28, RS_29, RS_30, RS_31, RS_32, RS_33, RS_34, RS_35, RS_36, ji_add, ji_sub, ji_mul, ji_neg, ji_lit0, ji_ofNat, ji_lt, ji_le, ji_eq, ji_nat, ji_in, ji_rem, ji_div, jl_of, xl_lt, xl_gt, xl_eq, qV_at, qI_at, qJ_at, qD_at, qA_at, qA_no, nb0, nb1, cat_r, cat_i, Option.some.injEq, exists_eq_left', true_and, and_true, if_true, if_false, ite_not, not_true_eq_false, not_false_eq_true, Sum.inr.injEq, exists_eq_right', true_or, or_true, and_self, Int.cast_ofNat_Int, reduceCtorEq, or_false, false_or, false_and, and_false, jb_zero, lt7_0, lt7_1, lt7_2, lt7_3, lt7_4, lt7_5, lt7_6, c_X9_readEnd_1, c_X9_readEnd_2, nb0, ↓reduceIte, ilt_t, ilt_f, ile_t, ile_f, ieq_t, ieq_f, jb_T, jb_F, jb_t, jb_f]
    exact hq
theorem f_isWord {k : Nat} {v : Int64} (hS : RS μ m) (hC : RC μ m l T p e q) (hk : k < 13) (hv : v = jl (pkv (stc k) 0 (STX k).length)) (hb : 0 ≤ pkv (stc k) 0 (STX k).length ∧ pkv (stc k) 0 (STX k).length < 2000000000000) (h1 : tW l T (tB l T p) (STX k) → Q (some (.int (ji 1))) μ) (h0 : ¬ tW l T (tB l T p) (STX k) → Q (some (.int (ji 0))) μ) : s_X9_isWord μ [.ref m, .long v] Q X := by
  obtain ⟨⟨c1, p0, p1⟩, c2, c3, c4, c5, c6, c7⟩ := hC
  have sb := tB_b (l := l) (T := T) p1
  have kb : tK l T (tB l T p) = 0 ∨ tK l T (tB l T p) = 1 ∨ tK l T (tB l T p) = 2 ∨ tK l T (tB l T p) = 3 ∨ tK l T (tB l T p) = 4 := by
    unfold tK
    (repeat' split) <;> omega
  subst hv
  by_cases h : tK l T (tB l T p) = 1
  · have hw := tK_w sb.2 h
    have e := tW_pk (k := k) sb.2 hk h
    have g6 := c4 h
    have pb := pkv_b (tE l T (tB l T p) - tB l T p).toNat hw.2
    have p8 : (32 : Int) ^ (tE l T (tB l T p) - tB l T p).toNat ≤ 1099511627776 := by
      have h7 : ∀ r : Nat, r ≤ 8 → (32 : Int) ^ r ≤ 1099511627776 := fun r hr => by
        have : r = 0 ∨ r = 1 ∨ r = 2 ∨ r = 3 ∨ r = 4 ∨ r = 5 ∨ r = 6 ∨ r = 7 ∨ r = 8 := by omega
        rcases this with rfl | rfl | rfl | rfl | rfl | rfl | rfl | rfl | rfl <;> decide
      exact h7 _ (by omega)
    rw [h] at c2
    by_cases hh : tW l T (tB l T p) (STX k)
    · have hq := h1 hh
      simp (disch := first | assumption | omega) only [RS_0, RS_1, RS_2, RS_3, RS_4, RS_5, RS_6, RS_7, RS_8, RS_9, RS_10, RS_11, RS_12, RS_13, RS_14, RS_15, RS_16, RS_17, RS_18, RS_19, RS_20, RS_21, RS_22, RS_23, RS_24, RS_25, RS_26, RS_27, RS_28, RS_29, RS_30, RS_31, RS_32, RS_33, RS_34, RS_35, RS_36, ji_add, ji_sub, ji_mul, ji_neg, ji_lit0, ji_ofNat, ji_lt, ji_le, ji_eq, ji_nat, ji_in, ji_rem, ji_div, jl_of, xl_lt, xl_gt, xl_eq, qV_at, qI_at, qJ_at, qD_at, qA_at, qA_no, nb0, nb1, cat_r, cat_i, Option.some.injEq, exists_eq_left', true_and, and_true, if_true, if_false, ite_not, not_true_eq_false, not_false_eq_true, Sum.inr.injEq, exists_eq_right', true_or, or_true, and_self, Int.cast_ofNat_Int, reduceCtorEq, or_false, false_or, false_and, and_false, jb_zero, lt7_0, lt7_1, lt7_2, lt7_3, lt7_4, lt7_5, lt7_6, u_X9_isWord, c2, g6, nb1, ↓reduceIte, ilt_t, ilt_f, ile_t, ile_f, ieq_t, ieq_f, jb_T, jb_F, jb_t, jb_f]
      rw [if_pos (e.mpr hh)]
      exact hq
    · have hq := h0 hh
      simp (disch := first | assumption | omega) only [RS_0, RS_1, RS_2, RS_3, RS_4, RS_5, RS_6, RS_7, RS_8, RS_9, RS_10, RS_11, RS_12, RS_13, RS_14, RS_15, RS_16, RS_17, RS_18, RS_19, RS_20, RS_21, RS_22, RS_23, RS_24, RS_25, RS_26, RS_27, RS_28, RS_29, RS_30, RS_31, RS_32, RS_33, RS_34, RS_35, RS_36, ji_add, ji_sub, ji_mul, ji_neg, ji_lit0, ji_ofNat, ji_lt, ji_le, ji_eq, ji_nat, ji_in, ji_rem, ji_div, jl_of, xl_lt, xl_gt, xl_eq, qV_at, qI_at, qJ_at, qD_at, qA_at, qA_no, nb0, nb1, cat_r, cat_i, Option.some.injEq, exists_eq_left', true_and, and_true, if_true, if_false, ite_not, not_true_eq_false, not_false_eq_true, Sum.inr.injEq, exists_eq_right', true_or, or_true, and_self, Int.cast_ofNat_Int, reduceCtorEq, or_false, false_or, false_and, and_false, jb_zero, lt7_0, lt7_1, lt7_2, lt7_3, lt7_4, lt7_5, lt7_6, u_X9_isWord, c2, g6, nb0, ↓reduceIte, ilt_t, ilt_f, ile_t, ile_f, ieq_t, ieq_f, jb_T, jb_F, jb_t, jb_f]
      rw [if_neg (fun z => hh (e.mp z))]
      exact hq
  · have hq := h0 (fun z => h z.1)
    simp (disch := first | assumption | omega) only [RS_0, RS_1, RS_2, RS_3, RS_4, RS_5, RS_6, RS_7, RS_8, RS_9, RS_10, RS_11, RS_12, RS_13, RS_14, RS_15, RS_16, RS_17, RS_18, RS_19, RS_20, RS_21, RS_22, RS_23, RS_24, RS_25, RS_26, RS_27, RS_28, RS_29, RS_30, RS_31, RS_32, RS_33, RS_34, RS_35, RS_36, ji_add, ji_sub, ji_mul, ji_neg, ji_lit0, ji_ofNat, ji_lt, ji_le, ji_eq, ji_nat, ji_in, ji_rem, ji_div, jl_of, xl_lt, xl_gt, xl_eq, qV_at, qI_at, qJ_at, qD_at, qA_at, qA_no, nb0, nb1, cat_r, cat_i, Option.some.injEq, exists_eq_left', true_and, and_true, if_true, if_false, ite_not, not_true_eq_false, not_false_eq_true, Sum.inr.injEq, exists_eq_right', true_or, or_true, and_self, Int.cast_ofNat_Int, reduceCtorEq, or_false, false_or, false_and, and_false, jb_zero, lt7_0, lt7_1, lt7_2, lt7_3, lt7_4, lt7_5, lt7_6, u_X9_isWord, c2, h, nb0, ↓reduceIte, ilt_t, ilt_f, ile_t, ile_f, ieq_t, ieq_f, jb_T, jb_F, jb_t, jb_f]
    exact hq
end
