/-! ===== the reference: links to be cut ===== -/
/-- the nodes come to: from where, and a rank that falls on the way back -/
def GI (w h N : Int) (e : Int → Int → Bool) (f : Int) (c d : Int → Int) (K : Int) : Prop :=
  (c f = f ∧ d f = 0) ∧ (∀ n, 0 ≤ n → n < N → (-1 ≤ c n ∧ c n < N) ∧ -1 ≤ d n ∧ (d n = -1 ↔ c n = -1) ∧ (d n = 0 → n = f) ∧ d n < K) ∧
  (∀ n, 0 ≤ n → n < N → 0 < d n → 0 ≤ d (c n) ∧ d (c n) < d n ∧ ∃ y, 0 ≤ y ∧ y < 4 ∧ e (c n) y = true ∧ nx w h (c n) y = n) ∧
  K = sm (fun i => if d i = -1 then 0 else 1) 36 ∧ ∀ n, N ≤ n → n < 36 → d n = -1
/-- nothing is open up to the way y of the node n -/
def CU (w h N : Int) (e : Int → Int → Bool) (c : Int → Int) (n y : Int) : Prop := ∀ a z, 0 ≤ a → a < N → 0 ≤ z → z < 4 → (a < n ∨ (a = n ∧ z < y)) → c a ≠ -1 → e a z = true → c (nx w h a z) ≠ -1
section
variable {w h N f K : Int} {e : Int → Int → Bool} {c d : Int → Int}
theorem GI.init (f0 : 0 ≤ f) (f1 : f < N) (hN : N ≤ 36) (h1 : c f = f) (h2 : ∀ n, 0 ≤ n → n < 36 → n ≠ f → c n = -1) : GI w h N e f c (zu (fun _ => -1) f 0) 1 := by
  refine ⟨⟨h1, zu_at _ _ _⟩, fun n n0 n1 => ?_, fun n n0 n1 hn => ?_, ?_, fun n n0 n1 => zu_ne (by omega)⟩
  · by_cases hn : n = f
    · rw [hn, zu_at, h1]; omega
    · rw [zu_ne hn, h2 n n0 (by omega) hn]; omega
  · by_cases q : n = f
    · rw [q, zu_at] at hn; omega
    · rw [zu_ne q] at hn; omega
  · have := sm_one (f := fun _ => 0) (g := fun i => if zu (fun _ => -1) f 0 i = -1 then (0 : Int) else 1) f0 (fun i hi => by simp only [zu_ne hi, if_true]) 36
    rw [this, sm_0, if_pos (by omega)]
    simp only [zu_at]
    rfl
theorem GI.le (hg : GI w h N e f c d K) : K ≤ 36 := by
  rw [hg.2.2.2.1]
  have := sm_le (f := fun i => if d i = -1 then (0 : Int) else 1) (g := fun _ => 1) 36 (fun i _ _ => by split <;> omega)
  have e1 : sm (fun _ => 1) 36 = 36 := by decide
  omega
theorem GI.set {n y : Int} (hg : GI w h N e f c d K) (f0 : 0 ≤ f) (f1 : f < N) (hN : N ≤ 36) (n0 : 0 ≤ n) (n1 : n < N) (y0 : 0 ≤ y) (y1 : y < 4) (he : e n y = true) (m0 : 0 ≤ nx w h n y) (m1 : nx w h n y < N) (hc : c n ≠ -1) (hm : c (nx w h n y) = -1) : GI w h N e f (zu c (nx w h n y) n) (zu d (nx w h n y) K) (K + 1) := by
  obtain ⟨g1, g2, g3, g4, g5⟩ := hg
  generalize hx : nx w h n y = m at *
  have hf : f ≠ m := fun q => by rw [← q, g1.1] at hm; omega
  have hnm : n ≠ m := fun q => hc (by rw [q]; exact hm)
  have dm : d m = -1 := (g2 m m0 m1).2.2.1.mpr hm
  have dn : d n ≠ -1 := fun q => hc ((g2 n n0 n1).2.2.1.mp q)
  have dn2 := (g2 n n0 n1).2.1
  have K1 := (g2 f f0 f1).2.2.2.2
  rw [g1.2] at K1
  refine ⟨⟨by rw [zu_ne hf]; exact g1.1, by rw [zu_ne hf]; exact g1.2⟩, fun a a0 a1 => ?_, fun a a0 a1 ha => ?_, ?_, fun a a0 a1 => by rw [zu_ne (by omega)]; exact g5 a a0 a1⟩
  · by_cases q : a = m
    · rw [q, zu_at, zu_at]
      exact ⟨by omega, by omega, by omega, fun z => by omega, by omega⟩
    · rw [zu_ne q, zu_ne q]
      have := g2 a a0 a1
      exact ⟨this.1, this.2.1, this.2.2.1, this.2.2.2.1, by omega⟩
  · by_cases q : a = m
    · rw [q, zu_at, zu_at, zu_ne hnm]
      exact ⟨by omega, (g2 n n0 n1).2.2.2.2, y, y0, y1, he, hx⟩
    · rw [zu_ne q] at ha ⊢
      obtain ⟨b1, b2, b3⟩ := g3 a a0 a1 ha
      have hcm : c a ≠ m := fun z => by rw [z, dm] at b1; omega
      rw [zu_ne q, zu_ne hcm]
      exact ⟨b1, b2, b3⟩
  · have := sm_one (f := fun i => if d i = -1 then (0 : Int) else 1) (g := fun i => if zu d m K i = -1 then (0 : Int) else 1) m0 (fun i hi => by simp only [zu_ne hi]) 36
    rw [this, ← g4, if_pos (by omega)]
    simp only [zu_at, dm, if_true]
    rw [if_neg (by omega)]
    omega
end
section
variable {μ ν : XM} {m : Nat} {Q : XQ} {X : XX} {A : AS} {w h N s f : Int} {Z F : Int → Int} {C : Nat → Prop}
theorem f_goesOver (hS : RS μ m) (hR : RW μ m w h s Z) (hB : BD w h N s Z) (hF : MR μ (m + 7) 72 F) (hb : FB w h N Z F) {n y : Int} (n0 : 0 ≤ n) (n1 : n < N) (y0 : 0 ≤ y) (y1 : y < 4) : s_X9_goesOver μ [.ref m, .int (ji n), .int (ji y)] Q X = Q (some (.int (jb (eO w h (oA w h N Z) F n y = true)))) μ := by
  have hz := hB.z
  have g := hB.g
  have xb := nx_b g n0 n1 y0 y1
  have f1 := fun (Q : XQ) X => f_nextTo (Q := Q) (X := X) hS hR hz n0 n1 (y := y) (by omega) (by omega)
  have f2 := fun (Q : XQ) X => f_linkOf (Q := Q) (X := X) hS hR hz n0 n1 y0 y1
  have lab := lka_b (z := n) (y := y) g
  by_cases hx : nx w h n y = -1
  · have e : eO w h (oA w h N Z) F n y = false := by unfold eO; rw [decide_eq_false (fun q => q hx), Bool.false_and]
    rw [e, jb_f _ (by decide)]
    rw [hx] at f1
    simp (disch := first | assumption | omega) only [RS_0, RS_1, RS_2, RS_3, RS_4, RS_5, RS_6, RS_7, RS_8, RS_9, RS_10, RS_11, RS_12, RS_13, RS_14, RS_15, RS_16, RS_17, RS_18, RS_19, RS_20, RS_21, RS_22, RS_23, RS_24, RS_25, RS_26, RS_27, RS_28, RS_29, RS_30, RS_31, RS_32, RS_33, RS_34, RS_35, RS_36, ji_add, ji_sub, ji_mul, ji_neg, ji_lit0, ji_ofNat, ji_lt, ji_le, ji_eq, ji_nat, ji_in, ji_rem, ji_div, jl_of, xl_lt, xl_gt, xl_eq, qV_at, qI_at, qJ_at, qD_at, qA_at, qA_no, nb0, nb1, cat_r, cat_i, Option.some.injEq, exists_eq_left', true_and, and_true, if_true, if_false, ite_not, not_true_eq_false, not_false_eq_true, Sum.inr.injEq, exists_eq_right', true_or, or_true, and_self, Int.cast_ofNat_Int, reduceCtorEq, or_false, false_or, false_and, and_false, jb_zero, lt7_0, lt7_1, lt7_2, lt7_3, lt7_4, lt7_5, lt7_6, c_X9_goesOver_1, c_X9_goesOver_2, c_X9_goesOver_3, u_X9_goesOver, uj_X9_goesOver_46, c_X9_goesOver_1, c_X9_goesOver_2, c_X9_goesOver_3, uj_X9_goesOver_46, f1, f2, nb0, ↓reduceIte, ilt_t, ilt_f, ile_t, ile_f, ieq_t, ieq_f, jb_T, jb_F, jb_t, jb_f]
  · have lk : lka w h N n y = lkb w n (nx w h n y) := by
      unfold lka
      rw [show nxt w h N n y = nx w h n y from if_pos ⟨n0, n1, y0, y1⟩, if_neg hx]
    have lb := xb.2.2.2 hx
    have fb := (hb _ lb.2.1 lb.2.2).1
    have hl := isl_nx g n0 n1 y0 y1 hx
    have dd := hB.2.2.1 (lkb w n (nx w h n y)) lb.2.1 lb.2.2
    have t := hF (lkb w n (nx w h n y)) lb.2.1 (by omega)
    rw [lk] at f2
    unfold eO rom
    rw [decide_eq_true hx, Bool.true_and]
    by_cases q : Z (2 + lkb w n (nx w h n y)) = 0
    · rw [show oA w h N Z (lkb w n (nx w h n y)) = 1 from if_pos ⟨hl, q⟩]
      by_cases c1 : n < nx w h n y
      · rw [if_pos c1]
        by_cases c2 : F (lkb w n (nx w h n y)) < 1
        · simp (disch := first | assumption | omega) only [RS_0, RS_1, RS_2, RS_3, RS_4, RS_5, RS_6, RS_7, RS_8, RS_9, RS_10, RS_11, RS_12, RS_13, RS_14, RS_15, RS_16, RS_17, RS_18, RS_19, RS_20, RS_21, RS_22, RS_23, RS_24, RS_25, RS_26, RS_27, RS_28, RS_29, RS_30, RS_31, RS_32, RS_33, RS_34, RS_35, RS_36, ji_add, ji_sub, ji_mul, ji_neg, ji_lit0, ji_ofNat, ji_lt, ji_le, ji_eq, ji_nat, ji_in, ji_rem, ji_div, jl_of, xl_lt, xl_gt, xl_eq, qV_at, qI_at, qJ_at, qD_at, qA_at, qA_no, nb0, nb1, cat_r, cat_i, Option.some.injEq, exists_eq_left', true_and, and_true, if_true, if_false, ite_not, not_true_eq_false, not_false_eq_true, Sum.inr.injEq, exists_eq_right', true_or, or_true, and_self, Int.cast_ofNat_Int, reduceCtorEq, or_false, false_or, false_and, and_false, jb_zero, lt7_0, lt7_1, lt7_2, lt7_3, lt7_4, lt7_5, lt7_6, c_X9_goesOver_1, c_X9_goesOver_2, c_X9_goesOver_3, u_X9_goesOver, uj_X9_goesOver_46, c_X9_goesOver_1, c_X9_goesOver_2, c_X9_goesOver_3, uj_X9_goesOver_46, uj_X9_goesOver_46, f1, f2, hx, f_isDeadNow hS hR, q, t, c1, c2, nb1, Int.mul_one, ne_eq, decide_true, ↓reduceIte, ilt_t, ilt_f, ile_t, ile_f, ieq_t, ieq_f, jb_T, jb_F, jb_t, jb_f]
        · simp (disch := first | assumption | omega) only [RS_0, RS_1, RS_2, RS_3, RS_4, RS_5, RS_6, RS_7, RS_8, RS_9, RS_10, RS_11, RS_12, RS_13, RS_14, RS_15, RS_16, RS_17, RS_18, RS_19, RS_20, RS_21, RS_22, RS_23, RS_24, RS_25, RS_26, RS_27, RS_28, RS_29, RS_30, RS_31, RS_32, RS_33, RS_34, RS_35, RS_36, ji_add, ji_sub, ji_mul, ji_neg, ji_lit0, ji_ofNat, ji_lt, ji_le, ji_eq, ji_nat, ji_in, ji_rem, ji_div, jl_of, xl_lt, xl_gt, xl_eq, qV_at, qI_at, qJ_at, qD_at, qA_at, qA_no, nb0, nb1, cat_r, cat_i, Option.some.injEq, exists_eq_left', true_and, and_true, if_true, if_false, ite_not, not_true_eq_false, not_false_eq_true, Sum.inr.injEq, exists_eq_right', true_or, or_true, and_self, Int.cast_ofNat_Int, reduceCtorEq, or_false, false_or, false_and, and_false, jb_zero, lt7_0, lt7_1, lt7_2, lt7_3, lt7_4, lt7_5, lt7_6, c_X9_goesOver_1, c_X9_goesOver_2, c_X9_goesOver_3, u_X9_goesOver, uj_X9_goesOver_46, c_X9_goesOver_1, c_X9_goesOver_2, c_X9_goesOver_3, uj_X9_goesOver_46, uj_X9_goesOver_46, f1, f2, hx, f_isDeadNow hS hR, q, t, c1, c2, nb0, Int.mul_one, ne_eq, decide_false, Bool.false_eq_true, ↓reduceIte, ilt_t, ilt_f, ile_t, ile_f, ieq_t, ieq_f, jb_T, jb_F, jb_t, jb_f]
      · rw [if_neg c1]
        have em : F (lkb w n (nx w h n y)) * -1 = -F (lkb w n (nx w h n y)) := by omega
        by_cases c2 : -F (lkb w n (nx w h n y)) < 1
        · simp (disch := first | assumption | omega) only [RS_0, RS_1, RS_2, RS_3, RS_4, RS_5, RS_6, RS_7, RS_8, RS_9, RS_10, RS_11, RS_12, RS_13, RS_14, RS_15, RS_16, RS_17, RS_18, RS_19, RS_20, RS_21, RS_22, RS_23, RS_24, RS_25, RS_26, RS_27, RS_28, RS_29, RS_30, RS_31, RS_32, RS_33, RS_34, RS_35, RS_36, ji_add, ji_sub, ji_mul, ji_neg, ji_lit0, ji_ofNat, ji_lt, ji_le, ji_eq, ji_nat, ji_in, ji_rem, ji_div, jl_of, xl_lt, xl_gt, xl_eq, qV_at, qI_at, qJ_at, qD_at, qA_at, qA_no, nb0, nb1, cat_r, cat_i, Option.some.injEq, exists_eq_left', true_and, and_true, if_true, if_false, ite_not, not_true_eq_false, not_false_eq_true, Sum.inr.injEq, exists_eq_right', true_or, or_true, and_self, Int.cast_ofNat_Int, reduceCtorEq, or_false, false_or, false_and, and_false, jb_zero, lt7_0, lt7_1, lt7_2, lt7_3, lt7_4, lt7_5, lt7_6, c_X9_goesOver_1, c_X9_goesOver_2, c_X9_goesOver_3, u_X9_goesOver, uj_X9_goesOver_46, c_X9_goesOver_1, c_X9_goesOver_2, c_X9_goesOver_3, uj_X9_goesOver_46, uj_X9_goesOver_46, f1, f2, hx, f_isDeadNow hS hR, q, t, c1, em, c2, nb1, ne_eq, decide_true, ↓reduceIte, ilt_t, ilt_f, ile_t, ile_f, ieq_t, ieq_f, jb_T, jb_F, jb_t, jb_f]
        · simp (disch := first | assumption | omega) only [RS_0, RS_1, RS_2, RS_3, RS_4, RS_5, RS_6, RS_7, RS_8, RS_9, RS_10, RS_11, RS_12, RS_13, RS_14, RS_15, RS_16, RS_17, RS_18, RS_19, RS_20, RS_21, RS_22, RS_23, RS_24, RS_25, RS_26, RS_27, RS_28, RS_29, RS_30, RS_31, RS_32, RS_33, RS_34, RS_35, RS_36, ji_add, ji_sub, ji_mul, ji_neg, ji_lit0, ji_ofNat, ji_lt, ji_le, ji_eq, ji_nat, ji_in, ji_rem, ji_div, jl_of, xl_lt, xl_gt, xl_eq, qV_at, qI_at, qJ_at, qD_at, qA_at, qA_no, nb0, nb1, cat_r, cat_i, Option.some.injEq, exists_eq_left', true_and, and_true, if_true, if_false, ite_not, not_true_eq_false, not_false_eq_true, Sum.inr.injEq, exists_eq_right', true_or, or_true, and_self, Int.cast_ofNat_Int, reduceCtorEq, or_false, false_or, false_and, and_false, jb_zero, lt7_0, lt7_1, lt7_2, lt7_3, lt7_4, lt7_5, lt7_6, c_X9_goesOver_1, c_X9_goesOver_2, c_X9_goesOver_3, u_X9_goesOver, uj_X9_goesOver_46, c_X9_goesOver_1, c_X9_goesOver_2, c_X9_goesOver_3, uj_X9_goesOver_46, uj_X9_goesOver_46, f1, f2, hx, f_isDeadNow hS hR, q, t, c1, em, c2, nb0, ne_eq, decide_false, Bool.false_eq_true, ↓reduceIte, ilt_t, ilt_f, ile_t, ile_f, ieq_t, ieq_f, jb_T, jb_F, jb_t, jb_f]
    · rw [show oA w h N Z (lkb w n (nx w h n y)) = 0 from if_neg (fun z => q z.2)]
      simp (disch := first | assumption | omega) only [RS_0, RS_1, RS_2, RS_3, RS_4, RS_5, RS_6, RS_7, RS_8, RS_9, RS_10, RS_11, RS_12, RS_13, RS_14, RS_15, RS_16, RS_17, RS_18, RS_19, RS_20, RS_21, RS_22, RS_23, RS_24, RS_25, RS_26, RS_27, RS_28, RS_29, RS_30, RS_31, RS_32, RS_33, RS_34, RS_35, RS_36, ji_add, ji_sub, ji_mul, ji_neg, ji_lit0, ji_ofNat, ji_lt, ji_le, ji_eq, ji_nat, ji_in, ji_rem, ji_div, jl_of, xl_lt, xl_gt, xl_eq, qV_at, qI_at, qJ_at, qD_at, qA_at, qA_no, nb0, nb1, cat_r, cat_i, Option.some.injEq, exists_eq_left', true_and, and_true, if_true, if_false, ite_not, not_true_eq_false, not_false_eq_true, Sum.inr.injEq, exists_eq_right', true_or, or_true, and_self, Int.cast_ofNat_Int, reduceCtorEq, or_false, false_or, false_and, and_false, jb_zero, lt7_0, lt7_1, lt7_2, lt7_3, lt7_4, lt7_5, lt7_6, c_X9_goesOver_1, c_X9_goesOver_2, c_X9_goesOver_3, u_X9_goesOver, uj_X9_goesOver_46, c_X9_goesOver_1, c_X9_goesOver_2, c_X9_goesOver_3, uj_X9_goesOver_46, f1, f2, hx, f_isDeadNow hS hR, q, nb0, ne_eq, false_and, not_true_eq_false, decide_false, Bool.false_eq_true, ↓reduceIte, ilt_t, ilt_f, ile_t, ile_f, ieq_t, ieq_f, jb_T, jb_F, jb_t, jb_f]
end
