/-! ===== commands ===== -/
abbrev PP : Type := (Int × Int) ⊕ ((Int × Int × Int) × Int)
abbrev PC : Type := (Int × Int) ⊕ ((Int × Int × Int × Int) × Int)
def bnd (r : PR) (f : Int → Int → PP) : PP := match r with
  | .inl e => .inl e
  | .inr (v, p) => f v p
noncomputable def pV (l : Int) (T : Int → Int) (s : Int) : Int := by
  classical exact if tW l T s (STX 8) then 0 else if tW l T s (STX 9) then 1 else if tW l T s (STX 10) then 2 else if tW l T s (STX 11) then 3 else if tW l T s (STX 12) then 4 else -1
noncomputable def pP (l : Int) (T : Int → Int) (v p : Int) : PP := if v = 1 then bnd (pN l T 1 500 p) (fun a p1 => .inr ((a, 0, 0), p1)) else bnd (pN l T 0 35 p) (fun a p1 => if v = 0 then bnd (pN l T 0 35 p1) (fun b p2 => bnd (pN l T 1 200 p2) (fun c p3 => .inr ((a, b, c), p3))) else if v = 4 then .inr ((a, 0, 0), p1) else bnd (pW l T p1) (fun b p2 => .inr ((a, b, 0), p2)))
noncomputable def pC (l : Int) (T : Int → Int) (n p : Int) : PC := if pV l T (tB l T p) = -1 then .inl (1, tB l T p) else if 40 ≤ n then .inl (5, tB l T p) else match pP l T (pV l T (tB l T p)) (tE l T (tB l T p)) with
  | .inl e => .inl e
  | .inr (r, p1) => match pS l T p1 with
    | .inl e => .inl e
    | .inr (_, p2) => .inr ((pV l T (tB l T p), r), p2)
/-- a row of cells holds the n-th command -/
def RO (R : Int → Int) (n : Int) (r : Int × Int × Int × Int) : Prop := R (4 * n) = r.1 ∧ R (4 * n + 1) = r.2.1 ∧ (r.1 = 0 ∨ r.1 = 2 ∨ r.1 = 3 → R (4 * n + 2) = r.2.2.1) ∧ (r.1 = 0 → R (4 * n + 3) = r.2.2.2)
/-- the class, while it reads commands -/
def KS (ν μ : XM) (x : Nat) (l : Int) (T : Int → Int) (n : Int) (R : Int → Int) (p e q : Int) : Prop := CH (fun a => a = x + 1171 ∨ a = x + 1174 ∨ a = x + 1175) ν μ ∧ TX ν x l T p ∧ gI ν 198 (x + 1171) = ji e ∧ gI ν 199 (x + 1171) = ji q ∧ gI ν 161 (x + 1174) = ji n ∧ MR ν (x + 1175) 160 R
/-- an error is found -/
def KF (ν μ : XM) (x : Nat) (l : Int) (T : Int → Int) (c s : Int) : Prop := CH (fun a => a = x + 1171 ∨ a = x + 1174 ∨ a = x + 1175) ν μ ∧ (∃ p, TX ν x l T p) ∧ gI ν 198 (x + 1171) = ji c ∧ gI ν 199 (x + 1171) = ji s
/-- what is owed after a part of a command -/
def KA (μ : XM) (x : Nat) (l : Int) (T : Int → Int) (n : Int) (R : Int → Int) (col e q : Int) (Q : XQ) : PR → Prop
  | .inl (c, s) => ∀ ν, KF ν μ x l T c s → Q (some (.int (ji 0))) ν
  | .inr (v, p) => ∀ ν, KS ν μ x l T n (zu R (4 * n + col) v) p e q → Q (some (.int (ji 1))) ν
section
variable {μ ν : XM} {x : Nat} {l p n e q col : Int} {T R : Int → Int} {Q : XQ} {X : XX}
theorem pW_b {v p' : Int} (h : pW l T p = .inr (v, p')) : 0 ≤ v ∧ v ≤ 3 := by
  unfold pW at h
  (repeat' split at h) <;> simp at h <;> omega
theorem pN_b {lo hi v p' : Int} (h : pN l T lo hi p = .inr (v, p')) : lo ≤ v ∧ v ≤ hi := by
  unfold pN at h
  (repeat' split at h) <;> simp at h
  omega
theorem e_keep {v : Int} (hL : XL ν x) (n0 : 0 ≤ n) (n1 : n < 40) (c0 : 0 ≤ col) (c1 : col < 4) (v0 : -1 ≤ v) (v1 : v < 1000000) (hg : gI ν 161 (x + 1174) = ji n) : s_X5_keep ν [.ref (x + 1174), .int (ji col), .int (ji v)] Q X = Q (some (.int (jb (v ≠ -1)))) (wI ν (x + 1175) (4 * n + col).toNat (ji v)) := by
  have ep := fun (Q : XQ) X => e_putAt (Q := Q) (X := X) (v := v) (i := 4 * n + col) (XL_38 hL) (by rw [XL_39 hL]; omega) (by omega) (by rw [XL_39 hL]; omega)
  by_cases q : v = -1
  · subst q
    simp (disch := first | assumption | omega) only [XL_0, XL_1, XL_2, XL_3, XL_4, XL_5, XL_6, XL_7, XL_8, XL_9, XL_10, XL_11, XL_12, XL_13, XL_14, XL_15, XL_16, XL_17, XL_18, XL_19, XL_20, XL_21, XL_22, XL_23, XL_24, XL_25, XL_26, XL_27, XL_28, XL_29, XL_30, XL_31, XL_32, XL_33, XL_34, XL_35, XL_36, XL_37, XL_38, XL_39, XL_40, XL_41, XL_42, XL_43, XL_44, XL_45, XL_46, XL_47, WS_0, WS_1, WS_2, WS_3, WS_4, WS_5, WS_6, WS_7, WS_8, WS_9, WS_10, WS_11, WS_12, WS_13, WS_14, WS_15, WS_16, WS_17, WS_18, WS_19, WS_20, PS_0, PS_1, PS_2, PS_3, PS_4, PS_5, PS_6, ji_add, ji_sub, ji_mul, ji_neg, ji_lit0, ji_ofNat, ji_lt, ji_le, ji_eq, ji_nat, ji_in, qV_at, qI_at, qJ_at, qD_at, qA_at, qA_no, nb0, nb1, cat_r, cat_i, Option.some.injEq, exists_eq_left', true_and, and_true, if_true, if_false, ite_not, not_true_eq_false, not_false_eq_true, Sum.inr.injEq, exists_eq_right', true_or, or_true, and_self, Int.cast_ofNat_Int, reduceCtorEq, or_false, false_or, false_and, and_false, jb_zero, lt7_0, lt7_1, lt7_2, lt7_3, lt7_4, lt7_5, lt7_6, Nat.reduceAdd, Nat.reduceLeDiff, c_X5_keep_1, u_X5_keep, hg, ep, nb0, ne_eq, ↓reduceIte, ilt_t, ilt_f, ile_t, ile_f, ieq_t, ieq_f, jb_T, jb_F, jb_t, jb_f]
  · simp (disch := first | assumption | omega) only [XL_0, XL_1, XL_2, XL_3, XL_4, XL_5, XL_6, XL_7, XL_8, XL_9, XL_10, XL_11, XL_12, XL_13, XL_14, XL_15, XL_16, XL_17, XL_18, XL_19, XL_20, XL_21, XL_22, XL_23, XL_24, XL_25, XL_26, XL_27, XL_28, XL_29, XL_30, XL_31, XL_32, XL_33, XL_34, XL_35, XL_36, XL_37, XL_38, XL_39, XL_40, XL_41, XL_42, XL_43, XL_44, XL_45, XL_46, XL_47, WS_0, WS_1, WS_2, WS_3, WS_4, WS_5, WS_6, WS_7, WS_8, WS_9, WS_10, WS_11, WS_12, WS_13, WS_14, WS_15, WS_16, WS_17, WS_18, WS_19, WS_20, PS_0, PS_1, PS_2, PS_3, PS_4, PS_5, PS_6, ji_add, ji_sub, ji_mul, ji_neg, ji_lit0, ji_ofNat, ji_lt, ji_le, ji_eq, ji_nat, ji_in, qV_at, qI_at, qJ_at, qD_at, qA_at, qA_no, nb0, nb1, cat_r, cat_i, Option.some.injEq, exists_eq_left', true_and, and_true, if_true, if_false, ite_not, not_true_eq_false, not_false_eq_true, Sum.inr.injEq, exists_eq_right', true_or, or_true, and_self, Int.cast_ofNat_Int, reduceCtorEq, or_false, false_or, false_and, and_false, jb_zero, lt7_0, lt7_1, lt7_2, lt7_3, lt7_4, lt7_5, lt7_6, Nat.reduceAdd, Nat.reduceLeDiff, c_X5_keep_1, u_X5_keep, hg, ep, q, nb1, ne_eq, ↓reduceIte, ilt_t, ilt_f, ile_t, ile_f, ieq_t, ieq_f, jb_T, jb_F, jb_t, jb_f]
theorem KS.put {v : Int} (h : KS ν μ x l T n R p e q) (n0 : 0 ≤ n) (c0 : 0 ≤ col) : KS (wI ν (x + 1175) (4 * n + col).toNat (ji v)) μ x l T n (zu R (4 * n + col) v) p e q := by
  obtain ⟨h1, h2, h3, h4, h5, h6⟩ := h
  have c : CH (fun a => a = x + 1175) (wI ν (x + 1175) (4 * n + col).toNat (ji v)) ν := CH.wI (S := fun a => a = x + 1175) (CH.refl _ ν) _ _ _ rfl
  refine ⟨h1.wI _ _ _ (Or.inr (Or.inr rfl)), ⟨h2.1, h2.2.1, h2.2.2.1, fun i i0 i1 => ?_⟩, h3, h4, h5, h6.put (by omega)⟩
  rw [(c.2 (x + 1172) (by omega)).2.2.1]
  exact h2.2.2.2 i i0 i1
theorem KS.ct {ξ : XM} {p' e' q' : Int} (h : KS ν μ x l T n R p e q) (c : CT ξ ν x l T p' e' q') : KS ξ μ x l T n R p' e' q' := by
  obtain ⟨h1, h2, h3, h4, h5, h6⟩ := h
  obtain ⟨c1, c2, c3, c4⟩ := c
  exact ⟨CH.trans (c1.mono (fun a ha => Or.inl ha)) h1, c2, c3, c4, ((c1.2 (x + 1174) (by omega)).1 161).trans h5, h6.frame c1 (by omega)⟩
theorem KS.f (h : KS ν μ x l T n R p e q) : KF ν μ x l T e q := ⟨h.1, ⟨p, h.2.1⟩, h.2.2.1, h.2.2.2.1⟩
/-- a number that is kept -/
theorem e_numKeep {lo hi : Int} (hL : XL μ x) (h : KS ν μ x l T n R p e q) (n0 : 0 ≤ n) (n1 : n < 40) (c0 : 0 ≤ col) (c1 : col < 4) (lo0 : 0 ≤ lo) (lo1 : lo < 1000000) (hi0 : 0 ≤ hi) (hi1 : hi < 1000000) {G : Int32 → XM → Prop} {X' : XX} (hG : ∀ v ξ, XL ξ x → G v ξ = s_X5_keep ξ [.ref (x + 1174), .int (ji col), .int v] Q X') (hK : KA μ x l T n R col e q Q (pN l T lo hi p)) : s_X6_readNumber ν [.ref (x + 1171), .int (ji lo), .int (ji hi)] (qI G) X := by
  have hL2 := hL.mono h.1.1
  have hT := h.2.1
  have sb := tB_b (l := l) (T := T) hT.1.2.2.2
  refine e_readNumber hL2 hT h.2.2.1 h.2.2.2.1 (by omega) lo1 (by omega) hi1 ?_ (fun hk => tV_b sb.2 hk)
  cases hr : pN l T lo hi p with
  | inl r =>
    obtain ⟨c, s⟩ := r
    rw [hr] at hK
    intro ξ p' hct
    have hs := h.ct hct
    have hL3 := hL.mono hs.1.1
    show G (ji (-1)) ξ
    rw [hG _ _ hL3, e_keep hL3 n0 n1 c0 c1 (by omega) (by omega) hs.2.2.2.2.1, jb_f _ (fun z => z rfl)]
    exact hK _ (hs.put n0 c0).f
  | inr r =>
    obtain ⟨v, p'⟩ := r
    rw [hr] at hK
    have vb := pN_b hr
    intro ξ hct
    have hs := h.ct hct
    have hL3 := hL.mono hs.1.1
    show G (ji v) ξ
    rw [hG _ _ hL3, e_keep hL3 n0 n1 c0 c1 (by omega) (by omega) hs.2.2.2.2.1, jb_t _ (by omega)]
    exact hK _ (hs.put n0 c0)
theorem e_wayKeep (hL : XL μ x) (hSC : SC ν x) (h : KS ν μ x l T n R p e q) (n0 : 0 ≤ n) (n1 : n < 40) (c0 : 0 ≤ col) (c1 : col < 4) {G : Int32 → XM → Prop} {X' : XX} (hG : ∀ v ξ, XL ξ x → G v ξ = s_X5_keep ξ [.ref (x + 1174), .int (ji col), .int v] Q X') (hK : KA μ x l T n R col e q Q (pW l T p)) : s_X6_readWay ν [.ref (x + 1171)] (qI G) X := by
  have hL2 := hL.mono h.1.1
  have hT := h.2.1
  refine e_readWay hL2 hSC hT h.2.2.1 h.2.2.2.1 ?_
  cases hr : pW l T p with
  | inl r =>
    obtain ⟨c, s⟩ := r
    rw [hr] at hK
    intro ξ p' hct
    have hs := h.ct hct
    have hL3 := hL.mono hs.1.1
    show G (ji (-1)) ξ
    rw [hG _ _ hL3, e_keep hL3 n0 n1 c0 c1 (by omega) (by omega) hs.2.2.2.2.1, jb_f _ (fun z => z rfl)]
    exact hK _ (hs.put n0 c0).f
  | inr r =>
    obtain ⟨v, p'⟩ := r
    rw [hr] at hK
    have vb := pW_b hr
    intro ξ hct
    have hs := h.ct hct
    have hL3 := hL.mono hs.1.1
    show G (ji v) ξ
    rw [hG _ _ hL3, e_keep hL3 n0 n1 c0 c1 (by omega) (by omega) hs.2.2.2.2.1, jb_t _ (by omega)]
    exact hK _ (hs.put n0 c0)
end
