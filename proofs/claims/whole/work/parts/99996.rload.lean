/-! ===== the reference: the text of load ===== -/
theorem lka_nx {w h N n y : Int} (g : 0 ≤ w ∧ w ≤ 6 ∧ 0 ≤ h ∧ h ≤ 6 ∧ 0 ≤ N ∧ N ≤ 36 ∧ N = w * h) (n0 : 0 ≤ n) (n1 : n < N) (y0 : 0 ≤ y) (y1 : y < 4) : lka w h N n y = if nx w h n y = -1 then -1 else 2 * (if n < nx w h n y then n else nx w h n y) + y % 2 := by
  have hb := nx_b g n0 n1 y0 y1
  unfold lka
  rw [nxt_in n0 n1 y0 y1]
  by_cases hx : nx w h n y = -1
  · rw [if_pos hx, if_pos hx]
  · rw [if_neg hx, if_neg hx, (hb.2.2.2 hx).1]
def QW (ν μ : XM) (m : Nat) : Prop := CH (fun a => a = m ∨ a = m + 11) ν μ ∧ ∀ k, (k < 295 ∨ (297 < k ∧ k < 310) ∨ (315 < k ∧ k ≠ 318)) → gI ν k m = gI μ k m
def QL (ν μ : XM) (m : Nat) (l : Int) (T : Int → Int) (S : YS) (p e q : Int) : Prop := QW ν μ m ∧ RC ν m l T p e q ∧ (gI ν 295 m = ji S.1 ∧ gI ν 296 m = ji S.2.1 ∧ gI ν 297 m = ji S.2.2.1) ∧ MR ν (m + 11) 2664 (fun i => S.2.2.2 (2 + i))
def QM (ν μ : XM) (m : Nat) (c s : Int) : Prop := QW ν μ m ∧ gI ν 311 m = ji c ∧ gI ν 312 m = ji s
def QT (μ : XM) (m : Nat) (l : Int) (T : Int → Int) (e q : Int) (Q : XQ) : YP → Prop
  | .inl (c, s) => ∀ ν, QM ν μ m c s → Q (some (.int (ji 0))) ν
  | .inr (S, p) => ∀ ν, QL ν μ m l T S p e q → Q (some (.int (ji 1))) ν
/-- a link is read; b: it must be alive -/
def QN (μ : XM) (m : Nat) (l : Int) (T : Int → Int) (S : YS) (b e q : Int) (Q : XQ) : (Int × Int) ⊕ (Int × Int × Int) → Prop
  | .inl (c, s) => ∀ ν, QM ν μ m c s → Q (some (.int (ji 0))) ν
  | .inr (n, s, p) => (b = 1 → S.2.2.2 (2 + n) = 1 → ∀ ν, QM ν μ m 4 s → Q (some (.int (ji 0))) ν) ∧ ((b = 1 → ¬ S.2.2.2 (2 + n) = 1) → ∀ ν, QL ν μ m l T S p e q → gI ν 318 m = ji n → Q (some (.int (ji 1))) ν)
section
variable {μ ν ξ : XM} {m : Nat} {l p e q k : Int} {T : Int → Int} {S : YS} {Q : XQ} {X : XX} {w v : Int}
theorem QW.ky (h : QW ν μ m) (k : KY m ξ ν) : QW ξ μ m := ⟨CH.trans (k.1.mono (fun a ha => Or.inl ha)) h.1, fun j hj => (k.2 j (by omega)).trans (h.2 j hj)⟩
theorem QL.ky {p' e' q' : Int} (h : QL ν μ m l T S p e q) (k : KY m ξ ν) (r : RC ξ m l T p' e' q') : QL ξ μ m l T S p' e' q' := ⟨h.1.ky k, r, ⟨(k.2 295 (by omega)).trans h.2.2.1.1, (k.2 296 (by omega)).trans h.2.2.1.2.1, (k.2 297 (by omega)).trans h.2.2.1.2.2⟩, h.2.2.2.frame k.1 (by omega)⟩
theorem QL.toM {c s : Int} (h : QL ν μ m l T S p e q) (k : KY m ξ ν) (h1 : gI ξ 311 m = ji c) (h2 : gI ξ 312 m = ji s) : QM ξ μ m c s := ⟨h.1.ky k, h1, h2⟩
theorem RC.ch (h : RC ν m l T p e q) (c : CH (fun a => a = m ∨ a = m + 11) ξ ν) (hk : ∀ k, 309 ≤ k → k ≤ 314 → gI ξ k m = gI ν k m) (hl : gL ξ 316 m = gL ν 316 m) : RC ξ m l T p e q := by
  obtain ⟨⟨⟨r1, r2, r3, r4⟩, r5⟩, r6, r7, r8, r9, r10, r11⟩ := h
  refine ⟨⟨⟨r1, (hk 309 (by omega) (by omega)).trans r2, (hk 310 (by omega) (by omega)).trans r3, fun i i0 i1 => ?_⟩, r5⟩, (hk 313 (by omega) (by omega)).trans r6, (hk 314 (by omega) (by omega)).trans r7, fun z => hl.trans (r8 z), fun z => hl.trans (r9 z), (hk 311 (by omega) (by omega)).trans r10, (hk 312 (by omega) (by omega)).trans r11⟩
  rw [(c.2 (m + 10) (by omega)).2.2.1]
  exact r4 i i0 i1
/-- a field of load is written -/
theorem QL.fld {S' : YS} {z : Int} {f : Nat} (h : QL ν μ m l T S p e q) (hf : f = 295 ∨ f = 296 ∨ f = 297 ∨ f = 318) (h1 : (if f = 295 then z else S.1) = S'.1) (h2 : (if f = 296 then z else S.2.1) = S'.2.1) (h3 : (if f = 297 then z else S.2.2.1) = S'.2.2.1) (h4 : S'.2.2.2 = S.2.2.2) : QL (sI ν f m (ji z)) μ m l T S' p e q := by
  obtain ⟨⟨w1, w2⟩, r, ⟨g1, g2, g3⟩, hm⟩ := h
  have c : CH (fun a => a = m ∨ a = m + 11) (sI ν f m (ji z)) ν := CH.sI (S := fun a => a = m ∨ a = m + 11) (CH.refl _ ν) _ _ _ (Or.inl rfl)
  refine ⟨⟨w1.sI _ _ _ (Or.inl rfl), fun k hk => (gI_sI_k _ _ _ _ _ _ (by omega)).trans (w2 k hk)⟩, r.ch c (fun k k0 k1 => gI_sI_k _ _ _ _ _ _ (by omega)) (gL_sI _ _ _ _ _ _), ⟨?_, ?_, ?_⟩, ?_⟩
  · rw [← h1]
    by_cases hz : f = 295
    · rw [if_pos hz, hz]; exact gI_sI_at _ _ _ _
    · rw [if_neg hz, gI_sI_k _ _ _ _ _ _ (by omega)]; exact g1
  · rw [← h2]
    by_cases hz : f = 296
    · rw [if_pos hz, hz]; exact gI_sI_at _ _ _ _
    · rw [if_neg hz, gI_sI_k _ _ _ _ _ _ (by omega)]; exact g2
  · rw [← h3]
    by_cases hz : f = 297
    · rw [if_pos hz, hz]; exact gI_sI_at _ _ _ _
    · rw [if_neg hz, gI_sI_k _ _ _ _ _ _ (by omega)]; exact g3
  · rw [h4]; exact hm
/-- a cell of load is written -/
theorem QL.put {i z : Int} (h : QL ν μ m l T S p e q) (i0 : 0 ≤ i) : QL (wI ν (m + 11) i.toNat (ji z)) μ m l T (S.1, S.2.1, S.2.2.1, zu S.2.2.2 (2 + i) z) p e q := by
  obtain ⟨⟨w1, w2⟩, r, g, hm⟩ := h
  have c : CH (fun a => a = m ∨ a = m + 11) (wI ν (m + 11) i.toNat (ji z)) ν := CH.wI (S := fun a => a = m ∨ a = m + 11) (CH.refl _ ν) _ _ _ (Or.inr rfl)
  refine ⟨⟨w1.wI _ _ _ (Or.inr rfl), w2⟩, r.ch c (fun k k0 k1 => rfl) rfl, g, fun j j0 j1 => ?_⟩
  have := hm.put (i := i) (v := z) i0 j j0 j1
  rw [this]
  congr 1
  show zu (fun i => S.2.2.2 (2 + i)) i z j = zu S.2.2.2 (2 + i) z (2 + j)
  by_cases hz : j = i
  · rw [hz, zu_at, zu_at]
  · rw [zu_ne hz, zu_ne (by omega)]
theorem f_end (hS : RS μ m) (h : QL ν μ m l T S p e q) {G : Int32 → XM → Prop} (hG : ∀ r y, G r y = (nb r ∧ Q (some (.int r)) y)) (hK : QT μ m l T e q Q (yQ l T S p)) : s_X9_readEnd ν [.ref m] (qI G) X := by
  have hS2 := hS.mono h.1.1.1
  refine f_readEnd hS2 h.2.1 ?_
  unfold yQ at hK
  cases hr : pS l T p with
  | inl r =>
    obtain ⟨c, s⟩ := r
    rw [hr] at hK
    intro ξ k h1 h2
    show G (ji 0) ξ
    rw [hG, nb0, true_and]
    exact hK ξ (h.toM k h1 h2)
  | inr r =>
    obtain ⟨z, p'⟩ := r
    rw [hr] at hK
    intro ξ k h1 _
    show G (ji 1) ξ
    rw [hG, nb1, true_and]
    exact hK ξ (h.ky k h1)
theorem f_lastNode (hS : RS μ m) (h : QL ν μ m l T S p e q) (hi : yI k S) : s_X9_lastNode ν [.ref m] Q X = Q (some (.int (ji (S.1 * S.2.1 - 1)))) ν := by
  have hS2 := hS.mono h.1.1.1
  obtain ⟨g1, g2, -⟩ := h.2.2.1
  have hN := hi.1.1.1.1
  simp (disch := first | assumption | omega) only [RS_0, RS_1, RS_2, RS_3, RS_4, RS_5, RS_6, RS_7, RS_8, RS_9, RS_10, RS_11, RS_12, RS_13, RS_14, RS_15, RS_16, RS_17, RS_18, RS_19, RS_20, RS_21, RS_22, RS_23, RS_24, RS_25, RS_26, RS_27, RS_28, RS_29, RS_30, RS_31, RS_32, RS_33, RS_34, RS_35, RS_36, ji_add, ji_sub, ji_mul, ji_neg, ji_lit0, ji_ofNat, ji_lt, ji_le, ji_eq, ji_nat, ji_in, ji_rem, ji_div, jl_of, xl_lt, xl_gt, xl_eq, qV_at, qI_at, qJ_at, qD_at, qA_at, qA_no, nb0, nb1, cat_r, cat_i, Option.some.injEq, exists_eq_left', true_and, and_true, if_true, if_false, ite_not, not_true_eq_false, not_false_eq_true, Sum.inr.injEq, exists_eq_right', true_or, or_true, and_self, Int.cast_ofNat_Int, reduceCtorEq, or_false, false_or, false_and, and_false, jb_zero, lt7_0, lt7_1, lt7_2, lt7_3, lt7_4, lt7_5, lt7_6, u_X9_lastNode, g1, g2, ↓reduceIte, ilt_t, ilt_f, ile_t, ile_f, ieq_t, ieq_f, jb_T, jb_F, jb_t, jb_f]
theorem f_readLink {n b : Int} (hS : RS μ m) (h : QL ν μ m l T S p e q) (hi : yI k S) (n0 : 0 ≤ n) (n1 : n < S.1 * S.2.1) (hb : b = 0 ∨ b = 1) (hK : QN μ m l T S b e q Q (yN l T S.1 S.2.1 n p)) : s_X9_readLink ν [.ref m, .int (ji n), .int (ji b)] Q X := by
  have hS2 := hS.mono h.1.1.1
  have g314 := h.2.1.2.2.1
  obtain ⟨g1, g2, -⟩ := h.2.2.1
  have hN := hi.1.1.1.1
  have g := hi.1.1.1.g
  simp (disch := first | assumption | omega) only [RS_0, RS_1, RS_2, RS_3, RS_4, RS_5, RS_6, RS_7, RS_8, RS_9, RS_10, RS_11, RS_12, RS_13, RS_14, RS_15, RS_16, RS_17, RS_18, RS_19, RS_20, RS_21, RS_22, RS_23, RS_24, RS_25, RS_26, RS_27, RS_28, RS_29, RS_30, RS_31, RS_32, RS_33, RS_34, RS_35, RS_36, ji_add, ji_sub, ji_mul, ji_neg, ji_lit0, ji_ofNat, ji_lt, ji_le, ji_eq, ji_nat, ji_in, ji_rem, ji_div, jl_of, xl_lt, xl_gt, xl_eq, qV_at, qI_at, qJ_at, qD_at, qA_at, qA_no, nb0, nb1, cat_r, cat_i, Option.some.injEq, exists_eq_left', true_and, and_true, if_true, if_false, ite_not, not_true_eq_false, not_false_eq_true, Sum.inr.injEq, exists_eq_right', true_or, or_true, and_self, Int.cast_ofNat_Int, reduceCtorEq, or_false, false_or, false_and, and_false, jb_zero, lt7_0, lt7_1, lt7_2, lt7_3, lt7_4, lt7_5, lt7_6, c_X9_readLink_1, c_X9_readLink_2, c_X9_readLink_3, c_X9_readLink_4, c_X9_readLink_5, c_X9_readLink_6, c_X9_readLink_7, c_X9_readLink_8, u_X9_readLink, ↓reduceIte, ilt_t, ilt_f, ile_t, ile_f, ieq_t, ieq_f, jb_T, jb_F, jb_t, jb_f]
  refine f_wayHere hS2 h.2.1 ?_
  unfold pWv
  unfold yN at hK
  cases hr : pW l T p with
  | inl r =>
    obtain ⟨c, s⟩ := r
    rw [hr] at hK
    have hcs : c = 1 ∧ s = tB l T p := by
      unfold pW at hr
      (repeat' split at hr) <;> simp at hr
      omega
    obtain ⟨rfl, rfl⟩ := hcs
    simp only
    simp (disch := first | assumption | omega) only [RS_0, RS_1, RS_2, RS_3, RS_4, RS_5, RS_6, RS_7, RS_8, RS_9, RS_10, RS_11, RS_12, RS_13, RS_14, RS_15, RS_16, RS_17, RS_18, RS_19, RS_20, RS_21, RS_22, RS_23, RS_24, RS_25, RS_26, RS_27, RS_28, RS_29, RS_30, RS_31, RS_32, RS_33, RS_34, RS_35, RS_36, ji_add, ji_sub, ji_mul, ji_neg, ji_lit0, ji_ofNat, ji_lt, ji_le, ji_eq, ji_nat, ji_in, ji_rem, ji_div, jl_of, xl_lt, xl_gt, xl_eq, qV_at, qI_at, qJ_at, qD_at, qA_at, qA_no, nb0, nb1, cat_r, cat_i, Option.some.injEq, exists_eq_left', true_and, and_true, if_true, if_false, ite_not, not_true_eq_false, not_false_eq_true, Sum.inr.injEq, exists_eq_right', true_or, or_true, and_self, Int.cast_ofNat_Int, reduceCtorEq, or_false, false_or, false_and, and_false, jb_zero, lt7_0, lt7_1, lt7_2, lt7_3, lt7_4, lt7_5, lt7_6, c_X9_readLink_8, ↓reduceIte, ilt_t, ilt_f, ile_t, ile_f, ieq_t, ieq_f, jb_T, jb_F, jb_t, jb_f]
    refine f_fail hS2 g314 (fun ξ k h1 h2 => ?_)
    have hq := hK ξ (h.toM k h1 h2)
    simp (disch := first | assumption | omega) only [RS_0, RS_1, RS_2, RS_3, RS_4, RS_5, RS_6, RS_7, RS_8, RS_9, RS_10, RS_11, RS_12, RS_13, RS_14, RS_15, RS_16, RS_17, RS_18, RS_19, RS_20, RS_21, RS_22, RS_23, RS_24, RS_25, RS_26, RS_27, RS_28, RS_29, RS_30, RS_31, RS_32, RS_33, RS_34, RS_35, RS_36, ji_add, ji_sub, ji_mul, ji_neg, ji_lit0, ji_ofNat, ji_lt, ji_le, ji_eq, ji_nat, ji_in, ji_rem, ji_div, jl_of, xl_lt, xl_gt, xl_eq, qV_at, qI_at, qJ_at, qD_at, qA_at, qA_no, nb0, nb1, cat_r, cat_i, Option.some.injEq, exists_eq_left', true_and, and_true, if_true, if_false, ite_not, not_true_eq_false, not_false_eq_true, Sum.inr.injEq, exists_eq_right', true_or, or_true, and_self, Int.cast_ofNat_Int, reduceCtorEq, or_false, false_or, false_and, and_false, jb_zero, lt7_0, lt7_1, lt7_2, lt7_3, lt7_4, lt7_5, lt7_6, c_X9_readLink_1, nb0, ↓reduceIte, ilt_t, ilt_f, ile_t, ile_f, ieq_t, ieq_f, jb_T, jb_F, jb_t, jb_f]
    exact hq
  | inr r =>
    obtain ⟨y, p'⟩ := r
    have yb := pW_e hr
    rw [hr, bd_j] at hK
    simp only at yb hK
    obtain ⟨ye, -, y0, y1⟩ := yb
    subst ye
    have el := lka_nx g n0 n1 y0 y1
    have hnb := nx_b g n0 n1 y0 y1
    have fb := fun (Q : XQ) X => f_beside (μ := ν) (Q := Q) (X := X) (n := n) (y := y) hN.1 hN.2.1 hN.2.2.1 hN.2.2.2.1 n0 n1 (by omega) (by omega)
    have nv : ¬ y = -1 := by omega
    simp only
    by_cases hx : nx S.1 S.2.1 n y = -1
    · rw [if_pos hx] at el
      rw [if_pos el] at hK
      simp (disch := first | assumption | omega) only [RS_0, RS_1, RS_2, RS_3, RS_4, RS_5, RS_6, RS_7, RS_8, RS_9, RS_10, RS_11, RS_12, RS_13, RS_14, RS_15, RS_16, RS_17, RS_18, RS_19, RS_20, RS_21, RS_22, RS_23, RS_24, RS_25, RS_26, RS_27, RS_28, RS_29, RS_30, RS_31, RS_32, RS_33, RS_34, RS_35, RS_36, ji_add, ji_sub, ji_mul, ji_neg, ji_lit0, ji_ofNat, ji_lt, ji_le, ji_eq, ji_nat, ji_in, ji_rem, ji_div, jl_of, xl_lt, xl_gt, xl_eq, qV_at, qI_at, qJ_at, qD_at, qA_at, qA_no, nb0, nb1, cat_r, cat_i, Option.some.injEq, exists_eq_left', true_and, and_true, if_true, if_false, ite_not, not_true_eq_false, not_false_eq_true, Sum.inr.injEq, exists_eq_right', true_or, or_true, and_self, Int.cast_ofNat_Int, reduceCtorEq, or_false, false_or, false_and, and_false, jb_zero, lt7_0, lt7_1, lt7_2, lt7_3, lt7_4, lt7_5, lt7_6, c_X9_readLink_8, c_X9_readLink_7, nv, g1, g2, fb, hx, ↓reduceIte, ilt_t, ilt_f, ile_t, ile_f, ieq_t, ieq_f, jb_T, jb_F, jb_t, jb_f]
      refine f_fail hS2 g314 (fun ξ k h1 h2 => ?_)
      have hq := hK ξ (h.toM k h1 h2)
      simp (disch := first | assumption | omega) only [RS_0, RS_1, RS_2, RS_3, RS_4, RS_5, RS_6, RS_7, RS_8, RS_9, RS_10, RS_11, RS_12, RS_13, RS_14, RS_15, RS_16, RS_17, RS_18, RS_19, RS_20, RS_21, RS_22, RS_23, RS_24, RS_25, RS_26, RS_27, RS_28, RS_29, RS_30, RS_31, RS_32, RS_33, RS_34, RS_35, RS_36, ji_add, ji_sub, ji_mul, ji_neg, ji_lit0, ji_ofNat, ji_lt, ji_le, ji_eq, ji_nat, ji_in, ji_rem, ji_div, jl_of, xl_lt, xl_gt, xl_eq, qV_at, qI_at, qJ_at, qD_at, qA_at, qA_no, nb0, nb1, cat_r, cat_i, Option.some.injEq, exists_eq_left', true_and, and_true, if_true, if_false, ite_not, not_true_eq_false, not_false_eq_true, Sum.inr.injEq, exists_eq_right', true_or, or_true, and_self, Int.cast_ofNat_Int, reduceCtorEq, or_false, false_or, false_and, and_false, jb_zero, lt7_0, lt7_1, lt7_2, lt7_3, lt7_4, lt7_5, lt7_6, c_X9_readLink_2, nb0, ↓reduceIte, ilt_t, ilt_f, ile_t, ile_f, ieq_t, ieq_f, jb_T, jb_F, jb_t, jb_f]
      exact hq
    · have hl := (hnb.2.2.2 hx)
      have fn := fun (Q : XQ) X => f_numberOf (μ := ν) (Q := Q) (X := X) (n := n) (y := y) (o := nx S.1 S.2.1 n y) n0 (by omega) hnb.1 (by omega) y0 y1
      rw [if_neg hx] at el fn
      rw [← el] at fn hl
      have l0 : 0 ≤ lka S.1 S.2.1 (S.1 * S.2.1) n y ∧ lka S.1 S.2.1 (S.1 * S.2.1) n y < 72 := by omega
      rw [if_neg (by omega)] at hK
      generalize lka S.1 S.2.1 (S.1 * S.2.1) n y = r at *
      have hf := h.fld (S' := S) (z := r) (f := 318) (Or.inr (Or.inr (Or.inr rfl))) rfl rfl rfl rfl
      have hS3 := hS.mono hf.1.1.1
      have g3 : gI (sI ν 318 m (ji r)) 318 m = ji r := gI_sI_at _ _ _ _
      have g314' := hf.2.1.2.2.1
      have cell := hf.2.2.2 r (by omega) (by omega)
      simp only at cell
      have bz := hi.1.1.1.2.2.1 r (by omega) (by omega)
      have tail : ∀ {G : XM → Prop}, (b = 1 → ¬ S.2.2.2 (2 + r) = 1) → (∀ y, G y = (nb (ji 1) ∧ Q (some (.int (ji 1))) y)) → ∀ X', s_X9_advance (sI ν 318 m (ji r)) [.ref m] (qV G) X' := fun {G} hz hG X' => by
        refine f_next hS3 hf.2.1 (fun ξ k h1 => ?_)
        show G ξ
        rw [hG, nb1, true_and]
        exact hK.2 hz ξ (hf.ky k.y h1) ((k.y.2 318 (by omega)).trans g3)
      rcases hb with rfl | rfl
      · have hq := tail (G := c_X9_readLink_3 Q) (fun z => by omega) (fun _ => rfl) (fun _ _ => False)
        simp (disch := first | assumption | omega) only [RS_0, RS_1, RS_2, RS_3, RS_4, RS_5, RS_6, RS_7, RS_8, RS_9, RS_10, RS_11, RS_12, RS_13, RS_14, RS_15, RS_16, RS_17, RS_18, RS_19, RS_20, RS_21, RS_22, RS_23, RS_24, RS_25, RS_26, RS_27, RS_28, RS_29, RS_30, RS_31, RS_32, RS_33, RS_34, RS_35, RS_36, ji_add, ji_sub, ji_mul, ji_neg, ji_lit0, ji_ofNat, ji_lt, ji_le, ji_eq, ji_nat, ji_in, ji_rem, ji_div, jl_of, xl_lt, xl_gt, xl_eq, qV_at, qI_at, qJ_at, qD_at, qA_at, qA_no, nb0, nb1, cat_r, cat_i, Option.some.injEq, exists_eq_left', true_and, and_true, if_true, if_false, ite_not, not_true_eq_false, not_false_eq_true, Sum.inr.injEq, exists_eq_right', true_or, or_true, and_self, Int.cast_ofNat_Int, reduceCtorEq, or_false, false_or, false_and, and_false, jb_zero, lt7_0, lt7_1, lt7_2, lt7_3, lt7_4, lt7_5, lt7_6, c_X9_readLink_8, c_X9_readLink_7, c_X9_readLink_6, nv, g1, g2, fb, hx, fn, ↓reduceIte, ilt_t, ilt_f, ile_t, ile_f, ieq_t, ieq_f, jb_T, jb_F, jb_t, jb_f]
        exact hq
      · by_cases hd : S.2.2.2 (2 + r) = 1
        · simp (disch := first | assumption | omega) only [RS_0, RS_1, RS_2, RS_3, RS_4, RS_5, RS_6, RS_7, RS_8, RS_9, RS_10, RS_11, RS_12, RS_13, RS_14, RS_15, RS_16, RS_17, RS_18, RS_19, RS_20, RS_21, RS_22, RS_23, RS_24, RS_25, RS_26, RS_27, RS_28, RS_29, RS_30, RS_31, RS_32, RS_33, RS_34, RS_35, RS_36, ji_add, ji_sub, ji_mul, ji_neg, ji_lit0, ji_ofNat, ji_lt, ji_le, ji_eq, ji_nat, ji_in, ji_rem, ji_div, jl_of, xl_lt, xl_gt, xl_eq, qV_at, qI_at, qJ_at, qD_at, qA_at, qA_no, nb0, nb1, cat_r, cat_i, Option.some.injEq, exists_eq_left', true_and, and_true, if_true, if_false, ite_not, not_true_eq_false, not_false_eq_true, Sum.inr.injEq, exists_eq_right', true_or, or_true, and_self, Int.cast_ofNat_Int, reduceCtorEq, or_false, false_or, false_and, and_false, jb_zero, lt7_0, lt7_1, lt7_2, lt7_3, lt7_4, lt7_5, lt7_6, c_X9_readLink_8, c_X9_readLink_7, c_X9_readLink_6, nv, g1, g2, fb, hx, fn, g3, cell, hd, ↓reduceIte, ilt_t, ilt_f, ile_t, ile_f, ieq_t, ieq_f, jb_T, jb_F, jb_t, jb_f]
          refine f_fail hS3 g314' (fun ξ k h1 h2 => ?_)
          have hq := hK.1 rfl hd ξ (hf.toM k h1 h2)
          simp (disch := first | assumption | omega) only [RS_0, RS_1, RS_2, RS_3, RS_4, RS_5, RS_6, RS_7, RS_8, RS_9, RS_10, RS_11, RS_12, RS_13, RS_14, RS_15, RS_16, RS_17, RS_18, RS_19, RS_20, RS_21, RS_22, RS_23, RS_24, RS_25, RS_26, RS_27, RS_28, RS_29, RS_30, RS_31, RS_32, RS_33, RS_34, RS_35, RS_36, ji_add, ji_sub, ji_mul, ji_neg, ji_lit0, ji_ofNat, ji_lt, ji_le, ji_eq, ji_nat, ji_in, ji_rem, ji_div, jl_of, xl_lt, xl_gt, xl_eq, qV_at, qI_at, qJ_at, qD_at, qA_at, qA_no, nb0, nb1, cat_r, cat_i, Option.some.injEq, exists_eq_left', true_and, and_true, if_true, if_false, ite_not, not_true_eq_false, not_false_eq_true, Sum.inr.injEq, exists_eq_right', true_or, or_true, and_self, Int.cast_ofNat_Int, reduceCtorEq, or_false, false_or, false_and, and_false, jb_zero, lt7_0, lt7_1, lt7_2, lt7_3, lt7_4, lt7_5, lt7_6, c_X9_readLink_4, nb0, ↓reduceIte, ilt_t, ilt_f, ile_t, ile_f, ieq_t, ieq_f, jb_T, jb_F, jb_t, jb_f]
          exact hq
        · have hq := tail (G := c_X9_readLink_5 Q) (fun _ => hd) (fun _ => rfl) (fun _ _ => False)
          have hd0 : S.2.2.2 (2 + r) = 0 := by omega
          simp (disch := first | assumption | omega) only [RS_0, RS_1, RS_2, RS_3, RS_4, RS_5, RS_6, RS_7, RS_8, RS_9, RS_10, RS_11, RS_12, RS_13, RS_14, RS_15, RS_16, RS_17, RS_18, RS_19, RS_20, RS_21, RS_22, RS_23, RS_24, RS_25, RS_26, RS_27, RS_28, RS_29, RS_30, RS_31, RS_32, RS_33, RS_34, RS_35, RS_36, ji_add, ji_sub, ji_mul, ji_neg, ji_lit0, ji_ofNat, ji_lt, ji_le, ji_eq, ji_nat, ji_in, ji_rem, ji_div, jl_of, xl_lt, xl_gt, xl_eq, qV_at, qI_at, qJ_at, qD_at, qA_at, qA_no, nb0, nb1, cat_r, cat_i, Option.some.injEq, exists_eq_left', true_and, and_true, if_true, if_false, ite_not, not_true_eq_false, not_false_eq_true, Sum.inr.injEq, exists_eq_right', true_or, or_true, and_self, Int.cast_ofNat_Int, reduceCtorEq, or_false, false_or, false_and, and_false, jb_zero, lt7_0, lt7_1, lt7_2, lt7_3, lt7_4, lt7_5, lt7_6, c_X9_readLink_8, c_X9_readLink_7, c_X9_readLink_6, nv, g1, g2, fb, hx, fn, g3, cell, hd0, ↓reduceIte, ilt_t, ilt_f, ile_t, ile_f, ieq_t, ieq_f, jb_T, jb_F, jb_t, jb_f]
          exact hq
end
