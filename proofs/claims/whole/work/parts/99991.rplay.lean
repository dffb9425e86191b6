/-! ===== the reference: play ===== -/
abbrev inM' (m a : Nat) : Prop := m ≤ a ∧ a < m + 13
def RLd (μ : XM) (m : Nat) (Q : XQ) (r : AR) : Prop := ∀ μ', CH (inM' m) μ' μ → MS μ' m r.1 → gI μ' 298 m = ji 0 → Q (some (.int (ji r.2.2))) μ'
section
variable {μ ν : XM} {m : Nat} {Q : XQ} {X : XX} {A : AS} {f l e p : Int} {C : Nat → Prop}
theorem RM.frame (h : RM μ m f A) (hc : CH C ν μ) (h1 : ¬ C (m + 1)) (h2 : ¬ C (m + 2)) (h9 : ¬ C (m + 9)) (h10 : ¬ C (m + 10)) : RM ν m f A := by
  obtain ⟨h4, ⟨h5, h6, h7⟩, h8, h11⟩ := h
  have g1 := (hc.2 (m + 1) h1).2.2.1
  have g2 := (hc.2 (m + 2) h2).2.2.1
  have g9 := (hc.2 (m + 9) h9).2.2.1
  have g10 := (hc.2 (m + 10) h10).2.2.1
  refine ⟨fun j j0 j1 i i0 i1 => ?_, ⟨?_, ?_, fun p p0 p1 hp i i0 i1 => ?_⟩, fun i i0 i1 => ?_, fun i i0 i1 => ?_⟩
  · rw [g1]; exact h4 j j0 j1 i i0 i1
  · rw [g2]; exact h5
  · rw [g2]; exact h6
  · rw [g1]; exact h7 p p0 p1 hp i i0 i1
  · rw [g10]; exact h8 i i0 i1
  · rw [g9]; exact h11 i i0 i1
theorem MS.of (hS : RS ν m) (g292 : gI ν 292 m = ji A.1.1) (g293 : gI ν 293 m = ji A.1.2.1) (g294 : gI ν 294 m = ji A.1.2.2.2) (g291 : gI ν 291 m = ji A.2.2.1.1) (g290 : gI ν 290 m = ji f) (f0 : 0 ≤ f) (f1 : f < 12) (g309 : gI ν 309 m = ji A.2.2.2.2.1.1) (g311 : gI ν 311 m = ji A.2.2.2.2.2.1.1) (g312 : gI ν 312 m = ji A.2.2.2.2.2.1.2) (g307 : gI ν 307 m = ji A.2.2.2.2.2.2.1) (hM : RM ν m f A) (hz : ∀ i : Nat, i < 5666 → aI ν (m + 1) i = ji (A.2.1 i)) : MS ν m A := by
  refine ⟨hS, fun k => if k = 292 then A.1.1 else if k = 293 then A.1.2.1 else if k = 294 then A.1.2.2.2 else if k = 291 then A.2.2.1.1 else if k = 290 then f else if k = 309 then A.2.2.2.2.1.1 else if k = 311 then A.2.2.2.2.2.1.1 else if k = 312 then A.2.2.2.2.2.1.2 else if k = 307 then A.2.2.2.2.2.2.1 else (gI ν k m).toInt, fun k => ?_, ⟨rfl, rfl, rfl, rfl, f0, f1, rfl, rfl, rfl, rfl⟩, hM, hz⟩
  by_cases h1 : k = 292
  · rw [h1]; exact g292
  by_cases h2 : k = 293
  · rw [h2]; exact g293
  by_cases h3 : k = 294
  · rw [h3]; exact g294
  by_cases h4 : k = 291
  · rw [h4]; exact g291
  by_cases h5 : k = 290
  · rw [h5]; exact g290
  by_cases h6 : k = 309
  · rw [h6]; exact g309
  by_cases h7 : k = 311
  · rw [h7]; exact g311
  by_cases h8 : k = 312
  · rw [h8]; exact g312
  by_cases h9 : k = 307
  · rw [h9]; exact g307
  dsimp only
  rw [if_neg h1, if_neg h2, if_neg h3, if_neg h4, if_neg h5, if_neg h6, if_neg h7, if_neg h8, if_neg h9]
  exact ji_of _
/-- the text is taken away, an error is noted -/
theorem MS.tx (h : MS μ m A) (hc : CH C ν μ) (hs : ∀ a, C a → a = m ∨ a = m + 11 ∨ a = m + 12) (hk : ∀ k, k < 309 → (k < 295 ∨ 298 < k) → gI ν k m = gI μ k m) (g309 : gI ν 309 m = ji 0) (g311 : gI ν 311 m = ji e) (g312 : gI ν 312 m = ji p) : MS ν m (wTx A 0 e p) := by
  obtain ⟨hS, F, h2, ⟨f1, f2, f3, f4, f5, f6, f7, f8, f9, f10⟩, hM, hz⟩ := h
  have hn : ∀ a, a ≠ m → a ≠ m + 11 → a ≠ m + 12 → ¬ C a := fun a a0 a1 a2 q => by have := hs a q; omega
  have hM2 := hM.frame hc (hn _ (by omega) (by omega) (by omega)) (hn _ (by omega) (by omega) (by omega)) (hn _ (by omega) (by omega) (by omega)) (hn _ (by omega) (by omega) (by omega))
  have g : ∀ k, k < 309 → (k < 295 ∨ 298 < k) → gI ν k m = ji (F k) := fun k h1 h3 => (hk k h1 h3).trans (h2 k)
  refine MS.of (A := wTx A 0 e p) (f := F 290) (hS.mono hc.1) ((g 292 (by omega) (by omega)).trans (by rw [f1]; rfl)) ((g 293 (by omega) (by omega)).trans (by rw [f2]; rfl)) ((g 294 (by omega) (by omega)).trans (by rw [f3]; rfl)) ((g 291 (by omega) (by omega)).trans (by rw [f4]; rfl)) (g 290 (by omega) (by omega)) f5 f6 g309 g311 g312 ((g 307 (by omega) (by omega)).trans (by rw [f10]; rfl)) ⟨hM2.1, hM2.2.1, fun i i0 i1 => ?_, hM2.2.2.2⟩ (fun i hi => ?_)
  · have i1 : i < 0 := i1
    omega
  · rw [(hc.2 (m + 1) (hn _ (by omega) (by omega) (by omega))).2.2.1]
    exact hz i hi
/-- with known fields -/
theorem MS.get5 {n : Int} (h : MS μ m A) (g298 : gI μ 298 m = ji 0) (g320 : gI μ 320 m = ji n) : ∃ F, RF F A ∧ RM μ m (F 290) A ∧ pz (pf μ m F) m A.2.1 = μ ∧ RS μ m ∧ F 298 = 0 ∧ F 320 = n := by
  obtain ⟨h1, F, h2, h3, h4, h5⟩ := h
  refine ⟨fu (fu F 298 0) 320 n, h3, h4, ?_, h1, rfl, rfl⟩
  rw [pf_id (F := fu (fu F 298 0) 320 n), pz_id h5]
  intro k
  by_cases k1 : k = 320
  · rw [k1]; exact g320
  by_cases k2 : k = 298
  · rw [k2]; exact g298
  have e : fu (fu F 298 0) 320 n k = F k := by
    unfold fu
    rw [if_neg k1, if_neg k2]
  rw [e]
  exact h2 k
theorem f_plays {n : Int} {R : Int → Int} {K : Int → Int × Int × Int × Int} (n40 : n ≤ 40) (hK : ∀ k, 0 ≤ k → k < n → RO R k (K k) ∧ CB (K k)) : ∀ (d mf : Nat) (k : Int) (A1 : AS) (ν : XM), k + d = n → d < mf → 0 ≤ k → CH (inM' m) ν μ → MS ν m A1 → INV A1 → gI ν 298 m = ji 0 → gI ν 320 m = ji n → MR ν (m + 12) 160 R → RLd μ m Q (plz K d k A1) → ln_X9_play_49 Q X mf [some (.ref m), none, some (.int (ji k))] [] ν 0 0 := by
  intro d
  induction d with
  | zero =>
    intro mf k A1 ν hd hm k0 c1 hx hi g0 g hR hQ
    obtain ⟨mf, rfl⟩ : ∃ j, mf = j + 1 := ⟨mf - 1, by omega⟩
    obtain rfl : k = n := by omega
    have hS := hx.1
    have hq := hQ ν c1 hx g0
    rw [ul_X9_play_49]
    simp (disch := first | assumption | omega) only [RS_0, RS_1, RS_2, RS_3, RS_4, RS_5, RS_6, RS_7, RS_8, RS_9, RS_10, RS_11, RS_12, RS_13, RS_14, RS_15, RS_16, RS_17, RS_18, RS_19, RS_20, RS_21, RS_22, RS_23, RS_24, RS_25, RS_26, RS_27, RS_28, RS_29, RS_30, RS_31, RS_32, RS_33, RS_34, RS_35, RS_36, ji_add, ji_sub, ji_mul, ji_neg, ji_lit0, ji_ofNat, ji_lt, ji_le, ji_eq, ji_nat, ji_in, ji_rem, ji_div, jl_of, xl_lt, xl_gt, xl_eq, qV_at, qI_at, qJ_at, qD_at, qA_at, qA_no, nb0, nb1, cat_r, cat_i, Option.some.injEq, exists_eq_left', true_and, and_true, if_true, if_false, ite_not, not_true_eq_false, not_false_eq_true, Sum.inr.injEq, exists_eq_right', true_or, or_true, and_self, Int.cast_ofNat_Int, reduceCtorEq, or_false, false_or, false_and, and_false, jb_zero, lt7_0, lt7_1, lt7_2, lt7_3, lt7_4, lt7_5, lt7_6, g, ↓reduceIte, ilt_t, ilt_f, ile_t, ile_f, ieq_t, ieq_f, jb_T, jb_F, jb_t, jb_f]
    exact hq
  | succ d ih =>
    intro mf k A1 ν hd hm k0 c1 hx hi g0 g hR hQ
    obtain ⟨mf, rfl⟩ : ∃ j, mf = j + 1 := ⟨mf - 1, by omega⟩
    have hS := hx.1
    have hk := hK k k0 (by omega)
    obtain ⟨F, hF, hM, e, -, h0, h5⟩ := hx.get5 g0 g
    unfold plz at hQ
    rw [ul_X9_play_49]
    simp (disch := first | assumption | omega) only [RS_0, RS_1, RS_2, RS_3, RS_4, RS_5, RS_6, RS_7, RS_8, RS_9, RS_10, RS_11, RS_12, RS_13, RS_14, RS_15, RS_16, RS_17, RS_18, RS_19, RS_20, RS_21, RS_22, RS_23, RS_24, RS_25, RS_26, RS_27, RS_28, RS_29, RS_30, RS_31, RS_32, RS_33, RS_34, RS_35, RS_36, ji_add, ji_sub, ji_mul, ji_neg, ji_lit0, ji_ofNat, ji_lt, ji_le, ji_eq, ji_nat, ji_in, ji_rem, ji_div, jl_of, xl_lt, xl_gt, xl_eq, qV_at, qI_at, qJ_at, qD_at, qA_at, qA_no, nb0, nb1, cat_r, cat_i, Option.some.injEq, exists_eq_left', true_and, and_true, if_true, if_false, ite_not, not_true_eq_false, not_false_eq_true, Sum.inr.injEq, exists_eq_right', true_or, or_true, and_self, Int.cast_ofNat_Int, reduceCtorEq, or_false, false_or, false_and, and_false, jb_zero, lt7_0, lt7_1, lt7_2, lt7_3, lt7_4, lt7_5, lt7_6, g, ↓reduceIte, ilt_t, ilt_f, ile_t, ile_f, ieq_t, ieq_f, jb_T, jb_F, jb_t, jb_f]
    have hd := f_isDone (Q := qI (c_X9_play_3 Q (ji k) X mf m 0 0)) (X := fun _ _ => False) hS hF hM hi h0 hR hk.1 hk.2 k0 (by omega) (fun y y1 y2 y3 y4 => ?_)
    · rw [e] at hd
      exact hd
    rw [h5] at y4
    have c2 : CH (inM' m) y μ := CH.trans (y1.mono (fun a ha => ⟨ha.1, by have := ha.2; omega⟩)) c1
    have hS2 := y2.1
    have hR2 : MR y (m + 12) 160 R := hR.frame y1 (by unfold inM; omega)
    by_cases h0 : 0 ≤ (oDo A1 (K k)).2.2
    · rw [if_pos h0] at hQ
      have hn := ih mf (k + 1) _ y (by omega) (by omega) (by omega) c2 y2 (inv_do hi hk.2) y3 y4 hR2 hQ
      rw [jb_t _ h0]
      simp (disch := first | assumption | omega) only [RS_0, RS_1, RS_2, RS_3, RS_4, RS_5, RS_6, RS_7, RS_8, RS_9, RS_10, RS_11, RS_12, RS_13, RS_14, RS_15, RS_16, RS_17, RS_18, RS_19, RS_20, RS_21, RS_22, RS_23, RS_24, RS_25, RS_26, RS_27, RS_28, RS_29, RS_30, RS_31, RS_32, RS_33, RS_34, RS_35, RS_36, ji_add, ji_sub, ji_mul, ji_neg, ji_lit0, ji_ofNat, ji_lt, ji_le, ji_eq, ji_nat, ji_in, ji_rem, ji_div, jl_of, xl_lt, xl_gt, xl_eq, qV_at, qI_at, qJ_at, qD_at, qA_at, qA_no, nb0, nb1, cat_r, cat_i, Option.some.injEq, exists_eq_left', true_and, and_true, if_true, if_false, ite_not, not_true_eq_false, not_false_eq_true, Sum.inr.injEq, exists_eq_right', true_or, or_true, and_self, Int.cast_ofNat_Int, reduceCtorEq, or_false, false_or, false_and, and_false, jb_zero, lt7_0, lt7_1, lt7_2, lt7_3, lt7_4, lt7_5, lt7_6, c_X9_play_3, ↓reduceIte, ilt_t, ilt_f, ile_t, ile_f, ieq_t, ieq_f, jb_T, jb_F, jb_t, jb_f]
      exact hn
    · rw [if_neg h0] at hQ
      have hq := hQ y c2 y2 y3
      rw [jb_f _ h0]
      simp (disch := first | assumption | omega) only [RS_0, RS_1, RS_2, RS_3, RS_4, RS_5, RS_6, RS_7, RS_8, RS_9, RS_10, RS_11, RS_12, RS_13, RS_14, RS_15, RS_16, RS_17, RS_18, RS_19, RS_20, RS_21, RS_22, RS_23, RS_24, RS_25, RS_26, RS_27, RS_28, RS_29, RS_30, RS_31, RS_32, RS_33, RS_34, RS_35, RS_36, ji_add, ji_sub, ji_mul, ji_neg, ji_lit0, ji_ofNat, ji_lt, ji_le, ji_eq, ji_nat, ji_in, ji_rem, ji_div, jl_of, xl_lt, xl_gt, xl_eq, qV_at, qI_at, qJ_at, qD_at, qA_at, qA_no, nb0, nb1, cat_r, cat_i, Option.some.injEq, exists_eq_left', true_and, and_true, if_true, if_false, ite_not, not_true_eq_false, not_false_eq_true, Sum.inr.injEq, exists_eq_right', true_or, or_true, and_self, Int.cast_ofNat_Int, reduceCtorEq, or_false, false_or, false_and, and_false, jb_zero, lt7_0, lt7_1, lt7_2, lt7_3, lt7_4, lt7_5, lt7_6, c_X9_play_3, ↓reduceIte, ilt_t, ilt_f, ile_t, ile_f, ieq_t, ieq_f, jb_T, jb_F, jb_t, jb_f]
      exact hq
theorem r_play (hM : MS μ m A) (hi : INV A) (hQ : RLd μ m Q (xPlay A)) : s_X9_play μ [.ref m] Q X := by
  have hS := hM.1
  have hi4 := hi.2.2.2.1
  obtain ⟨F, hF, hR, e, -⟩ := hM.get
  have g309 : gI μ 309 m = ji A.2.2.2.2.1.1 := by rw [← e, ← hF.2.2.2.2.2.2.1]; exact pzf_g
  have hT : ∀ i, 0 ≤ i → i < A.2.2.2.2.1.1 → aI μ (m + 10) i.toNat &&& ji 255 = ji (A.2.2.2.2.1.2 i) ∧ 0 ≤ A.2.2.2.2.1.2 i ∧ A.2.2.2.2.1.2 i < 256 := fun i i0 i1 => ⟨hR.2.2.1 i i0 i1, hi4.2.2 i i0 i1⟩
  have k1 : ∀ k, k ≠ 298 → k ≠ 320 → gI (sI (sI μ 298 m (ji 0)) 320 m (ji 0)) k m = gI μ k m := fun k h1 h2 => (gI_sI_k _ _ _ _ _ _ h2).trans (gI_sI_k _ _ _ _ _ _ h1)
  have k2 : gI (sI (sI μ 298 m (ji 0)) 320 m (ji 0)) 298 m = ji 0 := (gI_sI_k _ _ _ _ _ _ (by omega)).trans (gI_sI_at _ _ _ _)
  have k3 : gI (sI (sI μ 298 m (ji 0)) 320 m (ji 0)) 320 m = ji 0 := gI_sI_at _ _ _ _
  have c1 : CH (fun a => a = m) (sI (sI μ 298 m (ji 0)) 320 m (ji 0)) μ := CH.sI (S := fun a => a = m) (CH.sI (S := fun a => a = m) (CH.refl _ μ) _ _ _ rfl) _ _ _ rfl
  have hS1 := hS.mono c1.1
  rw [u_X9_play]
  refine ⟨RS_0 hS, RS_0 hS, RS_0 hS, ?_⟩
  generalize sI (sI μ 298 m (ji 0)) 320 m (ji 0) = ν at *
  refine f_beginText hS1 hi4.1 hi4.2.1 ((k1 309 (by omega) (by omega)).trans g309) (fun i i0 i1 => by rw [(c1.2 (m + 10) (by omega)).2.2.1]; exact hT i i0 i1) (fun ξ hk hrc => ?_)
  show c_X9_play_1 Q X m ξ
  rw [c_X9_play_1, l_X9_play_16, xseal_eq]
  have hs : QS ξ ν m A.2.2.2.2.1.1 A.2.2.2.2.1.2 0 (fun i => (aI ξ (m + 12) i.toNat).toInt) 0 0 (-1) := ⟨⟨hk.1.mono (fun a ha => Or.inl ha), fun k h => hk.2 k (by omega)⟩, hrc, (hk.2 320 (by omega)).trans k3, MR.own _ _ _⟩
  refine f_commands (μ := ν) hS1 1001 10000 0 0 ξ _ (fun _ => (0, 0, 0, 0)) (by omega) (by omega) (by omega) (by omega) hs (fun k z0 z1 => by omega) ?_
  unfold xPlay at hQ
  have tx : ∀ (y : XM) (c s : Int), CH (fun a => a = m ∨ a = m + 12) y ν → (∀ k, k < 310 → gI y k m = gI ν k m) → gI y 311 m = ji c → gI y 312 m = ji s → CH (fun a => a = m ∨ a = m + 12) (sI y 309 m (ji 0)) μ ∧ MS (sI y 309 m (ji 0)) m (wTx A 0 c s) ∧ gI (sI y 309 m (ji 0)) 298 m = ji 0 := fun y c s h1 h2 h3 h4 => by
    have a1 : CH (fun a => a = m ∨ a = m + 12) (sI y 309 m (ji 0)) μ := (CH.trans h1 (c1.mono (fun a ha => Or.inl ha))).sI _ _ _ (Or.inl rfl)
    exact ⟨a1, hM.tx a1 (fun a ha => by omega) (fun k z1 z2 => (gI_sI_k _ _ _ _ _ _ (by omega)).trans ((h2 k (by omega)).trans (k1 k (by omega) (by omega)))) (gI_sI_at _ _ _ _) ((gI_sI_k _ _ _ _ _ _ (by omega)).trans h3) ((gI_sI_k _ _ _ _ _ _ (by omega)).trans h4), (gI_sI_k _ _ _ _ _ _ (by omega)).trans ((h2 298 (by omega)).trans k2)⟩
  cases hr : pA A.2.2.2.2.1.1 A.2.2.2.2.1.2 1001 0 0 (fun _ => (0, 0, 0, 0)) with
  | inl r =>
    obtain ⟨c, s⟩ := r
    rw [hr] at hQ
    intro y hf
    obtain ⟨a1, a2, a3⟩ := tx y c s hf.1 (fun k hk => hf.2.1 k (Or.inl hk)) hf.2.2.1 hf.2.2.2
    exact hQ _ (a1.mono (fun a ha => by unfold inM'; omega)) a2 a3
  | inr r =>
    obtain ⟨n, K⟩ := r
    rw [hr] at hQ
    intro y R p hs2 hn hro
    have hrc := hs2.2.1
    obtain ⟨a1, a2, a3⟩ := tx y 0 (-1) hs2.1.1 (fun k hk => hs2.1.2 k (Or.inl hk)) hrc.2.2.2.2.2.1 hrc.2.2.2.2.2.2
    have hb := pA_b (l := A.2.2.2.2.1.1) (T := A.2.2.2.2.1.2) 1001 0 0 _ n K (fun k k0 k1 => by omega) hr
    have c0 : CH (fun a => a = m) (sI y 309 m (ji 0)) y := CH.sI (S := fun a => a = m) (CH.refl _ y) _ _ _ rfl
    rw [l_X9_play_49, xseal_eq]
    exact f_plays hn.2 (fun k z0 z1 => ⟨hro k z0 z1, hb k z0 z1⟩) n.toNat 10000 0 _ _ (by omega) (by omega) (by omega) (a1.mono (fun a ha => by unfold inM'; omega)) a2 (inv_tx hi) a3 ((gI_sI_k _ _ _ _ _ _ (by omega)).trans hs2.2.2.1) (hs2.2.2.2.frame c0 (by omega)) hQ
end
