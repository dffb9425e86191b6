/-! ===== the reference: load, whole ===== -/
section
variable {μ ν ξ : XM} {m : Nat} {l p k : Int} {T : Int → Int} {S : YS} {A : AS} {Q : XQ} {X : XX}
theorem r_load (hM : MS μ m A) (hi : INV A) (hQ : RLd μ m Q (xLoad A)) : s_X9_load μ [.ref m] Q X := by
  have hS := hM.1
  have hi4 := hi.2.2.2.1
  obtain ⟨F, hF, hR, e, -⟩ := hM.get
  have g309 : gI μ 309 m = ji A.2.2.2.2.1.1 := by rw [← e, ← hF.2.2.2.2.2.2.1]; exact pzf_g
  have g290 : gI μ 290 m = ji (F 290) := by rw [← e]; exact pzf_g
  have g307 : gI μ 307 m = ji A.2.2.2.2.2.2.1 := by rw [← e, ← hF.2.2.2.2.2.2.2.2.2]; exact pzf_g
  have hRM : RM μ m (F 290) A := hR
  have hT : ∀ i, 0 ≤ i → i < A.2.2.2.2.1.1 → aI μ (m + 10) i.toNat &&& ji 255 = ji (A.2.2.2.2.1.2 i) ∧ 0 ≤ A.2.2.2.2.1.2 i ∧ A.2.2.2.2.1.2 i < 256 := fun i i0 i1 => ⟨hR.2.2.1 i i0 i1, hi4.2.2 i i0 i1⟩
  have k1 : ∀ k, k ≠ 298 → k ≠ 295 → k ≠ 296 → k ≠ 297 → gI (sI (sI (sI (sI μ 298 m (ji 0)) 295 m (ji 1)) 296 m (ji 1)) 297 m (ji (-1))) k m = gI μ k m := fun k h1 h2 h3 h4 => (gI_sI_k _ _ _ _ _ _ h4).trans ((gI_sI_k _ _ _ _ _ _ h3).trans ((gI_sI_k _ _ _ _ _ _ h2).trans (gI_sI_k _ _ _ _ _ _ h1)))
  have k5 : gI (sI (sI (sI (sI μ 298 m (ji 0)) 295 m (ji 1)) 296 m (ji 1)) 297 m (ji (-1))) 297 m = ji (-1) := gI_sI_at _ _ _ _
  have k4 : gI (sI (sI (sI (sI μ 298 m (ji 0)) 295 m (ji 1)) 296 m (ji 1)) 297 m (ji (-1))) 296 m = ji 1 := (gI_sI_k _ _ _ _ _ _ (by omega)).trans (gI_sI_at _ _ _ _)
  have k3 : gI (sI (sI (sI (sI μ 298 m (ji 0)) 295 m (ji 1)) 296 m (ji 1)) 297 m (ji (-1))) 295 m = ji 1 := (gI_sI_k _ _ _ _ _ _ (by omega)).trans ((gI_sI_k _ _ _ _ _ _ (by omega)).trans (gI_sI_at _ _ _ _))
  have k2 : gI (sI (sI (sI (sI μ 298 m (ji 0)) 295 m (ji 1)) 296 m (ji 1)) 297 m (ji (-1))) 298 m = ji 0 := (gI_sI_k _ _ _ _ _ _ (by omega)).trans ((gI_sI_k _ _ _ _ _ _ (by omega)).trans ((gI_sI_k _ _ _ _ _ _ (by omega)).trans (gI_sI_at _ _ _ _)))
  have c1 : CH (fun a => a = m) (sI (sI (sI (sI μ 298 m (ji 0)) 295 m (ji 1)) 296 m (ji 1)) 297 m (ji (-1))) μ := CH.sI (S := fun a => a = m) (CH.sI (S := fun a => a = m) (CH.sI (S := fun a => a = m) (CH.sI (S := fun a => a = m) (CH.refl _ μ) _ _ _ rfl) _ _ _ rfl) _ _ _ rfl) _ _ _ rfl
  have hS1 := hS.mono c1.1
  rw [u_X9_load]
  refine ⟨RS_0 hS, RS_0 hS, RS_0 hS, RS_0 hS, ?_⟩
  generalize sI (sI (sI (sI μ 298 m (ji 0)) 295 m (ji 1)) 296 m (ji 1)) 297 m (ji (-1)) = ν at *
  rw [l_X9_load_22, xseal_eq]
  refine f_told hS1 (fun ν2 c2 hr2 => ?_) 2664 10000 0 ν (by omega) (by omega) (by omega) (CH.refl _ _) (fun i i0 i1 => by omega)
  have hS2 := hS1.mono c2.1
  have f2 : ∀ k, gI ν2 k m = gI ν k m := (c2.2 m (by omega)).1
  refine f_beginText hS2 hi4.1 hi4.2.1 ((f2 309).trans ((k1 309 (by omega) (by omega) (by omega) (by omega)).trans g309)) (fun i i0 i1 => by rw [(c2.2 (m + 10) (by omega)).2.2.1, (c1.2 (m + 10) (by omega)).2.2.1]; exact hT i i0 i1) (fun ν3 hk3 hrc => ?_)
  have hs : QL ν3 ν m A.2.2.2.2.1.1 A.2.2.2.2.1.2 (1, 1, -1, zemp) 0 0 (-1) := ⟨⟨CH.trans (hk3.1.mono (fun a ha => Or.inl ha)) (c2.mono (fun a ha => Or.inr ha)), fun k h => (hk3.2 k (by omega)).trans (f2 k)⟩, hrc, ⟨(hk3.2 295 (by omega)).trans ((f2 295).trans k3), (hk3.2 296 (by omega)).trans ((f2 296).trans k4), (hk3.2 297 (by omega)).trans ((f2 297).trans k5)⟩, hr2.frame hk3.1 (by omega)⟩
  show c_X9_load_1 Q X m 0 0 ν3
  rw [c_X9_load_1, l_X9_load_60, xseal_eq]
  refine f_loads (μ := ν) hS1 1001 10000 0 0 ν3 _ (by omega) (by omega) (by omega) (by omega) hi4.1 hi4.2.1 hs yI_0 ?_
  unfold xLoad at hQ
  cases hr : yM A.2.2.2.2.1.1 A.2.2.2.2.1.2 1001 0 0 (1, 1, -1, zemp) with
  | inl r =>
    obtain ⟨c, s⟩ := r
    rw [hr] at hQ
    intro y hf
    have hS4 := hS1.mono hf.1.1.1
    have a1 : CH (fun a => a = m ∨ a = m + 11) (sI y 309 m (ji 0)) μ := (CH.trans hf.1.1 (c1.mono (fun a ha => Or.inl ha))).sI _ _ _ (Or.inl rfl)
    have a2 : MS (sI y 309 m (ji 0)) m (wTx A 0 c s) := hM.tx a1 (fun a ha => by omega) (fun k z1 z2 => (gI_sI_k _ _ _ _ _ _ (by omega)).trans ((hf.1.2 k (by omega)).trans (k1 k (by omega) (by omega) (by omega) (by omega)))) (gI_sI_at _ _ _ _) ((gI_sI_k _ _ _ _ _ _ (by omega)).trans hf.2.1) ((gI_sI_k _ _ _ _ _ _ (by omega)).trans hf.2.2)
    have a3 : gI (sI y 309 m (ji 0)) 298 m = ji 0 := (gI_sI_k _ _ _ _ _ _ (by omega)).trans ((hf.1.2 298 (by omega)).trans k2)
    have hq := hQ _ (a1.mono (fun a ha => by unfold inM'; omega)) a2 a3
    simp (disch := first | assumption | omega) only [RS_0, RS_1, RS_2, RS_3, RS_4, RS_5, RS_6, RS_7, RS_8, RS_9, RS_10, RS_11, RS_12, RS_13, RS_14, RS_15, RS_16, RS_17, RS_18, RS_19, RS_20, RS_21, RS_22, RS_23, RS_24, RS_25, RS_26, RS_27, RS_28, RS_29, RS_30, RS_31, RS_32, RS_33, RS_34, RS_35, RS_36, ji_add, ji_sub, ji_mul, ji_neg, ji_lit0, ji_ofNat, ji_lt, ji_le, ji_eq, ji_nat, ji_in, ji_rem, ji_div, jl_of, xl_lt, xl_gt, xl_eq, qV_at, qI_at, qJ_at, qD_at, qA_at, qA_no, nb0, nb1, cat_r, cat_i, Option.some.injEq, exists_eq_left', true_and, and_true, if_true, if_false, ite_not, not_true_eq_false, not_false_eq_true, Sum.inr.injEq, exists_eq_right', true_or, or_true, and_self, Int.cast_ofNat_Int, reduceCtorEq, or_false, false_or, false_and, and_false, jb_zero, lt7_0, lt7_1, lt7_2, lt7_3, lt7_4, lt7_5, lt7_6, uj_X9_load_91, ↓reduceIte, ilt_t, ilt_f, ile_t, ile_f, ieq_t, ieq_f, jb_T, jb_F, jb_t, jb_f]
    exact hq
  | inr S =>
    rw [hr] at hQ
    intro y k p hs hy
    have hS4 := hS1.mono hs.1.1.1
    obtain ⟨h5, h6, h7⟩ := hs.2.2.1
    have hB := hy.1.1.1.1
    have hsb := sst_b hy
    have hst := hy.2.2.2.1
    have c9 : CH (fun a => a = m) (sI (sI (sI (sI y 309 m (ji 0)) 292 m (ji S.1)) 293 m (ji S.2.1)) 294 m (ji (sst S.2.2.1))) y := CH.sI (S := fun a => a = m) (CH.sI (S := fun a => a = m) (CH.sI (S := fun a => a = m) (CH.sI (S := fun a => a = m) (CH.refl _ y) _ _ _ rfl) _ _ _ rfl) _ _ _ rfl) _ _ _ rfl
    have hS9 := hS4.mono c9.1
    have d94 : gI (sI (sI (sI (sI y 309 m (ji 0)) 292 m (ji S.1)) 293 m (ji S.2.1)) 294 m (ji (sst S.2.2.1))) 294 m = ji (sst S.2.2.1) := gI_sI_at _ _ _ _
    have d93 : gI (sI (sI (sI (sI y 309 m (ji 0)) 292 m (ji S.1)) 293 m (ji S.2.1)) 294 m (ji (sst S.2.2.1))) 293 m = ji S.2.1 := (gI_sI_k _ _ _ _ _ _ (by omega)).trans (gI_sI_at _ _ _ _)
    have d92 : gI (sI (sI (sI (sI y 309 m (ji 0)) 292 m (ji S.1)) 293 m (ji S.2.1)) 294 m (ji (sst S.2.2.1))) 292 m = ji S.1 := (gI_sI_k _ _ _ _ _ _ (by omega)).trans ((gI_sI_k _ _ _ _ _ _ (by omega)).trans (gI_sI_at _ _ _ _))
    have d09 : gI (sI (sI (sI (sI y 309 m (ji 0)) 292 m (ji S.1)) 293 m (ji S.2.1)) 294 m (ji (sst S.2.2.1))) 309 m = ji 0 := (gI_sI_k _ _ _ _ _ _ (by omega)).trans ((gI_sI_k _ _ _ _ _ _ (by omega)).trans ((gI_sI_k _ _ _ _ _ _ (by omega)).trans (gI_sI_at _ _ _ _)))
    have dk : ∀ k, k ≠ 309 → k ≠ 292 → k ≠ 293 → k ≠ 294 → gI (sI (sI (sI (sI y 309 m (ji 0)) 292 m (ji S.1)) 293 m (ji S.2.1)) 294 m (ji (sst S.2.2.1))) k m = gI y k m := fun k h1 h2 h3 h4 => (gI_sI_k _ _ _ _ _ _ h4).trans ((gI_sI_k _ _ _ _ _ _ h3).trans ((gI_sI_k _ _ _ _ _ _ h2).trans (gI_sI_k _ _ _ _ _ _ h1)))
    have y0 := hs.2.1.2.2.2.2.2.1
    have y1 := hs.2.1.2.2.2.2.2.2
    have main : ∀ (G : XM → Prop), (∀ z, G z = l_X9_load_146 Q X [some (.ref m), none, some (.int (ji 0))] [] z 0 0) → s_X9_clearBlock (sI (sI (sI (sI y 309 m (ji 0)) 292 m (ji S.1)) 293 m (ji S.2.1)) 294 m (ji (sst S.2.2.1))) [.ref m] (qV G) (fun _ _ => False) := fun G hG => by
      have hmr := hs.2.2.2.frame c9 (by omega)
      have cy := hs.1.1
      have fy := hs.1.2
      generalize sI (sI (sI (sI y 309 m (ji 0)) 292 m (ji S.1)) 293 m (ji S.2.1)) 294 m (ji (sst S.2.2.1)) = ω at *
      refine f_clr hS9 (fun z cz hz => ?_)
      show G z
      rw [hG, l_X9_load_146, xseal_eq]
      have fz := (cz.2 m (by omega)).1
      refine f_load146 (Z := S.2.2.2) (hS9.mono cz.1) ((fz 292).trans d92) ((fz 293).trans d93) hB.1 hB.2.1 hB.2.2.1 hB.2.2.2.1 (hmr.frame cz (by omega)) (fun i i0 hi => ?_) (fun u cu hu => ?_) 2664 10000 0 z (by omega) (by omega) (by omega) (CH.refl _ _) (fun i hi => by rw [hz i hi, if_neg (by omega)])
      · rcases hi with hi | hi
        · have : i = 0 ∨ i = 1 := by omega
          rcases this with rfl | rfl
          · exact hy.2.1.1
          · exact hy.2.1.2
        · exact hy.2.2.2.2.2 i hi
      · have fu := (cu.2 m (by omega)).1
        have a1 : CH (fun a => a = m ∨ a = m + 11 ∨ a = m + 1) u μ := CH.trans (cu.mono (fun a ha => Or.inr (Or.inr ha))) (CH.trans (cz.mono (fun a ha => Or.inr (Or.inr ha))) (CH.trans (c9.mono (fun a ha => Or.inl ha)) (CH.trans (cy.mono (fun a ha => by omega)) (c1.mono (fun a ha => Or.inl ha)))))
        have a2 : CH (fun a => a = m ∨ a = m + 11 ∨ a = m + 1 ∨ a = m + 2) (wI (wI (sI u 291 m (ji 0)) (m + 2) 0 (ji 0)) (m + 2) 1 (ji 0)) μ := (((a1.mono (fun a ha => by omega)).sI _ _ _ (Or.inl rfl)).wI _ _ _ (by omega)).wI _ _ _ (by omega)
        have kk : ∀ k, k ≠ 291 → gI (wI (wI (sI u 291 m (ji 0)) (m + 2) 0 (ji 0)) (m + 2) 1 (ji 0)) k m = gI ω k m := fun k h1 => (gI_sI_k _ _ _ _ _ _ h1).trans ((fu k).trans (fz k))
        have ky : ∀ k, k < 291 → k ≠ 290 ∨ k = 290 → gI ω k m = gI μ k m := fun k h1 _ => (dk k (by omega) (by omega) (by omega) (by omega)).trans ((fy k (by omega)).trans (k1 k (by omega) (by omega) (by omega) (by omega)))
        refine hQ _ (a2.mono (fun a ha => by unfold inM'; omega)) (MS.of (A := nLd A S) (f := F 290) (hS.mono a2.1) ((kk 292 (by omega)).trans d92) ((kk 293 (by omega)).trans d93) ((kk 294 (by omega)).trans d94) (gI_sI_at _ _ _ _) ((kk 290 (by omega)).trans ((ky 290 (by omega) (Or.inr rfl)).trans g290)) hF.2.2.2.2.1 hF.2.2.2.2.2.1 ((kk 309 (by omega)).trans d09) ((kk 311 (by omega)).trans ((dk 311 (by omega) (by omega) (by omega) (by omega)).trans y0)) ((kk 312 (by omega)).trans ((dk 312 (by omega) (by omega) (by omega) (by omega)).trans y1)) ((kk 307 (by omega)).trans ((dk 307 (by omega) (by omega) (by omega) (by omega)).trans ((fy 307 (by omega)).trans ((k1 307 (by omega) (by omega) (by omega) (by omega)).trans g307)))) ⟨fun j j0 j1 => ?_, ⟨(aI_wI_i _ _ _ _ _ _ (by omega)).trans (aI_wI_at _ _ _ _), aI_wI_at _ _ _ _, fun p _ _ hp => absurd (show false = true from hp) (by decide)⟩, fun i i0 i1 => ?_, fun i i0 i1 => ?_⟩ (fun i hi => ?_)) ((kk 298 (by omega)).trans ((dk 298 (by omega) (by omega) (by omega) (by omega)).trans ((fy 298 (by omega)).trans k2)))
        · have j1 : j < 0 := j1
          omega
        · have i1 : i < 0 := i1
          omega
        · rw [(a2.2 (m + 9) (by omega)).2.2.1]
          exact hRM.2.2.2 i i0 i1
        · show aI (wI (wI (sI u 291 m (ji 0)) (m + 2) 0 (ji 0)) (m + 2) 1 (ji 0)) (m + 1) i = _
          rw [aI_wI_a _ _ _ _ _ _ (by omega), aI_wI_a _ _ _ _ _ _ (by omega)]
          exact hu i hi
    have e295 : gI (sI y 309 m (ji 0)) 295 m = ji S.1 := (gI_sI_k _ _ _ _ _ _ (by omega)).trans h5
    have e296 : gI (sI (sI y 309 m (ji 0)) 292 m (ji S.1)) 296 m = ji S.2.1 := (gI_sI_k _ _ _ _ _ _ (by omega)).trans ((gI_sI_k _ _ _ _ _ _ (by omega)).trans h6)
    have e297 : gI (sI (sI (sI y 309 m (ji 0)) 292 m (ji S.1)) 293 m (ji S.2.1)) 297 m = ji S.2.2.1 := (gI_sI_k _ _ _ _ _ _ (by omega)).trans ((gI_sI_k _ _ _ _ _ _ (by omega)).trans ((gI_sI_k _ _ _ _ _ _ (by omega)).trans h7))
    have r1 : RS (sI y 309 m (ji 0)) m := hS4.mono ⟨rfl, rfl, rfl, rfl⟩
    have r2 : RS (sI (sI y 309 m (ji 0)) 292 m (ji S.1)) m := hS4.mono ⟨rfl, rfl, rfl, rfl⟩
    have r3 : RS (sI (sI (sI y 309 m (ji 0)) 292 m (ji S.1)) 293 m (ji S.2.1)) m := hS4.mono ⟨rfl, rfl, rfl, rfl⟩
    by_cases ht : S.2.2.1 = -1
    · have hq := main (c_X9_load_4 Q X m 0 0) (fun _ => rfl)
      have es : sst S.2.2.1 = 50 := if_pos ht
      rw [es] at hq hS9
      rw [ht] at e297
      simp (disch := first | assumption | omega) only [RS_0, RS_1, RS_2, RS_3, RS_4, RS_5, RS_6, RS_7, RS_8, RS_9, RS_10, RS_11, RS_12, RS_13, RS_14, RS_15, RS_16, RS_17, RS_18, RS_19, RS_20, RS_21, RS_22, RS_23, RS_24, RS_25, RS_26, RS_27, RS_28, RS_29, RS_30, RS_31, RS_32, RS_33, RS_34, RS_35, RS_36, ji_add, ji_sub, ji_mul, ji_neg, ji_lit0, ji_ofNat, ji_lt, ji_le, ji_eq, ji_nat, ji_in, ji_rem, ji_div, jl_of, xl_lt, xl_gt, xl_eq, qV_at, qI_at, qJ_at, qD_at, qA_at, qA_no, nb0, nb1, cat_r, cat_i, Option.some.injEq, exists_eq_left', true_and, and_true, if_true, if_false, ite_not, not_true_eq_false, not_false_eq_true, Sum.inr.injEq, exists_eq_right', true_or, or_true, and_self, Int.cast_ofNat_Int, reduceCtorEq, or_false, false_or, false_and, and_false, jb_zero, lt7_0, lt7_1, lt7_2, lt7_3, lt7_4, lt7_5, lt7_6, uj_X9_load_91, e295, e296, e297, ↓reduceIte, ilt_t, ilt_f, ile_t, ile_f, ieq_t, ieq_f, jb_T, jb_F, jb_t, jb_f]
      exact hq
    · have hq := main (c_X9_load_5 Q X m 0 0) (fun _ => rfl)
      have es : sst S.2.2.1 = S.2.2.1 := if_neg ht
      rw [es] at hq hS9 hsb
      simp (disch := first | assumption | omega) only [RS_0, RS_1, RS_2, RS_3, RS_4, RS_5, RS_6, RS_7, RS_8, RS_9, RS_10, RS_11, RS_12, RS_13, RS_14, RS_15, RS_16, RS_17, RS_18, RS_19, RS_20, RS_21, RS_22, RS_23, RS_24, RS_25, RS_26, RS_27, RS_28, RS_29, RS_30, RS_31, RS_32, RS_33, RS_34, RS_35, RS_36, ji_add, ji_sub, ji_mul, ji_neg, ji_lit0, ji_ofNat, ji_lt, ji_le, ji_eq, ji_nat, ji_in, ji_rem, ji_div, jl_of, xl_lt, xl_gt, xl_eq, qV_at, qI_at, qJ_at, qD_at, qA_at, qA_no, nb0, nb1, cat_r, cat_i, Option.some.injEq, exists_eq_left', true_and, and_true, if_true, if_false, ite_not, not_true_eq_false, not_false_eq_true, Sum.inr.injEq, exists_eq_right', true_or, or_true, and_self, Int.cast_ofNat_Int, reduceCtorEq, or_false, false_or, false_and, and_false, jb_zero, lt7_0, lt7_1, lt7_2, lt7_3, lt7_4, lt7_5, lt7_6, uj_X9_load_91, e295, e296, e297, ht, ↓reduceIte, ilt_t, ilt_f, ile_t, ile_f, ieq_t, ieq_f, jb_T, jb_F, jb_t, jb_f]
      exact hq
end
