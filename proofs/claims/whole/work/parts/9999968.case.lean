/-! ===== the cases ===== -/
theorem cs_280 {μ : XM} {x m o d b : Nat} {Q : XQ} {X : XX} {F28 : XFT} {A : AS} {x5 : Int32} {nc ns : Nat} (hV : LV μ x m o d b A) (hp : ∀ j : Int, 1 ≤ j → j ≤ 5 → vp_in (x5 + ji j) (ln μ b)) (hr1 : nc + 3 ≤ 603072) (hr2 : ns + 18 ≤ 7211113) (hF : LKo F28 x m o d b x5 μ nc ns) : j_L_law_280 Q X F28 [some (.ref b), some (.ref x), some (.ref m), some (.ref o), some (.ref d), some (.int x5), none, none, none] [] μ nc ns := by
  obtain ⟨hi, ⟨hC, hx, hM⟩, ⟨to, lo⟩, ⟨td, ld⟩, tb, hb, hxm, hmo, hod⟩ := id hV
  rw [uj_L_law_280]
  refine ⟨Or.inr tb, hp 1 (by omega) (by omega), Or.inr tb, hp 2 (by omega) (by omega), Or.inr tb, hp 3 (by omega) (by omega), Or.inr tb, hp 4 (by omega) (by omega), Or.inr tb, hp 5 (by omega) (by omega), XL_0 hx.1, ?_⟩
  refine q_append hx hi (fun μ1 c1 x1 => ?_)
  rw [qI_at, c_L_law_4]
  obtain ⟨M1, t1, l1, f1⟩ := hV.mid c1 C_X
  simp only [l1, f1]
  refine ⟨Or.inr t1, hp 1 (by omega) (by omega), Or.inr t1, hp 2 (by omega) (by omega), Or.inr t1, hp 3 (by omega) (by omega), Or.inr t1, hp 4 (by omega) (by omega), Or.inr t1, hp 5 (by omega) (by omega), RS_0 M1.1, ?_⟩
  refine r_append M1 hi (fun μ2 c2 m2 g2 => ?_)
  rw [qI_at, c_L_law_3, uj_L_law_3064]
  refine fin_d rfl ?_
  obtain ⟨V2, k2, -⟩ := hV.fin c1 C_X x1 (inv_app hi) c2 C_M m2
  exact hF _ _ V2 k2 _ _ (by omega) (by omega)
theorem cs_353 {μ : XM} {x m o d b : Nat} {Q : XQ} {X : XX} {F28 : XFT} {A : AS} {x5 : Int32} {nc ns : Nat} (hV : LV μ x m o d b A) (hp : ∀ j : Int, 1 ≤ j → j ≤ 5 → vp_in (x5 + ji j) (ln μ b)) (hr1 : nc + 3 ≤ 603072) (hr2 : ns + 18 ≤ 7211113) (hF : LKo F28 x m o d b x5 μ nc ns) : j_L_law_353 Q X F28 [some (.ref b), some (.ref x), some (.ref m), some (.ref o), some (.ref d), some (.int x5), none, none, none] [] μ nc ns := by
  obtain ⟨hi, ⟨hC, hx, hM⟩, ⟨to, lo⟩, ⟨td, ld⟩, tb, hb, hxm, hmo, hod⟩ := id hV
  obtain ⟨p1, e1, a1, b1⟩ := i32 (aI μ b (Int32.toNatClampNeg (x5 + ji 1)))
  rw [uj_L_law_353]
  refine ⟨Or.inr tb, hp 1 (by omega) (by omega), XL_0 hx.1, ?_⟩
  rw [e1]
  refine q_trunc hx hi a1 b1 (fun μ1 c1 x1 => ?_)
  rw [qI_at, c_L_law_6]
  obtain ⟨M1, t1, l1, f1⟩ := hV.mid c1 C_X
  simp only [l1, f1]
  rw [e1]
  refine ⟨Or.inr t1, hp 1 (by omega) (by omega), RS_0 M1.1, ?_⟩
  refine r_trunc M1 hi a1 b1 (fun μ2 c2 m2 g2 => ?_)
  rw [qI_at, c_L_law_5, uj_L_law_3064]
  refine fin_d rfl ?_
  obtain ⟨V2, k2, -⟩ := hV.fin c1 C_X x1 (inv_trunc hi) c2 C_M m2
  exact hF _ _ V2 k2 _ _ (by omega) (by omega)
theorem cs_378 {μ : XM} {x m o d b : Nat} {Q : XQ} {X : XX} {F28 : XFT} {A : AS} {x5 : Int32} {nc ns : Nat} (hV : LV μ x m o d b A) (hp : ∀ j : Int, 1 ≤ j → j ≤ 5 → vp_in (x5 + ji j) (ln μ b)) (hr1 : nc + 3 ≤ 603072) (hr2 : ns + 18 ≤ 7211113) (hF : LKo F28 x m o d b x5 μ nc ns) : j_L_law_378 Q X F28 [some (.ref b), some (.ref x), some (.ref m), some (.ref o), some (.ref d), some (.int x5), none, none, none] [] μ nc ns := by
  obtain ⟨hi, ⟨hC, hx, hM⟩, ⟨to, lo⟩, ⟨td, ld⟩, tb, hb, hxm, hmo, hod⟩ := id hV
  rw [uj_L_law_378]
  refine ⟨XL_0 hx.1, ?_⟩
  refine q_load hx hi hC (fun μ1 c1 x1 => ?_)
  rw [qI_at, c_L_law_8]
  obtain ⟨M1, t1, l1, f1⟩ := hV.mid c1 C_X'
  refine ⟨RS_0 M1.1, ?_⟩
  refine r_load M1 hi (fun μ2 c2 m2 g2 => ?_)
  rw [qI_at, c_L_law_7, uj_L_law_3064]
  refine fin_d rfl ?_
  obtain ⟨V2, k2, -⟩ := hV.fin c1 C_X' x1 (inv_load hi) c2 C_M' m2
  exact hF _ _ V2 k2 _ _ (by omega) (by omega)
theorem cs_391 {μ : XM} {x m o d b : Nat} {Q : XQ} {X : XX} {F28 : XFT} {A : AS} {x5 : Int32} {nc ns : Nat} (hV : LV μ x m o d b A) (hp : ∀ j : Int, 1 ≤ j → j ≤ 5 → vp_in (x5 + ji j) (ln μ b)) (hr1 : nc + 3 ≤ 603072) (hr2 : ns + 18 ≤ 7211113) (hF : LKo F28 x m o d b x5 μ nc ns) : j_L_law_391 Q X F28 [some (.ref b), some (.ref x), some (.ref m), some (.ref o), some (.ref d), some (.int x5), none, none, none] [] μ nc ns := by
  obtain ⟨hi, ⟨hC, hx, hM⟩, ⟨to, lo⟩, ⟨td, ld⟩, tb, hb, hxm, hmo, hod⟩ := id hV
  rw [uj_L_law_391]
  refine ⟨XL_0 hx.1, ?_⟩
  rw [q_errorCode hx]
  have c1 : CH (fun _ => False) μ μ := CH.refl _ _
  have x1 := hx
  rw [qI_at, c_L_law_10]
  obtain ⟨M1, t1, l1, f1⟩ := hV.mid c1 C_0
  refine ⟨RS_0 M1.1, ?_⟩
  refine r_errorCode M1 hi (fun μ2 c2 m2 g2 => ?_)
  rw [qI_at, c_L_law_9, uj_L_law_3064]
  refine fin_d rfl ?_
  obtain ⟨V2, k2, -⟩ := hV.fin c1 C_0 x1 hi c2 C_M m2
  exact hF _ _ V2 k2 _ _ (by omega) (by omega)
theorem cs_404 {μ : XM} {x m o d b : Nat} {Q : XQ} {X : XX} {F28 : XFT} {A : AS} {x5 : Int32} {nc ns : Nat} (hV : LV μ x m o d b A) (hp : ∀ j : Int, 1 ≤ j → j ≤ 5 → vp_in (x5 + ji j) (ln μ b)) (hr1 : nc + 3 ≤ 603072) (hr2 : ns + 18 ≤ 7211113) (hF : LKo F28 x m o d b x5 μ nc ns) : j_L_law_404 Q X F28 [some (.ref b), some (.ref x), some (.ref m), some (.ref o), some (.ref d), some (.int x5), none, none, none] [] μ nc ns := by
  obtain ⟨hi, ⟨hC, hx, hM⟩, ⟨to, lo⟩, ⟨td, ld⟩, tb, hb, hxm, hmo, hod⟩ := id hV
  rw [uj_L_law_404]
  refine ⟨XL_0 hx.1, ?_⟩
  rw [q_errorPosition hx]
  have c1 : CH (fun _ => False) μ μ := CH.refl _ _
  have x1 := hx
  rw [qI_at, c_L_law_12]
  obtain ⟨M1, t1, l1, f1⟩ := hV.mid c1 C_0
  refine ⟨RS_0 M1.1, ?_⟩
  refine r_errorPosition M1 hi (fun μ2 c2 m2 g2 => ?_)
  rw [qI_at, c_L_law_11, uj_L_law_3064]
  refine fin_d rfl ?_
  obtain ⟨V2, k2, -⟩ := hV.fin c1 C_0 x1 hi c2 C_M m2
  exact hF _ _ V2 k2 _ _ (by omega) (by omega)
theorem cs_417 {μ : XM} {x m o d b : Nat} {Q : XQ} {X : XX} {F28 : XFT} {A : AS} {x5 : Int32} {nc ns : Nat} (hV : LV μ x m o d b A) (hp : ∀ j : Int, 1 ≤ j → j ≤ 5 → vp_in (x5 + ji j) (ln μ b)) (hr1 : nc + 3 ≤ 603072) (hr2 : ns + 18 ≤ 7211113) (hF : LKo F28 x m o d b x5 μ nc ns) : j_L_law_417 Q X F28 [some (.ref b), some (.ref x), some (.ref m), some (.ref o), some (.ref d), some (.int x5), none, none, none] [] μ nc ns := by
  obtain ⟨hi, ⟨hC, hx, hM⟩, ⟨to, lo⟩, ⟨td, ld⟩, tb, hb, hxm, hmo, hod⟩ := id hV
  obtain ⟨p1, e1, a1, b1⟩ := i32 (aI μ b (Int32.toNatClampNeg (x5 + ji 1)))
  rw [uj_L_law_417]
  refine ⟨Or.inr tb, hp 1 (by omega) (by omega), XL_0 hx.1, ?_⟩
  rw [e1]
  rw [q_count (hx.xw hi) a1 b1 (XL_3 hx.1) (XL_11 hx.1) hx.2.2.2.1.1]
  have c1 : CH (fun _ => False) μ μ := CH.refl _ _
  have x1 := hx
  rw [qI_at, c_L_law_14]
  obtain ⟨M1, t1, l1, f1⟩ := hV.mid c1 C_0
  rw [e1]
  refine ⟨Or.inr t1, hp 1 (by omega) (by omega), RS_0 M1.1, ?_⟩
  refine r_count M1 hi a1 b1 (fun μ2 c2 m2 g2 => ?_)
  rw [qI_at, c_L_law_13, uj_L_law_3064]
  refine fin_d rfl ?_
  obtain ⟨V2, k2, -⟩ := hV.fin c1 C_0 x1 hi c2 C_M m2
  exact hF _ _ V2 k2 _ _ (by omega) (by omega)
theorem cs_442 {μ : XM} {x m o d b : Nat} {Q : XQ} {X : XX} {F28 : XFT} {A : AS} {x5 : Int32} {nc ns : Nat} (hV : LV μ x m o d b A) (hp : ∀ j : Int, 1 ≤ j → j ≤ 5 → vp_in (x5 + ji j) (ln μ b)) (hr1 : nc + 3 ≤ 603072) (hr2 : ns + 18 ≤ 7211113) (hF : LKo F28 x m o d b x5 μ nc ns) : j_L_law_442 Q X F28 [some (.ref b), some (.ref x), some (.ref m), some (.ref o), some (.ref d), some (.int x5), none, none, none] [] μ nc ns := by
  obtain ⟨hi, ⟨hC, hx, hM⟩, ⟨to, lo⟩, ⟨td, ld⟩, tb, hb, hxm, hmo, hod⟩ := id hV
  obtain ⟨p1, e1, a1, b1⟩ := i32 (aI μ b (Int32.toNatClampNeg (x5 + ji 1)))
  obtain ⟨p2, e2, a2, b2⟩ := i32 (aI μ b (Int32.toNatClampNeg (x5 + ji 2)))
  rw [uj_L_law_442]
  refine ⟨Or.inr tb, hp 1 (by omega) (by omega), Or.inr tb, hp 2 (by omega) (by omega), ?_⟩
  rw [e1, e2, uj_L_law_456]
  refine ⟨by omega, by omega, w_link hx hi hC to lo (by omega) a1 b1 a2 b2 (fun μ1 c1 x1 h1 => ?_)⟩
  rw [qI_at, c_L_law_37, uj_L_law_459]
  obtain ⟨M1, t1, l1, f1⟩ := hV.mid c1 C_W
  simp only [l1, f1]
  rw [e1, e2]
  refine ⟨Or.inr t1, hp 1 (by omega) (by omega), Or.inr t1, hp 2 (by omega) (by omega), RS_0 M1.1, ?_⟩
  refine r_link M1 hi a1 b1 a2 b2 (fun μ2 v c2 m2 g2 hv => ?_)
  rw [qI_at, c_L_law_76]
  refine ⟨RS_0 m2.1, ?_⟩
  rw [u_X9_thrown]
  refine ⟨RS_0 m2.1, ?_⟩
  rw [qI_at, g2, c_L_law_75]
  obtain ⟨V2, k2, fL, fD⟩ := hV.fin c1 C_W x1 hi c2 C_M m2
  refine fin_w ?_ V2.2.2.1.1 V2.2.2.1.2 (fun h => ?_)
  · rw [uj_L_law_3064]; exact hF _ _ V2 k2 _ _ (by omega) (by omega)
  · rw [fL, h1 h, hv (ji00 rg_oc2 h)]
theorem cs_510 {μ : XM} {x m o d b : Nat} {Q : XQ} {X : XX} {F28 : XFT} {A : AS} {x5 : Int32} {nc ns : Nat} (hV : LV μ x m o d b A) (hp : ∀ j : Int, 1 ≤ j → j ≤ 5 → vp_in (x5 + ji j) (ln μ b)) (hr1 : nc + 3 ≤ 603072) (hr2 : ns + 18 ≤ 7211113) (hF : LKo F28 x m o d b x5 μ nc ns) : j_L_law_510 Q X F28 [some (.ref b), some (.ref x), some (.ref m), some (.ref o), some (.ref d), some (.int x5), none, none, none] [] μ nc ns := by
  obtain ⟨hi, ⟨hC, hx, hM⟩, ⟨to, lo⟩, ⟨td, ld⟩, tb, hb, hxm, hmo, hod⟩ := id hV
  obtain ⟨p1, e1, a1, b1⟩ := i32 (aI μ b (Int32.toNatClampNeg (x5 + ji 1)))
  rw [uj_L_law_510]
  refine ⟨Or.inr tb, hp 1 (by omega) (by omega), ?_⟩
  rw [e1, uj_L_law_518]
  refine ⟨by omega, by omega, w_isDead hx hi hC to lo (by omega) a1 b1 (fun μ1 c1 x1 h1 => ?_)⟩
  rw [qI_at, c_L_law_38, uj_L_law_521]
  obtain ⟨M1, t1, l1, f1⟩ := hV.mid c1 C_W
  simp only [l1, f1]
  rw [e1]
  refine ⟨Or.inr t1, hp 1 (by omega) (by omega), RS_0 M1.1, ?_⟩
  refine r_isDead M1 hi a1 b1 (fun μ2 v c2 m2 g2 hv => ?_)
  rw [qI_at, c_L_law_78]
  refine ⟨RS_0 m2.1, ?_⟩
  rw [u_X9_thrown]
  refine ⟨RS_0 m2.1, ?_⟩
  rw [qI_at, g2, c_L_law_77]
  obtain ⟨V2, k2, fL, fD⟩ := hV.fin c1 C_W x1 hi c2 C_M m2
  refine fin_b ?_ V2.2.2.1.1 V2.2.2.1.2 (fun h => ?_)
  · rw [uj_L_law_3064]; exact hF _ _ V2 k2 _ _ (by omega) (by omega)
  · rw [hv (ji00 (rg_12 rg_oc1) h)]; exact ⟨by rw [fL, h1 h], b_oc1⟩
theorem cs_573 {μ : XM} {x m o d b : Nat} {Q : XQ} {X : XX} {F28 : XFT} {A : AS} {x5 : Int32} {nc ns : Nat} (hV : LV μ x m o d b A) (hp : ∀ j : Int, 1 ≤ j → j ≤ 5 → vp_in (x5 + ji j) (ln μ b)) (hr1 : nc + 3 ≤ 603072) (hr2 : ns + 18 ≤ 7211113) (hF : LKo F28 x m o d b x5 μ nc ns) : j_L_law_573 Q X F28 [some (.ref b), some (.ref x), some (.ref m), some (.ref o), some (.ref d), some (.int x5), none, none, none] [] μ nc ns := by
  obtain ⟨hi, ⟨hC, hx, hM⟩, ⟨to, lo⟩, ⟨td, ld⟩, tb, hb, hxm, hmo, hod⟩ := id hV
  obtain ⟨p1, e1, a1, b1⟩ := i32 (aI μ b (Int32.toNatClampNeg (x5 + ji 1)))
  rw [uj_L_law_573]
  refine ⟨Or.inr tb, hp 1 (by omega) (by omega), Or.inr tb, hp 2 (by omega) (by omega), ?_⟩
  by_cases hz : aI μ b (Int32.toNatClampNeg (x5 + ji 2)) = 0
  · rw [if_pos hz, e1, uj_L_law_595]
    refine ⟨by omega, by omega, w_end (p2 := 0) hx hi hC to lo (by omega) a1 b1 (Or.inl rfl) (fun μ1 c1 x1 h1 => ?_)⟩
    rw [qI_at, c_L_law_39, uj_L_law_598]
    obtain ⟨M1, t1, l1, f1⟩ := hV.mid c1 C_W
    simp only [l1, f1]
    rw [if_pos hz, e1]
    refine ⟨Or.inr t1, hp 1 (by omega) (by omega), Or.inr t1, hp 2 (by omega) (by omega), RS_0 M1.1, ?_⟩
    refine r_end (g := 0) M1 hi a1 b1 (Or.inl rfl) (fun μ2 v c2 m2 g2 hv => ?_)
    rw [qI_at, c_L_law_80]
    refine ⟨RS_0 m2.1, ?_⟩
    rw [u_X9_thrown]
    refine ⟨RS_0 m2.1, ?_⟩
    rw [qI_at, g2, c_L_law_79]
    obtain ⟨V2, k2, fL, fD⟩ := hV.fin c1 C_W x1 hi c2 C_M m2
    refine fin_w ?_ V2.2.2.1.1 V2.2.2.1.2 (fun h => ?_)
    · rw [uj_L_law_3064]; exact hF _ _ V2 k2 _ _ (by omega) (by omega)
    · rw [fL, h1 h, hv (ji00 (rg_12 rg_oc1) h)]
  · rw [if_neg hz, e1, uj_L_law_595]
    refine ⟨by omega, by omega, w_end (p2 := 1) hx hi hC to lo (by omega) a1 b1 (Or.inr rfl) (fun μ1 c1 x1 h1 => ?_)⟩
    rw [qI_at, c_L_law_39, uj_L_law_598]
    obtain ⟨M1, t1, l1, f1⟩ := hV.mid c1 C_W
    simp only [l1, f1]
    rw [if_neg hz, e1]
    refine ⟨Or.inr t1, hp 1 (by omega) (by omega), Or.inr t1, hp 2 (by omega) (by omega), RS_0 M1.1, ?_⟩
    refine r_end (g := 1) M1 hi a1 b1 (Or.inr rfl) (fun μ2 v c2 m2 g2 hv => ?_)
    rw [qI_at, c_L_law_82]
    refine ⟨RS_0 m2.1, ?_⟩
    rw [u_X9_thrown]
    refine ⟨RS_0 m2.1, ?_⟩
    rw [qI_at, g2, c_L_law_81]
    obtain ⟨V2, k2, fL, fD⟩ := hV.fin c1 C_W x1 hi c2 C_M m2
    refine fin_w ?_ V2.2.2.1.1 V2.2.2.1.2 (fun h => ?_)
    · rw [uj_L_law_3064]; exact hF _ _ V2 k2 _ _ (by omega) (by omega)
    · rw [fL, h1 h, hv (ji00 (rg_12 rg_oc1) h)]
theorem cs_657 {μ : XM} {x m o d b : Nat} {Q : XQ} {X : XX} {F28 : XFT} {A : AS} {x5 : Int32} {nc ns : Nat} (hV : LV μ x m o d b A) (hp : ∀ j : Int, 1 ≤ j → j ≤ 5 → vp_in (x5 + ji j) (ln μ b)) (hr1 : nc + 3 ≤ 603072) (hr2 : ns + 18 ≤ 7211113) (hF : LKo F28 x m o d b x5 μ nc ns) : j_L_law_657 Q X F28 [some (.ref b), some (.ref x), some (.ref m), some (.ref o), some (.ref d), some (.int x5), none, none, none] [] μ nc ns := by
  obtain ⟨hi, ⟨hC, hx, hM⟩, ⟨to, lo⟩, ⟨td, ld⟩, tb, hb, hxm, hmo, hod⟩ := id hV
  obtain ⟨p1, e1, a1, b1⟩ := i32 (aI μ b (Int32.toNatClampNeg (x5 + ji 1)))
  obtain ⟨p2, e2, a2, b2⟩ := i32 (aI μ b (Int32.toNatClampNeg (x5 + ji 2)))
  rw [uj_L_law_657]
  refine ⟨Or.inr tb, hp 1 (by omega) (by omega), Or.inr tb, hp 2 (by omega) (by omega), ?_⟩
  rw [e1, e2, uj_L_law_671]
  refine ⟨by omega, by omega, w_lesson hx hi hC to lo (by omega) a1 b1 a2 b2 (fun μ1 c1 x1 h1 => ?_)⟩
  rw [qI_at, c_L_law_40, uj_L_law_674]
  obtain ⟨M1, t1, l1, f1⟩ := hV.mid c1 C_W
  simp only [l1, f1]
  rw [e1, e2]
  refine ⟨Or.inr t1, hp 1 (by omega) (by omega), Or.inr t1, hp 2 (by omega) (by omega), RS_0 M1.1, ?_⟩
  refine r_lesson M1 hi a1 b1 a2 b2 (fun μ2 v c2 m2 g2 hv => ?_)
  rw [qI_at, c_L_law_84]
  refine ⟨RS_0 m2.1, ?_⟩
  rw [u_X9_thrown]
  refine ⟨RS_0 m2.1, ?_⟩
  rw [qI_at, g2, c_L_law_83]
  obtain ⟨V2, k2, fL, fD⟩ := hV.fin c1 C_W x1 hi c2 C_M m2
  refine fin_w ?_ V2.2.2.1.1 V2.2.2.1.2 (fun h => ?_)
  · rw [uj_L_law_3064]; exact hF _ _ V2 k2 _ _ (by omega) (by omega)
  · rw [fL, h1 h, hv (ji00 (rg_12 rg_oc1) h)]
theorem cs_725 {μ : XM} {x m o d b : Nat} {Q : XQ} {X : XX} {F28 : XFT} {A : AS} {x5 : Int32} {nc ns : Nat} (hV : LV μ x m o d b A) (hp : ∀ j : Int, 1 ≤ j → j ≤ 5 → vp_in (x5 + ji j) (ln μ b)) (hr1 : nc + 3 ≤ 603072) (hr2 : ns + 18 ≤ 7211113) (hF : LKo F28 x m o d b x5 μ nc ns) : j_L_law_725 Q X F28 [some (.ref b), some (.ref x), some (.ref m), some (.ref o), some (.ref d), some (.int x5), none, none, none] [] μ nc ns := by
  obtain ⟨hi, ⟨hC, hx, hM⟩, ⟨to, lo⟩, ⟨td, ld⟩, tb, hb, hxm, hmo, hod⟩ := id hV
  obtain ⟨p1, e1, a1, b1⟩ := i32 (aI μ b (Int32.toNatClampNeg (x5 + ji 1)))
  rw [uj_L_law_725]
  refine ⟨Or.inr tb, hp 1 (by omega) (by omega), ?_⟩
  rw [e1, uj_L_law_733]
  refine ⟨by omega, by omega, w_lessons hx hi hC to lo (by omega) a1 b1 (fun μ1 c1 x1 h1 => ?_)⟩
  rw [qI_at, c_L_law_41, uj_L_law_736]
  obtain ⟨M1, t1, l1, f1⟩ := hV.mid c1 C_W
  simp only [l1, f1]
  rw [e1]
  refine ⟨Or.inr t1, hp 1 (by omega) (by omega), RS_0 M1.1, ?_⟩
  refine r_lessons M1 hi a1 b1 (fun μ2 v c2 m2 g2 hv => ?_)
  rw [qI_at, c_L_law_86]
  refine ⟨RS_0 m2.1, ?_⟩
  rw [u_X9_thrown]
  refine ⟨RS_0 m2.1, ?_⟩
  rw [qI_at, g2, c_L_law_85]
  obtain ⟨V2, k2, fL, fD⟩ := hV.fin c1 C_W x1 hi c2 C_M m2
  refine fin_w ?_ V2.2.2.1.1 V2.2.2.1.2 (fun h => ?_)
  · rw [uj_L_law_3064]; exact hF _ _ V2 k2 _ _ (by omega) (by omega)
  · rw [fL, h1 h, hv (ji00 (rg_12 rg_oc1) h)]
theorem cs_781 {μ : XM} {x m o d b : Nat} {Q : XQ} {X : XX} {F28 : XFT} {A : AS} {x5 : Int32} {nc ns : Nat} (hV : LV μ x m o d b A) (hp : ∀ j : Int, 1 ≤ j → j ≤ 5 → vp_in (x5 + ji j) (ln μ b)) (hr1 : nc + 3 ≤ 603072) (hr2 : ns + 18 ≤ 7211113) (hF : LKo F28 x m o d b x5 μ nc ns) : j_L_law_781 Q X F28 [some (.ref b), some (.ref x), some (.ref m), some (.ref o), some (.ref d), some (.int x5), none, none, none] [] μ nc ns := by
  obtain ⟨hi, ⟨hC, hx, hM⟩, ⟨to, lo⟩, ⟨td, ld⟩, tb, hb, hxm, hmo, hod⟩ := id hV
  obtain ⟨p1, e1, a1, b1⟩ := i32 (aI μ b (Int32.toNatClampNeg (x5 + ji 1)))
  rw [uj_L_law_781]
  refine ⟨Or.inr tb, hp 1 (by omega) (by omega), ?_⟩
  rw [e1, uj_L_law_789]
  refine ⟨by omega, by omega, w_knowers hx hi hC to lo (by omega) a1 b1 (fun μ1 c1 x1 h1 => ?_)⟩
  rw [qI_at, c_L_law_42, uj_L_law_792]
  obtain ⟨M1, t1, l1, f1⟩ := hV.mid c1 C_W
  simp only [l1, f1]
  rw [e1]
  refine ⟨Or.inr t1, hp 1 (by omega) (by omega), RS_0 M1.1, ?_⟩
  refine r_knowers M1 hi a1 b1 (fun μ2 v c2 m2 g2 hv => ?_)
  rw [qI_at, c_L_law_88]
  refine ⟨RS_0 m2.1, ?_⟩
  rw [u_X9_thrown]
  refine ⟨RS_0 m2.1, ?_⟩
  rw [qI_at, g2, c_L_law_87]
  obtain ⟨V2, k2, fL, fD⟩ := hV.fin c1 C_W x1 hi c2 C_M m2
  refine fin_w ?_ V2.2.2.1.1 V2.2.2.1.2 (fun h => ?_)
  · rw [uj_L_law_3064]; exact hF _ _ V2 k2 _ _ (by omega) (by omega)
  · rw [fL, h1 h, hv (ji00 (rg_12 rg_oc1) h)]
theorem cs_837 {μ : XM} {x m o d b : Nat} {Q : XQ} {X : XX} {F28 : XFT} {A : AS} {x5 : Int32} {nc ns : Nat} (hV : LV μ x m o d b A) (hp : ∀ j : Int, 1 ≤ j → j ≤ 5 → vp_in (x5 + ji j) (ln μ b)) (hr1 : nc + 3 ≤ 603072) (hr2 : ns + 18 ≤ 7211113) (hF : LKo F28 x m o d b x5 μ nc ns) : j_L_law_837 Q X F28 [some (.ref b), some (.ref x), some (.ref m), some (.ref o), some (.ref d), some (.int x5), none, none, none] [] μ nc ns := by
  obtain ⟨hi, ⟨hC, hx, hM⟩, ⟨to, lo⟩, ⟨td, ld⟩, tb, hb, hxm, hmo, hod⟩ := id hV
  obtain ⟨p1, e1, a1, b1⟩ := i32 (aI μ b (Int32.toNatClampNeg (x5 + ji 1)))
  rw [uj_L_law_837]
  refine ⟨Or.inr tb, hp 1 (by omega) (by omega), ?_⟩
  rw [e1, uj_L_law_845]
  refine ⟨by omega, by omega, w_wrongLessons hx hi hC to lo (by omega) a1 b1 (fun μ1 c1 x1 h1 => ?_)⟩
  rw [qI_at, c_L_law_43, uj_L_law_848]
  obtain ⟨M1, t1, l1, f1⟩ := hV.mid c1 C_W
  simp only [l1, f1]
  rw [e1]
  refine ⟨Or.inr t1, hp 1 (by omega) (by omega), RS_0 M1.1, ?_⟩
  refine r_wrongLessons M1 hi a1 b1 (fun μ2 v c2 m2 g2 hv => ?_)
  rw [qI_at, c_L_law_90]
  refine ⟨RS_0 m2.1, ?_⟩
  rw [u_X9_thrown]
  refine ⟨RS_0 m2.1, ?_⟩
  rw [qI_at, g2, c_L_law_89]
  obtain ⟨V2, k2, fL, fD⟩ := hV.fin c1 C_W x1 hi c2 C_M m2
  refine fin_w ?_ V2.2.2.1.1 V2.2.2.1.2 (fun h => ?_)
  · rw [uj_L_law_3064]; exact hF _ _ V2 k2 _ _ (by omega) (by omega)
  · rw [fL, h1 h, hv (ji00 (rg_12 rg_oc1) h)]
theorem cs_893 {μ : XM} {x m o d b : Nat} {Q : XQ} {X : XX} {F28 : XFT} {A : AS} {x5 : Int32} {nc ns : Nat} (hV : LV μ x m o d b A) (hp : ∀ j : Int, 1 ≤ j → j ≤ 5 → vp_in (x5 + ji j) (ln μ b)) (hr1 : nc + 3 ≤ 603072) (hr2 : ns + 18 ≤ 7211113) (hF : LKo F28 x m o d b x5 μ nc ns) : j_L_law_893 Q X F28 [some (.ref b), some (.ref x), some (.ref m), some (.ref o), some (.ref d), some (.int x5), none, none, none] [] μ nc ns := by
  obtain ⟨hi, ⟨hC, hx, hM⟩, ⟨to, lo⟩, ⟨td, ld⟩, tb, hb, hxm, hmo, hod⟩ := id hV
  rw [uj_L_law_893]
  refine ⟨XL_0 hx.1, ?_⟩
  rw [q_wisest (hx.xw hi)]
  have c1 : CH (fun _ => False) μ μ := CH.refl _ _
  have x1 := hx
  rw [qI_at, c_L_law_16]
  obtain ⟨M1, t1, l1, f1⟩ := hV.mid c1 C_0
  refine ⟨RS_0 M1.1, ?_⟩
  refine r_wisest M1 hi (fun μ2 c2 m2 g2 => ?_)
  rw [qI_at, c_L_law_15, uj_L_law_3064]
  refine fin_d rfl ?_
  obtain ⟨V2, k2, -⟩ := hV.fin c1 C_0 x1 hi c2 C_M m2
  exact hF _ _ V2 k2 _ _ (by omega) (by omega)
theorem cs_906 {μ : XM} {x m o d b : Nat} {Q : XQ} {X : XX} {F28 : XFT} {A : AS} {x5 : Int32} {nc ns : Nat} (hV : LV μ x m o d b A) (hp : ∀ j : Int, 1 ≤ j → j ≤ 5 → vp_in (x5 + ji j) (ln μ b)) (hr1 : nc + 3 ≤ 603072) (hr2 : ns + 18 ≤ 7211113) (hF : LKo F28 x m o d b x5 μ nc ns) : j_L_law_906 Q X F28 [some (.ref b), some (.ref x), some (.ref m), some (.ref o), some (.ref d), some (.int x5), none, none, none] [] μ nc ns := by
  obtain ⟨hi, ⟨hC, hx, hM⟩, ⟨to, lo⟩, ⟨td, ld⟩, tb, hb, hxm, hmo, hod⟩ := id hV
  rw [uj_L_law_906]
  refine ⟨XL_0 hx.1, ?_⟩
  rw [q_nextStale (hx.xw hi)]
  have c1 : CH (fun _ => False) μ μ := CH.refl _ _
  have x1 := hx
  rw [qI_at, c_L_law_18]
  obtain ⟨M1, t1, l1, f1⟩ := hV.mid c1 C_0
  refine ⟨RS_0 M1.1, ?_⟩
  refine r_nextStale M1 hi (fun μ2 c2 m2 g2 => ?_)
  rw [qI_at, c_L_law_17, uj_L_law_3064]
  refine fin_d rfl ?_
  obtain ⟨V2, k2, -⟩ := hV.fin c1 C_0 x1 hi c2 C_M m2
  exact hF _ _ V2 k2 _ _ (by omega) (by omega)
theorem cs_919 {μ : XM} {x m o d b : Nat} {Q : XQ} {X : XX} {F28 : XFT} {A : AS} {x5 : Int32} {nc ns : Nat} (hV : LV μ x m o d b A) (hp : ∀ j : Int, 1 ≤ j → j ≤ 5 → vp_in (x5 + ji j) (ln μ b)) (hr1 : nc + 3 ≤ 603072) (hr2 : ns + 18 ≤ 7211113) (hF : LKo F28 x m o d b x5 μ nc ns) : j_L_law_919 Q X F28 [some (.ref b), some (.ref x), some (.ref m), some (.ref o), some (.ref d), some (.int x5), none, none, none] [] μ nc ns := by
  obtain ⟨hi, ⟨hC, hx, hM⟩, ⟨to, lo⟩, ⟨td, ld⟩, tb, hb, hxm, hmo, hod⟩ := id hV
  obtain ⟨p1, e1, a1, b1⟩ := i32 (aI μ b (Int32.toNatClampNeg (x5 + ji 1)))
  obtain ⟨p2, e2, a2, b2⟩ := i32 (aI μ b (Int32.toNatClampNeg (x5 + ji 2)))
  rw [uj_L_law_919]
  refine ⟨Or.inr tb, hp 1 (by omega) (by omega), Or.inr tb, hp 2 (by omega) (by omega), ?_⟩
  rw [e1, e2, uj_L_law_933]
  refine ⟨by omega, by omega, w_distance hx hi hC to lo (by omega) a1 b1 a2 b2 (fun μ1 c1 x1 h1 => ?_)⟩
  rw [qI_at, c_L_law_44, uj_L_law_936]
  obtain ⟨M1, t1, l1, f1⟩ := hV.mid c1 C_W
  simp only [l1, f1]
  rw [e1, e2]
  refine ⟨Or.inr t1, hp 1 (by omega) (by omega), Or.inr t1, hp 2 (by omega) (by omega), RS_0 M1.1, ?_⟩
  refine r_distance M1 hi a1 b1 a2 b2 (fun μ2 v c2 m2 g2 hv => ?_)
  rw [qI_at, c_L_law_92]
  refine ⟨RS_0 m2.1, ?_⟩
  rw [u_X9_thrown]
  refine ⟨RS_0 m2.1, ?_⟩
  rw [qI_at, g2, c_L_law_91]
  obtain ⟨V2, k2, fL, fD⟩ := hV.fin c1 C_W x1 hi c2 C_M m2
  refine fin_w ?_ V2.2.2.1.1 V2.2.2.1.2 (fun h => ?_)
  · rw [uj_L_law_3064]; exact hF _ _ V2 k2 _ _ (by omega) (by omega)
  · rw [fL, h1 h, hv (ji00 (rg_12 rg_oc1) h)]
theorem cs_987 {μ : XM} {x m o d b : Nat} {Q : XQ} {X : XX} {F28 : XFT} {A : AS} {x5 : Int32} {nc ns : Nat} (hV : LV μ x m o d b A) (hp : ∀ j : Int, 1 ≤ j → j ≤ 5 → vp_in (x5 + ji j) (ln μ b)) (hr1 : nc + 3 ≤ 603072) (hr2 : ns + 18 ≤ 7211113) (hF : LKo F28 x m o d b x5 μ nc ns) : j_L_law_987 Q X F28 [some (.ref b), some (.ref x), some (.ref m), some (.ref o), some (.ref d), some (.int x5), none, none, none] [] μ nc ns := by
  obtain ⟨hi, ⟨hC, hx, hM⟩, ⟨to, lo⟩, ⟨td, ld⟩, tb, hb, hxm, hmo, hod⟩ := id hV
  obtain ⟨p1, e1, a1, b1⟩ := i32 (aI μ b (Int32.toNatClampNeg (x5 + ji 1)))
  obtain ⟨p2, e2, a2, b2⟩ := i32 (aI μ b (Int32.toNatClampNeg (x5 + ji 2)))
  rw [uj_L_law_987]
  refine ⟨Or.inr tb, hp 1 (by omega) (by omega), Or.inr tb, hp 2 (by omega) (by omega), ?_⟩
  rw [e1, e2, uj_L_law_1001]
  refine ⟨by omega, by omega, w_shortest hx hi hC to lo (by omega) a1 b1 a2 b2 (fun μ1 c1 x1 h1 => ?_)⟩
  rw [qI_at, c_L_law_45, uj_L_law_1004]
  obtain ⟨M1, t1, l1, f1⟩ := hV.mid c1 C_W
  simp only [l1, f1]
  rw [e1, e2]
  refine ⟨Or.inr t1, hp 1 (by omega) (by omega), Or.inr t1, hp 2 (by omega) (by omega), RS_0 M1.1, ?_⟩
  refine r_shortest M1 hi a1 b1 a2 b2 (fun μ2 v c2 m2 g2 hv => ?_)
  rw [qI_at, c_L_law_94]
  refine ⟨RS_0 m2.1, ?_⟩
  rw [u_X9_thrown]
  refine ⟨RS_0 m2.1, ?_⟩
  rw [qI_at, g2, c_L_law_93]
  obtain ⟨V2, k2, fL, fD⟩ := hV.fin c1 C_W x1 (inv_op1 hi (fun _ => hi)) c2 C_M m2
  refine fin_w ?_ V2.2.2.1.1 V2.2.2.1.2 (fun h => ?_)
  · rw [uj_L_law_3064]; exact hF _ _ V2 k2 _ _ (by omega) (by omega)
  · rw [fL, h1 h, hv (ji00 (rg_12 (rg_op1 rfl)) h)]
theorem cs_1055 {μ : XM} {x m o d b : Nat} {Q : XQ} {X : XX} {F28 : XFT} {A : AS} {x5 : Int32} {nc ns : Nat} (hV : LV μ x m o d b A) (hp : ∀ j : Int, 1 ≤ j → j ≤ 5 → vp_in (x5 + ji j) (ln μ b)) (hr1 : nc + 3 ≤ 603072) (hr2 : ns + 18 ≤ 7211113) (hF : LKo F28 x m o d b x5 μ nc ns) : j_L_law_1055 Q X F28 [some (.ref b), some (.ref x), some (.ref m), some (.ref o), some (.ref d), some (.int x5), none, none, none] [] μ nc ns := by
  obtain ⟨hi, ⟨hC, hx, hM⟩, ⟨to, lo⟩, ⟨td, ld⟩, tb, hb, hxm, hmo, hod⟩ := id hV
  obtain ⟨p1, e1, a1, b1⟩ := i32 (aI μ b (Int32.toNatClampNeg (x5 + ji 1)))
  obtain ⟨p2, e2, a2, b2⟩ := i32 (aI μ b (Int32.toNatClampNeg (x5 + ji 2)))
  rw [uj_L_law_1055]
  refine ⟨Or.inr tb, hp 1 (by omega) (by omega), Or.inr tb, hp 2 (by omega) (by omega), ?_⟩
  rw [e1, e2, uj_L_law_1069]
  refine ⟨by omega, by omega, w_believed hx hi hC to lo (by omega) a1 b1 a2 b2 (fun μ1 c1 x1 h1 => ?_)⟩
  rw [qI_at, c_L_law_46, uj_L_law_1072]
  obtain ⟨M1, t1, l1, f1⟩ := hV.mid c1 C_W
  simp only [l1, f1]
  rw [e1, e2]
  refine ⟨Or.inr t1, hp 1 (by omega) (by omega), Or.inr t1, hp 2 (by omega) (by omega), RS_0 M1.1, ?_⟩
  refine r_believed M1 hi a1 b1 a2 b2 (fun μ2 v c2 m2 g2 hv => ?_)
  rw [qI_at, c_L_law_96]
  refine ⟨RS_0 m2.1, ?_⟩
  rw [u_X9_thrown]
  refine ⟨RS_0 m2.1, ?_⟩
  rw [qI_at, g2, c_L_law_95]
  obtain ⟨V2, k2, fL, fD⟩ := hV.fin c1 C_W x1 (inv_op1 hi (fun _ => hi)) c2 C_M m2
  refine fin_w ?_ V2.2.2.1.1 V2.2.2.1.2 (fun h => ?_)
  · rw [uj_L_law_3064]; exact hF _ _ V2 k2 _ _ (by omega) (by omega)
  · rw [fL, h1 h, hv (ji00 (rg_12 (rg_op1 rfl)) h)]
theorem cs_1123 {μ : XM} {x m o d b : Nat} {Q : XQ} {X : XX} {F28 : XFT} {A : AS} {x5 : Int32} {nc ns : Nat} (hV : LV μ x m o d b A) (hp : ∀ j : Int, 1 ≤ j → j ≤ 5 → vp_in (x5 + ji j) (ln μ b)) (hr1 : nc + 3 ≤ 603072) (hr2 : ns + 18 ≤ 7211113) (hF : LKo F28 x m o d b x5 μ nc ns) : j_L_law_1123 Q X F28 [some (.ref b), some (.ref x), some (.ref m), some (.ref o), some (.ref d), some (.int x5), none, none, none] [] μ nc ns := by
  obtain ⟨hi, ⟨hC, hx, hM⟩, ⟨to, lo⟩, ⟨td, ld⟩, tb, hb, hxm, hmo, hod⟩ := id hV
  obtain ⟨p1, e1, a1, b1⟩ := i32 (aI μ b (Int32.toNatClampNeg (x5 + ji 1)))
  obtain ⟨p2, e2, a2, b2⟩ := i32 (aI μ b (Int32.toNatClampNeg (x5 + ji 2)))
  obtain ⟨p3, e3, a3, b3⟩ := i32 (aI μ b (Int32.toNatClampNeg (x5 + ji 3)))
  rw [uj_L_law_1123]
  refine ⟨Or.inr tb, hp 1 (by omega) (by omega), Or.inr tb, hp 2 (by omega) (by omega), Or.inr tb, hp 3 (by omega) (by omega), ?_⟩
  rw [e1, e2, e3, uj_L_law_1143]
  refine ⟨by omega, by omega, w_ways hx hi hC to lo (by omega) a1 b1 a2 b2 a3 b3 (fun μ1 c1 x1 h1 => ?_)⟩
  rw [qI_at, c_L_law_47, uj_L_law_1146]
  obtain ⟨M1, t1, l1, f1⟩ := hV.mid c1 C_W
  simp only [l1, f1]
  rw [e1, e2, e3]
  refine ⟨Or.inr t1, hp 1 (by omega) (by omega), Or.inr t1, hp 2 (by omega) (by omega), Or.inr t1, hp 3 (by omega) (by omega), RS_0 M1.1, ?_⟩
  refine r_ways M1 hi a1 b1 a2 b2 a3 b3 (fun μ2 v c2 m2 g2 hv => ?_)
  rw [qI_at, c_L_law_98]
  refine ⟨RS_0 m2.1, ?_⟩
  rw [u_X9_thrown]
  refine ⟨RS_0 m2.1, ?_⟩
  rw [qI_at, g2, c_L_law_97]
  obtain ⟨V2, k2, fL, fD⟩ := hV.fin c1 C_W x1 (inv_op2 hi (fun _ _ => hi)) c2 C_M m2
  refine fin_w ?_ V2.2.2.1.1 V2.2.2.1.2 (fun h => ?_)
  · rw [uj_L_law_3064]; exact hF _ _ V2 k2 _ _ (by omega) (by omega)
  · rw [fL, h1 h, hv (ji00 (rg_op2 rfl) h)]
theorem cs_1203 {μ : XM} {x m o d b : Nat} {Q : XQ} {X : XX} {F28 : XFT} {A : AS} {x5 : Int32} {nc ns : Nat} (hV : LV μ x m o d b A) (hp : ∀ j : Int, 1 ≤ j → j ≤ 5 → vp_in (x5 + ji j) (ln μ b)) (hr1 : nc + 3 ≤ 603072) (hr2 : ns + 18 ≤ 7211113) (hF : LKo F28 x m o d b x5 μ nc ns) : j_L_law_1203 Q X F28 [some (.ref b), some (.ref x), some (.ref m), some (.ref o), some (.ref d), some (.int x5), none, none, none] [] μ nc ns := by
  obtain ⟨hi, ⟨hC, hx, hM⟩, ⟨to, lo⟩, ⟨td, ld⟩, tb, hb, hxm, hmo, hod⟩ := id hV
  rw [uj_L_law_1203]
  refine ⟨XL_0 hx.1, ?_⟩
  refine q_parts hx hi (fun μ1 c1 x1 => ?_)
  rw [qI_at, c_L_law_20]
  obtain ⟨M1, t1, l1, f1⟩ := hV.mid c1 C_X
  refine ⟨RS_0 M1.1, ?_⟩
  refine r_parts M1 hi (fun μ2 c2 m2 g2 => ?_)
  rw [qI_at, c_L_law_19, uj_L_law_3064]
  refine fin_d rfl ?_
  obtain ⟨V2, k2, -⟩ := hV.fin c1 C_X x1 hi c2 C_M m2
  exact hF _ _ V2 k2 _ _ (by omega) (by omega)
theorem cs_1216 {μ : XM} {x m o d b : Nat} {Q : XQ} {X : XX} {F28 : XFT} {A : AS} {x5 : Int32} {nc ns : Nat} (hV : LV μ x m o d b A) (hp : ∀ j : Int, 1 ≤ j → j ≤ 5 → vp_in (x5 + ji j) (ln μ b)) (hr1 : nc + 3 ≤ 603072) (hr2 : ns + 18 ≤ 7211113) (hF : LKo F28 x m o d b x5 μ nc ns) : j_L_law_1216 Q X F28 [some (.ref b), some (.ref x), some (.ref m), some (.ref o), some (.ref d), some (.int x5), none, none, none] [] μ nc ns := by
  obtain ⟨hi, ⟨hC, hx, hM⟩, ⟨to, lo⟩, ⟨td, ld⟩, tb, hb, hxm, hmo, hod⟩ := id hV
  obtain ⟨p1, e1, a1, b1⟩ := i32 (aI μ b (Int32.toNatClampNeg (x5 + ji 1)))
  rw [uj_L_law_1216]
  refine ⟨Or.inr tb, hp 1 (by omega) (by omega), ?_⟩
  rw [e1, uj_L_law_1224]
  refine ⟨by omega, by omega, w_bridge hx hi hC to lo (by omega) a1 b1 (fun μ1 c1 x1 h1 => ?_)⟩
  rw [qI_at, c_L_law_48, uj_L_law_1227]
  obtain ⟨M1, t1, l1, f1⟩ := hV.mid c1 C_W
  simp only [l1, f1]
  rw [e1]
  refine ⟨Or.inr t1, hp 1 (by omega) (by omega), RS_0 M1.1, ?_⟩
  refine r_bridge M1 hi a1 b1 (fun μ2 v c2 m2 g2 hv => ?_)
  rw [qI_at, c_L_law_100]
  refine ⟨RS_0 m2.1, ?_⟩
  rw [u_X9_thrown]
  refine ⟨RS_0 m2.1, ?_⟩
  rw [qI_at, g2, c_L_law_99]
  obtain ⟨V2, k2, fL, fD⟩ := hV.fin c1 C_W x1 (inv_op1 hi (fun _ => hi)) c2 C_M m2
  refine fin_w ?_ V2.2.2.1.1 V2.2.2.1.2 (fun h => ?_)
  · rw [uj_L_law_3064]; exact hF _ _ V2 k2 _ _ (by omega) (by omega)
  · rw [fL, h1 h, hv (ji00 (rg_12 (rg_op1 rfl)) h)]
theorem cs_1272 {μ : XM} {x m o d b : Nat} {Q : XQ} {X : XX} {F28 : XFT} {A : AS} {x5 : Int32} {nc ns : Nat} (hV : LV μ x m o d b A) (hp : ∀ j : Int, 1 ≤ j → j ≤ 5 → vp_in (x5 + ji j) (ln μ b)) (hr1 : nc + 3 ≤ 603072) (hr2 : ns + 18 ≤ 7211113) (hF : LKo F28 x m o d b x5 μ nc ns) : j_L_law_1272 Q X F28 [some (.ref b), some (.ref x), some (.ref m), some (.ref o), some (.ref d), some (.int x5), none, none, none] [] μ nc ns := by
  obtain ⟨hi, ⟨hC, hx, hM⟩, ⟨to, lo⟩, ⟨td, ld⟩, tb, hb, hxm, hmo, hod⟩ := id hV
  obtain ⟨p1, e1, a1, b1⟩ := i32 (aI μ b (Int32.toNatClampNeg (x5 + ji 1)))
  obtain ⟨p2, e2, a2, b2⟩ := i32 (aI μ b (Int32.toNatClampNeg (x5 + ji 2)))
  rw [uj_L_law_1272]
  refine ⟨Or.inr tb, hp 1 (by omega) (by omega), Or.inr tb, hp 2 (by omega) (by omega), ?_⟩
  rw [e1, e2, uj_L_law_1286]
  refine ⟨by omega, by omega, w_cut hx hi hC to lo (by omega) a1 b1 a2 b2 (fun μ1 c1 x1 h1 => ?_)⟩
  rw [qI_at, c_L_law_49, uj_L_law_1289]
  obtain ⟨M1, t1, l1, f1⟩ := hV.mid c1 C_W
  simp only [l1, f1]
  rw [e1, e2]
  refine ⟨Or.inr t1, hp 1 (by omega) (by omega), Or.inr t1, hp 2 (by omega) (by omega), RS_0 M1.1, ?_⟩
  refine r_cut M1 hi a1 b1 a2 b2 (fun μ2 v c2 m2 g2 hv => ?_)
  rw [qI_at, c_L_law_102]
  refine ⟨RS_0 m2.1, ?_⟩
  rw [u_X9_thrown]
  refine ⟨RS_0 m2.1, ?_⟩
  rw [qI_at, g2, c_L_law_101]
  obtain ⟨V2, k2, fL, fD⟩ := hV.fin c1 C_W x1 (inv_op1 hi (fun _ => hi)) c2 C_M m2
  refine fin_w ?_ V2.2.2.1.1 V2.2.2.1.2 (fun h => ?_)
  · rw [uj_L_law_3064]; exact hF _ _ V2 k2 _ _ (by omega) (by omega)
  · rw [fL, h1 h, hv (ji00 (rg_12 (rg_op1 rfl)) h)]
theorem cs_1340 {μ : XM} {x m o d b : Nat} {Q : XQ} {X : XX} {F28 : XFT} {A : AS} {x5 : Int32} {nc ns : Nat} (hV : LV μ x m o d b A) (hp : ∀ j : Int, 1 ≤ j → j ≤ 5 → vp_in (x5 + ji j) (ln μ b)) (hr1 : nc + 3 ≤ 603072) (hr2 : ns + 18 ≤ 7211113) (hF : LKo F28 x m o d b x5 μ nc ns) : j_L_law_1340 Q X F28 [some (.ref b), some (.ref x), some (.ref m), some (.ref o), some (.ref d), some (.int x5), none, none, none] [] μ nc ns := by
  obtain ⟨hi, ⟨hC, hx, hM⟩, ⟨to, lo⟩, ⟨td, ld⟩, tb, hb, hxm, hmo, hod⟩ := id hV
  obtain ⟨p1, e1, a1, b1⟩ := i32 (aI μ b (Int32.toNatClampNeg (x5 + ji 1)))
  rw [uj_L_law_1340]
  refine ⟨Or.inr tb, hp 1 (by omega) (by omega), ?_⟩
  rw [e1, uj_L_law_1348]
  refine ⟨by omega, by omega, w_farthest hx hi hC to lo (by omega) a1 b1 (fun μ1 c1 x1 h1 => ?_)⟩
  rw [qI_at, c_L_law_50, uj_L_law_1351]
  obtain ⟨M1, t1, l1, f1⟩ := hV.mid c1 C_W
  simp only [l1, f1]
  rw [e1]
  refine ⟨Or.inr t1, hp 1 (by omega) (by omega), RS_0 M1.1, ?_⟩
  refine r_farthest M1 hi a1 b1 (fun μ2 v c2 m2 g2 hv => ?_)
  rw [qI_at, c_L_law_104]
  refine ⟨RS_0 m2.1, ?_⟩
  rw [u_X9_thrown]
  refine ⟨RS_0 m2.1, ?_⟩
  rw [qI_at, g2, c_L_law_103]
  obtain ⟨V2, k2, fL, fD⟩ := hV.fin c1 C_W x1 (inv_op1 hi (fun _ => hi)) c2 C_M m2
  refine fin_w ?_ V2.2.2.1.1 V2.2.2.1.2 (fun h => ?_)
  · rw [uj_L_law_3064]; exact hF _ _ V2 k2 _ _ (by omega) (by omega)
  · rw [fL, h1 h, hv (ji00 (rg_12 (rg_op1 rfl)) h)]
theorem cs_1396 {μ : XM} {x m o d b : Nat} {Q : XQ} {X : XX} {F28 : XFT} {A : AS} {x5 : Int32} {nc ns : Nat} (hV : LV μ x m o d b A) (hp : ∀ j : Int, 1 ≤ j → j ≤ 5 → vp_in (x5 + ji j) (ln μ b)) (hr1 : nc + 3 ≤ 603072) (hr2 : ns + 18 ≤ 7211113) (hF : LKo F28 x m o d b x5 μ nc ns) : j_L_law_1396 Q X F28 [some (.ref b), some (.ref x), some (.ref m), some (.ref o), some (.ref d), some (.int x5), none, none, none] [] μ nc ns := by
  obtain ⟨hi, ⟨hC, hx, hM⟩, ⟨to, lo⟩, ⟨td, ld⟩, tb, hb, hxm, hmo, hod⟩ := id hV
  obtain ⟨p1, e1, a1, b1⟩ := i32 (aI μ b (Int32.toNatClampNeg (x5 + ji 1)))
  obtain ⟨p2, e2, a2, b2⟩ := i32 (aI μ b (Int32.toNatClampNeg (x5 + ji 2)))
  obtain ⟨p3, e3, a3, b3⟩ := i32 (aI μ b (Int32.toNatClampNeg (x5 + ji 3)))
  rw [uj_L_law_1396]
  refine ⟨Or.inr tb, hp 1 (by omega) (by omega), Or.inr tb, hp 2 (by omega) (by omega), Or.inr tb, hp 3 (by omega) (by omega), ?_⟩
  rw [e1, e2, e3, uj_L_law_1416]
  refine ⟨by omega, by omega, w_send hx hi hC to lo (by omega) a1 b1 a2 b2 a3 b3 (fun μ1 c1 x1 h1 => ?_)⟩
  rw [qI_at, c_L_law_51, uj_L_law_1419]
  obtain ⟨M1, t1, l1, f1⟩ := hV.mid c1 C_W
  simp only [l1, f1]
  rw [e1, e2, e3]
  refine ⟨Or.inr t1, hp 1 (by omega) (by omega), Or.inr t1, hp 2 (by omega) (by omega), Or.inr t1, hp 3 (by omega) (by omega), RS_0 M1.1, ?_⟩
  refine r_send M1 hi a1 b1 a2 b2 a3 b3 (fun μ2 v c2 m2 g2 hv => ?_)
  rw [qI_at, c_L_law_106]
  refine ⟨RS_0 m2.1, ?_⟩
  rw [u_X9_thrown]
  refine ⟨RS_0 m2.1, ?_⟩
  rw [qI_at, g2, c_L_law_105]
  obtain ⟨V2, k2, fL, fD⟩ := hV.fin c1 C_W x1 (inv_op2 hi (fun h1 h2 => hi.send h1.1.1 h1.1.2 h1.2.1 h1.2.2 h2.1 h2.2)) c2 C_M m2
  refine fin_w ?_ V2.2.2.1.1 V2.2.2.1.2 (fun h => ?_)
  · rw [uj_L_law_3064]; exact hF _ _ V2 k2 _ _ (by omega) (by omega)
  · rw [fL, h1 h, hv (ji00 (rg_op2 z_send) h)]
theorem cs_1476 {μ : XM} {x m o d b : Nat} {Q : XQ} {X : XX} {F28 : XFT} {A : AS} {x5 : Int32} {nc ns : Nat} (hV : LV μ x m o d b A) (hp : ∀ j : Int, 1 ≤ j → j ≤ 5 → vp_in (x5 + ji j) (ln μ b)) (hr1 : nc + 3 ≤ 603072) (hr2 : ns + 18 ≤ 7211113) (hF : LKo F28 x m o d b x5 μ nc ns) : j_L_law_1476 Q X F28 [some (.ref b), some (.ref x), some (.ref m), some (.ref o), some (.ref d), some (.int x5), none, none, none] [] μ nc ns := by
  obtain ⟨hi, ⟨hC, hx, hM⟩, ⟨to, lo⟩, ⟨td, ld⟩, tb, hb, hxm, hmo, hod⟩ := id hV
  obtain ⟨p1, e1, a1, b1⟩ := i32 (aI μ b (Int32.toNatClampNeg (x5 + ji 1)))
  rw [uj_L_law_1476]
  refine ⟨Or.inr tb, hp 1 (by omega) (by omega), ?_⟩
  rw [e1, uj_L_law_1484]
  refine ⟨by omega, by omega, w_tick hx hi hC to lo (by omega) a1 b1 (fun μ1 c1 x1 h1 => ?_)⟩
  rw [qI_at, c_L_law_52, uj_L_law_1487]
  obtain ⟨M1, t1, l1, f1⟩ := hV.mid c1 C_W
  simp only [l1, f1]
  rw [e1]
  refine ⟨Or.inr t1, hp 1 (by omega) (by omega), RS_0 M1.1, ?_⟩
  refine r_tick M1 hi a1 b1 (fun μ2 v c2 m2 g2 hv => ?_)
  rw [qI_at, c_L_law_108]
  refine ⟨RS_0 m2.1, ?_⟩
  rw [u_X9_thrown]
  refine ⟨RS_0 m2.1, ?_⟩
  rw [qI_at, g2, c_L_law_107]
  obtain ⟨V2, k2, fL, fD⟩ := hV.fin c1 C_W x1 (inv_op1 hi (fun h => hi.tick h.1)) c2 C_M m2
  refine fin_w ?_ V2.2.2.1.1 V2.2.2.1.2 (fun h => ?_)
  · rw [uj_L_law_3064]; exact hF _ _ V2 k2 _ _ (by omega) (by omega)
  · rw [fL, h1 h, hv (ji00 (rg_12 (rg_op1 z_tick)) h)]
theorem cs_1532 {μ : XM} {x m o d b : Nat} {Q : XQ} {X : XX} {F28 : XFT} {A : AS} {x5 : Int32} {nc ns : Nat} (hV : LV μ x m o d b A) (hp : ∀ j : Int, 1 ≤ j → j ≤ 5 → vp_in (x5 + ji j) (ln μ b)) (hr1 : nc + 3 ≤ 603072) (hr2 : ns + 18 ≤ 7211113) (hF : LKo F28 x m o d b x5 μ nc ns) : j_L_law_1532 Q X F28 [some (.ref b), some (.ref x), some (.ref m), some (.ref o), some (.ref d), some (.int x5), none, none, none] [] μ nc ns := by
  obtain ⟨hi, ⟨hC, hx, hM⟩, ⟨to, lo⟩, ⟨td, ld⟩, tb, hb, hxm, hmo, hod⟩ := id hV
  obtain ⟨p1, e1, a1, b1⟩ := i32 (aI μ b (Int32.toNatClampNeg (x5 + ji 1)))
  obtain ⟨p2, e2, a2, b2⟩ := i32 (aI μ b (Int32.toNatClampNeg (x5 + ji 2)))
  rw [uj_L_law_1532]
  refine ⟨Or.inr tb, hp 1 (by omega) (by omega), Or.inr tb, hp 2 (by omega) (by omega), ?_⟩
  rw [e1, e2, uj_L_law_1546]
  refine ⟨by omega, by omega, w_kill hx hi hC to lo (by omega) a1 b1 a2 b2 (fun μ1 c1 x1 h1 => ?_)⟩
  rw [qI_at, c_L_law_53, uj_L_law_1549]
  obtain ⟨M1, t1, l1, f1⟩ := hV.mid c1 C_W
  simp only [l1, f1]
  rw [e1, e2]
  refine ⟨Or.inr t1, hp 1 (by omega) (by omega), Or.inr t1, hp 2 (by omega) (by omega), RS_0 M1.1, ?_⟩
  refine r_kill M1 hi a1 b1 a2 b2 (fun μ2 v c2 m2 g2 hv => ?_)
  rw [qI_at, c_L_law_110]
  refine ⟨RS_0 m2.1, ?_⟩
  rw [u_X9_thrown]
  refine ⟨RS_0 m2.1, ?_⟩
  rw [qI_at, g2, c_L_law_109]
  obtain ⟨V2, k2, fL, fD⟩ := hV.fin c1 C_W x1 (inv_op2 hi (fun _ _ => hi.turn (Or.inr rfl))) c2 C_M m2
  refine fin_w ?_ V2.2.2.1.1 V2.2.2.1.2 (fun h => ?_)
  · rw [uj_L_law_3064]; exact hF _ _ V2 k2 _ _ (by omega) (by omega)
  · rw [fL, h1 h, hv (ji00 (rg_op2 z_turn) h)]
theorem cs_1600 {μ : XM} {x m o d b : Nat} {Q : XQ} {X : XX} {F28 : XFT} {A : AS} {x5 : Int32} {nc ns : Nat} (hV : LV μ x m o d b A) (hp : ∀ j : Int, 1 ≤ j → j ≤ 5 → vp_in (x5 + ji j) (ln μ b)) (hr1 : nc + 3 ≤ 603072) (hr2 : ns + 18 ≤ 7211113) (hF : LKo F28 x m o d b x5 μ nc ns) : j_L_law_1600 Q X F28 [some (.ref b), some (.ref x), some (.ref m), some (.ref o), some (.ref d), some (.int x5), none, none, none] [] μ nc ns := by
  obtain ⟨hi, ⟨hC, hx, hM⟩, ⟨to, lo⟩, ⟨td, ld⟩, tb, hb, hxm, hmo, hod⟩ := id hV
  obtain ⟨p1, e1, a1, b1⟩ := i32 (aI μ b (Int32.toNatClampNeg (x5 + ji 1)))
  obtain ⟨p2, e2, a2, b2⟩ := i32 (aI μ b (Int32.toNatClampNeg (x5 + ji 2)))
  rw [uj_L_law_1600]
  refine ⟨Or.inr tb, hp 1 (by omega) (by omega), Or.inr tb, hp 2 (by omega) (by omega), ?_⟩
  rw [e1, e2, uj_L_law_1614]
  refine ⟨by omega, by omega, w_mend hx hi hC to lo (by omega) a1 b1 a2 b2 (fun μ1 c1 x1 h1 => ?_)⟩
  rw [qI_at, c_L_law_54, uj_L_law_1617]
  obtain ⟨M1, t1, l1, f1⟩ := hV.mid c1 C_W
  simp only [l1, f1]
  rw [e1, e2]
  refine ⟨Or.inr t1, hp 1 (by omega) (by omega), Or.inr t1, hp 2 (by omega) (by omega), RS_0 M1.1, ?_⟩
  refine r_mend M1 hi a1 b1 a2 b2 (fun μ2 v c2 m2 g2 hv => ?_)
  rw [qI_at, c_L_law_112]
  refine ⟨RS_0 m2.1, ?_⟩
  rw [u_X9_thrown]
  refine ⟨RS_0 m2.1, ?_⟩
  rw [qI_at, g2, c_L_law_111]
  obtain ⟨V2, k2, fL, fD⟩ := hV.fin c1 C_W x1 (inv_op2 hi (fun _ _ => hi.turn (Or.inl rfl))) c2 C_M m2
  refine fin_w ?_ V2.2.2.1.1 V2.2.2.1.2 (fun h => ?_)
  · rw [uj_L_law_3064]; exact hF _ _ V2 k2 _ _ (by omega) (by omega)
  · rw [fL, h1 h, hv (ji00 (rg_op2 z_turn) h)]
theorem cs_1668 {μ : XM} {x m o d b : Nat} {Q : XQ} {X : XX} {F28 : XFT} {A : AS} {x5 : Int32} {nc ns : Nat} (hV : LV μ x m o d b A) (hp : ∀ j : Int, 1 ≤ j → j ≤ 5 → vp_in (x5 + ji j) (ln μ b)) (hr1 : nc + 3 ≤ 603072) (hr2 : ns + 18 ≤ 7211113) (hF : LKo F28 x m o d b x5 μ nc ns) : j_L_law_1668 Q X F28 [some (.ref b), some (.ref x), some (.ref m), some (.ref o), some (.ref d), some (.int x5), none, none, none] [] μ nc ns := by
  obtain ⟨hi, ⟨hC, hx, hM⟩, ⟨to, lo⟩, ⟨td, ld⟩, tb, hb, hxm, hmo, hod⟩ := id hV
  obtain ⟨p1, e1, a1, b1⟩ := i32 (aI μ b (Int32.toNatClampNeg (x5 + ji 1)))
  rw [uj_L_law_1668]
  refine ⟨Or.inr tb, hp 1 (by omega) (by omega), ?_⟩
  rw [e1, uj_L_law_1676]
  refine ⟨by omega, by omega, w_forget hx hi hC to lo (by omega) a1 b1 (fun μ1 c1 x1 h1 => ?_)⟩
  rw [qI_at, c_L_law_55, uj_L_law_1679]
  obtain ⟨M1, t1, l1, f1⟩ := hV.mid c1 C_W
  simp only [l1, f1]
  rw [e1]
  refine ⟨Or.inr t1, hp 1 (by omega) (by omega), RS_0 M1.1, ?_⟩
  refine r_forget M1 hi a1 b1 (fun μ2 v c2 m2 g2 hv => ?_)
  rw [qI_at, c_L_law_114]
  refine ⟨RS_0 m2.1, ?_⟩
  rw [u_X9_thrown]
  refine ⟨RS_0 m2.1, ?_⟩
  rw [qI_at, g2, c_L_law_113]
  obtain ⟨V2, k2, fL, fD⟩ := hV.fin c1 C_W x1 (inv_op1 hi (fun h => hi.forget h.1 h.2)) c2 C_M m2
  refine fin_w ?_ V2.2.2.1.1 V2.2.2.1.2 (fun h => ?_)
  · rw [uj_L_law_3064]; exact hF _ _ V2 k2 _ _ (by omega) (by omega)
  · rw [fL, h1 h, hv (ji00 (rg_12 (rg_op1 rfl)) h)]
theorem cs_1724 {μ : XM} {x m o d b : Nat} {Q : XQ} {X : XX} {F28 : XFT} {A : AS} {x5 : Int32} {nc ns : Nat} (hV : LV μ x m o d b A) (hp : ∀ j : Int, 1 ≤ j → j ≤ 5 → vp_in (x5 + ji j) (ln μ b)) (hr1 : nc + 3 ≤ 603072) (hr2 : ns + 18 ≤ 7211113) (hF : LKo F28 x m o d b x5 μ nc ns) : j_L_law_1724 Q X F28 [some (.ref b), some (.ref x), some (.ref m), some (.ref o), some (.ref d), some (.int x5), none, none, none] [] μ nc ns := by
  obtain ⟨hi, ⟨hC, hx, hM⟩, ⟨to, lo⟩, ⟨td, ld⟩, tb, hb, hxm, hmo, hod⟩ := id hV
  obtain ⟨p1, e1, a1, b1⟩ := i32 (aI μ b (Int32.toNatClampNeg (x5 + ji 1)))
  obtain ⟨p2, e2, a2, b2⟩ := i32 (aI μ b (Int32.toNatClampNeg (x5 + ji 2)))
  rw [uj_L_law_1724]
  refine ⟨Or.inr tb, hp 1 (by omega) (by omega), Or.inr tb, hp 2 (by omega) (by omega), ?_⟩
  rw [e1, e2, uj_L_law_1738]
  refine ⟨by omega, by omega, w_packet hx hi hC to lo (by omega) a1 b1 a2 b2 (fun μ1 c1 x1 h1 => ?_)⟩
  rw [qI_at, c_L_law_56, uj_L_law_1741]
  obtain ⟨M1, t1, l1, f1⟩ := hV.mid c1 C_W
  simp only [l1, f1]
  rw [e1, e2]
  refine ⟨Or.inr t1, hp 1 (by omega) (by omega), Or.inr t1, hp 2 (by omega) (by omega), RS_0 M1.1, ?_⟩
  refine r_packet M1 hi a1 b1 a2 b2 (fun μ2 v c2 m2 g2 hv => ?_)
  rw [qI_at, c_L_law_116]
  refine ⟨RS_0 m2.1, ?_⟩
  rw [u_X9_thrown]
  refine ⟨RS_0 m2.1, ?_⟩
  rw [qI_at, g2, c_L_law_115]
  obtain ⟨V2, k2, fL, fD⟩ := hV.fin c1 C_W x1 hi c2 C_M m2
  refine fin_w ?_ V2.2.2.1.1 V2.2.2.1.2 (fun h => ?_)
  · rw [uj_L_law_3064]; exact hF _ _ V2 k2 _ _ (by omega) (by omega)
  · rw [fL, h1 h, hv (ji00 (rg_12 rg_oc1) h)]
theorem cs_1792 {μ : XM} {x m o d b : Nat} {Q : XQ} {X : XX} {F28 : XFT} {A : AS} {x5 : Int32} {nc ns : Nat} (hV : LV μ x m o d b A) (hp : ∀ j : Int, 1 ≤ j → j ≤ 5 → vp_in (x5 + ji j) (ln μ b)) (hr1 : nc + 3 ≤ 603072) (hr2 : ns + 18 ≤ 7211113) (hF : LKo F28 x m o d b x5 μ nc ns) : j_L_law_1792 Q X F28 [some (.ref b), some (.ref x), some (.ref m), some (.ref o), some (.ref d), some (.int x5), none, none, none] [] μ nc ns := by
  obtain ⟨hi, ⟨hC, hx, hM⟩, ⟨to, lo⟩, ⟨td, ld⟩, tb, hb, hxm, hmo, hod⟩ := id hV
  obtain ⟨p1, e1, a1, b1⟩ := i32 (aI μ b (Int32.toNatClampNeg (x5 + ji 1)))
  obtain ⟨p2, e2, a2, b2⟩ := i32 (aI μ b (Int32.toNatClampNeg (x5 + ji 2)))
  rw [uj_L_law_1792]
  refine ⟨Or.inr tb, hp 1 (by omega) (by omega), Or.inr tb, hp 2 (by omega) (by omega), ?_⟩
  rw [e1, e2, uj_L_law_1806]
  refine ⟨by omega, by omega, w_trail hx hi hC to lo (by omega) a1 b1 a2 b2 (fun μ1 c1 x1 h1 => ?_)⟩
  rw [qI_at, c_L_law_57, uj_L_law_1809]
  obtain ⟨M1, t1, l1, f1⟩ := hV.mid c1 C_W
  simp only [l1, f1]
  rw [e1, e2]
  refine ⟨Or.inr t1, hp 1 (by omega) (by omega), Or.inr t1, hp 2 (by omega) (by omega), RS_0 M1.1, ?_⟩
  refine r_trail M1 hi a1 b1 a2 b2 (fun μ2 v c2 m2 g2 hv => ?_)
  rw [qI_at, c_L_law_118]
  refine ⟨RS_0 m2.1, ?_⟩
  rw [u_X9_thrown]
  refine ⟨RS_0 m2.1, ?_⟩
  rw [qI_at, g2, c_L_law_117]
  obtain ⟨V2, k2, fL, fD⟩ := hV.fin c1 C_W x1 hi c2 C_M m2
  refine fin_w ?_ V2.2.2.1.1 V2.2.2.1.2 (fun h => ?_)
  · rw [uj_L_law_3064]; exact hF _ _ V2 k2 _ _ (by omega) (by omega)
  · rw [fL, h1 h, hv (ji00 (rg_12 rg_oc1) h)]
theorem cs_1860 {μ : XM} {x m o d b : Nat} {Q : XQ} {X : XX} {F28 : XFT} {A : AS} {x5 : Int32} {nc ns : Nat} (hV : LV μ x m o d b A) (hp : ∀ j : Int, 1 ≤ j → j ≤ 5 → vp_in (x5 + ji j) (ln μ b)) (hr1 : nc + 3 ≤ 603072) (hr2 : ns + 18 ≤ 7211113) (hF : LKo F28 x m o d b x5 μ nc ns) : j_L_law_1860 Q X F28 [some (.ref b), some (.ref x), some (.ref m), some (.ref o), some (.ref d), some (.int x5), none, none, none] [] μ nc ns := by
  obtain ⟨hi, ⟨hC, hx, hM⟩, ⟨to, lo⟩, ⟨td, ld⟩, tb, hb, hxm, hmo, hod⟩ := id hV
  obtain ⟨p1, e1, a1, b1⟩ := i32 (aI μ b (Int32.toNatClampNeg (x5 + ji 1)))
  obtain ⟨p2, e2, a2, b2⟩ := i32 (aI μ b (Int32.toNatClampNeg (x5 + ji 2)))
  rw [uj_L_law_1860]
  refine ⟨Or.inr tb, hp 1 (by omega) (by omega), Or.inr tb, hp 2 (by omega) (by omega), ?_⟩
  rw [e1, e2, uj_L_law_1874]
  refine ⟨by omega, by omega, w_isVisited hx hi hC to lo (by omega) a1 b1 a2 b2 (fun μ1 c1 x1 h1 => ?_)⟩
  rw [qI_at, c_L_law_58, uj_L_law_1877]
  obtain ⟨M1, t1, l1, f1⟩ := hV.mid c1 C_W
  simp only [l1, f1]
  rw [e1, e2]
  refine ⟨Or.inr t1, hp 1 (by omega) (by omega), Or.inr t1, hp 2 (by omega) (by omega), RS_0 M1.1, ?_⟩
  refine r_isVisited M1 hi a1 b1 a2 b2 (fun μ2 v c2 m2 g2 hv => ?_)
  rw [qI_at, c_L_law_120]
  refine ⟨RS_0 m2.1, ?_⟩
  rw [u_X9_thrown]
  refine ⟨RS_0 m2.1, ?_⟩
  rw [qI_at, g2, c_L_law_119]
  obtain ⟨V2, k2, fL, fD⟩ := hV.fin c1 C_W x1 hi c2 C_M m2
  refine fin_b ?_ V2.2.2.1.1 V2.2.2.1.2 (fun h => ?_)
  · rw [uj_L_law_3064]; exact hF _ _ V2 k2 _ _ (by omega) (by omega)
  · rw [hv (ji00 (rg_12 rg_oc1) h)]; exact ⟨by rw [fL, h1 h], b_oc1⟩
theorem cs_1935 {μ : XM} {x m o d b : Nat} {Q : XQ} {X : XX} {F28 : XFT} {A : AS} {x5 : Int32} {nc ns : Nat} (hV : LV μ x m o d b A) (hp : ∀ j : Int, 1 ≤ j → j ≤ 5 → vp_in (x5 + ji j) (ln μ b)) (hr1 : nc + 3 ≤ 603072) (hr2 : ns + 18 ≤ 7211113) (hF : LKo F28 x m o d b x5 μ nc ns) : j_L_law_1935 Q X F28 [some (.ref b), some (.ref x), some (.ref m), some (.ref o), some (.ref d), some (.int x5), none, none, none] [] μ nc ns := by
  obtain ⟨hi, ⟨hC, hx, hM⟩, ⟨to, lo⟩, ⟨td, ld⟩, tb, hb, hxm, hmo, hod⟩ := id hV
  obtain ⟨p1, e1, a1, b1⟩ := i32 (aI μ b (Int32.toNatClampNeg (x5 + ji 1)))
  obtain ⟨p2, e2, a2, b2⟩ := i32 (aI μ b (Int32.toNatClampNeg (x5 + ji 2)))
  rw [uj_L_law_1935]
  refine ⟨Or.inr tb, hp 1 (by omega) (by omega), Or.inr tb, hp 2 (by omega) (by omega), ?_⟩
  rw [e1, e2, uj_L_law_1949]
  refine ⟨by omega, by omega, w_found hx hi hC to lo (by omega) a1 b1 a2 b2 (fun μ1 c1 x1 h1 => ?_)⟩
  rw [qI_at, c_L_law_59, uj_L_law_1952]
  obtain ⟨M1, t1, l1, f1⟩ := hV.mid c1 C_W
  simp only [l1, f1]
  rw [e1, e2]
  refine ⟨Or.inr t1, hp 1 (by omega) (by omega), Or.inr t1, hp 2 (by omega) (by omega), RS_0 M1.1, ?_⟩
  refine r_found M1 hi a1 b1 a2 b2 (fun μ2 v c2 m2 g2 hv => ?_)
  rw [qI_at, c_L_law_122]
  refine ⟨RS_0 m2.1, ?_⟩
  rw [u_X9_thrown]
  refine ⟨RS_0 m2.1, ?_⟩
  rw [qI_at, g2, c_L_law_121]
  obtain ⟨V2, k2, fL, fD⟩ := hV.fin c1 C_W x1 hi c2 C_M m2
  refine fin_w ?_ V2.2.2.1.1 V2.2.2.1.2 (fun h => ?_)
  · rw [uj_L_law_3064]; exact hF _ _ V2 k2 _ _ (by omega) (by omega)
  · rw [fL, h1 h, hv (ji00 (rg_12 rg_oc1) h)]
theorem cs_2003 {μ : XM} {x m o d b : Nat} {Q : XQ} {X : XX} {F28 : XFT} {A : AS} {x5 : Int32} {nc ns : Nat} (hV : LV μ x m o d b A) (hp : ∀ j : Int, 1 ≤ j → j ≤ 5 → vp_in (x5 + ji j) (ln μ b)) (hr1 : nc + 3 ≤ 603072) (hr2 : ns + 18 ≤ 7211113) (hF : LKo F28 x m o d b x5 μ nc ns) : j_L_law_2003 Q X F28 [some (.ref b), some (.ref x), some (.ref m), some (.ref o), some (.ref d), some (.int x5), none, none, none] [] μ nc ns := by
  obtain ⟨hi, ⟨hC, hx, hM⟩, ⟨to, lo⟩, ⟨td, ld⟩, tb, hb, hxm, hmo, hod⟩ := id hV
  obtain ⟨p1, e1, a1, b1⟩ := i32 (aI μ b (Int32.toNatClampNeg (x5 + ji 1)))
  rw [uj_L_law_2003]
  refine ⟨Or.inr tb, hp 1 (by omega) (by omega), ?_⟩
  rw [e1, uj_L_law_2011]
  refine ⟨by omega, by omega, w_deadHome hx hi hC to lo (by omega) a1 b1 (fun μ1 c1 x1 h1 => ?_)⟩
  rw [qI_at, c_L_law_60, uj_L_law_2014]
  obtain ⟨M1, t1, l1, f1⟩ := hV.mid c1 C_W
  simp only [l1, f1]
  rw [e1]
  refine ⟨Or.inr t1, hp 1 (by omega) (by omega), RS_0 M1.1, ?_⟩
  refine r_deadHome M1 hi a1 b1 (fun μ2 v c2 m2 g2 hv => ?_)
  rw [qI_at, c_L_law_124]
  refine ⟨RS_0 m2.1, ?_⟩
  rw [u_X9_thrown]
  refine ⟨RS_0 m2.1, ?_⟩
  rw [qI_at, g2, c_L_law_123]
  obtain ⟨V2, k2, fL, fD⟩ := hV.fin c1 C_W x1 hi c2 C_M m2
  refine fin_w ?_ V2.2.2.1.1 V2.2.2.1.2 (fun h => ?_)
  · rw [uj_L_law_3064]; exact hF _ _ V2 k2 _ _ (by omega) (by omega)
  · rw [fL, h1 h, hv (ji00 (rg_12 rg_oc1) h)]
theorem cs_2059 {μ : XM} {x m o d b : Nat} {Q : XQ} {X : XX} {F28 : XFT} {A : AS} {x5 : Int32} {nc ns : Nat} (hV : LV μ x m o d b A) (hp : ∀ j : Int, 1 ≤ j → j ≤ 5 → vp_in (x5 + ji j) (ln μ b)) (hr1 : nc + 3 ≤ 603072) (hr2 : ns + 18 ≤ 7211113) (hF : LKo F28 x m o d b x5 μ nc ns) : j_L_law_2059 Q X F28 [some (.ref b), some (.ref x), some (.ref m), some (.ref o), some (.ref d), some (.int x5), none, none, none] [] μ nc ns := by
  obtain ⟨hi, ⟨hC, hx, hM⟩, ⟨to, lo⟩, ⟨td, ld⟩, tb, hb, hxm, hmo, hod⟩ := id hV
  obtain ⟨p1, e1, a1, b1⟩ := i32 (aI μ b (Int32.toNatClampNeg (x5 + ji 1)))
  rw [uj_L_law_2059]
  refine ⟨Or.inr tb, hp 1 (by omega) (by omega), ?_⟩
  rw [e1, uj_L_law_2067]
  refine ⟨by omega, by omega, w_healed hx hi hC to lo (by omega) a1 b1 (fun μ1 c1 x1 h1 => ?_)⟩
  rw [qI_at, c_L_law_61, uj_L_law_2070]
  obtain ⟨M1, t1, l1, f1⟩ := hV.mid c1 C_W
  simp only [l1, f1]
  rw [e1]
  refine ⟨Or.inr t1, hp 1 (by omega) (by omega), RS_0 M1.1, ?_⟩
  refine r_healed M1 hi a1 b1 (fun μ2 v c2 m2 g2 hv => ?_)
  rw [qI_at, c_L_law_126]
  refine ⟨RS_0 m2.1, ?_⟩
  rw [u_X9_thrown]
  refine ⟨RS_0 m2.1, ?_⟩
  rw [qI_at, g2, c_L_law_125]
  obtain ⟨V2, k2, fL, fD⟩ := hV.fin c1 C_W x1 hi c2 C_M m2
  refine fin_w ?_ V2.2.2.1.1 V2.2.2.1.2 (fun h => ?_)
  · rw [uj_L_law_3064]; exact hF _ _ V2 k2 _ _ (by omega) (by omega)
  · rw [fL, h1 h, hv (ji00 (rg_12 rg_oc1) h)]
theorem cs_2115 {μ : XM} {x m o d b : Nat} {Q : XQ} {X : XX} {F28 : XFT} {A : AS} {x5 : Int32} {nc ns : Nat} (hV : LV μ x m o d b A) (hp : ∀ j : Int, 1 ≤ j → j ≤ 5 → vp_in (x5 + ji j) (ln μ b)) (hr1 : nc + 3 ≤ 603072) (hr2 : ns + 18 ≤ 7211113) (hF : LKo F28 x m o d b x5 μ nc ns) : j_L_law_2115 Q X F28 [some (.ref b), some (.ref x), some (.ref m), some (.ref o), some (.ref d), some (.int x5), none, none, none] [] μ nc ns := by
  obtain ⟨hi, ⟨hC, hx, hM⟩, ⟨to, lo⟩, ⟨td, ld⟩, tb, hb, hxm, hmo, hod⟩ := id hV
  obtain ⟨p1, e1, a1, b1⟩ := i32 (aI μ b (Int32.toNatClampNeg (x5 + ji 1)))
  rw [uj_L_law_2115]
  refine ⟨Or.inr tb, hp 1 (by omega) (by omega), ?_⟩
  rw [e1, uj_L_law_2123]
  refine ⟨by omega, by omega, w_choice hx hi hC to lo (by omega) a1 b1 (fun μ1 c1 x1 h1 => ?_)⟩
  rw [qI_at, c_L_law_62, uj_L_law_2126]
  obtain ⟨M1, t1, l1, f1⟩ := hV.mid c1 C_W
  simp only [l1, f1]
  rw [e1]
  refine ⟨Or.inr t1, hp 1 (by omega) (by omega), RS_0 M1.1, ?_⟩
  refine r_choice M1 hi a1 b1 (fun μ2 v c2 m2 g2 hv => ?_)
  rw [qI_at, c_L_law_128]
  refine ⟨RS_0 m2.1, ?_⟩
  rw [u_X9_thrown]
  refine ⟨RS_0 m2.1, ?_⟩
  rw [qI_at, g2, c_L_law_127]
  obtain ⟨V2, k2, fL, fD⟩ := hV.fin c1 C_W x1 hi c2 C_M m2
  refine fin_w ?_ V2.2.2.1.1 V2.2.2.1.2 (fun h => ?_)
  · rw [uj_L_law_3064]; exact hF _ _ V2 k2 _ _ (by omega) (by omega)
  · rw [fL, h1 h, hv (ji00 (rg_12 rg_oc1) h)]
theorem cs_2171 {μ : XM} {x m o d b : Nat} {Q : XQ} {X : XX} {F28 : XFT} {A : AS} {x5 : Int32} {nc ns : Nat} (hV : LV μ x m o d b A) (hp : ∀ j : Int, 1 ≤ j → j ≤ 5 → vp_in (x5 + ji j) (ln μ b)) (hr1 : nc + 3 ≤ 603072) (hr2 : ns + 18 ≤ 7211113) (hF : LKo F28 x m o d b x5 μ nc ns) : j_L_law_2171 Q X F28 [some (.ref b), some (.ref x), some (.ref m), some (.ref o), some (.ref d), some (.int x5), none, none, none] [] μ nc ns := by
  obtain ⟨hi, ⟨hC, hx, hM⟩, ⟨to, lo⟩, ⟨td, ld⟩, tb, hb, hxm, hmo, hod⟩ := id hV
  obtain ⟨p1, e1, a1, b1⟩ := i32 (aI μ b (Int32.toNatClampNeg (x5 + ji 1)))
  obtain ⟨p2, e2, a2, b2⟩ := i32 (aI μ b (Int32.toNatClampNeg (x5 + ji 2)))
  rw [uj_L_law_2171]
  refine ⟨Or.inr tb, hp 1 (by omega) (by omega), Or.inr tb, hp 2 (by omega) (by omega), ?_⟩
  rw [e1, e2, uj_L_law_2185]
  refine ⟨by omega, by omega, w_reason hx hi hC to lo (by omega) a1 b1 a2 b2 (fun μ1 c1 x1 h1 => ?_)⟩
  rw [qI_at, c_L_law_63, uj_L_law_2188]
  obtain ⟨M1, t1, l1, f1⟩ := hV.mid c1 C_W
  simp only [l1, f1]
  rw [e1, e2]
  refine ⟨Or.inr t1, hp 1 (by omega) (by omega), Or.inr t1, hp 2 (by omega) (by omega), RS_0 M1.1, ?_⟩
  refine r_reason M1 hi a1 b1 a2 b2 (fun μ2 v c2 m2 g2 hv => ?_)
  rw [qI_at, c_L_law_130]
  refine ⟨RS_0 m2.1, ?_⟩
  rw [u_X9_thrown]
  refine ⟨RS_0 m2.1, ?_⟩
  rw [qI_at, g2, c_L_law_129]
  obtain ⟨V2, k2, fL, fD⟩ := hV.fin c1 C_W x1 hi c2 C_M m2
  refine fin_w ?_ V2.2.2.1.1 V2.2.2.1.2 (fun h => ?_)
  · rw [uj_L_law_3064]; exact hF _ _ V2 k2 _ _ (by omega) (by omega)
  · rw [fL, h1 h, hv (ji00 rg_oc2 h)]
theorem cs_2239 {μ : XM} {x m o d b : Nat} {Q : XQ} {X : XX} {F28 : XFT} {A : AS} {x5 : Int32} {nc ns : Nat} (hV : LV μ x m o d b A) (hp : ∀ j : Int, 1 ≤ j → j ≤ 5 → vp_in (x5 + ji j) (ln μ b)) (hr1 : nc + 3 ≤ 603072) (hr2 : ns + 18 ≤ 7211113) (hF : LKo F28 x m o d b x5 μ nc ns) : j_L_law_2239 Q X F28 [some (.ref b), some (.ref x), some (.ref m), some (.ref o), some (.ref d), some (.int x5), none, none, none] [] μ nc ns := by
  obtain ⟨hi, ⟨hC, hx, hM⟩, ⟨to, lo⟩, ⟨td, ld⟩, tb, hb, hxm, hmo, hod⟩ := id hV
  obtain ⟨p1, e1, a1, b1⟩ := i32 (aI μ b (Int32.toNatClampNeg (x5 + ji 1)))
  obtain ⟨p2, e2, a2, b2⟩ := i32 (aI μ b (Int32.toNatClampNeg (x5 + ji 2)))
  rw [uj_L_law_2239]
  refine ⟨Or.inr tb, hp 1 (by omega) (by omega), Or.inr tb, hp 2 (by omega) (by omega), ?_⟩
  rw [e1, e2, uj_L_law_2253]
  refine ⟨by omega, by omega, w_cause hx hi hC to lo (by omega) a1 b1 a2 b2 (fun μ1 c1 x1 h1 => ?_)⟩
  rw [qI_at, c_L_law_64, uj_L_law_2256]
  obtain ⟨M1, t1, l1, f1⟩ := hV.mid c1 C_W
  simp only [l1, f1]
  rw [e1, e2]
  refine ⟨Or.inr t1, hp 1 (by omega) (by omega), Or.inr t1, hp 2 (by omega) (by omega), RS_0 M1.1, ?_⟩
  refine r_cause M1 hi a1 b1 a2 b2 (fun μ2 v c2 m2 g2 hv => ?_)
  rw [qI_at, c_L_law_132]
  refine ⟨RS_0 m2.1, ?_⟩
  rw [u_X9_thrown]
  refine ⟨RS_0 m2.1, ?_⟩
  rw [qI_at, g2, c_L_law_131]
  obtain ⟨V2, k2, fL, fD⟩ := hV.fin c1 C_W x1 hi c2 C_M m2
  refine fin_w ?_ V2.2.2.1.1 V2.2.2.1.2 (fun h => ?_)
  · rw [uj_L_law_3064]; exact hF _ _ V2 k2 _ _ (by omega) (by omega)
  · rw [fL, h1 h, hv (ji00 rg_oc2 h)]
theorem cs_2307 {μ : XM} {x m o d b : Nat} {Q : XQ} {X : XX} {F28 : XFT} {A : AS} {x5 : Int32} {nc ns : Nat} (hV : LV μ x m o d b A) (hp : ∀ j : Int, 1 ≤ j → j ≤ 5 → vp_in (x5 + ji j) (ln μ b)) (hr1 : nc + 3 ≤ 603072) (hr2 : ns + 18 ≤ 7211113) (hF : LKo F28 x m o d b x5 μ nc ns) : j_L_law_2307 Q X F28 [some (.ref b), some (.ref x), some (.ref m), some (.ref o), some (.ref d), some (.int x5), none, none, none] [] μ nc ns := by
  obtain ⟨hi, ⟨hC, hx, hM⟩, ⟨to, lo⟩, ⟨td, ld⟩, tb, hb, hxm, hmo, hod⟩ := id hV
  obtain ⟨p1, e1, a1, b1⟩ := i32 (aI μ b (Int32.toNatClampNeg (x5 + ji 1)))
  rw [uj_L_law_2307]
  refine ⟨Or.inr tb, hp 1 (by omega) (by omega), ?_⟩
  rw [e1, uj_L_law_2315]
  refine ⟨by omega, by omega, w_packetsIn hx hi hC to lo (by omega) a1 b1 (fun μ1 c1 x1 h1 => ?_)⟩
  rw [qI_at, c_L_law_65, uj_L_law_2318]
  obtain ⟨M1, t1, l1, f1⟩ := hV.mid c1 C_W
  simp only [l1, f1]
  rw [e1]
  refine ⟨Or.inr t1, hp 1 (by omega) (by omega), RS_0 M1.1, ?_⟩
  refine r_packetsIn M1 hi a1 b1 (fun μ2 v c2 m2 g2 hv => ?_)
  rw [qI_at, c_L_law_134]
  refine ⟨RS_0 m2.1, ?_⟩
  rw [u_X9_thrown]
  refine ⟨RS_0 m2.1, ?_⟩
  rw [qI_at, g2, c_L_law_133]
  obtain ⟨V2, k2, fL, fD⟩ := hV.fin c1 C_W x1 hi c2 C_M m2
  refine fin_w ?_ V2.2.2.1.1 V2.2.2.1.2 (fun h => ?_)
  · rw [uj_L_law_3064]; exact hF _ _ V2 k2 _ _ (by omega) (by omega)
  · rw [fL, h1 h, hv (ji00 (rg_12 rg_oc1) h)]
theorem cs_2363 {μ : XM} {x m o d b : Nat} {Q : XQ} {X : XX} {F28 : XFT} {A : AS} {x5 : Int32} {nc ns : Nat} (hV : LV μ x m o d b A) (hp : ∀ j : Int, 1 ≤ j → j ≤ 5 → vp_in (x5 + ji j) (ln μ b)) (hr1 : nc + 3 ≤ 603072) (hr2 : ns + 18 ≤ 7211113) (hF : LKo F28 x m o d b x5 μ nc ns) : j_L_law_2363 Q X F28 [some (.ref b), some (.ref x), some (.ref m), some (.ref o), some (.ref d), some (.int x5), none, none, none] [] μ nc ns := by
  obtain ⟨hi, ⟨hC, hx, hM⟩, ⟨to, lo⟩, ⟨td, ld⟩, tb, hb, hxm, hmo, hod⟩ := id hV
  obtain ⟨p1, e1, a1, b1⟩ := i32 (aI μ b (Int32.toNatClampNeg (x5 + ji 1)))
  rw [uj_L_law_2363]
  refine ⟨Or.inr tb, hp 1 (by omega) (by omega), ?_⟩
  rw [e1, uj_L_law_2371]
  refine ⟨by omega, by omega, w_packetsAt hx hi hC to lo (by omega) a1 b1 (fun μ1 c1 x1 h1 => ?_)⟩
  rw [qI_at, c_L_law_66, uj_L_law_2374]
  obtain ⟨M1, t1, l1, f1⟩ := hV.mid c1 C_W
  simp only [l1, f1]
  rw [e1]
  refine ⟨Or.inr t1, hp 1 (by omega) (by omega), RS_0 M1.1, ?_⟩
  refine r_packetsAt M1 hi a1 b1 (fun μ2 v c2 m2 g2 hv => ?_)
  rw [qI_at, c_L_law_136]
  refine ⟨RS_0 m2.1, ?_⟩
  rw [u_X9_thrown]
  refine ⟨RS_0 m2.1, ?_⟩
  rw [qI_at, g2, c_L_law_135]
  obtain ⟨V2, k2, fL, fD⟩ := hV.fin c1 C_W x1 hi c2 C_M m2
  refine fin_w ?_ V2.2.2.1.1 V2.2.2.1.2 (fun h => ?_)
  · rw [uj_L_law_3064]; exact hF _ _ V2 k2 _ _ (by omega) (by omega)
  · rw [fL, h1 h, hv (ji00 (rg_12 rg_oc1) h)]
theorem cs_2419 {μ : XM} {x m o d b : Nat} {Q : XQ} {X : XX} {F28 : XFT} {A : AS} {x5 : Int32} {nc ns : Nat} (hV : LV μ x m o d b A) (hp : ∀ j : Int, 1 ≤ j → j ≤ 5 → vp_in (x5 + ji j) (ln μ b)) (hr1 : nc + 3 ≤ 603072) (hr2 : ns + 18 ≤ 7211113) (hF : LKo F28 x m o d b x5 μ nc ns) : j_L_law_2419 Q X F28 [some (.ref b), some (.ref x), some (.ref m), some (.ref o), some (.ref d), some (.int x5), none, none, none] [] μ nc ns := by
  obtain ⟨hi, ⟨hC, hx, hM⟩, ⟨to, lo⟩, ⟨td, ld⟩, tb, hb, hxm, hmo, hod⟩ := id hV
  obtain ⟨p1, e1, a1, b1⟩ := i32 (aI μ b (Int32.toNatClampNeg (x5 + ji 1)))
  rw [uj_L_law_2419]
  refine ⟨Or.inr tb, hp 1 (by omega) (by omega), ?_⟩
  rw [e1, uj_L_law_2427]
  refine ⟨by omega, by omega, w_packetsTo hx hi hC to lo (by omega) a1 b1 (fun μ1 c1 x1 h1 => ?_)⟩
  rw [qI_at, c_L_law_67, uj_L_law_2430]
  obtain ⟨M1, t1, l1, f1⟩ := hV.mid c1 C_W
  simp only [l1, f1]
  rw [e1]
  refine ⟨Or.inr t1, hp 1 (by omega) (by omega), RS_0 M1.1, ?_⟩
  refine r_packetsTo M1 hi a1 b1 (fun μ2 v c2 m2 g2 hv => ?_)
  rw [qI_at, c_L_law_138]
  refine ⟨RS_0 m2.1, ?_⟩
  rw [u_X9_thrown]
  refine ⟨RS_0 m2.1, ?_⟩
  rw [qI_at, g2, c_L_law_137]
  obtain ⟨V2, k2, fL, fD⟩ := hV.fin c1 C_W x1 hi c2 C_M m2
  refine fin_w ?_ V2.2.2.1.1 V2.2.2.1.2 (fun h => ?_)
  · rw [uj_L_law_3064]; exact hF _ _ V2 k2 _ _ (by omega) (by omega)
  · rw [fL, h1 h, hv (ji00 (rg_12 rg_oc1) h)]
theorem cs_2475 {μ : XM} {x m o d b : Nat} {Q : XQ} {X : XX} {F28 : XFT} {A : AS} {x5 : Int32} {nc ns : Nat} (hV : LV μ x m o d b A) (hp : ∀ j : Int, 1 ≤ j → j ≤ 5 → vp_in (x5 + ji j) (ln μ b)) (hr1 : nc + 3 ≤ 603072) (hr2 : ns + 18 ≤ 7211113) (hF : LKo F28 x m o d b x5 μ nc ns) : j_L_law_2475 Q X F28 [some (.ref b), some (.ref x), some (.ref m), some (.ref o), some (.ref d), some (.int x5), none, none, none] [] μ nc ns := by
  obtain ⟨hi, ⟨hC, hx, hM⟩, ⟨to, lo⟩, ⟨td, ld⟩, tb, hb, hxm, hmo, hod⟩ := id hV
  rw [uj_L_law_2475]
  refine ⟨XL_0 hx.1, ?_⟩
  rw [q_busiest (hx.xw hi)]
  have c1 : CH (fun _ => False) μ μ := CH.refl _ _
  have x1 := hx
  rw [qI_at, c_L_law_22]
  obtain ⟨M1, t1, l1, f1⟩ := hV.mid c1 C_0
  refine ⟨RS_0 M1.1, ?_⟩
  refine r_busiest M1 hi (fun μ2 c2 m2 g2 => ?_)
  rw [qI_at, c_L_law_21, uj_L_law_3064]
  refine fin_d rfl ?_
  obtain ⟨V2, k2, -⟩ := hV.fin c1 C_0 x1 hi c2 C_M m2
  exact hF _ _ V2 k2 _ _ (by omega) (by omega)
theorem cs_2488 {μ : XM} {x m o d b : Nat} {Q : XQ} {X : XX} {F28 : XFT} {A : AS} {x5 : Int32} {nc ns : Nat} (hV : LV μ x m o d b A) (hp : ∀ j : Int, 1 ≤ j → j ≤ 5 → vp_in (x5 + ji j) (ln μ b)) (hr1 : nc + 3 ≤ 603072) (hr2 : ns + 18 ≤ 7211113) (hF : LKo F28 x m o d b x5 μ nc ns) : j_L_law_2488 Q X F28 [some (.ref b), some (.ref x), some (.ref m), some (.ref o), some (.ref d), some (.int x5), none, none, none] [] μ nc ns := by
  obtain ⟨hi, ⟨hC, hx, hM⟩, ⟨to, lo⟩, ⟨td, ld⟩, tb, hb, hxm, hmo, hod⟩ := id hV
  obtain ⟨p1, e1, a1, b1⟩ := i32 (aI μ b (Int32.toNatClampNeg (x5 + ji 1)))
  rw [uj_L_law_2488]
  refine ⟨Or.inr tb, hp 1 (by omega) (by omega), ?_⟩
  rw [e1, uj_L_law_2496]
  refine ⟨by omega, by omega, w_unvisited hx hi hC to lo (by omega) a1 b1 (fun μ1 c1 x1 h1 => ?_)⟩
  rw [qI_at, c_L_law_68, uj_L_law_2499]
  obtain ⟨M1, t1, l1, f1⟩ := hV.mid c1 C_W
  simp only [l1, f1]
  rw [e1]
  refine ⟨Or.inr t1, hp 1 (by omega) (by omega), RS_0 M1.1, ?_⟩
  refine r_unvisited M1 hi a1 b1 (fun μ2 v c2 m2 g2 hv => ?_)
  rw [qI_at, c_L_law_140]
  refine ⟨RS_0 m2.1, ?_⟩
  rw [u_X9_thrown]
  refine ⟨RS_0 m2.1, ?_⟩
  rw [qI_at, g2, c_L_law_139]
  obtain ⟨V2, k2, fL, fD⟩ := hV.fin c1 C_W x1 hi c2 C_M m2
  refine fin_w ?_ V2.2.2.1.1 V2.2.2.1.2 (fun h => ?_)
  · rw [uj_L_law_3064]; exact hF _ _ V2 k2 _ _ (by omega) (by omega)
  · rw [fL, h1 h, hv (ji00 (rg_12 rg_oc1) h)]
theorem cs_2544 {μ : XM} {x m o d b : Nat} {Q : XQ} {X : XX} {F28 : XFT} {A : AS} {x5 : Int32} {nc ns : Nat} (hV : LV μ x m o d b A) (hp : ∀ j : Int, 1 ≤ j → j ≤ 5 → vp_in (x5 + ji j) (ln μ b)) (hr1 : nc + 3 ≤ 603072) (hr2 : ns + 18 ≤ 7211113) (hF : LKo F28 x m o d b x5 μ nc ns) : j_L_law_2544 Q X F28 [some (.ref b), some (.ref x), some (.ref m), some (.ref o), some (.ref d), some (.int x5), none, none, none] [] μ nc ns := by
  obtain ⟨hi, ⟨hC, hx, hM⟩, ⟨to, lo⟩, ⟨td, ld⟩, tb, hb, hxm, hmo, hod⟩ := id hV
  obtain ⟨p1, e1, a1, b1⟩ := i32 (aI μ b (Int32.toNatClampNeg (x5 + ji 1)))
  obtain ⟨p2, e2, a2, b2⟩ := i32 (aI μ b (Int32.toNatClampNeg (x5 + ji 2)))
  rw [uj_L_law_2544]
  refine ⟨Or.inr tb, hp 1 (by omega) (by omega), Or.inr tb, hp 2 (by omega) (by omega), ?_⟩
  rw [e1, e2, uj_L_law_2558]
  refine ⟨by omega, by omega, w_stateIn hx hi hC to lo (by omega) a1 b1 a2 b2 (fun μ1 c1 x1 h1 => ?_)⟩
  rw [qI_at, c_L_law_69, uj_L_law_2561]
  obtain ⟨M1, t1, l1, f1⟩ := hV.mid c1 C_W
  simp only [l1, f1]
  rw [e1, e2]
  refine ⟨Or.inr t1, hp 1 (by omega) (by omega), Or.inr t1, hp 2 (by omega) (by omega), RS_0 M1.1, ?_⟩
  refine r_stateIn M1 hi a1 b1 a2 b2 (fun μ2 v c2 m2 g2 hv => ?_)
  rw [qI_at, c_L_law_142]
  refine ⟨RS_0 m2.1, ?_⟩
  rw [u_X9_thrown]
  refine ⟨RS_0 m2.1, ?_⟩
  rw [qI_at, g2, c_L_law_141]
  obtain ⟨V2, k2, fL, fD⟩ := hV.fin c1 C_W x1 (inv_op2 hi (fun _ _ => hi)) c2 C_M m2
  refine fin_w ?_ V2.2.2.1.1 V2.2.2.1.2 (fun h => ?_)
  · rw [uj_L_law_3064]; exact hF _ _ V2 k2 _ _ (by omega) (by omega)
  · rw [fL, h1 h, hv (ji00 (rg_op2 rfl) h)]
theorem cs_2612 {μ : XM} {x m o d b : Nat} {Q : XQ} {X : XX} {F28 : XFT} {A : AS} {x5 : Int32} {nc ns : Nat} (hV : LV μ x m o d b A) (hp : ∀ j : Int, 1 ≤ j → j ≤ 5 → vp_in (x5 + ji j) (ln μ b)) (hr1 : nc + 3 ≤ 603072) (hr2 : ns + 18 ≤ 7211113) (hF : LKo F28 x m o d b x5 μ nc ns) : j_L_law_2612 Q X F28 [some (.ref b), some (.ref x), some (.ref m), some (.ref o), some (.ref d), some (.int x5), none, none, none] [] μ nc ns := by
  obtain ⟨hi, ⟨hC, hx, hM⟩, ⟨to, lo⟩, ⟨td, ld⟩, tb, hb, hxm, hmo, hod⟩ := id hV
  obtain ⟨p1, e1, a1, b1⟩ := i32 (aI μ b (Int32.toNatClampNeg (x5 + ji 1)))
  rw [uj_L_law_2612]
  refine ⟨Or.inr tb, hp 1 (by omega) (by omega), ?_⟩
  rw [e1, uj_L_law_2620]
  refine ⟨by omega, by omega, w_quietIn hx hi hC to lo (by omega) a1 b1 (fun μ1 c1 x1 h1 => ?_)⟩
  rw [qI_at, c_L_law_70, uj_L_law_2623]
  obtain ⟨M1, t1, l1, f1⟩ := hV.mid c1 C_W
  simp only [l1, f1]
  rw [e1]
  refine ⟨Or.inr t1, hp 1 (by omega) (by omega), RS_0 M1.1, ?_⟩
  refine r_quietIn M1 hi a1 b1 (fun μ2 v c2 m2 g2 hv => ?_)
  rw [qI_at, c_L_law_144]
  refine ⟨RS_0 m2.1, ?_⟩
  rw [u_X9_thrown]
  refine ⟨RS_0 m2.1, ?_⟩
  rw [qI_at, g2, c_L_law_143]
  obtain ⟨V2, k2, fL, fD⟩ := hV.fin c1 C_W x1 (inv_op1 hi (fun _ => hi)) c2 C_M m2
  refine fin_w ?_ V2.2.2.1.1 V2.2.2.1.2 (fun h => ?_)
  · rw [uj_L_law_3064]; exact hF _ _ V2 k2 _ _ (by omega) (by omega)
  · rw [fL, h1 h, hv (ji00 (rg_12 (rg_op1 rfl)) h)]
theorem cs_2668 {μ : XM} {x m o d b : Nat} {Q : XQ} {X : XX} {F28 : XFT} {A : AS} {x5 : Int32} {nc ns : Nat} (hV : LV μ x m o d b A) (hp : ∀ j : Int, 1 ≤ j → j ≤ 5 → vp_in (x5 + ji j) (ln μ b)) (hr1 : nc + 3 ≤ 603072) (hr2 : ns + 18 ≤ 7211113) (hF : LKo F28 x m o d b x5 μ nc ns) : j_L_law_2668 Q X F28 [some (.ref b), some (.ref x), some (.ref m), some (.ref o), some (.ref d), some (.int x5), none, none, none] [] μ nc ns := by
  obtain ⟨hi, ⟨hC, hx, hM⟩, ⟨to, lo⟩, ⟨td, ld⟩, tb, hb, hxm, hmo, hod⟩ := id hV
  obtain ⟨p1, e1, a1, b1⟩ := i32 (aI μ b (Int32.toNatClampNeg (x5 + ji 1)))
  obtain ⟨p2, e2, a2, b2⟩ := i32 (aI μ b (Int32.toNatClampNeg (x5 + ji 2)))
  obtain ⟨p3, e3, a3, b3⟩ := i32 (aI μ b (Int32.toNatClampNeg (x5 + ji 3)))
  rw [uj_L_law_2668]
  refine ⟨Or.inr tb, hp 1 (by omega) (by omega), Or.inr tb, hp 2 (by omega) (by omega), Or.inr tb, hp 3 (by omega) (by omega), ?_⟩
  rw [e1, e2, e3, uj_L_law_2688]
  refine ⟨by omega, by omega, w_fate hx hi hC to lo (by omega) a1 b1 a2 b2 a3 b3 (fun μ1 c1 x1 h1 => ?_)⟩
  rw [qI_at, c_L_law_71, uj_L_law_2691]
  obtain ⟨M1, t1, l1, f1⟩ := hV.mid c1 C_W
  simp only [l1, f1]
  rw [e1, e2, e3]
  refine ⟨Or.inr t1, hp 1 (by omega) (by omega), Or.inr t1, hp 2 (by omega) (by omega), Or.inr t1, hp 3 (by omega) (by omega), RS_0 M1.1, ?_⟩
  refine r_fate M1 hi a1 b1 a2 b2 a3 b3 (fun μ2 v c2 m2 g2 hv => ?_)
  rw [qI_at, c_L_law_146]
  refine ⟨RS_0 m2.1, ?_⟩
  rw [u_X9_thrown]
  refine ⟨RS_0 m2.1, ?_⟩
  rw [qI_at, g2, c_L_law_145]
  obtain ⟨V2, k2, fL, fD⟩ := hV.fin c1 C_W x1 (inv_op2 hi (fun _ _ => hi)) c2 C_M m2
  refine fin_w ?_ V2.2.2.1.1 V2.2.2.1.2 (fun h => ?_)
  · rw [uj_L_law_3064]; exact hF _ _ V2 k2 _ _ (by omega) (by omega)
  · rw [fL, h1 h, hv (ji00 (rg_op2 rfl) h)]
theorem cs_2748 {μ : XM} {x m o d b : Nat} {Q : XQ} {X : XX} {F28 : XFT} {A : AS} {x5 : Int32} {nc ns : Nat} (hV : LV μ x m o d b A) (hp : ∀ j : Int, 1 ≤ j → j ≤ 5 → vp_in (x5 + ji j) (ln μ b)) (hr1 : nc + 3 ≤ 603072) (hr2 : ns + 18 ≤ 7211113) (hF : LKo F28 x m o d b x5 μ nc ns) : j_L_law_2748 Q X F28 [some (.ref b), some (.ref x), some (.ref m), some (.ref o), some (.ref d), some (.int x5), none, none, none] [] μ nc ns := by
  obtain ⟨hi, ⟨hC, hx, hM⟩, ⟨to, lo⟩, ⟨td, ld⟩, tb, hb, hxm, hmo, hod⟩ := id hV
  obtain ⟨p1, e1, a1, b1⟩ := i32 (aI μ b (Int32.toNatClampNeg (x5 + ji 1)))
  obtain ⟨p2, e2, a2, b2⟩ := i32 (aI μ b (Int32.toNatClampNeg (x5 + ji 2)))
  rw [uj_L_law_2748]
  refine ⟨Or.inr tb, hp 1 (by omega) (by omega), Or.inr tb, hp 2 (by omega) (by omega), ?_⟩
  rw [e1, e2, uj_L_law_2762]
  refine ⟨by omega, by omega, w_leastLimit hx hi hC to lo (by omega) a1 b1 a2 b2 (fun μ1 c1 x1 h1 => ?_)⟩
  rw [qI_at, c_L_law_72, uj_L_law_2765]
  obtain ⟨M1, t1, l1, f1⟩ := hV.mid c1 C_W
  simp only [l1, f1]
  rw [e1, e2]
  refine ⟨Or.inr t1, hp 1 (by omega) (by omega), Or.inr t1, hp 2 (by omega) (by omega), RS_0 M1.1, ?_⟩
  refine r_least M1 hi a1 b1 a2 b2 (fun μ2 v c2 m2 g2 hv => ?_)
  rw [qI_at, c_L_law_148]
  refine ⟨RS_0 m2.1, ?_⟩
  rw [u_X9_thrown]
  refine ⟨RS_0 m2.1, ?_⟩
  rw [qI_at, g2, c_L_law_147]
  obtain ⟨V2, k2, fL, fD⟩ := hV.fin c1 C_W x1 (inv_op1 hi (fun _ => hi)) c2 C_M m2
  refine fin_w ?_ V2.2.2.1.1 V2.2.2.1.2 (fun h => ?_)
  · rw [uj_L_law_3064]; exact hF _ _ V2 k2 _ _ (by omega) (by omega)
  · rw [fL, h1 h, hv (ji00 (rg_12 (rg_op1 rfl)) h)]
theorem cs_2816 {μ : XM} {x m o d b : Nat} {Q : XQ} {X : XX} {F28 : XFT} {A : AS} {x5 : Int32} {nc ns : Nat} (hV : LV μ x m o d b A) (hp : ∀ j : Int, 1 ≤ j → j ≤ 5 → vp_in (x5 + ji j) (ln μ b)) (hr1 : nc + 3 ≤ 603072) (hr2 : ns + 18 ≤ 7211113) (hF : LKo F28 x m o d b x5 μ nc ns) : j_L_law_2816 Q X F28 [some (.ref b), some (.ref x), some (.ref m), some (.ref o), some (.ref d), some (.int x5), none, none, none] [] μ nc ns := by
  obtain ⟨hi, ⟨hC, hx, hM⟩, ⟨to, lo⟩, ⟨td, ld⟩, tb, hb, hxm, hmo, hod⟩ := id hV
  rw [uj_L_law_2816]
  rw [uj_L_law_2819]
  refine ⟨by omega, by omega, w_meanHops hx hi td ld (by omega) (fun μ1 c1 x1 h1 => ?_)⟩
  rw [qI_at, c_L_law_73, uj_L_law_2822]
  obtain ⟨M1, t1, l1, f1⟩ := hV.mid c1 C_D
  refine ⟨RS_0 M1.1, ?_⟩
  refine r_meanHops M1 hi (fun μ2 v c2 m2 g2 hv => ?_)
  rw [qD_at, c_L_law_150]
  refine ⟨RS_0 m2.1, ?_⟩
  rw [u_X9_thrown]
  refine ⟨RS_0 m2.1, ?_⟩
  rw [qI_at, g2, c_L_law_149]
  obtain ⟨V2, k2, fL, fD⟩ := hV.fin c1 C_D x1 hi c2 C_M m2
  refine fin_m ?_ V2.2.2.2.1.1 V2.2.2.2.1.2 (fun h => ?_)
  · rw [uj_L_law_3064]; exact hF _ _ V2 k2 _ _ (by omega) (by omega)
  · have hne : ¬ (mhf A.2.1).2 = 0 := fun e => by rw [if_pos e] at h; exact absurd h (by decide)
    rw [fD, h1 hne, hv hne]
theorem cs_2881 {μ : XM} {x m o d b : Nat} {Q : XQ} {X : XX} {F28 : XFT} {A : AS} {x5 : Int32} {nc ns : Nat} (hV : LV μ x m o d b A) (hp : ∀ j : Int, 1 ≤ j → j ≤ 5 → vp_in (x5 + ji j) (ln μ b)) (hr1 : nc + 3 ≤ 603072) (hr2 : ns + 18 ≤ 7211113) (hF : LKo F28 x m o d b x5 μ nc ns) : j_L_law_2881 Q X F28 [some (.ref b), some (.ref x), some (.ref m), some (.ref o), some (.ref d), some (.int x5), none, none, none] [] μ nc ns := by
  obtain ⟨hi, ⟨hC, hx, hM⟩, ⟨to, lo⟩, ⟨td, ld⟩, tb, hb, hxm, hmo, hod⟩ := id hV
  rw [uj_L_law_2881]
  refine ⟨XL_0 hx.1, ?_⟩
  rw [q_mostFound (hx.xw hi)]
  have c1 : CH (fun _ => False) μ μ := CH.refl _ _
  have x1 := hx
  rw [qI_at, c_L_law_24]
  obtain ⟨M1, t1, l1, f1⟩ := hV.mid c1 C_0
  refine ⟨RS_0 M1.1, ?_⟩
  refine r_mostFound M1 hi (fun μ2 c2 m2 g2 => ?_)
  rw [qI_at, c_L_law_23, uj_L_law_3064]
  refine fin_d rfl ?_
  obtain ⟨V2, k2, -⟩ := hV.fin c1 C_0 x1 hi c2 C_M m2
  exact hF _ _ V2 k2 _ _ (by omega) (by omega)
theorem cs_2894 {μ : XM} {x m o d b : Nat} {Q : XQ} {X : XX} {F28 : XFT} {A : AS} {x5 : Int32} {nc ns : Nat} (hV : LV μ x m o d b A) (hp : ∀ j : Int, 1 ≤ j → j ≤ 5 → vp_in (x5 + ji j) (ln μ b)) (hr1 : nc + 3 ≤ 603072) (hr2 : ns + 18 ≤ 7211113) (hF : LKo F28 x m o d b x5 μ nc ns) : j_L_law_2894 Q X F28 [some (.ref b), some (.ref x), some (.ref m), some (.ref o), some (.ref d), some (.int x5), none, none, none] [] μ nc ns := by
  obtain ⟨hi, ⟨hC, hx, hM⟩, ⟨to, lo⟩, ⟨td, ld⟩, tb, hb, hxm, hmo, hod⟩ := id hV
  obtain ⟨p1, e1, a1, b1⟩ := i32 (aI μ b (Int32.toNatClampNeg (x5 + ji 1)))
  rw [uj_L_law_2894]
  refine ⟨Or.inr tb, hp 1 (by omega) (by omega), ?_⟩
  rw [e1, uj_L_law_2902]
  refine ⟨by omega, by omega, w_write hx hi hC to lo (by omega) a1 b1 (fun μ1 c1 x1 h1 => ?_)⟩
  rw [qI_at, c_L_law_74, uj_L_law_2905]
  obtain ⟨M1, t1, l1, f1⟩ := hV.mid c1 C_W
  simp only [l1, f1]
  rw [e1]
  refine ⟨Or.inr t1, hp 1 (by omega) (by omega), RS_0 M1.1, ?_⟩
  refine r_write M1 hi a1 b1 (fun μ2 v c2 m2 g2 hv => ?_)
  rw [qI_at, c_L_law_152]
  refine ⟨RS_0 m2.1, ?_⟩
  rw [u_X9_thrown]
  refine ⟨RS_0 m2.1, ?_⟩
  rw [qI_at, g2, c_L_law_151]
  obtain ⟨V2, k2, fL, fD⟩ := hV.fin c1 C_W x1 (inv_op1 hi (fun h => hi.write h.1 h.2)) c2 C_M m2
  refine fin_w ?_ V2.2.2.1.1 V2.2.2.1.2 (fun h => ?_)
  · rw [uj_L_law_3064]; exact hF _ _ V2 k2 _ _ (by omega) (by omega)
  · rw [fL, h1 h, hv (ji00 (rg_12 (rg_op1 rfl)) h)]
theorem cs_2950 {μ : XM} {x m o d b : Nat} {Q : XQ} {X : XX} {F28 : XFT} {A : AS} {x5 : Int32} {nc ns : Nat} (hV : LV μ x m o d b A) (hp : ∀ j : Int, 1 ≤ j → j ≤ 5 → vp_in (x5 + ji j) (ln μ b)) (hr1 : nc + 3 ≤ 603072) (hr2 : ns + 18 ≤ 7211113) (hF : LKo F28 x m o d b x5 μ nc ns) : j_L_law_2950 Q X F28 [some (.ref b), some (.ref x), some (.ref m), some (.ref o), some (.ref d), some (.int x5), none, none, none] [] μ nc ns := by
  obtain ⟨hi, ⟨hC, hx, hM⟩, ⟨to, lo⟩, ⟨td, ld⟩, tb, hb, hxm, hmo, hod⟩ := id hV
  obtain ⟨p1, e1, a1, b1⟩ := i32 (aI μ b (Int32.toNatClampNeg (x5 + ji 1)))
  rw [uj_L_law_2950]
  refine ⟨Or.inr tb, hp 1 (by omega) (by omega), XL_0 hx.1, ?_⟩
  rw [e1]
  rw [q_outputByte hx hi a1 b1]
  have c1 : CH (fun _ => False) μ μ := CH.refl _ _
  have x1 := hx
  rw [qI_at, c_L_law_26]
  obtain ⟨M1, t1, l1, f1⟩ := hV.mid c1 C_0
  rw [e1]
  refine ⟨Or.inr t1, hp 1 (by omega) (by omega), RS_0 M1.1, ?_⟩
  refine r_outputByte M1 hi a1 b1 (fun μ2 c2 m2 g2 => ?_)
  rw [qI_at, c_L_law_25, uj_L_law_3064]
  refine fin_d rfl ?_
  obtain ⟨V2, k2, -⟩ := hV.fin c1 C_0 x1 hi c2 C_M m2
  exact hF _ _ V2 k2 _ _ (by omega) (by omega)
theorem cs_2975 {μ : XM} {x m o d b : Nat} {Q : XQ} {X : XX} {F28 : XFT} {A : AS} {x5 : Int32} {nc ns : Nat} (hV : LV μ x m o d b A) (hp : ∀ j : Int, 1 ≤ j → j ≤ 5 → vp_in (x5 + ji j) (ln μ b)) (hr1 : nc + 3 ≤ 603072) (hr2 : ns + 18 ≤ 7211113) (hF : LKo F28 x m o d b x5 μ nc ns) : j_L_law_2975 Q X F28 [some (.ref b), some (.ref x), some (.ref m), some (.ref o), some (.ref d), some (.int x5), none, none, none] [] μ nc ns := by
  obtain ⟨hi, ⟨hC, hx, hM⟩, ⟨to, lo⟩, ⟨td, ld⟩, tb, hb, hxm, hmo, hod⟩ := id hV
  rw [uj_L_law_2975]
  refine ⟨XL_0 hx.1, ?_⟩
  refine q_play hx hi hC (fun μ1 c1 x1 => ?_)
  rw [qI_at, c_L_law_28]
  obtain ⟨M1, t1, l1, f1⟩ := hV.mid c1 C_X'
  refine ⟨RS_0 M1.1, ?_⟩
  refine r_play M1 hi (fun μ2 c2 m2 g2 => ?_)
  rw [qI_at, c_L_law_27, uj_L_law_3064]
  refine fin_d rfl ?_
  obtain ⟨V2, k2, -⟩ := hV.fin c1 C_X' x1 (inv_play hi) c2 C_M' m2
  exact hF _ _ V2 k2 _ _ (by omega) (by omega)
theorem cs_2988 {μ : XM} {x m o d b : Nat} {Q : XQ} {X : XX} {F28 : XFT} {A : AS} {x5 : Int32} {nc ns : Nat} (hV : LV μ x m o d b A) (hp : ∀ j : Int, 1 ≤ j → j ≤ 5 → vp_in (x5 + ji j) (ln μ b)) (hr1 : nc + 3 ≤ 603072) (hr2 : ns + 18 ≤ 7211113) (hF : LKo F28 x m o d b x5 μ nc ns) : j_L_law_2988 Q X F28 [some (.ref b), some (.ref x), some (.ref m), some (.ref o), some (.ref d), some (.int x5), none, none, none] [] μ nc ns := by
  obtain ⟨hi, ⟨hC, hx, hM⟩, ⟨to, lo⟩, ⟨td, ld⟩, tb, hb, hxm, hmo, hod⟩ := id hV
  rw [uj_L_law_2988]
  refine ⟨XL_0 hx.1, ?_⟩
  refine q_undo hx hi (fun μ1 c1 x1 => ?_)
  rw [qI_at, c_L_law_30]
  obtain ⟨M1, t1, l1, f1⟩ := hV.mid c1 C_X
  refine ⟨RS_0 M1.1, ?_⟩
  refine r_undo M1 hi (fun μ2 c2 m2 g2 => ?_)
  rw [qI_at, c_L_law_29, uj_L_law_3064]
  refine fin_d rfl ?_
  obtain ⟨V2, k2, -⟩ := hV.fin c1 C_X x1 hi.undo c2 C_M m2
  exact hF _ _ V2 k2 _ _ (by omega) (by omega)
theorem cs_3001 {μ : XM} {x m o d b : Nat} {Q : XQ} {X : XX} {F28 : XFT} {A : AS} {x5 : Int32} {nc ns : Nat} (hV : LV μ x m o d b A) (hp : ∀ j : Int, 1 ≤ j → j ≤ 5 → vp_in (x5 + ji j) (ln μ b)) (hr1 : nc + 3 ≤ 603072) (hr2 : ns + 18 ≤ 7211113) (hF : LKo F28 x m o d b x5 μ nc ns) : j_L_law_3001 Q X F28 [some (.ref b), some (.ref x), some (.ref m), some (.ref o), some (.ref d), some (.int x5), none, none, none] [] μ nc ns := by
  obtain ⟨hi, ⟨hC, hx, hM⟩, ⟨to, lo⟩, ⟨td, ld⟩, tb, hb, hxm, hmo, hod⟩ := id hV
  rw [uj_L_law_3001]
  refine ⟨XL_0 hx.1, ?_⟩
  rw [q_digest (hx.xw hi)]
  have c1 : CH (fun _ => False) μ μ := CH.refl _ _
  have x1 := hx
  rw [qI_at, c_L_law_32]
  obtain ⟨M1, t1, l1, f1⟩ := hV.mid c1 C_0
  refine ⟨RS_0 M1.1, ?_⟩
  refine r_digest M1 hi (fun μ2 c2 m2 g2 => ?_)
  rw [qI_at, c_L_law_31, uj_L_law_3064]
  refine fin_d rfl ?_
  obtain ⟨V2, k2, -⟩ := hV.fin c1 C_0 x1 hi c2 C_M m2
  exact hF _ _ V2 k2 _ _ (by omega) (by omega)
theorem cs_3014 {μ : XM} {x m o d b : Nat} {Q : XQ} {X : XX} {F28 : XFT} {A : AS} {x5 : Int32} {nc ns : Nat} (hV : LV μ x m o d b A) (hp : ∀ j : Int, 1 ≤ j → j ≤ 5 → vp_in (x5 + ji j) (ln μ b)) (hr1 : nc + 3 ≤ 603072) (hr2 : ns + 18 ≤ 7211113) (hF : LKo F28 x m o d b x5 μ nc ns) : j_L_law_3014 Q X F28 [some (.ref b), some (.ref x), some (.ref m), some (.ref o), some (.ref d), some (.int x5), none, none, none] [] μ nc ns := by
  obtain ⟨hi, ⟨hC, hx, hM⟩, ⟨to, lo⟩, ⟨td, ld⟩, tb, hb, hxm, hmo, hod⟩ := id hV
  obtain ⟨p1, e1, a1, b1⟩ := i32 (aI μ b (Int32.toNatClampNeg (x5 + ji 1)))
  rw [uj_L_law_3014]
  refine ⟨Or.inr tb, hp 1 (by omega) (by omega), XL_0 hx.1, ?_⟩
  rw [e1]
  refine q_save hx hi a1 b1 (fun μ1 c1 x1 => ?_)
  rw [qI_at, c_L_law_34]
  obtain ⟨M1, t1, l1, f1⟩ := hV.mid c1 C_X
  simp only [l1, f1]
  rw [e1]
  refine ⟨Or.inr t1, hp 1 (by omega) (by omega), RS_0 M1.1, ?_⟩
  refine r_save M1 hi a1 b1 (fun μ2 c2 m2 g2 => ?_)
  rw [qI_at, c_L_law_33, uj_L_law_3064]
  refine fin_d rfl ?_
  obtain ⟨V2, k2, -⟩ := hV.fin c1 C_X x1 hi.save c2 C_M m2
  exact hF _ _ V2 k2 _ _ (by omega) (by omega)
theorem cs_3039 {μ : XM} {x m o d b : Nat} {Q : XQ} {X : XX} {F28 : XFT} {A : AS} {x5 : Int32} {nc ns : Nat} (hV : LV μ x m o d b A) (hp : ∀ j : Int, 1 ≤ j → j ≤ 5 → vp_in (x5 + ji j) (ln μ b)) (hr1 : nc + 3 ≤ 603072) (hr2 : ns + 18 ≤ 7211113) (hF : LKo F28 x m o d b x5 μ nc ns) : j_L_law_3039 Q X F28 [some (.ref b), some (.ref x), some (.ref m), some (.ref o), some (.ref d), some (.int x5), none, none, none] [] μ nc ns := by
  obtain ⟨hi, ⟨hC, hx, hM⟩, ⟨to, lo⟩, ⟨td, ld⟩, tb, hb, hxm, hmo, hod⟩ := id hV
  obtain ⟨p1, e1, a1, b1⟩ := i32 (aI μ b (Int32.toNatClampNeg (x5 + ji 1)))
  rw [uj_L_law_3039]
  refine ⟨Or.inr tb, hp 1 (by omega) (by omega), XL_0 hx.1, ?_⟩
  rw [e1]
  refine q_rest hx hi a1 b1 (fun μ1 c1 x1 => ?_)
  rw [qI_at, c_L_law_36]
  obtain ⟨M1, t1, l1, f1⟩ := hV.mid c1 C_X
  simp only [l1, f1]
  rw [e1]
  refine ⟨Or.inr t1, hp 1 (by omega) (by omega), RS_0 M1.1, ?_⟩
  refine r_rest M1 hi a1 b1 (fun μ2 c2 m2 g2 => ?_)
  rw [qI_at, c_L_law_35, uj_L_law_3064]
  refine fin_d rfl ?_
  obtain ⟨V2, k2, -⟩ := hV.fin c1 C_X x1 hi.rest c2 C_M m2
  exact hF _ _ V2 k2 _ _ (by omega) (by omega)
