/-! ===== ticks ===== -/
section
variable {w h N s : Int} {Z : Int → Int} {o k : Int}
/-- what a move of one packet leaves -/
def agrT (o : Int) (Y Z : Int → Int) : Prop := ∀ i, (i < 74 ∨ (2666 ≤ i ∧ (i < o ∨ o + 120 ≤ i))) → Y i = Z i
theorem agr.T {Y : Int → Int} (h : agr o (o + 120) Y Z) (ho : 2666 ≤ o) : agrT o Y Z := fun i hi => h i (by omega)
theorem agr.L {Y : Int → Int} (h : agr 74 2666 Y Z) : agrT o Y Z := fun i hi => h i (by omega)
theorem agrT.trans {A B C : Int → Int} (h : agrT o A B) (g : agrT o B C) : agrT o A C := fun i hi => (h i hi).trans (g i hi)
theorem zmv_T (hI : IV w h N s Z) (k0 : 0 ≤ k) (k1 : k < Z 1) (ho : o = (2666 + 120 * k)) (ha : act Z k = true) : agrT o (zmv w h N s Z o) Z := by
  have hB := hI.1
  have hb : BP N Z o := by rw [ho]; exact hB.2.2.2.2 k k0 k1
  have ht : TP w h N Z o := by rw [ho]; exact hI.2 k k0 k1
  have hz := hB.2.1
  have b1 := hb.1
  have oo : 2666 ≤ o := by omega
  have hw := hB.1
  have tfin : ∀ (Y : Int → Int) t, agrT o (zfin Y o t) Y := fun Y t => agr_fin.T oo
  have tbak : ∀ (Y : Int → Int), agrT o (zbak Y o) Y := fun Y => agr_bak.T oo
  have thop : ∀ (Y : Int → Int), agrT o (zhop Y o) Y := fun Y => agr_hop.T oo
  have tst : ∀ (Y : Int → Int) t, agrT o (zst Y o t) Y := fun Y t => agr_st.T oo
  unfold zmv
  by_cases h3 : Z (o + 3) = 0
  · rw [if_neg (fun q => q h3)]
    by_cases hy : bst w h N s Z o = -1
    · rw [if_pos hy]
      unfold zout
      (repeat' split)
      · exact tfin _ _
      · exact (tfin _ _).trans (thop _)
      · exact (tst _ _).trans ((tbak _).trans (thop _))
      · exact (tbak _).trans (thop _)
    · rw [if_neg hy]
      obtain ⟨f1, f2, f3, f4, f5, f6, f7, f8⟩ := fwd_f hB hb hy
      have e6 : zhop Z o (o + 6) = Z (o + 6) := by unfold zhop; simp (disch := first | assumption | omega) only [gL_sI, gL_sR, gL_wI, gL_wL, gL_wD, gL_wR, gL_cI, gL_uF, gL_sL_at, gL_sL_k, gL_sL_a, gR_sI, gR_sL, gR_wI, gR_wL, gR_wD, gR_wR, gR_cI, gR_uF, gR_sR_at, gR_sR_k, gR_sR_a, aI_sI, aI_sL, aI_sR, aI_wL, aI_wD, aI_wR, aI_uF, aI_wI_at, aI_wI_a, aI_wI_i, aI_cI_at, aI_cI_a, aI_cI_i, aL_sI, aL_sL, aL_sR, aL_wI, aL_wD, aL_wR, aL_cI, aL_uF, aL_wL_at, aL_wL_a, aL_wL_i, aD_sI, aD_sL, aD_sR, aD_wI, aD_wL, aD_wR, aD_cI, aD_uF, aD_wD_at, aD_wD_a, aD_wD_i, aR_sI, aR_sL, aR_sR, aR_wI, aR_wL, aR_wD, aR_cI, aR_uF, aR_wR_at, aR_wR_a, aR_wR_i, tg_sI, tg_sL, tg_sR, tg_wI, tg_wL, tg_wD, tg_wR, tg_cI, tg_uF, ln_sI, ln_sL, ln_sR, ln_wI, ln_wL, ln_wD, ln_wR, ln_cI, ln_uF, tp_sI, tp_sL, tp_sR, tp_wI, tp_wL, tp_wD, tp_wR, tp_cI, tp_uF, fr_sI, fr_sL, fr_sR, fr_wI, fr_wL, fr_wD, fr_wR, fr_cI, gI_sL, gI_sR, gI_wI, gI_wL, gI_wD, gI_wR, gI_cI, gI_uF, gI_sI_at, gI_sI_k, gI_sI_a, zu_at, zu_ne]
      have hlen := TQ_len hb ht.q (by omega) f3 f4 f8
      have tv : agrT o (zvst (zhop Z o) o (nxt w h N (Z (o + 4)) (bst w h N s Z o))) (zhop Z o) := (agr_vst f3 (by omega) (by rw [e6]; omega) (by rw [e6]; omega)).T oo
      unfold zfw
      (repeat' split)
      · refine (agr_lrn (by omega) (by omega) f6 f7).L.trans ?_
        exact agr.T ((agr.refl _ _ _).zu (by omega) (by omega)) oo
      · exact (tst _ _).trans (tv.trans (thop _))
      · exact (tst _ _).trans (tv.trans (thop _))
      · exact tv.trans (thop _)
  · rw [if_pos h3]
    unfold zhm
    by_cases h6 : Z (o + 6) ≤ 1
    · rw [if_pos h6]; exact tfin _ _
    · rw [if_neg h6]
      have hf := bak_f hB hb ht h6
      by_cases hd : Z (2 + lkd w Z o) ≠ 0
      · rw [if_pos hd]; exact tfin _ _
      · rw [if_neg hd]
        unfold ztea
        refine foldz_inv (zteg o (ahd Z o)) (fun Y => agrT o Y Z) 0 72 (fun l Y l0 l1 hY => ?_) 72 0 _ (by omega) (by omega) (tbak _)
        unfold zteg
        split
        · exact hY
        · exact (agr_lrn hf.1 (by omega) l0 l1).L.trans hY
theorem zpg_T (hI : IV w h N s Z) (k0 : 0 ≤ k) (k1 : k < Z 1) : agrT ((2666 + 120 * k)) (zpg w h N s k Z) Z := by
  unfold zpg
  by_cases ha : act Z k = true
  · rw [if_pos ha]; exact zmv_T hI k0 k1 rfl ha
  · rw [if_neg ha]; exact fun _ _ => rfl
theorem IV.pg (hI : IV w h N s Z) (k0 : 0 ≤ k) (k1 : k < Z 1) : IV w h N s (zpg w h N s k Z) := by
  unfold zpg
  by_cases ha : act Z k = true
  · rw [if_pos ha]; exact hI.mv k0 k1 rfl ha
  · rw [if_neg ha]; exact hI
theorem pgs_I (hI : IV w h N s Z) (d : Nat) (hd : (d : Int) ≤ Z 1) : IV w h N s (foldz (zpg w h N s) 0 d Z) ∧ ∀ i, i < 74 → foldz (zpg w h N s) 0 d Z i = Z i := by
  refine foldz_inv (zpg w h N s) (fun Y => IV w h N s Y ∧ ∀ i, i < 74 → Y i = Z i) 0 (Z 1) (fun l Y l0 l1 hY => ?_) d 0 Z (by omega) (by omega) ⟨hI, fun _ _ => rfl⟩
  have e1 := hY.2 1 (by omega)
  exact ⟨hY.1.pg l0 (by rw [e1]; exact l1), fun i hi => (zpg_T hY.1 l0 (by rw [e1]; exact l1) i (by omega)).trans (hY.2 i hi)⟩
theorem IV.t {v : Int} (hI : IV w h N s Z) (v0 : 0 ≤ v) (v1 : v ≤ 31000) : IV w h N s (zu Z 0 v) := by
  have hp : ∀ k : Int, 0 ≤ k → ∀ i, (2666 + 120 * k) ≤ i → i < (2666 + 120 * k) + 120 → zu Z 0 v i = Z i := fun k k0 i i0 i1 => zu_ne (by omega)
  have hB := hI.1
  have e1 : zu Z 0 v 1 = Z 1 := zu_ne (by omega)
  obtain ⟨b1, b2, b3, b4, b5⟩ := hB
  refine ⟨⟨b1, ?_, fun l l0 l1 => ?_, fun i i0 i1 => ?_, fun j j0 j1 => ?_⟩, fun j j0 j1 => ?_⟩
  · rw [e1, zu_at]; omega
  · rw [zu_ne (by omega)]; exact b3 l l0 l1
  · rw [zu_ne (by omega)]; exact b4 i i0 i1
  · rw [e1] at j1; exact (b5 j j0 j1).same (hp j j0)
  · rw [e1] at j1; exact (hI.2 j j0 j1).same (b5 j j0 j1) (hp j j0)
theorem tk_f (hI : IV w h N s Z) (hz : Z 0 < 31000) : IV w h N s (ztk w h N s Z) ∧ ztk w h N s Z 0 = Z 0 + 1 ∧ ∀ i, 1 ≤ i → i < 74 → ztk w h N s Z i = Z i := by
  have hb := hI.1.2.1
  obtain ⟨g1, g2⟩ := pgs_I hI (Z 1).toNat (by omega)
  unfold ztk
  rw [g2 0 (by omega)]
  exact ⟨g1.t (by omega) (by omega), zu_at _ _ _, fun i i0 i1 => by rw [zu_ne (by omega)]; exact g2 i i1⟩
theorem zps_last (n : Nat) : ∀ Z : Int → Int, zps w h N s (n + 1) Z = ztk w h N s (zps w h N s n Z) := by
  induction n with
  | zero => intro Z; rfl
  | succ n ih => intro Z; rw [zps, ih]; rfl
theorem ps_f (hI : IV w h N s Z) (n : Nat) (hz : Z 0 + n ≤ 31000) : IV w h N s (zps w h N s n Z) ∧ zps w h N s n Z 0 = Z 0 + n ∧ ∀ i, 1 ≤ i → i < 74 → zps w h N s n Z i = Z i := by
  induction n with
  | zero => exact ⟨hI, by simp [zps], fun _ _ _ => rfl⟩
  | succ n ih =>
    obtain ⟨i1, i2, i3⟩ := ih (by omega)
    obtain ⟨t1, t2, t3⟩ := tk_f i1 (by omega)
    rw [zps_last]
    exact ⟨t1, by omega, fun i h1 h2 => (t3 i h1 h2).trans (i3 i h1 h2)⟩
theorem cntz_0 (f : Int → Bool) : ∀ (d : Nat) (l c : Int), cntz f l d c = c → ∀ k, l ≤ k → k < l + d → f k = false := by
  intro d
  induction d with
  | zero => intro l c _ k h1 h2; omega
  | succ d ih =>
    intro l c he k h1 h2
    have e : cntz f l (d + 1) c = cntz f (l + 1) d (if f l = true then c + 1 else c) := rfl
    rw [e] at he
    by_cases hf : f l = true
    · rw [if_pos hf] at he
      have := (cntz_b f d (l + 1) (c + 1)).1
      omega
    · rw [if_neg hf] at he
      by_cases hk : k = l
      · rw [hk]; simpa using hf
      · exact ih (l + 1) c he k (by omega) (by omega)
theorem pgs_0 (h1 : 0 ≤ Z 1) (ha : ∀ k, 0 ≤ k → k < Z 1 → act Z k = false) : foldz (zpg w h N s) 0 (Z 1).toNat Z = Z := by
  refine foldz_inv (zpg w h N s) (fun Y => Y = Z) 0 (Z 1) (fun l Y l0 l1 hY => ?_) (Z 1).toNat 0 Z (by omega) (by omega) rfl
  rw [hY]
  unfold zpg
  rw [ha l l0 l1]
  rfl
/-- nothing moves: time alone goes on -/
theorem ps_0 (n : Nat) : ∀ Z : Int → Int, 0 ≤ Z 1 → (∀ k, 0 ≤ k → k < Z 1 → act Z k = false) → zps w h N s n Z = zu Z 0 (Z 0 + n) := by
  induction n with
  | zero =>
    intro Z _ _
    funext i
    show Z i = _
    by_cases hi : i = 0
    · rw [hi, zu_at]; simp
    · rw [zu_ne hi]
  | succ n ih =>
    intro Z h1 ha
    have e : ztk w h N s Z = zu Z 0 (Z 0 + 1) := by unfold ztk; rw [pgs_0 h1 ha]
    rw [zps, e, ih (zu Z 0 (Z 0 + 1)) (by rw [zu_ne (by omega)]; exact h1) (fun k k0 k1 => by
      rw [zu_ne (by omega)] at k1
      have := ha k k0 k1
      unfold act at this ⊢
      rw [zu_ne (by omega)]
      exact this)]
    funext i
    by_cases hi : i = 0
    · rw [hi, zu_at, zu_at, zu_at]; omega
    · rw [zu_ne hi, zu_ne hi, zu_ne hi]
theorem zps_add (a b : Nat) : ∀ Z : Int → Int, zps w h N s (a + b) Z = zps w h N s b (zps w h N s a Z) := by
  induction a with
  | zero => intro Z; rw [Nat.zero_add]; rfl
  | succ a ih => intro Z; rw [Nat.succ_add, zps, ih]; rfl
end
section
variable {μ : XM} {W : Nat} {w h N s : Int} {Z : Int → Int} {Q : XQ} {X : XX} {k : Int}
theorem e_pass (hS : WS μ W) (hC : CW μ W w h N s Z) (hI : IV w h N s Z) {t : Int} (t0 : 0 ≤ t) (t1 : t ≤ 500) (ht : Z 0 + t ≤ 31000) (hK : ∀ μ', CH (inW W) μ' μ → CW μ' W w h N s (zps w h N s t.toNat Z) → Q none μ') : s_X7_pass μ [.ref W, .int (ji t)] Q X := by
  have hbz := hI.1.2.1
  rw [u_X7_pass, l_X7_pass_2, xseal_eq]
  refine imp_loop (fun mf x l => ln_X7_pass_2 Q X mf [some (.ref W), some (.int (ji t)), some (.int (ji l)), none, none] [] x 0 0) (fun l x => CH (inW W) x μ ∧ CW x W w h N s (zps w h N s l.toNat Z)) t (fun mf x hx => ?_) (fun mf x l l0 l1 hx hn => ?_) t.toNat 10000 0 μ (by omega) (by omega) (by omega) ⟨CH.refl _ _, hC⟩
  · show ln_X7_pass_2 Q X (mf + 1) [some (.ref W), some (.int (ji t)), some (.int (ji t)), none, none] [] x 0 0
    rw [ul_X7_pass_2]
    simp (disch := first | assumption | omega) only [WS_0, WS_1, WS_2, WS_3, WS_4, WS_5, WS_6, WS_7, WS_8, WS_9, WS_10, WS_11, WS_12, WS_13, WS_14, WS_15, WS_16, WS_17, WS_18, WS_19, WS_20, PS_0, PS_1, PS_2, PS_3, PS_4, PS_5, PS_6, ji_add, ji_sub, ji_mul, ji_neg, ji_lit0, ji_ofNat, ji_lt, ji_le, ji_eq, ji_nat, ji_in, qV_at, qI_at, qJ_at, qD_at, qA_at, qA_no, nb0, nb1, cat_r, cat_i, Option.some.injEq, exists_eq_left', true_and, and_true, if_true, if_false, ite_not, not_true_eq_false, not_false_eq_true, Sum.inr.injEq, exists_eq_right', true_or, or_true, and_self, Int.cast_ofNat_Int, reduceCtorEq, or_false, false_or, false_and, and_false, jb_zero, lt7_0, lt7_1, lt7_2, lt7_3, lt7_4, lt7_5, lt7_6, ↓reduceIte, ilt_t, ilt_f, ile_t, ile_f, ieq_t, ieq_f, jb_T, jb_F, jb_t, jb_f]
    exact hK x hx.1 hx.2
  · show ln_X7_pass_2 Q X (mf + 1) [some (.ref W), some (.int (ji t)), some (.int (ji l)), none, none] [] x 0 0
    obtain ⟨x1, x2⟩ := hx
    obtain ⟨p1, p2, p3⟩ := ps_f hI l.toNat (by omega)
    have hn' := fun y hy1 hy2 => hn y ⟨hy1, hy2⟩
    have el : (l + 1).toNat = l.toNat + 1 := by omega
    have hK' : ∀ μ', CH (inW W) μ' x → CW μ' W w h N s (zps w h N s (t.toNat - l.toNat) (zps w h N s l.toNat Z)) → Q none μ' := fun y y1 y2 => hK y (y1.trans x1) (by
      have e : t.toNat = l.toNat + (t.toNat - l.toNat) := by omega
      rw [e, zps_add]
      exact y2)
    rw [el] at hn'
    simp only [zps_last] at hn'
    clear hn hK el
    generalize zps w h N s l.toNat Z = Y at *
    have e1 := p3 1 (by omega) (by omega)
    have hS' := hS.mono x1.1
    have hby := p1.1.2.1
    have c2 := x2.2.2.1
    have hca := cntz_b (act Y) (Y 1).toNat 0 0
    rw [ul_X7_pass_2]
    by_cases h0 : cntz (act Y) 0 (Y 1).toNat 0 = 0
    · have ha : ∀ k, 0 ≤ k → k < Y 1 → act Y k = false := fun k k0 k1 => cntz_0 _ _ _ _ h0 k k0 (by omega)
      simp (disch := first | assumption | omega) only [WS_0, WS_1, WS_2, WS_3, WS_4, WS_5, WS_6, WS_7, WS_8, WS_9, WS_10, WS_11, WS_12, WS_13, WS_14, WS_15, WS_16, WS_17, WS_18, WS_19, WS_20, PS_0, PS_1, PS_2, PS_3, PS_4, PS_5, PS_6, ji_add, ji_sub, ji_mul, ji_neg, ji_lit0, ji_ofNat, ji_lt, ji_le, ji_eq, ji_nat, ji_in, qV_at, qI_at, qJ_at, qD_at, qA_at, qA_no, nb0, nb1, cat_r, cat_i, Option.some.injEq, exists_eq_left', true_and, and_true, if_true, if_false, ite_not, not_true_eq_false, not_false_eq_true, Sum.inr.injEq, exists_eq_right', true_or, or_true, and_self, Int.cast_ofNat_Int, reduceCtorEq, or_false, false_or, false_and, and_false, jb_zero, lt7_0, lt7_1, lt7_2, lt7_3, lt7_4, lt7_5, lt7_6, c_X7_pass_1, c_X7_pass_2, c_X7_pass_3, c_X7_pass_4, c_X7_pass_5, e_countActive hS' x2 p1.1, h0, c2, ↓reduceIte, ilt_t, ilt_f, ile_t, ile_f, ieq_t, ieq_f, jb_T, jb_F, jb_t, jb_f]
      refine hK' _ ((CH.refl _ _).sI _ _ _ (by unfold inW; omega)) ?_
      rw [ps_0 _ _ (by omega) ha]
      have e2 : ((t.toNat - l.toNat : Nat) : Int) = t - l := by omega
      rw [e2]
      exact x2.t p1.1 ((CH.refl _ _).sI _ _ _ rfl) ((agr.refl _ _ _).zu (by omega) (by omega)) (gI_sI_k _ _ _ _ _ _ (by omega)) (by rw [gI_sI_at, zu_at]) (gI_sI_k _ _ _ _ _ _ (by omega))
    · simp (disch := first | assumption | omega) only [WS_0, WS_1, WS_2, WS_3, WS_4, WS_5, WS_6, WS_7, WS_8, WS_9, WS_10, WS_11, WS_12, WS_13, WS_14, WS_15, WS_16, WS_17, WS_18, WS_19, WS_20, PS_0, PS_1, PS_2, PS_3, PS_4, PS_5, PS_6, ji_add, ji_sub, ji_mul, ji_neg, ji_lit0, ji_ofNat, ji_lt, ji_le, ji_eq, ji_nat, ji_in, qV_at, qI_at, qJ_at, qD_at, qA_at, qA_no, nb0, nb1, cat_r, cat_i, Option.some.injEq, exists_eq_left', true_and, and_true, if_true, if_false, ite_not, not_true_eq_false, not_false_eq_true, Sum.inr.injEq, exists_eq_right', true_or, or_true, and_self, Int.cast_ofNat_Int, reduceCtorEq, or_false, false_or, false_and, and_false, jb_zero, lt7_0, lt7_1, lt7_2, lt7_3, lt7_4, lt7_5, lt7_6, c_X7_pass_1, c_X7_pass_2, c_X7_pass_3, c_X7_pass_4, c_X7_pass_5, e_countActive hS' x2 p1.1, ↓reduceIte, ilt_t, ilt_f, ile_t, ile_f, ieq_t, ieq_f, jb_T, jb_F, jb_t, jb_f]
      rw [l_X7_pass_29, xseal_eq]
      refine imp_loop (fun mg y j => ln_X7_pass_29 Q X (ln_X7_pass_2 Q X mf) mg [some (.ref W), some (.int (ji t)), some (.int (ji l)), some (.int (ji j)), none] [] y 0 0) (fun j y => CH (inW W) y μ ∧ CW y W w h N s (foldz (zpg w h N s) 0 j.toNat Y)) (Y 1) (fun mg y hy => ?_) (fun mg y j j0 j1 hy hm => ?_) (Y 1).toNat 10000 0 x (by omega) (by omega) (by omega) ⟨x1, x2⟩
      · show ln_X7_pass_29 Q X (ln_X7_pass_2 Q X mf) (mg + 1) [some (.ref W), some (.int (ji t)), some (.int (ji l)), some (.int (ji (Y 1))), none] [] y 0 0
        obtain ⟨y1, y2⟩ := hy
        obtain ⟨q1, q2⟩ := pgs_I p1 (Y 1).toNat (by omega)
        have hS2 := hS.mono y1.1
        have d2 := y2.2.2.1
        have d3 := y2.2.2.2.1
        rw [q2 0 (by omega)] at d2
        rw [q2 1 (by omega)] at d3
        rw [ul_X7_pass_29]
        simp (disch := first | assumption | omega) only [WS_0, WS_1, WS_2, WS_3, WS_4, WS_5, WS_6, WS_7, WS_8, WS_9, WS_10, WS_11, WS_12, WS_13, WS_14, WS_15, WS_16, WS_17, WS_18, WS_19, WS_20, PS_0, PS_1, PS_2, PS_3, PS_4, PS_5, PS_6, ji_add, ji_sub, ji_mul, ji_neg, ji_lit0, ji_ofNat, ji_lt, ji_le, ji_eq, ji_nat, ji_in, qV_at, qI_at, qJ_at, qD_at, qA_at, qA_no, nb0, nb1, cat_r, cat_i, Option.some.injEq, exists_eq_left', true_and, and_true, if_true, if_false, ite_not, not_true_eq_false, not_false_eq_true, Sum.inr.injEq, exists_eq_right', true_or, or_true, and_self, Int.cast_ofNat_Int, reduceCtorEq, or_false, false_or, false_and, and_false, jb_zero, lt7_0, lt7_1, lt7_2, lt7_3, lt7_4, lt7_5, lt7_6, d2, d3, ↓reduceIte, ilt_t, ilt_f, ile_t, ile_f, ieq_t, ieq_f, jb_T, jb_F, jb_t, jb_f]
        refine hn' _ (y1.sI _ _ _ (by unfold inW; omega)) ?_
        unfold ztk
        rw [q2 0 (by omega)]
        exact y2.t q1.1 ((CH.refl _ _).sI _ _ _ rfl) ((agr.refl _ _ _).zu (by omega) (by omega)) (gI_sI_k _ _ _ _ _ _ (by omega)) (by rw [gI_sI_at, zu_at]) (gI_sI_k _ _ _ _ _ _ (by omega))
      · show ln_X7_pass_29 Q X (ln_X7_pass_2 Q X mf) (mg + 1) [some (.ref W), some (.int (ji t)), some (.int (ji l)), some (.int (ji j)), none] [] y 0 0
        obtain ⟨y1, y2⟩ := hy
        obtain ⟨q1, q2⟩ := pgs_I p1 j.toNat (by omega)
        have hm' := fun y hy1 hy2 => hm y ⟨hy1, hy2⟩
        rw [foldz_up _ j0] at hm'
        have f1 := q2 1 (by omega)
        generalize foldz (zpg w h N s) 0 j.toNat Y = V at *
        unfold zpg at hm'
        have hS2 := hS.mono y1.1
        have d3 := y2.2.2.2.1
        have hbv := q1.1.2.1
        have jv : j < V 1 := by omega
        have hps := WS_ps hS2 j j0 (by omega)
        have hbk := BD_p q1.1 j j0 jv
        have hp := CW_p y2 j j0 jv
        rw [ul_X7_pass_29]
        by_cases ha : act V j = true
        · rw [if_pos ha] at hm'
          have ha' : V ((2666 + 120 * j) + 3) ≤ 2 := by simpa [act] using ha
          simp (disch := first | assumption | omega) only [WS_0, WS_1, WS_2, WS_3, WS_4, WS_5, WS_6, WS_7, WS_8, WS_9, WS_10, WS_11, WS_12, WS_13, WS_14, WS_15, WS_16, WS_17, WS_18, WS_19, WS_20, PS_0, PS_1, PS_2, PS_3, PS_4, PS_5, PS_6, ji_add, ji_sub, ji_mul, ji_neg, ji_lit0, ji_ofNat, ji_lt, ji_le, ji_eq, ji_nat, ji_in, qV_at, qI_at, qJ_at, qD_at, qA_at, qA_no, nb0, nb1, cat_r, cat_i, Option.some.injEq, exists_eq_left', true_and, and_true, if_true, if_false, ite_not, not_true_eq_false, not_false_eq_true, Sum.inr.injEq, exists_eq_right', true_or, or_true, and_self, Int.cast_ofNat_Int, reduceCtorEq, or_false, false_or, false_and, and_false, jb_zero, lt7_0, lt7_1, lt7_2, lt7_3, lt7_4, lt7_5, lt7_6, c_X7_pass_1, c_X7_pass_2, c_X7_pass_3, c_X7_pass_4, c_X7_pass_5, d3, e_packetOf hS2 y2 q1.1, e_isActive hps hp hbk, ha', ↓reduceIte, ilt_t, ilt_f, ile_t, ile_f, ieq_t, ieq_f, jb_T, jb_F, jb_t, jb_f]
          refine e_move hS2 y2 q1 j0 jv (fun z z1 z2 => ?_)
          simp (disch := first | assumption | omega) only [WS_0, WS_1, WS_2, WS_3, WS_4, WS_5, WS_6, WS_7, WS_8, WS_9, WS_10, WS_11, WS_12, WS_13, WS_14, WS_15, WS_16, WS_17, WS_18, WS_19, WS_20, PS_0, PS_1, PS_2, PS_3, PS_4, PS_5, PS_6, ji_add, ji_sub, ji_mul, ji_neg, ji_lit0, ji_ofNat, ji_lt, ji_le, ji_eq, ji_nat, ji_in, qV_at, qI_at, qJ_at, qD_at, qA_at, qA_no, nb0, nb1, cat_r, cat_i, Option.some.injEq, exists_eq_left', true_and, and_true, if_true, if_false, ite_not, not_true_eq_false, not_false_eq_true, Sum.inr.injEq, exists_eq_right', true_or, or_true, and_self, Int.cast_ofNat_Int, reduceCtorEq, or_false, false_or, false_and, and_false, jb_zero, lt7_0, lt7_1, lt7_2, lt7_3, lt7_4, lt7_5, lt7_6, c_X7_pass_1, c_X7_pass_2, c_X7_pass_3, c_X7_pass_4, c_X7_pass_5]
          exact hm' z (z1.trans y1) z2
        · rw [if_neg ha] at hm'
          have ha' : ¬ V ((2666 + 120 * j) + 3) ≤ 2 := by simpa [act] using ha
          simp (disch := first | assumption | omega) only [WS_0, WS_1, WS_2, WS_3, WS_4, WS_5, WS_6, WS_7, WS_8, WS_9, WS_10, WS_11, WS_12, WS_13, WS_14, WS_15, WS_16, WS_17, WS_18, WS_19, WS_20, PS_0, PS_1, PS_2, PS_3, PS_4, PS_5, PS_6, ji_add, ji_sub, ji_mul, ji_neg, ji_lit0, ji_ofNat, ji_lt, ji_le, ji_eq, ji_nat, ji_in, qV_at, qI_at, qJ_at, qD_at, qA_at, qA_no, nb0, nb1, cat_r, cat_i, Option.some.injEq, exists_eq_left', true_and, and_true, if_true, if_false, ite_not, not_true_eq_false, not_false_eq_true, Sum.inr.injEq, exists_eq_right', true_or, or_true, and_self, Int.cast_ofNat_Int, reduceCtorEq, or_false, false_or, false_and, and_false, jb_zero, lt7_0, lt7_1, lt7_2, lt7_3, lt7_4, lt7_5, lt7_6, c_X7_pass_1, c_X7_pass_2, c_X7_pass_3, c_X7_pass_4, c_X7_pass_5, d3, e_packetOf hS2 y2 q1.1, e_isActive hps hp hbk, ha', ↓reduceIte, ilt_t, ilt_f, ile_t, ile_f, ieq_t, ieq_f, jb_T, jb_F, jb_t, jb_f]
          exact hm' y y1 y2
end
