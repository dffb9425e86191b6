/-! ===== the output ===== -/
def ltr (y : Int) : Int := if y = 0 then 101 else if y = 1 then 110 else if y = 2 then 119 else 115
def wrB (Z : Int → Int) (o : Int) : Int := if 10 ≤ Z o then 2 else 1
def wrI (O Z : Int → Int) (o : Int) : Int → Int := if 10 ≤ Z o then zu (zu O 0 (48 + Z o / 10)) 1 (48 + Z o % 10) else zu O 0 (48 + Z o % 10)
def wrg (w h N : Int) (Z : Int → Int) (o l : Int) (O : Int → Int) : Int → Int := zu O (wrB Z o + l) (ltr (wto w h N (Z (o + 11 + l)) (Z (o + 11 + (l + 1)))))
def wrF (w h N : Int) (Z : Int → Int) (o : Int) (O : Int → Int) : Int → Int := foldz (wrg w h N Z o) 0 (Z (o + 6) - 1).toNat (wrI O Z o)
def wrL (Z : Int → Int) (o : Int) : Int := wrB Z o + (Z (o + 6) - 1)
def oWrite (A : AS) (p : Int) : AR := ((A.1, A.2.1, A.2.2.1, A.2.2.2.1, A.2.2.2.2.1, A.2.2.2.2.2.1, (wrL A.2.1 (2666 + 120 * p), wrF A.1.1 A.1.2.1 A.1.2.2.1 A.2.1 (2666 + 120 * p) A.2.2.2.2.2.2.2)), (0, wrL A.2.1 (2666 + 120 * p)))
def xWrite (A : AS) (p : Int) : AR := op1 (0 ≤ p ∧ p < A.2.1 1) A (oWrite A p)
theorem wrB_b (Z : Int → Int) (o : Int) : 1 ≤ wrB Z o ∧ wrB Z o ≤ 2 := by
  unfold wrB
  split <;> omega
theorem ltr_b (y : Int) : 0 ≤ ltr y ∧ ltr y < 256 := by
  unfold ltr
  (repeat' split) <;> omega
theorem INV.write {A : AS} (hi : INV A) {p : Int} (p0 : 0 ≤ p) (p1 : p < A.2.1 1) : INV (oWrite A p).1 := by
  have hb := (BD_p hi.1.1.1 p p0 p1).1
  have hw := hi.1.1.1.1
  have hB := wrB_b A.2.1 (2666 + 120 * p)
  obtain ⟨h1, h2, h3, h4, h5, h6⟩ := hi
  refine ⟨h1, h2, h3, h4, h5, ?_, ?_, ?_⟩
  · show 0 ≤ wrL A.2.1 (2666 + 120 * p)
    unfold wrL; omega
  · show wrL A.2.1 (2666 + 120 * p) ≤ 37
    unfold wrL; omega
  · show ∀ i, 0 ≤ i → i < wrL A.2.1 (2666 + 120 * p) → 0 ≤ wrF A.1.1 A.1.2.1 A.1.2.2.1 A.2.1 (2666 + 120 * p) A.2.2.2.2.2.2.2 i ∧ wrF A.1.1 A.1.2.1 A.1.2.2.1 A.2.1 (2666 + 120 * p) A.2.2.2.2.2.2.2 i < 256
    have H : ∀ d : Nat, ∀ i, 0 ≤ i → i < wrB A.2.1 (2666 + 120 * p) + d → 0 ≤ foldz (wrg A.1.1 A.1.2.1 A.1.2.2.1 A.2.1 (2666 + 120 * p)) 0 d (wrI A.2.2.2.2.2.2.2 A.2.1 (2666 + 120 * p)) i ∧ foldz (wrg A.1.1 A.1.2.1 A.1.2.2.1 A.2.1 (2666 + 120 * p)) 0 d (wrI A.2.2.2.2.2.2.2 A.2.1 (2666 + 120 * p)) i < 256 := by
      intro d
      induction d with
      | zero =>
        intro i i0 i1
        show 0 ≤ wrI A.2.2.2.2.2.2.2 A.2.1 (2666 + 120 * p) i ∧ wrI A.2.2.2.2.2.2.2 A.2.1 (2666 + 120 * p) i < 256
        unfold wrB at i1
        unfold wrI
        by_cases h10 : 10 ≤ A.2.1 (2666 + 120 * p)
        · rw [if_pos h10] at i1 ⊢
          by_cases e : i = 1
          · rw [e, zu_at]; omega
          · rw [zu_ne e]
            have e0 : i = 0 := by omega
            rw [e0, zu_at]; omega
        · rw [if_neg h10] at i1 ⊢
          have e0 : i = 0 := by omega
          rw [e0, zu_at]; omega
      | succ d ih =>
        intro i i0 i1
        rw [foldz_last]
        unfold wrg
        by_cases e : i = wrB A.2.1 (2666 + 120 * p) + (0 + d)
        · rw [e, zu_at]; exact ltr_b _
        · rw [zu_ne e]; exact ih i i0 (by omega)
    intro i i0 i1
    unfold wrL at i1
    exact H _ i i0 (by omega)
theorem wto_in {w h N n b : Int} (g : 0 ≤ w ∧ w ≤ 6 ∧ 0 ≤ h ∧ h ≤ 6 ∧ 0 ≤ N ∧ N ≤ 36 ∧ N = w * h) (n0 : 0 ≤ n) (n1 : n < N) (hx : ∃ y : Int, 0 ≤ y ∧ y < 4 ∧ nx w h n y = b) : 0 ≤ wto w h N n b ∧ wto w h N n b < 4 := by
  have t0 := nxt_in (w := w) (h := h) n0 n1 (y := 0) (by omega) (by omega)
  have t1 := nxt_in (w := w) (h := h) n0 n1 (y := 1) (by omega) (by omega)
  have t2 := nxt_in (w := w) (h := h) n0 n1 (y := 2) (by omega) (by omega)
  have t3 := nxt_in (w := w) (h := h) n0 n1 (y := 3) (by omega) (by omega)
  have i1 : (0 : Int) + 1 = 1 := rfl
  have i2 : (1 : Int) + 1 = 2 := rfl
  have i3 : (2 : Int) + 1 = 3 := rfl
  by_cases h0 : nx w h n 0 = b
  · have e : wto w h N n b = 0 := by simp only [wto, findz, t0, h0, if_true]
    omega
  · by_cases h1 : nx w h n 1 = b
    · have e : wto w h N n b = 1 := by simp only [wto, findz, t0, h0, if_false, i1, t1, h1, if_true]
      omega
    · by_cases h2 : nx w h n 2 = b
      · have e : wto w h N n b = 2 := by simp only [wto, findz, t0, h0, if_false, i1, t1, h1, i2, t2, h2, if_true]
        omega
      · have h3 : nx w h n 3 = b := by
          obtain ⟨y, y0, y1, y2⟩ := hx
          have : y = 0 ∨ y = 1 ∨ y = 2 ∨ y = 3 := by omega
          rcases this with rfl | rfl | rfl | rfl
          · exact absurd y2 h0
          · exact absurd y2 h1
          · exact absurd y2 h2
          · exact y2
        have e : wto w h N n b = 3 := by simp only [wto, findz, t0, h0, if_false, i1, t1, h1, i2, t2, h2, i3, t3, h3, if_true]
        omega
/-- the texts that the class reads -/
def STX : Nat → List Int
  | 0 => [103, 114, 105, 100] | 1 => [115, 116, 97, 108, 101] | 2 => [100, 101, 97, 100] | 3 => [101, 97, 115, 116] | 4 => [110, 111, 114, 116, 104] | 5 => [119, 101, 115, 116] | 6 => [115, 111, 117, 116, 104] | 7 => [108, 101, 115, 115, 111, 110] | 8 => [115, 101, 110, 100] | 9 => [116, 105, 99, 107] | 10 => [107, 105, 108, 108] | 11 => [109, 101, 110, 100] | 12 => [102, 111, 114, 103, 101, 116] | _ => [101, 110, 119, 115]
def SC (μ : XM) (x : Nat) : Prop := ∀ k, k < 14 → ∃ a, a < x ∧ gR μ (2000 + k) 0 = some a ∧ tg μ a = some (.inr 10) ∧ ln μ a = (STX k).length ∧ ∀ i, i < (STX k).length → aI μ a i = ji ((STX k).getD i 0)
theorem SC.frame {μ μ' : XM} {x : Nat} {C : Nat → Prop} (h : SC μ x) (hc : CH C μ' μ) (hs : ∀ a, a < x → ¬ C a) : SC μ' x := fun k hk => by
  obtain ⟨a, h1, h2, h3, h4, h5⟩ := h k hk
  refine ⟨a, h1, by rw [hc.1.2.2.1]; exact h2, by rw [hc.1.1]; exact h3, by rw [hc.1.2.1]; exact h4, fun i hi => ?_⟩
  rw [(hc.2 a (hs a h1)).2.2.1]
  exact h5 i hi
abbrev inO (x a : Nat) : Prop := a = x ∨ a = x + 1178
theorem and255 {v : Int} (h0 : 0 ≤ v) (h1 : v < 128) : ji v &&& 255 = ji v := by
  have e : (255 : Int32) = ji 255 := rfl
  rw [e, ji_and h0 (by omega) (by omega) (by omega)]
  have : v.toNat &&& (255 : Int).toNat = v.toNat := by
    have h2 : (255 : Int).toNat = 2 ^ 8 - 1 := rfl
    rw [h2, Nat.and_two_pow_sub_one_eq_mod, Nat.mod_eq_of_lt (by omega)]
  rw [this, Int.toNat_of_nonneg h0]
section
variable {μ : XM} {x : Nat} {Q : XQ} {X : XX} {A : AS} {e1 e2 : String} {l v : Int} {O : Int → Int} {y0 : XM}
theorem e_charAt {a : Nat} {i c : Int} (ht : tg μ a = some (.inr 10)) (i0 : 0 ≤ i) (i1 : i < ln μ a) (i2 : i < 2147483648) (hv : aI μ a i.toNat = ji c) (c0 : 0 ≤ c) (c1 : c < 128) : s_J0_charAt_5068e μ [.ref a, .int (ji i)] Q X = Q (some (.int (ji c))) μ := by
  have hn : (ji i).toNatClampNeg = i.toNat := ji_nat (by omega) i2
  rw [s_J0_charAt_5068e, xseal_eq]
  show (tg μ a = some (.inr 10) ∧ vp_in (ji i) (ln μ a) ∧ Q (some (.int (aI μ a (ji i).toNatClampNeg &&& 255))) μ) = _
  rw [hn, hv, and255 c0 c1, ji_in (by omega) i2, ht]
  apply propext
  constructor
  · exact fun q => q.2.2
  · exact fun q => ⟨rfl, ⟨i0, i1⟩, q⟩
theorem e_length {a : Nat} {n : Nat} (ht : tg μ a = some (.inr 10)) (hl : ln μ a = n) : s_J0_length_8abf5 μ [.ref a] Q X = Q (some (.int (ji n))) μ := by
  rw [s_J0_length_8abf5, xseal_eq]
  show (tg μ a = some (.inr 10) ∧ Q (some (.int (Int32.ofNat (ln μ a)))) μ) = _
  rw [hl, ht, ji_ofNat]
  apply propext
  exact ⟨fun q => q.2, fun q => ⟨rfl, q⟩⟩
theorem e_putOut (hL : XL μ x) (hO : XO μ x l O) (l0 : 0 ≤ l) (l1 : l < 40) (hK : ∀ μ', CH (inO x) μ' μ → XO μ' x (l + 1) (zu O l v) → Q none μ') : s_X8_putOutput μ [.ref x, .int (ji v)] Q X := by
  have o1 := hO.1
  have t0 := fun i v => XL_0 (hL.wI (x + 1178) i v)
  have g1 : ∀ i v, gI (wI μ (x + 1178) i v) 266 x = ji l := fun _ _ => o1
  simp (disch := first | assumption | omega) only [XL_0, XL_1, XL_2, XL_3, XL_4, XL_5, XL_6, XL_7, XL_8, XL_9, XL_10, XL_11, XL_12, XL_13, XL_14, XL_15, XL_16, XL_17, XL_18, XL_19, XL_20, XL_21, XL_22, XL_23, XL_24, XL_25, XL_26, XL_27, XL_28, XL_29, XL_30, XL_31, XL_32, XL_33, XL_34, XL_35, XL_36, XL_37, XL_38, XL_39, XL_40, XL_41, XL_42, XL_43, XL_44, XL_45, XL_46, XL_47, WS_0, WS_1, WS_2, WS_3, WS_4, WS_5, WS_6, WS_7, WS_8, WS_9, WS_10, WS_11, WS_12, WS_13, WS_14, WS_15, WS_16, WS_17, WS_18, WS_19, WS_20, PS_0, PS_1, PS_2, PS_3, PS_4, PS_5, PS_6, ji_add, ji_sub, ji_mul, ji_neg, ji_lit0, ji_ofNat, ji_lt, ji_le, ji_eq, ji_nat, ji_in, qV_at, qI_at, qJ_at, qD_at, qA_at, qA_no, nb0, nb1, cat_r, cat_i, Option.some.injEq, exists_eq_left', true_and, and_true, if_true, if_false, ite_not, not_true_eq_false, not_false_eq_true, Sum.inr.injEq, exists_eq_right', true_or, or_true, and_self, Int.cast_ofNat_Int, reduceCtorEq, or_false, false_or, false_and, and_false, jb_zero, lt7_0, lt7_1, lt7_2, lt7_3, lt7_4, lt7_5, lt7_6, Nat.reduceAdd, Nat.reduceLeDiff, u_X8_putOutput, o1, t0, g1, ↓reduceIte, ilt_t, ilt_f, ile_t, ile_f, ieq_t, ieq_f, jb_T, jb_F, jb_t, jb_f]
  refine hK _ ((CH.wI (S := inO x) (CH.refl _ _) _ _ _ (Or.inr rfl)).sI _ _ _ (Or.inl rfl)) ⟨gI_sI_at _ _ _ _, fun i i0 i1 => ?_⟩
  show aI (wI μ (x + 1178) l.toNat (ji v)) (x + 1178) i.toNat = _
  by_cases e : i = l
  · rw [e, aI_wI_at, zu_at]
  · rw [aI_wI_i _ _ _ _ _ _ (by omega), zu_ne e]
    exact hO.2 i i0 (by omega)
theorem q_writeLoop (hx : XS μ x A) (hi : INV A) (hs : SC μ x) {p : Int} (p0 : 0 ≤ p) (p1 : p < A.2.1 1) {nc ns : Nat} (c0 : CH (inO x) y0 μ) (o0 : XO y0 x (wrB A.2.1 (2666 + 120 * p)) (wrI A.2.2.2.2.2.2.2 A.2.1 (2666 + 120 * p))) (hQ : CP μ x Q (oWrite A p)) : l_X8_write_64 Q X [some (.ref x), none, some (.ref (pka (x + 1) p)), some (.int (ji 1)), none] [] y0 nc ns := by
  have hB := hi.1.1.1
  have hw := hB.1
  have hbz := hB.2.1
  have hpk := hi.1.2.2.1
  have hb := BD_p hB p p0 p1
  have hb1 := hb.1
  have ht := hi.1.1.2 p p0 p1
  have hwb := wrB_b A.2.1 (2666 + 120 * p)
  have e1 : ji 1 = ji (0 + 1) := rfl
  rw [l_X8_write_64, xseal_eq, e1]
  refine imp_loop (fun mf y l => ln_X8_write_64 Q X mf [some (.ref x), none, some (.ref (pka (x + 1) p)), some (.int (ji (l + 1))), none] [] y nc ns) (fun l y => CH (inO x) y μ ∧ XO y x (wrB A.2.1 (2666 + 120 * p) + l) (foldz (wrg A.1.1 A.1.2.1 A.1.2.2.1 A.2.1 (2666 + 120 * p)) 0 l.toNat (wrI A.2.2.2.2.2.2.2 A.2.1 (2666 + 120 * p)))) (A.2.1 (2666 + 120 * p + 6) - 1) (fun mf y hy => ?_) (fun mf y l l0 l1 hy hn => ?_) (A.2.1 (2666 + 120 * p + 6) - 1).toNat 10000 0 y0 (by omega) (by omega) (by omega) ⟨c0, by rw [Int.add_zero]; exact o0⟩
  · show ln_X8_write_64 Q X (mf + 1) [some (.ref x), none, some (.ref (pka (x + 1) p)), some (.int (ji (A.2.1 (2666 + 120 * p + 6) - 1 + 1))), none] [] y nc ns
    obtain ⟨y1, y2⟩ := hy
    have hL := hx.1.mono y1.1
    have hC := hx.2.1.frame hB y1 (fun a a0 a1 => by unfold inO; omega)
    have hps := PS_0 (WS_ps hL.w p p0 (by omega))
    have p6 := (CW_p hC p p0 p1).1.2.2.2.2.2.2.1
    have e6 : A.2.1 (2666 + 120 * p + 6) - 1 + 1 = A.2.1 (2666 + 120 * p + 6) := by omega
    have o1 := y2.1
    have hq : Q (some (.int (ji (wrB A.2.1 (2666 + 120 * p) + (A.2.1 (2666 + 120 * p + 6) - 1))))) y := by
      obtain ⟨x1, x2, x3, x4, x5, x6, x7⟩ := hx
      exact hQ y (y1.mono (fun a ha => by unfold inO at ha; unfold inX; omega)) ⟨hL, hC, x3.frame y1 (fun a a0 a1 => by unfold inO; omega), x4.frame hi.2.1.2.2 y1 (fun a a0 a1 => by unfold inO; omega), x5.frame hi.2.2.1 y1 (fun a a0 a1 a2 => by unfold inO; omega), x6.frame y1 (fun a a0 a1 => by unfold inO; omega), y2⟩
    rw [ul_X8_write_64, e6]
    simp (disch := first | assumption | omega) only [XL_0, XL_1, XL_2, XL_3, XL_4, XL_5, XL_6, XL_7, XL_8, XL_9, XL_10, XL_11, XL_12, XL_13, XL_14, XL_15, XL_16, XL_17, XL_18, XL_19, XL_20, XL_21, XL_22, XL_23, XL_24, XL_25, XL_26, XL_27, XL_28, XL_29, XL_30, XL_31, XL_32, XL_33, XL_34, XL_35, XL_36, XL_37, XL_38, XL_39, XL_40, XL_41, XL_42, XL_43, XL_44, XL_45, XL_46, XL_47, WS_0, WS_1, WS_2, WS_3, WS_4, WS_5, WS_6, WS_7, WS_8, WS_9, WS_10, WS_11, WS_12, WS_13, WS_14, WS_15, WS_16, WS_17, WS_18, WS_19, WS_20, PS_0, PS_1, PS_2, PS_3, PS_4, PS_5, PS_6, ji_add, ji_sub, ji_mul, ji_neg, ji_lit0, ji_ofNat, ji_lt, ji_le, ji_eq, ji_nat, ji_in, qV_at, qI_at, qJ_at, qD_at, qA_at, qA_no, nb0, nb1, cat_r, cat_i, Option.some.injEq, exists_eq_left', true_and, and_true, if_true, if_false, ite_not, not_true_eq_false, not_false_eq_true, Sum.inr.injEq, exists_eq_right', true_or, or_true, and_self, Int.cast_ofNat_Int, reduceCtorEq, or_false, false_or, false_and, and_false, jb_zero, lt7_0, lt7_1, lt7_2, lt7_3, lt7_4, lt7_5, lt7_6, Nat.reduceAdd, Nat.reduceLeDiff, hps, p6, o1, ↓reduceIte, ilt_t, ilt_f, ile_t, ile_f, ieq_t, ieq_f, jb_T, jb_F, jb_t, jb_f]
    exact hq
  · show ln_X8_write_64 Q X (mf + 1) [some (.ref x), none, some (.ref (pka (x + 1) p)), some (.int (ji (l + 1))), none] [] y nc ns
    obtain ⟨y1, y2⟩ := hy
    have hL := hx.1.mono y1.1
    have hw1 := hL.w
    have hC := hx.2.1.frame hB y1 (fun a a0 a1 => by unfold inO; omega)
    have hps := WS_ps hL.w p p0 (by omega)
    have hps0 := PS_0 hps
    have hp := CW_p hC p p0 p1
    have p6 := hp.1.2.2.2.2.2.2.1
    obtain ⟨a, a1, a2, a3, a4, a5⟩ := (hs.frame y1 (fun a ha => by unfold inO; omega)) 13 (by omega)
    have ia := hb.2.2.1 l l0 (by omega)
    have ib := hb.2.2.1 (l + 1) (by omega) (by omega)
    have hxx := ht.2.1 l l0 (by omega)
    have ta : trn A.2.1 (2666 + 120 * p) l = A.2.1 (2666 + 120 * p + 11 + l) := if_pos ⟨l0, by omega⟩
    have tb : trn A.2.1 (2666 + 120 * p) (l + 1) = A.2.1 (2666 + 120 * p + 11 + (l + 1)) := if_pos ⟨by omega, by omega⟩
    have hwt : 0 ≤ wto A.1.1 A.1.2.1 A.1.2.2.1 (A.2.1 (2666 + 120 * p + 11 + l)) (A.2.1 (2666 + 120 * p + 11 + (l + 1))) ∧ wto A.1.1 A.1.2.1 A.1.2.2.1 (A.2.1 (2666 + 120 * p + 11 + l)) (A.2.1 (2666 + 120 * p + 11 + (l + 1))) < 4 := wto_in hB.g ia.1 ia.2 hxx
    have hn' := fun z z1 z2 => hn z ⟨z1, z2⟩
    rw [foldz_up _ l0] at hn'
    have hwd : wrg A.1.1 A.1.2.1 A.1.2.2.1 A.2.1 (2666 + 120 * p) l (foldz (wrg A.1.1 A.1.2.1 A.1.2.2.1 A.2.1 (2666 + 120 * p)) 0 l.toNat (wrI A.2.2.2.2.2.2.2 A.2.1 (2666 + 120 * p))) = zu (foldz (wrg A.1.1 A.1.2.1 A.1.2.2.1 A.2.1 (2666 + 120 * p)) 0 l.toNat (wrI A.2.2.2.2.2.2.2 A.2.1 (2666 + 120 * p))) (wrB A.2.1 (2666 + 120 * p) + l) (ltr (wto A.1.1 A.1.2.1 A.1.2.2.1 (A.2.1 (2666 + 120 * p + 11 + l)) (A.2.1 (2666 + 120 * p + 11 + (l + 1))))) := rfl
    rw [hwd] at hn'
    generalize foldz (wrg A.1.1 A.1.2.1 A.1.2.2.1 A.2.1 (2666 + 120 * p)) 0 l.toNat (wrI A.2.2.2.2.2.2.2 A.2.1 (2666 + 120 * p)) = U at *
    generalize hy : wto A.1.1 A.1.2.1 A.1.2.2.1 (A.2.1 (2666 + 120 * p + 11 + l)) (A.2.1 (2666 + 120 * p + 11 + (l + 1))) = d at *
    have hch : ∀ Q X, s_J0_charAt_5068e y [.ref a, .int (ji d)] Q X = Q (some (.int (ji (ltr d)))) y := fun Q X => by
      have h4 : d = 0 ∨ d = 1 ∨ d = 2 ∨ d = 3 := by omega
      have hl4 : ln y a = 4 := a4
      have hv : aI y a d.toNat = ji (ltr d) := by
        rcases h4 with rfl | rfl | rfl | rfl
        · exact a5 0 (by decide)
        · exact a5 1 (by decide)
        · exact a5 2 (by decide)
        · exact a5 3 (by decide)
      have hlt : 0 ≤ ltr d ∧ ltr d < 128 := by unfold ltr; (repeat' split) <;> omega
      exact e_charAt a3 hwt.1 (by rw [hl4]; omega) (by omega) hv hlt.1 hlt.2
    have hln : ∀ Q X, s_J0_length_8abf5 y [.ref a] Q X = Q (some (.int (ji 4))) y := fun Q X => e_length (n := 4) a3 a4
    have e7 : l + 1 - 1 = l := by omega
    rw [ul_X8_write_64]
    simp (disch := first | assumption | omega) only [XL_0, XL_1, XL_2, XL_3, XL_4, XL_5, XL_6, XL_7, XL_8, XL_9, XL_10, XL_11, XL_12, XL_13, XL_14, XL_15, XL_16, XL_17, XL_18, XL_19, XL_20, XL_21, XL_22, XL_23, XL_24, XL_25, XL_26, XL_27, XL_28, XL_29, XL_30, XL_31, XL_32, XL_33, XL_34, XL_35, XL_36, XL_37, XL_38, XL_39, XL_40, XL_41, XL_42, XL_43, XL_44, XL_45, XL_46, XL_47, WS_0, WS_1, WS_2, WS_3, WS_4, WS_5, WS_6, WS_7, WS_8, WS_9, WS_10, WS_11, WS_12, WS_13, WS_14, WS_15, WS_16, WS_17, WS_18, WS_19, WS_20, PS_0, PS_1, PS_2, PS_3, PS_4, PS_5, PS_6, ji_add, ji_sub, ji_mul, ji_neg, ji_lit0, ji_ofNat, ji_lt, ji_le, ji_eq, ji_nat, ji_in, qV_at, qI_at, qJ_at, qD_at, qA_at, qA_no, nb0, nb1, cat_r, cat_i, Option.some.injEq, exists_eq_left', true_and, and_true, if_true, if_false, ite_not, not_true_eq_false, not_false_eq_true, Sum.inr.injEq, exists_eq_right', true_or, or_true, and_self, Int.cast_ofNat_Int, reduceCtorEq, or_false, false_or, false_and, and_false, jb_zero, lt7_0, lt7_1, lt7_2, lt7_3, lt7_4, lt7_5, lt7_6, Nat.reduceAdd, Nat.reduceLeDiff, c_X8_write_1, c_X8_write_2, c_X8_write_3, c_X8_write_4, c_X8_write_5, c_X8_write_6, c_X8_write_7, c_X8_write_8, c_X8_write_9, c_X8_write_10, c_X8_write_11, c_X8_write_12, hps0, p6, e7, e_trailNode hps hp hb, ta, tb, e_wayTo hw1 hC.1, hy, a2, a3, hch, hln, ↓reduceIte, ilt_t, ilt_f, ile_t, ile_f, ieq_t, ieq_f, jb_T, jb_F, jb_t, jb_f]
    refine e_putOut hL y2 (by omega) (by omega) (fun z z1 z2 => ?_)
    have e8 : wrB A.2.1 (2666 + 120 * p) + l + 1 = wrB A.2.1 (2666 + 120 * p) + (l + 1) := by omega
    rw [e8] at z2
    simp (disch := first | assumption | omega) only [XL_0, XL_1, XL_2, XL_3, XL_4, XL_5, XL_6, XL_7, XL_8, XL_9, XL_10, XL_11, XL_12, XL_13, XL_14, XL_15, XL_16, XL_17, XL_18, XL_19, XL_20, XL_21, XL_22, XL_23, XL_24, XL_25, XL_26, XL_27, XL_28, XL_29, XL_30, XL_31, XL_32, XL_33, XL_34, XL_35, XL_36, XL_37, XL_38, XL_39, XL_40, XL_41, XL_42, XL_43, XL_44, XL_45, XL_46, XL_47, WS_0, WS_1, WS_2, WS_3, WS_4, WS_5, WS_6, WS_7, WS_8, WS_9, WS_10, WS_11, WS_12, WS_13, WS_14, WS_15, WS_16, WS_17, WS_18, WS_19, WS_20, PS_0, PS_1, PS_2, PS_3, PS_4, PS_5, PS_6, ji_add, ji_sub, ji_mul, ji_neg, ji_lit0, ji_ofNat, ji_lt, ji_le, ji_eq, ji_nat, ji_in, qV_at, qI_at, qJ_at, qD_at, qA_at, qA_no, nb0, nb1, cat_r, cat_i, Option.some.injEq, exists_eq_left', true_and, and_true, if_true, if_false, ite_not, not_true_eq_false, not_false_eq_true, Sum.inr.injEq, exists_eq_right', true_or, or_true, and_self, Int.cast_ofNat_Int, reduceCtorEq, or_false, false_or, false_and, and_false, jb_zero, lt7_0, lt7_1, lt7_2, lt7_3, lt7_4, lt7_5, lt7_6, Nat.reduceAdd, Nat.reduceLeDiff, c_X8_write_1, c_X8_write_2, c_X8_write_3, c_X8_write_4, c_X8_write_5, c_X8_write_6, c_X8_write_7, c_X8_write_8, c_X8_write_9, c_X8_write_10, c_X8_write_11, c_X8_write_12, ↓reduceIte, ilt_t, ilt_f, ile_t, ile_f, ieq_t, ieq_f, jb_T, jb_F, jb_t, jb_f]
    exact hn' z (z1.trans y1) z2
theorem q_write (hx : XS μ x A) (hi : INV A) (hs : SC μ x) {p : Int} (n1 : -2147483648 ≤ p) (n2 : p < 2147483648) (hQ : CQ μ x Q X IOB e2 (xWrite A p)) : s_X8_write μ [.ref x, .int (ji p)] Q X := by
  have hL := hx.1
  have hX := hx.xw hi
  have hB := hi.1.1.1
  have hw := hB.1
  have hbz := hB.2.1
  have hpk := hi.1.2.2.1
  unfold xWrite op1 at hQ
  by_cases hn : 0 ≤ p ∧ p < A.2.1 1
  · rw [if_pos hn] at hQ
    have hP := hQ.p rfl
    have hb1 := (BD_p hB p hn.1 hn.2).1
    have hps0 := PS_0 (WS_ps hL.w p hn.1 (by omega))
    have p0 := (CW_p hx.2.1 p hn.1 hn.2).1.1
    have c0 : CH (inO x) (sI μ 266 x (ji 0)) μ := CH.sI (S := inO x) (CH.refl _ _) _ _ _ (Or.inl rfl)
    have hL0 := hL.mono c0.1
    have t3 := PS_0 (WS_ps hL0.w p hn.1 (by omega))
    have t0 := XL_0 hL0
    have g96 : gI (sI μ 266 x (ji 0)) 96 (pka (x + 1) p) = ji (A.2.1 (2666 + 120 * p)) := by rw [gI_sI_k _ _ _ _ _ _ (by omega)]; exact p0
    have o0 : XO (sI μ 266 x (ji 0)) x 0 A.2.2.2.2.2.2.2 := ⟨gI_sI_at _ _ _ _, fun i i0 i1 => by omega⟩
    have hw0 := hL.w
    have hC0 := hx.2.1
    by_cases h10 : 10 ≤ A.2.1 (2666 + 120 * p)
    · simp (disch := first | assumption | omega) only [XL_0, XL_1, XL_2, XL_3, XL_4, XL_5, XL_6, XL_7, XL_8, XL_9, XL_10, XL_11, XL_12, XL_13, XL_14, XL_15, XL_16, XL_17, XL_18, XL_19, XL_20, XL_21, XL_22, XL_23, XL_24, XL_25, XL_26, XL_27, XL_28, XL_29, XL_30, XL_31, XL_32, XL_33, XL_34, XL_35, XL_36, XL_37, XL_38, XL_39, XL_40, XL_41, XL_42, XL_43, XL_44, XL_45, XL_46, XL_47, WS_0, WS_1, WS_2, WS_3, WS_4, WS_5, WS_6, WS_7, WS_8, WS_9, WS_10, WS_11, WS_12, WS_13, WS_14, WS_15, WS_16, WS_17, WS_18, WS_19, WS_20, PS_0, PS_1, PS_2, PS_3, PS_4, PS_5, PS_6, ji_add, ji_sub, ji_mul, ji_neg, ji_lit0, ji_ofNat, ji_lt, ji_le, ji_eq, ji_nat, ji_in, qV_at, qI_at, qJ_at, qD_at, qA_at, qA_no, nb0, nb1, cat_r, cat_i, Option.some.injEq, exists_eq_left', true_and, and_true, if_true, if_false, ite_not, not_true_eq_false, not_false_eq_true, Sum.inr.injEq, exists_eq_right', true_or, or_true, and_self, Int.cast_ofNat_Int, reduceCtorEq, or_false, false_or, false_and, and_false, jb_zero, lt7_0, lt7_1, lt7_2, lt7_3, lt7_4, lt7_5, lt7_6, Nat.reduceAdd, Nat.reduceLeDiff, c_X8_write_1, c_X8_write_2, c_X8_write_3, c_X8_write_4, c_X8_write_5, c_X8_write_6, u_X8_write, c_X8_write_7, c_X8_write_8, c_X8_write_9, c_X8_write_10, c_X8_write_11, c_X8_write_12, q_reqPacket hX, hn, e_packetOf hw0 hC0 hB hn.1 hn.2, t0, t3, g96, ji_div, ↓reduceIte, ilt_t, ilt_f, ile_t, ile_f, ieq_t, ieq_f, jb_T, jb_F, jb_t, jb_f]
      refine e_putOut hL0 o0 (by omega) (by omega) (fun z z1 z2 => ?_)
      have hLz := hL0.mono z1.1
      have t3z := PS_0 (WS_ps hLz.w p hn.1 (by omega))
      have g96z : gI z 96 (pka (x + 1) p) = ji (A.2.1 (2666 + 120 * p)) := by rw [(z1.2 _ (by unfold inO pka; omega)).1]; exact g96
      simp (disch := first | assumption | omega) only [XL_0, XL_1, XL_2, XL_3, XL_4, XL_5, XL_6, XL_7, XL_8, XL_9, XL_10, XL_11, XL_12, XL_13, XL_14, XL_15, XL_16, XL_17, XL_18, XL_19, XL_20, XL_21, XL_22, XL_23, XL_24, XL_25, XL_26, XL_27, XL_28, XL_29, XL_30, XL_31, XL_32, XL_33, XL_34, XL_35, XL_36, XL_37, XL_38, XL_39, XL_40, XL_41, XL_42, XL_43, XL_44, XL_45, XL_46, XL_47, WS_0, WS_1, WS_2, WS_3, WS_4, WS_5, WS_6, WS_7, WS_8, WS_9, WS_10, WS_11, WS_12, WS_13, WS_14, WS_15, WS_16, WS_17, WS_18, WS_19, WS_20, PS_0, PS_1, PS_2, PS_3, PS_4, PS_5, PS_6, ji_add, ji_sub, ji_mul, ji_neg, ji_lit0, ji_ofNat, ji_lt, ji_le, ji_eq, ji_nat, ji_in, qV_at, qI_at, qJ_at, qD_at, qA_at, qA_no, nb0, nb1, cat_r, cat_i, Option.some.injEq, exists_eq_left', true_and, and_true, if_true, if_false, ite_not, not_true_eq_false, not_false_eq_true, Sum.inr.injEq, exists_eq_right', true_or, or_true, and_self, Int.cast_ofNat_Int, reduceCtorEq, or_false, false_or, false_and, and_false, jb_zero, lt7_0, lt7_1, lt7_2, lt7_3, lt7_4, lt7_5, lt7_6, Nat.reduceAdd, Nat.reduceLeDiff, c_X8_write_1, c_X8_write_2, c_X8_write_3, c_X8_write_4, c_X8_write_5, c_X8_write_6, c_X8_write_7, c_X8_write_8, c_X8_write_9, c_X8_write_10, c_X8_write_11, c_X8_write_12, t3z, g96z, ji_rem, ↓reduceIte, ilt_t, ilt_f, ile_t, ile_f, ieq_t, ieq_f, jb_T, jb_F, jb_t, jb_f]
      refine e_putOut hLz z2 (by omega) (by omega) (fun y y1 y2 => ?_)
      simp (disch := first | assumption | omega) only [XL_0, XL_1, XL_2, XL_3, XL_4, XL_5, XL_6, XL_7, XL_8, XL_9, XL_10, XL_11, XL_12, XL_13, XL_14, XL_15, XL_16, XL_17, XL_18, XL_19, XL_20, XL_21, XL_22, XL_23, XL_24, XL_25, XL_26, XL_27, XL_28, XL_29, XL_30, XL_31, XL_32, XL_33, XL_34, XL_35, XL_36, XL_37, XL_38, XL_39, XL_40, XL_41, XL_42, XL_43, XL_44, XL_45, XL_46, XL_47, WS_0, WS_1, WS_2, WS_3, WS_4, WS_5, WS_6, WS_7, WS_8, WS_9, WS_10, WS_11, WS_12, WS_13, WS_14, WS_15, WS_16, WS_17, WS_18, WS_19, WS_20, PS_0, PS_1, PS_2, PS_3, PS_4, PS_5, PS_6, ji_add, ji_sub, ji_mul, ji_neg, ji_lit0, ji_ofNat, ji_lt, ji_le, ji_eq, ji_nat, ji_in, qV_at, qI_at, qJ_at, qD_at, qA_at, qA_no, nb0, nb1, cat_r, cat_i, Option.some.injEq, exists_eq_left', true_and, and_true, if_true, if_false, ite_not, not_true_eq_false, not_false_eq_true, Sum.inr.injEq, exists_eq_right', true_or, or_true, and_self, Int.cast_ofNat_Int, reduceCtorEq, or_false, false_or, false_and, and_false, jb_zero, lt7_0, lt7_1, lt7_2, lt7_3, lt7_4, lt7_5, lt7_6, Nat.reduceAdd, Nat.reduceLeDiff, c_X8_write_1, c_X8_write_2, c_X8_write_3, c_X8_write_4, c_X8_write_5, c_X8_write_6, c_X8_write_7, c_X8_write_8, c_X8_write_9, c_X8_write_10, c_X8_write_11, c_X8_write_12, ↓reduceIte, ilt_t, ilt_f, ile_t, ile_f, ieq_t, ieq_f, jb_T, jb_F, jb_t, jb_f]
      refine q_writeLoop hx hi hs hn.1 hn.2 (y1.trans (z1.trans c0)) ?_ hP
      have e : wrB A.2.1 (2666 + 120 * p) = 0 + 1 + 1 := if_pos h10
      have e' : wrI A.2.2.2.2.2.2.2 A.2.1 (2666 + 120 * p) = zu (zu A.2.2.2.2.2.2.2 0 (48 + A.2.1 (2666 + 120 * p) / 10)) (0 + 1) (48 + A.2.1 (2666 + 120 * p) % 10) := if_pos h10
      rw [e, e']
      exact y2
    · simp (disch := first | assumption | omega) only [XL_0, XL_1, XL_2, XL_3, XL_4, XL_5, XL_6, XL_7, XL_8, XL_9, XL_10, XL_11, XL_12, XL_13, XL_14, XL_15, XL_16, XL_17, XL_18, XL_19, XL_20, XL_21, XL_22, XL_23, XL_24, XL_25, XL_26, XL_27, XL_28, XL_29, XL_30, XL_31, XL_32, XL_33, XL_34, XL_35, XL_36, XL_37, XL_38, XL_39, XL_40, XL_41, XL_42, XL_43, XL_44, XL_45, XL_46, XL_47, WS_0, WS_1, WS_2, WS_3, WS_4, WS_5, WS_6, WS_7, WS_8, WS_9, WS_10, WS_11, WS_12, WS_13, WS_14, WS_15, WS_16, WS_17, WS_18, WS_19, WS_20, PS_0, PS_1, PS_2, PS_3, PS_4, PS_5, PS_6, ji_add, ji_sub, ji_mul, ji_neg, ji_lit0, ji_ofNat, ji_lt, ji_le, ji_eq, ji_nat, ji_in, qV_at, qI_at, qJ_at, qD_at, qA_at, qA_no, nb0, nb1, cat_r, cat_i, Option.some.injEq, exists_eq_left', true_and, and_true, if_true, if_false, ite_not, not_true_eq_false, not_false_eq_true, Sum.inr.injEq, exists_eq_right', true_or, or_true, and_self, Int.cast_ofNat_Int, reduceCtorEq, or_false, false_or, false_and, and_false, jb_zero, lt7_0, lt7_1, lt7_2, lt7_3, lt7_4, lt7_5, lt7_6, Nat.reduceAdd, Nat.reduceLeDiff, c_X8_write_1, c_X8_write_2, c_X8_write_3, c_X8_write_4, c_X8_write_5, c_X8_write_6, u_X8_write, c_X8_write_7, c_X8_write_8, c_X8_write_9, c_X8_write_10, c_X8_write_11, c_X8_write_12, q_reqPacket hX, hn, e_packetOf hw0 hC0 hB hn.1 hn.2, t0, t3, g96, ji_rem, ↓reduceIte, ilt_t, ilt_f, ile_t, ile_f, ieq_t, ieq_f, jb_T, jb_F, jb_t, jb_f]
      refine e_putOut hL0 o0 (by omega) (by omega) (fun y y1 y2 => ?_)
      simp (disch := first | assumption | omega) only [XL_0, XL_1, XL_2, XL_3, XL_4, XL_5, XL_6, XL_7, XL_8, XL_9, XL_10, XL_11, XL_12, XL_13, XL_14, XL_15, XL_16, XL_17, XL_18, XL_19, XL_20, XL_21, XL_22, XL_23, XL_24, XL_25, XL_26, XL_27, XL_28, XL_29, XL_30, XL_31, XL_32, XL_33, XL_34, XL_35, XL_36, XL_37, XL_38, XL_39, XL_40, XL_41, XL_42, XL_43, XL_44, XL_45, XL_46, XL_47, WS_0, WS_1, WS_2, WS_3, WS_4, WS_5, WS_6, WS_7, WS_8, WS_9, WS_10, WS_11, WS_12, WS_13, WS_14, WS_15, WS_16, WS_17, WS_18, WS_19, WS_20, PS_0, PS_1, PS_2, PS_3, PS_4, PS_5, PS_6, ji_add, ji_sub, ji_mul, ji_neg, ji_lit0, ji_ofNat, ji_lt, ji_le, ji_eq, ji_nat, ji_in, qV_at, qI_at, qJ_at, qD_at, qA_at, qA_no, nb0, nb1, cat_r, cat_i, Option.some.injEq, exists_eq_left', true_and, and_true, if_true, if_false, ite_not, not_true_eq_false, not_false_eq_true, Sum.inr.injEq, exists_eq_right', true_or, or_true, and_self, Int.cast_ofNat_Int, reduceCtorEq, or_false, false_or, false_and, and_false, jb_zero, lt7_0, lt7_1, lt7_2, lt7_3, lt7_4, lt7_5, lt7_6, Nat.reduceAdd, Nat.reduceLeDiff, c_X8_write_1, c_X8_write_2, c_X8_write_3, c_X8_write_4, c_X8_write_5, c_X8_write_6, c_X8_write_7, c_X8_write_8, c_X8_write_9, c_X8_write_10, c_X8_write_11, c_X8_write_12, ↓reduceIte, ilt_t, ilt_f, ile_t, ile_f, ieq_t, ieq_f, jb_T, jb_F, jb_t, jb_f]
      refine q_writeLoop hx hi hs hn.1 hn.2 (y1.trans c0) ?_ hP
      have e : wrB A.2.1 (2666 + 120 * p) = 0 + 1 := if_neg h10
      have e' : wrI A.2.2.2.2.2.2.2 A.2.1 (2666 + 120 * p) = zu A.2.2.2.2.2.2.2 0 (48 + A.2.1 (2666 + 120 * p) % 10) := if_neg h10
      rw [e, e']
      exact y2
  · rw [if_neg hn] at hQ
    simp (disch := first | assumption | omega) only [XL_0, XL_1, XL_2, XL_3, XL_4, XL_5, XL_6, XL_7, XL_8, XL_9, XL_10, XL_11, XL_12, XL_13, XL_14, XL_15, XL_16, XL_17, XL_18, XL_19, XL_20, XL_21, XL_22, XL_23, XL_24, XL_25, XL_26, XL_27, XL_28, XL_29, XL_30, XL_31, XL_32, XL_33, XL_34, XL_35, XL_36, XL_37, XL_38, XL_39, XL_40, XL_41, XL_42, XL_43, XL_44, XL_45, XL_46, XL_47, WS_0, WS_1, WS_2, WS_3, WS_4, WS_5, WS_6, WS_7, WS_8, WS_9, WS_10, WS_11, WS_12, WS_13, WS_14, WS_15, WS_16, WS_17, WS_18, WS_19, WS_20, PS_0, PS_1, PS_2, PS_3, PS_4, PS_5, PS_6, ji_add, ji_sub, ji_mul, ji_neg, ji_lit0, ji_ofNat, ji_lt, ji_le, ji_eq, ji_nat, ji_in, qV_at, qI_at, qJ_at, qD_at, qA_at, qA_no, nb0, nb1, cat_r, cat_i, Option.some.injEq, exists_eq_left', true_and, and_true, if_true, if_false, ite_not, not_true_eq_false, not_false_eq_true, Sum.inr.injEq, exists_eq_right', true_or, or_true, and_self, Int.cast_ofNat_Int, reduceCtorEq, or_false, false_or, false_and, and_false, jb_zero, lt7_0, lt7_1, lt7_2, lt7_3, lt7_4, lt7_5, lt7_6, Nat.reduceAdd, Nat.reduceLeDiff, c_X8_write_1, c_X8_write_2, c_X8_write_3, c_X8_write_4, c_X8_write_5, c_X8_write_6, u_X8_write, c_X8_write_7, c_X8_write_8, c_X8_write_9, c_X8_write_10, c_X8_write_11, c_X8_write_12, q_reqPacket hX, hn, ↓reduceIte, ilt_t, ilt_f, ile_t, ile_f, ieq_t, ieq_f, jb_T, jb_F, jb_t, jb_f]
    exact CQ.stay hx hQ
end
