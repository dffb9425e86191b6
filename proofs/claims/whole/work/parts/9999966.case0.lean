/-! ===== the law's cases: what they share ===== -/
theorem i32 (v : Int32) : ∃ p : Int, v = ji p ∧ -2147483648 ≤ p ∧ p < 2147483648 := ⟨v.toInt, ji_of v, by have := Int32.le_toInt v; omega, by have := Int32.toInt_lt v; omega⟩
theorem CH_wL {S : Nat → Prop} {a b : XM} (h : CH S b a) {o i : Nat} {v : Int64} (ho : S o) : CH S (wL b o i v) a := ⟨h.1, fun c hc => by
  obtain ⟨g1, g2, g3, g4, g5⟩ := h.2 c hc
  exact ⟨g1, g2, g3, fun j => (aL_wL_a _ _ _ _ _ _ (fun e => hc (by rw [e]; exact ho))).trans (g4 j), g5⟩⟩
theorem CH_wD {S : Nat → Prop} {a b : XM} (h : CH S b a) {o i : Nat} {v : UInt64} (ho : S o) : CH S (wD b o i v) a := ⟨h.1, fun c hc => by
  obtain ⟨g1, g2, g3, g4, g5⟩ := h.2 c hc
  exact ⟨g1, g2, g3, g4, fun j => (aD_wD_a _ _ _ _ _ _ (fun e => hc (by rw [e]; exact ho))).trans (g5 j)⟩⟩
theorem vin0 {n : Nat} (h : n = 1) : vp_in (ji 0) n := by
  rw [h, ji_in (by omega) (by omega)]
  omega
theorem ji00 {c : Int} (h : c = 0 ∨ c = 1 ∨ c = 2) (e : ji c = 0) : c = 0 := by
  rcases h with h | h | h
  · exact h
  · rw [h] at e; exact absurd e (by decide)
  · rw [h] at e; exact absurd e (by decide)
theorem lgc (a : Int64) : lg_cmp a a = 0 := by
  unfold lg_cmp
  rw [if_neg Int64.lt_irrefl, if_pos rfl]
section
variable {μ μ' : XM} {x o : Nat} {Q : XQ} {X : XX} {A : AS} {r : AR} {e1 e2 : String}
theorem oc_2 {c : Int × Int} (rg : c.1 = 0 ∨ c.1 = 1 ∨ c.1 = 2) (h0 : c.1 = 0 → Q (some (.int (ji c.2))) μ) (h1 : c.1 = 1 → X e1 (uF μ)) (h2 : c.1 = 2 → X e2 (uF μ)) : ocC Q X μ e1 e2 c := by
  unfold ocC
  by_cases k0 : c.1 = 0
  · rw [if_pos k0]; exact h0 k0
  rw [if_neg k0]
  by_cases k1 : c.1 = 1
  · rw [if_pos k1]; exact h1 k1
  rw [if_neg k1]
  exact h2 (by omega)
theorem oc_1 {c : Int × Int} (rg : c.1 = 0 ∨ c.1 = 1) (h0 : c.1 = 0 → Q (some (.int (ji c.2))) μ) (h1 : c.1 = 1 → X e1 (uF μ)) : ocC Q X μ e1 e2 c := oc_2 (by omega) h0 h1 (fun h => by omega)
theorem oc_if {p : Prop} [Decidable p] {E : Int32} : (if p then Q (some (.int E)) μ else X e1 (uF μ)) = ocC Q X μ e1 e2 (oc1 p E.toInt) := by
  unfold ocC oc1
  by_cases h : p
  · rw [if_pos h, if_pos h, if_pos rfl, ← ji_of]
  · rw [if_neg h, if_neg h, if_neg (by decide), if_pos rfl]
theorem rg_oc1 {p : Prop} [Decidable p] {v : Int} : (oc1 p v).1 = 0 ∨ (oc1 p v).1 = 1 := by
  unfold oc1
  split
  · exact Or.inl rfl
  · exact Or.inr rfl
theorem rg_oc2 {p q : Prop} [Decidable p] [Decidable q] {v : Int} : (oc2 p q v).1 = 0 ∨ (oc2 p q v).1 = 1 ∨ (oc2 p q v).1 = 2 := by
  unfold oc2
  split
  · split
    · exact Or.inl rfl
    · exact Or.inr (Or.inr rfl)
  · exact Or.inr (Or.inl rfl)
theorem b_oc1 {p : Prop} [Decidable p] {c : Prop} [Decidable c] : (oc1 p (if c then 1 else 0)).2 = 0 ∨ (oc1 p (if c then 1 else 0)).2 = 1 := by
  unfold oc1
  by_cases h : p
  · rw [if_pos h]
    by_cases k : c
    · rw [if_pos k]; exact Or.inr rfl
    · rw [if_neg k]; exact Or.inl rfl
  · rw [if_neg h]; exact Or.inl rfl
theorem rg_op1 {p : Prop} [Decidable p] (h : r.2.1 = 0) : (op1 p A r).2.1 = 0 ∨ (op1 p A r).2.1 = 1 := by
  unfold op1
  split
  · exact Or.inl h
  · exact Or.inr rfl
theorem rg_op2 {p q : Prop} [Decidable p] [Decidable q] (h : r.2.1 = 0) : (op2 p q A r).2.1 = 0 ∨ (op2 p q A r).2.1 = 1 ∨ (op2 p q A r).2.1 = 2 := by
  unfold op2
  split
  · split
    · exact Or.inl h
    · exact Or.inr (Or.inr rfl)
  · exact Or.inr (Or.inl rfl)
theorem rg_12 {c : Int} (h : c = 0 ∨ c = 1) : c = 0 ∨ c = 1 ∨ c = 2 := by omega
theorem inv_op1 {p : Prop} [Decidable p] (hi : INV A) (h : p → INV r.1) : INV (op1 p A r).1 := by
  unfold op1
  by_cases k : p
  · rw [if_pos k]; exact h k
  · rw [if_neg k]; exact hi
theorem inv_op2 {p q : Prop} [Decidable p] [Decidable q] (hi : INV A) (h : p → q → INV r.1) : INV (op2 p q A r).1 := by
  unfold op2
  by_cases k : p
  · rw [if_pos k]
    by_cases k2 : q
    · rw [if_pos k2]; exact h k k2
    · rw [if_neg k2]; exact hi
  · rw [if_neg k]; exact hi
theorem z_send {a b l : Int} : (oSend A a b l).2.1 = 0 := by
  unfold oSend psh
  repeat' split
  all_goals rfl
theorem z_tick {t : Int} : (oTick A t).2.1 = 0 := by
  unfold oTick psh
  repeat' split
  all_goals rfl
theorem z_turn {n y d : Int} : (oTurn A n y d).2.1 = 0 := by
  unfold oTurn psh
  repeat' split
  all_goals rfl
theorem apv_in {l : Int} {T : Int → Int} {v0 v1 v2 v3 v4 : Int32} (h : ∀ i, 0 ≤ i → i < l → 0 ≤ T i ∧ T i < 256) : ∀ i, 0 ≤ i → i < l + 20 → 0 ≤ apv T l v0 v1 v2 v3 v4 i ∧ apv T l v0 v1 v2 v3 v4 i < 256 := fun i i0 i1 => by
  have h1 := apw_in (v := v0) (B := 0) h
  have h2 := apw_in (v := v1) (B := 0) h1
  have h3 := apw_in (v := v2) (B := 0) (l := l + 8) (fun i i0 i1 => h2 i i0 (by omega))
  have h4 := apw_in (v := v3) (B := 0) (l := l + 12) (fun i i0 i1 => h3 i i0 (by omega))
  exact apw_in (v := v4) (B := 0) (l := l + 16) (fun i i0 i1 => h4 i i0 (by omega)) i i0 (by omega)
theorem inv_app (hi : INV A) {v0 v1 v2 v3 v4 : Int32} : INV (oApp A v0 v1 v2 v3 v4).1 := by
  unfold oApp
  by_cases h : 1000 < A.2.2.2.2.1.1 + 20
  · rw [if_pos h]; exact hi
  · rw [if_neg h]
    obtain ⟨i1, i2, i3, ⟨i4, i5, i6⟩, i7⟩ := hi
    exact ⟨i1, i2, i3, ⟨by simp only; omega, by simp only; omega, fun i i0 i1 => apv_in i6 i i0 (by simp only at i1; omega)⟩, i7⟩
theorem inv_trunc (hi : INV A) {l : Int} : INV (oTrunc A l).1 := by
  unfold oTrunc
  by_cases h : 0 ≤ l ∧ l ≤ A.2.2.2.2.1.1
  · rw [if_pos h]
    obtain ⟨i1, i2, i3, ⟨i4, i5, i6⟩, i7⟩ := hi
    exact ⟨i1, i2, i3, ⟨h.1, by simp only; omega, fun i i0 i1 => i6 i i0 (by simp only at i1; omega)⟩, i7⟩
  · rw [if_neg h]; exact hi
/-- what a wrapper with a row for an answer owes -/
def WQ (μ : XM) (x o : Nat) (Q : XQ) (r : AR) : Prop := ∀ ν, CH (fun a => inX x a ∨ a = o) ν μ → XS ν x r.1 → (ji r.2.1 = 0 → aL ν o 0 = Int32.toInt64 (ji r.2.2)) → Q (some (.int (ji r.2.1))) ν
theorem WQ.ok (hQ : WQ μ x o Q r) (hi : INV r.1) (c : CH (inX x) μ' μ) (h : XS μ' x r.1) (ho : x + 1345 ≤ o) (h0 : r.2.1 = 0) : Q (some (.int (ji 0))) (wL μ' o (Int32.toNatClampNeg (ji 0)) (Int32.toInt64 (ji r.2.2))) := by
  have c0 : CH (fun a => a = o) (wL μ' o (Int32.toNatClampNeg (ji 0)) (Int32.toInt64 (ji r.2.2))) μ' := CH_wL (CH.refl _ _) rfl
  have := hQ _ (CH_wL (c.mono (fun a ha => Or.inl ha)) (Or.inr rfl)) (h.frame hi c0 (fun a a0 a1 a2 => by omega)) (fun _ => aL_wL_at _ _ _ _)
  rw [h0] at this
  exact this
theorem WQ.ex (hQ : WQ μ x o Q r) (hi : INV r.1) (c : CH (inX x) μ' μ) (h : XS μ' x r.1) {k : Int} (hk : r.2.1 = k) (k0 : ¬ ji k = 0) : Q (some (.int (ji k))) (uF μ') := by
  have c0 : CH (fun _ => False) (uF μ') μ' := CH.uF (CH.refl _ _)
  have := hQ (uF μ') (CH.uF (c.mono (fun a ha => Or.inl ha))) (h.frame hi c0 (fun a a0 a1 a2 => a2.elim)) (fun e => absurd (hk ▸ e) k0)
  rw [hk] at this
  exact this
theorem WQ.okb (hQ : WQ μ x o Q r) (hi : INV r.1) (c : CH (inX x) μ' μ) (h : XS μ' x r.1) (ho : x + 1345 ≤ o) (h0 : r.2.1 = 0) (to : tg μ' o = some (.inr 3)) (lo : ln μ' o = 1) (hb : r.2.2 = 0 ∨ r.2.2 = 1) : if ji r.2.2 = 0 then (tg μ' o = some (.inr 3) ∧ vp_in (ji 0) (ln μ' o) ∧ Q (some (.int (ji 0))) (wL μ' o (Int32.toNatClampNeg (ji 0)) (jl 0))) else (tg μ' o = some (.inr 3) ∧ vp_in (ji 0) (ln μ' o) ∧ Q (some (.int (ji 0))) (wL μ' o (Int32.toNatClampNeg (ji 0)) (jl 1))) := by
  have g := hQ.ok hi c h ho h0
  rcases hb with hb | hb
  · rw [hb] at g ⊢
    rw [if_pos (by decide)]
    exact ⟨to, vin0 lo, g⟩
  · rw [hb] at g ⊢
    rw [if_neg (by decide)]
    exact ⟨to, vin0 lo, g⟩
/-- what the law holds on to -/
def LV (μ : XM) (x m o d b : Nat) (A : AS) : Prop := INV A ∧ (SC μ x ∧ XS μ x A ∧ MS μ m A) ∧ (tg μ o = some (.inr 3) ∧ ln μ o = 1) ∧ (tg μ d = some (.inr 4) ∧ ln μ d = 1) ∧ tg μ b = some (.inr 9) ∧ b < x ∧ x + 1345 ≤ m ∧ m + 13 ≤ o ∧ o < d
def LKo (F : XFT) (x m o d b : Nat) (x5 : Int32) (μ : XM) (nc ns : Nat) : Prop := ∀ ν A', LV ν x m o d b A' → ((∀ i, aI ν b i = aI μ b i) ∧ ln ν b = ln μ b) → ∀ nc' ns', nc' ≤ nc + 3 → ns' ≤ ns + 18 → F [some (.ref b), some (.ref x), some (.ref m), some (.ref o), some (.ref d), some (.int (x5 + ji 6)), none, none, none] [] ν nc' ns'
end
section
variable {μ μ1 μ2 : XM} {x m o d b : Nat} {A A' : AS} {C1 C2 : Nat → Prop}
theorem LV.mid (hV : LV μ x m o d b A) (c1 : CH C1 μ1 μ) (h1 : ∀ a, C1 a → (x ≤ a ∧ a < x + 1345) ∨ a = o ∨ a = d) : MS μ1 m A ∧ tg μ1 b = some (.inr 9) ∧ ln μ1 b = ln μ b ∧ ∀ i, aI μ1 b i = aI μ b i := by
  obtain ⟨hi, ⟨hC, hx, hM⟩, ⟨to, lo⟩, ⟨td, ld⟩, tb, hb, hxm, hmo, hod⟩ := hV
  refine ⟨hM.frame c1 (fun a a0 a1 h => ?_), ?_, ?_, (c1.2 b (fun h => ?_)).2.2.1⟩
  · have := h1 a h; omega
  · rw [c1.1.1]; exact tb
  · rw [c1.1.2.1]
  · have := h1 b h; omega
theorem LV.fin (hV : LV μ x m o d b A) (c1 : CH C1 μ1 μ) (h1 : ∀ a, C1 a → (x ≤ a ∧ a < x + 1345) ∨ a = o ∨ a = d) (x1 : XS μ1 x A') (hi' : INV A') (c2 : CH C2 μ2 μ1) (h2 : ∀ a, C2 a → m ≤ a ∧ a < m + 13) (m2 : MS μ2 m A') : LV μ2 x m o d b A' ∧ ((∀ i, aI μ2 b i = aI μ b i) ∧ ln μ2 b = ln μ b) ∧ (∀ i, aL μ2 o i = aL μ1 o i) ∧ ∀ i, aD μ2 d i = aD μ1 d i := by
  obtain ⟨hi, ⟨hC, hx, hM⟩, ⟨to, lo⟩, ⟨td, ld⟩, tb, hb, hxm, hmo, hod⟩ := hV
  have t1 : tg μ1 = tg μ := c1.1.1
  have t2 : tg μ2 = tg μ1 := c2.1.1
  have l1 : ln μ1 = ln μ := c1.1.2.1
  have l2 : ln μ2 = ln μ1 := c2.1.2.1
  have nb1 : ¬ C1 b := fun h => by have := h1 b h; omega
  have nb2 : ¬ C2 b := fun h => by have := h2 b h; omega
  have no2 : ¬ C2 o := fun h => by have := h2 o h; omega
  have nd2 : ¬ C2 d := fun h => by have := h2 d h; omega
  refine ⟨⟨hi', ⟨(hC.frame c1 (fun a ha h => ?_)).frame c2 (fun a ha h => ?_), x1.frame hi' c2 (fun a a0 a1 h => ?_), m2⟩, ⟨?_, ?_⟩, ⟨?_, ?_⟩, ?_, hb, hxm, hmo, hod⟩, ⟨fun i => ((c2.2 b nb2).2.2.1 i).trans ((c1.2 b nb1).2.2.1 i), ?_⟩, (c2.2 o no2).2.2.2.1, (c2.2 d nd2).2.2.2.2⟩
  · have := h1 a h; omega
  · have := h2 a h; omega
  · have := h2 a h; omega
  · rw [t2, t1]; exact to
  · rw [l2, l1]; exact lo
  · rw [t2, t1]; exact td
  · rw [l2, l1]; exact ld
  · rw [t2, t1]; exact tb
  · rw [l2, l1]
theorem C_X : ∀ a, inX x a → (x ≤ a ∧ a < x + 1345) ∨ a = o ∨ a = d := fun a h => Or.inl ⟨h.1, h.2.1⟩
theorem C_X' : ∀ a, inW' x a → (x ≤ a ∧ a < x + 1345) ∨ a = o ∨ a = d := fun a h => Or.inl h
theorem C_W : ∀ a, (inX x a ∨ a = o) → (x ≤ a ∧ a < x + 1345) ∨ a = o ∨ a = d := fun a h => h.elim (fun h => Or.inl ⟨h.1, h.2.1⟩) (fun h => Or.inr (Or.inl h))
theorem C_D : ∀ a, a = d → (x ≤ a ∧ a < x + 1345) ∨ a = o ∨ a = d := fun a h => Or.inr (Or.inr h)
theorem C_0 : ∀ a, False → (x ≤ a ∧ a < x + 1345) ∨ a = o ∨ a = d := fun a h => h.elim
theorem C_M : ∀ a, inM m a → m ≤ a ∧ a < m + 13 := fun a h => ⟨h.1, by have := h.2; omega⟩
theorem C_M' : ∀ a, inM' m a → m ≤ a ∧ a < m + 13 := fun a h => h
theorem fin_d {P N : Prop} {a b : Int32} (h : a = b) (hP : P) : if a = b then P else N := by rw [if_pos h]; exact hP
theorem fin_w {P N1 N2 : Prop} {c : Int} {v : Int32} (hP : P) (ho : tg μ o = some (.inr 3)) (hl : ln μ o = 1) (hv : ji c = 0 → aL μ o 0 = Int32.toInt64 v) : (if ji c = ji c then (if ji c = 0 then (tg μ o = some (.inr 3) ∧ vp_in (ji 0) (ln μ o) ∧ (if (lg_cmp (aL μ o (Int32.toNatClampNeg (ji 0))) (Int32.toInt64 v)) = 0 then P else N1)) else P) else N2) := by
  rw [if_pos rfl]
  by_cases h : ji c = 0
  · rw [if_pos h, show Int32.toNatClampNeg (ji 0) = 0 from rfl, hv h, lgc, if_pos rfl]
    exact ⟨ho, vin0 hl, hP⟩
  · rw [if_neg h]; exact hP
theorem fin_b {P N1 N2 N3 : Prop} {c : Int} {v : Int} (hP : P) (ho : tg μ o = some (.inr 3)) (hl : ln μ o = 1) (hv : ji c = 0 → aL μ o 0 = Int32.toInt64 (ji v) ∧ (v = 0 ∨ v = 1)) : (if ji c = ji c then (if ji c = 0 then (tg μ o = some (.inr 3) ∧ vp_in (ji 0) (ln μ o) ∧ (if ji v = 0 then (if (lg_cmp (aL μ o (Int32.toNatClampNeg (ji 0))) (jl 0)) = 0 then P else N1) else (if (lg_cmp (aL μ o (Int32.toNatClampNeg (ji 0))) (jl 1)) = 0 then P else N3))) else P) else N2) := by
  rw [if_pos rfl]
  by_cases h : ji c = 0
  · rw [if_pos h, show Int32.toNatClampNeg (ji 0) = 0 from rfl, (hv h).1]
    refine ⟨ho, vin0 hl, ?_⟩
    rcases (hv h).2 with e | e
    · rw [e, if_pos (by decide), show Int32.toInt64 (ji 0) = jl 0 from by decide, lgc, if_pos rfl]; exact hP
    · rw [e, if_neg (by decide), show Int32.toInt64 (ji 1) = jl 1 from by decide, lgc, if_pos rfl]; exact hP
  · rw [if_neg h]; exact hP
theorem fin_m {P N1 N2 N3 : Prop} {c : Int} {w : UInt64} (hP : P) (ho : tg μ d = some (.inr 4)) (hl : ln μ d = 1) (hv : ji c = 0 → aD μ d 0 = w) : (if ji c = ji c then (if ji c = 0 then (tg μ d = some (.inr 4) ∧ vp_in (ji 0) (ln μ d) ∧ (if (Op.cmpValue (FP.dcmp (aD μ d (Int32.toNatClampNeg (ji 0))) w) .l) = 0 then P else (tg μ d = some (.inr 4) ∧ vp_in (ji 0) (ln μ d) ∧ (tg μ d = some (.inr 4) ∧ vp_in (ji 0) (ln μ d) ∧ (if (Op.cmpValue (FP.dcmp (aD μ d (Int32.toNatClampNeg (ji 0))) (aD μ d (Int32.toNatClampNeg (ji 0)))) .l) = 0 then N1 else (if (Op.cmpValue (FP.dcmp w w) .l) = 0 then N3 else P)))))) else P) else N2) := by
  rw [if_pos rfl]
  by_cases h : ji c = 0
  · rw [if_pos h, show Int32.toNatClampNeg (ji 0) = 0 from rfl, hv h]
    refine ⟨ho, vin0 hl, ?_⟩
    by_cases e : (Op.cmpValue (FP.dcmp w w) .l) = 0
    · rw [if_pos e]; exact hP
    · rw [if_neg e, if_neg e, if_neg e]
      exact ⟨ho, vin0 hl, ho, vin0 hl, hP⟩
  · rw [if_neg h]; exact hP
end
