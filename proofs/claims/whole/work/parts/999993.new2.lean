/-! ===== what is made: the class's parts ===== -/
theorem ostage {N ν N' : XM} {ci t f x : Nat} {v : Option Nat} (o : O1 (nO N ci) N ci t) (n : NB t ν (nO N ci)) (s : S1 N' ν f x v) (hx : x < t) : (tg N' x = tg N x ∧ (∀ j, gI N' j x = gI N j x) ∧ ∀ j, j ≠ f → gR N' j x = gR N j x) ∧ (∀ a, a ≠ x → a < t → SQ N' N a) ∧ ∀ a, a ≠ x → SQ N' ν a := by
  have e := (n x hx).trans (o.2.2 x (by omega))
  exact ⟨⟨s.2.2.1.1.trans e.1.1, fun j => (s.2.2.1.2.1 j).trans (e.2.1 j), fun j hj => (s.2.2.1.2.2 j hj).trans (e.2.2.2.1 j)⟩, fun a a0 a1 => (s.2.2.2 a a0).trans ((n a a1).trans (o.2.2 a (by omega))), fun a a0 => s.2.2.2 a a0⟩
/-- steps back, none -/
def HZ (ν : XM) (H : Nat) : Prop := (tg ν H = some (.inl 1) ∧ gR ν 32 H = some (H + 1) ∧ tg ν (H + 1) = some (.inr 5) ∧ ln ν (H + 1) = 12 ∧ ∀ k, gI ν k H = 0) ∧ ∀ k, k < 12 → aR ν (H + 1) k = some (H + 2 + 83 * k) ∧ ZW ν (H + 2 + 83 * k)
def PZ (ν : XM) (P : Nat) : Prop := (tg ν P = some (.inl 4) ∧ gR ν 128 P = some (P + 1) ∧ gR ν 129 P = some (P + 2) ∧ gR ν 130 P = some (P + 3) ∧ gR ν 131 P = some (P + 4) ∧ gR ν 132 P = some (P + 5)) ∧ tg ν (P + 1) = some (.inr 1) ∧ ln ν (P + 1) = 72 ∧ tg ν (P + 2) = some (.inr 0) ∧ ln ν (P + 2) = 72 ∧ tg ν (P + 3) = some (.inr 0) ∧ ln ν (P + 3) = 36 ∧ tg ν (P + 4) = some (.inr 0) ∧ ln ν (P + 4) = 36 ∧ tg ν (P + 5) = some (.inr 0) ∧ ln ν (P + 5) = 36
theorem HZ.sq {ν μ : XM} {H : Nat} (h : HZ μ H) (e : ∀ a, H ≤ a → a < H + 998 → SQ ν μ a) : HZ ν H := by
  obtain ⟨⟨h1, h2, h3, h4, h5⟩, h6⟩ := h
  have e0 := e H (by omega) (by omega)
  have e1 := e (H + 1) (by omega) (by omega)
  exact ⟨⟨e0.1.1.trans h1, (e0.2.2.2.1 _).trans h2, e1.1.1.trans h3, e1.1.2.trans h4, fun k => (e0.2.1 k).trans (h5 k)⟩, fun k hk => ⟨(e1.2.2.2.2.2.2.2 k).trans (h6 k hk).1, (h6 k hk).2.sq (fun a a0 a1 => e a (by omega) (by omega))⟩⟩
theorem PZ.sq {ν μ : XM} {P : Nat} (h : PZ μ P) (e : ∀ a, P ≤ a → a < P + 6 → SQ ν μ a) : PZ ν P := by
  obtain ⟨⟨h1, h2, h3, h4, h5, h6⟩, i1, i2, i3, i4, i5, i6, i7, i8, i9, i10⟩ := h
  have e0 := e P (by omega) (by omega)
  have e1 := e (P + 1) (by omega) (by omega)
  have e2 := e (P + 2) (by omega) (by omega)
  have e3 := e (P + 3) (by omega) (by omega)
  have e4 := e (P + 4) (by omega) (by omega)
  have e5 := e (P + 5) (by omega) (by omega)
  exact ⟨⟨e0.1.1.trans h1, (e0.2.2.2.1 _).trans h2, (e0.2.2.2.1 _).trans h3, (e0.2.2.2.1 _).trans h4, (e0.2.2.2.1 _).trans h5, (e0.2.2.2.1 _).trans h6⟩, e1.1.1.trans i1, e1.1.2.trans i2, e2.1.1.trans i3, e2.1.2.trans i4, e3.1.1.trans i5, e3.1.2.trans i6, e4.1.1.trans i7, e4.1.2.trans i8, e5.1.1.trans i9, e5.1.2.trans i10⟩
section
variable {μ : XM} {Q : XQ} {X : XX}
theorem e_histsNew {H : Nat} (hK : ∀ ν, NB H ν μ → (fr ν = true ∧ tp ν = H + 998) → HZ ν H → Q none ν) : ∀ (d mf k : Nat) (ν : XM) (nc ns : Nat), k + d = 12 → d < mf → NB H ν μ → (fr ν = true ∧ tp ν = H + 2 + 83 * k) → (tg ν H = some (.inl 1) ∧ gR ν 32 H = some (H + 1) ∧ tg ν (H + 1) = some (.inr 5) ∧ ln ν (H + 1) = 12 ∧ ∀ k, gI ν k H = 0) → (∀ j, j < k → aR ν (H + 1) j = some (H + 2 + 83 * j) ∧ ZW ν (H + 2 + 83 * j)) → nc = 1 + 83 * k → ns = 12 + 5918 * k → ln_X1_init_15 Q X mf [some (.ref H), some (.int (ji k))] [] ν nc ns := by
  intro d
  induction d with
  | zero =>
    intro mf k ν nc ns hd hm hb hf hw hp e1 e2
    obtain ⟨mf, rfl⟩ : ∃ j, mf = j + 1 := ⟨mf - 1, by omega⟩
    obtain rfl : k = 12 := by omega
    have hw' := hw
    obtain ⟨h1, h2, h3, h4, h5⟩ := hw'
    rw [ul_X1_init_15]
    refine ⟨h1, H + 1, h2, ⟨5, Or.inl (by omega), h3⟩, ?_⟩
    rw [h4, if_pos (by rw [ji_ofNat]; exact Int32.le_refl _)]
    exact ⟨rfl, hK ν hb ⟨hf.1, by omega⟩ ⟨hw, hp⟩⟩
  | succ d ih =>
    intro mf k ν nc ns hd hm hb hf hw hp e1 e2
    obtain ⟨mf, rfl⟩ : ∃ j, mf = j + 1 := ⟨mf - 1, by omega⟩
    have hw' := hw
    obtain ⟨h1, h2, h3, h4, h5⟩ := hw'
    rw [ul_X1_init_15]
    refine ⟨h1, H + 1, h2, ⟨5, Or.inl (by omega), h3⟩, ?_⟩
    rw [h4, if_neg (by rw [ji_ofNat, ji_le (by omega) (by omega) (by omega) (by omega)]; omega)]
    refine ⟨h1, H + 1, h2, hf.1, by omega, by omega, rfl, by omega, by omega, ?_⟩
    have o := nobj (ci := 7) hf.1 hf.2
    rw [hf.2]
    refine e_worldNew (W := H + 2 + 83 * k) o.1.1 o.1.2 o.2.1.1 (fun ξ n1 n2 n3 => ?_)
    have sq : ∀ a, a < H + 2 + 83 * k → SQ ξ ν a := fun a ha => (n1 a ha).trans (o.2.2 a (by omega))
    have s0 := sq H (by omega)
    have s1 := sq (H + 1) (by omega)
    have w := nwr (μ := ξ) (a := H + 1) (i := k) (v := some (H + 2 + 83 * k))
    have w0 := w.2.2.2 H (by omega)
    show c_X1_init_1 (ji k) (H + 1) ν Q X mf H nc ns ξ
    rw [c_X1_init_1, hf.2, ji_nat (by omega) (by omega), Int.toNat_natCast, ji_add]
    refine ⟨by rw [ji_in (by omega) (by omega), s1.1.2, h4]; omega, Or.inl ⟨s1.1.1.trans h3, n3.1.1.1⟩, ?_⟩
    refine ih mf (k + 1) _ _ _ (by omega) (by omega) (fun a ha => (w.2.2.2 a (by omega)).trans ((sq a (by omega)).trans (hb a ha))) ⟨w.1.1.trans n2.1, w.1.2.trans (by omega)⟩ ⟨w0.1.1.trans (s0.1.1.trans h1), (w0.2.2.2.1 _).trans ((s0.2.2.2.1 _).trans h2), w.2.2.1.1.trans (s1.1.1.trans h3), w.2.2.1.2.1.trans (s1.1.2.trans h4), fun j => (w0.2.1 j).trans ((s0.2.1 j).trans (h5 j))⟩ (fun j hj => ?_) (by omega) (by omega)
    by_cases hjk : j = k
    · subst hjk
      exact ⟨w.2.1, n3.sq (fun a a0 a1 => w.2.2.2 a (by omega))⟩
    · exact ⟨(w.2.2.1.2.2 j hjk).trans ((s1.2.2.2.2.2.2.2 j).trans (hp j (by omega)).1), (hp j (by omega)).2.sq (fun a a0 a1 => (w.2.2.2 a (by omega)).trans (sq a (by omega)))⟩
theorem e_histNew {H : Nat} (hfr : fr μ = true) (ht : tp μ = H + 1) (hg : tg μ H = some (.inl 1)) (h0 : ∀ k, gI μ k H = 0) (hK : ∀ ν, NB H ν μ → (fr ν = true ∧ tp ν = H + 998) → HZ ν H → Q none ν) : s_X1_init μ [.ref H] Q X := by
  rw [u_X1_init, tn_c (n := 12) (a := 12) rfl (by omega)]
  have h1 := nrow (k := 5) (n := 12) (f := 32) (a := H) hfr ht (by omega)
  refine ⟨hfr, ng_c (by omega) (by omega), by omega, by omega, by omega, (nA_tg (by omega)).trans hg, ?_⟩
  generalize sR (nA μ 5 12) 32 H (some (tp μ)) = M1 at h1 ⊢
  rw [l_X1_init_15, xseal_eq]
  exact e_histsNew (μ := μ) hK 12 10000 0 M1 _ _ (by omega) (by omega) (fun a ha => h1.2.2.2 a (by omega) (by omega)) ⟨h1.1.1, h1.1.2⟩ ⟨h1.2.2.1.1.trans hg, h1.2.1.1, h1.2.1.2.1, h1.2.1.2.2.1, fun k => (h1.2.2.1.2.1 k).trans (h0 k)⟩ (fun j hj => by omega) (by omega) (by omega)
theorem e_pathsNew {P : Nat} (hfr : fr μ = true) (ht : tp μ = P + 1) (hg : tg μ P = some (.inl 4)) (hK : ∀ ν, NB P ν μ → (fr ν = true ∧ tp ν = P + 6) → PZ ν P → Q none ν) : s_X4_init μ [.ref P] Q X := by
  rw [u_X4_init, tn_c (n := 72) (a := 72) rfl (by omega), tn_c (n := 36) (a := 36) rfl (by omega)]
  have h1 := nrow (k := 1) (n := 72) (f := 128) (a := P) hfr ht (by omega)
  refine ⟨hfr, ng_c (by omega) (by omega), by omega, by omega, by omega, (nA_tg (by omega)).trans hg, ?_⟩
  generalize sR (nA μ 1 72) 128 P (some (tp μ)) = M1 at h1 ⊢
  have g1 := h1.2.2.1.1.trans hg
  have h2 := nrow (k := 0) (n := 72) (f := 129) (a := P) (t := P + 2) h1.1.1 h1.1.2 (by omega)
  refine ⟨h1.1.1, ng_c (by omega) (by omega), by omega, by omega, by omega, (nA_tg (by have t1 := h1.1.2; omega)).trans g1, ?_⟩
  generalize sR (nA M1 0 72) 129 P (some (tp M1)) = M2 at h2 ⊢
  have g2 := h2.2.2.1.1.trans g1
  have h3 := nrow (k := 0) (n := 36) (f := 130) (a := P) (t := P + 3) h2.1.1 h2.1.2 (by omega)
  refine ⟨h2.1.1, ng_c (by omega) (by omega), by omega, by omega, by omega, (nA_tg (by have t1 := h2.1.2; omega)).trans g2, ?_⟩
  intro M3
  have h3' : R1 M3 M2 130 P 0 36 (P + 3) := h3
  clear_value M3
  clear h3
  have g3 := h3'.2.2.1.1.trans g2
  have h4 := nrow (k := 0) (n := 36) (f := 131) (a := P) (t := P + 4) h3'.1.1 h3'.1.2 (by omega)
  refine ⟨h3'.1.1, ng_c (by omega) (by omega), by omega, by omega, by omega, (nA_tg (by have t1 := h3'.1.2; omega)).trans g3, ?_⟩
  generalize sR (nA M3 0 36) 131 P (some (tp M3)) = M4 at h4 ⊢
  have g4 := h4.2.2.1.1.trans g3
  have h5 := nrow (k := 0) (n := 36) (f := 132) (a := P) (t := P + 5) h4.1.1 h4.1.2 (by omega)
  refine ⟨h4.1.1, ng_c (by omega) (by omega), by omega, by omega, by omega, (nA_tg (by have t1 := h4.1.2; omega)).trans g4, ?_⟩
  generalize sR (nA M4 0 36) 132 P (some (tp M4)) = M5 at h5 ⊢
  have q5 := h5.2.2.2
  have q4 := h4.2.2.2
  have q3 := h3'.2.2.2
  have q2 := h2.2.2.2
  have q1 := h1.2.2.2
  have k5 := h5.2.2.1.2.2
  have k4 := h4.2.2.1.2.2
  have k3 := h3'.2.2.1.2.2
  have k2 := h2.2.2.1.2.2
  have p1 := (q5 (P + 1) (by omega) (by omega)).trans ((q4 (P + 1) (by omega) (by omega)).trans ((q3 (P + 1) (by omega) (by omega)).trans (q2 (P + 1) (by omega) (by omega))))
  have p2 := (q5 (P + 2) (by omega) (by omega)).trans ((q4 (P + 2) (by omega) (by omega)).trans (q3 (P + 2) (by omega) (by omega)))
  have p3 := (q5 (P + 3) (by omega) (by omega)).trans (q4 (P + 3) (by omega) (by omega))
  have p4 := q5 (P + 4) (by omega) (by omega)
  refine ⟨rfl, hK M5 (fun a ha => (q5 a (by omega) (by omega)).trans ((q4 a (by omega) (by omega)).trans ((q3 a (by omega) (by omega)).trans ((q2 a (by omega) (by omega)).trans (q1 a (by omega) (by omega)))))) h5.1 ⟨⟨h5.2.2.1.1.trans g4, (k5 128 (by omega)).trans ((k4 128 (by omega)).trans ((k3 128 (by omega)).trans ((k2 128 (by omega)).trans h1.2.1.1))), (k5 129 (by omega)).trans ((k4 129 (by omega)).trans ((k3 129 (by omega)).trans h2.2.1.1)), (k5 130 (by omega)).trans ((k4 130 (by omega)).trans h3'.2.1.1), (k5 131 (by omega)).trans h4.2.1.1, h5.2.1.1⟩, p1.1.1.trans h1.2.1.2.1, p1.1.2.trans h1.2.1.2.2.1, p2.1.1.trans h2.2.1.2.1, p2.1.2.trans h2.2.1.2.2.1, p3.1.1.trans h3'.2.1.2.1, p3.1.2.trans h3'.2.1.2.2.1, p4.1.1.trans h4.2.1.2.1, p4.1.2.trans h4.2.1.2.2.1, h5.2.1.2.1, h5.2.1.2.2.1⟩⟩
theorem e_scriptNew {P : Nat} (hfr : fr μ = true) (ht : tp μ = P + 1) (hg : tg μ P = some (.inl 5)) (hK : ∀ ν, NB P ν μ → (fr ν = true ∧ tp ν = P + 2) → (tg ν P = some (.inl 5) ∧ gR ν 160 P = some (P + 1) ∧ tg ν (P + 1) = some (.inr 0) ∧ ln ν (P + 1) = 160) → Q none ν) : s_X5_init μ [.ref P] Q X := by
  rw [u_X5_init, tn_c (n := 160) (a := 160) rfl (by omega)]
  have h1 := nrow (k := 0) (n := 160) (f := 160) (a := P) hfr ht (by omega)
  refine ⟨hfr, ng_c (by omega) (by omega), by omega, by omega, by omega, (nA_tg (by omega)).trans hg, ?_⟩
  generalize sR (nA μ 0 160) 160 P (some (tp μ)) = M1 at h1 ⊢
  exact ⟨rfl, hK M1 (fun a ha => h1.2.2.2 a (by omega) (by omega)) h1.1 ⟨h1.2.2.1.1.trans hg, h1.2.1.1, h1.2.1.2.1, h1.2.1.2.2.1⟩⟩
theorem e_textNew {P : Nat} (hfr : fr μ = true) (ht : tp μ = P + 1) (hg : tg μ P = some (.inl 6)) (h0 : ∀ k, gI μ k P = 0) (hK : ∀ ν, NB P ν μ → (fr ν = true ∧ tp ν = P + 2) → (tg ν P = some (.inl 6) ∧ gR ν 192 P = some (P + 1) ∧ tg ν (P + 1) = some (.inr 0) ∧ ln ν (P + 1) = 1000 ∧ gI ν 193 P = ji 0 ∧ gI ν 198 P = ji 0 ∧ gI ν 199 P = ji (-1)) → Q none ν) : s_X6_init μ [.ref P] Q X := by
  rw [u_X6_init, tn_c (n := 1000) (a := 1000) rfl (by omega)]
  have h1 := nrow (k := 0) (n := 1000) (f := 192) (a := P) hfr ht (by omega)
  refine ⟨hfr, ng_c (by omega) (by omega), by omega, by omega, by omega, (nA_tg (by omega)).trans hg, ?_⟩
  generalize sR (nA μ 0 1000) 192 P (some (tp μ)) = M1 at h1 ⊢
  have g1 := h1.2.2.1.1.trans hg
  have c1 : CH (fun a => a = P) (sI M1 199 P (ji (-1))) M1 := CH.sI (S := fun a => a = P) (CH.refl _ M1) _ _ _ rfl
  have k0 : ∀ j, gI M1 j P = 0 := fun j => (h1.2.2.1.2.1 j).trans (h0 j)
  refine ⟨g1, rfl, hK _ (fun a ha => (SQ.ch c1 (by omega)).trans (h1.2.2.2 a (by omega) (by omega))) ⟨h1.1.1, h1.1.2⟩ ⟨g1, h1.2.1.1, h1.2.1.2.1, h1.2.1.2.2.1, (gI_sI_k _ _ _ _ _ _ (by omega)).trans (k0 193), (gI_sI_k _ _ _ _ _ _ (by omega)).trans (k0 198), gI_sI_at _ _ _ _⟩⟩
end
