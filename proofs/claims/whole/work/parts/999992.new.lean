/-! ===== what is made: cells, rows, a world ===== -/
def SQ (ν μ : XM) (a : Nat) : Prop := (tg ν a = tg μ a ∧ ln ν a = ln μ a) ∧ (∀ k, gI ν k a = gI μ k a) ∧ (∀ k, gL ν k a = gL μ k a) ∧ (∀ k, gR ν k a = gR μ k a) ∧ (∀ i, aI ν a i = aI μ a i) ∧ (∀ i, aL ν a i = aL μ a i) ∧ (∀ i, aD ν a i = aD μ a i) ∧ ∀ i, aR ν a i = aR μ a i
theorem SQ.refl (μ : XM) (a : Nat) : SQ μ μ a := ⟨⟨rfl, rfl⟩, fun _ => rfl, fun _ => rfl, fun _ => rfl, fun _ => rfl, fun _ => rfl, fun _ => rfl, fun _ => rfl⟩
theorem SQ.trans {ξ ν μ : XM} {a : Nat} (h : SQ ξ ν a) (g : SQ ν μ a) : SQ ξ μ a := by
  obtain ⟨⟨h1, h2⟩, h3, h4, h5, h6, h7, h8, h9⟩ := h
  obtain ⟨⟨g1, g2⟩, g3, g4, g5, g6, g7, g8, g9⟩ := g
  exact ⟨⟨h1.trans g1, h2.trans g2⟩, fun k => (h3 k).trans (g3 k), fun k => (h4 k).trans (g4 k), fun k => (h5 k).trans (g5 k), fun k => (h6 k).trans (g6 k), fun k => (h7 k).trans (g7 k), fun k => (h8 k).trans (g8 k), fun k => (h9 k).trans (g9 k)⟩
theorem SQ.ch {ν μ : XM} {C : Nat → Prop} {a : Nat} (h : CH C ν μ) (ha : ¬ C a) : SQ ν μ a := by
  obtain ⟨⟨s1, s2, s3, s4⟩, h2⟩ := h
  obtain ⟨g1, g2, g3, g4, g5⟩ := h2 a ha
  exact ⟨⟨by rw [s1], by rw [s2]⟩, g1, g2, fun k => by rw [s3], g3, g4, g5, fun i => by rw [s4]⟩
def NB (b : Nat) (ν μ : XM) : Prop := ∀ a, a < b → SQ ν μ a
theorem NB.trans {ξ ν μ : XM} {b : Nat} (h : NB b ξ ν) (g : NB b ν μ) : NB b ξ μ := fun a ha => (h a ha).trans (g a ha)
theorem NB.mono {ν μ : XM} {b c : Nat} (h : NB b ν μ) (hb : c ≤ b) : NB c ν μ := fun a ha => h a (by omega)
/-- a row is made for a field -/
def R1 (ν μ : XM) (f a k n t : Nat) : Prop := (fr ν = true ∧ tp ν = t + 1) ∧ (gR ν f a = some t ∧ tg ν t = some (.inr k) ∧ ln ν t = n ∧ (∀ i, aI ν t i = 0) ∧ ∀ i, aR ν t i = none) ∧ (tg ν a = tg μ a ∧ (∀ j, gI ν j a = gI μ j a) ∧ ∀ j, j ≠ f → gR ν j a = gR μ j a) ∧ ∀ b, b ≠ t → b ≠ a → SQ ν μ b
theorem nrow {μ : XM} {f a k n t : Nat} (hfr : fr μ = true) (ht : tp μ = t) (ha : a < t) : R1 (sR (nA μ k n) f a (some (tp μ))) μ f a k n t := by
  subst ht
  exact ⟨⟨hfr, rfl⟩, ⟨gR_sR_at _ _ _ _, if_pos rfl, if_pos rfl, fun i => if_pos rfl, fun i => if_pos rfl⟩, ⟨if_neg (by omega), fun j => rfl, fun j hj => gR_sR_k _ _ _ _ _ _ hj⟩, fun b b1 b2 => ⟨⟨if_neg b1, if_neg b1⟩, fun k => rfl, fun k => rfl, fun k => gR_sR_a _ _ _ _ _ _ b2, fun i => if_neg b1, fun i => if_neg b1, fun i => if_neg b1, fun i => if_neg b1⟩⟩
theorem nA_tg {μ : XM} {k n a : Nat} (h : a ≠ tp μ) : tg (nA μ k n) a = tg μ a := if_neg h
/-- an object is made -/
def O1 (ν μ : XM) (ci t : Nat) : Prop := (fr ν = true ∧ tp ν = t + 1) ∧ (tg ν t = some (.inl ci) ∧ ∀ k, gI ν k t = 0) ∧ ∀ b, b ≠ t → SQ ν μ b
theorem nobj {μ : XM} {ci t : Nat} (hfr : fr μ = true) (ht : tp μ = t) : O1 (nO μ ci) μ ci t := by
  subst ht
  exact ⟨⟨hfr, rfl⟩, ⟨if_pos rfl, fun k => if_pos rfl⟩, fun b hb => ⟨⟨if_neg hb, rfl⟩, fun k => if_neg hb, fun k => if_neg hb, fun k => if_neg hb, fun i => rfl, fun i => rfl, fun i => rfl, fun i => rfl⟩⟩
/-- a field is set -/
def S1 (ν μ : XM) (f a : Nat) (v : Option Nat) : Prop := (fr ν = fr μ ∧ tp ν = tp μ) ∧ gR ν f a = v ∧ (tg ν a = tg μ a ∧ (∀ j, gI ν j a = gI μ j a) ∧ ∀ j, j ≠ f → gR ν j a = gR μ j a) ∧ ∀ b, b ≠ a → SQ ν μ b
theorem nset {μ : XM} {f a : Nat} {v : Option Nat} : S1 (sR μ f a v) μ f a v := ⟨⟨rfl, rfl⟩, gR_sR_at _ _ _ _, ⟨rfl, fun _ => rfl, fun j hj => gR_sR_k _ _ _ _ _ _ hj⟩, fun b hb => ⟨⟨rfl, rfl⟩, fun _ => rfl, fun _ => rfl, fun k => gR_sR_a _ _ _ _ _ _ hb, fun _ => rfl, fun _ => rfl, fun _ => rfl, fun _ => rfl⟩⟩
theorem nwr {μ : XM} {a i : Nat} {v : Option Nat} : (fr (wR μ a i v) = fr μ ∧ tp (wR μ a i v) = tp μ) ∧ aR (wR μ a i v) a i = v ∧ (tg (wR μ a i v) a = tg μ a ∧ ln (wR μ a i v) a = ln μ a ∧ ∀ j, j ≠ i → aR (wR μ a i v) a j = aR μ a j) ∧ ∀ b, b ≠ a → SQ (wR μ a i v) μ b := ⟨⟨rfl, rfl⟩, aR_wR_at _ _ _ _, ⟨rfl, rfl, fun j hj => aR_wR_i _ _ _ _ _ _ hj⟩, fun b hb => ⟨⟨rfl, rfl⟩, fun _ => rfl, fun _ => rfl, fun _ => rfl, fun _ => rfl, fun _ => rfl, fun _ => rfl, fun i => aR_wR_a _ _ _ _ _ _ hb⟩⟩
theorem tn_c {n : Nat} {a : Int} (h : a = (n : Int)) (hn : n < 2147483648) : Int32.toNatClampNeg (ji a) = n := by
  subst h
  rw [ji_nat (by omega) (by omega), Int.toNat_natCast]
theorem ng_c {a : Int} (h0 : 0 ≤ a) (h1 : a < 2147483648) : ¬ ji a < 0 := by
  rw [ji_lit0, ji_lt (by omega) h1 (by omega) (by omega)]
  omega
def PSb (ν : XM) (P : Nat) : Prop := PS ν P
theorem PS.sq {ν μ : XM} {P : Nat} (h : PS μ P) (e : ∀ a, P ≤ a → a < P + 3 → SQ ν μ a) : PS ν P := by
  obtain ⟨h1, h2, h3, h4, h5, h6, h7⟩ := h
  have e0 := e P (by omega) (by omega)
  have e1 := e (P + 1) (by omega) (by omega)
  have e2 := e (P + 2) (by omega) (by omega)
  exact ⟨e0.1.1.trans h1, (e0.2.2.2.1 106).trans h2, (e0.2.2.2.1 107).trans h3, e1.1.1.trans h4, e1.1.2.trans h5, e2.1.1.trans h6, e2.1.2.trans h7⟩
/-- a world without its packets -/
def WB (μ : XM) (W : Nat) : Prop :=
  (tg μ W = some (.inl 7) ∧ gR μ 224 W = some (W + 1) ∧ gR μ 225 W = some (W + 5) ∧ gR μ 226 W = some (W + 6) ∧ gR μ 227 W = some (W + 7) ∧ tg μ (W + 1) = some (.inl 0) ∧ gR μ 3 (W + 1) = some (W + 2) ∧ gR μ 4 (W + 1) = some (W + 3) ∧ gR μ 5 (W + 1) = some (W + 4)) ∧
  (tg μ (W + 2) = some (.inr 0) ∧ ln μ (W + 2) = 36 ∧ tg μ (W + 3) = some (.inr 0) ∧ ln μ (W + 3) = 36 ∧ tg μ (W + 4) = some (.inr 0) ∧ ln μ (W + 4) = 144) ∧
  (tg μ (W + 5) = some (.inr 1) ∧ ln μ (W + 5) = 72 ∧ tg μ (W + 6) = some (.inr 0) ∧ ln μ (W + 6) = 2592 ∧ tg μ (W + 7) = some (.inr 6) ∧ ln μ (W + 7) = 25) ∧ ∀ k, gI μ k (W + 1) = 0
theorem WB.sq {ν μ : XM} {W : Nat} (h : WB μ W) (e : ∀ a, W ≤ a → a < W + 7 → SQ ν μ a) (e7 : tg ν (W + 7) = tg μ (W + 7) ∧ ln ν (W + 7) = ln μ (W + 7)) : WB ν W := by
  obtain ⟨⟨h1, h2, h3, h4, h5, h6, h7, h8, h9⟩, ⟨i1, i2, i3, i4, i5, i6⟩, ⟨j1, j2, j3, j4, j5, j6⟩, k1⟩ := h
  have e0 := e W (by omega) (by omega)
  have e1 := e (W + 1) (by omega) (by omega)
  have e2 := e (W + 2) (by omega) (by omega)
  have e3 := e (W + 3) (by omega) (by omega)
  have e4 := e (W + 4) (by omega) (by omega)
  have e5 := e (W + 5) (by omega) (by omega)
  have e6 := e (W + 6) (by omega) (by omega)
  exact ⟨⟨e0.1.1.trans h1, (e0.2.2.2.1 _).trans h2, (e0.2.2.2.1 _).trans h3, (e0.2.2.2.1 _).trans h4, (e0.2.2.2.1 _).trans h5, e1.1.1.trans h6, (e1.2.2.2.1 _).trans h7, (e1.2.2.2.1 _).trans h8, (e1.2.2.2.1 _).trans h9⟩, ⟨e2.1.1.trans i1, e2.1.2.trans i2, e3.1.1.trans i3, e3.1.2.trans i4, e4.1.1.trans i5, e4.1.2.trans i6⟩, ⟨e5.1.1.trans j1, e5.1.2.trans j2, e6.1.1.trans j3, e6.1.2.trans j4, e7.1.trans j5, e7.2.trans j6⟩, fun k => (e1.2.1 k).trans (k1 k)⟩
/-- an empty world -/
def ZW (μ : XM) (W : Nat) : Prop := WB μ W ∧ ∀ k, k < 25 → aR μ (W + 7) k = some (W + 8 + 3 * k) ∧ PS μ (W + 8 + 3 * k)
theorem ZW.ws {μ : XM} {W : Nat} (h : ZW μ W) : WS μ W := ⟨h.1.1, h.1.2.1, h.1.2.2.1, h.2⟩
theorem ZW.sq {ν μ : XM} {W : Nat} (h : ZW μ W) (e : ∀ a, W ≤ a → a < W + 83 → SQ ν μ a) : ZW ν W := by
  have e7 := e (W + 7) (by omega) (by omega)
  exact ⟨h.1.sq (fun a a0 a1 => e a a0 (by omega)) e7.1, fun k hk => ⟨(e7.2.2.2.2.2.2.2 k).trans (h.2 k hk).1, (h.2 k hk).2.sq (fun a a0 a1 => e a (by omega) (by omega))⟩⟩
theorem ZW.gx {μ : XM} {W : Nat} (h : ZW μ W) : GX μ W := ⟨0, 0, 0, by omega, h.1.2.2.2 0, h.1.2.2.2 1, h.1.2.2.2 2, fun n n0 n1 => by omega⟩
section
variable {μ : XM} {Q : XQ} {X : XX}
theorem e_gridNew {G : Nat} (hfr : fr μ = true) (ht : tp μ = G + 1) (hg : tg μ G = some (.inl 0)) (hK : ∀ ν, NB G ν μ → (fr ν = true ∧ tp ν = G + 4) → tg ν G = some (.inl 0) → (gR ν 3 G = some (G + 1) ∧ gR ν 4 G = some (G + 2) ∧ gR ν 5 G = some (G + 3)) → (tg ν (G + 1) = some (.inr 0) ∧ ln ν (G + 1) = 36 ∧ tg ν (G + 2) = some (.inr 0) ∧ ln ν (G + 2) = 36 ∧ tg ν (G + 3) = some (.inr 0) ∧ ln ν (G + 3) = 144) → (∀ k, gI ν k G = gI μ k G) → Q none ν) : s_X0_init μ [.ref G] Q X := by
  rw [u_X0_init, tn_c (n := 36) (a := 36) rfl (by omega), tn_c (n := 144) (a := 144) rfl (by omega)]
  have h1 := nrow (k := 0) (n := 36) (f := 3) (a := G) hfr ht (by omega)
  refine ⟨hfr, ng_c (by omega) (by omega), by omega, by omega, by omega, (nA_tg (by omega)).trans hg, ?_⟩
  generalize sR (nA μ 0 36) 3 G (some (tp μ)) = M1 at h1 ⊢
  have g1 := h1.2.2.1.1.trans hg
  have h2 := nrow (k := 0) (n := 36) (f := 4) (a := G) (t := G + 2) h1.1.1 h1.1.2 (by omega)
  refine ⟨h1.1.1, ng_c (by omega) (by omega), by omega, by omega, by omega, (nA_tg (by have t1 := h1.1.2; omega)).trans g1, ?_⟩
  generalize sR (nA M1 0 36) 4 G (some (tp M1)) = M2 at h2 ⊢
  have g2 := h2.2.2.1.1.trans g1
  have h3 := nrow (k := 0) (n := 144) (f := 5) (a := G) (t := G + 3) h2.1.1 h2.1.2 (by omega)
  refine ⟨h2.1.1, ng_c (by omega) (by omega), by omega, by omega, by omega, (nA_tg (by have t1 := h2.1.2; omega)).trans g2, ?_⟩
  show _ ∧ Q none (sR (nA M2 0 144) 5 G (some (tp M2)))
  generalize sR (nA M2 0 144) 5 G (some (tp M2)) = M3 at h3 ⊢
  have q32 := h3.2.2.2
  have q21 := h2.2.2.2
  have q10 := h1.2.2.2
  have r1 := h1.2.1
  have r2 := h2.2.1
  have r3 := h3.2.1
  have a1 := q21 (G + 1) (by omega) (by omega)
  have b1 := q32 (G + 1) (by omega) (by omega)
  have b2 := q32 (G + 2) (by omega) (by omega)
  exact ⟨rfl, hK M3 (fun a ha => (q32 a (by omega) (by omega)).trans ((q21 a (by omega) (by omega)).trans (q10 a (by omega) (by omega)))) h3.1 (h3.2.2.1.1.trans g2) ⟨(h3.2.2.1.2.2 3 (by omega)).trans ((h2.2.2.1.2.2 3 (by omega)).trans r1.1), (h3.2.2.1.2.2 4 (by omega)).trans r2.1, r3.1⟩ ⟨b1.1.1.trans (a1.1.1.trans r1.2.1), b1.1.2.trans (a1.1.2.trans r1.2.2.1), b2.1.1.trans r2.2.1, b2.1.2.trans r2.2.2.1, r3.2.1, r3.2.2.1⟩ (fun k => (h3.2.2.1.2.1 k).trans ((h2.2.2.1.2.1 k).trans (h1.2.2.1.2.1 k)))⟩
theorem e_packNew {P : Nat} (hfr : fr μ = true) (ht : tp μ = P + 1) (hg : tg μ P = some (.inl 3)) (hK : ∀ ν, NB P ν μ → (fr ν = true ∧ tp ν = P + 3) → PS ν P → Q none ν) : s_X3_init μ [.ref P] Q X := by
  rw [u_X3_init, tn_c (n := 36) (a := 36) rfl (by omega), tn_c (n := 72) (a := 72) rfl (by omega)]
  have h1 := nrow (k := 0) (n := 36) (f := 106) (a := P) hfr ht (by omega)
  refine ⟨hfr, ng_c (by omega) (by omega), by omega, by omega, by omega, (nA_tg (by omega)).trans hg, ?_⟩
  generalize sR (nA μ 0 36) 106 P (some (tp μ)) = M1 at h1 ⊢
  have g1 := h1.2.2.1.1.trans hg
  have h2 := nrow (k := 0) (n := 72) (f := 107) (a := P) (t := P + 2) h1.1.1 h1.1.2 (by omega)
  refine ⟨h1.1.1, ng_c (by omega) (by omega), by omega, by omega, by omega, (nA_tg (by have t1 := h1.1.2; omega)).trans g1, ?_⟩
  generalize sR (nA M1 0 72) 107 P (some (tp M1)) = M2 at h2 ⊢
  have q21 := h2.2.2.2
  have q10 := h1.2.2.2
  have r1 := h1.2.1
  have r2 := h2.2.1
  have a1 := q21 (P + 1) (by omega) (by omega)
  exact ⟨rfl, hK M2 (fun a ha => (q21 a (by omega) (by omega)).trans (q10 a (by omega) (by omega))) h2.1 ⟨h2.2.2.1.1.trans g1, (h2.2.2.1.2.2 106 (by omega)).trans r1.1, r2.1, a1.1.1.trans r1.2.1, a1.1.2.trans r1.2.2.1, r2.2.1, r2.2.2.1⟩⟩
theorem e_packsNew {W : Nat} (hK : ∀ ν, NB W ν μ → (fr ν = true ∧ tp ν = W + 83) → ZW ν W → Q none ν) : ∀ (d mf k : Nat) (ν : XM) (nc ns : Nat), k + d = 25 → d < mf → NB W ν μ → (fr ν = true ∧ tp ν = W + 8 + 3 * k) → WB ν W → (∀ j, j < k → aR ν (W + 7) j = some (W + 8 + 3 * j) ∧ PS ν (W + 8 + 3 * j)) → nc = 7 + 3 * k → ns = 2911 + 120 * k → ln_X7_init_43 Q X mf [some (.ref W), some (.int (ji k))] [] ν nc ns := by
  intro d
  induction d with
  | zero =>
    intro mf k ν nc ns hd hm hb hf hw hp e1 e2
    obtain ⟨mf, rfl⟩ : ∃ j, mf = j + 1 := ⟨mf - 1, by omega⟩
    obtain rfl : k = 25 := by omega
    have hw' := hw
    obtain ⟨⟨h1, h2, h3, h4, h5, h6, h7, h8, h9⟩, ⟨i1, i2, i3, i4, i5, i6⟩, ⟨j1, j2, j3, j4, j5, j6⟩, k1⟩ := hw'
    rw [ul_X7_init_43]
    refine ⟨h1, W + 7, h5, ⟨6, Or.inl (by omega), j5⟩, ?_⟩
    rw [j6, if_pos (by rw [ji_ofNat]; exact Int32.le_refl _)]
    exact ⟨rfl, hK ν hb ⟨hf.1, by omega⟩ ⟨hw, hp⟩⟩
  | succ d ih =>
    intro mf k ν nc ns hd hm hb hf hw hp e1 e2
    obtain ⟨mf, rfl⟩ : ∃ j, mf = j + 1 := ⟨mf - 1, by omega⟩
    have hw' := hw
    obtain ⟨⟨h1, h2, h3, h4, h5, h6, h7, h8, h9⟩, ⟨i1, i2, i3, i4, i5, i6⟩, ⟨j1, j2, j3, j4, j5, j6⟩, k1⟩ := hw'
    rw [ul_X7_init_43]
    refine ⟨h1, W + 7, h5, ⟨6, Or.inl (by omega), j5⟩, ?_⟩
    rw [j6, if_neg (by rw [ji_ofNat, ji_le (by omega) (by omega) (by omega) (by omega)]; omega)]
    refine ⟨h1, W + 7, h5, hf.1, by omega, by omega, rfl, by omega, by omega, ?_⟩
    have o := nobj (ci := 3) hf.1 hf.2
    rw [hf.2]
    refine e_packNew (P := W + 8 + 3 * k) o.1.1 o.1.2 o.2.1.1 (fun ξ n1 n2 n3 => ?_)
    have sq : ∀ a, a < W + 8 + 3 * k → SQ ξ ν a := fun a ha => (n1 a ha).trans (o.2.2 a (by omega))
    have s7 := sq (W + 7) (by omega)
    have w := nwr (μ := ξ) (a := W + 7) (i := k) (v := some (W + 8 + 3 * k))
    show c_X7_init_2 (ji k) (W + 7) ν Q X mf W nc ns ξ
    rw [c_X7_init_2, hf.2, ji_nat (by omega) (by omega), Int.toNat_natCast, ji_add]
    refine ⟨by rw [ji_in (by omega) (by omega), s7.1.2, j6]; omega, Or.inr ⟨s7.1.1.trans j5, n3.1⟩, ?_⟩
    refine ih mf (k + 1) _ _ _ (by omega) (by omega) (fun a ha => (w.2.2.2 a (by omega)).trans ((sq a (by omega)).trans (hb a ha))) ⟨w.1.1.trans n2.1, w.1.2.trans (by omega)⟩ (hw.sq (fun a a0 a1 => (w.2.2.2 a (by omega)).trans (sq a (by omega))) ⟨w.2.2.1.1.trans s7.1.1, w.2.2.1.2.1.trans s7.1.2⟩) (fun j hj => ?_) (by omega) (by omega)
    by_cases hjk : j = k
    · subst hjk
      exact ⟨w.2.1, n3.sq (fun a a0 a1 => w.2.2.2 a (by omega))⟩
    · exact ⟨(w.2.2.1.2.2 j hjk).trans ((s7.2.2.2.2.2.2.2 j).trans (hp j (by omega)).1), (hp j (by omega)).2.sq (fun a a0 a1 => (w.2.2.2 a (by omega)).trans (sq a (by omega)))⟩
theorem e_worldNew {W : Nat} (hfr : fr μ = true) (ht : tp μ = W + 1) (hw : tg μ W = some (.inl 7)) (hK : ∀ ν, NB W ν μ → (fr ν = true ∧ tp ν = W + 83) → ZW ν W → Q none ν) : s_X7_init μ [.ref W] Q X := by
  rw [u_X7_init]
  refine ⟨hfr, by omega, by omega, rfl, by omega, by omega, ?_⟩
  have o := nobj (ci := 0) hfr ht
  rw [ht]
  refine e_gridNew (G := W + 1) o.1.1 o.1.2 o.2.1.1 (fun ν n1 n2 n3 n4 n5 n6 => ?_)
  have sq : ∀ a, a < W + 1 → SQ ν μ a := fun a ha => (n1 a ha).trans (o.2.2 a (by omega))
  have hw1 := (sq W (by omega)).1.1.trans hw
  show c_X7_init_1 W μ Q X ν
  rw [c_X7_init_1, tn_c (n := 72) (a := 72) rfl (by omega), tn_c (n := 2592) (a := 2592) rfl (by omega), tn_c (n := 25) (a := 25) rfl (by omega), ht]
  have s := nset (μ := ν) (f := 224) (a := W) (v := some (W + 1))
  refine ⟨hw1, ?_⟩
  generalize sR ν 224 W (some (W + 1)) = M0 at s ⊢
  have f0 : fr M0 = true := s.1.1.trans n2.1
  have t0 : tp M0 = W + 5 := s.1.2.trans (by omega)
  have g0 := s.2.2.1.1.trans hw1
  have h1 := nrow (k := 1) (n := 72) (f := 225) (a := W) f0 t0 (by omega)
  refine ⟨f0, ng_c (by omega) (by omega), by omega, by omega, by omega, (nA_tg (by omega)).trans g0, ?_⟩
  generalize sR (nA M0 1 72) 225 W (some (tp M0)) = M1 at h1 ⊢
  have g1 := h1.2.2.1.1.trans g0
  have h2 := nrow (k := 0) (n := 2592) (f := 226) (a := W) (t := W + 6) h1.1.1 h1.1.2 (by omega)
  refine ⟨h1.1.1, ng_c (by omega) (by omega), by omega, by omega, by omega, (nA_tg (by have t1 := h1.1.2; omega)).trans g1, ?_⟩
  intro L2
  have h2' : R1 L2 M1 226 W 0 2592 (W + 6) := h2
  clear_value L2
  clear h2
  have g2 := h2'.2.2.1.1.trans g1
  have h3 := nrow (k := 6) (n := 25) (f := 227) (a := W) (t := W + 7) h2'.1.1 h2'.1.2 (by omega)
  refine ⟨h2'.1.1, ng_c (by omega) (by omega), by omega, by omega, by omega, (nA_tg (by have t1 := h2'.1.2; omega)).trans g2, ?_⟩
  generalize sR (nA L2 6 25) 227 W (some (tp L2)) = M3 at h3 ⊢
  rw [l_X7_init_43, xseal_eq]
  have q32 := h3.2.2.2
  have q21 := h2'.2.2.2
  have q10 := h1.2.2.2
  have q0 := s.2.2.2
  have q : ∀ b, b ≠ W → b < W + 5 → SQ M3 ν b := fun b b1 b2 => (q32 b (by omega) b1).trans ((q21 b (by omega) b1).trans ((q10 b (by omega) b1).trans (q0 b b1)))
  have p1 := q (W + 1) (by omega) (by omega)
  have p2 := q (W + 2) (by omega) (by omega)
  have p3 := q (W + 3) (by omega) (by omega)
  have p4 := q (W + 4) (by omega) (by omega)
  have p5 := (q32 (W + 5) (by omega) (by omega)).trans (q21 (W + 5) (by omega) (by omega))
  have p6 := q32 (W + 6) (by omega) (by omega)
  have k3 := h3.2.2.1.2.2
  have k2 := h2'.2.2.1.2.2
  have k1 := h1.2.2.1.2.2
  have r1 := h1.2.1
  have r2 := h2'.2.1
  have r3 := h3.2.1
  refine e_packsNew (μ := μ) hK 25 10000 0 M3 _ _ (by omega) (by omega) (fun a ha => (q a (by omega) (by omega)).trans (sq a (by omega))) ⟨h3.1.1, h3.1.2⟩ ⟨⟨h3.2.2.1.1.trans g2, (k3 224 (by omega)).trans ((k2 224 (by omega)).trans ((k1 224 (by omega)).trans s.2.1)), (k3 225 (by omega)).trans ((k2 225 (by omega)).trans r1.1), (k3 226 (by omega)).trans r2.1, r3.1, p1.1.1.trans n3, (p1.2.2.2.1 3).trans n4.1, (p1.2.2.2.1 4).trans n4.2.1, (p1.2.2.2.1 5).trans n4.2.2⟩, ⟨p2.1.1.trans n5.1, p2.1.2.trans n5.2.1, p3.1.1.trans n5.2.2.1, p3.1.2.trans n5.2.2.2.1, p4.1.1.trans n5.2.2.2.2.1, p4.1.2.trans n5.2.2.2.2.2⟩, ⟨p5.1.1.trans r1.2.1, p5.1.2.trans r1.2.2.1, p6.1.1.trans r2.2.1, p6.1.2.trans r2.2.2.1, r3.2.1, r3.2.2.1⟩, fun k => (p1.2.1 k).trans ((n6 k).trans (o.2.1.2 k))⟩ (fun j hj => by omega) (by omega) (by omega)
end
