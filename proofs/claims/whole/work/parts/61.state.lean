/-! ===== the class at x: where all lies ===== -/
def XL (μ : XM) (x : Nat) : Prop :=
  (tg μ x = some (.inl 8) ∧ gR μ 256 x = some (x + 1) ∧ gR μ 257 x = some (x + 84) ∧ gR μ 258 x = some (x + 167) ∧ gR μ 259 x = some (x + 1165) ∧ gR μ 260 x = some (x + 1171) ∧ gR μ 261 x = some (x + 1173) ∧ gR μ 262 x = some (x + 1174) ∧ gR μ 263 x = some (x + 1176) ∧ gR μ 264 x = some (x + 1177) ∧ gR μ 265 x = some (x + 1178)) ∧
  (tg μ (x + 167) = some (.inl 1) ∧ gR μ 32 (x + 167) = some (x + 168) ∧ tg μ (x + 168) = some (.inr 5) ∧ ln μ (x + 168) = 12) ∧
  (tg μ (x + 1165) = some (.inl 4) ∧ gR μ 128 (x + 1165) = some (x + 1166) ∧ gR μ 129 (x + 1165) = some (x + 1167) ∧ gR μ 130 (x + 1165) = some (x + 1168) ∧ gR μ 131 (x + 1165) = some (x + 1169) ∧ gR μ 132 (x + 1165) = some (x + 1170) ∧ tg μ (x + 1166) = some (.inr 1) ∧ ln μ (x + 1166) = 72 ∧ tg μ (x + 1167) = some (.inr 0) ∧ ln μ (x + 1167) = 72 ∧ tg μ (x + 1168) = some (.inr 0) ∧ ln μ (x + 1168) = 36 ∧ tg μ (x + 1169) = some (.inr 0) ∧ ln μ (x + 1169) = 36 ∧ tg μ (x + 1170) = some (.inr 0) ∧ ln μ (x + 1170) = 36) ∧
  (tg μ (x + 1171) = some (.inl 6) ∧ gR μ 192 (x + 1171) = some (x + 1172) ∧ tg μ (x + 1172) = some (.inr 0) ∧ ln μ (x + 1172) = 1000 ∧ tg μ (x + 1173) = some (.inl 2) ∧ tg μ (x + 1174) = some (.inl 5) ∧ gR μ 160 (x + 1174) = some (x + 1175) ∧ tg μ (x + 1175) = some (.inr 0) ∧ ln μ (x + 1175) = 160) ∧
  (tg μ (x + 1176) = some (.inr 5) ∧ ln μ (x + 1176) = 2 ∧ tg μ (x + 1177) = some (.inr 1) ∧ ln μ (x + 1177) = 2 ∧ tg μ (x + 1178) = some (.inr 0) ∧ ln μ (x + 1178) = 40 ∧ aR μ (x + 1176) 0 = some (x + 1179) ∧ aR μ (x + 1176) 1 = some (x + 1262)) ∧
  WS μ (x + 1) ∧ WS μ (x + 84) ∧ WS μ (x + 1179) ∧ WS μ (x + 1262) ∧ ∀ k, k < 12 → aR μ (x + 168) k = some (x + 169 + 83 * k) ∧ WS μ (x + 169 + 83 * k)
theorem XL_0 {μ : XM} {x : Nat} (h : XL μ x) : tg μ x = some (.inl 8) := h.1.1
theorem XL_1 {μ : XM} {x : Nat} (h : XL μ x) : gR μ 256 x = some (x + 1) := h.1.2.1
theorem XL_2 {μ : XM} {x : Nat} (h : XL μ x) : gR μ 257 x = some (x + 84) := h.1.2.2.1
theorem XL_3 {μ : XM} {x : Nat} (h : XL μ x) : gR μ 258 x = some (x + 167) := h.1.2.2.2.1
theorem XL_4 {μ : XM} {x : Nat} (h : XL μ x) : gR μ 259 x = some (x + 1165) := h.1.2.2.2.2.1
theorem XL_5 {μ : XM} {x : Nat} (h : XL μ x) : gR μ 260 x = some (x + 1171) := h.1.2.2.2.2.2.1
theorem XL_6 {μ : XM} {x : Nat} (h : XL μ x) : gR μ 261 x = some (x + 1173) := h.1.2.2.2.2.2.2.1
theorem XL_7 {μ : XM} {x : Nat} (h : XL μ x) : gR μ 262 x = some (x + 1174) := h.1.2.2.2.2.2.2.2.1
theorem XL_8 {μ : XM} {x : Nat} (h : XL μ x) : gR μ 263 x = some (x + 1176) := h.1.2.2.2.2.2.2.2.2.1
theorem XL_9 {μ : XM} {x : Nat} (h : XL μ x) : gR μ 264 x = some (x + 1177) := h.1.2.2.2.2.2.2.2.2.2.1
theorem XL_10 {μ : XM} {x : Nat} (h : XL μ x) : gR μ 265 x = some (x + 1178) := h.1.2.2.2.2.2.2.2.2.2.2
theorem XL_11 {μ : XM} {x : Nat} (h : XL μ x) : tg μ (x + 167) = some (.inl 1) := h.2.1.1
theorem XL_12 {μ : XM} {x : Nat} (h : XL μ x) : gR μ 32 (x + 167) = some (x + 168) := h.2.1.2.1
theorem XL_13 {μ : XM} {x : Nat} (h : XL μ x) : tg μ (x + 168) = some (.inr 5) := h.2.1.2.2.1
theorem XL_14 {μ : XM} {x : Nat} (h : XL μ x) : ln μ (x + 168) = 12 := h.2.1.2.2.2
theorem XL_15 {μ : XM} {x : Nat} (h : XL μ x) : tg μ (x + 1165) = some (.inl 4) := h.2.2.1.1
theorem XL_16 {μ : XM} {x : Nat} (h : XL μ x) : gR μ 128 (x + 1165) = some (x + 1166) := h.2.2.1.2.1
theorem XL_17 {μ : XM} {x : Nat} (h : XL μ x) : gR μ 129 (x + 1165) = some (x + 1167) := h.2.2.1.2.2.1
theorem XL_18 {μ : XM} {x : Nat} (h : XL μ x) : gR μ 130 (x + 1165) = some (x + 1168) := h.2.2.1.2.2.2.1
theorem XL_19 {μ : XM} {x : Nat} (h : XL μ x) : gR μ 131 (x + 1165) = some (x + 1169) := h.2.2.1.2.2.2.2.1
theorem XL_20 {μ : XM} {x : Nat} (h : XL μ x) : gR μ 132 (x + 1165) = some (x + 1170) := h.2.2.1.2.2.2.2.2.1
theorem XL_21 {μ : XM} {x : Nat} (h : XL μ x) : tg μ (x + 1166) = some (.inr 1) := h.2.2.1.2.2.2.2.2.2.1
theorem XL_22 {μ : XM} {x : Nat} (h : XL μ x) : ln μ (x + 1166) = 72 := h.2.2.1.2.2.2.2.2.2.2.1
theorem XL_23 {μ : XM} {x : Nat} (h : XL μ x) : tg μ (x + 1167) = some (.inr 0) := h.2.2.1.2.2.2.2.2.2.2.2.1
theorem XL_24 {μ : XM} {x : Nat} (h : XL μ x) : ln μ (x + 1167) = 72 := h.2.2.1.2.2.2.2.2.2.2.2.2.1
theorem XL_25 {μ : XM} {x : Nat} (h : XL μ x) : tg μ (x + 1168) = some (.inr 0) := h.2.2.1.2.2.2.2.2.2.2.2.2.2.1
theorem XL_26 {μ : XM} {x : Nat} (h : XL μ x) : ln μ (x + 1168) = 36 := h.2.2.1.2.2.2.2.2.2.2.2.2.2.2.1
theorem XL_27 {μ : XM} {x : Nat} (h : XL μ x) : tg μ (x + 1169) = some (.inr 0) := h.2.2.1.2.2.2.2.2.2.2.2.2.2.2.2.1
theorem XL_28 {μ : XM} {x : Nat} (h : XL μ x) : ln μ (x + 1169) = 36 := h.2.2.1.2.2.2.2.2.2.2.2.2.2.2.2.2.1
theorem XL_29 {μ : XM} {x : Nat} (h : XL μ x) : tg μ (x + 1170) = some (.inr 0) := h.2.2.1.2.2.2.2.2.2.2.2.2.2.2.2.2.2.1
theorem XL_30 {μ : XM} {x : Nat} (h : XL μ x) : ln μ (x + 1170) = 36 := h.2.2.1.2.2.2.2.2.2.2.2.2.2.2.2.2.2.2
theorem XL_31 {μ : XM} {x : Nat} (h : XL μ x) : tg μ (x + 1171) = some (.inl 6) := h.2.2.2.1.1
theorem XL_32 {μ : XM} {x : Nat} (h : XL μ x) : gR μ 192 (x + 1171) = some (x + 1172) := h.2.2.2.1.2.1
theorem XL_33 {μ : XM} {x : Nat} (h : XL μ x) : tg μ (x + 1172) = some (.inr 0) := h.2.2.2.1.2.2.1
theorem XL_34 {μ : XM} {x : Nat} (h : XL μ x) : ln μ (x + 1172) = 1000 := h.2.2.2.1.2.2.2.1
theorem XL_35 {μ : XM} {x : Nat} (h : XL μ x) : tg μ (x + 1173) = some (.inl 2) := h.2.2.2.1.2.2.2.2.1
theorem XL_36 {μ : XM} {x : Nat} (h : XL μ x) : tg μ (x + 1174) = some (.inl 5) := h.2.2.2.1.2.2.2.2.2.1
theorem XL_37 {μ : XM} {x : Nat} (h : XL μ x) : gR μ 160 (x + 1174) = some (x + 1175) := h.2.2.2.1.2.2.2.2.2.2.1
theorem XL_38 {μ : XM} {x : Nat} (h : XL μ x) : tg μ (x + 1175) = some (.inr 0) := h.2.2.2.1.2.2.2.2.2.2.2.1
theorem XL_39 {μ : XM} {x : Nat} (h : XL μ x) : ln μ (x + 1175) = 160 := h.2.2.2.1.2.2.2.2.2.2.2.2
theorem XL_40 {μ : XM} {x : Nat} (h : XL μ x) : tg μ (x + 1176) = some (.inr 5) := h.2.2.2.2.1.1
theorem XL_41 {μ : XM} {x : Nat} (h : XL μ x) : ln μ (x + 1176) = 2 := h.2.2.2.2.1.2.1
theorem XL_42 {μ : XM} {x : Nat} (h : XL μ x) : tg μ (x + 1177) = some (.inr 1) := h.2.2.2.2.1.2.2.1
theorem XL_43 {μ : XM} {x : Nat} (h : XL μ x) : ln μ (x + 1177) = 2 := h.2.2.2.2.1.2.2.2.1
theorem XL_44 {μ : XM} {x : Nat} (h : XL μ x) : tg μ (x + 1178) = some (.inr 0) := h.2.2.2.2.1.2.2.2.2.1
theorem XL_45 {μ : XM} {x : Nat} (h : XL μ x) : ln μ (x + 1178) = 40 := h.2.2.2.2.1.2.2.2.2.2.1
theorem XL_46 {μ : XM} {x : Nat} (h : XL μ x) : aR μ (x + 1176) 0 = some (x + 1179) := h.2.2.2.2.1.2.2.2.2.2.2.1
theorem XL_47 {μ : XM} {x : Nat} (h : XL μ x) : aR μ (x + 1176) 1 = some (x + 1262) := h.2.2.2.2.1.2.2.2.2.2.2.2
theorem XL.w {μ : XM} {x : Nat} (h : XL μ x) : WS μ (x + 1) := h.2.2.2.2.2.1
theorem XL.f {μ : XM} {x : Nat} (h : XL μ x) : WS μ (x + 84) := h.2.2.2.2.2.2.1
theorem XL.s0 {μ : XM} {x : Nat} (h : XL μ x) : WS μ (x + 1179) := h.2.2.2.2.2.2.2.1
theorem XL.s1 {μ : XM} {x : Nat} (h : XL μ x) : WS μ (x + 1262) := h.2.2.2.2.2.2.2.2.1
theorem XL.hk {μ : XM} {x : Nat} (h : XL μ x) (k : Nat) (hk : k < 12) : aR μ (x + 168) k = some (x + 169 + 83 * k) ∧ WS μ (x + 169 + 83 * k) := h.2.2.2.2.2.2.2.2.2 k hk
theorem XL.mono {μ μ' : XM} {x : Nat} (s : SR μ μ') (h : XL μ x) : XL μ' x := by
  obtain ⟨h1, h2, h3, h4, h5, h6, h7, h8, h9, h10⟩ := h
  have s' := s
  obtain ⟨s1, s2, s3, s4⟩ := s'
  refine ⟨?_, ?_, ?_, ?_, ?_, h6.mono s, h7.mono s, h8.mono s, h9.mono s, fun k hk => ?_⟩
  · rw [s1, s3]; exact h1
  · rw [s1, s2, s3]; exact h2
  · rw [s1, s2, s3]; exact h3
  · rw [s1, s2, s3]; exact h4
  · rw [s1, s2, s4]; exact h5
  · rw [s4]; exact ⟨(h10 k hk).1, (h10 k hk).2.mono s⟩
/-! ===== the abstract state: sizes; block; steps back; snapshots; text; its error; output ===== -/
abbrev AS : Type := (Int × Int × Int × Int) × (Int → Int) × (Int × (Int → Int → Int)) × ((Int → Bool) × (Int → Int → Int)) × (Int × (Int → Int)) × (Int × Int) × (Int × (Int → Int))
/-- a block within its bounds -/
def OK (w h N s : Int) (Z : Int → Int) : Prop := IV w h N s Z ∧ Z 0 ≤ 30000 ∧ Z 1 ≤ 24 ∧ ∀ l, 0 ≤ l → l < 72 → Z (2 + l) ≠ 0 → isl w h N l = true
/-- what holds of the state -/
def INV (A : AS) : Prop := OK A.1.1 A.1.2.1 A.1.2.2.1 A.1.2.2.2 A.2.1 ∧ (0 ≤ A.2.2.1.1 ∧ A.2.2.1.1 ≤ 12 ∧ ∀ j, 0 ≤ j → j < A.2.2.1.1 → OK A.1.1 A.1.2.1 A.1.2.2.1 A.1.2.2.2 (A.2.2.1.2 j)) ∧ (∀ p, A.2.2.2.1.1 p = true → OK A.1.1 A.1.2.1 A.1.2.2.1 A.1.2.2.2 (A.2.2.2.1.2 p)) ∧ (0 ≤ A.2.2.2.2.1.1 ∧ A.2.2.2.2.1.1 ≤ 1000 ∧ ∀ i, 0 ≤ i → i < A.2.2.2.2.1.1 → 0 ≤ A.2.2.2.2.1.2 i ∧ A.2.2.2.2.1.2 i < 256) ∧ (0 ≤ A.2.2.2.2.2.1.1 ∧ A.2.2.2.2.2.1.1 ≤ 5 ∧ -1 ≤ A.2.2.2.2.2.1.2 ∧ A.2.2.2.2.2.1.2 ≤ 1000) ∧ 0 ≤ A.2.2.2.2.2.2.1 ∧ A.2.2.2.2.2.2.1 ≤ 37 ∧ ∀ i, 0 ≤ i → i < A.2.2.2.2.2.2.1 → 0 ≤ A.2.2.2.2.2.2.2 i ∧ A.2.2.2.2.2.2.2 i < 256
/-- steps back -/
def HW (μ : XM) (x : Nat) (w h N s n : Int) (H : Int → Int → Int) : Prop := gI μ 34 (x + 167) = ji n ∧ (∀ k : Nat, k < 12 → GX μ (x + 169 + 83 * k)) ∧ ∃ f : Int, 0 ≤ f ∧ f < 12 ∧ gI μ 33 (x + 167) = ji f ∧ ∀ j, 0 ≤ j → j < n → CW μ (x + 169 + 83 * ((f + j) % 12).toNat) w h N s (H j)
/-- snapshots -/
def NW (μ : XM) (x : Nat) (w h N s : Int) (v : Int → Bool) (S : Int → Int → Int) : Prop := GX μ (x + 1179) ∧ GX μ (x + 1262) ∧ aI μ (x + 1177) 0 = ji (if v 0 = true then 1 else 0) ∧ aI μ (x + 1177) 1 = ji (if v 1 = true then 1 else 0) ∧ (v 0 = true → CW μ (x + 1179) w h N s (S 0)) ∧ (v 1 = true → CW μ (x + 1262) w h N s (S 1))
/-- the text -/
def XT (μ : XM) (x : Nat) (l : Int) (T : Int → Int) (e p : Int) : Prop := gI μ 193 (x + 1171) = ji l ∧ gI μ 198 (x + 1171) = ji e ∧ gI μ 199 (x + 1171) = ji p ∧ ∀ i, 0 ≤ i → i < l → aI μ (x + 1172) i.toNat = ji (T i)
/-- the output -/
def XO (μ : XM) (x : Nat) (l : Int) (O : Int → Int) : Prop := gI μ 266 x = ji l ∧ ∀ i, 0 ≤ i → i < l → aI μ (x + 1178) i.toNat = ji (O i)
/-- the class at x holds the state -/
def XS (μ : XM) (x : Nat) (A : AS) : Prop := XL μ x ∧ CW μ (x + 1) A.1.1 A.1.2.1 A.1.2.2.1 A.1.2.2.2 A.2.1 ∧ GX μ (x + 84) ∧ HW μ x A.1.1 A.1.2.1 A.1.2.2.1 A.1.2.2.2 A.2.2.1.1 A.2.2.1.2 ∧ NW μ x A.1.1 A.1.2.1 A.1.2.2.1 A.1.2.2.2 A.2.2.2.1.1 A.2.2.2.1.2 ∧ XT μ x A.2.2.2.2.1.1 A.2.2.2.2.1.2 A.2.2.2.2.2.1.1 A.2.2.2.2.2.1.2 ∧ XO μ x A.2.2.2.2.2.2.1 A.2.2.2.2.2.2.2
abbrev inX (x a : Nat) : Prop := x ≤ a ∧ a < x + 1345 ∧ (a < x + 1173 ∨ x + 1176 ≤ a)
section
variable {μ μ' : XM} {x : Nat} {w h N s n l e p : Int} {Z T O : Int → Int} {H S : Int → Int → Int} {v : Int → Bool} {Q : XQ} {X : XX} {A : AS} {C : Nat → Prop}
theorem XS.xw (hx : XS μ x A) (hi : INV A) : XW μ x A.1.1 A.1.2.1 A.1.2.2.1 A.1.2.2.2 A.2.1 := ⟨⟨XL_0 hx.1, XL_1 hx.1⟩, hx.1.w, hx.2.1, hi.1.1, hi.1.2.1, hi.1.2.2.1⟩
theorem HW.frame (hx : HW μ x w h N s n H) (hh : ∀ j, 0 ≤ j → j < n → OK w h N s (H j)) (hc : CH C μ' μ) (hs : ∀ a, x + 167 ≤ a → a < x + 1165 → ¬ C a) : HW μ' x w h N s n H := by
  obtain ⟨h1, h2, f, f0, f1, h3, h4⟩ := hx
  have g := hc.2 (x + 167) (hs _ (by omega) (by omega))
  refine ⟨by rw [g.1]; exact h1, fun k hk => (h2 k hk).frame hc (fun a a0 a1 => hs a (by omega) (by omega)), f, f0, f1, by rw [g.1]; exact h3, fun j j0 j1 => ?_⟩
  have hk : ((f + j) % 12).toNat < 12 := by omega
  exact (h4 j j0 j1).frame (hh j j0 j1).1.1 hc (fun a a0 a1 => hs a (by omega) (by omega))
theorem NW.frame (hx : NW μ x w h N s v S) (hh : ∀ p, v p = true → OK w h N s (S p)) (hc : CH C μ' μ) (hs : ∀ a, x + 1176 ≤ a → a < x + 1345 → a ≠ x + 1178 → ¬ C a) : NW μ' x w h N s v S := by
  obtain ⟨h1, h2, h3, h4, h5, h6⟩ := hx
  have g := (hc.2 (x + 1177) (hs _ (by omega) (by omega) (by omega))).2.2.1
  exact ⟨h1.frame hc (fun a a0 a1 => hs a (by omega) (by omega) (by omega)), h2.frame hc (fun a a0 a1 => hs a (by omega) (by omega) (by omega)), by rw [g]; exact h3, by rw [g]; exact h4, fun q => (h5 q).frame (hh 0 q).1.1 hc (fun a a0 a1 => hs a (by omega) (by omega) (by omega)), fun q => (h6 q).frame (hh 1 q).1.1 hc (fun a a0 a1 => hs a (by omega) (by omega) (by omega))⟩
theorem XT.frame (hx : XT μ x l T e p) (hc : CH C μ' μ) (hs : ∀ a, x + 1171 ≤ a → a < x + 1173 → ¬ C a) : XT μ' x l T e p := by
  obtain ⟨h1, h2, h3, h4⟩ := hx
  have g := (hc.2 (x + 1171) (hs _ (by omega) (by omega))).1
  have g2 := (hc.2 (x + 1172) (hs _ (by omega) (by omega))).2.2.1
  unfold XT
  rw [g, g, g]
  exact ⟨h1, h2, h3, fun i i0 i1 => by rw [g2]; exact h4 i i0 i1⟩
theorem XO.frame (hx : XO μ x l O) (hc : CH C μ' μ) (h1 : ¬ C x) (h2 : ¬ C (x + 1178)) : XO μ' x l O := by
  have g := (hc.2 x h1).1
  have g2 := (hc.2 (x + 1178) h2).2.2.1
  unfold XO
  rw [g]
  exact ⟨hx.1, fun i i0 i1 => by rw [g2]; exact hx.2 i i0 i1⟩
/-- nothing of the class's own is touched -/
theorem XS.frame (hx : XS μ x A) (hi : INV A) (hc : CH C μ' μ) (hs : ∀ a, x ≤ a → a < x + 1345 → C a → (x + 1165 ≤ a ∧ a < x + 1171) ∨ a = x + 1173 ∨ a = x + 1174 ∨ a = x + 1175) : XS μ' x A := by
  obtain ⟨x1, x2, x3, x4, x5, x6, x7⟩ := hx
  have hn : ∀ a, x ≤ a → a < x + 1345 → ¬ ((x + 1165 ≤ a ∧ a < x + 1171) ∨ a = x + 1173 ∨ a = x + 1174 ∨ a = x + 1175) → ¬ C a := fun a a0 a1 a2 a3 => a2 (hs a a0 a1 a3)
  exact ⟨x1.mono hc.1, x2.frame hi.1.1.1 hc (fun a a0 a1 => hn a (by omega) (by omega) (by omega)), x3.frame hc (fun a a0 a1 => hn a (by omega) (by omega) (by omega)), x4.frame hi.2.1.2.2 hc (fun a a0 a1 => hn a (by omega) (by omega) (by omega)), x5.frame hi.2.2.1 hc (fun a a0 a1 a2 => hn a (by omega) (by omega) (by omega)), x6.frame hc (fun a a0 a1 => hn a (by omega) (by omega) (by omega)), x7.frame hc (hn x (by omega) (by omega) (by omega)) (hn (x + 1178) (by omega) (by omega) (by omega))⟩
/-- the forecast alone is another one -/
theorem XS.fore (hx : XS μ x A) (hi : INV A) (hc : CH (inW (x + 84)) μ' μ) (hg : GX μ' (x + 84)) : XS μ' x A := by
  obtain ⟨x1, x2, x3, x4, x5, x6, x7⟩ := hx
  exact ⟨x1.mono hc.1, x2.frame hi.1.1.1 hc (fun a a0 a1 => by unfold inW; omega), hg, x4.frame hi.2.1.2.2 hc (fun a a0 a1 => by unfold inW; omega), x5.frame hi.2.2.1 hc (fun a a0 a1 a2 => by unfold inW; omega), x6.frame hc (fun a a0 a1 => by unfold inW; omega), x7.frame hc (by unfold inW; omega) (by unfold inW; omega)⟩
/-- the world alone is another one -/
theorem XS.world {Y : Int → Int} {w' h' N' s' : Int} (hx : XS μ x A) (hi : INV A) (e : A.1 = (w', h', N', s')) (hc : CH (inW (x + 1)) μ' μ) (hg : CW μ' (x + 1) w' h' N' s' Y) : XS μ' x (A.1, Y, A.2.2) := by
  obtain ⟨x1, x2, x3, x4, x5, x6, x7⟩ := hx
  refine ⟨x1.mono hc.1, ?_, x3.frame hc (fun a a0 a1 => by unfold inW; omega), x4.frame hi.2.1.2.2 hc (fun a a0 a1 => by unfold inW; omega), x5.frame hi.2.2.1 hc (fun a a0 a1 a2 => by unfold inW; omega), x6.frame hc (fun a a0 a1 => by unfold inW; omega), x7.frame hc (by unfold inW; omega) (by unfold inW; omega)⟩
  show CW μ' (x + 1) A.1.1 A.1.2.1 A.1.2.2.1 A.1.2.2.2 Y
  rw [e]
  exact hg
end
