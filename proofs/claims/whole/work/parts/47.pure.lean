theorem les_in {Z : Int → Int} {n l : Int} (n0 : 0 ≤ n) (n1 : n < 36) (l0 : 0 ≤ l) (l1 : l < 72) : les Z n l = Z (74 + 72 * n + l) := by
  rw [les, if_pos ⟨n0, n1, l0, l1⟩, Int.add_assoc]
theorem fnd_in {Z : Int → Int} {o l : Int} (l0 : 0 ≤ l) (l1 : l < 72) : fnd Z o l = Z (o + 47 + l) := if_pos ⟨l0, l1⟩
/-! ===== cells set; how packets move, over the cells alone ===== -/
def zu (Z : Int → Int) (i v : Int) : Int → Int := fun j => if j = i then v else Z j
theorem zu_at (Z : Int → Int) (i v : Int) : zu Z i v i = v := if_pos rfl
theorem zu_ne {Z : Int → Int} {i v j : Int} (h : ¬ j = i) : zu Z i v j = Z j := if_neg h
def agr (lo hi : Int) (Y Z : Int → Int) : Prop := ∀ i, (i < lo ∨ hi ≤ i) → Y i = Z i
theorem agr.refl (lo hi : Int) (Z : Int → Int) : agr lo hi Z Z := fun _ _ => rfl
theorem agr.trans {lo hi : Int} {A B C : Int → Int} (h : agr lo hi A B) (g : agr lo hi B C) : agr lo hi A C := fun i hi => (h i hi).trans (g i hi)
theorem agr.zu {lo hi i v : Int} {Y Z : Int → Int} (h : agr lo hi Y Z) (h1 : lo ≤ i) (h2 : i < hi) : agr lo hi (zu Y i v) Z := fun j hj => by
  rw [zu_ne (by omega)]
  exact h j hj
theorem agr.mono {lo hi lo' hi' : Int} {Y Z : Int → Int} (h : agr lo hi Y Z) (h1 : lo' ≤ lo) (h2 : hi ≤ hi') : agr lo' hi' Y Z := fun j hj => h j (by omega)
theorem foldz_last {σ : Type} (g : Int → σ → σ) : ∀ (d : Nat) (l : Int) (x : σ), foldz g l (d + 1) x = g (l + d) (foldz g l d x) := by
  intro d
  induction d with
  | zero => intro l x; simp [foldz]
  | succ d ih =>
    intro l x
    rw [foldz, ih (l + 1) (g l x)]
    have : l + 1 + (d : Int) = l + ((d + 1 : Nat) : Int) := by omega
    rw [this]
    rfl
theorem foldz_up {σ : Type} (g : Int → σ → σ) {l : Int} (h : 0 ≤ l) (x : σ) : foldz g 0 (l + 1).toNat x = g l (foldz g 0 l.toNat x) := by
  have e : (l + 1).toNat = l.toNat + 1 := by omega
  rw [e, foldz_last]
  have : (0 : Int) + (l.toNat : Int) = l := by omega
  rw [this]
theorem foldz_inv {σ : Type} (g : Int → σ → σ) (I : σ → Prop) (lo hi : Int) (hs : ∀ l x, lo ≤ l → l < hi → I x → I (g l x)) : ∀ (d : Nat) (l : Int) (x : σ), lo ≤ l → l + d ≤ hi → I x → I (foldz g l d x) := by
  intro d
  induction d with
  | zero => intro l x _ _ h; exact h
  | succ d ih =>
    intro l x l0 l1 h
    exact ih (l + 1) _ (by omega) (by omega) (hs l x l0 (by omega) h)
/-- a walk's loop, towards what must be shown -/
theorem imp_loop {σ : Type} (P : Nat → σ → Int → Prop) (J : Int → σ → Prop) (L : Int) (hz : ∀ n x, J L x → P (n + 1) x L) (hs : ∀ n x l, 0 ≤ l → l < L → J l x → (∀ y, J (l + 1) y → P n y (l + 1)) → P (n + 1) x l) : ∀ (d n : Nat) (l : Int) (x : σ), d < n → l + d = L → 0 ≤ l → J l x → P n x l := by
  intro d
  induction d with
  | zero =>
    intro n l x hn hl l0 hI
    obtain ⟨n, rfl⟩ : ∃ m, n = m + 1 := ⟨n - 1, by omega⟩
    obtain rfl : l = L := by omega
    exact hz n x hI
  | succ d ih =>
    intro n l x hn hl l0 hI
    obtain ⟨n, rfl⟩ : ∃ m, n = m + 1 := ⟨n - 1, by omega⟩
    exact hs n x l l0 (by omega) hI (fun y hy => ih n (l + 1) y (by omega) (by omega) (by omega) hy)
/-- a bit more -/
def bs (a n : Int) : Int := ((a.toNat ||| 2 ^ n.toNat : Nat) : Int)
theorem bs_b {a n : Int} (h1 : 0 ≤ n) (h2 : n < 18) (h3 : a < 262144) : 0 ≤ bs a n ∧ bs a n < 262144 := by
  have : a.toNat ||| 2 ^ n.toNat < 2 ^ 18 := Nat.or_lt_two_pow (by omega) (Nat.pow_lt_pow_right (by omega) (by omega))
  unfold bs
  omega
def ahd (Z : Int → Int) (o : Int) : Int := Z (o + 11 + (Z (o + 6) - 2))
def lkd (w : Int) (Z : Int → Int) (o : Int) : Int := lkb w (Z (o + 4)) (ahd Z o)
def zfin (Z : Int → Int) (o t : Int) : Int → Int := zu (zu Z (o + 3) t) (o + 8) (Z 0)
def zbak (Z : Int → Int) (o : Int) : Int → Int := zu (zu Z (o + 4) (ahd Z o)) (o + 6) (Z (o + 6) - 1)
def zhop (Z : Int → Int) (o : Int) : Int → Int := zu Z (o + 5) (Z (o + 5) + 1)
def zlrn (Z : Int → Int) (n l t : Int) : Int → Int := zu Z (74 + 72 * n + l) (if Z (74 + 72 * n + l) < t then t else Z (74 + 72 * n + l))
def zteg (o n : Int) (l : Int) (Y : Int → Int) : Int → Int := if Y (o + 47 + l) = -1 then Y else zlrn Y n l (Y (o + 47 + l))
def ztea (Z : Int → Int) (o n : Int) : Int → Int := foldz (zteg o n) 0 72 Z
def zvst (Z : Int → Int) (o n : Int) : Int → Int := zu (zu (zu (zu Z (o + 4) n) (o + 9 + n / 18) (bs (Z (o + 9 + n / 18)) (n % 18))) (o + 11 + Z (o + 6)) n) (o + 6) (Z (o + 6) + 1)
def zst (Z : Int → Int) (o t : Int) : Int → Int := zu Z (o + 3) t
/-- back out of a dead end -/
def zout (w : Int) (Z : Int → Int) (o : Int) : Int → Int :=
  if Z (o + 6) ≤ 1 then zfin Z o 4 else if Z (2 + lkd w Z o) ≠ 0 then zfin (zhop Z o) o 5 else if Z (o + 5) + 1 = Z (o + 2) then zst (zbak (zhop Z o) o) o 2 else zbak (zhop Z o) o
/-- forward over a link, or at a dead one -/
def zfw (w h N : Int) (Z : Int → Int) (o y : Int) : Int → Int :=
  if Z (2 + lka w h N (Z (o + 4)) y) ≠ 0 then zlrn (zu Z (o + 47 + lka w h N (Z (o + 4)) y) (Z 0)) (Z (o + 4)) (lka w h N (Z (o + 4)) y) (Z 0)
  else if nxt w h N (Z (o + 4)) y = Z (o + 1) then zst (zvst (zhop Z o) o (nxt w h N (Z (o + 4)) y)) o 1
  else if Z (o + 5) + 1 = Z (o + 2) then zst (zvst (zhop Z o) o (nxt w h N (Z (o + 4)) y)) o 2 else zvst (zhop Z o) o (nxt w h N (Z (o + 4)) y)
/-- home -/
def zhm (w : Int) (Z : Int → Int) (o : Int) : Int → Int :=
  if Z (o + 6) ≤ 1 then zfin Z o (if Z (o + 3) = 1 then 3 else 4) else if Z (2 + lkd w Z o) ≠ 0 then zfin Z o 5 else ztea (zbak Z o) o (ahd Z o)
/-- one move -/
def zmv (w h N s : Int) (Z : Int → Int) (o : Int) : Int → Int :=
  if Z (o + 3) ≠ 0 then zhm w Z o else if bst w h N s Z o = -1 then zout w Z o else zfw w h N Z o (bst w h N s Z o)
def zpg (w h N s : Int) (k : Int) (Y : Int → Int) : Int → Int := if act Y k = true then zmv w h N s Y ((2666 + 120 * k)) else Y
/-- one tick -/
def ztk (w h N s : Int) (Z : Int → Int) : Int → Int := zu (foldz (zpg w h N s) 0 (Z 1).toNat Z) 0 (foldz (zpg w h N s) 0 (Z 1).toNat Z 0 + 1)
/-- ticks -/
def zps (w h N s : Int) : Nat → (Int → Int) → (Int → Int)
  | 0, Z => Z
  | n + 1, Z => zps w h N s n (ztk w h N s Z)
/-! ===== the trail's invariants ===== -/
def TP (w h N : Int) (Z : Int → Int) (o : Int) : Prop :=
  (Z (o + 11) = Z o ∧ Z (o + 11 + (Z (o + 6) - 1)) = Z (o + 4) ∧ (Z (o + 3) = 0 → Z (o + 5) < Z (o + 2))) ∧
  (∀ i : Int, 0 ≤ i → i + 1 < Z (o + 6) → ∃ y : Int, 0 ≤ y ∧ y < 4 ∧ nx w h (Z (o + 11 + i)) y = Z (o + 11 + (i + 1))) ∧
  (∀ i j : Int, 0 ≤ i → i < j → j < Z (o + 6) → Z (o + 11 + i) ≠ Z (o + 11 + j)) ∧
  (∀ i : Int, 0 ≤ i → i < Z (o + 6) → vis Z o (Z (o + 11 + i)) = true) ∧ ∀ n : Int, N ≤ n → n < 64 → vis Z o n = false
def IV (w h N s : Int) (Z : Int → Int) : Prop := BD w h N s Z ∧ ∀ k : Int, 0 ≤ k → k < Z 1 → TP w h N Z ((2666 + 120 * k))
theorem lkb_c (w n m : Int) : lkb w n m = lkb w m n := by
  unfold lkb
  by_cases h1 : n < m
  · have h2 : ¬ m < n := by omega
    simp only [h1, h2, if_true, if_false]
  · by_cases h2 : m < n
    · simp only [h1, h2, if_true, if_false]
    · obtain rfl : n = m := by omega
      rfl
def nxS (w h n y : Int) : Bool := decide (n < w * h → nx w h n y ≠ -1 → nx w h (nx w h n y) ((y + 2) % 4) = n)
theorem nx_s : ∀ w < 7, ∀ h < 7, ∀ n < 36, ∀ y < 4, nxS (w : Nat) (h : Nat) (n : Nat) (y : Nat) = true := by decide +kernel
theorem nx_back {w h N n y : Int} (g : 0 ≤ w ∧ w ≤ 6 ∧ 0 ≤ h ∧ h ≤ 6 ∧ 0 ≤ N ∧ N ≤ 36 ∧ N = w * h) (n0 : 0 ≤ n) (n1 : n < N) (y0 : 0 ≤ y) (y1 : y < 4) (hx : nx w h n y ≠ -1) : nx w h (nx w h n y) ((y + 2) % 4) = n := by
  have := fin4 nxS nx_s g.1 g.2.1 g.2.2.1 g.2.2.2.1 n0 (by omega) y0 y1
  rw [nxS, decide_eq_true_eq] at this
  rw [← g.2.2.2.2.2.2] at this
  exact this n1 hx
/-- side by side: the link between, the way back -/
theorem adj_l {w h N a b : Int} (g : 0 ≤ w ∧ w ≤ 6 ∧ 0 ≤ h ∧ h ≤ 6 ∧ 0 ≤ N ∧ N ≤ 36 ∧ N = w * h) (a0 : 0 ≤ a) (a1 : a < N) (b0 : 0 ≤ b) (hx : ∃ y : Int, 0 ≤ y ∧ y < 4 ∧ nx w h a y = b) : 0 ≤ lkb w b a ∧ lkb w b a < 72 ∧ ∃ y : Int, 0 ≤ y ∧ y < 4 ∧ nx w h b y = a := by
  obtain ⟨y, y0, y1, rfl⟩ := hx
  have := (nx_b g a0 a1 y0 y1).2.2.2 (by omega)
  rw [lkb_c]
  exact ⟨this.2.1, this.2.2, (y + 2) % 4, by omega, by omega, nx_back g a0 a1 y0 y1 (by omega)⟩
theorem BD.g {w h N s : Int} {Z : Int → Int} (hB : BD w h N s Z) : 0 ≤ w ∧ w ≤ 6 ∧ 0 ≤ h ∧ h ≤ 6 ∧ 0 ≤ N ∧ N ≤ 36 ∧ N = w * h := by
  have := hB.1
  exact ⟨by omega, by omega, by omega, by omega, by omega, by omega, this.2.2.2.2.2.2⟩
/-- the step back's nodes -/
theorem bak_f {w h N s : Int} {Z : Int → Int} {o : Int} (hB : BD w h N s Z) (hb : BP N Z o) (ht : TP w h N Z o) (hl : ¬ Z (o + 6) ≤ 1) : 0 ≤ ahd Z o ∧ ahd Z o < N ∧ 0 ≤ lkd w Z o ∧ lkd w Z o < 72 ∧ ∃ y : Int, 0 ≤ y ∧ y < 4 ∧ nx w h (Z (o + 4)) y = ahd Z o := by
  obtain ⟨⟨t1, t2, t3⟩, t4, t5, t6, t7⟩ := ht
  have hx := t4 (Z (o + 6) - 2) (by omega) (by omega)
  have e : Z (o + 6) - 2 + 1 = Z (o + 6) - 1 := by omega
  rw [e, t2] at hx
  have ha := hb.2.2.1 (Z (o + 6) - 2) (by omega) (by omega)
  have h4 := hb.1
  have := adj_l hB.g ha.1 ha.2 (b := Z (o + 4)) (by omega) hx
  exact ⟨ha.1, ha.2, this.1, this.2.1, this.2.2⟩
/-! ===== the bounds stay ===== -/
theorem vis_s {Y Z : Int → Int} {o : Int} (h1 : Y (o + 9) = Z (o + 9)) (h2 : Y (o + 10) = Z (o + 10)) (n : Int) : vis Y o n = vis Z o n := by
  unfold vis
  rw [h1, h2]
theorem BP.same {N : Int} {Y Z : Int → Int} {o : Int} (h : BP N Z o) (e : ∀ i, o ≤ i → i < o + 120 → Y i = Z i) : BP N Y o := by
  obtain ⟨h1, h2, h3, h4⟩ := h
  unfold BP
  rw [e o (by omega) (by omega), e (o + 1) (by omega) (by omega), e (o + 2) (by omega) (by omega), e (o + 3) (by omega) (by omega), e (o + 4) (by omega) (by omega), e (o + 5) (by omega) (by omega), e (o + 6) (by omega) (by omega), e (o + 7) (by omega) (by omega), e (o + 8) (by omega) (by omega), e (o + 9) (by omega) (by omega), e (o + 10) (by omega) (by omega)]
  exact ⟨h1, h2, fun i i0 i1 => by rw [e (o + 11 + i) (by omega) (by omega)]; exact h3 i i0 i1, fun l l0 l1 => by rw [e (o + 47 + l) (by omega) (by omega)]; exact h4 l l0 l1⟩
theorem TP.same {w h N : Int} {Y Z : Int → Int} {o : Int} (ht : TP w h N Z o) (hb : BP N Z o) (e : ∀ i, o ≤ i → i < o + 120 → Y i = Z i) : TP w h N Y o := by
  obtain ⟨h1, h2, h3, h4, h5⟩ := ht
  have b := hb.1
  have hv := vis_s (e (o + 9) (by omega) (by omega)) (e (o + 10) (by omega) (by omega))
  unfold TP
  rw [e o (by omega) (by omega), e (o + 2) (by omega) (by omega), e (o + 3) (by omega) (by omega), e (o + 4) (by omega) (by omega), e (o + 5) (by omega) (by omega), e (o + 6) (by omega) (by omega), e (o + 11) (by omega) (by omega), e (o + 11 + (Z (o + 6) - 1)) (by omega) (by omega)]
  refine ⟨h1, fun i i0 i1 => ?_, fun i j i0 i1 i2 => ?_, fun i i0 i1 => ?_, fun n n0 n1 => ?_⟩
  · rw [e (o + 11 + i) (by omega) (by omega), e (o + 11 + (i + 1)) (by omega) (by omega)]
    exact h2 i i0 i1
  · rw [e (o + 11 + i) (by omega) (by omega), e (o + 11 + j) (by omega) (by omega)]
    exact h3 i j i0 i1 i2
  · rw [e (o + 11 + i) (by omega) (by omega), hv]
    exact h4 i i0 i1
  · rw [hv]
    exact h5 n n0 n1
theorem BD.k {w h N s : Int} {Y Z : Int → Int} {k : Int} (hB : BD w h N s Z) (k0 : 0 ≤ k) (ha : agr ((2666 + 120 * k)) ((2666 + 120 * k) + 120) Y Z) (hp : BP N Y ((2666 + 120 * k))) : BD w h N s Y := by
  obtain ⟨b1, b2, b3, b4, b5⟩ := hB
  refine ⟨b1, ?_, fun l l0 l1 => ?_, fun i i0 i1 => ?_, fun j j0 j1 => ?_⟩
  · rw [ha 0 (by omega), ha 1 (by omega)]; exact b2
  · rw [ha (2 + l) (by omega)]; exact b3 l l0 l1
  · rw [ha (74 + i) (by omega)]; exact b4 i i0 i1
  · rw [ha 1 (by omega)] at j1
    by_cases hjk : j = k
    · rw [hjk]; exact hp
    · exact (b5 j j0 j1).same (fun i i0 i1 => ha i (by omega))
theorem BD.l {w h N s : Int} {Y Z : Int → Int} (hB : BD w h N s Z) (ha : agr 74 2666 Y Z) (hp : ∀ i : Int, 0 ≤ i → i < 2592 → -1 ≤ Y (74 + i) ∧ Y (74 + i) ≤ 31000) : BD w h N s Y := by
  obtain ⟨b1, b2, b3, b4, b5⟩ := hB
  refine ⟨b1, ?_, fun l l0 l1 => ?_, hp, fun j j0 j1 => ?_⟩
  · rw [ha 0 (by omega), ha 1 (by omega)]; exact b2
  · rw [ha (2 + l) (by omega)]; exact b3 l l0 l1
  · rw [ha 1 (by omega)] at j1
    exact (b5 j j0 j1).same (fun i i0 i1 => ha i (by omega))
theorem IV.k {w h N s : Int} {Y Z : Int → Int} {k : Int} (hI : IV w h N s Z) (k0 : 0 ≤ k) (ha : agr ((2666 + 120 * k)) ((2666 + 120 * k) + 120) Y Z) (hp : BP N Y ((2666 + 120 * k))) (ht : TP w h N Y ((2666 + 120 * k))) : IV w h N s Y := by
  refine ⟨hI.1.k k0 ha hp, fun j j0 j1 => ?_⟩
  rw [ha 1 (by omega)] at j1
  by_cases hjk : j = k
  · rw [hjk]; exact ht
  · exact (hI.2 j j0 j1).same (hI.1.2.2.2.2 j j0 j1) (fun i i0 i1 => ha i (by omega))
theorem IV.l {w h N s : Int} {Y Z : Int → Int} (hI : IV w h N s Z) (ha : agr 74 2666 Y Z) (hp : ∀ i : Int, 0 ≤ i → i < 2592 → -1 ≤ Y (74 + i) ∧ Y (74 + i) ≤ 31000) : IV w h N s Y := by
  refine ⟨hI.1.l ha hp, fun j j0 j1 => ?_⟩
  rw [ha 1 (by omega)] at j1
  exact (hI.2 j j0 j1).same (hI.1.2.2.2.2 j j0 j1) (fun i i0 i1 => ha i (by omega))
theorem agr_lrn {Z : Int → Int} {n l t : Int} (n0 : 0 ≤ n) (n1 : n < 36) (l0 : 0 ≤ l) (l1 : l < 72) : agr 74 2666 (zlrn Z n l t) Z := (agr.refl _ _ _).zu (by omega) (by omega)
theorem lrn_b {w h N s : Int} {Z : Int → Int} {n l t : Int} (hB : BD w h N s Z) (t0 : -1 ≤ t) (t1 : t ≤ 31000) : ∀ i : Int, 0 ≤ i → i < 2592 → -1 ≤ zlrn Z n l t (74 + i) ∧ zlrn Z n l t (74 + i) ≤ 31000 := by
  intro i i0 i1
  have := hB.2.2.2.1 i i0 i1
  unfold zlrn
  by_cases he : 74 + i = 74 + 72 * n + l
  · rw [← he, zu_at]; split <;> omega
  · rw [zu_ne he]; exact this
theorem IV.lrn {w h N s : Int} {Z : Int → Int} {n l t : Int} (hI : IV w h N s Z) (n0 : 0 ≤ n) (n1 : n < 36) (l0 : 0 ≤ l) (l1 : l < 72) (t0 : -1 ≤ t) (t1 : t ≤ 31000) : IV w h N s (zlrn Z n l t) := hI.l (agr_lrn n0 n1 l0 l1) (lrn_b hI.1 t0 t1)
