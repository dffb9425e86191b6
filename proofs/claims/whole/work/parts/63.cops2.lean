/-! ===== what the calls do to the state ===== -/
abbrev AR : Type := AS × (Int × Int)
def op1 (p : Prop) [Decidable p] (A : AS) (r : AR) : AR := if p then r else (A, (1, 0))
def op2 (p q : Prop) [Decidable p] [Decidable q] (A : AS) (r : AR) : AR := if p then (if q then r else (A, (2, 0))) else (A, (1, 0))
/-- a step that can be undone -/
def psh (A : AS) (Y : Int → Int) (v : Int) : AR := ((A.1, Y, (hpn A.2.2.1.1, hpH A.2.2.1.1 A.2.2.1.2 A.2.1), A.2.2.2), (0, v))
def oSend (A : AS) (a b l : Int) : AR := if a = b then (A, (0, -4)) else if 24 ≤ A.2.1 1 then (A, (0, -2)) else psh A (zadd A.2.1 a b l) (A.2.1 1)
def oTick (A : AS) (t : Int) : AR := if 30000 < A.2.1 0 + t then (A, (0, -2)) else psh A (zps A.1.1 A.1.2.1 A.1.2.2.1 A.1.2.2.2 t.toNat A.2.1) (A.2.1 0 + t)
def dcn (Z : Int → Int) : Int := cntz (fun l => decide (Z (2 + l) ≠ 0)) 0 72 0
def oTurn (A : AS) (n y d : Int) : AR := if lka A.1.1 A.1.2.1 A.1.2.2.1 n y = -1 ∨ A.2.1 (2 + lka A.1.1 A.1.2.1 A.1.2.2.1 n y) = d then (A, (0, -4)) else psh A (zu A.2.1 (2 + lka A.1.1 A.1.2.1 A.1.2.2.1 n y) d) (dcn (zu A.2.1 (2 + lka A.1.1 A.1.2.1 A.1.2.2.1 n y) d))
def oForget (A : AS) (n : Int) : AR := psh A (zfgt A.2.1 n) (cntz (lsn A.1.2.2.2 A.2.1 0 n) 0 72 0)
def oUndo (A : AS) : AR := if A.2.2.1.1 = 0 then (A, (0, -1)) else ((A.1, A.2.2.1.2 (A.2.2.1.1 - 1), (A.2.2.1.1 - 1, A.2.2.1.2), A.2.2.2), (0, A.2.2.1.1 - 1))
def oSave (A : AS) (p : Int) : AR := if 0 ≤ p ∧ p < 2 then ((A.1, A.2.1, A.2.2.1, ((fun q => if q = p then true else A.2.2.2.1.1 q), (fun q => if q = p then A.2.1 else A.2.2.2.1.2 q)), A.2.2.2.2), (0, 1)) else (A, (0, 0))
def oRest (A : AS) (p : Int) : AR := if 0 ≤ p ∧ p < 2 ∧ A.2.2.2.1.1 p = true then ((A.1, A.2.2.2.1.2 p, (0, A.2.2.1.2), A.2.2.2), (0, 1)) else (A, (0, 0))
def xSend (A : AS) (a b l : Int) : AR := op2 ((0 ≤ a ∧ a < A.1.2.2.1) ∧ 0 ≤ b ∧ b < A.1.2.2.1) (1 ≤ l ∧ l ≤ 200) A (oSend A a b l)
def xTick (A : AS) (t : Int) : AR := op1 (1 ≤ t ∧ t ≤ 500) A (oTick A t)
def xTurn (A : AS) (n y d : Int) : AR := op2 (0 ≤ n ∧ n < A.1.2.2.1) (0 ≤ y ∧ y < 4) A (oTurn A n y d)
def xForget (A : AS) (n : Int) : AR := op1 (0 ≤ n ∧ n < A.1.2.2.1) A (oForget A n)
/-- the class does it -/
def CQ (μ : XM) (x : Nat) (Q : XQ) (X : XX) (e1 e2 : String) (r : AR) : Prop := ∀ μ', CH (inX x) μ' μ → XS μ' x r.1 → ocC Q X μ' e1 e2 r.2
section
variable {w h N s : Int} {Z : Int → Int}
theorem isl_lka {w h N n y : Int} (g : 0 ≤ w ∧ w ≤ 6 ∧ 0 ≤ h ∧ h ≤ 6 ∧ 0 ≤ N ∧ N ≤ 36 ∧ N = w * h) (hl : lka w h N n y ≠ -1) : isl w h N (lka w h N n y) = true := by
  have hn : nxt w h N n y ≠ -1 := fun q => hl ((lka_no g).mpr q)
  obtain ⟨a0, a1, a2, a3, a4⟩ := (nxt_b (z := n) (y := y) g).2.2 hn
  have F : ∀ w < 7, ∀ h < 7, ∀ n < 36, ∀ y < 4, (fun w h n y : Int => decide (n < w * h → nx w h n y ≠ -1 → 0 ≤ lkb w n (nx w h n y) ∧ nxt w h (w * h) (lkb w n (nx w h n y) / 2) (lkb w n (nx w h n y) % 2) ≠ -1)) (w : Nat) (h : Nat) (n : Nat) (y : Nat) = true := by decide +kernel
  have := fin4 (fun w h n y : Int => decide (n < w * h → nx w h n y ≠ -1 → 0 ≤ lkb w n (nx w h n y) ∧ nxt w h (w * h) (lkb w n (nx w h n y) / 2) (lkb w n (nx w h n y) % 2) ≠ -1)) F g.1 g.2.1 g.2.2.1 g.2.2.2.1 a0 (by omega) a2 a3
  rw [decide_eq_true_eq, ← g.2.2.2.2.2.2] at this
  have hx := nxt_in (w := w) (h := h) a0 a1 a2 a3
  rw [hx] at hn
  unfold lka isl
  rw [hx, if_neg hn, decide_eq_true_eq]
  exact this a1 hn
theorem IV.dd (hI : IV w h N s Z) {l v : Int} (l0 : 0 ≤ l) (l1 : l < 72) (v0 : v = 0 ∨ v = 1) : IV w h N s (zu Z (2 + l) v) := by
  have hp : ∀ k : Int, 0 ≤ k → ∀ i, (2666 + 120 * k) ≤ i → i < (2666 + 120 * k) + 120 → zu Z (2 + l) v i = Z i := fun k k0 i i0 i1 => zu_ne (by omega)
  have hB := hI.1
  have e1 : zu Z (2 + l) v 1 = Z 1 := zu_ne (by omega)
  have e0 : zu Z (2 + l) v 0 = Z 0 := zu_ne (by omega)
  obtain ⟨b1, b2, b3, b4, b5⟩ := hB
  refine ⟨⟨b1, ?_, fun m m0 m1 => ?_, fun i i0 i1 => ?_, fun j j0 j1 => ?_⟩, fun j j0 j1 => ?_⟩
  · rw [e1, e0]; exact b2
  · by_cases e : m = l
    · rw [e, zu_at]; exact v0
    · rw [zu_ne (by omega)]; exact b3 m m0 m1
  · rw [zu_ne (by omega)]; exact b4 i i0 i1
  · rw [e1] at j1; exact (b5 j j0 j1).same (hp j j0)
  · rw [e1] at j1; exact (hI.2 j j0 j1).same (b5 j j0 j1) (hp j j0)
theorem IV.fgt (hI : IV w h N s Z) {n : Int} (n0 : 0 ≤ n) (n1 : n < 36) : IV w h N s (zfgt Z n) := by
  refine hI.l (fun i hi => zrow_ne (by omega)) (fun i i0 i1 => ?_)
  have := hI.1.2.2.2.1 i i0 i1
  unfold zfgt
  by_cases e : 74 + 72 * n ≤ 74 + i ∧ 74 + i < 74 + 72 * n + (72 : Nat)
  · rw [zrow_in e]; omega
  · rw [zrow_ne (by omega)]; exact this
theorem OK.add (hk : OK w h N s Z) (h1 : Z 1 < 24) {a b l : Int} (a0 : 0 ≤ a) (a1 : a < N) (b0 : 0 ≤ b) (b1 : b < N) (l0 : 1 ≤ l) (l1 : l ≤ 200) : OK w h N s (zadd Z a b l) := by
  have hb := hk.1.1.2.1
  have hw := hk.1.1.1
  obtain ⟨f1, f2⟩ := zadd_f (Z := Z) (a := a) (b := b) (l := l) (by omega) a0 (by omega)
  refine ⟨hk.1.add (by omega) (by omega) a0 a1 b0 b1 l0 l1, ?_, by omega, fun m m0 m1 => ?_⟩
  · rw [f2 0 (by omega) (by omega)]; exact hk.2.1
  · rw [f2 (2 + m) (by omega) (by omega)]; exact hk.2.2.2 m m0 m1
theorem OK.ps (hk : OK w h N s Z) {t : Nat} (ht : Z 0 + t ≤ 30000) : OK w h N s (zps w h N s t Z) := by
  obtain ⟨f1, f2, f3⟩ := ps_f hk.1 t (by omega)
  refine ⟨f1, by omega, by rw [f3 1 (by omega) (by omega)]; exact hk.2.2.1, fun m m0 m1 => ?_⟩
  rw [f3 (2 + m) (by omega) (by omega)]; exact hk.2.2.2 m m0 m1
theorem OK.dd (hk : OK w h N s Z) {l v : Int} (l0 : 0 ≤ l) (l1 : l < 72) (v0 : v = 0 ∨ v = 1) (hi : isl w h N l = true) : OK w h N s (zu Z (2 + l) v) := by
  refine ⟨hk.1.dd l0 l1 v0, by rw [zu_ne (by omega)]; exact hk.2.1, by rw [zu_ne (by omega)]; exact hk.2.2.1, fun m m0 m1 => ?_⟩
  by_cases e : m = l
  · rw [e]; exact fun _ => hi
  · rw [zu_ne (by omega)]; exact hk.2.2.2 m m0 m1
theorem OK.fgt (hk : OK w h N s Z) {n : Int} (n0 : 0 ≤ n) (n1 : n < 36) : OK w h N s (zfgt Z n) := by
  have e : ∀ i, i < 74 → zfgt Z n i = Z i := fun i hi => zrow_ne (by omega)
  refine ⟨hk.1.fgt n0 n1, by rw [e 0 (by omega)]; exact hk.2.1, by rw [e 1 (by omega)]; exact hk.2.2.1, fun m m0 m1 => ?_⟩
  rw [e (2 + m) (by omega)]; exact hk.2.2.2 m m0 m1
/-- the dead links are links -/
theorem dcn_c (hk : OK w h N s Z) {d : Decidable False} : cntz (fun l => isl w h N l && (@decide False d || decide (Z (2 + l) ≠ 0))) 0 72 0 = dcn Z := by
  refine cntz_congr 72 0 0 (fun k k0 k1 => ?_)
  have := hk.2.2.2 k k0 (by omega)
  by_cases hz : Z (2 + k) = 0
  · simp [hz]
  · simp [hz, this hz]
theorem INV.psh {A : AS} (hi : INV A) {Y : Int → Int} (hy : OK A.1.1 A.1.2.1 A.1.2.2.1 A.1.2.2.2 Y) (v : Int) : INV (psh A Y v).1 := by
  obtain ⟨⟨w, h, N, s⟩, Z, ⟨n, H⟩, V, T, E, O⟩ := A
  obtain ⟨h1, ⟨h2, h3, h4⟩, h5, h6, h7, h8⟩ := hi
  refine ⟨hy, ⟨?_, ?_, fun j j0 j1 => ?_⟩, h5, h6, h7, h8⟩
  · show 0 ≤ hpn n
    unfold hpn; simp only at h2 h3; split <;> omega
  · show hpn n ≤ 12
    unfold hpn; simp only at h2 h3; split <;> omega
  · show OK w h N s (hpH n H Z j)
    have j1' : j < hpn n := j1
    unfold hpn at j1'
    unfold hpH
    simp only at h2 h3 h4
    by_cases hn : n < 12
    · rw [if_pos hn] at j1' ⊢
      by_cases e : j = n
      · rw [if_pos e]; exact h1
      · rw [if_neg e]; exact h4 j j0 (by omega)
    · rw [if_neg hn] at j1' ⊢
      by_cases e : j = 11
      · rw [if_pos e]; exact h1
      · rw [if_neg e]; exact h4 (j + 1) (by omega) (by omega)
theorem INV.send {A : AS} (hi : INV A) {a b l : Int} (a0 : 0 ≤ a) (a1 : a < A.1.2.2.1) (b0 : 0 ≤ b) (b1 : b < A.1.2.2.1) (l0 : 1 ≤ l) (l1 : l ≤ 200) : INV (oSend A a b l).1 := by
  unfold oSend
  (repeat' split)
  · exact hi
  · exact hi
  · exact hi.psh (hi.1.add (by omega) a0 a1 b0 b1 l0 l1) _
theorem INV.tick {A : AS} (hi : INV A) {t : Int} (t0 : 1 ≤ t) : INV (oTick A t).1 := by
  unfold oTick
  split
  · exact hi
  · exact hi.psh (hi.1.ps (by omega)) _
theorem INV.turn {A : AS} (hi : INV A) {n y d : Int} (d0 : d = 0 ∨ d = 1) : INV (oTurn A n y d).1 := by
  unfold oTurn
  split
  · exact hi
  · have hl := lka_b (z := n) (y := y) hi.1.1.1.g
    exact hi.psh (hi.1.dd (by omega) (by omega) d0 (isl_lka hi.1.1.1.g (by omega))) _
theorem INV.forget {A : AS} (hi : INV A) {n : Int} (n0 : 0 ≤ n) (n1 : n < A.1.2.2.1) : INV (oForget A n).1 := by
  have := hi.1.1.1.1
  exact hi.psh (hi.1.fgt n0 (by omega)) _
theorem INV.undo {A : AS} (hi : INV A) : INV (oUndo A).1 := by
  obtain ⟨⟨w, h, N, s⟩, Z, ⟨n, H⟩, V, T, E, O⟩ := A
  unfold oUndo
  by_cases hn : n = 0
  · rw [if_pos hn]; exact hi
  · rw [if_neg hn]
    obtain ⟨h1, ⟨h2, h3, h4⟩, h5, h6, h7, h8⟩ := hi
    simp only at h2 h3 h4
    exact ⟨h4 (n - 1) (by omega) (by omega), ⟨by simp only; omega, by simp only; omega, fun j j0 j1 => h4 j j0 (by simp only at j1; omega)⟩, h5, h6, h7, h8⟩
theorem INV.save {A : AS} (hi : INV A) {p : Int} : INV (oSave A p).1 := by
  obtain ⟨⟨w, h, N, s⟩, Z, ⟨n, H⟩, ⟨v, S⟩, T, E, O⟩ := A
  unfold oSave
  by_cases hn : 0 ≤ p ∧ p < 2
  · rw [if_pos hn]
    obtain ⟨h1, h2, h5, h6, h7, h8⟩ := hi
    refine ⟨h1, h2, fun q hq => ?_, h6, h7, h8⟩
    simp only at h5 hq ⊢
    by_cases e : q = p
    · rw [if_pos e]; exact h1
    · rw [if_neg e] at hq ⊢; exact h5 q hq
  · rw [if_neg hn]; exact hi
theorem INV.rest {A : AS} (hi : INV A) {p : Int} : INV (oRest A p).1 := by
  obtain ⟨⟨w, h, N, s⟩, Z, ⟨n, H⟩, ⟨v, S⟩, T, E, O⟩ := A
  unfold oRest
  by_cases hn : 0 ≤ p ∧ p < 2 ∧ v p = true
  · rw [if_pos hn]
    obtain ⟨h1, ⟨h2, h3, h4⟩, h5, h6, h7, h8⟩ := hi
    exact ⟨h5 p hn.2.2, ⟨by simp only; omega, by simp only; omega, fun j j0 j1 => by simp only at j1; omega⟩, h5, h6, h7, h8⟩
  · rw [if_neg hn]; exact hi
end
