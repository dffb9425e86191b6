/-! ===== the text of load ===== -/
/-- what is read so far: width, height, its time (-1: none), the block -/
abbrev YS : Type := Int × Int × Int × (Int → Int)
abbrev YP : Type := (Int × Int) ⊕ (YS × Int)
def sst (t : Int) : Int := if t = -1 then 50 else t
def bd {α β : Type} (r : (Int × Int) ⊕ α) (f : α → (Int × Int) ⊕ β) : (Int × Int) ⊕ β := match r with
  | .inl e => .inl e
  | .inr a => f a
theorem bd_r {α β : Type} {r : (Int × Int) ⊕ α} {f : α → (Int × Int) ⊕ β} {b : β} (h : bd r f = .inr b) : ∃ a, r = .inr a ∧ f a = .inr b := by
  cases r with
  | inl e => simp [bd] at h
  | inr a => exact ⟨a, rfl, h⟩
theorem bd_i {α β : Type} {e : Int × Int} {f : α → (Int × Int) ⊕ β} : bd (.inl e) f = .inl e := rfl
theorem bd_j {α β : Type} {a : α} {f : α → (Int × Int) ⊕ β} : bd (.inr a) f = f a := rfl
noncomputable def yN (l : Int) (T : Int → Int) (w h n p : Int) : (Int × Int) ⊕ (Int × Int × Int) := bd (pW l T p) (fun b => if lka w h (w * h) n b.1 = -1 then .inl (3, tB l T p) else .inr (lka w h (w * h) n b.1, tB l T p, b.2))
noncomputable def yK (l : Int) (T : Int → Int) (w h p : Int) : (Int × Int) ⊕ (Int × Int × Int) := bd (pN l T 0 (w * h - 1) p) (fun a => yN l T w h a.1 a.2)
def yQ (l : Int) (T : Int → Int) (S : YS) (p : Int) : YP := bd (pS l T p) (fun a => .inr (S, a.2))
def yG (l : Int) (T : Int → Int) (S : YS) (p : Int) : YP := bd (pN l T 1 6 p) (fun a => bd (pN l T 1 6 a.2) (fun b => yQ l T (a.1, b.1, S.2.2.1, S.2.2.2) b.2))
def yT (l : Int) (T : Int → Int) (S : YS) (p : Int) : YP := bd (pN l T 1 1000 p) (fun a => yQ l T (S.1, S.2.1, a.1, S.2.2.2) a.2)
noncomputable def yD (l : Int) (T : Int → Int) (S : YS) (p : Int) : YP := bd (yK l T S.1 S.2.1 p) (fun a => if S.2.2.2 (2 + a.1) = 1 then .inl (4, a.2.1) else yQ l T (S.1, S.2.1, S.2.2.1, zu S.2.2.2 (2 + a.1) 1) a.2.2)
noncomputable def yE (l : Int) (T : Int → Int) (S : YS) (p : Int) : YP := bd (pN l T 0 (S.1 * S.2.1 - 1) p) (fun a => bd (yK l T S.1 S.2.1 a.2) (fun b => yQ l T (S.1, S.2.1, S.2.2.1, zlrn S.2.2.2 a.1 b.1 0) b.2.2))
noncomputable def yL (l : Int) (T : Int → Int) (k : Int) (S : YS) (p : Int) : YP := by
  classical exact if tW l T (tB l T p) (STX 0) then (if k = 0 then yG l T S (tE l T (tB l T p)) else .inl (4, tB l T p)) else if tW l T (tB l T p) (STX 1) then (if S.2.2.1 = -1 then yT l T S (tE l T (tB l T p)) else .inl (4, tB l T p)) else if tW l T (tB l T p) (STX 2) then yD l T S (tE l T (tB l T p)) else if tW l T (tB l T p) (STX 7) then yE l T S (tE l T (tB l T p)) else .inl (1, tB l T p)
noncomputable def yM (l : Int) (T : Int → Int) : Nat → Int → Int → YS → (Int × Int) ⊕ YS
  | 0, _, _, S => .inr S
  | d + 1, p, k, S => if tK l T (tB l T p) = 0 then .inr S else bd (yL l T k S p) (fun a => yM l T d a.2 (k + 1) a.1)
/-- what holds while it is read -/
def yI (k : Int) (S : YS) : Prop := OK S.1 S.2.1 (S.1 * S.2.1) (sst S.2.2.1) S.2.2.2 ∧ (S.2.2.2 0 = 0 ∧ S.2.2.2 1 = 0) ∧ (∀ i, 0 ≤ i → i < 2592 → S.2.2.2 (74 + i) ≤ 0) ∧ (S.2.2.1 = -1 ∨ 1 ≤ S.2.2.1) ∧ (k = 0 → S.2.2.2 = zemp) ∧ ∀ i, 2666 ≤ i → S.2.2.2 i = 0
section
variable {l p k : Int} {T : Int → Int} {S S' : YS} {w h s : Int}
theorem tK_z {s : Int} (h : tK l T s ≠ 0) : s < l := by
  unfold tK at h
  by_cases h1 : l ≤ s
  · rw [if_pos h1] at h; exact absurd rfl h
  · omega
theorem pN_p {lo hi : Int} {a : Int × Int} (hp : p ≤ l) (h : pN l T lo hi p = .inr a) : p < a.2 ∧ a.2 ≤ l := by
  unfold pN at h
  have b1 := tB_b (T := T) hp
  have b2 := tE_b (T := T) b1.2
  by_cases h2 : tK l T (tB l T p) = 2
  · have h3 := b2.2.2 (tK_z (T := T) (by omega))
    rw [if_pos h2] at h
    by_cases h4 : lo ≤ tV l T (tB l T p) ∧ tV l T (tB l T p) ≤ hi
    · rw [if_pos h4] at h
      simp at h
      subst h
      simp only
      omega
    · rw [if_neg h4] at h; simp at h
  · rw [if_neg h2] at h; simp at h
theorem pS_p {a : Int × Int} (hp : p ≤ l) (h : pS l T p = .inr a) : p < a.2 ∧ a.2 ≤ l := by
  unfold pS at h
  have b1 := tB_b (T := T) hp
  have b2 := tE_b (T := T) b1.2
  by_cases h2 : tK l T (tB l T p) = 3
  · have h3 := b2.2.2 (tK_z (T := T) (by omega))
    rw [if_pos h2] at h
    simp at h
    subst h
    simp only
    omega
  · rw [if_neg h2] at h; simp at h
theorem pW_e {a : Int × Int} (h : pW l T p = .inr a) : a.2 = tE l T (tB l T p) ∧ tK l T (tB l T p) = 1 ∧ 0 ≤ a.1 ∧ a.1 < 4 := by
  unfold pW at h
  by_cases h3 : tW l T (tB l T p) (STX 3)
  · rw [if_pos h3] at h; simp at h; subst h; exact ⟨rfl, h3.1, by simp only; omega, by simp only; omega⟩
  rw [if_neg h3] at h
  by_cases h4 : tW l T (tB l T p) (STX 4)
  · rw [if_pos h4] at h; simp at h; subst h; exact ⟨rfl, h4.1, by simp only; omega, by simp only; omega⟩
  rw [if_neg h4] at h
  by_cases h5 : tW l T (tB l T p) (STX 5)
  · rw [if_pos h5] at h; simp at h; subst h; exact ⟨rfl, h5.1, by simp only; omega, by simp only; omega⟩
  rw [if_neg h5] at h
  by_cases h6 : tW l T (tB l T p) (STX 6)
  · rw [if_pos h6] at h; simp at h; subst h; exact ⟨rfl, h6.1, by simp only; omega, by simp only; omega⟩
  rw [if_neg h6] at h
  simp at h
theorem pW_p {a : Int × Int} (hp : p ≤ l) (h : pW l T p = .inr a) : p < a.2 ∧ a.2 ≤ l := by
  have b1 := tB_b (T := T) hp
  have b2 := tE_b (T := T) b1.2
  have h2 := pW_e h
  have h3 := b2.2.2 (tK_z (T := T) (by omega))
  omega
theorem yK_b {a : Int × Int × Int} (hp : p ≤ l) (h : yK l T w s p = .inr a) : (p < a.2.2 ∧ a.2.2 ≤ l) ∧ ∃ n y, (0 ≤ n ∧ n < w * s) ∧ (0 ≤ y ∧ y < 4) ∧ lka w s (w * s) n y = a.1 ∧ a.1 ≠ -1 := by
  obtain ⟨n, n1, h⟩ := bd_r h
  obtain ⟨y, y1, h⟩ := bd_r h
  have hn := pN_p hp n1
  have hy := pW_p hn.2 y1
  have hb := pN_b (v := n.1) (p' := n.2) n1
  have hy2 := pW_e y1
  by_cases h1 : lka w s (w * s) n.1 y.1 = -1
  · rw [if_pos h1] at h; simp at h
  · rw [if_neg h1] at h
    simp at h
    subst h
    exact ⟨⟨by simp only; omega, hy.2⟩, n.1, y.1, by omega, hy2.2.2, rfl, h1⟩
theorem yQ_p {a : YS × Int} (hp : p ≤ l) (h : yQ l T S p = .inr a) : (p < a.2 ∧ a.2 ≤ l) ∧ a.1 = S := by
  obtain ⟨b, b1, h⟩ := bd_r h
  have hb := pS_p hp b1
  simp at h
  subst h
  exact ⟨hb, rfl⟩
theorem OK_zemp {t : Int} (w1 : 1 ≤ w) (w2 : w ≤ 6) (h1 : 1 ≤ h) (h2 : h ≤ 6) (t0 : 1 ≤ t) (t1 : t ≤ 1000) : OK w h (w * h) t zemp := by
  have z0 : zemp 0 = 0 := rfl
  have z1 : zemp 1 = 0 := rfl
  have zd : ∀ l, 0 ≤ l → l < 72 → zemp (2 + l) = 0 := fun l l0 l1 => if_neg (by omega)
  have hN : 1 ≤ w * h ∧ w * h ≤ 36 := by
    constructor
    · have := Int.mul_le_mul w1 h1 (by omega) (by omega)
      omega
    · have := Int.mul_le_mul w2 h2 (by omega) (by omega)
      omega
  refine ⟨⟨⟨⟨w1, w2, h1, h2, hN.1, hN.2, rfl⟩, ⟨t0, t1, by omega, by omega, by omega, by omega⟩, fun l l0 l1 => Or.inl (zd l l0 l1), fun i i0 i1 => ?_, fun k k0 k1 => by omega⟩, fun k k0 k1 => by omega⟩, by omega, by omega, fun l l0 l1 hl => absurd (zd l l0 l1) hl⟩
  have : zemp (74 + i) = -1 := if_pos (by omega)
  omega
theorem yI_0 : yI 0 (1, 1, -1, zemp) := by
  refine ⟨OK_zemp (w := 1) (h := 1) (t := 50) (by omega) (by omega) (by omega) (by omega) (by omega) (by omega), ⟨rfl, rfl⟩, fun i i0 i1 => ?_, Or.inl rfl, fun _ => rfl, fun i hi => if_neg (by omega)⟩
  have : zemp (74 + i) = -1 := if_pos (by omega)
  show zemp (74 + i) ≤ 0
  omega
theorem sst_b (hi : yI k S) : 1 ≤ sst S.2.2.1 ∧ sst S.2.2.1 ≤ 1000 := by
  have := hi.1.1.1.2.1
  omega
theorem yI.grid (hi : yI 0 S) (w1 : 1 ≤ w) (w2 : w ≤ 6) (h1 : 1 ≤ h) (h2 : h ≤ 6) : yI 1 (w, h, S.2.2.1, S.2.2.2) := by
  have hb := sst_b hi
  obtain ⟨i1, i2, i3, i4, i5, i6⟩ := hi
  have e := i5 rfl
  refine ⟨?_, i2, i3, i4, fun q => absurd q (by decide), i6⟩
  simp only [e]
  exact OK_zemp w1 w2 h1 h2 hb.1 hb.2
theorem yI.stale {t : Int} (hi : yI k S) (k0 : 0 ≤ k) (t0 : 1 ≤ t) (t1 : t ≤ 1000) : yI (k + 1) (S.1, S.2.1, t, S.2.2.2) := by
  obtain ⟨⟨⟨⟨b1, b2, b3⟩, i2⟩, i3⟩, i4, i5, i6, i7, i8⟩ := hi
  have e : sst t = t := if_neg (by omega)
  refine ⟨⟨⟨⟨b1, ?_, b3⟩, i2⟩, i3⟩, i4, i5, Or.inr t0, fun q => by omega, i8⟩
  simp only [e]
  exact ⟨t0, t1, b2.2.2⟩
theorem yI.dead {n y : Int} (hi : yI k S) (k0 : 0 ≤ k) (hl : lka S.1 S.2.1 (S.1 * S.2.1) n y ≠ -1) : yI (k + 1) (S.1, S.2.1, S.2.2.1, zu S.2.2.2 (2 + lka S.1 S.2.1 (S.1 * S.2.1) n y) 1) := by
  have g := hi.1.1.1.g
  have hb := lka_b (z := n) (y := y) g
  have hs := isl_lka g hl
  obtain ⟨i1, i2, i3, i4, i5, i6⟩ := hi
  refine ⟨i1.dd (by omega) (by omega) (Or.inr rfl) hs, ⟨?_, ?_⟩, fun i i0 i1 => ?_, i4, fun q => by omega, fun i i0 => ?_⟩
  · show zu _ _ _ 0 = 0
    rw [zu_ne (by omega)]; exact i2.1
  · show zu _ _ _ 1 = 0
    rw [zu_ne (by omega)]; exact i2.2
  · show zu _ _ _ (74 + i) ≤ 0
    rw [zu_ne (by omega)]; exact i3 i i0 i1
  · show zu _ _ _ i = 0
    rw [zu_ne (by omega)]; exact i6 i i0
theorem zlrn_0 {Z : Int → Int} {n m : Int} (hz : ∀ i, 0 ≤ i → i < 2592 → Z (74 + i) ≤ 0) (n0 : 0 ≤ n) (n1 : n < 36) (m0 : 0 ≤ m) (m1 : m < 72) : zlrn Z n m 0 = zu Z (74 + 72 * n + m) 0 := by
  have := hz (72 * n + m) (by omega) (by omega)
  rw [← Int.add_assoc] at this
  unfold zlrn
  congr 1
  split <;> omega
theorem yI.les {n m : Int} (hi : yI k S) (k0 : 0 ≤ k) (n0 : 0 ≤ n) (n1 : n < 36) (m0 : 0 ≤ m) (m1 : m < 72) : yI (k + 1) (S.1, S.2.1, S.2.2.1, zlrn S.2.2.2 n m 0) := by
  obtain ⟨⟨i1, i1a, i1b, i1c⟩, i2, i3, i4, i5, i6⟩ := hi
  have e := zlrn_0 i3 n0 n1 m0 m1
  refine ⟨⟨i1.lrn n0 n1 m0 m1 (by omega) (by omega), ?_, ?_, fun j j0 j1 => ?_⟩, ⟨?_, ?_⟩, fun i i0 i1 => ?_, i4, fun q => by omega, fun i i0 => ?_⟩
  · show zlrn _ _ _ _ 0 ≤ _
    rw [e, zu_ne (by omega)]; exact i1a
  · show zlrn _ _ _ _ 1 ≤ _
    rw [e, zu_ne (by omega)]; exact i1b
  · show zlrn _ _ _ _ (2 + j) ≠ 0 → _
    rw [e, zu_ne (by omega)]; exact i1c j j0 j1
  · show zlrn _ _ _ _ 0 = 0
    rw [e, zu_ne (by omega)]; exact i2.1
  · show zlrn _ _ _ _ 1 = 0
    rw [e, zu_ne (by omega)]; exact i2.2
  · show zlrn _ _ _ _ (74 + i) ≤ 0
    rw [e]
    by_cases q : 74 + i = 74 + 72 * n + m
    · rw [q, zu_at]; omega
    · rw [zu_ne q]; exact i3 i i0 i1
  · show zlrn _ _ _ _ i = 0
    rw [e, zu_ne (by omega)]; exact i6 i i0
theorem yL_i {a : YS × Int} (hi : yI k S) (k0 : 0 ≤ k) (hp : p ≤ l) (h : yL l T k S p = .inr a) : yI (k + 1) a.1 ∧ p < a.2 ∧ a.2 ≤ l := by
  have b1 := tB_b (T := T) hp
  have b2 := tE_b (T := T) b1.2
  have hN := hi.1.1.1.1
  have g := hi.1.1.1.g
  unfold yL at h
  by_cases c0 : tW l T (tB l T p) (STX 0)
  · rw [if_pos c0] at h
    by_cases hk : k = 0
    · rw [if_pos hk] at h
      subst hk
      obtain ⟨w, w1, h⟩ := bd_r h
      obtain ⟨v, v1, h⟩ := bd_r h
      have hw := pN_p b2.2.1 w1
      have hv := pN_p hw.2 v1
      have hq := yQ_p hv.2 h
      have wb := pN_b (v := w.1) (p' := w.2) w1
      have vb := pN_b (v := v.1) (p' := v.2) v1
      rw [hq.2]
      exact ⟨hi.grid wb.1 wb.2 vb.1 vb.2, by omega, hq.1.2⟩
    · rw [if_neg hk] at h; simp at h
  rw [if_neg c0] at h
  by_cases c1 : tW l T (tB l T p) (STX 1)
  · rw [if_pos c1] at h
    by_cases hk : S.2.2.1 = -1
    · rw [if_pos hk] at h
      obtain ⟨w, w1, h⟩ := bd_r h
      have hw := pN_p b2.2.1 w1
      have hq := yQ_p hw.2 h
      have wb := pN_b (v := w.1) (p' := w.2) w1
      rw [hq.2]
      exact ⟨hi.stale k0 wb.1 wb.2, by omega, hq.1.2⟩
    · rw [if_neg hk] at h; simp at h
  rw [if_neg c1] at h
  by_cases c2 : tW l T (tB l T p) (STX 2)
  · rw [if_pos c2] at h
    obtain ⟨w, w1, h⟩ := bd_r h
    have hw := yK_b b2.2.1 w1
    obtain ⟨hw, n, y, n1, y1, e1, e2⟩ := hw
    by_cases hk : S.2.2.2 (2 + w.1) = 1
    · rw [if_pos hk] at h; simp at h
    · rw [if_neg hk] at h
      have hq := yQ_p hw.2 h
      rw [hq.2, ← e1]
      exact ⟨hi.dead k0 (by rw [e1]; exact e2), by omega, hq.1.2⟩
  rw [if_neg c2] at h
  by_cases c7 : tW l T (tB l T p) (STX 7)
  · rw [if_pos c7] at h
    obtain ⟨v, v1, h⟩ := bd_r h
    obtain ⟨w, w1, h⟩ := bd_r h
    have hv := pN_p b2.2.1 v1
    have vb := pN_b (v := v.1) (p' := v.2) v1
    have hw := yK_b hv.2 w1
    obtain ⟨hw, n, y, n1, y1, e1, e2⟩ := hw
    have hb := lka_b (z := n) (y := y) g
    have hq := yQ_p hw.2 h
    rw [hq.2]
    exact ⟨hi.les k0 vb.1 (by omega) (by omega) (by omega), by omega, hq.1.2⟩
  rw [if_neg c7] at h
  simp at h
end
