/-! ===== ways that share no link ===== -/
def sm (f : Int → Int) : Nat → Int
  | 0 => 0
  | n + 1 => sm f n + f n
theorem sm_le {f g : Int → Int} : ∀ n : Nat, (∀ i : Int, 0 ≤ i → i < n → f i ≤ g i) → sm f n ≤ sm g n := by
  intro n
  induction n with
  | zero => intro _; exact Int.le_refl _
  | succ n ih =>
    intro h
    have h1 := ih (fun i i0 i1 => h i i0 (by omega))
    have h2 := h n (by omega) (by omega)
    show sm f n + f n ≤ sm g n + g n
    omega
theorem sm_eq {f g : Int → Int} : ∀ n : Nat, (∀ i : Int, 0 ≤ i → i < n → f i = g i) → sm f n = sm g n := fun n h => by
  have h1 := sm_le n (fun i i0 i1 => Int.le_of_eq (h i i0 i1))
  have h2 := sm_le n (fun i i0 i1 => Int.le_of_eq (h i i0 i1).symm)
  omega
theorem sm_one {f g : Int → Int} {k : Int} (k0 : 0 ≤ k) (h : ∀ i, i ≠ k → g i = f i) : ∀ n : Nat, sm g n = sm f n + (if k < n then g k - f k else 0) := by
  intro n
  induction n with
  | zero => rw [if_neg (by omega)]; rfl
  | succ n ih =>
    show sm g n + g n = sm f n + f n + _
    rw [ih]
    by_cases hk : k = n
    · subst hk
      rw [if_neg (by omega), if_pos (by omega)]
      omega
    · rw [h n (fun q => hk q.symm)]
      by_cases h1 : k < n
      · rw [if_pos h1, if_pos (by omega)]; omega
      · rw [if_neg h1, if_neg (by omega)]; omega
theorem sm_0 : ∀ n : Nat, sm (fun _ => 0) n = 0 := by
  intro n
  induction n with
  | zero => rfl
  | succ n ih => show sm _ n + 0 = 0; rw [ih]; rfl
theorem sm_pt (c : Int) (n : Nat) : sm (fun l => if l = c then 1 else 0) n ≤ 1 := by
  by_cases c0 : 0 ≤ c
  · have := sm_one (f := fun _ => 0) (g := fun l => if l = c then (1 : Int) else 0) c0 (fun i hi => if_neg hi) n
    rw [this, sm_0, if_pos rfl]
    split <;> omega
  · have := sm_eq (f := fun l => if l = c then (1 : Int) else 0) (g := fun _ => 0) n (fun i i0 i1 => if_neg (by omega))
    rw [this, sm_0]
    omega
theorem sm_add (f g : Int → Int) : ∀ n : Nat, sm (fun l => f l + g l) n = sm f n + sm g n := by
  intro n
  induction n with
  | zero => rfl
  | succ n ih => show sm (fun l => f l + g l) n + (f n + g n) = sm f n + f n + (sm g n + g n); rw [ih]; omega
def nxT (w h n y : Int) : Bool := decide (n < w * h → nx w h n y ≠ -1 → (n < nx w h n y ↔ y < 2) ∧ nx w h n y - n = (if y = 0 then 1 else if y = 1 then w else if y = 2 then -1 else -w))
theorem nx_t : ∀ w < 7, ∀ h < 7, ∀ n < 36, ∀ y < 4, nxT (w : Nat) (h : Nat) (n : Nat) (y : Nat) = true := by decide +kernel
section
variable {w h N a b : Int} {Z : Int → Int}
theorem nx_up {n y : Int} (g : 0 ≤ w ∧ w ≤ 6 ∧ 0 ≤ h ∧ h ≤ 6 ∧ 0 ≤ N ∧ N ≤ 36 ∧ N = w * h) (n0 : 0 ≤ n) (n1 : n < N) (y0 : 0 ≤ y) (y1 : y < 4) (hx : nx w h n y ≠ -1) : (n < nx w h n y ↔ y < 2) ∧ nx w h n y - n = (if y = 0 then 1 else if y = 1 then w else if y = 2 then -1 else -w) := by
  have := fin4 nxT nx_t g.1 g.2.1 g.2.2.1 g.2.2.2.1 n0 (by omega) y0 y1
  rw [nxT, decide_eq_true_eq] at this
  rw [← g.2.2.2.2.2.2] at this
  exact this n1 hx
/-- the ends of a link -/
def hil (w h N l : Int) : Int := nxt w h N (l / 2) (l % 2)
theorem lk_ends {l : Int} (g : 0 ≤ w ∧ w ≤ 6 ∧ 0 ≤ h ∧ h ≤ 6 ∧ 0 ≤ N ∧ N ≤ 36 ∧ N = w * h) (hl : isl w h N l = true) : (0 ≤ l / 2 ∧ l / 2 < N) ∧ (0 ≤ hil w h N l ∧ hil w h N l < N) ∧ l / 2 < hil w h N l ∧ nx w h (l / 2) (l % 2) = hil w h N l ∧ lkb w (l / 2) (hil w h N l) = l ∧ nx w h (hil w h N l) ((l % 2 + 2) % 4) = l / 2 := by
  unfold isl at hl
  rw [decide_eq_true_eq] at hl
  have h1 := (nxt_b (z := l / 2) (y := l % 2) g)
  have h2 := h1.2.2 hl.2
  have e : nxt w h N (l / 2) (l % 2) = nx w h (l / 2) (l % 2) := if_pos ⟨h2.1, h2.2.1, h2.2.2.1, h2.2.2.2.1⟩
  have h3 := nx_b g h2.1 h2.2.1 h2.2.2.1 h2.2.2.2.1
  have hx : nx w h (l / 2) (l % 2) ≠ -1 := by rw [← e]; exact hl.2
  have h4 := h3.2.2.2 hx
  have h5 := nx_up g h2.1 h2.2.1 h2.2.2.1 h2.2.2.2.1 hx
  have h6 := nx_back g h2.1 h2.2.1 h2.2.2.1 h2.2.2.2.1 hx
  unfold hil
  rw [e]
  have h7 := h5.1.mpr (by omega)
  rw [if_pos h7] at h4
  exact ⟨by omega, by omega, h7, rfl, by omega, h6⟩
theorem st_ends {n y : Int} (g : 0 ≤ w ∧ w ≤ 6 ∧ 0 ≤ h ∧ h ≤ 6 ∧ 0 ≤ N ∧ N ≤ 36 ∧ N = w * h) (n0 : 0 ≤ n) (n1 : n < N) (y0 : 0 ≤ y) (y1 : y < 4) (hx : nx w h n y ≠ -1) : isl w h N (lkb w n (nx w h n y)) = true ∧ (if n < nx w h n y then lkb w n (nx w h n y) / 2 = n ∧ hil w h N (lkb w n (nx w h n y)) = nx w h n y else lkb w n (nx w h n y) / 2 = nx w h n y ∧ hil w h N (lkb w n (nx w h n y)) = n) := by
  have hl := isl_nx g n0 n1 y0 y1 hx
  refine ⟨hl, ?_⟩
  have h3 := nx_b g n0 n1 y0 y1
  have h4 := h3.2.2.2 hx
  have h5 := nx_up g n0 n1 y0 y1 hx
  have e := lk_ends g hl
  by_cases c : n < nx w h n y
  · rw [if_pos c]
    rw [if_pos c] at h4
    have hy := h5.1.mp c
    have e1 : lkb w n (nx w h n y) / 2 = n := by omega
    have e2 : lkb w n (nx w h n y) % 2 = y := by omega
    refine ⟨e1, ?_⟩
    unfold hil
    rw [e1, e2]
    exact if_pos ⟨n0, n1, y0, y1⟩
  · rw [if_neg c]
    rw [if_neg c] at h4
    have hy : ¬ y < 2 := fun q => c (h5.1.mpr q)
    have h6 := nx_back g n0 n1 y0 y1 hx
    have e1 : lkb w n (nx w h n y) / 2 = nx w h n y := by omega
    have e2 : lkb w n (nx w h n y) % 2 = (y + 2) % 4 := by omega
    refine ⟨e1, ?_⟩
    unfold hil
    rw [e1, e2, ← h6]
    rw [h6]
    exact (if_pos ⟨by omega, by omega, by omega, by omega⟩).trans h6
/-- F carries v from a to b over links that are not dead -/
def FB (w h N : Int) (Z F : Int → Int) : Prop := ∀ l, 0 ≤ l → l < 72 → (-1 ≤ F l ∧ F l ≤ 1) ∧ (F l ≠ 0 → isl w h N l = true ∧ Z (2 + l) = 0)
def FW (w h N : Int) (Z : Int → Int) (a b : Int) (F : Int → Int) (v : Int) : Prop := FB w h N Z F ∧ ∀ p : Int → Int, sm (fun l => F l * (p (l / 2) - p (hil w h N l))) 72 = v * (p a - p b)
theorem FW.init : FW w h N Z a b (fun _ => 0) 0 := ⟨fun l _ _ => ⟨⟨by simp, by simp⟩, fun q => absurd rfl q⟩, fun p => by
  rw [sm_eq 72 (g := fun _ => 0) (fun i _ _ => by simp), sm_0]
  simp⟩
/-- none carries more than one beside which no way is open -/
theorem FW.max {F F' : Int → Int} {v v' : Int} (g : 0 ≤ w ∧ w ≤ 6 ∧ 0 ≤ h ∧ h ≤ 6 ∧ 0 ≤ N ∧ N ≤ 36 ∧ N = w * h) (hF : FW w h N Z a b F v) (hF' : FW w h N Z a b F' v') (R : Int → Bool) (ha : R a = true) (hb : R b = false) (hc : ∀ n y, 0 ≤ n → n < N → 0 ≤ y → y < 4 → R n = true → eO w h (oA w h N Z) F n y = true → R (nx w h n y) = true) : v' ≤ v := by
  have h1 := hF.2 (fun n => if R n = true then 1 else 0)
  have h2 := hF'.2 (fun n => if R n = true then 1 else 0)
  simp only [ha, hb, if_true, Bool.false_eq_true, if_false] at h1 h2
  have key : sm (fun l => F' l * ((if R (l / 2) = true then (1 : Int) else 0) - (if R (hil w h N l) = true then 1 else 0))) 72 ≤ sm (fun l => F l * ((if R (l / 2) = true then (1 : Int) else 0) - (if R (hil w h N l) = true then 1 else 0))) 72 := by
    refine sm_le 72 (fun l l0 l1 => ?_)
    have b1 := hF.1 l l0 (by omega)
    have b2 := hF'.1 l l0 (by omega)
    by_cases hl : isl w h N l = true ∧ Z (2 + l) = 0
    · have e := lk_ends g hl.1
      have ho : oA w h N Z l = 1 := if_pos hl
      by_cases c1 : R (l / 2) = true
      · by_cases c2 : R (hil w h N l) = true
        · simp [c1, c2]
        · have := hc (l / 2) (l % 2) e.1.1 e.1.2 (by omega) (by omega) c1
          rw [e.2.2.2.1] at this
          have hn : ¬ eO w h (oA w h N Z) F (l / 2) (l % 2) = true := fun q => c2 (this q)
          unfold eO rom at hn
          rw [e.2.2.2.1, e.2.2.2.2.1, ho, if_pos e.2.2.1] at hn
          have : ¬ F l < 1 := fun q => hn (by
            rw [decide_eq_true (by omega : hil w h N l ≠ -1), Bool.true_and, decide_eq_true_eq]
            exact ⟨by decide, q⟩)
          simp [c1, c2]
          omega
      · by_cases c2 : R (hil w h N l) = true
        · have := hc (hil w h N l) ((l % 2 + 2) % 4) e.2.1.1 e.2.1.2 (by omega) (by omega) c2
          rw [e.2.2.2.2.2] at this
          have hn : ¬ eO w h (oA w h N Z) F (hil w h N l) ((l % 2 + 2) % 4) = true := fun q => c1 (this q)
          unfold eO rom at hn
          rw [e.2.2.2.2.2, lkb_c, e.2.2.2.2.1, ho, if_neg (by omega)] at hn
          have : ¬ -F l < 1 := fun q => hn (by
            rw [decide_eq_true (by omega : l / 2 ≠ -1), Bool.true_and, decide_eq_true_eq]
            exact ⟨by decide, q⟩)
          simp [c1, c2]
          omega
        · simp [c1, c2]
    · have e1 : F l = 0 := by
        by_cases q : F l = 0
        · exact q
        · exact absurd (b1.2 q) hl
      have e2 : F' l = 0 := by
        by_cases q : F' l = 0
        · exact q
        · exact absurd (b2.2 q) hl
      simp only [e1, e2]
      omega
  omega
/-- a node has four ways -/
theorem FW.four {F : Int → Int} {v : Int} (g : 0 ≤ w ∧ w ≤ 6 ∧ 0 ≤ h ∧ h ≤ 6 ∧ 0 ≤ N ∧ N ≤ 36 ∧ N = w * h) (hF : FW w h N Z a b F v) (hab : a ≠ b) : v ≤ 4 := by
  have h1 := hF.2 (fun n => if n = a then 1 else 0)
  simp only [if_true, show ¬ b = a from fun q => hab q.symm, if_false] at h1
  have key : sm (fun l => F l * ((if l / 2 = a then (1 : Int) else 0) - (if hil w h N l = a then 1 else 0))) 72 ≤ sm (fun l => (((if l = 2 * a then (1 : Int) else 0) + (if l = 2 * a + 1 then 1 else 0)) + ((if l = 2 * (a - 1) then 1 else 0) + (if l = 2 * (a - w) + 1 then 1 else 0)))) 72 := by
    refine sm_le 72 (fun l l0 l1 => ?_)
    have b1 := hF.1 l l0 (by omega)
    by_cases q : F l = 0
    · simp only [q, Int.zero_mul]
      (repeat' split) <;> omega
    · have e := lk_ends g (b1.2 q).1
      have u := nx_up g e.1.1 e.1.2 (by omega : 0 ≤ l % 2) (by omega) (by rw [e.2.2.2.1]; omega)
      rw [e.2.2.2.1] at u
      have u2 := u.2
      by_cases q0 : l % 2 = 0
      · rw [if_pos q0] at u2
        by_cases c1 : l / 2 = a
        · rw [if_pos c1, if_neg (by omega : ¬ hil w h N l = a)]
          simp only [Int.sub_zero, Int.mul_one]
          (repeat' split) <;> omega
        · rw [if_neg c1]
          by_cases c2 : hil w h N l = a
          · rw [if_pos c2]
            simp only [Int.zero_sub]
            (repeat' split) <;> omega
          · rw [if_neg c2]
            simp only [Int.sub_zero, Int.mul_zero]
            (repeat' split) <;> omega
      · rw [if_neg q0, if_pos (by omega : l % 2 = 1)] at u2
        by_cases c1 : l / 2 = a
        · rw [if_pos c1, if_neg (by omega : ¬ hil w h N l = a)]
          simp only [Int.sub_zero, Int.mul_one]
          (repeat' split) <;> omega
        · rw [if_neg c1]
          by_cases c2 : hil w h N l = a
          · rw [if_pos c2]
            simp only [Int.zero_sub]
            (repeat' split) <;> omega
          · rw [if_neg c2]
            simp only [Int.sub_zero, Int.mul_zero]
            (repeat' split) <;> omega
  rw [sm_add, sm_add, sm_add] at key
  have p1 := sm_pt (2 * a) 72
  have p2 := sm_pt (2 * a + 1) 72
  have p3 := sm_pt (2 * (a - 1)) 72
  have p4 := sm_pt (2 * (a - w) + 1) 72
  omega
/-- the most that is carried -/
noncomputable def mxc (w h N : Int) (Z : Int → Int) (a b : Int) : Int := by
  classical exact if hx : ∃ v, (∃ F, FW w h N Z a b F v) ∧ ∀ F' v', FW w h N Z a b F' v' → v' ≤ v then Classical.choose hx else 0
theorem mxc_eq {F : Int → Int} {v : Int} (hF : FW w h N Z a b F v) (hm : ∀ F' v', FW w h N Z a b F' v' → v' ≤ v) : mxc w h N Z a b = v := by
  have hx : ∃ v, (∃ F, FW w h N Z a b F v) ∧ ∀ F' v', FW w h N Z a b F' v' → v' ≤ v := ⟨v, ⟨F, hF⟩, hm⟩
  unfold mxc
  rw [dif_pos hx]
  obtain ⟨⟨F2, h2⟩, h3⟩ := Classical.choose_spec hx
  have q1 := hm F2 _ h2
  have q2 := h3 F v hF
  omega
/-- on the way back from b, at u -/
def WK (w h N : Int) (Z : Int → Int) (a b : Int) (F0 d : Int → Int) (v u : Int) (F : Int → Int) : Prop :=
  (0 ≤ u ∧ u < N ∧ 0 ≤ d u) ∧ FB w h N Z F ∧ (∀ p : Int → Int, sm (fun l => F l * (p (l / 2) - p (hil w h N l))) 72 = v * (p a - p b) + (p u - p b)) ∧ ∀ l, 0 ≤ l → l < 72 → isl w h N l = true → d (l / 2) ≤ d u → d (hil w h N l) ≤ d u → F l = F0 l
theorem WK.init {F0 d : Int → Int} {v : Int} (hF : FW w h N Z a b F0 v) (b0 : 0 ≤ b) (b1 : b < N) (hd : 0 ≤ d b) : WK w h N Z a b F0 d v b F0 := ⟨⟨b0, b1, hd⟩, hF.1, fun p => by rw [hF.2 p]; omega, fun _ _ _ _ _ _ => rfl⟩
theorem WK.fin {F0 F d : Int → Int} {v : Int} (hW : WK w h N Z a b F0 d v a F) : FW w h N Z a b F (v + 1) := ⟨hW.2.1, fun p => by rw [hW.2.2.1 p, Int.add_mul]; omega⟩
theorem WK.step {F0 F d : Int → Int} {v u m y : Int} (g : 0 ≤ w ∧ w ≤ 6 ∧ 0 ≤ h ∧ h ≤ 6 ∧ 0 ≤ N ∧ N ≤ 36 ∧ N = w * h) (hW : WK w h N Z a b F0 d v u F) (m0 : 0 ≤ m) (m1 : m < N) (y0 : 0 ≤ y) (y1 : y < 4) (he : eO w h (oA w h N Z) F0 m y = true) (hx : nx w h m y = u) (d0 : 0 ≤ d m) (d1 : d m < d u) : WK w h N Z a b F0 d v m (zu F (lkb w m u) (F (lkb w m u) + (if m < u then 1 else -1))) ∧ (0 ≤ lkb w m u ∧ lkb w m u < 72) ∧ -1 ≤ F (lkb w m u) ∧ F (lkb w m u) ≤ 1 := by
  obtain ⟨⟨u0, u1, u2⟩, hb, hs, hk⟩ := hW
  have hx1 : nx w h m y ≠ -1 := by rw [hx]; omega
  have e := st_ends g m0 m1 y0 y1 hx1
  have lb := (nx_b g m0 m1 y0 y1).2.2.2 hx1
  have ne := (nx_b g m0 m1 y0 y1).2.2.1
  rw [hx] at e lb ne
  unfold eO rom at he
  rw [Bool.and_eq_true, decide_eq_true_eq, decide_eq_true_eq, hx] at he
  obtain ⟨-, ho, hr⟩ := he
  generalize hl : lkb w m u = l at *
  have hlin : isl w h N l = true ∧ Z (2 + l) = 0 := by
    unfold oA at ho
    by_cases q : isl w h N l = true ∧ Z (2 + l) = 0
    · exact q
    · rw [if_neg q] at ho; exact absurd rfl ho
  have bl := hb l lb.2.1 lb.2.2
  have ends : (m < u ∧ l / 2 = m ∧ hil w h N l = u) ∨ (¬ m < u ∧ l / 2 = u ∧ hil w h N l = m) := by
    by_cases c : m < u
    · rw [if_pos c] at e; exact Or.inl ⟨c, e.2⟩
    · rw [if_neg c] at e; exact Or.inr ⟨c, e.2⟩
  have e0 : F l = F0 l := hk l lb.2.1 lb.2.2 hlin.1 (by rcases ends with q | q <;> rw [q.2.1] <;> omega) (by rcases ends with q | q <;> rw [q.2.2] <;> omega)
  rw [← e0] at hr
  refine ⟨⟨⟨m0, m1, d0⟩, fun k k0 k1 => ?_, fun p => ?_, fun k k0 k1 hkl q1 q2 => ?_⟩, lb.2, bl.1⟩
  · by_cases c : k = l
    · subst c
      rw [zu_at]
      refine ⟨?_, fun _ => hlin⟩
      split at hr <;> rename_i q <;> simp only [q, if_true, if_false] <;> omega
    · rw [zu_ne c]
      exact hb k k0 k1
  · have := sm_one (f := fun l => F l * (p (l / 2) - p (hil w h N l))) (g := fun k => zu F l (F l + (if m < u then 1 else -1)) k * (p (k / 2) - p (hil w h N k))) lb.2.1 (fun i hi => by simp only [zu_ne hi]) 72
    rw [this, hs p, if_pos (by have := lb.2.2; omega)]
    simp only [zu_at]
    rcases ends with ⟨q1, q2, q3⟩ | ⟨q1, q2, q3⟩
    · rw [if_pos q1, q2, q3, Int.add_mul, Int.one_mul]; omega
    · rw [if_neg q1, q2, q3, Int.add_mul]; omega
  · have hne : k ≠ l := fun q => by
      rw [q] at q1 q2
      rcases ends with ⟨-, z1, z2⟩ | ⟨-, z1, z2⟩
      · rw [z2] at q2; omega
      · rw [z1] at q1; omega
    rw [zu_ne hne]
    exact hk k k0 k1 hkl (by omega) (by omega)
end
