/-! ===== the fewest hops: what they are, that they are one ===== -/
theorem fb_holes : ∀ (m n : Nat) (f : Nat → Nat), (∀ i, i < n → f i < m) → (∀ i j, i < j → j < n → f i ≠ f j) → n ≤ m := by
  intro m
  induction m with
  | zero =>
    intro n f h1 _
    rcases Nat.eq_zero_or_pos n with h | h
    · omega
    · exact absurd (h1 0 h) (Nat.not_lt_zero _)
  | succ m ih =>
    intro n f h1 h2
    by_cases hx : ∃ i, i < n ∧ f i = m
    · obtain ⟨a, ha, hfa⟩ := hx
      have hg := ih (n - 1) (fun i => if i < a then f i else f (i + 1)) (by
        intro i hi
        by_cases q : i < a
        · simp only [if_pos q]
          have b1 := h1 i (by omega)
          have b2 := h2 i a q ha
          omega
        · simp only [if_neg q]
          have b1 := h1 (i + 1) (by omega)
          have b2 := h2 a (i + 1) (by omega) (by omega)
          omega) (by
        intro i j hij hj
        by_cases q : i < a
        · by_cases r : j < a
          · simp only [if_pos q, if_pos r]
            exact h2 i j hij (by omega)
          · simp only [if_pos q, if_neg r]
            exact h2 i (j + 1) (by omega) (by omega)
        · have r : ¬ j < a := by omega
          simp only [if_neg q, if_neg r]
          exact h2 (i + 1) (j + 1) (by omega) (by omega))
      omega
    · have hg := ih n f (fun i hi => by
        have b1 := h1 i hi
        have b2 : f i ≠ m := fun e => hx ⟨i, hi, e⟩
        omega) h2
      omega
section
variable {w h N f : Int} {e : Int → Int → Bool}
/-- the fewest hops from f over the ways of e -/
def BF (w h N : Int) (e : Int → Int → Bool) (f : Int) (d : Int → Int) : Prop :=
  (d f = 0 ∧ (∀ n, 0 ≤ n → n < N → -1 ≤ d n) ∧ ∀ n, 0 ≤ n → n < N → d n = 0 → n = f) ∧
  (∀ n z, 0 ≤ n → n < N → 0 ≤ z → z < 4 → e n z = true → d n ≠ -1 → d (nx w h n z) ≠ -1 ∧ d (nx w h n z) ≤ d n + 1) ∧
  ∀ n, 0 ≤ n → n < N → 0 < d n → ∃ m z, 0 ≤ m ∧ m < N ∧ 0 ≤ z ∧ z < 4 ∧ e m z = true ∧ nx w h m z = n ∧ d m = d n - 1
theorem BF.le {d d' : Int → Int} (hb : BF w h N e f d) (hb' : BF w h N e f d') : ∀ (k : Nat) (n : Int), 0 ≤ n → n < N → d n = k → d' n ≠ -1 ∧ d' n ≤ k := by
  intro k
  induction k with
  | zero =>
    intro n n0 n1 hd
    have := hb.1.2.2 n n0 n1 hd
    rw [this, hb'.1.1]
    exact ⟨by omega, by omega⟩
  | succ k ih =>
    intro n n0 n1 hd
    obtain ⟨m, z, m0, m1, z0, z1, he, hx, hm⟩ := hb.2.2 n n0 n1 (by omega)
    obtain ⟨i1, i2⟩ := ih m m0 m1 (by omega)
    have := hb'.2.1 m z m0 m1 z0 z1 he i1
    rw [hx] at this
    exact ⟨this.1, by omega⟩
theorem BF.one {d d' : Int → Int} (hb : BF w h N e f d) (hb' : BF w h N e f d') {n : Int} (n0 : 0 ≤ n) (n1 : n < N) : d n = d' n := by
  have h1 := hb.1.2.1 n n0 n1
  have h2 := hb'.1.2.1 n n0 n1
  by_cases c1 : d n = -1
  · by_cases c2 : d' n = -1
    · rw [c1, c2]
    · have := (hb'.le hb (d' n).toNat n n0 n1 (by omega)).1
      exact absurd c1 this
  · have i1 := hb.le hb' (d n).toNat n n0 n1 (by omega)
    have i2 := hb'.le hb (d' n).toNat n n0 n1 (by omega)
    omega
/-- a function of them -/
noncomputable def hop (w h N : Int) (e : Int → Int → Bool) (f n : Int) : Int := by
  classical exact if hx : ∃ d, BF w h N e f d then Classical.choose hx n else 0
theorem hop_eq {d : Int → Int} (hb : BF w h N e f d) {n : Int} (n0 : 0 ≤ n) (n1 : n < N) : hop w h N e f n = d n := by
  have hx : ∃ d, BF w h N e f d := ⟨d, hb⟩
  unfold hop
  rw [dif_pos hx]
  exact (Classical.choose_spec hx).one hb n0 n1
theorem BF.lt {d : Int → Int} (hb : BF w h N e f d) {n : Int} (n0 : 0 ≤ n) (n1 : n < N) : d n < N := by
  have H : ∀ (j : Nat) (k : Nat) (n : Int), 0 ≤ n → n < N → d n = (k + j : Nat) → ∃ m, 0 ≤ m ∧ m < N ∧ d m = k := by
    intro j
    induction j with
    | zero => intro k n n0 n1 hd; exact ⟨n, n0, n1, hd⟩
    | succ j ih =>
      intro k n n0 n1 hd
      obtain ⟨m, z, m0, m1, z0, z1, he, hx, hm⟩ := hb.2.2 n n0 n1 (by omega)
      exact ih k m m0 m1 (by omega)
  by_cases c : d n < N
  · exact c
  · exfalso
    have hk : ∀ k : Nat, ∃ m : Int, k < N.toNat + 1 → 0 ≤ m ∧ m < N ∧ d m = k := fun k => by
      by_cases hk : k < N.toNat + 1
      · obtain ⟨m, hm⟩ := H ((d n).toNat - k) k n n0 n1 (by omega)
        exact ⟨m, fun _ => hm⟩
      · exact ⟨0, fun q => absurd q hk⟩
    have := fb_holes N.toNat (N.toNat + 1) (fun k => (Classical.choose (hk k)).toNat) (fun i hi => by
      have := Classical.choose_spec (hk i) hi
      show (Classical.choose (hk i)).toNat < N.toNat
      omega) (fun i j hij hj => by
      have h1 := Classical.choose_spec (hk i) (by omega)
      have h2 := Classical.choose_spec (hk j) hj
      intro q
      have q' : (Classical.choose (hk i)).toNat = (Classical.choose (hk j)).toNat := q
      have : Classical.choose (hk i) = Classical.choose (hk j) := by omega
      rw [this] at h1
      omega)
    omega
/-- what a search holds: the head, how many were come to, hops, the row of them, from where; the ways of the head's node that are done -/
def BI (w h N : Int) (e : Int → Int → Bool) (f head size : Int) (d q c : Int → Int) (y : Int) : Prop :=
  (1 ≤ size ∧ 0 ≤ head ∧ head ≤ size) ∧
  (∀ i, 0 ≤ i → i < size → 0 ≤ q i ∧ q i < N ∧ d (q i) ≠ -1 ∧ d (q i) ≤ i) ∧
  (∀ i j, 0 ≤ i → i < j → j < size → q i ≠ q j ∧ d (q i) ≤ d (q j)) ∧
  (∀ n, 0 ≤ n → n < N → d n ≠ -1 → ∃ i, 0 ≤ i ∧ i < size ∧ q i = n) ∧
  (∀ i z, 0 ≤ i → i < head → 0 ≤ z → z < 4 → e (q i) z = true → d (nx w h (q i) z) ≠ -1 ∧ d (nx w h (q i) z) ≤ d (q i) + 1) ∧
  (head < size → ∀ j, 0 ≤ j → j < size → d (q j) ≤ d (q head) + 1) ∧
  (d f = 0 ∧ (∀ n, 0 ≤ n → n < N → -1 ≤ d n) ∧ ∀ n, 0 ≤ n → n < N → d n = 0 → n = f) ∧
  (∀ n, 0 ≤ n → n < N → 0 < d n → 0 ≤ c n ∧ c n < N ∧ d (c n) = d n - 1 ∧ ∃ z, 0 ≤ z ∧ z < 4 ∧ e (c n) z = true ∧ nx w h (c n) z = n) ∧
  (head < size → ∀ z, 0 ≤ z → z < y → e (q head) z = true → d (nx w h (q head) z) ≠ -1 ∧ d (nx w h (q head) z) ≤ d (q head) + 1) ∧
  ∀ n, N ≤ n → n < 36 → d n = -1
theorem BI.size {head size y : Int} {d q c : Int → Int} (hb : BI w h N e f head size d q c y) : size ≤ N := by
  obtain ⟨a, b, c', -⟩ := hb
  have := fb_holes N.toNat size.toNat (fun i => (q i).toNat) (fun i hi => by
    have := b i (by omega) (by omega)
    show (q i).toNat < N.toNat
    omega) (fun i j hij hj => by
    have h1 := b i (by omega) (by omega)
    have h2 := b j (by omega) (by omega)
    have h3 := (c' i j (by omega) (by omega) (by omega)).1
    intro z
    have z' : (q i).toNat = (q j).toNat := z
    omega)
  have := (b 0 (by omega) (by omega)).1
  have := (b 0 (by omega) (by omega)).2.1
  omega
theorem BI.init (f0 : 0 ≤ f) (f1 : f < N) {d q c : Int → Int} (h1 : d f = 0) (h2 : ∀ n, 0 ≤ n → n < 36 → n ≠ f → d n = -1) (h3 : q 0 = f) (hN : N ≤ 36) : BI w h N e f 0 1 d q c 0 := by
  refine ⟨by omega, fun i i0 i1 => ?_, fun i j i0 i1 i2 => by omega, fun n n0 n1 hn => ⟨0, by omega, by omega, ?_⟩, fun i z i0 i1 => by omega, fun _ j j0 j1 => ?_, ⟨h1, fun n n0 n1 => ?_, fun n n0 n1 hn => ?_⟩, fun n n0 n1 hn => ?_, fun _ z z0 z1 => by omega, fun n n0 n1 => h2 n (by omega) n1 (by omega)⟩
  · have e0 : i = 0 := by omega
    rw [e0, h3, h1]
    omega
  · rw [h3]
    by_cases c : n = f
    · exact c.symm
    · exact absurd (h2 n n0 (by omega) c) hn
  · have e0 : j = 0 := by omega
    rw [e0]
    omega
  · by_cases c : n = f
    · rw [c, h1]; omega
    · rw [h2 n n0 (by omega) c]; omega
  · by_cases c : n = f
    · exact c
    · rw [h2 n n0 (by omega) c] at hn; omega
  · by_cases c : n = f
    · rw [c, h1] at hn; omega
    · rw [h2 n n0 (by omega) c] at hn; omega
theorem BI.no {head size y : Int} {d q c : Int → Int} (hb : BI w h N e f head size d q c y) (he : ∀ n z, 0 ≤ n → n < N → 0 ≤ z → z < 4 → e n z = true → 0 ≤ nx w h n z ∧ nx w h n z < N) (hh : head < size) (y0 : 0 ≤ y) (y1 : y < 4) (hn : e (q head) y = true → d (nx w h (q head) y) ≠ -1) : BI w h N e f head size d q c (y + 1) := by
  obtain ⟨a1, a2, a3, a4, a5, a6, a7, a8, a9, a10⟩ := hb
  refine ⟨a1, a2, a3, a4, a5, a6, a7, a8, fun _ z z0 z1 hz => ?_, a10⟩
  by_cases c : z = y
  · subst c
    have hq := a2 head a1.2.1 hh
    have hx := he (q head) z hq.1 hq.2.1 z0 (by omega) hz
    obtain ⟨j, j0, j1, j2⟩ := a4 (nx w h (q head) z) hx.1 hx.2 (hn hz)
    exact ⟨hn hz, by rw [← j2]; exact a6 hh j j0 j1⟩
  · exact a9 hh z z0 (by omega) hz
theorem BI.yes {head size y : Int} {d q c : Int → Int} (hb : BI w h N e f head size d q c y) (he : ∀ n z, 0 ≤ n → n < N → 0 ≤ z → z < 4 → e n z = true → 0 ≤ nx w h n z ∧ nx w h n z < N) (hh : head < size) (y0 : 0 ≤ y) (y1 : y < 4) (h1 : e (q head) y = true) (h2 : d (nx w h (q head) y) = -1) : BI w h N e f head (size + 1) (zu d (nx w h (q head) y) (d (q head) + 1)) (zu q size (nx w h (q head) y)) (zu c (nx w h (q head) y) (q head)) (y + 1) := by
  obtain ⟨a1, a2, a3, a4, a5, a6, a7, a8, a9, a10⟩ := hb
  have hq := a2 head a1.2.1 hh
  have hx := he (q head) y hq.1 hq.2.1 y0 y1 h1
  have hqd := a7.2.1 (q head) hq.1 hq.2.1
  generalize hxx : nx w h (q head) y = x at *
  have qo : ∀ i, 0 ≤ i → i < size → zu q size x i = q i := fun i i0 i1 => zu_ne (by omega)
  have qn : zu q size x size = x := zu_at _ _ _
  have dn : zu d x (d (q head) + 1) x = d (q head) + 1 := zu_at _ _ _
  have dv : ∀ n, d n ≠ -1 → zu d x (d (q head) + 1) n = d n := fun n hn => zu_ne (fun z => hn (by rw [z]; exact h2))
  have qh := qo head a1.2.1 hh
  have qf : f ≠ x := fun z => by rw [z, h2] at a7; omega
  refine ⟨by omega, fun i i0 i1 => ?_, fun i j i0 i1 i2 => ?_, fun n n0 n1 hn => ?_, fun i z i0 i1 z0 z1 hz => ?_, fun _ j j0 j1 => ?_, ⟨?_, fun n n0 n1 => ?_, fun n n0 n1 hn => ?_⟩, fun n n0 n1 hn => ?_, fun _ z z0 z1 hz => ?_, fun n n0 n1 => ?_⟩
  · by_cases c : i = size
    · rw [c, qn, dn]
      exact ⟨hx.1, hx.2, by omega, by omega⟩
    · have hi := a2 i i0 (by omega)
      rw [qo i i0 (by omega), dv _ hi.2.2.1]
      exact hi
  · by_cases c : j = size
    · have hi := a2 i i0 (by omega)
      rw [c, qn, qo i i0 (by omega), dn, dv _ hi.2.2.1]
      exact ⟨fun z => hi.2.2.1 (by rw [z]; exact h2), a6 hh i i0 (by omega)⟩
    · have hi := a2 i i0 (by omega)
      have hj := a2 j (by omega) (by omega)
      rw [qo i i0 (by omega), qo j (by omega) (by omega), dv _ hi.2.2.1, dv _ hj.2.2.1]
      exact a3 i j i0 i1 (by omega)
  · by_cases c : n = x
    · exact ⟨size, by omega, by omega, by rw [qn, c]⟩
    · rw [zu_ne c] at hn
      obtain ⟨i, i0, i1, i2⟩ := a4 n n0 n1 hn
      exact ⟨i, i0, by omega, by rw [qo i i0 i1, i2]⟩
  · have hi := a2 i i0 (by omega)
    rw [qo i i0 (by omega)] at hz ⊢
    have := a5 i z i0 i1 z0 z1 hz
    rw [dv _ this.1, dv _ hi.2.2.1]
    exact this
  · rw [qh, dv _ hq.2.2.1]
    by_cases c : j = size
    · rw [c, qn, dn]; omega
    · have hj := a2 j j0 (by omega)
      rw [qo j j0 (by omega), dv _ hj.2.2.1]
      exact a6 hh j j0 (by omega)
  · rw [zu_ne qf]; exact a7.1
  · by_cases c : n = x
    · rw [c, dn]; omega
    · rw [zu_ne c]; exact a7.2.1 n n0 n1
  · by_cases c : n = x
    · rw [c, dn] at hn; omega
    · rw [zu_ne c] at hn; exact a7.2.2 n n0 n1 hn
  · by_cases c' : n = x
    · rw [c', dn, zu_at, dv _ hq.2.2.1]
      exact ⟨hq.1, hq.2.1, by omega, y, y0, y1, h1, hxx⟩
    · rw [zu_ne c'] at hn ⊢
      rw [zu_ne c']
      obtain ⟨b1, b2, b3, b4⟩ := a8 n n0 n1 hn
      refine ⟨b1, b2, ?_, b4⟩
      rw [dv _ (by omega)]
      exact b3
  · rw [qh] at hz ⊢
    rw [dv _ hq.2.2.1]
    by_cases c : z = y
    · subst c
      rw [hxx, dn]
      omega
    · have := a9 hh z z0 (by omega) hz
      rw [dv _ this.1]
      exact this
  · rw [zu_ne (by omega)]
    exact a10 n n0 n1
theorem BI.next {head size : Int} {d q c : Int → Int} (hb : BI w h N e f head size d q c 4) (hh : head < size) : BI w h N e f (head + 1) size d q c 0 := by
  obtain ⟨a1, a2, a3, a4, a5, a6, a7, a8, a9, a10⟩ := hb
  refine ⟨by omega, a2, a3, a4, fun i z i0 i1 z0 z1 hz => ?_, fun hs j j0 j1 => ?_, a7, a8, fun _ z z0 z1 => by omega, a10⟩
  · by_cases c : i = head
    · rw [c] at hz ⊢; exact a9 hh z z0 z1 hz
    · exact a5 i z i0 (by omega) z0 z1 hz
  · have h1 := a6 hh j j0 j1
    have h2 := (a3 head (head + 1) a1.2.1 (by omega) hs).2
    omega
/-- a parent of each: from where it was come to -/
def PF (w h N : Int) (e : Int → Int → Bool) (d c : Int → Int) : Prop := ∀ n, 0 ≤ n → n < N → 0 < d n → 0 ≤ c n ∧ c n < N ∧ d (c n) = d n - 1 ∧ ∃ z, 0 ≤ z ∧ z < 4 ∧ e (c n) z = true ∧ nx w h (c n) z = n
theorem BI.fin {size y : Int} {d q c : Int → Int} (hb : BI w h N e f size size d q c y) : BF w h N e f d ∧ PF w h N e d c := by
  obtain ⟨a1, a2, a3, a4, a5, a6, a7, a8, a9, a10⟩ := hb
  refine ⟨⟨a7, fun n z n0 n1 z0 z1 he hn => ?_, fun n n0 n1 hn => ?_⟩, a8⟩
  · obtain ⟨i, i0, i1, rfl⟩ := a4 n n0 n1 hn
    exact a5 i z i0 i1 z0 z1 he
  · obtain ⟨b1, b2, b3, z, z0, z1, z2, z3⟩ := a8 n n0 n1 hn
    exact ⟨c n, z, b1, b2, z0, z1, z2, z3, b3⟩
/-- by layers: k the layer, n the node, y the way -/
def LI (w h N : Int) (e : Int → Int → Bool) (f k n y : Int) (d : Int → Int) : Prop :=
  (d f = 0 ∧ (∀ m, 0 ≤ m → m < N → -1 ≤ d m) ∧ ∀ m, 0 ≤ m → m < N → d m = 0 → m = f) ∧
  (∀ m, 0 ≤ m → m < N → 0 < d m → ∃ a z, 0 ≤ a ∧ a < N ∧ 0 ≤ z ∧ z < 4 ∧ e a z = true ∧ nx w h a z = m ∧ d a = d m - 1) ∧
  (∀ m, 0 ≤ m → m < N → d m ≤ k + 1) ∧
  ∀ m z, 0 ≤ m → m < N → 0 ≤ z → z < 4 → d m ≠ -1 → (d m < k ∨ (d m = k ∧ (m < n ∨ (m = n ∧ z < y)))) → e m z = true → d (nx w h m z) ≠ -1 ∧ d (nx w h m z) ≤ d m + 1
theorem LI.init (f0 : 0 ≤ f) (f1 : f < N) {d : Int → Int} (h1 : d f = 0) (h2 : ∀ n, 0 ≤ n → n < N → n ≠ f → d n = -1) : LI w h N e f 0 0 0 d := by
  refine ⟨⟨h1, fun n n0 n1 => ?_, fun n n0 n1 hn => ?_⟩, fun n n0 n1 hn => ?_, fun n n0 n1 => ?_, fun n z n0 n1 z0 z1 hn hc => ?_⟩
  · by_cases c : n = f
    · rw [c, h1]; omega
    · rw [h2 n n0 n1 c]; omega
  · by_cases c : n = f
    · exact c
    · rw [h2 n n0 n1 c] at hn; omega
  · by_cases c : n = f
    · rw [c, h1] at hn; omega
    · rw [h2 n n0 n1 c] at hn; omega
  · by_cases c : n = f
    · rw [c, h1]; omega
    · rw [h2 n n0 n1 c]; omega
  · by_cases c : n = f
    · rw [c, h1] at hc; omega
    · exact absurd (h2 n n0 n1 c) hn
theorem LI.no {k n y : Int} {d : Int → Int} (hb : LI w h N e f k n y d) (he : ∀ n z, 0 ≤ n → n < N → 0 ≤ z → z < 4 → e n z = true → 0 ≤ nx w h n z ∧ nx w h n z < N) (n0 : 0 ≤ n) (n1 : n < N) (y0 : 0 ≤ y) (y1 : y < 4) (hk : d n = k) (hn : e n y = true → d (nx w h n y) ≠ -1) : LI w h N e f k n (y + 1) d := by
  obtain ⟨a1, a2, a3, a4⟩ := hb
  refine ⟨a1, a2, a3, fun m z m0 m1 z0 z1 hm hc hz => ?_⟩
  by_cases c : m = n ∧ z = y
  · obtain ⟨c1, c2⟩ := c
    subst c1
    subst c2
    have hx := he m z m0 m1 z0 z1 hz
    exact ⟨hn hz, by rw [hk]; exact a3 _ hx.1 hx.2⟩
  · exact a4 m z m0 m1 z0 z1 hm (by omega) hz
theorem LI.yes {k n y : Int} {d : Int → Int} (hb : LI w h N e f k n y d) (he : ∀ n z, 0 ≤ n → n < N → 0 ≤ z → z < 4 → e n z = true → 0 ≤ nx w h n z ∧ nx w h n z < N) (n0 : 0 ≤ n) (n1 : n < N) (y0 : 0 ≤ y) (y1 : y < 4) (k0 : 0 ≤ k) (hk : d n = k) (h1 : e n y = true) (h2 : d (nx w h n y) = -1) : LI w h N e f k n (y + 1) (zu d (nx w h n y) (k + 1)) := by
  obtain ⟨a1, a2, a3, a4⟩ := hb
  have hx := he n y n0 n1 y0 y1 h1
  generalize hxx : nx w h n y = x at *
  have dn : zu d x (k + 1) x = k + 1 := zu_at _ _ _
  have dv : ∀ m, d m ≠ -1 → zu d x (k + 1) m = d m := fun m hm => zu_ne (fun z => hm (by rw [z]; exact h2))
  have qf : f ≠ x := fun z => by rw [z, h2] at a1; omega
  refine ⟨⟨?_, fun m m0 m1 => ?_, fun m m0 m1 hm => ?_⟩, fun m m0 m1 hm => ?_, fun m m0 m1 => ?_, fun m z m0 m1 z0 z1 hm hc hz => ?_⟩
  · rw [zu_ne qf]; exact a1.1
  · by_cases c : m = x
    · rw [c, dn]; omega
    · rw [zu_ne c]; exact a1.2.1 m m0 m1
  · by_cases c : m = x
    · rw [c, dn] at hm; omega
    · rw [zu_ne c] at hm; exact a1.2.2 m m0 m1 hm
  · by_cases c : m = x
    · refine ⟨n, y, n0, n1, y0, y1, h1, by rw [hxx, c], ?_⟩
      rw [dv n (by omega), c, dn]
      omega
    · rw [zu_ne c] at hm ⊢
      obtain ⟨a, z, b1, b2, b3, b4, b5, b6, b7⟩ := a2 m m0 m1 hm
      refine ⟨a, z, b1, b2, b3, b4, b5, b6, ?_⟩
      rw [dv a (by omega)]
      exact b7
  · by_cases c : m = x
    · rw [c, dn]; omega
    · rw [zu_ne c]; exact a3 m m0 m1
  · by_cases c : m = x
    · rw [c, dn] at hc; omega
    · rw [zu_ne c] at hm hc ⊢
      by_cases c2 : m = n ∧ z = y
      · obtain ⟨c3, c4⟩ := c2
        subst c3
        subst c4
        rw [hxx, dn]
        omega
      · have := a4 m z m0 m1 z0 z1 hm (by omega) hz
        rw [dv _ this.1]
        exact this
theorem LI.skip {k n y : Int} {d : Int → Int} (hb : LI w h N e f k n y d) (hk : d n ≠ k ∨ y = 4) : LI w h N e f k (n + 1) 0 d := by
  obtain ⟨a1, a2, a3, a4⟩ := hb
  refine ⟨a1, a2, a3, fun m z m0 m1 z0 z1 hm hc hz => ?_⟩
  by_cases c : m = n
  · subst c
    exact a4 m z m0 m1 z0 z1 hm (by omega) hz
  · exact a4 m z m0 m1 z0 z1 hm (by omega) hz
theorem LI.up {k : Int} {d : Int → Int} (hb : LI w h N e f k N 0 d) : LI w h N e f (k + 1) 0 0 d := by
  obtain ⟨a1, a2, a3, a4⟩ := hb
  refine ⟨a1, a2, fun m m0 m1 => by have := a3 m m0 m1; omega, fun m z m0 m1 z0 z1 hm hc hz => ?_⟩
  exact a4 m z m0 m1 z0 z1 hm (by omega) hz
theorem LI.fin {d : Int → Int} (hb : LI w h N e f N 0 0 d) : BF w h N e f d := by
  obtain ⟨a1, a2, a3, a4⟩ := hb
  have H : ∀ (j : Nat) (k : Nat) (n : Int), 0 ≤ n → n < N → d n = (k + j : Nat) → ∃ m, 0 ≤ m ∧ m < N ∧ d m = k := by
    intro j
    induction j with
    | zero => intro k n n0 n1 hd; exact ⟨n, n0, n1, hd⟩
    | succ j ih =>
      intro k n n0 n1 hd
      obtain ⟨m, z, m0, m1, z0, z1, he, hx, hm⟩ := a2 n n0 n1 (by omega)
      exact ih k m m0 m1 (by omega)
  have lt : ∀ n, 0 ≤ n → n < N → d n < N := by
    intro n n0 n1
    by_cases c : d n < N
    · exact c
    · exfalso
      have hk : ∀ k : Nat, ∃ m : Int, k < N.toNat + 1 → 0 ≤ m ∧ m < N ∧ d m = k := fun k => by
        by_cases hk : k < N.toNat + 1
        · obtain ⟨m, hm⟩ := H ((d n).toNat - k) k n n0 n1 (by omega)
          exact ⟨m, fun _ => hm⟩
        · exact ⟨0, fun q => absurd q hk⟩
      have := fb_holes N.toNat (N.toNat + 1) (fun k => (Classical.choose (hk k)).toNat) (fun i hi => by
        have := Classical.choose_spec (hk i) hi
        show (Classical.choose (hk i)).toNat < N.toNat
        omega) (fun i j hij hj => by
        have h1 := Classical.choose_spec (hk i) (by omega)
        have h2 := Classical.choose_spec (hk j) hj
        intro q
        have q' : (Classical.choose (hk i)).toNat = (Classical.choose (hk j)).toNat := q
        have : Classical.choose (hk i) = Classical.choose (hk j) := by omega
        rw [this] at h1
        omega)
      omega
  exact ⟨a1, fun n z n0 n1 z0 z1 he hn => a4 n z n0 n1 z0 z1 hn (Or.inl (lt n n0 n1)) he, a2⟩
end
