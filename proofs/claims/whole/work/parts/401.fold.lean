/-! ===== loops ===== -/
def foldz {σ : Type} (g : Int → σ → σ) : Int → Nat → σ → σ
  | _, 0, x => x
  | l, d + 1, x => foldz g (l + 1) d (g l x)
theorem fold_loop {σ : Type} (P : Nat → σ → Int → Prop) (R : σ → Prop) (g : Int → σ → σ) (I : Int → σ → Prop) (L : Int) (hz : ∀ n x, I L x → P (n + 1) x L = R x) (hs : ∀ n x l, 0 ≤ l → l < L → I l x → P (n + 1) x l = P n (g l x) (l + 1) ∧ I (l + 1) (g l x)) : ∀ (d n : Nat) (l : Int) (x : σ), d < n → l + d = L → 0 ≤ l → I l x → P n x l = R (foldz g l d x) := by
  intro d
  induction d with
  | zero =>
    intro n l x hn hl l0 hI
    obtain ⟨n, rfl⟩ : ∃ m, n = m + 1 := ⟨n - 1, by omega⟩
    obtain rfl : l = L := by omega
    exact hz n x hI
  | succ d ih =>
    intro n l x hn hl l0 hI
    obtain ⟨n, rfl⟩ : ∃ m, n = m + 1 := ⟨n - 1, by omega⟩
    obtain ⟨h1, h2⟩ := hs n x l l0 (by omega) hI
    rw [h1]
    exact ih n (l + 1) (g l x) (by omega) (by omega) (by omega) h2
theorem foldz_congr {σ : Type} {f g : Int → σ → σ} : ∀ (d : Nat) (l : Int) (x : σ), (∀ k y, l ≤ k → k < l + d → f k y = g k y) → foldz f l d x = foldz g l d x := by
  intro d
  induction d with
  | zero => intro l x _; rfl
  | succ d ih =>
    intro l x h
    unfold foldz
    rw [h l x (by omega) (by omega)]
    exact ih (l + 1) _ (fun k y h1 h2 => h k y (by omega) (by omega))
/-- a loop that may end ahead of its time -/
def findz {σ ρ : Type} (g : Int → σ → σ ⊕ ρ) : Int → Nat → σ → σ ⊕ ρ
  | _, 0, x => .inl x
  | l, d + 1, x => match g l x with
    | .inl y => findz g (l + 1) d y
    | .inr r => .inr r
def eit {σ ρ : Type} (R : σ → Prop) (S : ρ → Prop) : σ ⊕ ρ → Prop
  | .inl x => R x
  | .inr r => S r
theorem find_loop {σ ρ : Type} (P : Nat → σ → Int → Prop) (R : σ → Prop) (S : ρ → Prop) (g : Int → σ → σ ⊕ ρ) (I : Int → σ → Prop) (L : Int) (hz : ∀ n x, I L x → P (n + 1) x L = R x) (hs : ∀ n x l, 0 ≤ l → l < L → I l x → P (n + 1) x l = eit (fun y => P n y (l + 1)) S (g l x) ∧ ∀ y, g l x = .inl y → I (l + 1) y) : ∀ (d n : Nat) (l : Int) (x : σ), d < n → l + d = L → 0 ≤ l → I l x → P n x l = eit R S (findz g l d x) := by
  intro d
  induction d with
  | zero =>
    intro n l x hn hl l0 hI
    obtain ⟨n, rfl⟩ : ∃ m, n = m + 1 := ⟨n - 1, by omega⟩
    obtain rfl : l = L := by omega
    exact hz n x hI
  | succ d ih =>
    intro n l x hn hl l0 hI
    obtain ⟨n, rfl⟩ : ∃ m, n = m + 1 := ⟨n - 1, by omega⟩
    obtain ⟨h1, h2⟩ := hs n x l l0 (by omega) hI
    rw [h1]
    unfold findz
    cases hg : g l x with
    | inl y => exact ih n (l + 1) y (by omega) (by omega) (by omega) (h2 y hg)
    | inr r => rfl
theorem findz_congr {σ ρ : Type} {f g : Int → σ → σ ⊕ ρ} : ∀ (d : Nat) (l : Int) (x : σ), (∀ k y, l ≤ k → k < l + d → f k y = g k y) → findz f l d x = findz g l d x := by
  intro d
  induction d with
  | zero => intro l x _; rfl
  | succ d ih =>
    intro l x h
    unfold findz
    rw [h l x (by omega) (by omega)]
    cases g l x with
    | inl y => exact ih (l + 1) _ (fun k y h1 h2 => h k y (by omega) (by omega))
    | inr r => rfl
/-- how many -/
def cntz (f : Int → Bool) (l : Int) (d : Nat) (c : Int) : Int := foldz (fun k x => if f k = true then x + 1 else x) l d c
theorem cntz_b (f : Int → Bool) : ∀ (d : Nat) (l c : Int), c ≤ cntz f l d c ∧ cntz f l d c ≤ c + d := by
  intro d
  induction d with
  | zero => intro l c; unfold cntz foldz; omega
  | succ d ih =>
    intro l c
    have := ih (l + 1) (if f l = true then c + 1 else c)
    unfold cntz at this ⊢
    unfold foldz
    by_cases hf : f l = true
    · rw [if_pos hf] at this ⊢; omega
    · rw [if_neg hf] at this ⊢; omega
theorem cntz_congr {f g : Int → Bool} (d : Nat) (l c : Int) (h : ∀ k, l ≤ k → k < l + d → f k = g k) : cntz f l d c = cntz g l d c := foldz_congr d l c (fun k y h1 h2 => by simp only [h k h1 h2])
