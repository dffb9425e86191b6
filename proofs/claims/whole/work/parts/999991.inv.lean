/-! ===== play and load keep the invariant ===== -/
def EB (l : Int) (e : Int × Int) : Prop := (1 ≤ e.1 ∧ e.1 ≤ 5) ∧ 0 ≤ e.2 ∧ e.2 ≤ l
theorem bd_l {α β : Type} {r : (Int × Int) ⊕ α} {f : α → (Int × Int) ⊕ β} {e : Int × Int} (h : bd r f = .inl e) : r = .inl e ∨ ∃ a, r = .inr a ∧ f a = .inl e := by
  cases r with
  | inl e' => exact Or.inl (congrArg Sum.inl (Sum.inl.inj (bd_i.symm.trans h)))
  | inr a => exact Or.inr ⟨a, rfl, h⟩
section
variable {l p k n : Int} {T : Int → Int} {S : YS} {w s lo hi : Int} {e : Int × Int} {A : AS}
theorem pN_e (p0 : 0 ≤ p) (hp : p ≤ l) (h : pN l T lo hi p = .inl e) : EB l e := by
  have b1 := tB_b (T := T) hp
  unfold pN at h
  (repeat' split at h) <;> simp at h <;> subst h <;> (unfold EB; simp only; omega)
theorem pW_x (p0 : 0 ≤ p) (hp : p ≤ l) (h : pW l T p = .inl e) : EB l e := by
  have b1 := tB_b (T := T) hp
  unfold pW at h
  (repeat' split at h) <;> simp at h <;> subst h <;> (unfold EB; simp only; omega)
theorem pS_e (p0 : 0 ≤ p) (hp : p ≤ l) (h : pS l T p = .inl e) : EB l e := by
  have b1 := tB_b (T := T) hp
  unfold pS at h
  (repeat' split at h) <;> simp at h <;> subst h <;> (unfold EB; simp only; omega)
theorem yN_e (p0 : 0 ≤ p) (hp : p ≤ l) (h : yN l T w s n p = .inl e) : EB l e := by
  have b1 := tB_b (T := T) hp
  rcases bd_l h with h | ⟨y, y1, h⟩
  · exact pW_x p0 hp h
  · split at h <;> simp at h
    subst h
    unfold EB
    simp only
    omega
theorem yK_e (p0 : 0 ≤ p) (hp : p ≤ l) (h : yK l T w s p = .inl e) : EB l e := by
  rcases bd_l h with h | ⟨y, y1, h⟩
  · exact pN_e p0 hp h
  · have b := pN_p hp y1
    exact yN_e (by omega) b.2 h
theorem yQ_e (p0 : 0 ≤ p) (hp : p ≤ l) (h : yQ l T S p = .inl e) : EB l e := by
  rcases bd_l h with h | ⟨y, y1, h⟩
  · exact pS_e p0 hp h
  · simp at h
theorem yL_e (p0 : 0 ≤ p) (hp : p ≤ l) (h : yL l T k S p = .inl e) : EB l e := by
  have b1 := tB_b (T := T) hp
  have b2 := tE_b (T := T) b1.2
  unfold yL at h
  by_cases c0 : tW l T (tB l T p) (STX 0)
  · rw [if_pos c0] at h
    by_cases hk : k = 0
    · rw [if_pos hk] at h
      rcases bd_l h with h | ⟨y, y1, h⟩
      · exact pN_e (by omega) b2.2.1 h
      have b3 := pN_p b2.2.1 y1
      rcases bd_l h with h | ⟨z, z1, h⟩
      · exact pN_e (by omega) b3.2 h
      have b4 := pN_p b3.2 z1
      exact yQ_e (by omega) b4.2 h
    · rw [if_neg hk] at h
      simp at h
      subst h
      unfold EB
      simp only
      omega
  rw [if_neg c0] at h
  by_cases c1 : tW l T (tB l T p) (STX 1)
  · rw [if_pos c1] at h
    by_cases hk : S.2.2.1 = -1
    · rw [if_pos hk] at h
      rcases bd_l h with h | ⟨y, y1, h⟩
      · exact pN_e (by omega) b2.2.1 h
      have b3 := pN_p b2.2.1 y1
      exact yQ_e (by omega) b3.2 h
    · rw [if_neg hk] at h
      simp at h
      subst h
      unfold EB
      simp only
      omega
  rw [if_neg c1] at h
  by_cases c2 : tW l T (tB l T p) (STX 2)
  · rw [if_pos c2] at h
    rcases bd_l h with h | ⟨y, y1, h⟩
    · exact yK_e (by omega) b2.2.1 h
    have b3 := yK_b b2.2.1 y1
    have b4 : 0 ≤ y.2.1 ∧ y.2.1 ≤ l := by
      obtain ⟨a, a1, y1⟩ := bd_r y1
      have b5 := pN_p b2.2.1 a1
      obtain ⟨c, c1, y1⟩ := bd_r y1
      have b6 := tB_b (T := T) b5.2
      split at y1 <;> simp at y1
      subst y1
      simp only
      omega
    by_cases hk : S.2.2.2 (2 + y.1) = 1
    · rw [if_pos hk] at h
      simp at h
      subst h
      unfold EB
      simp only
      omega
    · rw [if_neg hk] at h
      exact yQ_e (by omega) b3.1.2 h
  rw [if_neg c2] at h
  by_cases c7 : tW l T (tB l T p) (STX 7)
  · rw [if_pos c7] at h
    rcases bd_l h with h | ⟨y, y1, h⟩
    · exact pN_e (by omega) b2.2.1 h
    have b3 := pN_p b2.2.1 y1
    rcases bd_l h with h | ⟨z, z1, h⟩
    · exact yK_e (by omega) b3.2 h
    have b4 := yK_b b3.2 z1
    exact yQ_e (by omega) b4.1.2 h
  rw [if_neg c7] at h
  simp at h
  subst h
  unfold EB
  simp only
  omega
theorem yM_f : ∀ (d : Nat) (k p : Int) (S : YS), 0 ≤ k → 0 ≤ p → p ≤ l → yI k S → (∀ e, yM l T d p k S = .inl e → EB l e) ∧ ∀ S', yM l T d p k S = .inr S' → ∃ k', yI k' S' := by
  intro d
  induction d with
  | zero =>
    intro k p S k0 p0 hp hi
    refine ⟨fun e h => ?_, fun S' h => ?_⟩
    · unfold yM at h
      simp at h
    · unfold yM at h
      simp at h
      exact ⟨k, h ▸ hi⟩
  | succ d ih =>
    intro k p S k0 p0 hp hi
    refine ⟨fun e h => ?_, fun S' h => ?_⟩
    · unfold yM at h
      by_cases h0 : tK l T (tB l T p) = 0
      · rw [if_pos h0] at h; simp at h
      · rw [if_neg h0] at h
        rcases bd_l h with h | ⟨y, y1, h⟩
        · exact yL_e p0 hp h
        · have hy := yL_i hi k0 hp y1
          exact (ih (k + 1) y.2 y.1 (by omega) (by omega) hy.2.2 hy.1).1 e h
    · unfold yM at h
      by_cases h0 : tK l T (tB l T p) = 0
      · rw [if_pos h0] at h
        simp at h
        exact ⟨k, h ▸ hi⟩
      · rw [if_neg h0] at h
        obtain ⟨y, y1, h⟩ := bd_r h
        have hy := yL_i hi k0 hp y1
        exact (ih (k + 1) y.2 y.1 (by omega) (by omega) hy.2.2 hy.1).2 S' h
theorem inv_err {c s : Int} (hi : INV A) (l1 : l ≤ 1000) (h : EB l (c, s)) : INV (wTx A 0 c s) := by
  obtain ⟨h1, h2, h3, h4, h5⟩ := hi
  unfold EB at h
  simp only at h
  refine ⟨h1, h2, h3, ⟨by show (0 : Int) ≤ 0; omega, by show (0 : Int) ≤ 1000; omega, fun i i0 i1 => ?_⟩, ?_⟩
  · have i1 : i < 0 := i1
    omega
  · obtain ⟨h6, h7⟩ := h5
    refine ⟨?_, h7⟩
    show 0 ≤ c ∧ c ≤ 5 ∧ -1 ≤ s ∧ s ≤ 1000
    omega
theorem inv_load (hi : INV A) : INV (xLoad A).1 := by
  have hi4 := hi.2.2.2.1
  have hf := yM_f (l := A.2.2.2.2.1.1) (T := A.2.2.2.2.1.2) 1001 0 0 (1, 1, -1, zemp) (by omega) (by omega) hi4.1 yI_0
  unfold xLoad
  cases hr : yM A.2.2.2.2.1.1 A.2.2.2.2.1.2 1001 0 0 (1, 1, -1, zemp) with
  | inl r => exact inv_err hi hi4.2.1 (hf.1 r hr)
  | inr S =>
    obtain ⟨k', hk⟩ := hf.2 S hr
    exact inv_ld hi hk
theorem pP_f {v : Int} {r : (Int × Int × Int) × Int} (p0 : 0 ≤ p) (hp : p ≤ l) : (∀ e, pP l T v p = .inl e → EB l e) ∧ (pP l T v p = .inr r → p ≤ r.2 ∧ r.2 ≤ l) := by
  have bn : ∀ {f : Int → Int → PP} {e : Int × Int} {q : PR}, bnd q f = .inl e → q = .inl e ∨ ∃ a, q = .inr a ∧ f a.1 a.2 = .inl e := fun {f e q} h => by
    cases q with
    | inl e' => exact Or.inl (by simp only [bnd] at h; rw [Sum.inl.injEq] at h; rw [h])
    | inr a => exact Or.inr ⟨a, rfl, h⟩
  have bm : ∀ {f : Int → Int → PP} {b : (Int × Int × Int) × Int} {q : PR}, bnd q f = .inr b → ∃ a, q = .inr a ∧ f a.1 a.2 = .inr b := fun {f b q} h => by
    cases q with
    | inl e' => simp [bnd] at h
    | inr a => exact ⟨a, rfl, h⟩
  refine ⟨fun e h => ?_, fun h => ?_⟩
  · unfold pP at h
    by_cases h1 : v = 1
    · rw [if_pos h1] at h
      rcases bn h with h | ⟨a, a1, h⟩
      · exact pN_e p0 hp h
      · simp at h
    · rw [if_neg h1] at h
      rcases bn h with h | ⟨a, a1, h⟩
      · exact pN_e p0 hp h
      have b1 := pN_p hp a1
      by_cases h0 : v = 0
      · rw [if_pos h0] at h
        rcases bn h with h | ⟨b, b2, h⟩
        · exact pN_e (by omega) b1.2 h
        have b3 := pN_p b1.2 b2
        rcases bn h with h | ⟨c, c1, h⟩
        · exact pN_e (by omega) b3.2 h
        · simp at h
      · rw [if_neg h0] at h
        by_cases h4 : v = 4
        · rw [if_pos h4] at h; simp at h
        · rw [if_neg h4] at h
          rcases bn h with h | ⟨b, b2, h⟩
          · exact pW_x (by omega) b1.2 h
          · simp at h
  · unfold pP at h
    by_cases h1 : v = 1
    · rw [if_pos h1] at h
      obtain ⟨a, a1, h⟩ := bm h
      have b1 := pN_p hp a1
      simp at h
      subst h
      simp only
      omega
    · rw [if_neg h1] at h
      obtain ⟨a, a1, h⟩ := bm h
      have b1 := pN_p hp a1
      by_cases h0 : v = 0
      · rw [if_pos h0] at h
        obtain ⟨b, b2, h⟩ := bm h
        have b3 := pN_p b1.2 b2
        obtain ⟨c, c1, h⟩ := bm h
        have b4 := pN_p b3.2 c1
        simp at h
        subst h
        simp only
        omega
      · rw [if_neg h0] at h
        by_cases h4 : v = 4
        · rw [if_pos h4] at h
          simp at h
          subst h
          simp only
          omega
        · rw [if_neg h4] at h
          obtain ⟨b, b2, h⟩ := bm h
          have b3 := pW_p b1.2 b2
          simp at h
          subst h
          simp only
          omega
theorem pC_f {r : (Int × Int × Int × Int) × Int} (p0 : 0 ≤ p) (hp : p ≤ l) : (∀ e, pC l T n p = .inl e → EB l e) ∧ (pC l T n p = .inr r → p ≤ r.2 ∧ r.2 ≤ l) := by
  have b1 := tB_b (T := T) hp
  have b2 := tE_b (T := T) b1.2
  have e1 : ∀ c : Int, 1 ≤ c → c ≤ 5 → EB l (c, tB l T p) := fun c c0 c1 => by
    unfold EB
    simp only
    omega
  unfold pC
  by_cases h1 : pV l T (tB l T p) = -1
  · rw [if_pos h1]
    refine ⟨fun e h => ?_, fun h => ?_⟩
    · simp at h
      subst h
      exact e1 1 (by omega) (by omega)
    · simp at h
  rw [if_neg h1]
  by_cases h2 : 40 ≤ n
  · rw [if_pos h2]
    refine ⟨fun e h => ?_, fun h => ?_⟩
    · simp at h
      subst h
      exact e1 5 (by omega) (by omega)
    · simp at h
  rw [if_neg h2]
  cases hr : pP l T (pV l T (tB l T p)) (tE l T (tB l T p)) with
  | inl e' =>
    refine ⟨fun e h => ?_, fun h => ?_⟩
    · simp at h
      subst h
      exact (pP_f (r := ((0, 0, 0), 0)) (by omega) b2.2.1).1 _ hr
    · simp at h
  | inr q =>
    have b3 := (pP_f (r := q) (by omega) b2.2.1).2 hr
    obtain ⟨q1, q2⟩ := q
    simp only at b3 ⊢
    cases hr2 : pS l T q2 with
    | inl e' =>
      refine ⟨fun e h => ?_, fun h => ?_⟩
      · simp at h
        subst h
        exact pS_e (by omega) b3.2 hr2
      · simp at h
    | inr z =>
      have b4 := pS_p b3.2 hr2
      obtain ⟨z1, z2⟩ := z
      simp only at b4 ⊢
      refine ⟨fun e h => ?_, fun h => ?_⟩
      · simp at h
      · simp at h
        subst h
        simp only
        omega
theorem pA_e : ∀ (d : Nat) (p n : Int) (K : Int → Int × Int × Int × Int) (e : Int × Int), 0 ≤ p → p ≤ l → pA l T d p n K = .inl e → EB l e := by
  intro d
  induction d with
  | zero =>
    intro p n K e p0 hp h
    unfold pA at h
    simp at h
  | succ d ih =>
    intro p n K e p0 hp h
    unfold pA at h
    by_cases h0 : tK l T (tB l T p) = 0
    · rw [if_pos h0] at h; simp at h
    · rw [if_neg h0] at h
      cases hc : pC l T n p with
      | inl r =>
        rw [hc] at h
        simp at h
        subst h
        exact (pC_f (r := ((0, 0, 0, 0), 0)) p0 hp).1 _ hc
      | inr r =>
        have b := (pC_f (r := r) p0 hp).2 hc
        obtain ⟨row, p1⟩ := r
        rw [hc] at h
        simp only at b
        exact ih p1 (n + 1) _ e (by omega) b.2 h
theorem plz_inv {K : Int → Int × Int × Int × Int} : ∀ (d : Nat) (k : Int) (A : AS), INV A → (∀ j, k ≤ j → j < k + d → CB (K j)) → INV (plz K d k A).1 := by
  intro d
  induction d with
  | zero => intro k A hi _; exact hi
  | succ d ih =>
    intro k A hi hK
    have h1 := inv_do hi (hK k (by omega) (by omega))
    unfold plz
    by_cases h : 0 ≤ (oDo A (K k)).2.2
    · rw [if_pos h]
      exact ih (k + 1) _ h1 (fun j j0 j1 => hK j (by omega) (by omega))
    · rw [if_neg h]
      exact h1
theorem inv_play (hi : INV A) : INV (xPlay A).1 := by
  have hi4 := hi.2.2.2.1
  unfold xPlay
  cases hr : pA A.2.2.2.2.1.1 A.2.2.2.2.1.2 1001 0 0 (fun _ => (0, 0, 0, 0)) with
  | inl r => exact inv_err hi hi4.2.1 (pA_e 1001 0 0 _ r (by omega) hi4.1 hr)
  | inr r =>
    obtain ⟨n, K⟩ := r
    have hb := pA_b (l := A.2.2.2.2.1.1) (T := A.2.2.2.2.1.2) 1001 0 0 _ n K (fun k k0 k1 => by omega) hr
    exact plz_inv n.toNat 0 _ (inv_tx hi) (fun j j0 j1 => hb j j0 (by omega))
end
