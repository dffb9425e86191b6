/-! ===== the bounds of a command ===== -/
def CB (r : Int × Int × Int × Int) : Prop := (r.1 = 0 ∧ (0 ≤ r.2.1 ∧ r.2.1 ≤ 35) ∧ (0 ≤ r.2.2.1 ∧ r.2.2.1 ≤ 35) ∧ 1 ≤ r.2.2.2 ∧ r.2.2.2 ≤ 200) ∨ (r.1 = 1 ∧ 1 ≤ r.2.1 ∧ r.2.1 ≤ 500) ∨ ((r.1 = 2 ∨ r.1 = 3) ∧ (0 ≤ r.2.1 ∧ r.2.1 ≤ 35) ∧ 0 ≤ r.2.2.1 ∧ r.2.2.1 ≤ 3) ∨ (r.1 = 4 ∧ 0 ≤ r.2.1 ∧ r.2.1 ≤ 35)
section
variable {l p n : Int} {T : Int → Int}
theorem pP_b {v a b c p' : Int} (v0 : 0 ≤ v) (v1 : v ≤ 4) (h : pP l T v p = .inr ((a, b, c), p')) : CB (v, a, b, c) := by
  unfold pP at h
  unfold CB
  by_cases h1 : v = 1
  · rw [if_pos h1] at h
    cases hr : pN l T 1 500 p with
    | inl r => rw [hr] at h; simp [bnd] at h
    | inr r =>
      obtain ⟨a', p1⟩ := r
      rw [hr] at h
      have hb := pN_b hr
      simp [bnd] at h
      right; left
      simp only
      omega
  · rw [if_neg h1] at h
    cases hr : pN l T 0 35 p with
    | inl r => rw [hr] at h; simp [bnd] at h
    | inr r =>
      obtain ⟨a', p1⟩ := r
      rw [hr] at h
      have hb := pN_b hr
      have h : (if v = 0 then bnd (pN l T 0 35 p1) (fun b p2 => bnd (pN l T 1 200 p2) (fun c p3 => .inr ((a', b, c), p3))) else if v = 4 then .inr ((a', 0, 0), p1) else bnd (pW l T p1) (fun b p2 => .inr ((a', b, 0), p2))) = (.inr ((a, b, c), p') : PP) := h
      by_cases h0 : v = 0
      · rw [if_pos h0] at h
        cases hr2 : pN l T 0 35 p1 with
        | inl r => rw [hr2] at h; simp [bnd] at h
        | inr r =>
          obtain ⟨b', p2⟩ := r
          rw [hr2] at h
          have hb2 := pN_b hr2
          have h : bnd (pN l T 1 200 p2) (fun c p3 => .inr ((a', b', c), p3)) = (.inr ((a, b, c), p') : PP) := h
          cases hr3 : pN l T 1 200 p2 with
          | inl r => rw [hr3] at h; simp [bnd] at h
          | inr r =>
            obtain ⟨c', p3⟩ := r
            rw [hr3] at h
            have hb3 := pN_b hr3
            simp [bnd] at h
            left
            simp only
            omega
      · rw [if_neg h0] at h
        by_cases h4 : v = 4
        · rw [if_pos h4] at h
          simp at h
          right; right; right
          simp only
          omega
        · rw [if_neg h4] at h
          cases hr2 : pW l T p1 with
          | inl r => rw [hr2] at h; simp [bnd] at h
          | inr r =>
            obtain ⟨b', p2⟩ := r
            rw [hr2] at h
            have hb2 := pW_b hr2
            simp [bnd] at h
            right; right; left
            simp only
            omega
theorem pC_b {r : Int × Int × Int × Int} {p' : Int} (h : pC l T n p = .inr (r, p')) : CB r := by
  have vb := pV_b (l := l) (T := T) (s := tB l T p)
  unfold pC at h
  by_cases h1 : pV l T (tB l T p) = -1
  · rw [if_pos h1] at h; simp at h
  · rw [if_neg h1] at h
    by_cases h2 : 40 ≤ n
    · rw [if_pos h2] at h; simp at h
    · rw [if_neg h2] at h
      cases hr : pP l T (pV l T (tB l T p)) (tE l T (tB l T p)) with
      | inl e => rw [hr] at h; simp at h
      | inr q =>
        obtain ⟨⟨a, b, c⟩, p1⟩ := q
        rw [hr] at h
        have hb := pP_b (by omega) vb.2 hr
        simp only at h
        cases hr2 : pS l T p1 with
        | inl e => rw [hr2] at h; simp at h
        | inr q =>
          obtain ⟨o, p2⟩ := q
          rw [hr2] at h
          simp at h
          rw [← h.1]
          exact hb
end
