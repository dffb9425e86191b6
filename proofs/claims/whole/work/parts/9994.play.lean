/-! ===== the class: play ===== -/
def plz (K : Int → Int × Int × Int × Int) : Nat → Int → AS → AR
  | 0, k, A => (A, (0, k))
  | d + 1, k, A => if 0 ≤ (oDo A (K k)).2.2 then plz K d (k + 1) (oDo A (K k)).1 else ((oDo A (K k)).1, (0, k))
/-- the state with another text and error -/
def wTx (A : AS) (l e p : Int) : AS := (A.1, A.2.1, A.2.2.1, A.2.2.2.1, (l, A.2.2.2.2.1.2), (e, p), A.2.2.2.2.2.2)
noncomputable def xPlay (A : AS) : AR := match pA A.2.2.2.2.1.1 A.2.2.2.2.1.2 1001 0 0 (fun _ => (0, 0, 0, 0)) with
  | .inl (c, s) => (wTx A 0 c s, (0, -3))
  | .inr (n, K) => plz K n.toNat 0 (wTx A 0 0 (-1))
section
variable {μ ν : XM} {x : Nat} {Q : XQ} {X : XX} {A : AS} {C : Nat → Prop} {l e p : Int} {T : Int → Int}
theorem inv_do {r : Int × Int × Int × Int} (hi : INV A) (hb : CB r) : INV (oDo A r).1 := by
  obtain ⟨v, a, b, c⟩ := r
  unfold CB at hb
  simp only at hb
  unfold oDo
  simp only
  by_cases h1 : v = 1
  · rw [if_pos h1]; exact hi.tick (by omega)
  · rw [if_neg h1]
    by_cases ha : 0 ≤ a ∧ a < A.1.2.2.1
    · rw [if_neg (fun z => z ha)]
      by_cases h0 : v = 0
      · rw [if_pos h0]
        by_cases hb2 : 0 ≤ b ∧ b < A.1.2.2.1
        · rw [if_pos hb2]; exact hi.send ha.1 ha.2 hb2.1 hb2.2 (by omega) (by omega)
        · rw [if_neg hb2]; exact hi
      · rw [if_neg h0]
        by_cases h2 : v = 2
        · rw [if_pos h2]; exact hi.turn (Or.inr rfl)
        · rw [if_neg h2]
          by_cases h3 : v = 3
          · rw [if_pos h3]; exact hi.turn (Or.inl rfl)
          · rw [if_neg h3]; exact hi.forget ha.1 ha.2
    · rw [if_pos ha]; exact hi
theorem XS.tx (hx : XS μ x A) (hi : INV A) (hc : CH C ν μ) (hs : ∀ a, x ≤ a → a < x + 1345 → C a → x + 1171 ≤ a ∧ a < x + 1176) (hT : XT ν x l A.2.2.2.2.1.2 e p) : XS ν x (wTx A l e p) := by
  obtain ⟨x1, x2, x3, x4, x5, x6, x7⟩ := hx
  have hn : ∀ a, x ≤ a → a < x + 1345 → ¬ (x + 1171 ≤ a ∧ a < x + 1176) → ¬ C a := fun a a0 a1 a2 a3 => a2 (hs a a0 a1 a3)
  exact ⟨x1.mono hc.1, x2.frame hi.1.1.1 hc (fun a a0 a1 => hn a (by omega) (by omega) (by omega)), x3.frame hc (fun a a0 a1 => hn a (by omega) (by omega) (by omega)), x4.frame hi.2.1.2.2 hc (fun a a0 a1 => hn a (by omega) (by omega) (by omega)), x5.frame hi.2.2.1 hc (fun a a0 a1 a2 => hn a (by omega) (by omega) (by omega)), hT, x7.frame hc (hn x (by omega) (by omega) (by omega)) (hn (x + 1178) (by omega) (by omega) (by omega))⟩
end
