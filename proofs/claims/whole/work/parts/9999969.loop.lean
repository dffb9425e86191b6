/-! ===== the law's loop ===== -/
theorem ite_i {p P N : Prop} [Decidable p] (h1 : P) (h2 : N) : if p then P else N := by
  by_cases h : p
  · rw [if_pos h]; exact h1
  · rw [if_neg h]; exact h2
section
variable {x m o d b : Nat} {Q : XQ} {X : XX} {N : Nat}
theorem lawloop (hQ : ∀ μ, Q (some (.int (ji 1))) μ) (hN : N ≤ 3072) : ∀ (dd mf : Nat) (k : Int) (μ : XM) (A : AS) (nc ns : Nat), (N : Int) - 6 < k + 6 * dd → dd < mf → 0 ≤ k → k ≤ N → LV μ x m o d b A → ln μ b = N → nc + 3 * dd + 3 ≤ 603072 → ns + 18 * dd + 18 ≤ 7211113 → ln_L_law_28 Q X mf [some (.ref b), some (.ref x), some (.ref m), some (.ref o), some (.ref d), some (.int (ji k)), none, none, none] [] μ nc ns := by
  intro dd
  induction dd with
  | zero =>
    intro mf k μ A nc ns hm h0 k0 kN hV hl hr1 hr2
    obtain ⟨mf, rfl⟩ : ∃ j, mf = j + 1 := ⟨mf - 1, by omega⟩
    have tb := hV.2.2.2.2.1
    rw [ul_L_law_28]
    refine ⟨⟨9, Or.inr rfl, tb⟩, ?_⟩
    rw [hl, ji_ofNat, ji_sub, if_pos (by rw [ji_lt (by omega) (by omega) (by omega) (by omega)]; omega), nb1]
    exact ⟨trivial, hQ _⟩
  | succ dd ih =>
    intro mf k μ A nc ns hm h0 k0 kN hV hl hr1 hr2
    obtain ⟨mf, rfl⟩ : ∃ j, mf = j + 1 := ⟨mf - 1, by omega⟩
    have tb := hV.2.2.2.2.1
    rw [ul_L_law_28]
    refine ⟨⟨9, Or.inr rfl, tb⟩, ?_⟩
    by_cases hk : (N : Int) - 6 < k
    · rw [hl, ji_ofNat, ji_sub, if_pos (by rw [ji_lt (by omega) (by omega) (by omega) (by omega)]; omega), nb1]
      exact ⟨trivial, hQ _⟩
    · have hF : LKo (ln_L_law_28 Q X mf) x m o d b (ji k) μ nc ns := fun ν A' hV' hb nc' ns' g1 g2 => by
        rw [ji_add]
        exact ih mf (k + 6) ν A' nc' ns' (by omega) (by omega) (by omega) (by omega) hV' (hb.2.trans hl) (by omega) (by omega)
      have hp : ∀ j : Int, 1 ≤ j → j ≤ 5 → vp_in (ji k + ji j) (ln μ b) := fun j j1 j2 => by
        rw [hl, ji_add, ji_in (by omega) (by omega)]
        omega
      have hv : vp_in (ji k) (ln μ b) := by
        rw [hl, ji_in (by omega) (by omega)]
        omega
      have hd : j_L_law_3064 Q X (ln_L_law_28 Q X mf) [some (.ref b), some (.ref x), some (.ref m), some (.ref o), some (.ref d), some (.int (ji k)), none, none, none] [] μ nc ns := by
        rw [uj_L_law_3064]
        exact hF μ A hV ⟨fun _ => rfl, rfl⟩ nc ns (by omega) (by omega)
      have hr1 : nc + 3 ≤ 603072 := by omega
      have hr2 : ns + 18 ≤ 7211113 := by omega
      rw [if_neg (by rw [hl, ji_ofNat, ji_sub, ji_lt (by omega) (by omega) (by omega) (by omega)]; omega)]
      refine ⟨Or.inr tb, hv, ?_⟩
      exact ite_i (cs_280 hV hp hr1 hr2 hF) (ite_i (cs_353 hV hp hr1 hr2 hF) (ite_i (cs_378 hV hp hr1 hr2 hF) (ite_i (cs_391 hV hp hr1 hr2 hF) (ite_i (cs_404 hV hp hr1 hr2 hF) (ite_i (cs_417 hV hp hr1 hr2 hF) (ite_i (cs_442 hV hp hr1 hr2 hF) (ite_i (cs_510 hV hp hr1 hr2 hF) (ite_i (cs_573 hV hp hr1 hr2 hF) (ite_i (cs_657 hV hp hr1 hr2 hF) (ite_i (cs_725 hV hp hr1 hr2 hF) (ite_i (cs_781 hV hp hr1 hr2 hF) (ite_i (cs_837 hV hp hr1 hr2 hF) (ite_i (cs_893 hV hp hr1 hr2 hF) (ite_i (cs_906 hV hp hr1 hr2 hF) (ite_i (cs_919 hV hp hr1 hr2 hF) (ite_i (cs_987 hV hp hr1 hr2 hF) (ite_i (cs_1055 hV hp hr1 hr2 hF) (ite_i (cs_1123 hV hp hr1 hr2 hF) (ite_i (cs_1203 hV hp hr1 hr2 hF) (ite_i (cs_1216 hV hp hr1 hr2 hF) (ite_i (cs_1272 hV hp hr1 hr2 hF) (ite_i (cs_1340 hV hp hr1 hr2 hF) (ite_i (cs_1396 hV hp hr1 hr2 hF) (ite_i (cs_1476 hV hp hr1 hr2 hF) (ite_i (cs_1532 hV hp hr1 hr2 hF) (ite_i (cs_1600 hV hp hr1 hr2 hF) (ite_i (cs_1668 hV hp hr1 hr2 hF) (ite_i (cs_1724 hV hp hr1 hr2 hF) (ite_i (cs_1792 hV hp hr1 hr2 hF) (ite_i (cs_1860 hV hp hr1 hr2 hF) (ite_i (cs_1935 hV hp hr1 hr2 hF) (ite_i (cs_2003 hV hp hr1 hr2 hF) (ite_i (cs_2059 hV hp hr1 hr2 hF) (ite_i (cs_2115 hV hp hr1 hr2 hF) (ite_i (cs_2171 hV hp hr1 hr2 hF) (ite_i (cs_2239 hV hp hr1 hr2 hF) (ite_i (cs_2307 hV hp hr1 hr2 hF) (ite_i (cs_2363 hV hp hr1 hr2 hF) (ite_i (cs_2419 hV hp hr1 hr2 hF) (ite_i (cs_2475 hV hp hr1 hr2 hF) (ite_i (cs_2488 hV hp hr1 hr2 hF) (ite_i (cs_2544 hV hp hr1 hr2 hF) (ite_i (cs_2612 hV hp hr1 hr2 hF) (ite_i (cs_2668 hV hp hr1 hr2 hF) (ite_i (cs_2748 hV hp hr1 hr2 hF) (ite_i (cs_2816 hV hp hr1 hr2 hF) (ite_i (cs_2881 hV hp hr1 hr2 hF) (ite_i (cs_2894 hV hp hr1 hr2 hF) (ite_i (cs_2950 hV hp hr1 hr2 hF) (ite_i (cs_2975 hV hp hr1 hr2 hF) (ite_i (cs_2988 hV hp hr1 hr2 hF) (ite_i (cs_3001 hV hp hr1 hr2 hF) (ite_i (cs_3014 hV hp hr1 hr2 hF) (ite_i (cs_3039 hV hp hr1 hr2 hF) (hd)))))))))))))))))))))))))))))))))))))))))))))))))))))))
theorem law_ok {μ : XM} (hQ : ∀ μ, Q (some (.int (ji 1))) μ) (hN : N ≤ 3072) (hfr : fr μ = true) (tb : tg μ b = some (.inr 9)) (lb : ln μ b = N) (hb : b < tp μ) (hC : SC μ (tp μ)) : s_L_law μ [.ref b] Q X := by
  obtain ⟨x, hx⟩ : ∃ x, tp μ = x := ⟨_, rfl⟩
  rw [hx] at hb hC
  rw [u_L_law, hx]
  refine ⟨hfr, by omega, by omega, rfl, by omega, by omega, ?_⟩
  have o1 := nobj (ci := 8) hfr hx
  refine q_new o1.1.1 o1.1.2 o1.2.1.1 o1.2.1.2 (fun ν nb1 x1 => ?_)
  show c_L_law_1 Q X b μ ν
  rw [c_L_law_1, hx, uj_L_law_8]
  intro m hm
  have hs1 : tg ν (x + 1344) = some (.inr 0) := by
    have := (x1.1.s1.2.2.2 24 (by omega)).2.2.2.2.2.2.1
    exact this
  have hxm : x + 1344 < m := hm _ (Or.inr ⟨0, Or.inl (by omega), hs1⟩)
  have e1 : ∀ a, a < x → SQ ν μ a := fun a ha => (nb1 a ha).trans (o1.2.2 a (by omega))
  show fr (rT ν m) = true ∧ _
  refine ⟨rfl, by omega, by omega, rfl, by omega, by omega, ?_⟩
  have o2 := nobj (μ := rT ν m) (ci := 9) (t := m) rfl rfl
  show s_X9_init (nO (rT ν m) 9) [.ref m] _ _
  refine r_anew o2.1.1 o2.1.2 o2.2.1.1 o2.2.1.2 (fun ν2 nb2 m2 => ?_)
  show c_L_law_2 Q X b x ν m _ _ ν2
  have sT : ∀ a, SQ (rT ν m) ν a := fun a => ⟨⟨rfl, rfl⟩, fun _ => rfl, fun _ => rfl, fun _ => rfl, fun _ => rfl, fun _ => rfl, fun _ => rfl, fun _ => rfl⟩
  have e2 : ∀ a, a < m → SQ ν2 ν a := fun a ha => ((nb2 a ha).trans (o2.2.2 a (by omega))).trans (sT a)
  rw [c_L_law_2, uj_L_law_16]
  show ∀ t : Nat, (∀ a, xok (tg ν2 a) → a < t) → _
  intro o ho
  have hm1 : tg ν2 (m + 12) = some (.inr 0) := m2.1.2.1.2.2.2.2.2.2.2.2.2.2.2
  have hmo : m + 12 < o := ho _ (Or.inr ⟨0, Or.inl (by omega), hm1⟩)
  have n1 : Int32.toNatClampNeg (ji 1) = 1 := rfl
  have n2 : ¬ ji 1 < 0 := by decide
  rw [n1]
  refine ⟨rfl, n2, by omega, by omega, by omega, rfl, n2, by omega, by omega, by omega, ?_⟩
  have sO : ∀ a, a ≠ o → a ≠ o + 1 → SQ (nA (nA (rT ν2 o) 3 1) 4 1) ν2 a := fun a a0 a1 => by
    have q1 : a ≠ tp (rT ν2 o) := a0
    have q2 : a ≠ tp (nA (rT ν2 o) 3 1) := a1
    exact ⟨⟨(if_neg q2).trans (if_neg q1), (if_neg q2).trans (if_neg q1)⟩, fun _ => rfl, fun _ => rfl, fun _ => rfl, fun i => (if_neg q2).trans (if_neg q1), fun i => (if_neg q2).trans (if_neg q1), fun i => (if_neg q2).trans (if_neg q1), fun i => (if_neg q2).trans (if_neg q1)⟩
  have tO : tg (nA (nA (rT ν2 o) 3 1) 4 1) o = some (.inr 3) := by
    have q2 : o ≠ tp (nA (rT ν2 o) 3 1) := show o ≠ o + 1 by omega
    exact (if_neg q2).trans (if_pos rfl)
  have lO : ln (nA (nA (rT ν2 o) 3 1) 4 1) o = 1 := by
    have q2 : o ≠ tp (nA (rT ν2 o) 3 1) := show o ≠ o + 1 by omega
    exact (if_neg q2).trans (if_pos rfl)
  have tD : tg (nA (nA (rT ν2 o) 3 1) 4 1) (o + 1) = some (.inr 4) := if_pos rfl
  have lD : ln (nA (nA (rT ν2 o) 3 1) 4 1) (o + 1) = 1 := if_pos rfl
  show l_L_law_28 Q X [some (.ref b), some (.ref x), some (.ref m), some (.ref o), some (.ref (o + 1)), some (.int (ji 0)), none, none, none] [] (nA (nA (rT ν2 o) 3 1) 4 1) _ _
  generalize nA (nA (rT ν2 o) 3 1) 4 1 = ξ at *
  have eb := (sO b (by omega) (by omega)).trans ((e2 b (by omega)).trans (e1 b (by omega)))
  rw [l_L_law_28, xseal_eq]
  refine lawloop hQ hN 512 10000 0 ξ aZ _ _ (by omega) (by omega) (by omega) (by omega) ⟨inv_0, ⟨?_, ?_, ?_⟩, ⟨tO, lO⟩, ⟨tD, lD⟩, eb.1.1.trans tb, hb, by omega, by omega, by omega⟩ (eb.1.2.trans lb) (by omega) (by omega)
  · exact hC.sq (by omega) (fun a ha => (sO a (by omega) (by omega)).trans ((e2 a (by omega)).trans (e1 a ha)))
  · exact x1.sq inv_0 (fun a a0 a1 => (sO a (by omega) (by omega)).trans (e2 a (by omega)))
  · exact m2.sq (fun a a0 a1 => sO a (by omega) (by omega))
end
