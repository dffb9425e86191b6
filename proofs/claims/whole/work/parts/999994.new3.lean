/-! ===== what is made: the class, the reference ===== -/
def aZ : AS := ((1, 1, 1, 50), zemp, (0, fun _ => zemp), (fun _ => false, fun _ => zemp), (0, fun _ => 0), (0, -1), (0, fun _ => 0))
theorem inv_0 : INV aZ := by
  refine ⟨OK_zemp (w := 1) (h := 1) (t := 50) (by omega) (by omega) (by omega) (by omega) (by omega) (by omega), ⟨by show (0 : Int) ≤ 0; omega, by show (0 : Int) ≤ 12; omega, fun j j0 j1 => ?_⟩, fun p hp => ?_, ⟨by show (0 : Int) ≤ 0; omega, by show (0 : Int) ≤ 1000; omega, fun i i0 i1 => ?_⟩, ?_, by show (0 : Int) ≤ 0; omega, by show (0 : Int) ≤ 37; omega, fun i i0 i1 => ?_⟩
  · have j1 : j < 0 := j1
    omega
  · have hp : false = true := hp
    exact absurd hp (by decide)
  · have i1 : i < 0 := i1
    omega
  · show (0 : Int) ≤ 0 ∧ (0 : Int) ≤ 5 ∧ (-1 : Int) ≤ -1 ∧ (-1 : Int) ≤ 1000
    omega
  · have i1 : i < 0 := i1
    omega
section
variable {μ : XM} {Q : XQ} {X : XX} {x : Nat}
theorem e_snapsNew (hK : ∀ ν, NB x ν μ → (tg ν x = some (.inl 8) ∧ gR ν 263 x = some (x + 1176) ∧ gR ν 256 x = some (x + 1) ∧ tg ν (x + 1176) = some (.inr 5) ∧ ln ν (x + 1176) = 2) → (∀ a, x ≤ a → a < x + 1179 → a ≠ x + 1176 → SQ ν μ a) → (∀ j, j < 2 → aR ν (x + 1176) j = some (x + 1179 + 83 * j) ∧ ZW ν (x + 1179 + 83 * j)) → s_X7_clear ν [.ref (x + 1)] (qV (c_X8_init_8 Q)) (fun _ _ => False)) : ∀ (d mf k : Nat) (ν : XM) (nc ns : Nat), k + d = 2 → d < mf → NB x ν μ → (fr ν = true ∧ tp ν = x + 1179 + 83 * k) → (tg ν x = some (.inl 8) ∧ gR ν 263 x = some (x + 1176) ∧ gR ν 256 x = some (x + 1) ∧ tg ν (x + 1) = some (.inl 7) ∧ tg ν (x + 1176) = some (.inr 5) ∧ ln ν (x + 1176) = 2) → (∀ a, x ≤ a → a < x + 1179 → a ≠ x + 1176 → SQ ν μ a) → (∀ j, j < k → aR ν (x + 1176) j = some (x + 1179 + 83 * j) ∧ ZW ν (x + 1179 + 83 * j)) → nc = 1178 + 83 * k → ns = 84339 + 5918 * k → ln_X8_init_106 Q X mf [some (.ref x), some (.int (ji k))] [] ν nc ns := by
  intro d
  induction d with
  | zero =>
    intro mf k ν nc ns hd hm hb hf hw hs hp e1 e2
    obtain ⟨mf, rfl⟩ : ∃ j, mf = j + 1 := ⟨mf - 1, by omega⟩
    obtain rfl : k = 2 := by omega
    obtain ⟨h1, h2, h3, h4, h5, h6⟩ := hw
    rw [ul_X8_init_106]
    refine ⟨h1, x + 1176, h2, ⟨5, Or.inl (by omega), h5⟩, ?_⟩
    rw [h6, if_pos (by rw [ji_ofNat]; exact Int32.le_refl _)]
    exact ⟨h1, x + 1, h3, h4, hK ν hb ⟨h1, h2, h3, h5, h6⟩ hs hp⟩
  | succ d ih =>
    intro mf k ν nc ns hd hm hb hf hw hs hp e1 e2
    obtain ⟨mf, rfl⟩ : ∃ j, mf = j + 1 := ⟨mf - 1, by omega⟩
    obtain ⟨h1, h2, h3, h4, h5, h6⟩ := hw
    rw [ul_X8_init_106]
    refine ⟨h1, x + 1176, h2, ⟨5, Or.inl (by omega), h5⟩, ?_⟩
    rw [h6, if_neg (by rw [ji_ofNat, ji_le (by omega) (by omega) (by omega) (by omega)]; omega)]
    refine ⟨h1, x + 1176, h2, hf.1, by omega, by omega, rfl, by omega, by omega, ?_⟩
    have o := nobj (ci := 7) hf.1 hf.2
    rw [hf.2]
    refine e_worldNew (W := x + 1179 + 83 * k) o.1.1 o.1.2 o.2.1.1 (fun ξ n1 n2 n3 => ?_)
    have sq : ∀ a, a < x + 1179 + 83 * k → SQ ξ ν a := fun a ha => (n1 a ha).trans (o.2.2 a (by omega))
    have s0 := sq x (by omega)
    have s7 := sq (x + 1176) (by omega)
    have w := nwr (μ := ξ) (a := x + 1176) (i := k) (v := some (x + 1179 + 83 * k))
    have w0 := (w.2.2.2 x (by omega)).trans s0
    have w1 := (w.2.2.2 (x + 1) (by omega)).trans (sq (x + 1) (by omega))
    show c_X8_init_9 (ji k) (x + 1176) ν Q X mf x nc ns ξ
    rw [c_X8_init_9, hf.2, ji_nat (by omega) (by omega), Int.toNat_natCast, ji_add]
    refine ⟨by rw [ji_in (by omega) (by omega), s7.1.2, h6]; omega, Or.inl ⟨s7.1.1.trans h5, n3.1.1.1⟩, ?_⟩
    refine ih mf (k + 1) _ _ _ (by omega) (by omega) (fun a ha => (w.2.2.2 a (by omega)).trans ((sq a (by omega)).trans (hb a ha))) ⟨w.1.1.trans n2.1, w.1.2.trans (by omega)⟩ ⟨w0.1.1.trans h1, (w0.2.2.2.1 _).trans h2, (w0.2.2.2.1 _).trans h3, w1.1.1.trans h4, w.2.2.1.1.trans (s7.1.1.trans h5), w.2.2.1.2.1.trans (s7.1.2.trans h6)⟩ (fun a a0 a1 a2 => (w.2.2.2 a a2).trans ((sq a (by omega)).trans (hs a a0 a1 a2))) (fun j hj => ?_) (by omega) (by omega)
    by_cases hjk : j = k
    · subst hjk
      exact ⟨w.2.1, n3.sq (fun a a0 a1 => w.2.2.2 a (by omega))⟩
    · exact ⟨(w.2.2.1.2.2 j hjk).trans ((s7.2.2.2.2.2.2.2 j).trans (hp j (by omega)).1), (hp j (by omega)).2.sq (fun a a0 a1 => (w.2.2.2 a (by omega)).trans (sq a (by omega)))⟩
theorem q_new (hfr : fr μ = true) (ht : tp μ = x + 1) (hg : tg μ x = some (.inl 8)) (h0 : ∀ k, gI μ k x = 0) (hK : ∀ ν, NB x ν μ → XS ν x aZ → Q none ν) : s_X8_init μ [.ref x] Q X := by
  rw [u_X8_init]
  refine ⟨hfr, by omega, by omega, rfl, by omega, by omega, ?_⟩
  have o1 := nobj (ci := 7) hfr ht
  rw [ht]
  refine e_worldNew (W := x + 1) o1.1.1 o1.1.2 o1.2.1.1 (fun ν1 n1 f1 z1 => ?_)
  have s1 := nset (μ := ν1) (f := 256) (a := x) (v := some (x + 1))
  show c_X8_init_7 x μ Q X ν1
  have t1 : tp ν1 = x + 84 := f1.2.trans (by omega)
  rw [c_X8_init_7, ht]
  have e1 := ostage (x := x) (t := x + 1) o1 n1 s1 (by omega)
  have tg1 : tg (sR ν1 256 x (some (x + 1))) x = some (.inl 8) := e1.1.1.trans hg
  refine ⟨s1.2.2.1.1.symm.trans tg1, ?_⟩
  have u1 : fr (sR ν1 256 x (some (x + 1))) = true := s1.1.1.trans f1.1
  have v1 : tp (sR ν1 256 x (some (x + 1))) = x + 84 := s1.1.2.trans t1
  generalize sR ν1 256 x (some (x + 1)) = N1 at *
  have o2 := nobj (ci := 7) u1 v1
  refine ⟨u1, by omega, by omega, rfl, by omega, by omega, ?_⟩
  rw [v1]
  refine e_worldNew (W := x + 84) o2.1.1 o2.1.2 o2.2.1.1 (fun ν2 n2 f2 z2 => ?_)
  have s2 := nset (μ := ν2) (f := 257) (a := x) (v := some (x + 84))
  show c_X8_init_6 x ν1 μ Q X ν2
  have t2 : tp ν2 = x + 167 := f2.2.trans (by omega)
  have hq2 : ∀ v, tp (sR ν1 256 x v) = x + 84 := fun v => (tp_sR _ _ _ _).trans t1
  rw [c_X8_init_6, hq2]
  have e2 := ostage (x := x) (t := x + 84) o2 n2 s2 (by omega)
  have tg2 : tg (sR ν2 257 x (some (x + 84))) x = some (.inl 8) := e2.1.1.trans tg1
  refine ⟨s2.2.2.1.1.symm.trans tg2, ?_⟩
  have u2 : fr (sR ν2 257 x (some (x + 84))) = true := s2.1.1.trans f2.1
  have v2 : tp (sR ν2 257 x (some (x + 84))) = x + 167 := s2.1.2.trans t2
  generalize sR ν2 257 x (some (x + 84)) = N2 at *
  have o3 := nobj (ci := 1) u2 v2
  refine ⟨u2, by omega, by omega, rfl, by omega, by omega, ?_⟩
  rw [v2]
  refine e_histNew (H := x + 167) o3.1.1 o3.1.2 o3.2.1.1 o3.2.1.2 (fun ν3 n3 f3 z3 => ?_)
  have s3 := nset (μ := ν3) (f := 258) (a := x) (v := some (x + 167))
  show c_X8_init_5 x ν2 ν1 μ Q X ν3
  have t3 : tp ν3 = x + 1165 := f3.2.trans (by omega)
  have hq3 : ∀ v, tp (sR ν2 257 x v) = x + 167 := fun v => (tp_sR _ _ _ _).trans t2
  rw [c_X8_init_5, hq3]
  have e3 := ostage (x := x) (t := x + 167) o3 n3 s3 (by omega)
  have tg3 : tg (sR ν3 258 x (some (x + 167))) x = some (.inl 8) := e3.1.1.trans tg2
  refine ⟨s3.2.2.1.1.symm.trans tg3, ?_⟩
  have u3 : fr (sR ν3 258 x (some (x + 167))) = true := s3.1.1.trans f3.1
  have v3 : tp (sR ν3 258 x (some (x + 167))) = x + 1165 := s3.1.2.trans t3
  generalize sR ν3 258 x (some (x + 167)) = N3 at *
  have o4 := nobj (ci := 4) u3 v3
  refine ⟨u3, by omega, by omega, rfl, by omega, by omega, ?_⟩
  rw [v3]
  refine e_pathsNew (P := x + 1165) o4.1.1 o4.1.2 o4.2.1.1 (fun ν4 n4 f4 z4 => ?_)
  have s4 := nset (μ := ν4) (f := 259) (a := x) (v := some (x + 1165))
  show c_X8_init_4 x ν3 ν2 ν1 μ Q X ν4
  have t4 : tp ν4 = x + 1171 := f4.2.trans (by omega)
  have hq4 : ∀ v, tp (sR ν3 258 x v) = x + 1165 := fun v => (tp_sR _ _ _ _).trans t3
  rw [c_X8_init_4, hq4]
  have e4 := ostage (x := x) (t := x + 1165) o4 n4 s4 (by omega)
  have tg4 : tg (sR ν4 259 x (some (x + 1165))) x = some (.inl 8) := e4.1.1.trans tg3
  refine ⟨s4.2.2.1.1.symm.trans tg4, ?_⟩
  have u4 : fr (sR ν4 259 x (some (x + 1165))) = true := s4.1.1.trans f4.1
  have v4 : tp (sR ν4 259 x (some (x + 1165))) = x + 1171 := s4.1.2.trans t4
  generalize sR ν4 259 x (some (x + 1165)) = N4 at *
  have o5 := nobj (ci := 6) u4 v4
  refine ⟨u4, by omega, by omega, rfl, by omega, by omega, ?_⟩
  rw [v4]
  refine e_textNew (P := x + 1171) o5.1.1 o5.1.2 o5.2.1.1 o5.2.1.2 (fun ν5 n5 f5 z5 => ?_)
  have s5 := nset (μ := ν5) (f := 260) (a := x) (v := some (x + 1171))
  show c_X8_init_3 x ν4 ν3 ν2 ν1 μ Q X ν5
  have t5 : tp ν5 = x + 1173 := f5.2.trans (by omega)
  have hq5 : ∀ v, tp (sR ν4 259 x v) = x + 1171 := fun v => (tp_sR _ _ _ _).trans t4
  rw [c_X8_init_3, hq5]
  have e5 := ostage (x := x) (t := x + 1171) o5 n5 s5 (by omega)
  have tg5 : tg (sR ν5 260 x (some (x + 1171))) x = some (.inl 8) := e5.1.1.trans tg4
  refine ⟨s5.2.2.1.1.symm.trans tg5, ?_⟩
  have u5 : fr (sR ν5 260 x (some (x + 1171))) = true := s5.1.1.trans f5.1
  have v5 : tp (sR ν5 260 x (some (x + 1171))) = x + 1173 := s5.1.2.trans t5
  generalize sR ν5 260 x (some (x + 1171)) = N5 at *
  have o6 := nobj (ci := 2) u5 v5
  refine ⟨u5, by omega, by omega, rfl, ?_⟩
  rw [v5, u_X2_init]
  refine ⟨rfl, ?_⟩
  show qV (c_X8_init_2 x ν5 ν4 ν3 ν2 ν1 μ Q X) none (nO N5 2)
  obtain ⟨ν6, eν6⟩ : ∃ z, z = nO N5 2 := ⟨_, rfl⟩
  rw [← eν6]
  have n6 : NB (x + 1173) ν6 (nO N5 2) := by rw [eν6]; exact fun a _ => SQ.refl _ _
  have f6 : fr ν6 = true ∧ tp ν6 = x + 1173 + 1 := by rw [eν6]; exact o6.1
  have z6 : tg ν6 (x + 1173) = some (.inl 2) := by rw [eν6]; exact o6.2.1.1
  have s6 := nset (μ := ν6) (f := 261) (a := x) (v := some (x + 1173))
  show c_X8_init_2 x ν5 ν4 ν3 ν2 ν1 μ Q X ν6
  have t6 : tp ν6 = x + 1174 := f6.2.trans (by omega)
  have hq6 : ∀ v, tp (sR ν5 260 x v) = x + 1173 := fun v => (tp_sR _ _ _ _).trans t5
  rw [c_X8_init_2, hq6]
  have e6 := ostage (x := x) (t := x + 1173) o6 n6 s6 (by omega)
  have tg6 : tg (sR ν6 261 x (some (x + 1173))) x = some (.inl 8) := e6.1.1.trans tg5
  refine ⟨s6.2.2.1.1.symm.trans tg6, ?_⟩
  have u6 : fr (sR ν6 261 x (some (x + 1173))) = true := s6.1.1.trans f6.1
  have v6 : tp (sR ν6 261 x (some (x + 1173))) = x + 1174 := s6.1.2.trans t6
  generalize sR ν6 261 x (some (x + 1173)) = N6 at *
  have o7 := nobj (ci := 5) u6 v6
  refine ⟨u6, by omega, by omega, rfl, by omega, by omega, ?_⟩
  rw [v6]
  refine e_scriptNew (P := x + 1174) o7.1.1 o7.1.2 o7.2.1.1 (fun ν7 n7 f7 z7 => ?_)
  have s7 := nset (μ := ν7) (f := 262) (a := x) (v := some (x + 1174))
  show c_X8_init_1 x ν6 ν5 ν4 ν3 ν2 ν1 μ Q X ν7
  have t7 : tp ν7 = x + 1176 := f7.2.trans (by omega)
  have hq7 : ∀ v, tp (sR ν6 261 x v) = x + 1174 := fun v => (tp_sR _ _ _ _).trans t6
  rw [c_X8_init_1, tn_c (n := 2) (a := 2) rfl (by omega), tn_c (n := 40) (a := 40) rfl (by omega), hq7]
  have e7 := ostage (x := x) (t := x + 1174) o7 n7 s7 (by omega)
  have tg7 : tg (sR ν7 262 x (some (x + 1174))) x = some (.inl 8) := e7.1.1.trans tg6
  refine ⟨s7.2.2.1.1.symm.trans tg7, ?_⟩
  have u7 : fr (sR ν7 262 x (some (x + 1174))) = true := s7.1.1.trans f7.1
  have v7 : tp (sR ν7 262 x (some (x + 1174))) = x + 1176 := s7.1.2.trans t7
  generalize sR ν7 262 x (some (x + 1174)) = N7 at *
  have h8 := nrow (k := 5) (n := 2) (f := 263) (a := x) (t := x + 1176) u7 v7 (by omega)
  refine ⟨u7, ng_c (by omega) (by omega), by omega, by omega, by omega, (nA_tg (by omega)).trans tg7, ?_⟩
  intro M8
  have h8' : R1 M8 N7 263 x 5 2 (x + 1176) := h8
  clear_value M8
  clear h8
  have tg8 := h8'.2.2.1.1.trans tg7
  have h9 := nrow (k := 1) (n := 2) (f := 264) (a := x) (t := x + 1177) h8'.1.1 h8'.1.2 (by omega)
  refine ⟨h8'.1.1, ng_c (by omega) (by omega), by omega, by omega, by omega, (nA_tg (by rw [h8'.1.2]; omega)).trans tg8, ?_⟩
  generalize sR (nA M8 1 2) 264 x (some (tp M8)) = M9 at h9 ⊢
  have tg9 := h9.2.2.1.1.trans tg8
  have h10 := nrow (k := 0) (n := 40) (f := 265) (a := x) (t := x + 1178) h9.1.1 h9.1.2 (by omega)
  refine ⟨h9.1.1, ng_c (by omega) (by omega), by omega, by omega, by omega, (nA_tg (by rw [h9.1.2]; omega)).trans tg9, ?_⟩
  generalize sR (nA M9 0 40) 265 x (some (tp M9)) = M10 at h10 ⊢
  have tg10 := h10.2.2.1.1.trans tg9
  rw [l_X8_init_106, xseal_eq]
  clear v1 v2 v3 v4 v5 v6 v7 t1 t2 t3 t4 t5 t6 t7 f1 f2 f3 f4 f5 f6 f7 hq2 hq3 hq4 hq5 hq6 hq7
  have d7 : ∀ a, a ≠ x → a < x + 1176 → SQ M10 N7 a := fun a a0 a1 => (h10.2.2.2 a (by omega) a0).trans ((h9.2.2.2 a (by omega) a0).trans (h8'.2.2.2 a (by omega) a0))
  have d6 : ∀ a, a ≠ x → a < x + 1174 → SQ M10 N6 a := fun a a0 a1 => (d7 a a0 (by omega)).trans (e7.2.1 a a0 a1)
  have d5 : ∀ a, a ≠ x → a < x + 1173 → SQ M10 N5 a := fun a a0 a1 => (d6 a a0 (by omega)).trans (e6.2.1 a a0 a1)
  have d4 : ∀ a, a ≠ x → a < x + 1171 → SQ M10 N4 a := fun a a0 a1 => (d5 a a0 (by omega)).trans (e5.2.1 a a0 a1)
  have d3 : ∀ a, a ≠ x → a < x + 1165 → SQ M10 N3 a := fun a a0 a1 => (d4 a a0 (by omega)).trans (e4.2.1 a a0 a1)
  have d2 : ∀ a, a ≠ x → a < x + 167 → SQ M10 N2 a := fun a a0 a1 => (d3 a a0 (by omega)).trans (e3.2.1 a a0 a1)
  have d1 : ∀ a, a ≠ x → a < x + 84 → SQ M10 N1 a := fun a a0 a1 => (d2 a a0 (by omega)).trans (e2.2.1 a a0 a1)
  have d0 : ∀ a, a ≠ x → a < x + 1 → SQ M10 μ a := fun a a0 a1 => (d1 a a0 (by omega)).trans (e1.2.1 a a0 a1)
  have w1 : ∀ a, x + 1 ≤ a → a < x + 84 → SQ M10 ν1 a := fun a a0 a1 => (d1 a (by omega) (by omega)).trans (e1.2.2 a (by omega))
  have w2 : ∀ a, x + 84 ≤ a → a < x + 167 → SQ M10 ν2 a := fun a a0 a1 => (d2 a (by omega) (by omega)).trans (e2.2.2 a (by omega))
  have w3 : ∀ a, x + 167 ≤ a → a < x + 1165 → SQ M10 ν3 a := fun a a0 a1 => (d3 a (by omega) (by omega)).trans (e3.2.2 a (by omega))
  have w4 : ∀ a, x + 1165 ≤ a → a < x + 1171 → SQ M10 ν4 a := fun a a0 a1 => (d4 a (by omega) (by omega)).trans (e4.2.2 a (by omega))
  have w5 : ∀ a, x + 1171 ≤ a → a < x + 1173 → SQ M10 ν5 a := fun a a0 a1 => (d5 a (by omega) (by omega)).trans (e5.2.2 a (by omega))
  have w6 : ∀ a, x + 1173 ≤ a → a < x + 1174 → SQ M10 ν6 a := fun a a0 a1 => (d6 a (by omega) (by omega)).trans (e6.2.2 a (by omega))
  have w7 : ∀ a, x + 1174 ≤ a → a < x + 1176 → SQ M10 ν7 a := fun a a0 a1 => (d7 a (by omega) (by omega)).trans (e7.2.2 a (by omega))
  have r1 : gR M10 256 x = some (x + 1) := (h10.2.2.1.2.2 256 (by omega)).trans ((h9.2.2.1.2.2 256 (by omega)).trans ((h8'.2.2.1.2.2 256 (by omega)).trans ((e7.1.2.2 256 (by omega)).trans ((e6.1.2.2 256 (by omega)).trans ((e5.1.2.2 256 (by omega)).trans ((e4.1.2.2 256 (by omega)).trans ((e3.1.2.2 256 (by omega)).trans ((e2.1.2.2 256 (by omega)).trans (s1.2.1)))))))))
  have r2 : gR M10 257 x = some (x + 84) := (h10.2.2.1.2.2 257 (by omega)).trans ((h9.2.2.1.2.2 257 (by omega)).trans ((h8'.2.2.1.2.2 257 (by omega)).trans ((e7.1.2.2 257 (by omega)).trans ((e6.1.2.2 257 (by omega)).trans ((e5.1.2.2 257 (by omega)).trans ((e4.1.2.2 257 (by omega)).trans ((e3.1.2.2 257 (by omega)).trans (s2.2.1))))))))
  have r3 : gR M10 258 x = some (x + 167) := (h10.2.2.1.2.2 258 (by omega)).trans ((h9.2.2.1.2.2 258 (by omega)).trans ((h8'.2.2.1.2.2 258 (by omega)).trans ((e7.1.2.2 258 (by omega)).trans ((e6.1.2.2 258 (by omega)).trans ((e5.1.2.2 258 (by omega)).trans ((e4.1.2.2 258 (by omega)).trans (s3.2.1)))))))
  have r4 : gR M10 259 x = some (x + 1165) := (h10.2.2.1.2.2 259 (by omega)).trans ((h9.2.2.1.2.2 259 (by omega)).trans ((h8'.2.2.1.2.2 259 (by omega)).trans ((e7.1.2.2 259 (by omega)).trans ((e6.1.2.2 259 (by omega)).trans ((e5.1.2.2 259 (by omega)).trans (s4.2.1))))))
  have r5 : gR M10 260 x = some (x + 1171) := (h10.2.2.1.2.2 260 (by omega)).trans ((h9.2.2.1.2.2 260 (by omega)).trans ((h8'.2.2.1.2.2 260 (by omega)).trans ((e7.1.2.2 260 (by omega)).trans ((e6.1.2.2 260 (by omega)).trans (s5.2.1)))))
  have r6 : gR M10 261 x = some (x + 1173) := (h10.2.2.1.2.2 261 (by omega)).trans ((h9.2.2.1.2.2 261 (by omega)).trans ((h8'.2.2.1.2.2 261 (by omega)).trans ((e7.1.2.2 261 (by omega)).trans (s6.2.1))))
  have r7 : gR M10 262 x = some (x + 1174) := (h10.2.2.1.2.2 262 (by omega)).trans ((h9.2.2.1.2.2 262 (by omega)).trans ((h8'.2.2.1.2.2 262 (by omega)).trans (s7.2.1)))
  have r8 : gR M10 263 x = some (x + 1176) := (h10.2.2.1.2.2 263 (by omega)).trans ((h9.2.2.1.2.2 263 (by omega)).trans h8'.2.1.1)
  have r9 : gR M10 264 x = some (x + 1177) := (h10.2.2.1.2.2 264 (by omega)).trans h9.2.1.1
  have r10 : gR M10 265 x = some (x + 1178) := h10.2.1.1
  have gi : ∀ j, gI M10 j x = 0 := fun j => (h10.2.2.1.2.1 j).trans ((h9.2.2.1.2.1 j).trans ((h8'.2.2.1.2.1 j).trans ((e7.1.2.1 j).trans ((e6.1.2.1 j).trans ((e5.1.2.1 j).trans ((e4.1.2.1 j).trans ((e3.1.2.1 j).trans ((e2.1.2.1 j).trans ((e1.1.2.1 j).trans (h0 j))))))))))
  have q76 := (h10.2.2.2 (x + 1176) (by omega) (by omega)).trans (h9.2.2.2 (x + 1176) (by omega) (by omega))
  have q77 := h10.2.2.2 (x + 1177) (by omega) (by omega)
  have b76 := h8'.2.1
  have b77 := h9.2.1
  have b78 := h10.2.1
  have z1' := z1.sq (ν := M10) (fun a a0 a1 => w1 a (by omega) (by omega))
  have z2' := z2.sq (ν := M10) (fun a a0 a1 => w2 a (by omega) (by omega))
  have z3' := z3.sq (ν := M10) (fun a a0 a1 => w3 a (by omega) (by omega))
  have z4' := z4.sq (ν := M10) (fun a a0 a1 => w4 a (by omega) (by omega))
  have a5 := w5 (x + 1171) (by omega) (by omega)
  have a5' := w5 (x + 1172) (by omega) (by omega)
  have a6 := w6 (x + 1173) (by omega) (by omega)
  have a7 := w7 (x + 1174) (by omega) (by omega)
  have a7' := w7 (x + 1175) (by omega) (by omega)
  refine e_snapsNew (μ := M10) (fun ν nb hw hs hp => ?_) 2 10000 0 M10 _ _ (by omega) (by omega) (fun a _ => SQ.refl _ _) ⟨h10.1.1, h10.1.2⟩ ⟨tg10, r8, r1, z1'.1.1.1, q76.1.1.trans b76.2.1, q76.1.2.trans b76.2.2.1⟩ (fun a _ _ _ => SQ.refl _ _) (fun j hj => by omega) (by omega) (by omega)
  have sx := hs x (by omega) (by omega) (by omega)
  have v1 := z1'.sq (ν := ν) (fun a a0 a1 => hs a (by omega) (by omega) (by omega))
  have v2 := z2'.sq (ν := ν) (fun a a0 a1 => hs a (by omega) (by omega) (by omega))
  have v3 := z3'.sq (ν := ν) (fun a a0 a1 => hs a (by omega) (by omega) (by omega))
  have v4 := z4'.sq (ν := ν) (fun a a0 a1 => hs a (by omega) (by omega) (by omega))
  have y5 := (hs (x + 1171) (by omega) (by omega) (by omega)).trans a5
  have y5' := (hs (x + 1172) (by omega) (by omega) (by omega)).trans a5'
  have y6 := (hs (x + 1173) (by omega) (by omega) (by omega)).trans a6
  have y7 := (hs (x + 1174) (by omega) (by omega) (by omega)).trans a7
  have y7' := (hs (x + 1175) (by omega) (by omega) (by omega)).trans a7'
  have y77 := (hs (x + 1177) (by omega) (by omega) (by omega)).trans q77
  have y78 := hs (x + 1178) (by omega) (by omega) (by omega)
  have v0 := (hp 0 (by omega))
  have v0' := (hp 1 (by omega))
  have hh : ∀ k, k < 12 → aR ν (x + 168) k = some (x + 169 + 83 * k) ∧ ZW ν (x + 169 + 83 * k) := fun k hk => by
    have := v3.2 k hk
    rw [show x + 167 + 1 = x + 168 by omega, show x + 167 + 2 + 83 * k = x + 169 + 83 * k by omega] at this
    exact this
  have hXL : XL ν x := ⟨⟨hw.1, (sx.2.2.2.1 _).trans r1, (sx.2.2.2.1 _).trans r2, (sx.2.2.2.1 _).trans r3, (sx.2.2.2.1 _).trans r4, (sx.2.2.2.1 _).trans r5, (sx.2.2.2.1 _).trans r6, (sx.2.2.2.1 _).trans r7, hw.2.1, (sx.2.2.2.1 _).trans r9, (sx.2.2.2.1 _).trans r10⟩, ⟨v3.1.1, v3.1.2.1, v3.1.2.2.1, v3.1.2.2.2.1⟩, ⟨v4.1.1, v4.1.2.1, v4.1.2.2.1, v4.1.2.2.2.1, v4.1.2.2.2.2.1, v4.1.2.2.2.2.2, v4.2⟩, ⟨y5.1.1.trans z5.1, (y5.2.2.2.1 _).trans z5.2.1, y5'.1.1.trans z5.2.2.1, y5'.1.2.trans z5.2.2.2.1, y6.1.1.trans z6, y7.1.1.trans z7.1, (y7.2.2.2.1 _).trans z7.2.1, y7'.1.1.trans z7.2.2.1, y7'.1.2.trans z7.2.2.2⟩, ⟨hw.2.2.2.1, hw.2.2.2.2, y77.1.1.trans b77.2.1, y77.1.2.trans b77.2.2.1, y78.1.1.trans b78.2.1, y78.1.2.trans b78.2.2.1, v0.1, v0'.1⟩, v1.ws, v2.ws, v0.2.ws, v0'.2.ws, fun k hk => ⟨(hh k hk).1, (hh k hk).2.ws⟩⟩
  refine e_clear v1.ws (fun y c1 c2 => ?_)
  show c_X8_init_8 Q y
  rw [c_X8_init_8]
  refine ⟨rfl, hK y (fun a ha => ?_) ?_⟩
  · exact (SQ.ch c1 (by unfold inW; omega)).trans ((nb a ha).trans (d0 a (by omega) (by omega)))
  · have i34 : gI ν 34 (x + 167) = 0 := v3.1.2.2.2.2 34
    have i33 : gI ν 33 (x + 167) = 0 := v3.1.2.2.2.2 33
    have cx := (c1.2 x (by unfold inW; omega)).1
    have c67 := (c1.2 (x + 167) (by unfold inW; omega)).1
    have c71 := (c1.2 (x + 1171) (by unfold inW; omega)).1
    have c77 := (c1.2 (x + 1177) (by unfold inW; omega)).2.2.1
    exact ⟨hXL.mono c1.1, c2, v2.gx.frame c1 (fun a a0 a1 => by unfold inW; omega), ⟨(c67 34).trans i34, fun k hk => (hh k hk).2.gx.frame c1 (fun a a0 a1 => by unfold inW; omega), 0, by omega, by omega, (c67 33).trans i33, fun j j0 j1 => by have j1 : j < 0 := j1; omega⟩, ⟨v0.2.gx.frame c1 (fun a a0 a1 => by unfold inW; omega), v0'.2.gx.frame c1 (fun a a0 a1 => by unfold inW; omega), (c77 0).trans ((y77.2.2.2.2.1 0).trans (b77.2.2.2.1 0)), (c77 1).trans ((y77.2.2.2.2.1 1).trans (b77.2.2.2.1 1)), fun q => absurd (show false = true from q) (by decide), fun q => absurd (show false = true from q) (by decide)⟩, ⟨(c71 193).trans ((y5.2.1 193).trans z5.2.2.2.2.1), (c71 198).trans ((y5.2.1 198).trans z5.2.2.2.2.2.1), (c71 199).trans ((y5.2.1 199).trans z5.2.2.2.2.2.2), fun i i0 i1 => by have i1 : i < 0 := i1; omega⟩, ⟨(cx 266).trans ((sx.2.1 266).trans (gi 266)), fun i i0 i1 => by have i1 : i < 0 := i1; omega⟩⟩
end
