/-! ===== rows on the heap ===== -/
theorem xws_0 : ∀ w ∈ u_ws (xC 0) (xT 0) (xN 0), w ∈ TW := fun w h => List.mem_filter.mpr ⟨(goodIn_r (big := lw_tbl) _ [174, 176, 178, 180, 182, 184] (by decide +kernel) (by decide +kernel) w h).1, by revert w h; decide +kernel⟩
theorem xws_1 : ∀ w ∈ u_ws (xC 1) (xT 1) (xN 1), w ∈ TW := fun w h => List.mem_filter.mpr ⟨(goodIn_r (big := lw_tbl) _ [289, 291, 293] (by decide +kernel) (by decide +kernel) w h).1, by revert w h; decide +kernel⟩
theorem xws_2 : ∀ w ∈ u_ws (xC 2) (xT 2) (xN 2), w ∈ TW := fun w h => List.mem_filter.mpr ⟨(goodIn_r (big := lw_tbl) _ [361] (by decide +kernel) (by decide +kernel) w h).1, by revert w h; decide +kernel⟩
theorem xws_3 : ∀ w ∈ u_ws (xC 3) (xT 3) (xN 3), w ∈ TW := fun w h => List.mem_filter.mpr ⟨(goodIn_r (big := lw_tbl) _ [221, 223, 225, 227, 229, 231, 233, 235, 237, 239, 241, 243] (by decide +kernel) (by decide +kernel) w h).1, by revert w h; decide +kernel⟩
theorem xws_4 : ∀ w ∈ u_ws (xC 4) (xT 4) (xN 4), w ∈ TW := fun w h => List.mem_filter.mpr ⟨(goodIn_r (big := lw_tbl) _ [307, 309, 311, 313, 315] (by decide +kernel) (by decide +kernel) w h).1, by revert w h; decide +kernel⟩
theorem xws_5 : ∀ w ∈ u_ws (xC 5) (xT 5) (xN 5), w ∈ TW := fun w h => List.mem_filter.mpr ⟨(goodIn_r (big := lw_tbl) _ [373, 375] (by decide +kernel) (by decide +kernel) w h).1, by revert w h; decide +kernel⟩
theorem xws_6 : ∀ w ∈ u_ws (xC 6) (xT 6) (xN 6), w ∈ TW := fun w h => List.mem_filter.mpr ⟨(goodIn_r (big := lw_tbl) _ [337, 339, 341, 343, 345, 347, 349, 351] (by decide +kernel) (by decide +kernel) w h).1, by revert w h; decide +kernel⟩
theorem xws_7 : ∀ w ∈ u_ws (xC 7) (xT 7) (xN 7), w ∈ TW := fun w h => List.mem_filter.mpr ⟨(goodIn_r (big := lw_tbl) _ [261, 263, 265, 267, 269, 271, 273] (by decide +kernel) (by decide +kernel) w h).1, by revert w h; decide +kernel⟩
theorem xws_8 : ∀ w ∈ u_ws (xC 8) (xT 8) (xN 8), w ∈ TW := fun w h => List.mem_filter.mpr ⟨(goodIn_r (big := lw_tbl) _ [407, 409, 411, 413, 415, 417, 419, 421, 423, 425, 427] (by decide +kernel) (by decide +kernel) w h).1, by revert w h; decide +kernel⟩
theorem xws_9 : ∀ w ∈ u_ws (xC 9) (xT 9) (xN 9), w ∈ TW := fun w h => List.mem_filter.mpr ⟨(goodIn_r (big := lw_tbl) _ [1473, 1475, 1477, 1479, 1481, 1483, 1485, 1487, 1489, 1491, 1493, 1495, 1497, 1499, 1501, 1503, 1505, 1507, 1509, 1511, 1513, 1515, 1517, 1519, 1521, 1523, 1525, 1527, 1529, 1531, 1533, 1535, 1537] (by decide +kernel) (by decide +kernel) w h).1, by revert w h; decide +kernel⟩
theorem xws_in {ci : Nat} (hc : ci < 10) : ∀ w ∈ u_ws (xC ci) (xT ci) (xN ci), w ∈ TW := by
  match ci, hc with
  | 0, _ => exact xws_0
  | 1, _ => exact xws_1
  | 2, _ => exact xws_2
  | 3, _ => exact xws_3
  | 4, _ => exact xws_4
  | 5, _ => exact xws_5
  | 6, _ => exact xws_6
  | 7, _ => exact xws_7
  | 8, _ => exact xws_8
  | 9, _ => exact xws_9
theorem xty_ok {ci : Nat} (hc : ci < 10) : ∀ k, k < xN ci → parseFieldDescriptor (xT ci k).2.2.1 = some (xtyf ci k) := by
  match ci, hc with
  | 0, _ => exact tyX0_ok
  | 1, _ => exact tyX1_ok
  | 2, _ => exact tyX2_ok
  | 3, _ => exact tyX3_ok
  | 4, _ => exact tyX4_ok
  | 5, _ => exact tyX5_ok
  | 6, _ => exact tyX6_ok
  | 7, _ => exact tyX7_ok
  | 8, _ => exact tyX8_ok
  | 9, _ => exact tyX9_ok
theorem xnm_ok {ci : Nat} (hc : ci < 10) : ∀ a, a < xN ci → ∀ b, b < xN ci → a ≠ b → (xT ci a).2.1 ≠ (xT ci b).2.1 := by
  match ci, hc with
  | 0, _ => exact nmX0
  | 1, _ => exact nmX1
  | 2, _ => exact nmX2
  | 3, _ => exact nmX3
  | 4, _ => exact nmX4
  | 5, _ => exact nmX5
  | 6, _ => exact nmX6
  | 7, _ => exact nmX7
  | 8, _ => exact nmX8
  | 9, _ => exact nmX9
theorem xN_le {ci : Nat} (hc : ci < 10) : xN ci ≤ 33 := by revert ci; decide
theorem xR.cell {ξ : XE} {μ : XM} {U : State} {H : Heap} {a : Nat} {e : va_E} (hR : xR ξ μ U H) (h : xc ξ.2.1 μ a = some e) : va_at ξ.1 xcl (a, e) H ∧ ξ.2.2 a := by
  obtain ⟨⟨ws, hP, hD, hW⟩, -, -⟩ := hR
  obtain ⟨q0, hq⟩ := (hW a e).mpr h
  exact ⟨hP q0 _ hq, hD.2 q0 _ hq⟩
/-- one cell, as a world of its own -/
theorem xR.one {ξ : XE} {μ : XM} {U : State} {H : Heap} {a : Nat} {e : va_E} (hR : xR ξ μ U H) (h : xc ξ.2.1 μ a = some e) : va_P ξ.1 xcl [(a, e)] H := by
  intro k q hk
  have hz : k < 1 := (List.getElem?_eq_some_iff.mp hk).1
  rw [show k = 0 by omega] at hk
  cases hk
  exact (hR.cell h).1
/-- one cell is written -/
theorem xR.write {ξ : XE} {μ μ' : XM} {U : State} {H H' : Heap} {a : Nat} {e0 e : va_E} (hR : xR ξ μ U H) (h0 : xc ξ.2.1 μ a = some e0) (he : xc ξ.2.1 μ' a = some e) (hat : va_at ξ.1 xcl (a, e) H') (oq : ∀ q : Nat, q ≠ a → H'[q]? = H[q]?) (hz : H'.size = H.size)
    (ho : ∀ b, b ≠ a → xc ξ.2.1 μ' b = xc ξ.2.1 μ b) (hfr : fr μ' = fr μ) (htp : tp μ' = tp μ) (h9 : xKeep μ μ') : xR ξ μ' U H' := by
  have haA := (hR.cell h0).2
  obtain ⟨⟨ws, hP, hD, hW⟩, hf, hX⟩ := hR
  obtain ⟨q0, hq⟩ := (hW a e0).mpr h0
  refine ⟨⟨ws.set q0 (a, e), hP.set hD hq hat oq, hD.set hq, hW.set hD hq he ho⟩, fun h => ?_, hX.step h9 (by rw [hz]; exact Nat.le_refl _) (fun q _ hqA => oq q (fun z => hqA (by rw [z]; exact haA)))⟩
  rw [hz, htp]
  exact hf (by rw [← hfr]; exact h)
theorem xS_put {A : Nat → Prop} {H0 H H1 : Heap} {locs : List Loc} {a i : Nat} (h : va_S A H0 H locs) (hz : H1.size = H.size) (oq : ∀ q : Nat, q ≠ a → H1[q]? = H[q]?) (ha : A a) : va_S A H0 H1 (locs ++ [⟨a, i⟩]) :=
  ⟨by rw [hz]; exact h.1, fun q g1 g2 => (oq q (fun z => g2 (by rw [z]; exact ha))).trans (h.2.1 q g1 g2), fun q hq => by
    rcases List.mem_append.mp hq with h1 | h1
    · exact h.2.2 q h1
    · rw [List.mem_singleton] at h1
      subst h1
      exact ha⟩
section XROWS5
variable {κ : XK} {ξ : XE} {cc : ByteArray} {own : String} {nL : Nat} {ret : Option FieldType} {nc ns : Nat} {μ : XM} {pc : Nat} {L : List (Option Value)} {st : List Value}
theorem r_get (C : XCtx κ ξ cc own nL ret) {ci j idx a : Nat} (hd : decode cc pc = .ok (.getfield idx, 3)) (hw : Cond.fieldLink own idx (xT ci j).1 (xT ci j).2.1 (xT ci j).2.2.1 ∈ TW) (hc : ci < 10) (hj : j < xN ci) (ht : tg μ a = some (.inl ci))
    (k : XG κ ξ nL nc ns μ (pc + 3) L (xv μ a (32 * ci + j) (xtyf ci j) :: st)) : XG κ ξ nL nc ns μ pc L (.ref a :: st) := by
  intro hn H locs ls hR hS hl
  exact va_get (D := ξ.1) (cl := xcl) (C := xC ci) (T := xT ci) (N := xN ci) (ci := ci) C.1 C.2.1 C.2.2.2.2.1 (xws_in hc) C.2.2.2.1 C.2.2.2.2.2.1 (hR.one (xc_obj ht hc)) 0 rfl (xcl_at hc) j hj (C.2.2.2.2.1 _ hw) (fun _ h => h) (xfs_at hj) hd (k hn H locs ls hR hS hl)
/-- the class's slots, as the machine has them -/
theorem x_slot (C : XCtx κ ξ cc own nL ret) {ci j : Nat} (hc : ci < 10) (hj : j < xN ci) : ∃ (cf : Nat) (kf : Class) (fi : Nat) (f : Field) (kC : Class), κ.s.fieldFound? (xT ci j).1 (xT ci j).2.1 (xT ci j).2.2.1 = some (cf, kf, fi, f) ∧ f.slot = ξ.1.2 ci j ∧ κ.s.vm.findClass (xC ci) = some (ξ.1.1 ci) ∧ κ.s.vm.classes[ξ.1.1 ci]? = some kC ∧ kC.kind = .ordinary ∧ f.isStatic = false := by
  obtain ⟨hS, hfc, kC, hkC, hkind⟩ := C.2.2.2.2.2.1.1 ci _ (xcl_at hc)
  obtain ⟨cf, kf, fi, f, hi, hsl⟩ := hS j hj
  exact ⟨cf, kf, fi, f, kC, hi, hsl, hfc, hkC, hkind, (u_facts hfc hkC (u_lays C.2.2.2.2.1 (xws_in hc) hj) hi).1⟩
theorem vp_V_set {fs : List Value} {k : Nat} (hk : k < fs.length) (v : Value) : ∀ j, updV (vp_V fs) k v j = vp_V (fs.set k v) j := by
  intro j
  by_cases h : j = k
  · subst h
    simp [updV, vp_V, List.getD, hk]
  · simp [updV, vp_V, h, List.getD, List.getElem?_set_ne (Ne.symm h)]
/-- putfield: μ' is the memory with the value -/
theorem r_putG (C : XCtx κ ξ cc own nL ret) {ci j idx a : Nat} {v : Value} {μ' : XM} (hd : decode cc pc = .ok (.putfield idx, 3)) (hw : Cond.fieldLink own idx (xT ci j).1 (xT ci j).2.1 (xT ci j).2.2.1 ∈ TW) (hc : ci < 10) (hj : j < xN ci) (ht : tg μ a = some (.inl ci))
    (hfin : (xT ci j).2.2.2 = false ∨ ((xT ci j).1 = own ∧ κ.meth.name = "<init>"))
    (hn0 : narrow (xtyf ci j) v = v) (hf0 : fits (xtyf ci j) v = true)
    (ht' : tg μ' = tg μ) (hln : ln μ' = ln μ) (hfr : fr μ' = fr μ) (htp : tp μ' = tp μ) (hA : aI μ' = aI μ) (hB : aL μ' = aL μ) (hE : aD μ' = aD μ) (hF : aR μ' = aR μ)
    (hv : xv μ' a (32 * ci + j) (xtyf ci j) = v)
    (h1 : ∀ k b, ¬ (k = 32 * ci + j ∧ b = a) → gI μ' k b = gI μ k b) (h2 : ∀ k b, ¬ (k = 32 * ci + j ∧ b = a) → gL μ' k b = gL μ k b) (h3 : ∀ k b, ¬ (k = 32 * ci + j ∧ b = a) → gR μ' k b = gR μ k b)
    (k : XG κ ξ nL nc ns μ' (pc + 3) L st) : XG κ ξ nL nc ns μ pc L (v :: .ref a :: st) := by
  intro hn H locs ls hR hS hl
  obtain ⟨cf, kf, fi, f, kC, hi, hsl, hfc, hkC, hkind, hst⟩ := x_slot C hc hj
  have hts := C.2.2.2.2.1
  obtain ⟨hat, haA⟩ := hR.cell (xc_obj ht hc)
  obtain ⟨r, hr1, cell, q1, q2, q3, q4⟩ := hat
  have hr : r = (xC ci, xT ci, xN ci) := Option.some.inj (hr1.symm.trans (xcl_at hc))
  subst hr
  have hap := va_apart (own := own) hts (xws_in hc) (xtyf ci) (xty_ok hc) (xnm_ok hc) C.2.2.2.2.2.1 (xcl_at hc)
  have hlen : j < (xfs μ ci a).length := by rw [xfs_len]; exact hj
  have fin : ∀ H' : Heap, H'[a]? = some (cell.setSlot f.slot v) → H'.size = H.size → (∀ q, q ≠ a → H'[q]? = H[q]?) → XKW κ H' (locs ++ [⟨a, f.slot⟩]) nc ns (F0 κ.m (pc + 3) ls st) := by
    intro H' e1 e2 e3
    rw [hsl] at e1 ⊢
    refine k hn H' _ ls ?_ (xS_put hS e2 e3 haA) hl
    have hset : xfs μ' ci a = (xfs μ ci a).set j v := xfs_set hj hv (fun i hij => by
      have hk : ¬ ((32 * ci + i) = 32 * ci + j ∧ a = a) := by omega
      unfold xv
      split <;> simp [h1 _ _ hk, h2 _ _ hk, h3 _ _ hk])
    refine hR.write (e := .inr (ci, xfs μ' ci a)) (xc_obj ht hc) (xc_obj (by rw [ht']; exact ht) hc) ⟨_, xcl_at hc, ?_⟩ e3 e2 (fun b hb => ?_) hfr htp ⟨fun b k h9 hb => ⟨by rw [← ht']; exact hb, by rw [hln], by rw [hA]⟩, fun k hk => h3 k 0 (fun z => by have := z.1; have h33 : xN ci ≤ 33 := xN_le hc; omega), fun b hb => by rw [ht']; exact hb⟩
    · rw [hset]
      exact (show t_OB a (ξ.1.1 ci) (xN ci) (ξ.1.2 ci) H' (updV (vp_V (xfs μ ci a)) j v) from ⟨_, e1, q2, q3, t_set q4 hap hj v⟩).to (fun i _ => vp_V_set hlen v i)
    · have hk : ∀ k, ¬ (k = 32 * ci + j ∧ b = a) := fun k z => hb z.2
      exact xc_same (by rw [ht']) (by rw [hln]) (fun k => h1 k b (hk k)) (fun k => h2 k b (hk k)) (fun k => h3 k b (hk k)) (by rw [hA]) (by rw [hB]) (by rw [hE]) (by rw [hF])
  have hslot : f.slot < cell.slots.size := by rw [hsl]; exact k2_hasslot (q4 j hj)
  by_cases hF : (xT ci j).2.2.2 = false
  · have hlay := hts _ (xws_in hc _ (u_in_lay hj))
    unfold u_lay at hlay
    rw [if_neg (by rw [hF]; decide)] at hlay
    have h6 := u_store hfc hkC hkind hlay hi (xty_ok hc j hj) hn0 hf0
    exact W.putK C.1 C.2.1 (f := f) ⟨C.2.2.2.1, hts _ hw, ⟨_, _, _, hi⟩, hst⟩ (by rw [q2]; exact h6) q1 q3 hslot rfl rfl hd fin
  · obtain ⟨hdecl, hin⟩ := hfin.resolve_left hF
    have hlay := hts _ (xws_in hc _ (u_in_lay hj))
    unfold u_lay at hlay
    rw [if_pos (by simpa using hF)] at hlay
    have hcf : κ.m.cls = cf := by
      obtain ⟨_, _, c', _, _, _, -, -, hf', -, -, -, hown2, -⟩ := Cond.laysFinal_spec hlay
      have e1 : c' = cf := by
        have := hi.symm.trans hf'
        simp at this
        exact this.1.symm
      subst e1
      have h9 := C.2.2.2.1
      rw [← hdecl] at h9
      exact Option.some.inj (h9.symm.trans hown2)
    have h6 := u_fits hfc hkC hkind (u_lays hts (xws_in hc) hj) hi (xty_ok hc j hj) hn0 hf0
    exact W.putFinK C.1 C.2.1 (f := f) C.2.2.2.1 (hts _ hw) hi hst hcf hin (by rw [q2]; exact h6) q1 q3 hslot rfl rfl hd fin
end XROWS5
