/-! ===== the claim's start ===== -/
theorem en_ne {s : State} {A : Nat → Prop} {b L : Nat} {xs : Nat → Int32} {a v : Nat} (hX : va_X b L xs s s.heap) (h : va_OF "java/lang/String" "value" "[B" (.ref v) a A s s.heap) : a ≠ b := by
  rintro rfl
  obtain ⟨scr, h1, h2, h3, h4, h5⟩ := hX
  obtain ⟨cf, k, i, f, cell, g1, g2, g3, g4, g5, g6⟩ := h
  rw [h1] at g3
  cases g3
  have hl := (Array.getElem?_eq_some_iff.mp g5).1
  rw [h4] at hl
  rw [h5 _ hl] at g5
  cases g5
noncomputable def tix (ad : Nat → Nat) (a : Nat) : Nat := @dite _ (∃ i, i < 14 ∧ ad i = a) (Classical.propDecidable _) (fun h => Classical.choose h) (fun _ => 0)
theorem tix_eq {ad : Nat → Nat} (hi : ∀ i j : Nat, i < 14 → j < 14 → ad i = ad j → i = j) {i : Nat} (h : i < 14) : tix ad (ad i) = i := by
  unfold tix
  have hex : ∃ j, j < 14 ∧ ad j = ad i := ⟨i, h, rfl⟩
  rw [dif_pos hex]
  exact hi _ _ (Classical.choose_spec hex).1 h (Classical.choose_spec hex).2
/-- the memory at the start: the script and the texts -/
noncomputable def mem0 (b L : Nat) (xs : Nat → Int32) (ad : Nat → Nat) (sz : Nat) : XM := (fun _ _ => 0, fun _ _ => 0, fun k a => if a = 0 ∧ 2000 ≤ k then some (ad (k - 2000)) else none, fun a j => if a = b then xs j else (bytX.getD (tix ad a) []).getD j 0, fun _ _ => 0, fun _ _ => 0, fun _ _ => none, fun a => if a = b then some (.inr 9) else @ite _ (∃ i, i < 14 ∧ ad i = a) (Classical.propDecidable _) (some (.inr 10)) none, fun a => if a = b then L else lenX.getD (tix ad a) 0, sz, true)
theorem xtx_lt : (List.range 14).all (fun k => decide (lenX.getD k 0 < 2147483648)) = true := by decide +kernel
theorem xtx_len : (List.range 14).all (fun k => decide (lenX.getD k 0 = (STX k).length)) = true := by decide +kernel
theorem xtx_byt : (List.range 14).all (fun k => (List.range (STX k).length).all (fun i => decide ((bytX.getD k []).getD i 0 = ji ((STX k).getD i 0)))) = true := by decide +kernel
section
variable {b L sz : Nat} {xs : Nat → Int32} {ad : Nat → Nat}
theorem m0_b : tg (mem0 b L xs ad sz) b = some (.inr 9) := if_pos rfl
theorem m0_t {i : Nat} (hn : ad i ≠ b) (hi : i < 14) : tg (mem0 b L xs ad sz) (ad i) = some (.inr 10) := (if_neg hn).trans (if_pos ⟨i, hi, rfl⟩)
theorem m0_i {a : Nat} {v : Nat ⊕ Nat} (h : tg (mem0 b L xs ad sz) a = some v) : (a = b ∧ v = .inr 9) ∨ (a ≠ b ∧ (∃ i, i < 14 ∧ ad i = a) ∧ v = .inr 10) := by
  by_cases e : a = b
  · subst e
    have h2 := m0_b.symm.trans h
    cases h2
    exact Or.inl ⟨rfl, rfl⟩
  · by_cases e2 : ∃ i, i < 14 ∧ ad i = a
    · have h2 : (some (.inr 10) : Option (Nat ⊕ Nat)) = some v := (((if_neg e).trans (if_pos e2)).symm.trans h)
      cases h2
      exact Or.inr ⟨e, e2, rfl⟩
    · have h2 : (none : Option (Nat ⊕ Nat)) = some v := (((if_neg e).trans (if_neg e2)).symm.trans h)
      cases h2
theorem m0_xc {E : Nat → ClassId} {a : Nat} : xc E (mem0 b L xs ad sz) a = none := by
  unfold xc
  cases h : tg (mem0 b L xs ad sz) a with
  | none => rfl
  | some v =>
    rcases m0_i h with ⟨-, rfl⟩ | ⟨-, -, rfl⟩
    · rfl
    · rfl
end
theorem whole_start {p : Program} {e : Env} {s : State} {m : MethodId} {below : List Frame} {meth : Method} {c : Code} (l : Launch) (hflags : l.flags = flags0) {b L : Nat} {xs : Nat → Int32} (hL : L ≤ 3072) (C0 : lw_At p s m meth c b L xs) : W p l e room_1 s m #[Value.ref b] below meth c s.heap [] 0 0 (lw_Z below #[Value.ref b] s) (entryFrame m ([Value.ref b] : List Value).toArray 9) := by
  obtain ⟨hx, hb, hr, hml, hown, hts, hX, hbl, hlocks, hgv⟩ := id C0
  have hl0 : l.stackTraces = false := by
    unfold Launch.stackTraces
    rw [hflags]
    decide +kernel
  have hA : ∀ q : Nat, q < s.heap.size → ¬ (fun q : Nat => s.heap.size ≤ q) q := fun q h => Nat.not_le.mpr h
  obtain ⟨ad, adV, hS, hev⟩ := en_texts hgv hA
  obtain ⟨D, hD⟩ := en_cls (TW_hts hts)
  obtain ⟨E, hE, hEt⟩ := en_tys hts ad
  have hne : ∀ i, i < 14 → ad i ≠ b := fun i hi => en_ne hX (hS.1 i hi).2.2.1
  have hlt : ∀ i, i < 14 → ad i < s.heap.size := fun i hi => by
    obtain ⟨cell, h1, -⟩ := (hS.1 i hi).1
    exact (Array.getElem?_eq_some_iff.mp h1).1
  have hZ : xZ (D, E, fun q : Nat => s.heap.size ≤ q) s s.heap := en_xZ hts hgv hA (fun i hi => by
    show _ = some (Value.ref (E (100 + i)))
    rw [hE]
    exact hev i hi)
  have hK : va_K D xcl (xty E) s := ⟨hD, hEt⟩
  have C : XCtx (p, l, e, room_1, s, m, #[Value.ref b], below, meth, c, lw_Z below #[Value.ref b] s) (D, E, fun q : Nat => s.heap.size ≤ q) cL_law yL_law.cls 9 (some FieldType.boolean) := ⟨hx, hb, hml, hown, TW_hts hts, hK, fun q h => h, hr, hlocks, hZ⟩
  have hEnd : XEnd (p, l, e, room_1, s, m, #[Value.ref b], below, meth, c, lw_Z below #[Value.ref b] s) (D, E, fun q : Nat => s.heap.size ≤ q) 603072 7211113 (fun v _ => v = some (.int (ji 1))) := by
    intro H locs g k T hT X
    obtain ⟨t, a1, o, b1, b2, b3, L', b4, b5⟩ := k T hT X
    refine ⟨t, a1, o, b1, b2, ?_⟩
    obtain ⟨⟨v, μ', rfl, hq, -⟩, -⟩ := b3
    have hq : v = some (.int (ji 1)) := hq
    subst hq
    obtain ⟨f1, f2, f3⟩ := en_forget b4 b5
    exact ⟨rfl, lw_closed (d0 := s.drawn) (Drawn.sameBut.refl _ _) f1 f2 f3⟩
  have S : XSet (p, l, e, room_1, s, m, #[Value.ref b], below, meth, c, lw_Z below #[Value.ref b] s) (D, E, fun q : Nat => s.heap.size ≤ q) cL_law yL_law.cls 9 (some FieldType.boolean) I_L_law (fun v _ => v = some (.int (ji 1))) (fun _ _ => False) := fun K hK => by
    refine xwp_ok C (i_L_law l hl0) rfl rfl (fun z => by cases z) hEnd rfl rfl ⟨fun pc E h => ?_, fun pc E _ L s μ nc ns _ _ h => absurd h id, fun pc E hp h => ?_⟩ hK
    · have h : (none : Option String) = some E := h
      cases h
    · have h : (none : Option Nat) = some hp := h
      cases h
  have hR : xR (D, E, fun q : Nat => s.heap.size ≤ q) (mem0 b L xs ad s.heap.size) s s.heap := by
    refine ⟨⟨[], fun k q h => by simp at h, ⟨fun i j p q h => by simp at h, fun k q h => by simp at h⟩, fun a e => ⟨fun h => ?_, fun h => ?_⟩⟩, fun _ => rfl, fun a k h9 ht => ?_, fun q hq => ?_⟩
    · obtain ⟨k, hk⟩ := h
      simp at hk
    · rw [m0_xc] at h
      cases h
    · rcases m0_i ht with ⟨rfl, e⟩ | ⟨hn, ⟨i, hi, rfl⟩, e⟩
      · cases e
        refine ⟨?_, hA _ hbl, hbl⟩
        show va_X a (ln (mem0 a L xs ad s.heap.size) a) (aI (mem0 a L xs ad s.heap.size) a) s s.heap
        have e1 : ln (mem0 a L xs ad s.heap.size) a = L := if_pos rfl
        have e2 : aI (mem0 a L xs ad s.heap.size) a = xs := funext fun j => if_pos rfl
        rw [e1, e2]
        exact hX
      · cases e
        refine ⟨?_, hA _ (hlt i hi), hlt i hi⟩
        have e0 := tix_eq hS.2 hi
        have e1 : ln (mem0 b L xs ad s.heap.size) (ad i) = lenX.getD i 0 := (if_neg hn).trans (by rw [e0])
        have e2 : ∀ j, aI (mem0 b L xs ad s.heap.size) (ad i) j = (bytX.getD i []).getD j 0 := fun j => (if_neg hn).trans (by rw [e0])
        show (∃ adV : Nat, va_O "java/lang/String" (ad i) _ s s.heap ∧ va_OF "java/lang/String" "coder" "B" (.int 0) (ad i) _ s s.heap ∧ va_OF "java/lang/String" "value" "[B" (.ref adV) (ad i) _ s s.heap ∧ va_T .byte adV (ln (mem0 b L xs ad s.heap.size) (ad i)) (fun j => .int (aI (mem0 b L xs ad s.heap.size) (ad i) j)) _ s s.heap) ∧ ln (mem0 b L xs ad s.heap.size) (ad i) < 2147483648
        rw [e1, show (fun j => Value.int (aI (mem0 b L xs ad s.heap.size) (ad i) j)) = (fun j => Value.int ((bytX.getD i []).getD j 0)) from funext fun j => by rw [e2]]
        exact ⟨⟨adV i, hS.1 i hi⟩, of_decide_eq_true (all_r xtx_lt hi)⟩
    · have hq14 : q.1 < 14 := by
        have h : (xstrs.all (fun q => decide (q.1 < 14))) = true := by decide +kernel
        exact of_decide_eq_true (List.all_eq_true.mp h q hq)
      have e1 : E (100 + q.1) = ad q.1 := hE q.1
      show gR (mem0 b L xs ad s.heap.size) (2000 + q.1) 0 = some (E (100 + q.1)) ∧ tg (mem0 b L xs ad s.heap.size) (E (100 + q.1)) = some (.inr 10)
      rw [e1]
      refine ⟨(if_pos ⟨rfl, Nat.le_add_right _ _⟩).trans ?_, m0_t (hne _ hq14) hq14⟩
      rw [Nat.add_sub_cancel_left]
  have hSC : SC (mem0 b L xs ad s.heap.size) s.heap.size := fun k hk => by
    have e0 := tix_eq hS.2 hk
    refine ⟨ad k, hlt k hk, (if_pos ⟨rfl, Nat.le_add_right _ _⟩).trans (by rw [Nat.add_sub_cancel_left]), m0_t (hne _ hk) hk, ?_, fun i hi => ?_⟩
    · exact ((if_neg (hne k hk)).trans (by rw [e0])).trans (of_decide_eq_true (all_r xtx_len hk))
    · exact ((if_neg (hne k hk)).trans (by rw [e0])).trans (of_decide_eq_true (all_r (all_r xtx_byt hk) hi))
  have law : s_L_law (mem0 b L xs ad s.heap.size) [.ref b] (fun v _ => v = some (.int (ji 1))) (fun _ _ => False) := law_ok (N := L) (fun _ => rfl) hL rfl m0_b (if_pos rfl) hbl hSC
  rw [s_L_law, xseal_eq] at law
  obtain ⟨h0, hf⟩ := xbif law
  have g2 := S _ (m_L_law C hl0 rfl rfl S) _ _ _ _ _ _ _ (Nat.zero_le _) (Nat.zero_le _) hf
  rw [lg_entry_eq]
  exact g2 (xentry_len (Nat.le_of_ble_eq_true h0)) s.heap [] _ hR va_S.rf (xentry_L (Nat.le_of_ble_eq_true h0))
