/-! ===== the claim's entry: what the start gives ===== -/
theorem en_arr {args : Array Value} {s : State} {ty : FieldType} (h : (Cond.arrayClass ty).before args s = true) : ∃ cA : ClassId, ArrOfT s cA ty ∧ s.vm.findClass ("[" ++ ty.toString) = some cA := by
  obtain ⟨cA, kA, comp, h1, h2, h3⟩ := Cond.arrayClass_spec h
  exact ⟨cA, fun n z => ⟨fun k h => (by cases h), kA, h2, comp, h3⟩, h1⟩
theorem en_over {args : Array Value} {s : State} {C : String} (h : (Cond.arrayOver (.object C)).before args s = true) : ∃ cA : ClassId, ArrOfT s cA (.object C) ∧ va_RA s cA (.object C) := by
  obtain ⟨comp, cA, kA, h1, h2, h3, h4, h5⟩ := Cond.arrayOver_spec h
  exact ⟨cA, fun n z => ⟨fun k h => (by cases h), kA, h3, comp, h4⟩, kA, comp, h3, h4, h1, h5⟩
theorem en_vkR {args : Array Value} {s : State} {own tx : String} {k : Nat} (h : (Cond.stringRef own k tx).before args s = true) : ∃ a, vk_R own k tx a s := by
  have h' := h
  simp only [Cond.before, Cond.holds, Cond.value] at h'
  obtain ⟨cur, hcur⟩ : ∃ cur, s.vm.findClass own = some cur := by
    cases hc : s.vm.findClass own with
    | none => simp [hc] at h'
    | some cur => exact ⟨cur, rfl⟩
  obtain ⟨k0, cf, i, a, -, -, -, -, -, hev⟩ := Cond.stringRef_spec hcur h
  exact ⟨a, vk_R.of h hev⟩
theorem en_forget {s t : State} {o : Outcome} {L : List Loc} {k n : Nat} (h : Framed s o t L k n) (hL : ∀ q ∈ L, s.heap.size ≤ q.base) : Framed s o t [] k n := by
  obtain ⟨h1, h2, h3, h4, h5, h6, h7, h8⟩ := h
  refine ⟨h1, h2, h3, h4, h5, h6, h7, fun a c hc => ?_⟩
  obtain ⟨c', g1, g2, g3, g4⟩ := h8 a c hc
  have ha : a < s.heap.size := (Array.getElem?_eq_some_iff.mp hc).1
  exact ⟨c', g1, g2, g3, fun i _ => g4 i (fun hm => Nat.not_le.mpr ha (hL _ hm))⟩
/-- the texts' terms -/
def tmX : Nat → Term := fun i => (xstrs.map (fun q => Term.string q.2.1 q.2.2.1)).getD i .null
def lenX : List Nat := (List.range 14).map (fun k => (STX k).length)
def bytX : List (List Int32) := (List.range 14).map (fun k => (STX k).map ji)
abbrev flX : List Cond := flatC (Jvm.Cond.and given_1 narrow_1)
theorem fl_ex : (List.range 14).all (fun i => decide (Cond.exactly (tmX i) "java/lang/String" ∈ flX)) = true := by decide +kernel
theorem fl_co : (List.range 14).all (fun i => decide (Cond.eq (.field (tmX i) "java/lang/String" "coder" "B") (.int 0) ∈ flX)) = true := by decide +kernel
theorem fl_ar : (List.range 14).all (fun i => decide (Cond.arrayOf (.field (tmX i) "java/lang/String" "value" "[B") .byte ∈ flX)) = true := by decide +kernel
theorem fl_le : (List.range 14).all (fun i => decide (Cond.eq (.length (.field (tmX i) "java/lang/String" "value" "[B")) (.int (Int32.ofNat (lenX.getD i 0))) ∈ flX)) = true := by decide +kernel
theorem fl_el : (List.range 14).all (fun i => (List.range (lenX.getD i 0)).all (fun j => decide (Cond.eq (.elem (.field (tmX i) "java/lang/String" "value" "[B") (.int (Int32.ofNat j))) (.int ((bytX.getD i []).getD j 0)) ∈ flX))) = true := by decide +kernel
theorem fl_ne_0 : (List.range 14).all (fun j => decide (j ≤ 0) || decide (Cond.not (Cond.eq (tmX 0) (tmX j)) ∈ flX)) = true := by decide +kernel
theorem fl_ne_1 : (List.range 14).all (fun j => decide (j ≤ 1) || decide (Cond.not (Cond.eq (tmX 1) (tmX j)) ∈ flX)) = true := by decide +kernel
theorem fl_ne_2 : (List.range 14).all (fun j => decide (j ≤ 2) || decide (Cond.not (Cond.eq (tmX 2) (tmX j)) ∈ flX)) = true := by decide +kernel
theorem fl_ne_3 : (List.range 14).all (fun j => decide (j ≤ 3) || decide (Cond.not (Cond.eq (tmX 3) (tmX j)) ∈ flX)) = true := by decide +kernel
theorem fl_ne_4 : (List.range 14).all (fun j => decide (j ≤ 4) || decide (Cond.not (Cond.eq (tmX 4) (tmX j)) ∈ flX)) = true := by decide +kernel
theorem fl_ne_5 : (List.range 14).all (fun j => decide (j ≤ 5) || decide (Cond.not (Cond.eq (tmX 5) (tmX j)) ∈ flX)) = true := by decide +kernel
theorem fl_ne_6 : (List.range 14).all (fun j => decide (j ≤ 6) || decide (Cond.not (Cond.eq (tmX 6) (tmX j)) ∈ flX)) = true := by decide +kernel
theorem fl_ne_7 : (List.range 14).all (fun j => decide (j ≤ 7) || decide (Cond.not (Cond.eq (tmX 7) (tmX j)) ∈ flX)) = true := by decide +kernel
theorem fl_ne_8 : (List.range 14).all (fun j => decide (j ≤ 8) || decide (Cond.not (Cond.eq (tmX 8) (tmX j)) ∈ flX)) = true := by decide +kernel
theorem fl_ne_9 : (List.range 14).all (fun j => decide (j ≤ 9) || decide (Cond.not (Cond.eq (tmX 9) (tmX j)) ∈ flX)) = true := by decide +kernel
theorem fl_ne_10 : (List.range 14).all (fun j => decide (j ≤ 10) || decide (Cond.not (Cond.eq (tmX 10) (tmX j)) ∈ flX)) = true := by decide +kernel
theorem fl_ne_11 : (List.range 14).all (fun j => decide (j ≤ 11) || decide (Cond.not (Cond.eq (tmX 11) (tmX j)) ∈ flX)) = true := by decide +kernel
theorem fl_ne_12 : (List.range 14).all (fun j => decide (j ≤ 12) || decide (Cond.not (Cond.eq (tmX 12) (tmX j)) ∈ flX)) = true := by decide +kernel
theorem fl_ne_13 : (List.range 14).all (fun j => decide (j ≤ 13) || decide (Cond.not (Cond.eq (tmX 13) (tmX j)) ∈ flX)) = true := by decide +kernel
theorem fl_ne (i j : Nat) (hi : i < 14) (hj : j < 14) (h : i < j) : Cond.not (Cond.eq (tmX i) (tmX j)) ∈ flX := by
  have go : ∀ k, ((List.range 14).all (fun j => decide (j ≤ k) || decide (Cond.not (Cond.eq (tmX k) (tmX j)) ∈ flX)) = true) → k < j → Cond.not (Cond.eq (tmX k) (tmX j)) ∈ flX := fun k g hk => by
    have h2 := List.all_eq_true.mp g j (List.mem_range.mpr hj)
    rw [Bool.or_eq_true] at h2
    rcases h2 with h2 | h2
    · have := of_decide_eq_true h2; omega
    · exact of_decide_eq_true h2
  have e : i = 0 ∨ i = 1 ∨ i = 2 ∨ i = 3 ∨ i = 4 ∨ i = 5 ∨ i = 6 ∨ i = 7 ∨ i = 8 ∨ i = 9 ∨ i = 10 ∨ i = 11 ∨ i = 12 ∨ i = 13 := by omega
  rcases e with rfl | rfl | rfl | rfl | rfl | rfl | rfl | rfl | rfl | rfl | rfl | rfl | rfl | rfl
  · exact go 0 fl_ne_0 h
  · exact go 1 fl_ne_1 h
  · exact go 2 fl_ne_2 h
  · exact go 3 fl_ne_3 h
  · exact go 4 fl_ne_4 h
  · exact go 5 fl_ne_5 h
  · exact go 6 fl_ne_6 h
  · exact go 7 fl_ne_7 h
  · exact go 8 fl_ne_8 h
  · exact go 9 fl_ne_9 h
  · exact go 10 fl_ne_10 h
  · exact go 11 fl_ne_11 h
  · exact go 12 fl_ne_12 h
  · exact go 13 fl_ne_13 h
theorem all_r {n : Nat} {f : Nat → Bool} (h : (List.range n).all f = true) {i : Nat} (hi : i < n) : f i = true := List.all_eq_true.mp h i (List.mem_range.mpr hi)
theorem en_texts {args : Array Value} {s : State} (hgv : (Jvm.Cond.and given_1 narrow_1).before args s = true) {A : Nat → Prop} (hA : ∀ a : Nat, a < s.heap.size → ¬ A a) : ∃ adK adV : Nat → Nat, vk_S 14 lenX bytX adK adV A s s.heap ∧ ∀ i : Nat, i < 14 → (tmX i).eval args s none [] s = some (.ref (adK i)) := by
  have hs := flat_of_before _ hgv
  refine vk_Sof (fun i hi => ?_) (fun i hi => hs _ (of_decide_eq_true (all_r fl_ex hi))) (fun i hi => hs _ (of_decide_eq_true (all_r fl_co hi))) (fun i hi => hs _ (of_decide_eq_true (all_r fl_ar hi))) (fun i hi => hs _ (of_decide_eq_true (all_r fl_le hi))) (fun i hi j hj => hs _ (of_decide_eq_true (all_r (all_r fl_el hi) hj))) (fun i j hi hj hij => ?_) hA
  · have h : (List.range 14).all (fun i => decide (lenX.getD i 0 < 2 ^ 31)) = true := by decide +kernel
    exact of_decide_eq_true (all_r h hi)
  · rcases Nat.lt_or_gt_of_ne hij with h | h
    · exact Or.inl (hs _ (fl_ne i j hi hj h))
    · exact Or.inr (hs _ (fl_ne j i hj hi h))
