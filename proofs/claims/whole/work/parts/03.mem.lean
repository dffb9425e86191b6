/-! ===== MEMORY: what the cells of the system hold, by their addresses ===== -/
/-- int fields, long fields, reference fields (by key = 32 * class + slot, and address); int rows, long rows, double rows, reference rows (by address, index); what lies at an address; a row's length; where the next cell comes; whether that is known -/
abbrev XM : Type := (Nat → Nat → Int32) × (Nat → Nat → Int64) × (Nat → Nat → Option Nat) × (Nat → Nat → Int32) × (Nat → Nat → Int64) × (Nat → Nat → UInt64) × (Nat → Nat → Option Nat) × (Nat → Option (Nat ⊕ Nat)) × (Nat → Nat) × Nat × Bool
def gI (μ : XM) (k a : Nat) : Int32 := μ.1 k a
def gL (μ : XM) (k a : Nat) : Int64 := μ.2.1 k a
def gR (μ : XM) (k a : Nat) : Option Nat := μ.2.2.1 k a
def aI (μ : XM) (a i : Nat) : Int32 := μ.2.2.2.1 a i
def aL (μ : XM) (a i : Nat) : Int64 := μ.2.2.2.2.1 a i
def aD (μ : XM) (a i : Nat) : UInt64 := μ.2.2.2.2.2.1 a i
def aR (μ : XM) (a i : Nat) : Option Nat := μ.2.2.2.2.2.2.1 a i
def tg (μ : XM) (a : Nat) : Option (Nat ⊕ Nat) := μ.2.2.2.2.2.2.2.1 a
def ln (μ : XM) (a : Nat) : Nat := μ.2.2.2.2.2.2.2.2.1 a
def tp (μ : XM) : Nat := μ.2.2.2.2.2.2.2.2.2.1
def fr (μ : XM) : Bool := μ.2.2.2.2.2.2.2.2.2.2
def sI (μ : XM) (k a : Nat) (v : Int32) : XM := (fun k' a' => if k' = k ∧ a' = a then v else gI μ k' a', μ.2)
def sL (μ : XM) (k a : Nat) (v : Int64) : XM := (μ.1, fun k' a' => if k' = k ∧ a' = a then v else gL μ k' a', μ.2.2)
def sR (μ : XM) (k a : Nat) (v : Option Nat) : XM := (μ.1, μ.2.1, fun k' a' => if k' = k ∧ a' = a then v else gR μ k' a', μ.2.2.2)
def wI (μ : XM) (a i : Nat) (v : Int32) : XM := (μ.1, μ.2.1, μ.2.2.1, fun a' i' => if a' = a ∧ i' = i then v else aI μ a' i', μ.2.2.2.2)
def wL (μ : XM) (a i : Nat) (v : Int64) : XM := (μ.1, μ.2.1, μ.2.2.1, μ.2.2.2.1, fun a' i' => if a' = a ∧ i' = i then v else aL μ a' i', μ.2.2.2.2.2)
def wD (μ : XM) (a i : Nat) (v : UInt64) : XM := (μ.1, μ.2.1, μ.2.2.1, μ.2.2.2.1, μ.2.2.2.2.1, fun a' i' => if a' = a ∧ i' = i then v else aD μ a' i', μ.2.2.2.2.2.2)
def wR (μ : XM) (a i : Nat) (v : Option Nat) : XM := (μ.1, μ.2.1, μ.2.2.1, μ.2.2.2.1, μ.2.2.2.2.1, μ.2.2.2.2.2.1, fun a' i' => if a' = a ∧ i' = i then v else aR μ a' i', μ.2.2.2.2.2.2.2)
/-- a row is copied: n places of a from sp on to those of b from dp on -/
def cI (μ : XM) (a sp b dp n : Nat) : XM := (μ.1, μ.2.1, μ.2.2.1, fun a' i' => if a' = b ∧ dp ≤ i' ∧ i' < dp + n then aI μ a (sp + (i' - dp)) else aI μ a' i', μ.2.2.2.2)
/-- a new object of class ci -/
def nO (μ : XM) (ci : Nat) : XM := (fun k a => if a = tp μ then 0 else gI μ k a, fun k a => if a = tp μ then 0 else gL μ k a, fun k a => if a = tp μ then none else gR μ k a, aI μ, aL μ, aD μ, aR μ, fun a => if a = tp μ then some (.inl ci) else tg μ a, ln μ, tp μ + 1, fr μ)
/-- a new row of a kind and length -/
def nA (μ : XM) (k n : Nat) : XM := (gI μ, gL μ, gR μ, fun a i => if a = tp μ then 0 else aI μ a i, fun a i => if a = tp μ then 0 else aL μ a i, fun a i => if a = tp μ then 0 else aD μ a i, fun a i => if a = tp μ then none else aR μ a i, fun a => if a = tp μ then some (.inr k) else tg μ a, fun a => if a = tp μ then n else ln μ a, tp μ + 1, fr μ)
/-- something was made that isn't looked at any more -/
def uF (μ : XM) : XM := (gI μ, gL μ, gR μ, aI μ, aL μ, aD μ, aR μ, tg μ, ln μ, tp μ, false)
/-- the classes -/
abbrev xcl : List vw_C := [(RX0, TX0, 6), (RX1, TX1, 3), (RX2, TX2, 1), (RX3, TX3, 12), (RX4, TX4, 5), (RX5, TX5, 2), (RX6, TX6, 8), (RX7, TX7, 7), (RX8, TX8, 11), (RX9, TX9, 33)]
/-- the kinds of a class's fields: 0 int, 1 long, 2 reference, 3 boolean -/
def xkd : FieldType → Nat
  | .int => 0
  | .long => 1
  | .boolean => 3
  | _ => 2
def xtyf : Nat → Nat → FieldType
  | 0 => tyX0 | 1 => tyX1 | 2 => tyX2 | 3 => tyX3 | 4 => tyX4 | 5 => tyX5 | 6 => tyX6 | 7 => tyX7 | 8 => tyX8 | _ => tyX9
def xN : Nat → Nat
  | 0 => 6 | 1 => 3 | 2 => 1 | 3 => 12 | 4 => 5 | 5 => 2 | 6 => 8 | 7 => 7 | 8 => 11 | _ => 33
def xC : Nat → String
  | 0 => RX0 | 1 => RX1 | 2 => RX2 | 3 => RX3 | 4 => RX4 | 5 => RX5 | 6 => RX6 | 7 => RX7 | 8 => RX8 | _ => RX9
def xT : Nat → u_T
  | 0 => TX0 | 1 => TX1 | 2 => TX2 | 3 => TX3 | 4 => TX4 | 5 => TX5 | 6 => TX6 | 7 => TX7 | 8 => TX8 | _ => TX9
def xv (μ : XM) (a k : Nat) : FieldType → Value
  | .int => .int (gI μ k a)
  | .boolean => .int (gI μ k a)
  | .long => .long (gL μ k a)
  | _ => va_rf (gR μ k a)
def xfs (μ : XM) (ci a : Nat) : List Value := (List.range (xN ci)).map (fun j => xv μ a (32 * ci + j) (xtyf ci j))
def xrow (μ : XM) (E : Nat → ClassId) (k a : Nat) : Option va_E := match k with
  | 0 => some (.inl (E 0, ln μ a, .inl (aI μ a)))
  | 1 => some (.inl (E 1, ln μ a, .inl (aI μ a)))
  | 2 => some (.inl (E 2, ln μ a, .inl (aI μ a)))
  | 3 => some (.inl (E 3, ln μ a, .inr (.inl (aL μ a))))
  | 4 => some (.inl (E 4, ln μ a, .inr (.inr (.inr (.inl (aD μ a))))))
  | 5 => some (.inl (E 5, ln μ a, .inr (.inr (.inr (.inr (aR μ a))))))
  | 6 => some (.inl (E 6, ln μ a, .inr (.inr (.inr (.inr (aR μ a))))))
  | _ => none
/-- what lies at an address -/
def xc (E : Nat → ClassId) (μ : XM) (a : Nat) : Option va_E := match tg μ a with
  | none => none
  | some (.inl ci) => if ci < 10 then some (.inr (ci, xfs μ ci a)) else none
  | some (.inr k) => xrow μ E k a
def xty (E : Nat → ClassId) : List (ClassId × FieldType) := [(E 0, .int), (E 1, .boolean), (E 2, .byte), (E 3, .long), (E 4, .double), (E 5, .object RX7), (E 6, .object RX3)]
/-- a list of cells that is the memory's -/
def xW (E : Nat → ClassId) (μ : XM) (ws : va_W) : Prop := ∀ a e, (∃ k : Nat, ws[k]? = some (a, e)) ↔ xc E μ a = some e
abbrev XE : Type := va_G × (Nat → ClassId) × (Nat → Prop)
/-- the texts that the class reads: place, class, entry, text; their addresses are ξ's (100 + place) -/
def xstrs : List (Nat × String × Nat × String) := [(0, RX2, 32, "grid"), (1, RX2, 46, "stale"), (2, RX2, 51, "dead"), (3, RX6, 73, "east"), (4, RX6, 79, "north"), (5, RX6, 81, "west"), (6, RX6, 83, "south"), (7, RX2, 56, "lesson"), (8, RX5, 70, "send"), (9, RX5, 76, "tick"), (10, RX5, 78, "kill"), (11, RX5, 80, "mend"), (12, RX5, 82, "forget"), (13, RX8, 322, "enws")]
/-- what is only read: the script (9), a text (10) -/
def xro (A : Nat → Prop) (μ : XM) (a k : Nat) (U : State) (H : Heap) : Prop := match k with
  | 9 => va_X a (ln μ a) (aI μ a) U H
  | 10 => (∃ adV : Nat, va_O "java/lang/String" a A U H ∧ va_OF "java/lang/String" "coder" "B" (.int 0) a A U H ∧ va_OF "java/lang/String" "value" "[B" (.ref adV) a A U H ∧ va_T .byte adV (ln μ a) (fun j => .int (aI μ a j)) A U H) ∧ ln μ a < 2147483648
  | _ => True
theorem xro.kept {A : Nat → Prop} {μ : XM} {a k : Nat} {U : State} {H H1 : Heap} (h : xro A μ a k U H) (ha : a < H.size) (hA : ¬ A a) (hq : ∀ q : Nat, q < H.size → ¬ A q → H1[q]? = H[q]?) : xro A μ a k U H1 := by
  unfold xro at h ⊢
  split at h
  · exact h.kept (hq a ha hA)
  · obtain ⟨⟨v, h1, h2, h3, h4⟩, h5⟩ := h
    exact ⟨⟨v, h1.kept hq, h2.kept hq, h3.kept hq, h4.kept hq⟩, h5⟩
  · trivial
theorem xro.moved {A : Nat → Prop} {μ : XM} {a k : Nat} {u U : State} {H : Heap} (hvm : u.vm.Alike U.vm) (h : xro A μ a k u H) : xro A μ a k U H := by
  unfold xro at h ⊢
  split at h
  · exact h.moved hvm
  · obtain ⟨⟨v, h1, h2, h3, h4⟩, h5⟩ := h
    exact ⟨⟨v, va_O.moved hvm h1, va_OF.moved hvm h2, va_OF.moved hvm h3, va_T.moved hvm h4⟩, h5⟩
  · trivial
theorem xro.same {A : Nat → Prop} {μ μ' : XM} {a k : Nat} {U : State} {H : Heap} (h : xro A μ a k U H) (h1 : ln μ' a = ln μ a) (h2 : aI μ' a = aI μ a) : xro A μ' a k U H := by
  unfold xro at h ⊢
  split at h
  · rw [h1, h2]; exact h
  · rw [h1, h2]; exact h
  · trivial
def xTail (ξ : XE) (μ : XM) (U : State) (H : Heap) : Prop :=
  (∀ a k, 9 ≤ k → tg μ a = some (.inr k) → xro ξ.2.2 μ a k U H ∧ ¬ ξ.2.2 a ∧ a < H.size) ∧ ∀ q ∈ xstrs, gR μ (2000 + q.1) 0 = some (ξ.2.1 (100 + q.1)) ∧ tg μ (ξ.2.1 (100 + q.1)) = some (.inr 10)
/-- what is only read stays -/
def xKeep (μ μ' : XM) : Prop := (∀ b k, 9 ≤ k → tg μ' b = some (.inr k) → tg μ b = some (.inr k) ∧ ln μ' b = ln μ b ∧ aI μ' b = aI μ b) ∧ (∀ k, 2000 ≤ k → gR μ' k 0 = gR μ k 0) ∧ ∀ b, tg μ b = some (.inr 10) → tg μ' b = some (.inr 10)
theorem xTail.step {ξ : XE} {μ μ' : XM} {U : State} {H H1 : Heap} (h : xTail ξ μ U H) (hk : xKeep μ μ') (hz : H.size ≤ H1.size) (hq : ∀ q : Nat, q < H.size → ¬ ξ.2.2 q → H1[q]? = H[q]?) : xTail ξ μ' U H1 := by
  refine ⟨fun a k h9 hb => ?_, fun q hq => ?_⟩
  · obtain ⟨g1, g2, g3⟩ := hk.1 a k h9 hb
    obtain ⟨x1, x2, x3⟩ := h.1 a k h9 g1
    exact ⟨(x1.kept x3 x2 hq).same g2 g3, x2, Nat.lt_of_lt_of_le x3 hz⟩
  · obtain ⟨g1, g2⟩ := h.2 q hq
    exact ⟨by rw [hk.2.1 _ (Nat.le_add_right _ _)]; exact g1, hk.2.2 _ g2⟩
theorem xTail.moved {ξ : XE} {μ : XM} {u U : State} {H : Heap} (hvm : u.vm.Alike U.vm) (h : xTail ξ μ u H) : xTail ξ μ U H := ⟨fun a k h9 hb => ⟨(h.1 a k h9 hb).1.moved hvm, (h.1 a k h9 hb).2⟩, h.2⟩
/-- the heap holds the memory -/
def xR (ξ : XE) (μ : XM) (U : State) (H : Heap) : Prop :=
  (∃ ws : va_W, va_P ξ.1 xcl ws H ∧ va_D ξ.2.2 ws ∧ xW ξ.2.1 μ ws) ∧ (fr μ = true → H.size = tp μ) ∧ xTail ξ μ U H
theorem xro_10 {ξ : XE} {μ : XM} {U : State} {H : Heap} {a : Nat} (hR : xR ξ μ U H) (ht : tg μ a = some (.inr 10)) : (∃ v : Nat, va_O "java/lang/String" a ξ.2.2 U H ∧ va_OF "java/lang/String" "coder" "B" (.int 0) a ξ.2.2 U H ∧ va_OF "java/lang/String" "value" "[B" (.ref v) a ξ.2.2 U H ∧ va_T .byte v (ln μ a) (fun j => .int (aI μ a j)) ξ.2.2 U H) ∧ ln μ a < 2147483648 := (hR.2.2.1 a 10 (by decide) ht).1
theorem xW.set {E : Nat → ClassId} {μ μ' : XM} {ws : va_W} {A : Nat → Prop} {k a : Nat} {e0 e : va_E} (h : xW E μ ws) (hD : va_D A ws) (hk : ws[k]? = some (a, e0)) (he : xc E μ' a = some e) (ho : ∀ b, b ≠ a → xc E μ' b = xc E μ b) : xW E μ' (ws.set k (a, e)) := by
  have hl := (List.getElem?_eq_some_iff.mp hk).1
  intro b e'
  constructor
  · rintro ⟨j, hj⟩
    by_cases hjk : j = k
    · subst hjk
      rw [List.getElem?_set_self hl] at hj
      cases hj
      exact he
    · rw [List.getElem?_set_ne (Ne.symm hjk)] at hj
      have hba : b ≠ a := fun z => hjk (hD.1 j k _ _ hj hk z)
      rw [ho b hba]
      exact (h b e').mp ⟨j, hj⟩
  · intro hx
    by_cases hba : b = a
    · subst hba
      rw [he] at hx
      cases hx
      exact ⟨k, List.getElem?_set_self hl⟩
    · rw [ho b hba] at hx
      obtain ⟨j, hj⟩ := (h b e').mpr hx
      have hjk : j ≠ k := by
        intro z
        subst z
        rw [hk] at hj
        cases hj
        exact hba rfl
      exact ⟨j, by rw [List.getElem?_set_ne (Ne.symm hjk)]; exact hj⟩
theorem xW.push {E : Nat → ClassId} {μ μ' : XM} {ws : va_W} {a : Nat} {e : va_E} (h : xW E μ ws) (hn : xc E μ a = none) (he : xc E μ' a = some e) (ho : ∀ b, b ≠ a → xc E μ' b = xc E μ b) : xW E μ' (ws ++ [(a, e)]) := by
  intro b e'
  constructor
  · rintro ⟨j, hj⟩
    rcases List.mem_append.mp (List.mem_of_getElem? hj) with h1 | h1
    · obtain ⟨i, hi⟩ := List.getElem?_of_mem h1
      have hx := (h b e').mp ⟨i, hi⟩
      have hba : b ≠ a := by
        intro z
        subst z
        rw [hn] at hx
        cases hx
      rw [ho b hba]
      exact hx
    · rw [List.mem_singleton] at h1
      cases h1
      exact he
  · intro hx
    by_cases hba : b = a
    · subst hba
      rw [he] at hx
      cases hx
      exact ⟨ws.length, by simp⟩
    · rw [ho b hba] at hx
      obtain ⟨j, hj⟩ := (h b e').mpr hx
      exact ⟨j, by rw [List.getElem?_append_left (List.getElem?_eq_some_iff.mp hj).1]; exact hj⟩
theorem xW.same {E : Nat → ClassId} {μ μ' : XM} {ws : va_W} (h : xW E μ ws) (ho : ∀ b, xc E μ' b = xc E μ b) : xW E μ' ws := fun a e => by rw [ho a]; exact h a e
/-- an object's cell -/
theorem xc_obj {E : Nat → ClassId} {μ : XM} {a ci : Nat} (h : tg μ a = some (.inl ci)) (hc : ci < 10) : xc E μ a = some (.inr (ci, xfs μ ci a)) := by
  unfold xc
  rw [h]
  simp [hc]
theorem xc_row {E : Nat → ClassId} {μ : XM} {a k : Nat} (h : tg μ a = some (.inr k)) : xc E μ a = xrow μ E k a := by
  unfold xc
  rw [h]
theorem xcl_at {ci : Nat} (hc : ci < 10) : xcl[ci]? = some (xC ci, xT ci, xN ci) := by
  match ci, hc with
  | 0, _ => rfl
  | 1, _ => rfl
  | 2, _ => rfl
  | 3, _ => rfl
  | 4, _ => rfl
  | 5, _ => rfl
  | 6, _ => rfl
  | 7, _ => rfl
  | 8, _ => rfl
  | 9, _ => rfl
theorem xfs_len (μ : XM) (ci a : Nat) : (xfs μ ci a).length = xN ci := by simp [xfs]
theorem xfs_at {μ : XM} {ci a j : Nat} (hj : j < xN ci) : (xfs μ ci a)[j]? = some (xv μ a (32 * ci + j) (xtyf ci j)) := by
  simp [xfs, hj]
/-- the memory with another field value is the cell with that value -/
theorem xfs_set {μ μ' : XM} {ci a j : Nat} (hj : j < xN ci) {v : Value} (hv : xv μ' a (32 * ci + j) (xtyf ci j) = v) (ho : ∀ i, i ≠ j → xv μ' a (32 * ci + i) (xtyf ci i) = xv μ a (32 * ci + i) (xtyf ci i)) : xfs μ' ci a = (xfs μ ci a).set j v := by
  apply List.ext_getElem?
  intro i
  by_cases hi : i < xN ci
  · rw [xfs_at hi]
    by_cases hij : i = j
    · subst hij
      rw [List.getElem?_set_self (by rw [xfs_len]; exact hi), hv]
    · rw [List.getElem?_set_ne (Ne.symm hij), xfs_at hi, ho i hij]
  · rw [List.getElem?_eq_none (by rw [xfs_len]; omega), List.getElem?_eq_none (by rw [List.length_set, xfs_len]; omega)]
theorem xfs_same {μ μ' : XM} {ci a : Nat} (ho : ∀ i, i < xN ci → xv μ' a (32 * ci + i) (xtyf ci i) = xv μ a (32 * ci + i) (xtyf ci i)) : xfs μ' ci a = xfs μ ci a := by
  unfold xfs
  exact List.map_congr_left (fun i hi => ho i (List.mem_range.mp hi))
/-- another address: the same fields, the same rows -/
theorem xc_same {E : Nat → ClassId} {μ μ' : XM} {b : Nat} (ht : tg μ' b = tg μ b) (hl : ln μ' b = ln μ b) (h1 : ∀ k, gI μ' k b = gI μ k b) (h2 : ∀ k, gL μ' k b = gL μ k b) (h3 : ∀ k, gR μ' k b = gR μ k b) (h4 : aI μ' b = aI μ b) (h5 : aL μ' b = aL μ b) (h6 : aD μ' b = aD μ b) (h7 : aR μ' b = aR μ b) : xc E μ' b = xc E μ b := by
  unfold xc
  rw [ht]
  rcases tg μ b with _ | ci | k
  · rfl
  · have hx : xfs μ' ci b = xfs μ ci b := xfs_same (fun i _ => by unfold xv; split <;> simp [h1, h2, h3])
    simp only [hx]
  · show xrow μ' E k b = xrow μ E k b
    unfold xrow
    split <;> simp only [hl, h4, h5, h6, h7]
