/-! ===== rows on arrays, and on what is made ===== -/
theorem fits_ref {ty : FieldType} (h : xkd ty = 2) (h2 : ty ≠ .byte ∧ ty ≠ .char ∧ ty ≠ .short ∧ ty ≠ .float ∧ ty ≠ .double) (r : Option Nat) : narrow ty (va_rf r) = va_rf r ∧ fits ty (va_rf r) = true := by
  obtain ⟨h3, h4, h5, h6, h7⟩ := h2
  cases ty <;> first | (exfalso; revert h; decide) | (exfalso; revert h3 h4 h5 h6 h7; simp; done) | (cases r <;> exact ⟨rfl, rfl⟩)
def xrefTy (ty : FieldType) : Bool := match ty with
  | .object _ => true
  | .array _ => true
  | _ => false
theorem fits_ref' {ty : FieldType} (h : xrefTy ty = true) (r : Option Nat) : narrow ty (va_rf r) = va_rf r ∧ fits ty (va_rf r) = true := by
  cases ty <;> first | (exfalso; revert h; decide) | (cases r <;> exact ⟨rfl, rfl⟩)
theorem wI_row {μ : XM} {a i : Nat} {v : Int32} : aI (wI μ a i v) a = fun j => if j = i then v else aI μ a j := by funext j; simp [aI, wI]
theorem wL_row {μ : XM} {a i : Nat} {v : Int64} : aL (wL μ a i v) a = fun j => if j = i then v else aL μ a j := by funext j; simp [aL, wL]
theorem wD_row {μ : XM} {a i : Nat} {v : UInt64} : aD (wD μ a i v) a = fun j => if j = i then v else aD μ a j := by funext j; simp [aD, wD]
theorem wR_row {μ : XM} {a i : Nat} {v : Option Nat} : aR (wR μ a i v) a = fun j => if j = i then v else aR μ a j := by funext j; simp [aR, wR]
section XROWS6
variable {κ : XK} {ξ : XE} {cc : ByteArray} {own : String} {nL : Nat} {ret : Option FieldType} {nc ns : Nat} {μ : XM} {pc : Nat} {L : List (Option Value)} {st : List Value}

theorem r_putI (C : XCtx κ ξ cc own nL ret) {ci j idx a : Nat} {v : Int32} (hd : decode cc pc = .ok (.putfield idx, 3)) (hw : Cond.fieldLink own idx (xT ci j).1 (xT ci j).2.1 (xT ci j).2.2.1 ∈ TW) (hc : ci < 10) (hj : j < xN ci) (ht : tg μ a = some (.inl ci)) (hfin : (xT ci j).2.2.2 = false ∨ ((xT ci j).1 = own ∧ κ.meth.name = "<init>")) (hty : xtyf ci j = .int) 
    (k : XG κ ξ nL nc ns (sI μ (32 * ci + j) a v) (pc + 3) L st) : XG κ ξ nL nc ns μ pc L (.int v :: .ref a :: st) :=
  r_putG (μ' := sI μ (32 * ci + j) a v) C hd hw hc hj ht hfin (by rw [hty]; rfl) (by rw [hty]; rfl) rfl rfl rfl rfl rfl rfl rfl rfl (by rw [hty]; simp [xv, gI, sI]) (fun k b h => by simp only [gI, sI]; rw [if_neg h]) (fun k b h => by rfl) (fun k b h => rfl) k
theorem r_putZ (C : XCtx κ ξ cc own nL ret) {ci j idx a : Nat} {v : Int32} (hd : decode cc pc = .ok (.putfield idx, 3)) (hw : Cond.fieldLink own idx (xT ci j).1 (xT ci j).2.1 (xT ci j).2.2.1 ∈ TW) (hc : ci < 10) (hj : j < xN ci) (ht : tg μ a = some (.inl ci)) (hfin : (xT ci j).2.2.2 = false ∨ ((xT ci j).1 = own ∧ κ.meth.name = "<init>")) (hty : xtyf ci j = .boolean) (hz : narrow .boolean (.int v) = .int v) (hz2 : fits .boolean (.int v) = true) 
    (k : XG κ ξ nL nc ns (sI μ (32 * ci + j) a v) (pc + 3) L st) : XG κ ξ nL nc ns μ pc L (.int v :: .ref a :: st) :=
  r_putG (μ' := sI μ (32 * ci + j) a v) C hd hw hc hj ht hfin (by rw [hty]; exact hz) (by rw [hty]; exact hz2) rfl rfl rfl rfl rfl rfl rfl rfl (by rw [hty]; simp [xv, gI, sI]) (fun k b h => by simp only [gI, sI]; rw [if_neg h]) (fun k b h => by rfl) (fun k b h => rfl) k
theorem r_putL (C : XCtx κ ξ cc own nL ret) {ci j idx a : Nat} {v : Int64} (hd : decode cc pc = .ok (.putfield idx, 3)) (hw : Cond.fieldLink own idx (xT ci j).1 (xT ci j).2.1 (xT ci j).2.2.1 ∈ TW) (hc : ci < 10) (hj : j < xN ci) (ht : tg μ a = some (.inl ci)) (hfin : (xT ci j).2.2.2 = false ∨ ((xT ci j).1 = own ∧ κ.meth.name = "<init>")) (hty : xtyf ci j = .long) 
    (k : XG κ ξ nL nc ns (sL μ (32 * ci + j) a v) (pc + 3) L st) : XG κ ξ nL nc ns μ pc L (.long v :: .ref a :: st) :=
  r_putG (μ' := sL μ (32 * ci + j) a v) C hd hw hc hj ht hfin (by rw [hty]; rfl) (by rw [hty]; rfl) rfl rfl rfl rfl rfl rfl rfl rfl (by rw [hty]; simp [xv, gL, sL]) (fun k b h => by rfl) (fun k b h => by simp only [gL, sL]; rw [if_neg h]) (fun k b h => rfl) k
theorem xv_ref {μ : XM} {a k : Nat} {ty : FieldType} (h : xrefTy ty = true) : xv μ a k ty = va_rf (gR μ k a) := by cases ty <;> first | rfl | (exfalso; revert h; decide)
theorem r_putR (C : XCtx κ ξ cc own nL ret) {ci j idx a : Nat} {v : Option Nat} (hd : decode cc pc = .ok (.putfield idx, 3)) (hw : Cond.fieldLink own idx (xT ci j).1 (xT ci j).2.1 (xT ci j).2.2.1 ∈ TW) (hc : ci < 10) (hj : j < xN ci) (ht : tg μ a = some (.inl ci)) (hfin : (xT ci j).2.2.2 = false ∨ ((xT ci j).1 = own ∧ κ.meth.name = "<init>")) (hty : xrefTy (xtyf ci j) = true)
    (k : XG κ ξ nL nc ns (sR μ (32 * ci + j) a v) (pc + 3) L st) : XG κ ξ nL nc ns μ pc L (va_rf v :: .ref a :: st) :=
  r_putG (μ' := sR μ (32 * ci + j) a v) C hd hw hc hj ht hfin (fits_ref' hty v).1 (fits_ref' hty v).2 rfl rfl rfl rfl rfl rfl rfl rfl (by rw [xv_ref hty]; simp [gR, sR]) (fun k b h => rfl) (fun k b h => rfl) (fun k b h => by simp only [gR, sR]; rw [if_neg h]) k
theorem xrow_at {E : Nat → ClassId} {μ : XM} {a k : Nat} {e : va_E} (h : tg μ a = some (.inr k)) (he : xrow μ E k a = some e) : xc E μ a = some e := by rw [xc_row h]; exact he

theorem r_iald (C : XCtx κ ξ cc own nL ret) {a : Nat} {i : Int32} (hd : decode cc pc = .ok (.iaload, 1)) (ht : tg μ a = some (.inr 0)) (hin : vp_in i (ln μ a)) (k : XG κ ξ nL nc ns μ (pc + 1) L (.int (aI μ a i.toNatClampNeg) :: st)) : XG κ ξ nL nc ns μ pc L (.int i :: .ref a :: st) := fun hn H locs ls hR hS hl =>
  va_iald C.1 C.2.1 C.2.2.2.2.2.1 (hR.one (xrow_at ht rfl)) 0 0 rfl rfl hin hd (k hn H locs ls hR hS hl)
theorem r_zald (C : XCtx κ ξ cc own nL ret) {a : Nat} {i : Int32} (hd : decode cc pc = .ok (.baload, 1)) (ht : tg μ a = some (.inr 1)) (hin : vp_in i (ln μ a)) (k : XG κ ξ nL nc ns μ (pc + 1) L (.int (aI μ a i.toNatClampNeg) :: st)) : XG κ ξ nL nc ns μ pc L (.int i :: .ref a :: st) := fun hn H locs ls hR hS hl =>
  va_zald C.1 C.2.1 C.2.2.2.2.2.1 (hR.one (xrow_at ht rfl)) 0 1 rfl rfl hin hd (k hn H locs ls hR hS hl)
theorem r_bald (C : XCtx κ ξ cc own nL ret) {a : Nat} {i : Int32} (hd : decode cc pc = .ok (.baload, 1)) (ht : tg μ a = some (.inr 2)) (hin : vp_in i (ln μ a)) (k : XG κ ξ nL nc ns μ (pc + 1) L (.int (aI μ a i.toNatClampNeg) :: st)) : XG κ ξ nL nc ns μ pc L (.int i :: .ref a :: st) := fun hn H locs ls hR hS hl =>
  va_bald C.1 C.2.1 C.2.2.2.2.2.1 (hR.one (xrow_at ht rfl)) 0 2 rfl rfl hin hd (k hn H locs ls hR hS hl)
theorem r_lald (C : XCtx κ ξ cc own nL ret) {a : Nat} {i : Int32} (hd : decode cc pc = .ok (.laload, 1)) (ht : tg μ a = some (.inr 3)) (hin : vp_in i (ln μ a)) (k : XG κ ξ nL nc ns μ (pc + 1) L (.long (aL μ a i.toNatClampNeg) :: st)) : XG κ ξ nL nc ns μ pc L (.int i :: .ref a :: st) := fun hn H locs ls hR hS hl =>
  va_lald C.1 C.2.1 C.2.2.2.2.2.1 (hR.one (xrow_at ht rfl)) 0 3 rfl rfl hin hd (k hn H locs ls hR hS hl)
theorem r_dald (C : XCtx κ ξ cc own nL ret) {a : Nat} {i : Int32} (hd : decode cc pc = .ok (.daload, 1)) (ht : tg μ a = some (.inr 4)) (hin : vp_in i (ln μ a)) (k : XG κ ξ nL nc ns μ (pc + 1) L (.double (aD μ a i.toNatClampNeg) :: st)) : XG κ ξ nL nc ns μ pc L (.int i :: .ref a :: st) := fun hn H locs ls hR hS hl =>
  va_dald C.1 C.2.1 C.2.2.2.2.2.1 (hR.one (xrow_at ht rfl)) 0 4 rfl rfl hin hd (k hn H locs ls hR hS hl)
theorem r_aldW (C : XCtx κ ξ cc own nL ret) {a : Nat} {i : Int32} (hd : decode cc pc = .ok (.aaload, 1)) (ht : tg μ a = some (.inr 5)) (hin : vp_in i (ln μ a)) (k : XG κ ξ nL nc ns μ (pc + 1) L (va_rf (aR μ a i.toNatClampNeg) :: st)) : XG κ ξ nL nc ns μ pc L (.int i :: .ref a :: st) := fun hn H locs ls hR hS hl =>
  va_aldq C.1 C.2.1 C.2.2.2.2.2.1 (hR.one (xrow_at ht rfl)) 0 5 rfl rfl hin hd (k hn H locs ls hR hS hl)
theorem r_aldP (C : XCtx κ ξ cc own nL ret) {a : Nat} {i : Int32} (hd : decode cc pc = .ok (.aaload, 1)) (ht : tg μ a = some (.inr 6)) (hin : vp_in i (ln μ a)) (k : XG κ ξ nL nc ns μ (pc + 1) L (va_rf (aR μ a i.toNatClampNeg) :: st)) : XG κ ξ nL nc ns μ pc L (.int i :: .ref a :: st) := fun hn H locs ls hR hS hl =>
  va_aldq C.1 C.2.1 C.2.2.2.2.2.1 (hR.one (xrow_at ht rfl)) 0 6 rfl rfl hin hd (k hn H locs ls hR hS hl)
theorem r_alen0 (C : XCtx κ ξ cc own nL ret) {a : Nat} (hd : decode cc pc = .ok (.arraylength, 1)) (ht : tg μ a = some (.inr 0)) (k : XG κ ξ nL nc ns μ (pc + 1) L (.int (Int32.ofNat (ln μ a)) :: st)) : XG κ ξ nL nc ns μ pc L (.ref a :: st) := fun hn H locs ls hR hS hl =>
  va_alen C.1 C.2.1 C.2.2.2.2.2.1 (hR.one (xrow_at ht rfl)) 0 0 rfl rfl rfl hd (k hn H locs ls hR hS hl)
theorem r_alen1 (C : XCtx κ ξ cc own nL ret) {a : Nat} (hd : decode cc pc = .ok (.arraylength, 1)) (ht : tg μ a = some (.inr 1)) (k : XG κ ξ nL nc ns μ (pc + 1) L (.int (Int32.ofNat (ln μ a)) :: st)) : XG κ ξ nL nc ns μ pc L (.ref a :: st) := fun hn H locs ls hR hS hl =>
  va_alen C.1 C.2.1 C.2.2.2.2.2.1 (hR.one (xrow_at ht rfl)) 0 1 rfl rfl rfl hd (k hn H locs ls hR hS hl)
theorem r_alen2 (C : XCtx κ ξ cc own nL ret) {a : Nat} (hd : decode cc pc = .ok (.arraylength, 1)) (ht : tg μ a = some (.inr 2)) (k : XG κ ξ nL nc ns μ (pc + 1) L (.int (Int32.ofNat (ln μ a)) :: st)) : XG κ ξ nL nc ns μ pc L (.ref a :: st) := fun hn H locs ls hR hS hl =>
  va_alen C.1 C.2.1 C.2.2.2.2.2.1 (hR.one (xrow_at ht rfl)) 0 2 rfl rfl rfl hd (k hn H locs ls hR hS hl)
theorem r_alen3 (C : XCtx κ ξ cc own nL ret) {a : Nat} (hd : decode cc pc = .ok (.arraylength, 1)) (ht : tg μ a = some (.inr 3)) (k : XG κ ξ nL nc ns μ (pc + 1) L (.int (Int32.ofNat (ln μ a)) :: st)) : XG κ ξ nL nc ns μ pc L (.ref a :: st) := fun hn H locs ls hR hS hl =>
  va_alen C.1 C.2.1 C.2.2.2.2.2.1 (hR.one (xrow_at ht rfl)) 0 3 rfl rfl rfl hd (k hn H locs ls hR hS hl)
theorem r_alen4 (C : XCtx κ ξ cc own nL ret) {a : Nat} (hd : decode cc pc = .ok (.arraylength, 1)) (ht : tg μ a = some (.inr 4)) (k : XG κ ξ nL nc ns μ (pc + 1) L (.int (Int32.ofNat (ln μ a)) :: st)) : XG κ ξ nL nc ns μ pc L (.ref a :: st) := fun hn H locs ls hR hS hl =>
  va_alen C.1 C.2.1 C.2.2.2.2.2.1 (hR.one (xrow_at ht rfl)) 0 4 rfl rfl rfl hd (k hn H locs ls hR hS hl)
theorem r_alen5 (C : XCtx κ ξ cc own nL ret) {a : Nat} (hd : decode cc pc = .ok (.arraylength, 1)) (ht : tg μ a = some (.inr 5)) (k : XG κ ξ nL nc ns μ (pc + 1) L (.int (Int32.ofNat (ln μ a)) :: st)) : XG κ ξ nL nc ns μ pc L (.ref a :: st) := fun hn H locs ls hR hS hl =>
  va_alen C.1 C.2.1 C.2.2.2.2.2.1 (hR.one (xrow_at ht rfl)) 0 5 rfl rfl rfl hd (k hn H locs ls hR hS hl)
theorem r_alen6 (C : XCtx κ ξ cc own nL ret) {a : Nat} (hd : decode cc pc = .ok (.arraylength, 1)) (ht : tg μ a = some (.inr 6)) (k : XG κ ξ nL nc ns μ (pc + 1) L (.int (Int32.ofNat (ln μ a)) :: st)) : XG κ ξ nL nc ns μ pc L (.ref a :: st) := fun hn H locs ls hR hS hl =>
  va_alen C.1 C.2.1 C.2.2.2.2.2.1 (hR.one (xrow_at ht rfl)) 0 6 rfl rfl rfl hd (k hn H locs ls hR hS hl)
theorem r_slen (C : XCtx κ ξ cc own nL ret) {a : Nat} (hd : decode cc pc = .ok (.arraylength, 1)) (ht : tg μ a = some (.inr 9)) (k : XG κ ξ nL nc ns μ (pc + 1) L (.int (Int32.ofNat (ln μ a)) :: st)) : XG κ ξ nL nc ns μ pc L (.ref a :: st) := by
  intro hn H locs ls hR hS hl
  obtain ⟨hX, hA, -⟩ := hR.2.2.1 a 9 (Nat.le_refl 9) ht
  exact va_slen C.1 C.2.1 hX (Array.getElem?_eq_some_iff.mp hX.choose_spec.1).1 hA (⟨Nat.le_refl _, fun _ _ _ => rfl, hS.2.2⟩ : va_S ξ.2.2 H H locs) hd (k hn H locs ls hR hS hl)
theorem r_sld (C : XCtx κ ξ cc own nL ret) {a : Nat} {i : Int32} (hd : decode cc pc = .ok (.iaload, 1)) (ht : tg μ a = some (.inr 9)) (hin : vp_in i (ln μ a)) (k : XG κ ξ nL nc ns μ (pc + 1) L (.int (aI μ a i.toNatClampNeg) :: st)) : XG κ ξ nL nc ns μ pc L (.int i :: .ref a :: st) := by
  intro hn H locs ls hR hS hl
  obtain ⟨hX, hA, -⟩ := hR.2.2.1 a 9 (Nat.le_refl 9) ht
  exact va_sld C.1 C.2.1 hX (Array.getElem?_eq_some_iff.mp hX.choose_spec.1).1 hA (⟨Nat.le_refl _, fun _ _ _ => rfl, hS.2.2⟩ : va_S ξ.2.2 H H locs) hin hd (k hn H locs ls hR hS hl)

theorem updV_map {α : Type} (mk : α → Value) (f : Nat → α) (k : Nat) (x : α) : updV (fun j => mk (f j)) k (mk x) = fun j => mk (if j = k then x else f j) := by
  funext j
  by_cases h : j = k <;> simp [updV, h]

theorem r_iast (C : XCtx κ ξ cc own nL ret) {a : Nat} {i : Int32} {x : Int32} (hd : decode cc pc = .ok (.iastore, 1)) (ht : tg μ a = some (.inr 0)) (hin : vp_in i (ln μ a)) (k : XG κ ξ nL nc ns (wI μ a i.toNatClampNeg (x)) (pc + 1) L st) : XG κ ξ nL nc ns μ pc L (.int x :: .int i :: .ref a :: st) := by
  intro hn H locs ls hR hS hl
  have h0 : xc ξ.2.1 μ a = some (.inl (ξ.2.1 0, ln μ a, (.inl (aI μ a)))) := xrow_at ht rfl
  obtain ⟨hat, haA⟩ := hR.cell h0
  refine W.iast C.1 C.2.1 hat ((C.2.2.2.2.2.1.2 0 _ rfl).1 (ln μ a) (fun j => (fun z => Value.int z) (aI μ a j))) (fun q => by cases q) (by show ¬ (i < 0 ∨ (arrV _ _ _).slots.size ≤ _); rw [arrV_size]; exact hin) rfl rfl hd fun H1 e z oq => ?_
  refine k hn H1 _ ls (hR.write (e := .inl (ξ.2.1 0, ln μ a, (.inl (fun j => if j = i.toNatClampNeg then (x) else aI μ a j)))) h0 ?_ ?_ oq z (fun b hb => ?_) rfl rfl ⟨fun b k h9 hb => ⟨hb, rfl, ?_⟩, fun k hk => rfl, fun b hb => hb⟩) (xS_put hS z oq haA) hl
  · refine (xrow_at (show tg (wI μ a i.toNatClampNeg (x)) a = _ from ht) rfl).trans ?_
    rw [wI_row]
    rfl
  · show H1[a]? = some (vp_cell _ _)
    rw [e, vp_cell_i, vp_cell_i, arrV_store]
    exact congrArg (fun g => some (arrV _ _ g)) (updV_map (fun z => Value.int z) _ _ (x))
  · refine xc_same rfl rfl (fun _ => rfl) (fun _ => rfl) (fun _ => rfl) ?_ ?_ ?_ ?_ <;> (funext j; simp [aI, aL, aD, aR, wI, hb])
  · funext j; simp only [aI, wI]; rw [if_neg]; rintro ⟨rfl, -⟩; have h5 : tg μ b = some (.inr _) := hb; rw [ht] at h5; cases h5; omega
theorem r_zast (C : XCtx κ ξ cc own nL ret) {a : Nat} {i : Int32} {x : Int32} (hd : decode cc pc = .ok (.bastore, 1)) (ht : tg μ a = some (.inr 1)) (hin : vp_in i (ln μ a)) (k : XG κ ξ nL nc ns (wI μ a i.toNatClampNeg (vp_nar .boolean x)) (pc + 1) L st) : XG κ ξ nL nc ns μ pc L (.int x :: .int i :: .ref a :: st) := by
  intro hn H locs ls hR hS hl
  have h0 : xc ξ.2.1 μ a = some (.inl (ξ.2.1 1, ln μ a, (.inl (aI μ a)))) := xrow_at ht rfl
  obtain ⟨hat, haA⟩ := hR.cell h0
  refine W.zast C.1 C.2.1 hat ((C.2.2.2.2.2.1.2 1 _ rfl).1 (ln μ a) (fun j => (fun z => Value.int z) (aI μ a j))) (fun q => by cases q) (by show ¬ (i < 0 ∨ (arrV _ _ _).slots.size ≤ _); rw [arrV_size]; exact hin) rfl rfl hd fun H1 e z oq => ?_
  refine k hn H1 _ ls (hR.write (e := .inl (ξ.2.1 1, ln μ a, (.inl (fun j => if j = i.toNatClampNeg then (vp_nar .boolean x) else aI μ a j)))) h0 ?_ ?_ oq z (fun b hb => ?_) rfl rfl ⟨fun b k h9 hb => ⟨hb, rfl, ?_⟩, fun k hk => rfl, fun b hb => hb⟩) (xS_put hS z oq haA) hl
  · refine (xrow_at (show tg (wI μ a i.toNatClampNeg (vp_nar .boolean x)) a = _ from ht) rfl).trans ?_
    rw [wI_row]
    rfl
  · show H1[a]? = some (vp_cell _ _)
    rw [e, vp_cell_i, vp_cell_i, arrV_store]
    exact congrArg (fun g => some (arrV _ _ g)) (updV_map (fun z => Value.int z) _ _ (vp_nar .boolean x))
  · refine xc_same rfl rfl (fun _ => rfl) (fun _ => rfl) (fun _ => rfl) ?_ ?_ ?_ ?_ <;> (funext j; simp [aI, aL, aD, aR, wI, hb])
  · funext j; simp only [aI, wI]; rw [if_neg]; rintro ⟨rfl, -⟩; have h5 : tg μ b = some (.inr _) := hb; rw [ht] at h5; cases h5; omega
theorem r_bast (C : XCtx κ ξ cc own nL ret) {a : Nat} {i : Int32} {x : Int32} (hd : decode cc pc = .ok (.bastore, 1)) (ht : tg μ a = some (.inr 2)) (hin : vp_in i (ln μ a)) (k : XG κ ξ nL nc ns (wI μ a i.toNatClampNeg (vp_nar .byte x)) (pc + 1) L st) : XG κ ξ nL nc ns μ pc L (.int x :: .int i :: .ref a :: st) := by
  intro hn H locs ls hR hS hl
  have h0 : xc ξ.2.1 μ a = some (.inl (ξ.2.1 2, ln μ a, (.inl (aI μ a)))) := xrow_at ht rfl
  obtain ⟨hat, haA⟩ := hR.cell h0
  refine W.bast C.1 C.2.1 hat ((C.2.2.2.2.2.1.2 2 _ rfl).1 (ln μ a) (fun j => (fun z => Value.int z) (aI μ a j))) (fun q => by cases q) (by show ¬ (i < 0 ∨ (arrV _ _ _).slots.size ≤ _); rw [arrV_size]; exact hin) rfl rfl hd fun H1 e z oq => ?_
  refine k hn H1 _ ls (hR.write (e := .inl (ξ.2.1 2, ln μ a, (.inl (fun j => if j = i.toNatClampNeg then (vp_nar .byte x) else aI μ a j)))) h0 ?_ ?_ oq z (fun b hb => ?_) rfl rfl ⟨fun b k h9 hb => ⟨hb, rfl, ?_⟩, fun k hk => rfl, fun b hb => hb⟩) (xS_put hS z oq haA) hl
  · refine (xrow_at (show tg (wI μ a i.toNatClampNeg (vp_nar .byte x)) a = _ from ht) rfl).trans ?_
    rw [wI_row]
    rfl
  · show H1[a]? = some (vp_cell _ _)
    rw [e, vp_cell_i, vp_cell_i, arrV_store]
    exact congrArg (fun g => some (arrV _ _ g)) (updV_map (fun z => Value.int z) _ _ (vp_nar .byte x))
  · refine xc_same rfl rfl (fun _ => rfl) (fun _ => rfl) (fun _ => rfl) ?_ ?_ ?_ ?_ <;> (funext j; simp [aI, aL, aD, aR, wI, hb])
  · funext j; simp only [aI, wI]; rw [if_neg]; rintro ⟨rfl, -⟩; have h5 : tg μ b = some (.inr _) := hb; rw [ht] at h5; cases h5; omega
theorem r_last (C : XCtx κ ξ cc own nL ret) {a : Nat} {i : Int32} {x : Int64} (hd : decode cc pc = .ok (.lastore, 1)) (ht : tg μ a = some (.inr 3)) (hin : vp_in i (ln μ a)) (k : XG κ ξ nL nc ns (wL μ a i.toNatClampNeg (x)) (pc + 1) L st) : XG κ ξ nL nc ns μ pc L (.long x :: .int i :: .ref a :: st) := by
  intro hn H locs ls hR hS hl
  have h0 : xc ξ.2.1 μ a = some (.inl (ξ.2.1 3, ln μ a, (.inr (.inl (aL μ a))))) := xrow_at ht rfl
  obtain ⟨hat, haA⟩ := hR.cell h0
  refine W.last C.1 C.2.1 hat ((C.2.2.2.2.2.1.2 3 _ rfl).1 (ln μ a) (fun j => (fun z => Value.long z) (aL μ a j))) (fun q => by cases q) (by show ¬ (i < 0 ∨ (arrV _ _ _).slots.size ≤ _); rw [arrV_size]; exact hin) rfl rfl hd fun H1 e z oq => ?_
  refine k hn H1 _ ls (hR.write (e := .inl (ξ.2.1 3, ln μ a, (.inr (.inl (fun j => if j = i.toNatClampNeg then (x) else aL μ a j))))) h0 ?_ ?_ oq z (fun b hb => ?_) rfl rfl ⟨fun b k h9 hb => ⟨hb, rfl, ?_⟩, fun k hk => rfl, fun b hb => hb⟩) (xS_put hS z oq haA) hl
  · refine (xrow_at (show tg (wL μ a i.toNatClampNeg (x)) a = _ from ht) rfl).trans ?_
    rw [wL_row]
    rfl
  · show H1[a]? = some (vp_cell _ _)
    rw [e, vp_cell_l, vp_cell_l, arrV_store]
    exact congrArg (fun g => some (arrV _ _ g)) (updV_map (fun z => Value.long z) _ _ (x))
  · refine xc_same rfl rfl (fun _ => rfl) (fun _ => rfl) (fun _ => rfl) ?_ ?_ ?_ ?_ <;> (funext j; simp [aI, aL, aD, aR, wL, hb])
  · rfl
theorem r_dast (C : XCtx κ ξ cc own nL ret) {a : Nat} {i : Int32} {x : UInt64} (hd : decode cc pc = .ok (.dastore, 1)) (ht : tg μ a = some (.inr 4)) (hin : vp_in i (ln μ a)) (k : XG κ ξ nL nc ns (wD μ a i.toNatClampNeg (x)) (pc + 1) L st) : XG κ ξ nL nc ns μ pc L (.double x :: .int i :: .ref a :: st) := by
  intro hn H locs ls hR hS hl
  have h0 : xc ξ.2.1 μ a = some (.inl (ξ.2.1 4, ln μ a, (.inr (.inr (.inr (.inl (aD μ a))))))) := xrow_at ht rfl
  obtain ⟨hat, haA⟩ := hR.cell h0
  refine W.dast C.1 C.2.1 hat ((C.2.2.2.2.2.1.2 4 _ rfl).1 (ln μ a) (fun j => (fun z => Value.double z) (aD μ a j))) (fun q => by cases q) (by show ¬ (i < 0 ∨ (arrV _ _ _).slots.size ≤ _); rw [arrV_size]; exact hin) rfl rfl hd fun H1 e z oq => ?_
  refine k hn H1 _ ls (hR.write (e := .inl (ξ.2.1 4, ln μ a, (.inr (.inr (.inr (.inl (fun j => if j = i.toNatClampNeg then (x) else aD μ a j))))))) h0 ?_ ?_ oq z (fun b hb => ?_) rfl rfl ⟨fun b k h9 hb => ⟨hb, rfl, ?_⟩, fun k hk => rfl, fun b hb => hb⟩) (xS_put hS z oq haA) hl
  · refine (xrow_at (show tg (wD μ a i.toNatClampNeg (x)) a = _ from ht) rfl).trans ?_
    rw [wD_row]
    rfl
  · show H1[a]? = some (vp_cell _ _)
    rw [e, vp_cell_d, vp_cell_d, arrV_store]
    exact congrArg (fun g => some (arrV _ _ g)) (updV_map (fun z => Value.double z) _ _ (x))
  · refine xc_same rfl rfl (fun _ => rfl) (fun _ => rfl) (fun _ => rfl) ?_ ?_ ?_ ?_ <;> (funext j; simp [aI, aL, aD, aR, wD, hb])
  · rfl
theorem r_astW (C : XCtx κ ξ cc own nL ret) {a v : Nat} {i : Int32} (hd : decode cc pc = .ok (.aastore, 1)) (ht : tg μ a = some (.inr 5)) (hv : tg μ v = some (.inl 7)) (hin : vp_in i (ln μ a)) (k : XG κ ξ nL nc ns (wR μ a i.toNatClampNeg (some v)) (pc + 1) L st) : XG κ ξ nL nc ns μ pc L (.ref v :: .int i :: .ref a :: st) := by
  intro hn H locs ls hR hS hl
  have h0 : xc ξ.2.1 μ a = some (.inl (ξ.2.1 5, ln μ a, .inr (.inr (.inr (.inr (aR μ a)))))) := xrow_at ht rfl
  obtain ⟨hat, haA⟩ := hR.cell h0
  obtain ⟨⟨r', hr', cellV, g1, g2, g3, -⟩, -⟩ := hR.cell (xc_obj hv (by decide))
  have hK := C.2.2.2.2.2.1
  have hlt : i.toNatClampNeg < ln μ a := Nat.not_le.mp fun q => hin (Or.inr q)
  have h00 : ¬ i < 0 := fun q => hin (Or.inl q)
  have hcls := (hK.1 7 _ (xcl_at (by decide))).2
  obtain ⟨kA, comp, k1, k2, k3, -⟩ := (hK.2 5 _ rfl).2
  have hcomp : comp = ξ.1.1 7 := Option.some.inj (k3.symm.trans hcls.1)
  subst hcomp
  obtain ⟨kC, hkC, -⟩ := hcls.2
  refine W.aast C.1 C.2.1 hat (fun q h => by cases h) (fun h => by cases h) k1 k2 rfl hkC ⟨h00, by show _ < (arrV _ _ _).slots.size; rw [arrV_size]; exact hlt⟩ g1 (fun q h => by rw [g3] at h; cases h) (by rw [g2]; exact hkC) (by rw [g2]; exact va_assign hcls) rfl rfl hd fun H1 e z oq => ?_
  refine k hn H1 _ ls (hR.write (e := .inl (ξ.2.1 5, ln μ a, .inr (.inr (.inr (.inr (fun j => if j = i.toNatClampNeg then some v else aR μ a j)))))) h0 ?_ ?_ oq z (fun b hb => ?_) rfl rfl ⟨fun b k h9 hb => ⟨hb, rfl, rfl⟩, fun k hk => rfl, fun b hb => hb⟩) (xS_put hS z oq haA) hl
  · refine (xrow_at (show tg (wR μ a i.toNatClampNeg (some v)) a = _ from ht) rfl).trans ?_
    rw [wR_row]
    rfl
  · show H1[a]? = some (vp_cell _ _)
    rw [e, vp_cell_q, vp_cell_q, arrV_store]
    exact congrArg (fun g => some (arrV _ _ g)) (updV_map va_rf _ _ (some v))
  · refine xc_same rfl rfl (fun _ => rfl) (fun _ => rfl) (fun _ => rfl) rfl rfl rfl ?_
    funext j
    simp [aR, wR, hb]
theorem r_astP (C : XCtx κ ξ cc own nL ret) {a v : Nat} {i : Int32} (hd : decode cc pc = .ok (.aastore, 1)) (ht : tg μ a = some (.inr 6)) (hv : tg μ v = some (.inl 3)) (hin : vp_in i (ln μ a)) (k : XG κ ξ nL nc ns (wR μ a i.toNatClampNeg (some v)) (pc + 1) L st) : XG κ ξ nL nc ns μ pc L (.ref v :: .int i :: .ref a :: st) := by
  intro hn H locs ls hR hS hl
  have h0 : xc ξ.2.1 μ a = some (.inl (ξ.2.1 6, ln μ a, .inr (.inr (.inr (.inr (aR μ a)))))) := xrow_at ht rfl
  obtain ⟨hat, haA⟩ := hR.cell h0
  obtain ⟨⟨r', hr', cellV, g1, g2, g3, -⟩, -⟩ := hR.cell (xc_obj hv (by decide))
  have hK := C.2.2.2.2.2.1
  have hlt : i.toNatClampNeg < ln μ a := Nat.not_le.mp fun q => hin (Or.inr q)
  have h00 : ¬ i < 0 := fun q => hin (Or.inl q)
  have hcls := (hK.1 3 _ (xcl_at (by decide))).2
  obtain ⟨kA, comp, k1, k2, k3, -⟩ := (hK.2 6 _ rfl).2
  have hcomp : comp = ξ.1.1 3 := Option.some.inj (k3.symm.trans hcls.1)
  subst hcomp
  obtain ⟨kC, hkC, -⟩ := hcls.2
  refine W.aast C.1 C.2.1 hat (fun q h => by cases h) (fun h => by cases h) k1 k2 rfl hkC ⟨h00, by show _ < (arrV _ _ _).slots.size; rw [arrV_size]; exact hlt⟩ g1 (fun q h => by rw [g3] at h; cases h) (by rw [g2]; exact hkC) (by rw [g2]; exact va_assign hcls) rfl rfl hd fun H1 e z oq => ?_
  refine k hn H1 _ ls (hR.write (e := .inl (ξ.2.1 6, ln μ a, .inr (.inr (.inr (.inr (fun j => if j = i.toNatClampNeg then some v else aR μ a j)))))) h0 ?_ ?_ oq z (fun b hb => ?_) rfl rfl ⟨fun b k h9 hb => ⟨hb, rfl, rfl⟩, fun k hk => rfl, fun b hb => hb⟩) (xS_put hS z oq haA) hl
  · refine (xrow_at (show tg (wR μ a i.toNatClampNeg (some v)) a = _ from ht) rfl).trans ?_
    rw [wR_row]
    rfl
  · show H1[a]? = some (vp_cell _ _)
    rw [e, vp_cell_q, vp_cell_q, arrV_store]
    exact congrArg (fun g => some (arrV _ _ g)) (updV_map va_rf _ _ (some v))
  · refine xc_same rfl rfl (fun _ => rfl) (fun _ => rfl) (fun _ => rfl) rfl rfl rfl ?_
    funext j
    simp [aR, wR, hb]
end XROWS6
