/-! ===== what is made; what returns; what is called; what is thrown ===== -/
theorem xR.moved {ξ : XE} {μ : XM} {u U : State} {H : Heap} (hvm : u.vm.Alike U.vm) (h : xR ξ μ u H) : xR ξ μ U H := ⟨h.1, h.2.1, h.2.2.moved hvm⟩
theorem xTail.same {ξ : XE} {μ : XM} {s : State} {U : State} {H H1 : Heap} {locs locs1 : List Loc} (h : xTail ξ μ U H) (hS : va_S ξ.2.2 s.heap H locs) (hS1 : va_S ξ.2.2 s.heap H1 locs1) (hA : ∀ q, s.heap.size ≤ q → ξ.2.2 q) : xTail ξ μ U H1 := by
  refine ⟨fun a k h9 hb => ?_, h.2⟩
  obtain ⟨x1, x2, x3⟩ := h.1 a k h9 hb
  have hlt : ∀ q : Nat, ¬ ξ.2.2 q → q < s.heap.size := fun q hq => Nat.lt_of_not_le (fun z => hq (hA q z))
  exact ⟨x1.kept x3 x2 (fun q _ hqA => (hS1.2.1 q (hlt q hqA) hqA).trans (hS.2.1 q (hlt q hqA) hqA).symm), x2, Nat.lt_of_lt_of_le (hlt a x2) hS1.1⟩
theorem xR.noCell {ξ : XE} {μ : XM} {U : State} {H : Heap} (hR : xR ξ μ U H) {a : Nat} (ha : H.size ≤ a) : xc ξ.2.1 μ a = none := by
  cases h : xc ξ.2.1 μ a with
  | none => rfl
  | some e => exact absurd (hR.cell h).1.lt (Nat.not_lt.mpr ha)
theorem xR.push {ξ : XE} {μ μ' : XM} {U : State} {H H' : Heap} {e : va_E} (hR : xR ξ μ U H) (hf : fr μ = true) (he : xc ξ.2.1 μ' (tp μ) = some e) (hat : va_at ξ.1 xcl (tp μ, e) H') (oq : ∀ q : Nat, q < H.size → H'[q]? = H[q]?) (hz : H'.size = H.size + 1)
    (ho : ∀ b, b ≠ tp μ → xc ξ.2.1 μ' b = xc ξ.2.1 μ b) (htp : tp μ' = tp μ + 1) (hA : ξ.2.2 (tp μ)) (h9 : tp μ ≠ 0 → xKeep μ μ') : xR ξ μ' U H' := by
  have hsz := hR.2.1 hf
  have hno : xc ξ.2.1 μ (tp μ) = none := hR.noCell (a := tp μ) (by omega)
  obtain ⟨⟨ws, hP, hD, hW⟩, -, hX⟩ := hR
  have hP' : va_P ξ.1 xcl ws H' := hP.kept (fun k q hk => oq q.1 (hP k q hk).lt)
  have h0 : tp μ ≠ 0 := by
    have h13 := (hX.2 (13, RX8, 322, "enws") (by decide)).2
    have := (hX.1 _ 10 (by decide) h13).2.2
    omega
  refine ⟨⟨ws ++ [(tp μ, e)], hP'.app (fun k q hk => ?_), hD.push hP hsz.symm hA, hW.push hno he ho⟩, fun _ => by omega, hX.step (h9 h0) (by omega) (fun q hq _ => oq q hq)⟩
  have hk1 : k < 1 := (List.getElem?_eq_some_iff.mp hk).1
  rw [show k = 0 by omega] at hk
  cases hk
  exact hat
theorem xS_new {A : Nat → Prop} {H0 H H1 : Heap} {locs : List Loc} (h : va_S A H0 H locs) (hz : H1.size = H.size + 1) (oq : ∀ q : Nat, q < H.size → H1[q]? = H[q]?) : va_S A H0 H1 locs :=
  ⟨by rw [hz]; exact Nat.le_succ_of_le h.1, fun q g1 g2 => (oq q (Nat.lt_of_lt_of_le g1 h.1)).trans (h.2.1 q g1 g2), h.2.2⟩
theorem xbytes {N c : Nat} (hb : N ≤ 1000000) (hc : c ≤ 8) : N * c ≤ 536870912 := Nat.le_trans (Nat.mul_le_mul hb hc) (Nat.le_of_ble_eq_true rfl)
def xokTy (ty : FieldType) : Bool := match ty with
  | .int => true | .boolean => true | .long => true | .object _ => true | .array _ => true
  | _ => false
theorem xok_all : ∀ ci, ci < 10 → ∀ k, k < xN ci → xokTy (xtyf ci k) = true := by decide +kernel
theorem xv_new {μ : XM} {ci k : Nat} {ty : FieldType} (h : xokTy ty = true) : defaultValue ty = xv (nO μ ci) (tp μ) k ty := by
  cases ty <;> first | (exfalso; revert h; decide) | simp [xv, gI, gL, gR, nO, defaultValue, va_rf]
theorem XCtx.z {κ : XK} {ξ : XE} {cc : ByteArray} {own : String} {nL : Nat} {ret : Option FieldType} (C : XCtx κ ξ cc own nL ret) : xZ ξ κ.s κ.s.heap := C.2.2.2.2.2.2.2.2.2
section XROWS7
variable {κ : XK} {ξ : XE} {cc : ByteArray} {own : String} {nL : Nat} {ret : Option FieldType} {nc ns : Nat} {μ : XM} {pc : Nat} {L : List (Option Value)} {st : List Value}
theorem r_new (C : XCtx κ ξ cc own nL ret) {ci idx : Nat} (hd : decode cc pc = .ok (.new idx, 3)) (hc : ci < 10) (hw1 : Cond.classLink own idx (xC ci) ∈ TW) (hw2 : Cond.instantiable (xC ci) (xN ci) ∈ TW) (hw3 : Cond.initialized (xC ci) ∈ TW) (hfr : fr μ = true) (h1 : nc + 1 ≤ κ.R.cells) (h2 : ns + xN ci ≤ κ.R.slots)
    (k : XG κ ξ nL (nc + 1) (ns + xN ci) (nO μ ci) (pc + 3) L (.ref (tp μ) :: st)) : XG κ ξ nL nc ns μ pc L st := by
  intro hn H locs ls hR hS hl
  have hts := C.2.2.2.2.1
  have hsz := hR.2.1 hfr
  have hKn := C.2.2.2.2.2.1.1 ci _ (xcl_at hc)
  have hA := C.2.2.2.2.2.2.1
  refine W.newcK C.1 C.2.1 C.2.2.2.1 (hts _ hw1) (hts _ hw2) (hts _ hw3) rfl hd h1 h2 hKn.2.1 hsz fun H1 kC hkC e1 z1 o1 => ?_
  rw [← hsz] at z1 o1
  refine k hn H1 locs ls (hR.push (e := .inr (ci, xfs (nO μ ci) ci (tp μ))) hfr (xc_obj (by simp [tg, nO]) hc) ⟨_, xcl_at hc, ?_⟩ o1 z1 (fun b hb => ?_) rfl (hA _ (by rw [← hsz]; exact hS.1)) (fun h0 => ⟨fun b k9 h9 hb => ?_, fun k hk => ?_, fun b hb => ?_⟩)) (xS_new hS z1 o1) hl
  · exact (u_born (xtyf ci) hts (xws_in hc) hKn hkC e1 (xty_ok hc)).to (fun j hj => by
      show defaultValue (xtyf ci j) = vp_V (xfs (nO μ ci) ci (tp μ)) j
      rw [xv_new (μ := μ) (ci := ci) (k := 32 * ci + j) (xok_all ci hc j hj)]
      simp [vp_V, List.getD, xfs_at hj])
  · exact xc_same (by simp [tg, nO, hb]) rfl (fun k => by simp [gI, nO, hb]) (fun k => by simp [gL, nO, hb]) (fun k => by simp [gR, nO, hb]) rfl rfl rfl rfl
  · have hb' : (if b = tp μ then some (.inl ci) else tg μ b) = some (.inr k9) := hb
    by_cases h : b = tp μ
    · rw [if_pos h] at hb'; cases hb'
    · rw [if_neg h] at hb'
      exact ⟨hb', rfl, rfl⟩
  · show (if 0 = tp μ then none else gR μ k 0) = _
    rw [if_neg (fun z => h0 z.symm)]
  · show (if b = tp μ then _ else tg μ b) = _
    rw [if_neg ?_]
    · exact hb
    · rintro rfl
      have := (hR.2.2.1 _ 10 (by decide) hb).2.2
      omega
theorem r_newa0 (C : XCtx κ ξ cc own nL ret) {n : Int32} {N : Nat} (hd : decode cc pc = .ok (.newarray .int, 2)) (hw : Cond.arrayClass .int ∈ TW) (hfr : fr μ = true) (hn0 : ¬ n < 0) (hN : n.toNatClampNeg = N) (hb : N ≤ 1000000) (h1 : nc + 1 ≤ κ.R.cells) (h2 : ns + N ≤ κ.R.slots)
    (k : XG κ ξ nL (nc + 1) (ns + N) (nA μ 0 N) (pc + 2) L (.ref (tp μ) :: st)) : XG κ ξ nL nc ns μ pc L (.int n :: st) := by
  intro hn H locs ls hR hS hl
  have hts := C.2.2.2.2.1
  have hsz := hR.2.1 hfr
  have hA := C.2.2.2.2.2.2.1
  refine va_newaK (atype := .int) C.1 C.2.1 (hts _ hw) rfl hd rfl hn0 hN (xbytes hb (by decide)) h1 h2 hsz fun H1 cA e1 z1 o1 hAr hNm => ?_
  rw [← hsz] at z1 o1
  have hcA : cA = ξ.2.1 0 := Option.some.inj (hNm.symm.trans (C.2.2.2.2.2.1.2 0 _ rfl).2)
  subst hcA
  refine k hn H1 locs ls (hR.push (e := .inl (ξ.2.1 0, N, .inl (aI (nA μ 0 N) (tp μ)))) hfr ?_ ?_ o1 z1 (fun b hb => ?_) rfl (hA _ (by rw [← hsz]; exact hS.1)) (fun h0 => ⟨fun b k9 h9 hb => ?_, fun k hk => ?_, fun b hb => ?_⟩)) (xS_new hS z1 o1) hl
  · refine (xrow_at (show tg (nA μ 0 N) (tp μ) = some (.inr 0) by simp [tg, nA]) rfl).trans ?_
    simp [ln, nA]
  · show H1[tp μ]? = some (vp_cell _ _)
    rw [e1]
    exact congrArg (fun g => some (arrV (ξ.2.1 0) N g)) (funext fun j => show Value.int 0 = Value.int (aI (nA μ 0 N) (tp μ) j) by simp [aI, nA])
  · exact xc_same (by simp [tg, nA, hb]) (by simp [ln, nA, hb]) (fun k => rfl) (fun k => rfl) (fun k => rfl) (by funext j; simp [aI, nA, hb]) (by funext j; simp [aL, nA, hb]) (by funext j; simp [aD, nA, hb]) (by funext j; simp [aR, nA, hb])
  · have hb' : (if b = tp μ then some (.inr 0) else tg μ b) = some (.inr k9) := hb
    by_cases h : b = tp μ
    · rw [if_pos h] at hb'; cases hb'; omega
    · rw [if_neg h] at hb'
      exact ⟨hb', by simp [ln, nA, h], by funext j; simp [aI, nA, h]⟩
  · rfl
  · show (if b = tp μ then _ else tg μ b) = _
    rw [if_neg ?_]
    · exact hb
    · rintro rfl
      have := (hR.2.2.1 _ 10 (by decide) hb).2.2
      omega
theorem r_newa1 (C : XCtx κ ξ cc own nL ret) {n : Int32} {N : Nat} (hd : decode cc pc = .ok (.newarray .boolean, 2)) (hw : Cond.arrayClass .boolean ∈ TW) (hfr : fr μ = true) (hn0 : ¬ n < 0) (hN : n.toNatClampNeg = N) (hb : N ≤ 1000000) (h1 : nc + 1 ≤ κ.R.cells) (h2 : ns + N ≤ κ.R.slots)
    (k : XG κ ξ nL (nc + 1) (ns + N) (nA μ 1 N) (pc + 2) L (.ref (tp μ) :: st)) : XG κ ξ nL nc ns μ pc L (.int n :: st) := by
  intro hn H locs ls hR hS hl
  have hts := C.2.2.2.2.1
  have hsz := hR.2.1 hfr
  have hA := C.2.2.2.2.2.2.1
  refine va_newaK (atype := .boolean) C.1 C.2.1 (hts _ hw) rfl hd rfl hn0 hN (xbytes hb (by decide)) h1 h2 hsz fun H1 cA e1 z1 o1 hAr hNm => ?_
  rw [← hsz] at z1 o1
  have hcA : cA = ξ.2.1 1 := Option.some.inj (hNm.symm.trans (C.2.2.2.2.2.1.2 1 _ rfl).2)
  subst hcA
  refine k hn H1 locs ls (hR.push (e := .inl (ξ.2.1 1, N, .inl (aI (nA μ 1 N) (tp μ)))) hfr ?_ ?_ o1 z1 (fun b hb => ?_) rfl (hA _ (by rw [← hsz]; exact hS.1)) (fun h0 => ⟨fun b k9 h9 hb => ?_, fun k hk => ?_, fun b hb => ?_⟩)) (xS_new hS z1 o1) hl
  · refine (xrow_at (show tg (nA μ 1 N) (tp μ) = some (.inr 1) by simp [tg, nA]) rfl).trans ?_
    simp [ln, nA]
  · show H1[tp μ]? = some (vp_cell _ _)
    rw [e1]
    exact congrArg (fun g => some (arrV (ξ.2.1 1) N g)) (funext fun j => show Value.int 0 = Value.int (aI (nA μ 1 N) (tp μ) j) by simp [aI, nA])
  · exact xc_same (by simp [tg, nA, hb]) (by simp [ln, nA, hb]) (fun k => rfl) (fun k => rfl) (fun k => rfl) (by funext j; simp [aI, nA, hb]) (by funext j; simp [aL, nA, hb]) (by funext j; simp [aD, nA, hb]) (by funext j; simp [aR, nA, hb])
  · have hb' : (if b = tp μ then some (.inr 1) else tg μ b) = some (.inr k9) := hb
    by_cases h : b = tp μ
    · rw [if_pos h] at hb'; cases hb'; omega
    · rw [if_neg h] at hb'
      exact ⟨hb', by simp [ln, nA, h], by funext j; simp [aI, nA, h]⟩
  · rfl
  · show (if b = tp μ then _ else tg μ b) = _
    rw [if_neg ?_]
    · exact hb
    · rintro rfl
      have := (hR.2.2.1 _ 10 (by decide) hb).2.2
      omega
theorem r_newa2 (C : XCtx κ ξ cc own nL ret) {n : Int32} {N : Nat} (hd : decode cc pc = .ok (.newarray .byte, 2)) (hw : Cond.arrayClass .byte ∈ TW) (hfr : fr μ = true) (hn0 : ¬ n < 0) (hN : n.toNatClampNeg = N) (hb : N ≤ 1000000) (h1 : nc + 1 ≤ κ.R.cells) (h2 : ns + N ≤ κ.R.slots)
    (k : XG κ ξ nL (nc + 1) (ns + N) (nA μ 2 N) (pc + 2) L (.ref (tp μ) :: st)) : XG κ ξ nL nc ns μ pc L (.int n :: st) := by
  intro hn H locs ls hR hS hl
  have hts := C.2.2.2.2.1
  have hsz := hR.2.1 hfr
  have hA := C.2.2.2.2.2.2.1
  refine va_newaK (atype := .byte) C.1 C.2.1 (hts _ hw) rfl hd rfl hn0 hN (xbytes hb (by decide)) h1 h2 hsz fun H1 cA e1 z1 o1 hAr hNm => ?_
  rw [← hsz] at z1 o1
  have hcA : cA = ξ.2.1 2 := Option.some.inj (hNm.symm.trans (C.2.2.2.2.2.1.2 2 _ rfl).2)
  subst hcA
  refine k hn H1 locs ls (hR.push (e := .inl (ξ.2.1 2, N, .inl (aI (nA μ 2 N) (tp μ)))) hfr ?_ ?_ o1 z1 (fun b hb => ?_) rfl (hA _ (by rw [← hsz]; exact hS.1)) (fun h0 => ⟨fun b k9 h9 hb => ?_, fun k hk => ?_, fun b hb => ?_⟩)) (xS_new hS z1 o1) hl
  · refine (xrow_at (show tg (nA μ 2 N) (tp μ) = some (.inr 2) by simp [tg, nA]) rfl).trans ?_
    simp [ln, nA]
  · show H1[tp μ]? = some (vp_cell _ _)
    rw [e1]
    exact congrArg (fun g => some (arrV (ξ.2.1 2) N g)) (funext fun j => show Value.int 0 = Value.int (aI (nA μ 2 N) (tp μ) j) by simp [aI, nA])
  · exact xc_same (by simp [tg, nA, hb]) (by simp [ln, nA, hb]) (fun k => rfl) (fun k => rfl) (fun k => rfl) (by funext j; simp [aI, nA, hb]) (by funext j; simp [aL, nA, hb]) (by funext j; simp [aD, nA, hb]) (by funext j; simp [aR, nA, hb])
  · have hb' : (if b = tp μ then some (.inr 2) else tg μ b) = some (.inr k9) := hb
    by_cases h : b = tp μ
    · rw [if_pos h] at hb'; cases hb'; omega
    · rw [if_neg h] at hb'
      exact ⟨hb', by simp [ln, nA, h], by funext j; simp [aI, nA, h]⟩
  · rfl
  · show (if b = tp μ then _ else tg μ b) = _
    rw [if_neg ?_]
    · exact hb
    · rintro rfl
      have := (hR.2.2.1 _ 10 (by decide) hb).2.2
      omega
theorem r_newa3 (C : XCtx κ ξ cc own nL ret) {n : Int32} {N : Nat} (hd : decode cc pc = .ok (.newarray .long, 2)) (hw : Cond.arrayClass .long ∈ TW) (hfr : fr μ = true) (hn0 : ¬ n < 0) (hN : n.toNatClampNeg = N) (hb : N ≤ 1000000) (h1 : nc + 1 ≤ κ.R.cells) (h2 : ns + N ≤ κ.R.slots)
    (k : XG κ ξ nL (nc + 1) (ns + N) (nA μ 3 N) (pc + 2) L (.ref (tp μ) :: st)) : XG κ ξ nL nc ns μ pc L (.int n :: st) := by
  intro hn H locs ls hR hS hl
  have hts := C.2.2.2.2.1
  have hsz := hR.2.1 hfr
  have hA := C.2.2.2.2.2.2.1
  refine va_newaK (atype := .long) C.1 C.2.1 (hts _ hw) rfl hd rfl hn0 hN (xbytes hb (by decide)) h1 h2 hsz fun H1 cA e1 z1 o1 hAr hNm => ?_
  rw [← hsz] at z1 o1
  have hcA : cA = ξ.2.1 3 := Option.some.inj (hNm.symm.trans (C.2.2.2.2.2.1.2 3 _ rfl).2)
  subst hcA
  refine k hn H1 locs ls (hR.push (e := .inl (ξ.2.1 3, N, .inr (.inl (aL (nA μ 3 N) (tp μ))))) hfr ?_ ?_ o1 z1 (fun b hb => ?_) rfl (hA _ (by rw [← hsz]; exact hS.1)) (fun h0 => ⟨fun b k9 h9 hb => ?_, fun k hk => ?_, fun b hb => ?_⟩)) (xS_new hS z1 o1) hl
  · refine (xrow_at (show tg (nA μ 3 N) (tp μ) = some (.inr 3) by simp [tg, nA]) rfl).trans ?_
    simp [ln, nA]
  · show H1[tp μ]? = some (vp_cell _ _)
    rw [e1]
    exact congrArg (fun g => some (arrV (ξ.2.1 3) N g)) (funext fun j => show Value.long 0 = Value.long (aL (nA μ 3 N) (tp μ) j) by simp [aL, nA])
  · exact xc_same (by simp [tg, nA, hb]) (by simp [ln, nA, hb]) (fun k => rfl) (fun k => rfl) (fun k => rfl) (by funext j; simp [aI, nA, hb]) (by funext j; simp [aL, nA, hb]) (by funext j; simp [aD, nA, hb]) (by funext j; simp [aR, nA, hb])
  · have hb' : (if b = tp μ then some (.inr 3) else tg μ b) = some (.inr k9) := hb
    by_cases h : b = tp μ
    · rw [if_pos h] at hb'; cases hb'; omega
    · rw [if_neg h] at hb'
      exact ⟨hb', by simp [ln, nA, h], by funext j; simp [aI, nA, h]⟩
  · rfl
  · show (if b = tp μ then _ else tg μ b) = _
    rw [if_neg ?_]
    · exact hb
    · rintro rfl
      have := (hR.2.2.1 _ 10 (by decide) hb).2.2
      omega
theorem r_newa4 (C : XCtx κ ξ cc own nL ret) {n : Int32} {N : Nat} (hd : decode cc pc = .ok (.newarray .double, 2)) (hw : Cond.arrayClass .double ∈ TW) (hfr : fr μ = true) (hn0 : ¬ n < 0) (hN : n.toNatClampNeg = N) (hb : N ≤ 1000000) (h1 : nc + 1 ≤ κ.R.cells) (h2 : ns + N ≤ κ.R.slots)
    (k : XG κ ξ nL (nc + 1) (ns + N) (nA μ 4 N) (pc + 2) L (.ref (tp μ) :: st)) : XG κ ξ nL nc ns μ pc L (.int n :: st) := by
  intro hn H locs ls hR hS hl
  have hts := C.2.2.2.2.1
  have hsz := hR.2.1 hfr
  have hA := C.2.2.2.2.2.2.1
  refine va_newaK (atype := .double) C.1 C.2.1 (hts _ hw) rfl hd rfl hn0 hN (xbytes hb (by decide)) h1 h2 hsz fun H1 cA e1 z1 o1 hAr hNm => ?_
  rw [← hsz] at z1 o1
  have hcA : cA = ξ.2.1 4 := Option.some.inj (hNm.symm.trans (C.2.2.2.2.2.1.2 4 _ rfl).2)
  subst hcA
  refine k hn H1 locs ls (hR.push (e := .inl (ξ.2.1 4, N, .inr (.inr (.inr (.inl (aD (nA μ 4 N) (tp μ))))))) hfr ?_ ?_ o1 z1 (fun b hb => ?_) rfl (hA _ (by rw [← hsz]; exact hS.1)) (fun h0 => ⟨fun b k9 h9 hb => ?_, fun k hk => ?_, fun b hb => ?_⟩)) (xS_new hS z1 o1) hl
  · refine (xrow_at (show tg (nA μ 4 N) (tp μ) = some (.inr 4) by simp [tg, nA]) rfl).trans ?_
    simp [ln, nA]
  · show H1[tp μ]? = some (vp_cell _ _)
    rw [e1]
    exact congrArg (fun g => some (arrV (ξ.2.1 4) N g)) (funext fun j => show Value.double 0 = Value.double (aD (nA μ 4 N) (tp μ) j) by simp [aD, nA])
  · exact xc_same (by simp [tg, nA, hb]) (by simp [ln, nA, hb]) (fun k => rfl) (fun k => rfl) (fun k => rfl) (by funext j; simp [aI, nA, hb]) (by funext j; simp [aL, nA, hb]) (by funext j; simp [aD, nA, hb]) (by funext j; simp [aR, nA, hb])
  · have hb' : (if b = tp μ then some (.inr 4) else tg μ b) = some (.inr k9) := hb
    by_cases h : b = tp μ
    · rw [if_pos h] at hb'; cases hb'; omega
    · rw [if_neg h] at hb'
      exact ⟨hb', by simp [ln, nA, h], by funext j; simp [aI, nA, h]⟩
  · rfl
  · show (if b = tp μ then _ else tg μ b) = _
    rw [if_neg ?_]
    · exact hb
    · rintro rfl
      have := (hR.2.2.1 _ 10 (by decide) hb).2.2
      omega
theorem r_anew5 (C : XCtx κ ξ cc own nL ret) {n : Int32} {N idx : Nat} (hd : decode cc pc = .ok (.anewarray idx, 3)) (hw : Cond.classLink own idx RX7 ∈ TW) (hfr : fr μ = true) (hn0 : ¬ n < 0) (hN : n.toNatClampNeg = N) (hb : N ≤ 1000000) (h1 : nc + 1 ≤ κ.R.cells) (h2 : ns + N ≤ κ.R.slots)
    (k : XG κ ξ nL (nc + 1) (ns + N) (nA μ 5 N) (pc + 3) L (.ref (tp μ) :: st)) : XG κ ξ nL nc ns μ pc L (.int n :: st) := by
  subst hN
  intro hn H locs ls hR hS hl
  have hts := C.2.2.2.2.1
  have hsz := hR.2.1 hfr
  have hA := C.2.2.2.2.2.2.1
  refine W.anew C.1 C.2.1 C.2.2.2.1 (hts _ hw) (va_AO.use C.z.2.2.2.2.1) rfl hd rfl hn0 (Nat.le_trans (Nat.mul_le_mul_right 4 hb) (Nat.le_of_ble_eq_true rfl)) h1 h2 fun cA kA comp f1 f2 f3 f4 => ?_
  have hcA : cA = ξ.2.1 5 := by
    obtain ⟨kA2, comp2, -, -, -, g4⟩ := (C.2.2.2.2.2.1.2 5 _ rfl).2
    exact Option.some.inj (f1.symm.trans g4)
  subst hcA
  rw [hsz]
  refine k hn _ locs ls (hR.push (e := .inl (ξ.2.1 5, n.toNatClampNeg, .inr (.inr (.inr (.inr (aR (nA μ 5 n.toNatClampNeg) (tp μ))))))) hfr ?_ ?_ (fun q hq => by rw [Array.getElem?_push, if_neg (Nat.ne_of_lt hq)]) (by simp) (fun b hb => ?_) rfl (hA _ (by rw [← hsz]; exact hS.1)) (fun h0 => ⟨fun b k9 h9 hb => ?_, fun k hk => ?_, fun b hb => ?_⟩)) (xS_new hS (by simp) (fun q hq => by rw [Array.getElem?_push, if_neg (Nat.ne_of_lt hq)])) hl
  · refine (xrow_at (show tg (nA μ 5 n.toNatClampNeg) (tp μ) = some (.inr 5) by simp [tg, nA]) rfl).trans ?_
    simp [ln, nA]
  · show (H.push _)[tp μ]? = some (vp_cell _ _)
    rw [← hsz, Array.getElem?_push, if_pos rfl, arrV_new, hsz]
    exact congrArg (fun g => some (arrV (ξ.2.1 5) n.toNatClampNeg g)) (funext fun j => show Value.null = va_rf (aR (nA μ 5 n.toNatClampNeg) (tp μ) j) by simp [aR, nA, va_rf])
  · exact xc_same (by simp [tg, nA, hb]) (by simp [ln, nA, hb]) (fun k => rfl) (fun k => rfl) (fun k => rfl) (by funext j; simp [aI, nA, hb]) (by funext j; simp [aL, nA, hb]) (by funext j; simp [aD, nA, hb]) (by funext j; simp [aR, nA, hb])
  · have hb' : (if b = tp μ then some (.inr 5) else tg μ b) = some (.inr k9) := hb
    by_cases h : b = tp μ
    · rw [if_pos h] at hb'; cases hb'; omega
    · rw [if_neg h] at hb'
      exact ⟨hb', by simp [ln, nA, h], by funext j; simp [aI, nA, h]⟩
  · rfl
  · show (if b = tp μ then _ else tg μ b) = _
    rw [if_neg ?_]
    · exact hb
    · rintro rfl
      have := (hR.2.2.1 _ 10 (by decide) hb).2.2
      omega
theorem r_anew6 (C : XCtx κ ξ cc own nL ret) {n : Int32} {N idx : Nat} (hd : decode cc pc = .ok (.anewarray idx, 3)) (hw : Cond.classLink own idx RX3 ∈ TW) (hfr : fr μ = true) (hn0 : ¬ n < 0) (hN : n.toNatClampNeg = N) (hb : N ≤ 1000000) (h1 : nc + 1 ≤ κ.R.cells) (h2 : ns + N ≤ κ.R.slots)
    (k : XG κ ξ nL (nc + 1) (ns + N) (nA μ 6 N) (pc + 3) L (.ref (tp μ) :: st)) : XG κ ξ nL nc ns μ pc L (.int n :: st) := by
  subst hN
  intro hn H locs ls hR hS hl
  have hts := C.2.2.2.2.1
  have hsz := hR.2.1 hfr
  have hA := C.2.2.2.2.2.2.1
  refine W.anew C.1 C.2.1 C.2.2.2.1 (hts _ hw) (va_AO.use C.z.2.2.2.2.2.1) rfl hd rfl hn0 (Nat.le_trans (Nat.mul_le_mul_right 4 hb) (Nat.le_of_ble_eq_true rfl)) h1 h2 fun cA kA comp f1 f2 f3 f4 => ?_
  have hcA : cA = ξ.2.1 6 := by
    obtain ⟨kA2, comp2, -, -, -, g4⟩ := (C.2.2.2.2.2.1.2 6 _ rfl).2
    exact Option.some.inj (f1.symm.trans g4)
  subst hcA
  rw [hsz]
  refine k hn _ locs ls (hR.push (e := .inl (ξ.2.1 6, n.toNatClampNeg, .inr (.inr (.inr (.inr (aR (nA μ 6 n.toNatClampNeg) (tp μ))))))) hfr ?_ ?_ (fun q hq => by rw [Array.getElem?_push, if_neg (Nat.ne_of_lt hq)]) (by simp) (fun b hb => ?_) rfl (hA _ (by rw [← hsz]; exact hS.1)) (fun h0 => ⟨fun b k9 h9 hb => ?_, fun k hk => ?_, fun b hb => ?_⟩)) (xS_new hS (by simp) (fun q hq => by rw [Array.getElem?_push, if_neg (Nat.ne_of_lt hq)])) hl
  · refine (xrow_at (show tg (nA μ 6 n.toNatClampNeg) (tp μ) = some (.inr 6) by simp [tg, nA]) rfl).trans ?_
    simp [ln, nA]
  · show (H.push _)[tp μ]? = some (vp_cell _ _)
    rw [← hsz, Array.getElem?_push, if_pos rfl, arrV_new, hsz]
    exact congrArg (fun g => some (arrV (ξ.2.1 6) n.toNatClampNeg g)) (funext fun j => show Value.null = va_rf (aR (nA μ 6 n.toNatClampNeg) (tp μ) j) by simp [aR, nA, va_rf])
  · exact xc_same (by simp [tg, nA, hb]) (by simp [ln, nA, hb]) (fun k => rfl) (fun k => rfl) (fun k => rfl) (by funext j; simp [aI, nA, hb]) (by funext j; simp [aL, nA, hb]) (by funext j; simp [aD, nA, hb]) (by funext j; simp [aR, nA, hb])
  · have hb' : (if b = tp μ then some (.inr 6) else tg μ b) = some (.inr k9) := hb
    by_cases h : b = tp μ
    · rw [if_pos h] at hb'; cases hb'; omega
    · rw [if_neg h] at hb'
      exact ⟨hb', by simp [ln, nA, h], by funext j; simp [aI, nA, h]⟩
  · rfl
  · show (if b = tp μ then _ else tg μ b) = _
    rw [if_neg ?_]
    · exact hb
    · rintro rfl
      have := (hR.2.2.1 _ 10 (by decide) hb).2.2
      omega
theorem r_objInit (C : XCtx κ ξ cc own nL ret) {idx a : Nat} (hd : decode cc pc = .ok (.invokespecial idx, 3)) (hw1 : Cond.methodLink own idx Lib.objectInit ∈ TW) (hw2 : Cond.instanceMethod Lib.objectInit ∈ TW) (hw3 : Cond.code Lib.objectInit ⟨#[0xb1]⟩ 1 none ∈ TW) (h1 : 1 ≤ κ.R.frames) (h2 : (st.map fun v => v.category).sum + 12 ≤ κ.R.locals)
    (k : XG κ ξ nL nc ns μ (pc + 3) L st) : XG κ ξ nL nc ns μ pc L (.ref a :: st) := by
  intro hn H locs ls hR hS hl
  have hts := C.2.2.2.2.1
  refine W.objInit C.1 C.2.1 C.2.2.2.1 (hts _ hw1) (hts _ hw2) (hts _ hw3) rfl (by show ls.size = _; rw [C.2.2.1, hl.1, hn]) rfl hd h1 (by show 2 * 0 + _ + 12 ≤ _; omega) ?_
  exact k hn H locs ls hR hS hl
theorem xR.copy {ξ : XE} {μ : XM} {U : State} {H1 : Heap} {ws : va_W} {a b sp dp n q1 kd : Nat} (hW : xW ξ.2.1 μ ws) (hD0 : va_D ξ.2.2 ws) (hX : xTail ξ μ U H1) (hk : tg μ b = some (.inr kd)) (hkd : kd < 3) (hq : ws[q1]? = some (b, .inl (ξ.2.1 kd, ln μ b, .inl (aI μ b))))
    (hP : va_P ξ.1 xcl (ws.set q1 (b, .inl (ξ.2.1 kd, ln μ b, .inl (va_cpy (aI μ a) (aI μ b) sp dp n)))) H1) (hD : va_D ξ.2.2 (ws.set q1 (b, .inl (ξ.2.1 kd, ln μ b, .inl (va_cpy (aI μ a) (aI μ b) sp dp n))))) : xR ξ (uF (cI μ a sp b dp n)) U H1 := by
  refine ⟨⟨_, hP, hD, hW.set hD0 hq ?_ (fun c hc => ?_)⟩, (fun h => by cases h), hX.step ⟨fun c k9 h9 hc => ?_, fun k hk => rfl, fun c hc => hc⟩ (Nat.le_refl _) (fun _ _ _ => rfl)⟩
  · have ht : tg (uF (cI μ a sp b dp n)) b = some (.inr kd) := hk
    have hrow : aI (uF (cI μ a sp b dp n)) b = va_cpy (aI μ a) (aI μ b) sp dp n := by
      funext j
      simp [aI, uF, cI, va_cpy]
    refine (xc_row ht).trans ?_
    match kd, hkd with
    | 0, _ => simp only [xrow, hrow]; rfl
    | 1, _ => simp only [xrow, hrow]; rfl
    | 2, _ => simp only [xrow, hrow]; rfl
  · exact xc_same rfl rfl (fun _ => rfl) (fun _ => rfl) (fun _ => rfl) (by funext j; simp [aI, uF, cI, hc]) rfl rfl rfl
  · have hc0 : tg μ c = some (.inr k9) := hc
    have hne : c ≠ b := by
      rintro rfl
      rw [hk] at hc0
      cases hc0
      omega
    exact ⟨hc0, rfl, by funext j; simp [aI, uF, cI, hne]⟩
/-- System.arraycopy of ints (kd 0) or booleans (kd 1) -/
theorem r_copy (C : XCtx κ ξ cc own nL ret) {idx a b kd : Nat} {ty : FieldType} {sp dp n : Int32} (hd : decode cc pc = .ok (.invokestatic idx, 3)) (hw1 : Cond.methodLink own idx arraycopyName ∈ TW) (hw2 : Cond.native arraycopyName ∈ TW) (hw3 : Cond.static arraycopyName ∈ TW) (hw4 : Cond.initialized "java/lang/System" ∈ TW)
    (hkd : kd < 3) (hty : (xty ξ.2.1)[kd]? = some (ξ.2.1 kd, ty)) (hprim : refKind ty = false) (ha : tg μ a = some (.inr kd)) (hb : tg μ b = some (.inr kd)) (h1 : ¬ sp < 0) (h2 : ¬ dp < 0) (h3 : ¬ n < 0) (h4 : sp.toNatClampNeg + n.toNatClampNeg ≤ ln μ a) (h5 : dp.toNatClampNeg + n.toNatClampNeg ≤ ln μ b) (hfit : ∀ i, i < n.toNatClampNeg → fits ty (.int (aI μ a (sp.toNatClampNeg + i))) = true)
    (h6 : 1 ≤ κ.R.frames) (h7 : (st.map fun v => v.category).sum + (nativeFrameWords "java/lang/System" "arraycopy" 5 + 11) ≤ κ.R.locals)
    (k : XG κ ξ nL nc ns (uF (cI μ a sp.toNatClampNeg b dp.toNatClampNeg n.toNatClampNeg)) (pc + 3) L st) : XG κ ξ nL nc ns μ pc L (.int n :: .int dp :: .ref b :: .int sp :: .ref a :: st) := by
  intro hn H locs ls hR hS hl
  have hts := C.2.2.2.2.1
  obtain ⟨⟨ws, hP, hD, hW⟩, -, hX⟩ := hR
  have hcell : ∀ c, tg μ c = some (.inr kd) → xc ξ.2.1 μ c = some (.inl (ξ.2.1 kd, ln μ c, .inl (aI μ c))) := by
    intro c hc
    rw [xc_row hc]
    match kd, hkd with
    | 0, _ => rfl
    | 1, _ => rfl
    | 2, _ => rfl
  obtain ⟨q0, hq0⟩ := (hW a _).mpr (hcell a ha)
  obtain ⟨q1, hq1⟩ := (hW b _).mpr (hcell b hb)
  refine va_copyi C.1 C.2.1 (by rw [C.2.2.1, hl.1, hn]) C.2.2.2.1 (hts _ hw1) (hts _ hw2) (hts _ hw3) (hts _ hw4) C.2.2.2.2.2.1 hP hD hS q0 q1 kd kd hq0 hq1 hty hty hprim h1 h2 h3 h4 h5 hfit h6 h7 hd fun H1 locs1 hP1 hD1 hS1 => ?_
  exact k hn H1 locs1 ls (xR.copy hW hD (hX.same hS hS1 C.2.2.2.2.2.2.1) hb hkd hq1 hP1 hD1) hS1 hl
end XROWS7
/-! contracts -/
abbrev XQ : Type := Option Value → XM → Prop
abbrev XX : Type := String → XM → Prop
abbrev XSem : Type := XM → List Value → XQ → XX → Prop
def xPc (ξ : XE) (μ : XM) (as : List Value) : Array Value → State → Prop := va_Pc as (fun U => xR ξ μ U U.heap ∧ va_K ξ.1 xcl (xty ξ.2.1) U ∧ xZ ξ U U.heap ∧ ∀ q, U.heap.size ≤ q → ξ.2.2 q)
def xQn (ξ : XE) (Q : XQ) : Array Value → State → Outcome → State → Prop := fun _ st o t => (∃ v μ', o = .returned v ∧ Q v μ' ∧ xR ξ μ' t t.heap) ∧ va_F ξ.2.2 st t
def xQx (ξ : XE) (X : XX) : String → State → State → Prop := fun E st t => (∃ μ', X E μ' ∧ xR ξ μ' t t.heap) ∧ va_F ξ.2.2 st t
/-- a contract: what f says, the method does -/
def XMet (l : Launch) (y : MethodName) (b : ByteArray) (n : Nat) (ret : Option FieldType) (rm : Room) (f : XSem) : Prop := ∀ ξ μ as Q, f μ as Q (fun _ _ => False) → Met l y (.code y b n ret :: TW) rm (xPc ξ μ as) (xQn ξ Q) rm.cells rm.slots ξ.2.2
def XMetX (l : Launch) (y : MethodName) (ws : List Cond) (rm : Room) (f : XSem) : Prop := ∀ ξ μ as Q X, f μ as Q X → vx_Met l y ws rm (xPc ξ μ as) (xQn ξ Q) (xQx ξ X) rm.cells rm.slots ξ.2.2
theorem xPc_blind (ξ : XE) (μ : XM) (as : List Value) : FrameBlind (xPc ξ μ as) := by
  intro a U g mk h
  obtain ⟨h1, h2, h3, h4, h5⟩ := h
  have hvm : U.vm.Alike (U.calling g mk a).vm := Vm.Alike.refl U.vm
  refine ⟨h1, h2.moved hvm, h3.moved hvm, ⟨h4.1.moved hvm, h4.2.1.moved hvm, ?_, ?_, h4.2.2.2.2.1.moved hvm, h4.2.2.2.2.2.1.moved hvm, (fun q hq => vk_R.same rfl (h4.2.2.2.2.2.2.1 q hq)), (fun q hq => va_Nw.same rfl rfl (h4.2.2.2.2.2.2.2.1 q hq)), (fun q hq => va_Nw.same rfl rfl (h4.2.2.2.2.2.2.2.2.1 q hq)), h4.2.2.2.2.2.2.2.2.2.moved hvm⟩, h5⟩
  · intro q hq
    obtain ⟨sa, hsa⟩ := h4.2.2.1 q hq
    exact ⟨sa, vk_R.same rfl hsa⟩
  · intro q hq
    exact va_Nw.same rfl rfl (h4.2.2.2.1 q hq)
theorem xZ.warm {ξ : XE} {s U : State} {H : Heap} (hW : s.WarmedH U.vm) (h4 : xZ ξ s H) : xZ ξ U H := by
  have hvm := hW.alike
  refine ⟨h4.1.moved hvm, h4.2.1.moved hvm, ?_, ?_, h4.2.2.2.2.1.moved hvm, h4.2.2.2.2.2.1.moved hvm, (fun q hq => vk_R.warm hW (h4.2.2.2.2.2.2.1 q hq)), (fun q hq => va_Nw.warmC hW (h4.2.2.2.2.2.2.2.1 q hq)), (fun q hq => va_Nw.warmD hW (h4.2.2.2.2.2.2.2.2.1 q hq)), h4.2.2.2.2.2.2.2.2.2.moved hvm⟩
  · intro q hq
    obtain ⟨sa, hsa⟩ := h4.2.2.1 q hq
    exact ⟨sa, vk_R.warm hW hsa⟩
  · intro q hq
    exact va_Nw.warmM hW (h4.2.2.2.1 q hq)
theorem xZ.kept {ξ : XE} {s : State} {H H1 : Heap} (h4 : xZ ξ s H) (hq : ∀ a : Nat, a < H.size → ¬ ξ.2.2 a → H1[a]? = H[a]?) : xZ ξ s H1 := ⟨h4.1.kept hq, h4.2.1.kept hq, h4.2.2⟩
section XROWS8
variable {κ : XK} {ξ : XE} {cc : ByteArray} {own : String} {nL : Nat} {ret : Option FieldType} {nc ns : Nat} {μ : XM} {pc : Nat} {L : List (Option Value)} {st : List Value}
/-- a callee's start, from here -/
theorem x_pre (C : XCtx κ ξ cc own nL ret) {H : Heap} {locs : List Loc} (hR : xR ξ μ κ.s H) (hS : va_S ξ.2.2 κ.s.heap H locs) (As : List Value) : FrameBlind (xPc ξ μ As) ∧ ∀ U : State, U.heap = H → κ.s.WarmedH U.vm → xPc ξ μ As As.toArray U := by
  refine ⟨xPc_blind ξ μ As, fun U hU hW => ⟨rfl, ?_, C.2.2.2.2.2.1.moved hW.alike, ?_, ?_⟩⟩
  · rw [hU]; exact hR.moved hW.alike
  · rw [hU]; exact (C.2.2.2.2.2.2.2.2.2.kept hS.2.1).warm hW
  · rw [hU]; exact fun q hq => C.2.2.2.2.2.2.1 q (Nat.le_trans hS.1 hq)
/-- behind a call that returned -/
theorem x_next {As : List Value} {free : Addr → Prop} {mc ms : Nat} {H : Heap} {locs : List Loc} {ls : Array Slot} {st0 rest : List Value} {a : Array Value} (hn : L.length = nL) (hl : xL ls L) (hS : va_S ξ.2.2 κ.s.heap H locs) (hf : ∀ q, free q → ξ.2.2 q)
    {Q' : XQ} (hq' : ∀ v μ', Q' v μ' → XG κ ξ nL (nc + mc) (ns + ms) μ' (pc + 3) L (v.toList ++ rest)) (hr : va_Run κ.p κ.l κ.e κ.R κ.s κ.m κ.args κ.below κ.meth κ.c H locs nc ns mc ms (F0 κ.m pc ls st0) rest (xQn ξ Q' a) free) : XKW κ H locs nc ns (F0 κ.m pc ls st0) := by
  intro T hT X
  obtain ⟨v, st₀, t, T', L', h0, X', hL, e1, e2, ⟨⟨v', μ', hv, hq, hx⟩, hz, hk⟩, st⟩ := hr T hT X
  cases hv
  rw [h0] at hz hk
  have hvm : t.vm.Alike κ.s.vm := by rw [← e2]; exact X'.warmed.alike.symm
  obtain ⟨t2, a1, b1⟩ := hq' _ _ hq hn T'.heap (locs ++ L') ls (by rw [e1]; exact hx.moved hvm)
    ⟨Nat.le_trans hS.1 (by rw [e1]; exact hz), fun q h1 h2 => by rw [e1, hk q (Nat.lt_of_lt_of_le h1 hS.1) h2]; exact hS.2.1 q h1 h2, fun q hq => by
      rcases List.mem_append.mp hq with h | h
      · exact hS.2.2 q h
      · exact hf _ (hL q h)⟩ hl T' rfl X'
  exact ⟨t2, st t2 a1, b1⟩
theorem xws_code {y : MethodName} {b : ByteArray} {n : Nat} {r : Option FieldType} (h : Cond.code y b n r ∈ TW) : GoodIn TW (.code y b n r :: TW) := TW_goodIn (fun w hw => by
  rcases List.mem_cons.mp hw with rfl | h1
  · exact h
  · exact h1)
/-- what a call of y by entry idx needs of the tables and the room -/
def XLink (κ : XK) (own : String) (idx : Nat) (y : MethodName) (b : ByteArray) (maxL : Nat) (cret : Option FieldType) (rm : Room) (n : Nat) : Prop :=
  Cond.code y b maxL cret ∈ TW ∧ Cond.initialized y.cls ∈ TW ∧ Cond.methodLink own idx y ∈ TW ∧ (y.cls ≠ "java/lang/invoke/MethodHandle" ∧ y.cls ≠ "java/lang/invoke/VarHandle" ∧ (parseMethodDescriptor y.desc).map (fun d => d.parameters.length) = some n) ∧ (rm.frames + 1 ≤ κ.R.frames ∧ 8 + (maxL + 11) + rm.locals ≤ κ.R.locals)
theorem x_callB (C : XCtx κ ξ cc own nL ret) {idx : Nat} {y : MethodName} {b : ByteArray} {maxL : Nat} {cret : Option FieldType} {rm : Room} {n : Nat} (h : XLink κ own idx y b maxL cret rm n) : CallB κ.R κ.s κ.args own idx y b maxL cret (.code y b maxL cret :: TW) rm rm.cells rm.slots n :=
  callB_of n C.2.2.2.2.1 (xws_code h.1) rfl rfl rfl (C.2.2.2.2.1 _ h.2.1) (C.2.2.2.2.1 _ h.2.2.1) h.2.2.2.1 h.2.2.2.2
theorem r_callS (C : XCtx κ ξ cc own nL ret) {idx : Nat} {y : MethodName} {b : ByteArray} {maxL : Nat} {cret : Option FieldType} {rm : Room} {n : Nat} {f : XSem} {As : List Value} (hM : XMet κ.l y b maxL cret rm f) (hd : decode cc pc = .ok (.invokestatic idx, 3)) (hk : XLink κ own idx y b maxL cret rm n) (hst : Cond.static y ∈ TW) (hA : As.length = n) (hW : (st.map fun v => v.category).sum ≤ 8) (hf : nc + rm.cells ≤ κ.R.cells ∧ ns + rm.slots ≤ κ.R.slots)
    {Q' : XQ} (hq : ∀ v μ', Q' v μ' → XG κ ξ nL (nc + rm.cells) (ns + rm.slots) μ' (pc + 3) L (v.toList ++ st)) (h : f μ As Q' (fun _ _ => False)) : XG κ ξ nL nc ns μ pc L (As.reverse ++ st) := by
  intro hn H locs ls hR hS hl
  exact x_next (As := As) hn hl hS (fun _ z => z) hq (va_runS ⟨C.1, C.2.1, C.2.2.1, C.2.2.2.1, C.2.2.2.2.1⟩ (hM ξ μ As _ h) ⟨x_callB C hk, C.2.2.2.2.1 _ hst⟩ (x_pre C hR hS As) rfl hA (hl.1.trans hn) rfl (lv_room hW) hd hf)
theorem x_recv (C : XCtx κ ξ cc own nL ret) {H : Heap} (hR : xR ξ μ κ.s H) {ci a : Nat} (hc : ci < 10) (ht : tg μ a = some (.inl ci)) : ∃ cellB : Cell, H[a]? = some cellB ∧ cellB.vm.isStatics = false ∧ κ.s.vm.findClass (xC ci) = some cellB.cls :=
  va_recv C.2.2.2.2.2.1 (hR.one (xc_obj ht hc)) (ci := ci) (q0 := 0) (q := (xC ci, xT ci, xN ci)) (xcl_at hc) rfl
theorem r_callV (C : XCtx κ ξ cc own nL ret) {idx ci a : Nat} {y : MethodName} {b : ByteArray} {maxL : Nat} {cret : Option FieldType} {rm : Room} {n : Nat} {f : XSem} {As : List Value} (hM : XMet κ.l y b maxL cret rm f) (hd : decode cc pc = .ok (.invokevirtual idx, 3)) (hk : XLink κ own idx y b maxL cret rm n) (hi : Cond.instanceMethod y ∈ TW) (hs : Cond.selects (xC ci) y y ∈ TW) (hc : ci < 10) (ht : tg μ a = some (.inl ci)) (hA : As.length = n) (hW : (st.map fun v => v.category).sum ≤ 8) (hf : nc + rm.cells ≤ κ.R.cells ∧ ns + rm.slots ≤ κ.R.slots)
    {Q' : XQ} (hq : ∀ v μ', Q' v μ' → XG κ ξ nL (nc + rm.cells) (ns + rm.slots) μ' (pc + 3) L (v.toList ++ st)) (h : f μ (.ref a :: As) Q' (fun _ _ => False)) : XG κ ξ nL nc ns μ pc L (As.reverse ++ .ref a :: st) := by
  intro hn H locs ls hR hS hl
  exact x_next (As := As) hn hl hS (fun _ z => z) hq (va_runV ⟨C.1, C.2.1, C.2.2.1, C.2.2.2.1, C.2.2.2.2.1⟩ (hM ξ μ (.ref a :: As) _ h) ⟨x_callB C hk, C.2.2.2.2.1 _ hi, C.2.2.2.2.1 _ hs⟩ ⟨(x_pre C hR hS (.ref a :: As)).1, x_recv C hR hc ht, (x_pre C hR hS (.ref a :: As)).2⟩ rfl hA (hl.1.trans hn) rfl (lv_room hW) hd hf)
theorem r_callI (C : XCtx κ ξ cc own nL ret) {idx a : Nat} {y : MethodName} {b : ByteArray} {maxL : Nat} {rm : Room} {n : Nat} {f : XSem} {As : List Value} (hM : XMet κ.l y b maxL none rm f) (hd : decode cc pc = .ok (.invokespecial idx, 3)) (hk : XLink κ own idx y b maxL none rm n) (hi : Cond.instanceMethod y ∈ TW) (hy : y.name = "<init>") (hA : As.length = n) (hW : (st.map fun v => v.category).sum ≤ 8) (hf : nc + rm.cells ≤ κ.R.cells ∧ ns + rm.slots ≤ κ.R.slots)
    {Q' : XQ} (hq : ∀ v μ', Q' v μ' → XG κ ξ nL (nc + rm.cells) (ns + rm.slots) μ' (pc + 3) L (v.toList ++ st)) (h : f μ (.ref a :: As) Q' (fun _ _ => False)) : XG κ ξ nL nc ns μ pc L (As.reverse ++ .ref a :: st) := by
  intro hn H locs ls hR hS hl
  exact x_next (As := As) hn hl hS (fun _ z => z) hq (va_runI ⟨C.1, C.2.1, C.2.2.1, C.2.2.2.1, C.2.2.2.2.1⟩ (hM ξ μ (.ref a :: As) _ h) ⟨x_callB C hk, hy, C.2.2.2.2.1 _ hi⟩ (x_pre C hR hS (.ref a :: As)) rfl hA (hl.1.trans hn) rfl (lv_room hW) hd hf)
/-- a nest mate's private member -/
def XLinkN (κ : XK) (own : String) (idx : Nat) (y : MethodName) (b : ByteArray) (maxL : Nat) (cret : Option FieldType) (rm : Room) (n : Nat) : Prop :=
  Cond.code y b maxL cret ∈ TW ∧ Cond.initialized y.cls ∈ TW ∧ (own, idx, y) ∈ xnest ∧ (y.cls ≠ "java/lang/invoke/MethodHandle" ∧ y.cls ≠ "java/lang/invoke/VarHandle" ∧ (parseMethodDescriptor y.desc).map (fun d => d.parameters.length) = some n) ∧ (rm.frames + 1 ≤ κ.R.frames ∧ 8 + (maxL + 11) + rm.locals ≤ κ.R.locals)
theorem r_callSN (C : XCtx κ ξ cc own nL ret) {idx : Nat} {y : MethodName} {b : ByteArray} {maxL : Nat} {cret : Option FieldType} {rm : Room} {n : Nat} {f : XSem} {As : List Value} (hM : XMet κ.l y b maxL cret rm f) (hd : decode cc pc = .ok (.invokestatic idx, 3)) (hk : XLinkN κ own idx y b maxL cret rm n) (hst : Cond.static y ∈ TW) (hA : As.length = n) (hW : (st.map fun v => v.category).sum ≤ 8) (hf : nc + rm.cells ≤ κ.R.cells ∧ ns + rm.slots ≤ κ.R.slots)
    {Q' : XQ} (hq : ∀ v μ', Q' v μ' → XG κ ξ nL (nc + rm.cells) (ns + rm.slots) μ' (pc + 3) L (v.toList ++ st)) (h : f μ As Q' (fun _ _ => False)) : XG κ ξ nL nc ns μ pc L (As.reverse ++ st) := by
  intro hn H locs ls hR hS hl
  exact x_next (As := As) hn hl hS (fun _ z => z) hq (va_runSN ⟨C.1, C.2.1, C.2.2.1, C.2.2.2.1, C.2.2.2.2.1⟩ (hM ξ μ As _ h) ⟨va_cnB n C.2.2.2.2.1 (xws_code hk.1) rfl rfl rfl (C.z.2.2.2.1 _ hk.2.2.1) (C.2.2.2.2.1 _ hk.2.1) hk.2.2.2.1 hk.2.2.2.2, C.2.2.2.2.1 _ hst, trivial⟩ (x_pre C hR hS As) rfl hA (hl.1.trans hn) rfl (lv_room hW) hd hf)
theorem r_callIN (C : XCtx κ ξ cc own nL ret) {idx a : Nat} {y : MethodName} {b : ByteArray} {maxL : Nat} {rm : Room} {n : Nat} {f : XSem} {As : List Value} (hM : XMet κ.l y b maxL none rm f) (hd : decode cc pc = .ok (.invokespecial idx, 3)) (hk : XLinkN κ own idx y b maxL none rm n) (hi : Cond.instanceMethod y ∈ TW) (hy : y.name = "<init>") (hA : As.length = n) (hW : (st.map fun v => v.category).sum ≤ 8) (hf : nc + rm.cells ≤ κ.R.cells ∧ ns + rm.slots ≤ κ.R.slots)
    {Q' : XQ} (hq : ∀ v μ', Q' v μ' → XG κ ξ nL (nc + rm.cells) (ns + rm.slots) μ' (pc + 3) L (v.toList ++ st)) (h : f μ (.ref a :: As) Q' (fun _ _ => False)) : XG κ ξ nL nc ns μ pc L (As.reverse ++ .ref a :: st) := by
  intro hn H locs ls hR hS hl
  exact x_next (As := As) hn hl hS (fun _ z => z) hq (va_runIN ⟨C.1, C.2.1, C.2.2.1, C.2.2.2.1, C.2.2.2.2.1⟩ (hM ξ μ (.ref a :: As) _ h) ⟨va_cnB n C.2.2.2.2.1 (xws_code hk.1) rfl rfl rfl (C.z.2.2.2.1 _ hk.2.2.1) (C.2.2.2.2.1 _ hk.2.1) hk.2.2.2.1 hk.2.2.2.2, hy, C.2.2.2.2.1 _ hi⟩ (x_pre C hR hS (.ref a :: As)) rfl hA (hl.1.trans hn) rfl (lv_room hW) hd hf)
end XROWS8
