/-! ===== returns, a method's entry, throws ===== -/
section XROWS9
variable {κ : XK} {ξ : XE} {cc : ByteArray} {own : String} {nL : Nat} {ret : Option FieldType} {nc ns : Nat} {μ : XM} {pc : Nat} {L : List (Option Value)} {st : List Value}
/-- what the walk's end owes: MQ is enough for κ.Q -/
def XEnd (κ : XK) (ξ : XE) (mc ms : Nat) (Q : XQ) : Prop := ∀ (H : Heap) (locs : List Loc) (g : JFrame), W κ.p κ.l κ.e κ.R κ.s κ.m κ.args κ.below κ.meth κ.c H locs mc ms (MQ κ.below (xQn ξ Q) κ.args κ.s mc ms ξ.2.2) g → XKW κ H locs mc ms g
theorem x_ret {Q : XQ} {v : Option Value} {H : Heap} {locs : List Loc} {t : State} (hq : Q v μ) (hR : xR ξ μ κ.s H) (hS : va_S ξ.2.2 κ.s.heap H locs) (ht : t.heap = H) (hW : κ.s.WarmedH t.vm) : xQn ξ Q κ.args κ.s (.returned v) t :=
  ⟨⟨v, μ, rfl, hq, by rw [ht]; exact hR.moved hW.alike⟩, hS.F ht⟩
theorem r_ireturn (C : XCtx κ ξ cc own nL (some .int)) {x : Int32} {mc ms : Nat} {Q : XQ} (hE : XEnd κ ξ mc ms Q) (hd : decode cc pc = .ok (.ireturn, 1)) (h1 : nc ≤ mc) (h2 : ns ≤ ms) (hq : Q (some (.int x)) μ) : XG κ ξ nL nc ns μ pc L [.int x] := fun hn H locs ls hR hS hl =>
  W.widen (k := mc) (n := ms) h1 h2 (hE H locs _ (W.iret C.1 C.2.1 C.2.2.2.2.2.2.2.1 (fun t ht hW => x_ret hq hR hS ht hW) hS.2.2 hd (hlocks := C.2.2.2.2.2.2.2.2.1)))
theorem r_zreturn (C : XCtx κ ξ cc own nL (some .boolean)) {x : Int32} {mc ms : Nat} {Q : XQ} (hE : XEnd κ ξ mc ms Q) (hd : decode cc pc = .ok (.ireturn, 1)) (hz : narrow .boolean (.int x) = .int x) (h1 : nc ≤ mc) (h2 : ns ≤ ms) (hq : Q (some (.int x)) μ) : XG κ ξ nL nc ns μ pc L [.int x] := fun hn H locs ls hR hS hl =>
  W.widen (k := mc) (n := ms) h1 h2 (hE H locs _ (W.zret C.1 C.2.1 C.2.2.2.2.2.2.2.1 hz (fun t ht hW => x_ret hq hR hS ht hW) hS.2.2 hd (hlocks := C.2.2.2.2.2.2.2.2.1)))
theorem r_creturn (C : XCtx κ ξ cc own nL (some .char)) {x : Int32} {mc ms : Nat} {Q : XQ} (hE : XEnd κ ξ mc ms Q) (hd : decode cc pc = .ok (.ireturn, 1)) (hz : narrow .char (.int x) = .int x) (h1 : nc ≤ mc) (h2 : ns ≤ ms) (hq : Q (some (.int x)) μ) : XG κ ξ nL nc ns μ pc L [.int x] := fun hn H locs ls hR hS hl =>
  W.widen (k := mc) (n := ms) h1 h2 (hE H locs _ (W.zret C.1 C.2.1 C.2.2.2.2.2.2.2.1 hz (fun t ht hW => x_ret hq hR hS ht hW) hS.2.2 hd (hlocks := C.2.2.2.2.2.2.2.2.1)))
theorem r_breturn (C : XCtx κ ξ cc own nL (some .byte)) {x : Int32} {mc ms : Nat} {Q : XQ} (hE : XEnd κ ξ mc ms Q) (hd : decode cc pc = .ok (.ireturn, 1)) (hz : narrow .byte (.int x) = .int x) (h1 : nc ≤ mc) (h2 : ns ≤ ms) (hq : Q (some (.int x)) μ) : XG κ ξ nL nc ns μ pc L [.int x] := fun hn H locs ls hR hS hl =>
  W.widen (k := mc) (n := ms) h1 h2 (hE H locs _ (W.zret C.1 C.2.1 C.2.2.2.2.2.2.2.1 hz (fun t ht hW => x_ret hq hR hS ht hW) hS.2.2 hd (hlocks := C.2.2.2.2.2.2.2.2.1)))
theorem r_lreturn (C : XCtx κ ξ cc own nL (some .long)) {x : Int64} {mc ms : Nat} {Q : XQ} (hE : XEnd κ ξ mc ms Q) (hd : decode cc pc = .ok (.lreturn, 1)) (h1 : nc ≤ mc) (h2 : ns ≤ ms) (hq : Q (some (.long x)) μ) : XG κ ξ nL nc ns μ pc L [.long x] := fun hn H locs ls hR hS hl =>
  W.widen (k := mc) (n := ms) h1 h2 (hE H locs _ (W.lret C.1 C.2.1 C.2.2.2.2.2.2.2.1 (fun t ht hW => x_ret hq hR hS ht hW) hS.2.2 hd (hlocks := C.2.2.2.2.2.2.2.2.1)))
theorem r_dreturn (C : XCtx κ ξ cc own nL (some .double)) {x : UInt64} {mc ms : Nat} {Q : XQ} (hE : XEnd κ ξ mc ms Q) (hd : decode cc pc = .ok (.dreturn, 1)) (h1 : nc ≤ mc) (h2 : ns ≤ ms) (hq : Q (some (.double x)) μ) : XG κ ξ nL nc ns μ pc L [.double x] := fun hn H locs ls hR hS hl =>
  W.widen (k := mc) (n := ms) h1 h2 (hE H locs _ (W.dret C.1 C.2.1 C.2.2.2.2.2.2.2.1 (fun t ht hW => x_ret hq hR hS ht hW) hS.2.2 hd (hlocks := C.2.2.2.2.2.2.2.2.1)))
theorem r_return (C : XCtx κ ξ cc own nL none) {mc ms : Nat} {Q : XQ} (hE : XEnd κ ξ mc ms Q) (hd : decode cc pc = .ok (.return_, 1)) (h1 : nc ≤ mc) (h2 : ns ≤ ms) (hq : Q none μ) : XG κ ξ nL nc ns μ pc L [] := fun hn H locs ls hR hS hl =>
  W.widen (k := mc) (n := ms) h1 h2 (hE H locs _ (W.vret C.1 C.2.1 C.2.2.2.2.2.2.2.1 (fun t ht hW => x_ret hq hR hS ht hW) hS.2.2 hd (hlocks := C.2.2.2.2.2.2.2.2.1)))
theorem r_areturn {rt : FieldType} (C : XCtx κ ξ cc own nL (some rt)) {x : Option Nat} {mc ms : Nat} {Q : XQ} (hE : XEnd κ ξ mc ms Q) (hd : decode cc pc = .ok (.areturn, 1)) (hrt : xrefTy rt = true) (h1 : nc ≤ mc) (h2 : ns ≤ ms) (hq : Q (some (va_rf x)) μ) : XG κ ξ nL nc ns μ pc L [va_rf x] := fun hn H locs ls hR hS hl =>
  W.widen (k := mc) (n := ms) h1 h2 (hE H locs _ (W.aret C.1 C.2.1 C.2.2.2.2.2.2.2.1 (by cases rt <;> first | (exfalso; revert hrt; decide) | exact Or.inl ⟨_, rfl⟩ | exact Or.inr ⟨_, rfl⟩) (by cases x <;> first | exact Or.inl rfl | exact Or.inr ⟨_, rfl⟩) (fun t ht hW => x_ret hq hR hS ht hW) hS.2.2 hd (hlocks := C.2.2.2.2.2.2.2.2.1)))
end XROWS9
/-- the locals at the entry -/
def xarg : List Value → List (Option Value)
  | [] => []
  | v :: vs => if v.category = 2 then some v :: none :: xarg vs else some v :: xarg vs
def xentry (n : Nat) (as : List Value) : List (Option Value) := xarg as ++ List.replicate (n - (xarg as).length) none
theorem xarg_len : ∀ as : List Value, (xarg as).length = (lg_sl as).length
  | [] => rfl
  | v :: vs => by
    have ih := xarg_len vs
    unfold xarg
    simp only [lg_sl, List.flatMap_cons] at ih ⊢
    split <;> simp [ih]
theorem xarg_at : ∀ (as : List Value) (k i : Nat) (v : Value), (xarg as)[i]? = some (some v) → (k + i, v) ∈ lv_args k as
  | [], k, i, v, h => by simp [xarg] at h
  | a :: as, k, i, v, h => by
    unfold xarg at h
    unfold lv_args
    split at h
    · rename_i hc
      rw [if_pos hc]
      match i, h with
      | 0, h => simp at h; subst h; exact List.mem_cons_self
      | 1, h => simp at h
      | i + 2, h =>
        simp only [List.getElem?_cons_succ] at h
        have := xarg_at as (k + 2) i v h
        rw [show k + (i + 2) = k + 2 + i by omega]
        exact List.mem_cons_of_mem _ this
    · rename_i hc
      rw [if_neg hc]
      match i, h with
      | 0, h => simp at h; subst h; exact List.mem_cons_self
      | i + 1, h =>
        simp only [List.getElem?_cons_succ] at h
        have := xarg_at as (k + 1) i v h
        rw [show k + (i + 1) = k + 1 + i by omega]
        exact List.mem_cons_of_mem _ this
theorem xentry_len {n : Nat} {as : List Value} (h : (xarg as).length ≤ n) : (xentry n as).length = n := by
  unfold xentry
  rw [List.length_append, List.length_replicate]
  omega
theorem xentry_L {n : Nat} {as : List Value} (h : (xarg as).length ≤ n) : xL ((lg_sl as ++ List.replicate (n - (lg_sl as).length) Slot.unset).toArray) (xentry n as) := by
  have hl := lv_entry as (n := n) (by rw [← xarg_len]; exact h)
  refine ⟨by rw [hl.1, xentry_len h], hl.2.1, fun i v hi => ?_⟩
  unfold xentry at hi
  by_cases hlt : i < (xarg as).length
  · rw [List.getElem?_append_left hlt] at hi
    have := hl.2.2 _ (xarg_at as 0 i v hi)
    simpa using this
  · rw [List.getElem?_append_right (by omega), List.getElem?_replicate] at hi
    split at hi <;> cases hi
/-- a method that returns -/
theorem XMet.of {l : Launch} {y : MethodName} {b : ByteArray} {n : Nat} {ret : Option FieldType} {rm : Room} {f : XSem} (hy : plainName y.cls = true)
    (body : ∀ (κ : XK) (ξ : XE) (μ : XM) (as : List Value) (Q : XQ), XCtx κ ξ b y.cls n ret → κ.l = l → κ.R = rm → κ.meth.name = y.name → XEnd κ ξ rm.cells rm.slots Q → f μ as Q (fun _ _ => False) → (xarg as).length ≤ n ∧ XG κ ξ n 0 0 μ 0 (xentry n as) []) : XMet l y b n ret rm f := by
  intro ξ μ as Q hf
  refine Met.ofW (cc := b) (maxL := n) (ret := ret) hy rfl ?_
  intro p e s m args below meth c s₁ B hml hv
  obtain ⟨rfl, hR, hK, hZ, hA⟩ := hv
  have hts := atoms_spec (ws := Cond.code y b n ret :: TW) B.pre
  obtain ⟨g1, g2⟩ := body (p, l, e, rm, s, m, as.toArray, below, meth, c, MQ below (xQn ξ Q) as.toArray s rm.cells rm.slots ξ.2.2) ξ μ as Q ⟨B.exec, B.bytes, hml, findClass_of_methodNamed B.named, fun w hw => hts w (List.mem_cons_of_mem _ hw), hK, hA, B.returns, B.notSynchronized, hZ⟩ rfl rfl (name_of_methodNamed B.named B.method).1 (fun H locs g h => h) hf
  rw [lg_entry_eq]
  exact g2 (xentry_len g1) s.heap [] _ hR va_S.rf (xentry_L g1)
/-- the walk's frame with an exception of class E over it -/
def XGx (κ : XK) (ξ : XE) (nL : Nat) (nc ns : Nat) (μ : XM) (pc : Nat) (L : List (Option Value)) (rest : List Value) (E : String) : Prop :=
  L.length = nL → ∀ (H : Heap) (locs : List Loc) (ls : Array Slot) (q : Nat) (ce : Cell), xR ξ μ κ.s H → va_S ξ.2.2 κ.s.heap H locs → xL ls L → H[q]? = some ce → ce.vm = .none → κ.s.vm.findClass E = some ce.cls →
    vx_W κ.p κ.l κ.e κ.R κ.s κ.m κ.args κ.below κ.meth κ.c H locs nc ns κ.Q (F0 κ.m pc ls rest) q
section XROWS10
variable {κ : XK} {ξ : XE} {cc : ByteArray} {own : String} {nL : Nat} {ret : Option FieldType} {nc ns : Nat} {μ : XM} {pc : Nat} {L : List (Option Value)} {st : List Value}
theorem r_out (C : XCtx κ ξ cc own nL ret) {Q : XQ} {X : XX} {mc ms : Nat} {E : String} (hout : ∀ x ∈ κ.c.exceptionTable.toList, covers x pc = false) (hQ : κ.Q = vx_MQ κ.below (xQn ξ Q) (xQx ξ X) κ.args κ.s mc ms ξ.2.2) (h1 : nc ≤ mc) (h2 : ns ≤ ms) (hx : X E μ) : XGx κ ξ nL nc ns μ pc L st E := by
  intro hn H locs ls q ce hR hS hl hq hv hc
  rw [hQ]
  exact vx_out hout C.2.2.2.2.2.2.2.2.1 hq hv hc (fun t ht hW => ⟨⟨μ, hx, by rw [ht]; exact hR.moved hW⟩, hS.F ht⟩) hS.2.2 h1 h2
theorem r_catch (C : XCtx κ ξ cc own nL ret) {name E : String} (pre : List ExceptionTableEntry) (x : ExceptionTableEntry) (suf : List ExceptionTableEntry) (hsplit : κ.c.exceptionTable.toList = pre ++ x :: suf)
    (hpass : ∀ z ∈ pre, covers z pc = false ∨ (z.catchType ≠ 0 ∧ ∃ nm : String, (Cond.classLink own z.catchType nm).before κ.args κ.s = true ∧ va_Nc E nm κ.s)) (hx : covers x pc = true) (h0 : x.catchType ≠ 0) (hlink : Cond.classLink own x.catchType name ∈ TW) (hcast : (Cond.castable E name).before κ.args κ.s = true)
    (k : ∀ q : Nat, XG κ ξ nL nc ns μ x.handlerPc L [.ref q]) : XGx κ ξ nL nc ns μ pc L st E := by
  intro hn H locs ls q ce hR hS hl hq hv hc
  exact vx_catch C.2.2.2.1 pre x suf hsplit hpass hx h0 (C.2.2.2.2.1 _ hlink) hcast hq hv hc (k q hn H locs ls hR hS hl)
/-- behind a call that may throw -/
theorem x_nextX {As : List Value} {free : Addr → Prop} {mc ms : Nat} {H : Heap} {locs : List Loc} {ls : Array Slot} {st0 rest : List Value} {a : Array Value} (hn : L.length = nL) (hl : xL ls L) (hS : va_S ξ.2.2 κ.s.heap H locs) (hf : ∀ q, free q → ξ.2.2 q)
    {Q' : XQ} {X' : XX} (hq' : ∀ v μ', Q' v μ' → XG κ ξ nL (nc + mc) (ns + ms) μ' (pc + 3) L (v.toList ++ rest)) (hx' : ∀ E μ', X' E μ' → XGx κ ξ nL (nc + mc) (ns + ms) μ' pc L rest E) (hr : vx_Run κ.p κ.l κ.e κ.R κ.s κ.m κ.args κ.below κ.meth κ.c H locs nc ns mc ms (F0 κ.m pc ls st0) rest (xQn ξ Q' a) (xQx ξ X') free) : XKW κ H locs nc ns (F0 κ.m pc ls st0) := by
  intro T hT X
  have keep : ∀ {st₀ t T' : State} {L' : List Loc}, st₀.heap = H → T'.heap = t.heap → (∀ q ∈ L', free q.base) → va_F ξ.2.2 st₀ t → va_S ξ.2.2 κ.s.heap T'.heap (locs ++ L') := by
    intro st₀ t T' L' h0 e1 hL hF
    obtain ⟨hz, hk⟩ := hF
    rw [h0] at hz hk
    exact ⟨Nat.le_trans hS.1 (by rw [e1]; exact hz), fun q h1 h2 => by rw [e1, hk q (Nat.lt_of_lt_of_le h1 hS.1) h2]; exact hS.2.1 q h1 h2, fun q hq => by
      rcases List.mem_append.mp hq with h | h
      · exact hS.2.2 q h
      · exact hf _ (hL q h)⟩
  rcases hr T hT X with ⟨v, st₀, t, T', L', h0, X', hL, e1, e2, ⟨⟨v', μ', hv, hq, hx⟩, hF⟩, st⟩ | ⟨q, st₀, t, T', L', E, ce, h0, X', hL, e1, e2, ⟨⟨μ', hq, hx⟩, hF⟩, hce, hcv, hcl, st⟩
  · cases hv
    have hvm : t.vm.Alike κ.s.vm := by rw [← e2]; exact X'.warmed.alike.symm
    obtain ⟨t2, a1, b1⟩ := hq' _ _ hq hn T'.heap (locs ++ L') ls (by rw [e1]; exact hx.moved hvm) (keep h0 e1 hL hF) hl T' rfl X'
    exact ⟨t2, st t2 a1, b1⟩
  · have hvm : t.vm.Alike κ.s.vm := by rw [← e2]; exact X'.warmed.alike.symm
    obtain ⟨t2, a1, b1⟩ := hx' _ _ hq hn T'.heap (locs ++ L') ls q ce (by rw [e1]; exact hx.moved hvm) (keep h0 e1 hL hF) hl (by rw [e1]; exact hce) hcv hcl T' rfl X'
    exact ⟨t2, st.trans a1, b1⟩
theorem r_callVX (C : XCtx κ ξ cc own nL ret) {idx ci a : Nat} {y : MethodName} {b : ByteArray} {maxL : Nat} {cret : Option FieldType} {rm : Room} {n : Nat} {f : XSem} {As : List Value} (hM : XMetX κ.l y (.code y b maxL cret :: TW) rm f) (hd : decode cc pc = .ok (.invokevirtual idx, 3)) (hk : XLink κ own idx y b maxL cret rm n) (hi : Cond.instanceMethod y ∈ TW) (hs : Cond.selects (xC ci) y y ∈ TW) (hc : ci < 10) (ht : tg μ a = some (.inl ci)) (hA : As.length = n) (hW : (st.map fun v => v.category).sum ≤ 8) (hf : nc + rm.cells ≤ κ.R.cells ∧ ns + rm.slots ≤ κ.R.slots)
    {Q' : XQ} {X' : XX} (hq : ∀ v μ', Q' v μ' → XG κ ξ nL (nc + rm.cells) (ns + rm.slots) μ' (pc + 3) L (v.toList ++ st)) (hx : ∀ E μ', X' E μ' → XGx κ ξ nL (nc + rm.cells) (ns + rm.slots) μ' pc L st E) (h : f μ (.ref a :: As) Q' X') : XG κ ξ nL nc ns μ pc L (As.reverse ++ .ref a :: st) := by
  intro hn H locs ls hR hS hl
  exact x_nextX (As := As) hn hl hS (fun _ z => z) hq hx (vx_runV ⟨C.1, C.2.1, C.2.2.1, C.2.2.2.1, C.2.2.2.2.1⟩ (hM ξ μ (.ref a :: As) _ _ h) ⟨x_callB C hk, C.2.2.2.2.1 _ hi, C.2.2.2.2.1 _ hs⟩ ⟨(x_pre C hR hS (.ref a :: As)).1, x_recv C hR hc ht, (x_pre C hR hS (.ref a :: As)).2⟩ rfl hA (hl.1.trans hn) rfl (lv_room hW) hd hf)
theorem r_callSX (C : XCtx κ ξ cc own nL ret) {idx : Nat} {y : MethodName} {b : ByteArray} {maxL : Nat} {cret : Option FieldType} {rm : Room} {n : Nat} {f : XSem} {As : List Value} (hM : XMetX κ.l y (.code y b maxL cret :: TW) rm f) (hd : decode cc pc = .ok (.invokestatic idx, 3)) (hk : XLink κ own idx y b maxL cret rm n) (hst : Cond.static y ∈ TW) (hA : As.length = n) (hW : (st.map fun v => v.category).sum ≤ 8) (hf : nc + rm.cells ≤ κ.R.cells ∧ ns + rm.slots ≤ κ.R.slots)
    {Q' : XQ} {X' : XX} (hq : ∀ v μ', Q' v μ' → XG κ ξ nL (nc + rm.cells) (ns + rm.slots) μ' (pc + 3) L (v.toList ++ st)) (hx : ∀ E μ', X' E μ' → XGx κ ξ nL (nc + rm.cells) (ns + rm.slots) μ' pc L st E) (h : f μ As Q' X') : XG κ ξ nL nc ns μ pc L (As.reverse ++ st) := by
  intro hn H locs ls hR hS hl
  exact x_nextX (As := As) hn hl hS (fun _ z => z) hq hx (vx_runS ⟨C.1, C.2.1, C.2.2.1, C.2.2.2.1, C.2.2.2.2.1⟩ (hM ξ μ As _ _ h) ⟨x_callB C hk, C.2.2.2.2.1 _ hst⟩ (x_pre C hR hS As) rfl hA (hl.1.trans hn) rfl (lv_room hW) hd hf)
theorem xR.uF {H H' : Heap} {U : State} (hR : xR ξ μ U H) (hz : H.size ≤ H'.size) (oq : ∀ q : Nat, q < H.size → H'[q]? = H[q]?) : xR ξ (uF μ) U H' := by
  obtain ⟨⟨ws, hP, hD, hW⟩, -, hX⟩ := hR
  refine ⟨⟨ws, hP.kept (fun k q hk => oq q.1 (hP k q hk).lt), hD, hW.same (fun b => xc_same rfl rfl (fun _ => rfl) (fun _ => rfl) (fun _ => rfl) rfl rfl rfl rfl)⟩, (fun h => by cases h), hX.step ⟨fun b k h9 hb => ⟨hb, rfl, rfl⟩, fun k hk => rfl, fun b hb => hb⟩ hz (fun q hq _ => oq q hq)⟩
/-- 'throw new E("text")' -/
theorem r_throw (C : XCtx κ ξ cc own nL ret) {Q : XQ} {X : XX} {mc ms : Nat} (hQ : κ.Q = vx_MQ κ.below (xQn ξ Q) (xQx ξ X) κ.args κ.s mc ms ξ.2.2) (hl0 : κ.l.stackTraces = false) {cls text : String} {names : List String} {ik is ic : Nat} (hown8 : own = RX8) (hmsg : (is, text) ∈ xmsgs)
    (hcls : Bundle.fit cls = true) (hnames : ∀ n ∈ names, Bundle.fit n = true) (hk : Cond.classLink own ik cls ∈ TW) (hini : Cond.initialized cls ∈ TW) (hat : ∀ w ∈ vx_atS own ic cls names, w ∈ TW ∨ (∃ q ∈ xcastl, w = .castable q q) ∨ ∃ q ∈ xdecll, w = .declares q)
    (d0 : decode cc pc = .ok (.new ik, 3)) (d3 : decode cc (pc + 3) = .ok (.dup, 1)) (d4 : decode cc (pc + 4) = .ok (.ldc is, 2)) (d6 : decode cc (pc + 6) = .ok (.invokespecial ic, 3)) (d9 : decode cc (pc + 9) = .ok (.athrow, 1)) (hout : ∀ x ∈ κ.c.exceptionTable.toList, covers x (pc + 9) = false)
    (h1 : names.length + 3 < κ.R.frames) (h2 : (st.map fun v => v.category).sum + (13 * (names.length + 1) + 43) ≤ κ.R.locals) (h3 : nc + 1 ≤ κ.R.cells) (h4 : ns + 6 ≤ κ.R.slots) (h5 : nc + 1 ≤ mc) (h6 : ns + 6 ≤ ms) (hx : X cls (uF μ)) : XG κ ξ nL nc ns μ pc L st := by
  intro hn H locs ls hR hS hl
  obtain ⟨sa, hsa⟩ := C.z.2.2.1 _ hmsg
  unfold XKW
  rw [hQ]
  have hgood : ∀ w ∈ TW, vx_ot w = true := fun w hw => by
    have := (List.mem_filter.mp hw).2
    simp [vx_ot, this]
  refine vx_throwS C.1 C.2.1 hl0 C.2.2.2.1 hcls hnames (C.2.2.2.2.1 _ hk) (C.2.2.2.2.1 _ hini) (by rw [hown8]; exact hsa) (fun w hw => (hat w hw).elim (fun z => C.2.2.2.2.1 _ z) (fun z => z.elim (fun ⟨q, hq, z⟩ => by rw [z]; exact va_Nw.use rfl (C.z.2.2.2.2.2.2.2.1 q hq)) (fun ⟨q, hq, z⟩ => by rw [z]; exact va_Nw.use rfl (C.z.2.2.2.2.2.2.2.2.1 q hq)))) (fun w hw => ?_) C.z.1.1 C.z.2.1 hS (by rw [C.2.2.1, hl.1, hn]) d0 d3 d4 d6 d9 hout h1 h2 h3 h4 C.2.2.2.2.2.2.2.2.1 (fun t hW hz oq => ⟨⟨uF μ, hx, (hR.uF hz oq).moved hW⟩, ⟨Nat.le_trans hS.1 hz, fun q g1 g2 => (oq q (Nat.lt_of_lt_of_le g1 hS.1)).trans (hS.2.1 q g1 g2)⟩⟩) hS.2.2 h5 h6
  rcases List.mem_cons.mp hw with rfl | hw
  · exact hgood _ hk
  rcases List.mem_cons.mp hw with rfl | hw
  · exact hgood _ hini
  · rcases hat w hw with z | ⟨q, hq, z⟩ | ⟨q, hq, z⟩
    · exact hgood _ z
    · rw [z]; rfl
    · rw [z]; rfl
/-- .. the text by a wide entry -/
theorem r_throwW (C : XCtx κ ξ cc own nL ret) {Q : XQ} {X : XX} {mc ms : Nat} (hQ : κ.Q = vx_MQ κ.below (xQn ξ Q) (xQx ξ X) κ.args κ.s mc ms ξ.2.2) (hl0 : κ.l.stackTraces = false) {cls text : String} {names : List String} {ik is ic : Nat} (hown8 : own = RX8) (hmsg : (is, text) ∈ xmsgs)
    (hcls : Bundle.fit cls = true) (hnames : ∀ n ∈ names, Bundle.fit n = true) (hk : Cond.classLink own ik cls ∈ TW) (hini : Cond.initialized cls ∈ TW) (hat : ∀ w ∈ vx_atS own ic cls names, w ∈ TW ∨ (∃ q ∈ xcastl, w = .castable q q) ∨ ∃ q ∈ xdecll, w = .declares q)
    (d0 : decode cc pc = .ok (.new ik, 3)) (d3 : decode cc (pc + 3) = .ok (.dup, 1)) (d4 : decode cc (pc + 4) = .ok (.ldc_w is, 3)) (d6 : decode cc (pc + 7) = .ok (.invokespecial ic, 3)) (d9 : decode cc (pc + 10) = .ok (.athrow, 1)) (hout : ∀ x ∈ κ.c.exceptionTable.toList, covers x (pc + 10) = false)
    (h1 : names.length + 3 < κ.R.frames) (h2 : (st.map fun v => v.category).sum + (13 * (names.length + 1) + 43) ≤ κ.R.locals) (h3 : nc + 1 ≤ κ.R.cells) (h4 : ns + 6 ≤ κ.R.slots) (h5 : nc + 1 ≤ mc) (h6 : ns + 6 ≤ ms) (hx : X cls (uF μ)) : XG κ ξ nL nc ns μ pc L st := by
  intro hn H locs ls hR hS hl
  obtain ⟨sa, hsa⟩ := C.z.2.2.1 _ hmsg
  unfold XKW
  rw [hQ]
  have hgood : ∀ w ∈ TW, vx_ot w = true := fun w hw => by
    have := (List.mem_filter.mp hw).2
    simp [vx_ot, this]
  refine vx_throwSW C.1 C.2.1 hl0 C.2.2.2.1 hcls hnames (C.2.2.2.2.1 _ hk) (C.2.2.2.2.1 _ hini) (by rw [hown8]; exact hsa) (fun w hw => (hat w hw).elim (fun z => C.2.2.2.2.1 _ z) (fun z => z.elim (fun ⟨q, hq, z⟩ => by rw [z]; exact va_Nw.use rfl (C.z.2.2.2.2.2.2.2.1 q hq)) (fun ⟨q, hq, z⟩ => by rw [z]; exact va_Nw.use rfl (C.z.2.2.2.2.2.2.2.2.1 q hq)))) (fun w hw => ?_) C.z.1.1 C.z.2.1 hS (by rw [C.2.2.1, hl.1, hn]) d0 d3 d4 d6 d9 hout h1 h2 h3 h4 C.2.2.2.2.2.2.2.2.1 (fun t hW hz oq => ⟨⟨uF μ, hx, (hR.uF hz oq).moved hW⟩, ⟨Nat.le_trans hS.1 hz, fun q g1 g2 => (oq q (Nat.lt_of_lt_of_le g1 hS.1)).trans (hS.2.1 q g1 g2)⟩⟩) hS.2.2 h5 h6
  rcases List.mem_cons.mp hw with rfl | hw
  · exact hgood _ hk
  rcases List.mem_cons.mp hw with rfl | hw
  · exact hgood _ hini
  · rcases hat w hw with z | ⟨q, hq, z⟩ | ⟨q, hq, z⟩
    · exact hgood _ z
    · rw [z]; rfl
    · rw [z]; rfl
end XROWS10
/-- a method that returns or throws, without a table of its own -/
theorem XMetX.of {l : Launch} {y : MethodName} {b : ByteArray} {n : Nat} {ret : Option FieldType} {rm : Room} {f : XSem} (hy : plainName y.cls = true)
    (body : ∀ (κ : XK) (ξ : XE) (μ : XM) (as : List Value) (Q : XQ) (X : XX), XCtx κ ξ b y.cls n ret → κ.l = l → κ.R = rm → (∀ x ∈ κ.c.exceptionTable.toList, False) → κ.Q = vx_MQ κ.below (xQn ξ Q) (xQx ξ X) κ.args κ.s rm.cells rm.slots ξ.2.2 → f μ as Q X → (xarg as).length ≤ n ∧ XG κ ξ n 0 0 μ 0 (xentry n as) []) : XMetX l y (.code y b n ret :: TW) rm f := by
  intro ξ μ as Q X hf
  refine vx_ofW (cc := b) (maxL := n) (ret := ret) hy rfl ?_
  intro p e s m args below meth c s₁ B hml htab hv
  obtain ⟨rfl, hR, hK, hZ, hA⟩ := hv
  have hts := atoms_spec (ws := Cond.code y b n ret :: TW) B.pre
  obtain ⟨g1, g2⟩ := body (p, l, e, rm, s, m, as.toArray, below, meth, c, vx_MQ below (xQn ξ Q) (xQx ξ X) as.toArray s rm.cells rm.slots ξ.2.2) ξ μ as Q X ⟨B.exec, B.bytes, hml, findClass_of_methodNamed B.named, fun w hw => hts w (List.mem_cons_of_mem _ hw), hK, hA, B.returns, B.notSynchronized, hZ⟩ rfl rfl htab rfl hf
  rw [lg_entry_eq]
  exact g2 (xentry_len g1) s.heap [] _ hR va_S.rf (xentry_L g1)
