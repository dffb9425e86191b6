/-! ===== calls of what has a table, handlers, what is made anew ===== -/
/-- a method with a table of its own, that returns -/
def XMetH (l : Launch) (y : MethodName) (b : ByteArray) (n : Nat) (ret : Option FieldType) (hh : List (Nat × Nat × Nat × Nat)) (rm : Room) (f : XSem) : Prop := ∀ ξ μ as Q, f μ as Q (fun _ _ => False) → vx_Met l y (.codeWith y b n ret hh :: TW) rm (xPc ξ μ as) (xQn ξ Q) (xQx ξ (fun _ _ => False)) rm.cells rm.slots ξ.2.2
theorem XMetH.wp {l : Launch} {y : MethodName} {b : ByteArray} {rm : Room} {hh : List (Nat × Nat × Nat × Nat)} {I : XInfo} {Kf : XQ → XX → XKT} {fuel : Nat} (hy : plainName y.cls = true) (hI : XInfoOK l rm y.cls b false I) (he : ∀ pc, I.exc pc = none) (hn : ∀ pc E, I.hnd pc E = none)
    (hK : ∀ (κ : XK) (ξ : XE) (Q : XQ), XCtx κ ξ b y.cls I.nl I.ret → κ.l = l → κ.R = rm → κ.c.exceptionTable.toList = tableOf hh → XSet κ ξ b y.cls I.nl I.ret I Q (fun _ _ => False) → XKGood κ ξ I.nl I (Kf Q (fun _ _ => False))) : XMetH l y b I.nl I.ret hh rm (xsem I Kf fuel) := by
  intro ξ μ as Q hf
  refine vx_ofWH (cc := b) (maxL := I.nl) (ret := I.ret) (hh := hh) hy rfl ?_
  intro p e s m args below meth c s₁ B hml hv
  obtain ⟨rfl, hR, hKn, hZ, hA⟩ := hv
  have hts := atoms_spec (ws := Cond.codeWith y b I.nl I.ret hh :: TW) B.pre
  have ht := vx_table (x := y) B (hts _ List.mem_cons_self)
  obtain ⟨h0, hf⟩ := xbif hf
  have C : XCtx (p, l, e, rm, s, m, as.toArray, below, meth, c, vx_MQ below (xQn ξ Q) (xQx ξ (fun _ _ => False)) as.toArray s rm.cells rm.slots ξ.2.2) ξ b y.cls I.nl I.ret := ⟨B.exec, B.bytes, hml, findClass_of_methodNamed B.named, fun w hw => hts w (List.mem_cons_of_mem _ hw), hKn, hA, B.returns, B.notSynchronized, hZ⟩
  have S : XSet (p, l, e, rm, s, m, as.toArray, below, meth, c, vx_MQ below (xQn ξ Q) (xQx ξ (fun _ _ => False)) as.toArray s rm.cells rm.slots ξ.2.2) ξ b y.cls I.nl I.ret I Q (fun _ _ => False) := fun K hK => by
    refine xwp_ok C hI rfl rfl (fun z => by cases z) (fun H locs g hg => ?_) rfl rfl ⟨fun pc E h => (by rw [he] at h; cases h), fun pc E _ L s μ nc ns _ _ h => absurd h id, fun pc E hp h => by rw [hn] at h; cases h⟩ hK
    exact vx_ret hg
  have g2 := S _ (hK _ ξ Q C rfl rfl ht S) _ _ _ _ _ _ _ (Nat.zero_le _) (Nat.zero_le _) hf
  rw [lg_entry_eq]
  exact g2 (xentry_len (Nat.le_of_ble_eq_true h0)) s.heap [] _ hR va_S.rf (xentry_L (Nat.le_of_ble_eq_true h0))
def XLinkW (κ : XK) (own : String) (idx : Nat) (y : MethodName) (b : ByteArray) (maxL : Nat) (cret : Option FieldType) (hh : List (Nat × Nat × Nat × Nat)) (rm : Room) (n : Nat) : Prop :=
  Cond.codeWith y b maxL cret hh ∈ TW ∧ Cond.initialized y.cls ∈ TW ∧ Cond.methodLink own idx y ∈ TW ∧ Cond.static y ∈ TW ∧ (y.cls ≠ "java/lang/invoke/MethodHandle" ∧ y.cls ≠ "java/lang/invoke/VarHandle" ∧ (parseMethodDescriptor y.desc).map (fun d => d.parameters.length) = some n) ∧ (rm.frames + 1 ≤ κ.R.frames ∧ 8 + (maxL + 11) + rm.locals ≤ κ.R.locals)
section
variable {κ : XK} {ξ : XE} {cc : ByteArray} {own : String} {nL : Nat} {ret : Option FieldType} {nc ns : Nat} {μ : XM} {pc : Nat} {L : List (Option Value)} {st : List Value}
theorem r_callSH (C : XCtx κ ξ cc own nL ret) {idx : Nat} {y : MethodName} {b : ByteArray} {maxL : Nat} {cret : Option FieldType} {hh : List (Nat × Nat × Nat × Nat)} {rm : Room} {n : Nat} {f : XSem} {As : List Value} (hM : XMetH κ.l y b maxL cret hh rm f) (hd : decode cc pc = .ok (.invokestatic idx, 3)) (hk : XLinkW κ own idx y b maxL cret hh rm n) (hA : As.length = n) (hW : (st.map fun v => v.category).sum ≤ 8) (hf : nc + rm.cells ≤ κ.R.cells ∧ ns + rm.slots ≤ κ.R.slots)
    {Q' : XQ} (hq : ∀ v μ', Q' v μ' → XG κ ξ nL (nc + rm.cells) (ns + rm.slots) μ' (pc + 3) L (v.toList ++ st)) (h : f μ As Q' (fun _ _ => False)) : XG κ ξ nL nc ns μ pc L (As.reverse ++ st) := by
  intro hn H locs ls hR hS hl
  obtain ⟨k1, k2, k3, k4, k5, k6⟩ := hk
  have cw : vx_CSW κ.R κ.s κ.args own idx y b maxL cret hh (.codeWith y b maxL cret hh :: TW) rm rm.cells rm.slots n := vx_cwSW n C.2.2.2.2.1 (TW_goodIn (fun w hw => by
    unfold va_wsS at hw
    rcases List.mem_append.mp hw with h1 | h1
    · simp only [List.mem_cons, List.not_mem_nil, or_false] at h1
      rcases h1 with rfl | rfl | rfl
      · exact k3
      · exact k4
      · exact k2
    · rcases List.mem_cons.mp h1 with rfl | h2
      · exact k1
      · exact h2)) rfl rfl rfl k5 k6
  exact x_nextX (As := As) hn hl hS (fun _ z => z) hq (X' := fun _ _ => False) (fun E μ' z => absurd z id) (vx_runSX ⟨C.1, C.2.1, C.2.2.1, C.2.2.2.1, C.2.2.2.2.1⟩ (hM ξ μ As _ h) cw (x_pre C hR hS As) rfl hA (hl.1.trans hn) rfl (lv_room hW) hd hf)
/-- a call of what has a table -/
def xcallc (n mc ms rc rs : Nat) (f : XSem) (F : XFT) : XFT := fun L st μ nc ns => xtake st n fun s => nc + mc ≤ rc ∧ ns + ms ≤ rs ∧ f μ (st.take n).reverse (fun v μ1 => xretk 1 v fun vs => F L (vs ++ s) μ1 (nc + mc) (ns + ms)) (fun _ _ => False)
theorem xcallc_ok (C : XCtx κ ξ cc own nL ret) {idx : Nat} {y : MethodName} {b : ByteArray} {maxL : Nat} {cret : Option FieldType} {hh : List (Nat × Nat × Nat × Nat)} {rm : Room} {n mc ms rc rs : Nat} {f : XSem} {F : XFT} (hM : XMetH κ.l y b maxL cret hh rm f) (hd : decode cc pc = .ok (.invokestatic idx, 3)) (hk : XLinkW κ own idx y b maxL cret hh rm n) (hc : rm.cells = mc) (hs : rm.slots = ms) (hrc : rc = κ.R.cells) (hrs : rs = κ.R.slots) (hF : XFGood κ ξ nL (pc + 3) F) : XFGood κ ξ nL pc (xcallc n mc ms rc rs f F) := by
  intro L st μ nc ns h1 h2 h
  subst hc hs hrc hrs
  obtain ⟨s, e, hn, hw, g1, g2, g3⟩ := xtake_inv h
  rw [e]
  have := r_callSH (nc := nc) (ns := ns) (μ := μ) (L := L) (st := s) (As := (st.take n).reverse) C hM hd hk (by simp only [List.length_reverse, List.length_take]; omega) hw ⟨g1, g2⟩ (fun v μ' hq => hF L _ μ' _ _ g1 g2 (xretk_inv hq)) g3
  rw [List.reverse_reverse] at this
  exact this
/-- handlers by the class of what is thrown -/
def xhs : List (String × XFT) → String → (XFT → Prop) → Prop
  | [], _, _ => False
  | h :: l, E, k => (E = h.1 ∧ k h.2) ∨ xhs l E k
/-- a call of what throws, with handlers -/
def xcallh (rk ci n mc ms rc rs : Nat) (f : XSem) (F : XFT) (hs : List (String × XFT)) : XFT := fun L st μ nc ns => xtake st n fun s0 => xA s0 fun a s => tg μ a = some (.inl ci) ∧ nc + mc ≤ rc ∧ ns + ms ≤ rs ∧ f μ (.ref a :: (st.take n).reverse) (fun v μ1 => xretk rk v fun vs => F L (vs ++ s) μ1 (nc + mc) (ns + ms)) (fun E μ1 => xhs hs E (fun H => ∀ q : Nat, H L [.ref q] μ1 (nc + mc) (ns + ms)))
theorem xcallh_ok (C : XCtx κ ξ cc own nL ret) {rk idx ci : Nat} {y : MethodName} {b : ByteArray} {maxL : Nat} {cret : Option FieldType} {rm : Room} {n mc ms rc rs : Nat} {f : XSem} {F : XFT} {hs : List (String × XFT)} (hM : XMetX κ.l y (.code y b maxL cret :: TW) rm f) (hd : decode cc pc = .ok (.invokevirtual idx, 3)) (hk : XLink κ own idx y b maxL cret rm n) (hi : Cond.instanceMethod y ∈ TW) (hsel : Cond.selects (xC ci) y y ∈ TW) (hci : ci < 10) (hc : rm.cells = mc) (hs' : rm.slots = ms) (hrc : rc = κ.R.cells) (hrs : rs = κ.R.slots) (hF : XFGood κ ξ nL (pc + 3) F)
    (hX : ∀ E L s μ nc ns, nc ≤ κ.R.cells → ns ≤ κ.R.slots → xhs hs E (fun H => ∀ q : Nat, H L [.ref q] μ nc ns) → XGx κ ξ nL nc ns μ pc L s E) : XFGood κ ξ nL pc (xcallh rk ci n mc ms rc rs f F hs) := by
  intro L st μ nc ns h1 h2 h
  subst hc hs' hrc hrs
  obtain ⟨s0, e, hn, hw, h⟩ := xtake_inv h
  unfold xA at h
  split at h
  · rename_i a s
    obtain ⟨g0, g1, g2, g3⟩ := h
    rw [e]
    have := r_callVX (nc := nc) (ns := ns) (μ := μ) (L := L) (st := s) (As := (st.take n).reverse) C hM hd hk hi hsel hci g0 (by simp only [List.length_reverse, List.length_take]; omega) (xcat_tail hw) ⟨g1, g2⟩ (fun v μ' hq => hF L _ μ' _ _ g1 g2 (xretk_inv hq)) (fun E μ' hx => hX E L s μ' _ _ g1 g2 hx) g3
    rw [List.reverse_reverse] at this
    exact this
  · exact absurd h id
/-- one handler, two handlers -/
theorem xh_1 (C : XCtx κ ξ cc own nL ret) {e1 : String} {H1 : XFT} {x1 : ExceptionTableEntry} (ht : κ.c.exceptionTable.toList = [x1]) (v1 : covers x1 pc = true) (z1 : x1.catchType ≠ 0) (l1 : Cond.classLink own x1.catchType e1 ∈ TW) (c1 : e1 ∈ xcastl) (g1 : XFGood κ ξ nL x1.handlerPc H1) :
    ∀ E L s μ nc ns, nc ≤ κ.R.cells → ns ≤ κ.R.slots → xhs [(e1, H1)] E (fun H => ∀ q : Nat, H L [.ref q] μ nc ns) → XGx κ ξ nL nc ns μ pc L s E := by
  intro E L s μ nc ns b1 b2 h
  rcases h with ⟨rfl, h⟩ | h
  · exact r_catch C [] x1 [] ht (fun z hz => absurd hz List.not_mem_nil) v1 z1 l1 (va_Nw.use rfl (C.z.2.2.2.2.2.2.2.1 _ c1)) (fun q => g1 L _ μ nc ns b1 b2 (h q))
  · exact absurd h id
theorem xh_2 (C : XCtx κ ξ cc own nL ret) {H1 H2 : XFT} {x1 x2 : ExceptionTableEntry} (ht : κ.c.exceptionTable.toList = [x1, x2]) (v1 : covers x1 pc = true) (v2 : covers x2 pc = true) (z1 : x1.catchType ≠ 0) (z2 : x2.catchType ≠ 0) (l1 : Cond.classLink own x1.catchType "java/lang/IndexOutOfBoundsException" ∈ TW) (l2 : Cond.classLink own x2.catchType "java/lang/IllegalArgumentException" ∈ TW) (g1 : XFGood κ ξ nL x1.handlerPc H1) (g2 : XFGood κ ξ nL x2.handlerPc H2) :
    ∀ E L s μ nc ns, nc ≤ κ.R.cells → ns ≤ κ.R.slots → xhs [("java/lang/IndexOutOfBoundsException", H1), ("java/lang/IllegalArgumentException", H2)] E (fun H => ∀ q : Nat, H L [.ref q] μ nc ns) → XGx κ ξ nL nc ns μ pc L s E := by
  intro E L s μ nc ns b1 b2 h
  rcases h with ⟨rfl, h⟩ | ⟨rfl, h⟩ | h
  · exact r_catch C [] x1 [x2] ht (fun z hz => absurd hz List.not_mem_nil) v1 z1 l1 (va_Nw.use rfl (C.z.2.2.2.2.2.2.2.1 _ (show "java/lang/IndexOutOfBoundsException" ∈ xcastl by decide))) (fun q => g1 L _ μ nc ns b1 b2 (h q))
  · exact r_catch C [x1] x2 [] ht (fun z hz => by
      rw [List.mem_singleton] at hz
      subst hz
      exact Or.inr ⟨z1, _, C.2.2.2.2.1 _ l1, C.z.2.2.2.2.2.2.2.2.2⟩) v2 z2 l2 (va_Nw.use rfl (C.z.2.2.2.2.2.2.2.1 _ (show "java/lang/IllegalArgumentException" ∈ xcastl by decide))) (fun q => g2 L _ μ nc ns b1 b2 (h q))
  · exact absurd h id
/-- where the next cell comes is looked at again -/
def rT (μ : XM) (t : Nat) : XM := (gI μ, gL μ, gR μ, aI μ, aL μ, aD μ, aR μ, tg μ, ln μ, t, true)
def xok (o : Option (Nat ⊕ Nat)) : Prop := (∃ ci, ci < 10 ∧ o = some (.inl ci)) ∨ ∃ k, (k < 7 ∨ 9 ≤ k) ∧ o = some (.inr k)
def xfresh (F : XFT) : XFT := fun L st μ nc ns => ∀ t, (∀ a, xok (tg μ a) → a < t) → F L st (rT μ t) nc ns
theorem xR.lt {H : Heap} {U : State} (hR : xR ξ μ U H) {a : Nat} (ha : xok (tg μ a)) : a < H.size := by
  obtain ⟨⟨ws, hP, hD, hW⟩, hf, hX⟩ := hR
  have go : ∀ e, xc ξ.2.1 μ a = some e → a < H.size := fun e he => by
    obtain ⟨k, hk⟩ := (hW a e).mpr he
    exact vx_lt hP hk
  rcases ha with ⟨ci, hc, ht⟩ | ⟨k, hk, ht⟩
  · exact go _ (xc_obj ht hc)
  · rcases hk with hk | hk
    · have : ∃ e, xc ξ.2.1 μ a = some e := by
        rw [xc_row ht]
        have : k = 0 ∨ k = 1 ∨ k = 2 ∨ k = 3 ∨ k = 4 ∨ k = 5 ∨ k = 6 := by omega
        rcases this with rfl | rfl | rfl | rfl | rfl | rfl | rfl <;> exact ⟨_, rfl⟩
      obtain ⟨e, he⟩ := this
      exact go e he
    · exact (hX.1 a k hk ht).2.2
theorem xfresh_ok {F : XFT} (hF : XFGood κ ξ nL pc F) : XFGood κ ξ nL pc (xfresh F) := by
  intro L st μ nc ns h1 h2 h hn H locs ls hR hS hl
  refine hF L st (rT μ H.size) nc ns h1 h2 (h H.size (fun a ha => hR.lt ha)) hn H locs ls ?_ hS hl
  obtain ⟨⟨ws, hP, hD, hW⟩, hf, hX⟩ := hR
  exact ⟨⟨ws, hP, hD, hW.same (fun b => xc_same rfl rfl (fun _ => rfl) (fun _ => rfl) (fun _ => rfl) rfl rfl rfl rfl)⟩, fun _ => rfl, hX.step ⟨fun b k h9 hb => ⟨hb, rfl, rfl⟩, fun k hk => rfl, fun b hb => hb⟩ (Nat.le_refl _) (fun q _ _ => rfl)⟩
end
