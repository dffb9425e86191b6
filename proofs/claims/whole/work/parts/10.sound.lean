/-! ===== the walk is sound ===== -/
theorem xarr_int : Cond.arrayClass .int ∈ TW := TW_in 187 (by decide +kernel)
theorem xarr_boolean : Cond.arrayClass .boolean ∈ TW := TW_in 246 (by decide +kernel)
theorem xarr_byte : Cond.arrayClass .byte ∈ TW := TW_in 628 (by decide +kernel)
theorem xarr_long : Cond.arrayClass .long ∈ TW := TW_in 2132 (by decide +kernel)
theorem xarr_double : Cond.arrayClass .double ∈ TW := TW_in 2133 (by decide +kernel)
/-- what an entry of a class's pool for a call must have behind it -/
def XCallOK (κ : XK) (own : String) (k : Nat) (e : XCall) : Prop :=
  (e.kd = 0 → ∃ (y : MethodName) (b : ByteArray) (maxL : Nat) (cret : Option FieldType) (rm : Room), XMet κ.l y b maxL cret rm e.sem ∧ XLink κ own k y b maxL cret rm e.n ∧ Cond.static y ∈ TW ∧ rm.cells = e.mc ∧ rm.slots = e.ms) ∧
  (e.kd = 1 → ∃ (y : MethodName) (b : ByteArray) (maxL : Nat) (cret : Option FieldType) (rm : Room), XMet κ.l y b maxL cret rm e.sem ∧ XLink κ own k y b maxL cret rm e.n ∧ Cond.instanceMethod y ∈ TW ∧ Cond.selects (xC e.ci) y y ∈ TW ∧ e.ci < 10 ∧ rm.cells = e.mc ∧ rm.slots = e.ms) ∧
  (e.kd = 2 → ∃ (y : MethodName) (b : ByteArray) (maxL : Nat) (rm : Room), XMet κ.l y b maxL none rm e.sem ∧ XLink κ own k y b maxL none rm e.n ∧ Cond.instanceMethod y ∈ TW ∧ y.name = "<init>" ∧ rm.cells = e.mc ∧ rm.slots = e.ms) ∧
  (e.kd = 3 → ∃ (y : MethodName) (b : ByteArray) (maxL : Nat) (cret : Option FieldType) (rm : Room), XMet κ.l y b maxL cret rm e.sem ∧ XLinkN κ own k y b maxL cret rm e.n ∧ Cond.static y ∈ TW ∧ rm.cells = e.mc ∧ rm.slots = e.ms) ∧
  (e.kd = 4 → ∃ (y : MethodName) (b : ByteArray) (maxL : Nat) (rm : Room), XMet κ.l y b maxL none rm e.sem ∧ XLinkN κ own k y b maxL none rm e.n ∧ Cond.instanceMethod y ∈ TW ∧ y.name = "<init>" ∧ rm.cells = e.mc ∧ rm.slots = e.ms) ∧
  (e.kd = 5 → ∃ (y : MethodName) (b : ByteArray) (maxL : Nat) (cret : Option FieldType) (rm : Room), XMetX κ.l y (.code y b maxL cret :: TW) rm e.sem ∧ XLink κ own k y b maxL cret rm e.n ∧ Cond.instanceMethod y ∈ TW ∧ Cond.selects (xC e.ci) y y ∈ TW ∧ e.ci < 10 ∧ rm.cells = e.mc ∧ rm.slots = e.ms) ∧
  (e.kd = 6 → ∃ (y : MethodName) (b : ByteArray) (maxL : Nat) (cret : Option FieldType) (rm : Room), XMetX κ.l y (.code y b maxL cret :: TW) rm e.sem ∧ XLink κ own k y b maxL cret rm e.n ∧ Cond.static y ∈ TW ∧ rm.cells = e.mc ∧ rm.slots = e.ms) ∧
  (e.kd = 9 → ∃ (y : MethodName) (b : ByteArray) (maxL : Nat) (cret : Option FieldType) (rm : Room), XMet κ.l y b maxL cret rm e.sem ∧ XLink κ own k y b maxL cret rm e.n ∧ Cond.instanceMethod y ∈ TW ∧ Cond.selects "java/lang/String" y y ∈ TW ∧ rm.cells = e.mc ∧ rm.slots = e.ms) ∧
  (e.kd = 7 → Cond.methodLink own k Lib.objectInit ∈ TW ∧ Cond.instanceMethod Lib.objectInit ∈ TW ∧ Cond.code Lib.objectInit ⟨#[0xb1]⟩ 1 none ∈ TW ∧ 1 ≤ κ.R.frames ∧ 20 ≤ κ.R.locals) ∧
  (e.kd = 8 → Cond.methodLink own k arraycopyName ∈ TW ∧ Cond.native arraycopyName ∈ TW ∧ Cond.static arraycopyName ∈ TW ∧ Cond.initialized "java/lang/System" ∈ TW ∧ 1 ≤ κ.R.frames ∧ 8 + (nativeFrameWords "java/lang/System" "arraycopy" 5 + 11) ≤ κ.R.locals)
section XSND
variable {κ : XK} {ξ : XE} {cc : ByteArray} {own : String} {nL : Nat} {ret : Option FieldType} {nc ns : Nat} {μ : XM} {pc : Nat} {L : List (Option Value)} {st : List Value}
theorem x_recvS {H : Heap} (hR : xR ξ μ κ.s H) {a : Nat} (ht : tg μ a = some (.inr 10)) : ∃ cellB : Cell, H[a]? = some cellB ∧ cellB.vm.isStatics = false ∧ κ.s.vm.findClass "java/lang/String" = some cellB.cls := by
  obtain ⟨⟨⟨v, ⟨cell, h1, h2, h3, -⟩, -⟩, -⟩, -⟩ := hR.2.2.1 a 10 (by decide) ht
  exact ⟨cell, h1, h2, h3⟩
theorem r_callVS (C : XCtx κ ξ cc own nL ret) {idx a : Nat} {y : MethodName} {b : ByteArray} {maxL : Nat} {cret : Option FieldType} {rm : Room} {n : Nat} {f : XSem} {As : List Value} (hM : XMet κ.l y b maxL cret rm f) (hd : decode cc pc = .ok (.invokevirtual idx, 3)) (hk : XLink κ own idx y b maxL cret rm n) (hi : Cond.instanceMethod y ∈ TW) (hs : Cond.selects "java/lang/String" y y ∈ TW) (ht : tg μ a = some (.inr 10)) (hA : As.length = n) (hW : (st.map fun v => v.category).sum ≤ 8) (hf : nc + rm.cells ≤ κ.R.cells ∧ ns + rm.slots ≤ κ.R.slots)
    {Q' : XQ} (hq : ∀ v μ', Q' v μ' → XG κ ξ nL (nc + rm.cells) (ns + rm.slots) μ' (pc + 3) L (v.toList ++ st)) (h : f μ (.ref a :: As) Q' (fun _ _ => False)) : XG κ ξ nL nc ns μ pc L (As.reverse ++ .ref a :: st) := by
  intro hn H locs ls hR hS hl
  exact x_next (As := As) hn hl hS (fun _ z => z) hq (va_runV ⟨C.1, C.2.1, C.2.2.1, C.2.2.2.1, C.2.2.2.2.1⟩ (hM ξ μ (.ref a :: As) _ h) ⟨x_callB C hk, C.2.2.2.2.1 _ hi, C.2.2.2.2.1 _ hs⟩ ⟨(x_pre C hR hS (.ref a :: As)).1, x_recvS hR ht, (x_pre C hR hS (.ref a :: As)).2⟩ rfl hA (hl.1.trans hn) rfl (lv_room hW) hd hf)
theorem r_ldcS (C : XCtx κ ξ cc own nL ret) {k q a : Nat} (hd : decode cc pc = .ok (.ldc k, 2)) (hs : ∃ tx, (q, own, k, tx) ∈ xstrs) (hg : gR μ (2000 + q) 0 = some a) (kk : XG κ ξ nL nc ns μ (pc + 2) L (.ref a :: st)) : XG κ ξ nL nc ns μ pc L st := by
  intro hn H locs ls hR hS hl
  obtain ⟨tx, hq⟩ := hs
  have e := (hR.2.2.2 _ hq).1
  have ha : a = ξ.2.1 (100 + q) := Option.some.inj (hg.symm.trans e)
  subst ha
  exact va_ldcS C.1 C.2.1 C.2.2.2.1 (C.z.2.2.2.2.2.2.1 _ hq) hd (kk hn H locs ls hR hS hl)
theorem r_ldcSW (C : XCtx κ ξ cc own nL ret) {k q a : Nat} (hd : decode cc pc = .ok (.ldc_w k, 3)) (hs : ∃ tx, (q, own, k, tx) ∈ xstrs) (hg : gR μ (2000 + q) 0 = some a) (kk : XG κ ξ nL nc ns μ (pc + 3) L (.ref a :: st)) : XG κ ξ nL nc ns μ pc L st := by
  intro hn H locs ls hR hS hl
  obtain ⟨tx, hq⟩ := hs
  have e := (hR.2.2.2 _ hq).1
  have ha : a = ξ.2.1 (100 + q) := Option.some.inj (hg.symm.trans e)
  subst ha
  have hZ := C.z.2.2.2.2.2.2.1 _ hq
  intro T hT X
  obtain ⟨t, a1, b1⟩ := kk hn H locs ls hR hS hl T hT X
  refine ⟨t, X.ldcStringW C.1 C.2.2.2.1 (text := tx) (a := ξ.2.1 (100 + q)) hZ.1 hZ.2 (g := F0 κ.m pc ls st) rfl (by rw [C.2.1]; exact hd) t a1, b1⟩
/-- a jump: to a cut point with what is live there, or on -/
theorem xgo_ok {I : XInfo} {K ih : Nat → List (Option Value) → List Value → XM → Nat → Nat → Prop} (hK : ∀ pc bs, I.cut pc = some bs → ∀ L st μ nc ns, nc ≤ κ.R.cells → ns ≤ κ.R.slots → K pc (xmask bs L) st μ nc ns → XG κ ξ nL nc ns μ pc (xmask bs L) st) (hih : ∀ pc L st μ nc ns, nc ≤ κ.R.cells → ns ≤ κ.R.slots → ih pc L st μ nc ns → XG κ ξ nL nc ns μ pc L st) :
    ∀ pc L st μ nc ns, nc ≤ κ.R.cells → ns ≤ κ.R.slots → xgo I K ih pc L st μ nc ns → XG κ ξ nL nc ns μ pc L st := by
  intro pc L st μ nc ns h1 h2 h
  unfold xgo at h
  split at h
  · rename_i bs hb
    have hg := hK pc bs hb L st μ nc ns h1 h2 h
    intro hn H locs ls hR hS hl
    exact hg (by rw [xmask_len]; exact hn) H locs ls hR hS (hl.less (xmask_len bs L) (xmask_at bs L))
  · exact hih _ _ _ _ _ _ h1 h2 h
theorem xretk_go {rk : Nat} {v : Option Value} {s : List Value} {go : Nat → List (Option Value) → List Value → XM → Nat → Nat → Prop} {pc nc ns : Nat} {μ : XM} (h1 : nc ≤ κ.R.cells) (h2 : ns ≤ κ.R.slots) (hgo : ∀ pc L st μ nc ns, nc ≤ κ.R.cells → ns ≤ κ.R.slots → go pc L st μ nc ns → XG κ ξ nL nc ns μ pc L st) (h : xretk rk v fun vs => go pc L (vs ++ s) μ nc ns) : XG κ ξ nL nc ns μ pc L (v.toList ++ s) :=
  hgo _ _ _ _ _ _ h1 h2 (xretk_inv h)
set_option maxHeartbeats 4000000 in
theorem xstep_ok (C : XCtx κ ξ cc own nL ret) {I : XInfo} {Q : XQ} {X : XX} {go : Nat → List (Option Value) → List Value → XM → Nat → Nat → Prop} {ins : Instr} {len tgt : Nat}
    (hd : decode cc pc = .ok (ins, (ilen ins).getD len)) (htgt : itgt pc ins tgt = true)
    (hgo : ∀ pc L st μ nc ns, nc ≤ κ.R.cells → ns ≤ κ.R.slots → go pc L st μ nc ns → XG κ ξ nL nc ns μ pc L st)
    (hE : XEnd κ ξ κ.R.cells κ.R.slots Q) (hret : ret = I.ret) (hnl : I.nl = nL) (hrc : I.rc = κ.R.cells) (hrs : I.rs = κ.R.slots)
    (hfld : ∀ k ci j, I.fld k = some (ci, j) → Cond.fieldLink own k (xT ci j).1 (xT ci j).2.1 (xT ci j).2.2.1 ∈ TW ∧ ci < 10 ∧ j < xN ci)
    (hpf : ∀ k ci j, I.pf k = some (ci, j) → Cond.fieldLink own k (xT ci j).1 (xT ci j).2.1 (xT ci j).2.2.1 ∈ TW ∧ ci < 10 ∧ j < xN ci ∧ ((xT ci j).2.2.2 = false ∨ ((xT ci j).1 = own ∧ κ.meth.name = "<init>")))
    (hcal : ∀ k e, I.cal k = some e → XCallOK κ own k e)
    (hnw : ∀ k ci, I.nw k = some ci → ci < 10 ∧ Cond.classLink own k (xC ci) ∈ TW ∧ Cond.instantiable (xC ci) (xN ci) ∈ TW ∧ Cond.initialized (xC ci) ∈ TW)
    (han : (∀ k, I.an k = some 5 → Cond.classLink own k RX7 ∈ TW) ∧ ∀ k, I.an k = some 6 → Cond.classLink own k RX3 ∈ TW)
    (hcst : (∀ k v, I.cst k = some (.int v) → Cond.constant own k v ∈ TW) ∧ ∀ k v, I.cst k = some (.long v) → Cond.constantLong own k v ∈ TW)
    (hstr : ∀ k q, I.str k = some q → ∃ tx, (q, own, k, tx) ∈ xstrs)
    (hexc : ∀ E, I.exc pc = some E → ∀ nc ns μ L, nc + 1 ≤ κ.R.cells → ns + 6 ≤ κ.R.slots → X E (uF μ) → XG κ ξ nL nc ns μ pc L [])
    (hthr : ∀ L s E μ nc ns, nc ≤ κ.R.cells → ns ≤ κ.R.slots → (match I.hnd pc E with | some hp => ∀ q : Nat, go hp L (.ref q :: []) μ nc ns | none => X E μ) → XGx κ ξ nL nc ns μ pc L s E)
    (hsw : (∀ dflt lo hi offs, ins = .tableswitch dflt lo hi offs → ∀ (x : Int32) (t : Nat), (I.sw pc).map (fun q => xswt q.1 q.2 x) = some t → ((x.toInt < lo ∨ hi < x.toInt) ∧ (pc : Int) + dflt = (t : Int)) ∨ ∃ off, ¬ x.toInt < lo ∧ ¬ hi < x.toInt ∧ offs[(x.toInt - lo).toNat]? = some off ∧ (pc : Int) + off = (t : Int)) ∧ ∀ dflt ps, ins = .lookupswitch dflt ps → ∀ (x : Int32) (t : Nat), (I.sw pc).map (fun q => xswt q.1 q.2 x) = some t → (ps.toList.zip (ps.toList.drop 1)).all (fun (a, next) => a.1 < next.1) = true ∧ (pc : Int) + Op.lookupswitch.offset ps.toList dflt x.toInt = (t : Int))
    (h1 : nc ≤ κ.R.cells) (h2 : ns ≤ κ.R.slots) (h : xstep I Q X go pc L st μ nc ns ins tgt) : XG κ ξ nL nc ns μ pc L st := by
  cases ins with
  | iadd =>
    obtain ⟨x, y, s, rfl, h⟩ := xII_inv h; exact r_iadd C hd (hgo _ _ _ _ _ _ h1 h2 h)
  | isub =>
    obtain ⟨x, y, s, rfl, h⟩ := xII_inv h; exact r_isub C hd (hgo _ _ _ _ _ _ h1 h2 h)
  | imul =>
    obtain ⟨x, y, s, rfl, h⟩ := xII_inv h; exact r_imul C hd (hgo _ _ _ _ _ _ h1 h2 h)
  | iand =>
    obtain ⟨x, y, s, rfl, h⟩ := xII_inv h; exact r_iand C hd (hgo _ _ _ _ _ _ h1 h2 h)
  | ior =>
    obtain ⟨x, y, s, rfl, h⟩ := xII_inv h; exact r_ior C hd (hgo _ _ _ _ _ _ h1 h2 h)
  | ixor =>
    obtain ⟨x, y, s, rfl, h⟩ := xII_inv h; exact r_ixor C hd (hgo _ _ _ _ _ _ h1 h2 h)
  | ishl =>
    obtain ⟨x, y, s, rfl, h⟩ := xII_inv h; exact r_ishl C hd (hgo _ _ _ _ _ _ h1 h2 h)
  | ishr =>
    obtain ⟨x, y, s, rfl, h⟩ := xII_inv h; exact r_ishr C hd (hgo _ _ _ _ _ _ h1 h2 h)
  | iushr =>
    obtain ⟨x, y, s, rfl, h⟩ := xII_inv h; exact r_iushr C hd (hgo _ _ _ _ _ _ h1 h2 h)
  | idiv =>
    obtain ⟨x, y, s, rfl, h⟩ := xII_inv h; obtain ⟨h0, h⟩ := h; exact r_idiv C hd h0 (hgo _ _ _ _ _ _ h1 h2 h)
  | irem =>
    obtain ⟨x, y, s, rfl, h⟩ := xII_inv h; obtain ⟨h0, h⟩ := h; exact r_irem C hd h0 (hgo _ _ _ _ _ _ h1 h2 h)
  | ineg =>
    obtain ⟨x, s, rfl, h⟩ := xI_inv h; exact r_ineg C hd (hgo _ _ _ _ _ _ h1 h2 h)
  | ladd =>
    obtain ⟨x, y, s, rfl, h⟩ := xJJ_inv h; exact r_ladd C hd (hgo _ _ _ _ _ _ h1 h2 h)
  | lsub =>
    obtain ⟨x, y, s, rfl, h⟩ := xJJ_inv h; exact r_lsub C hd (hgo _ _ _ _ _ _ h1 h2 h)
  | lmul =>
    obtain ⟨x, y, s, rfl, h⟩ := xJJ_inv h; exact r_lmul C hd (hgo _ _ _ _ _ _ h1 h2 h)
  | land =>
    obtain ⟨x, y, s, rfl, h⟩ := xJJ_inv h; exact r_land C hd (hgo _ _ _ _ _ _ h1 h2 h)
  | lor =>
    obtain ⟨x, y, s, rfl, h⟩ := xJJ_inv h; exact r_lor C hd (hgo _ _ _ _ _ _ h1 h2 h)
  | lxor =>
    obtain ⟨x, y, s, rfl, h⟩ := xJJ_inv h; exact r_lxor C hd (hgo _ _ _ _ _ _ h1 h2 h)
  | lushr =>
    obtain ⟨x, y, s, rfl, h⟩ := xJI_inv h; exact r_lushr C hd (hgo _ _ _ _ _ _ h1 h2 h)
  | lshl =>
    obtain ⟨x, y, s, rfl, h⟩ := xJI_inv h; exact r_lshl C hd (hgo _ _ _ _ _ _ h1 h2 h)
  | lcmp =>
    obtain ⟨x, y, s, rfl, h⟩ := xJJ_inv h; exact r_lcmp C hd (hgo _ _ _ _ _ _ h1 h2 h)
  | dcmp op =>
    obtain ⟨x, y, s, rfl, h⟩ := xDD_inv h; exact r_dcmp C hd (hgo _ _ _ _ _ _ h1 h2 h)
  | ddiv =>
    obtain ⟨x, y, s, rfl, h⟩ := xDD_inv h; obtain ⟨h0, h⟩ := h; exact r_ddiv C hd h0 (hgo _ _ _ _ _ _ h1 h2 h)
  | i2d =>
    obtain ⟨x, s, rfl, h⟩ := xI_inv h; exact r_i2d C hd (hgo _ _ _ _ _ _ h1 h2 h)
  | i2l =>
    obtain ⟨x, s, rfl, h⟩ := xI_inv h; exact r_i2l C hd (hgo _ _ _ _ _ _ h1 h2 h)
  | l2i =>
    obtain ⟨x, s, rfl, h⟩ := xJ_inv h; exact r_l2i C hd (hgo _ _ _ _ _ _ h1 h2 h)
  | i2b =>
    obtain ⟨x, s, rfl, h⟩ := xI_inv h; exact r_i2b C hd (hgo _ _ _ _ _ _ h1 h2 h)
  | i2c =>
    obtain ⟨x, s, rfl, h⟩ := xI_inv h; exact r_i2c C hd (hgo _ _ _ _ _ _ h1 h2 h)
  | dconst d =>
    obtain ⟨rfl, h⟩ := h; exact r_dconst0 C hd (hgo _ _ _ _ _ _ h1 h2 h)
  | iconst k =>
    exact r_iconst C hd (hgo _ _ _ _ _ _ h1 h2 h)
  | bipush k =>
    exact r_bipush C hd (hgo _ _ _ _ _ _ h1 h2 h)
  | sipush k =>
    exact r_sipush C hd (hgo _ _ _ _ _ _ h1 h2 h)
  | lconst k =>
    exact r_lconst C hd (hgo _ _ _ _ _ _ h1 h2 h)
  | aconst_null =>
    exact r_null C hd (hgo _ _ _ _ _ _ h1 h2 h)
  | dup =>
    obtain ⟨v, s, rfl, h0, h⟩ := xV_inv h; exact r_dup C hd h0 (hgo _ _ _ _ _ _ h1 h2 h)
  | pop =>
    obtain ⟨v, s, rfl, h0, h⟩ := xV_inv h; exact r_pop C hd h0 (hgo _ _ _ _ _ _ h1 h2 h)
  | dup2 =>
    obtain ⟨v, s, rfl, h⟩ := xV_inv h; obtain ⟨w, s, rfl, h0, h00, h⟩ := xV_inv h; exact r_dup2 C hd h0 h00 (hgo _ _ _ _ _ _ h1 h2 h)
  | iload_n k =>
    obtain ⟨x, h0, h⟩ := xlI_inv h; exact r_iload_n C hd h0 (hgo _ _ _ _ _ _ h1 h2 h)
  | iload k =>
    obtain ⟨x, h0, h⟩ := xlI_inv h; exact r_iload C hd h0 (hgo _ _ _ _ _ _ h1 h2 h)
  | lload_n k =>
    obtain ⟨x, h0, h⟩ := xlJ_inv h; exact r_lload_n C hd h0 (hgo _ _ _ _ _ _ h1 h2 h)
  | lload k =>
    obtain ⟨x, h0, h⟩ := xlJ_inv h; exact r_lload C hd h0 (hgo _ _ _ _ _ _ h1 h2 h)
  | dload_n k =>
    obtain ⟨x, h0, h⟩ := xlD_inv h; exact r_dload_n C hd h0 (hgo _ _ _ _ _ _ h1 h2 h)
  | dload k =>
    obtain ⟨x, h0, h⟩ := xlD_inv h; exact r_dload C hd h0 (hgo _ _ _ _ _ _ h1 h2 h)
  | aload_n k =>
    rcases xlA_inv h with ⟨a, h0, h⟩ | ⟨h0, h⟩; exact r_aload_n C hd h0 (hgo _ _ _ _ _ _ h1 h2 h); exact r_aload_nN C hd h0 (hgo _ _ _ _ _ _ h1 h2 h)
  | aload k =>
    rcases xlA_inv h with ⟨a, h0, h⟩ | ⟨h0, h⟩; exact r_aload C hd h0 (hgo _ _ _ _ _ _ h1 h2 h); exact r_aloadN C hd h0 (hgo _ _ _ _ _ _ h1 h2 h)
  | istore_n k =>
    obtain ⟨x, s, rfl, h⟩ := xI_inv h; obtain ⟨h0, h⟩ := xbif h; exact r_istore_n C hd (hnl ▸ Nat.le_of_ble_eq_true h0) (hgo _ _ _ _ _ _ h1 h2 h)
  | istore k =>
    obtain ⟨x, s, rfl, h⟩ := xI_inv h; obtain ⟨h0, h⟩ := xbif h; exact r_istore C hd (hnl ▸ Nat.le_of_ble_eq_true h0) (hgo _ _ _ _ _ _ h1 h2 h)
  | lstore_n k =>
    obtain ⟨x, s, rfl, h⟩ := xJ_inv h; obtain ⟨h0, h⟩ := xbif h; exact r_lstore_n C hd (hnl ▸ Nat.le_of_ble_eq_true h0) (hgo _ _ _ _ _ _ h1 h2 h)
  | lstore k =>
    obtain ⟨x, s, rfl, h⟩ := xJ_inv h; obtain ⟨h0, h⟩ := xbif h; exact r_lstore C hd (hnl ▸ Nat.le_of_ble_eq_true h0) (hgo _ _ _ _ _ _ h1 h2 h)
  | dstore_n k =>
    obtain ⟨x, s, rfl, h⟩ := xD_inv h; obtain ⟨h0, h⟩ := xbif h; exact r_dstore_n C hd (hnl ▸ Nat.le_of_ble_eq_true h0) (hgo _ _ _ _ _ _ h1 h2 h)
  | dstore k =>
    obtain ⟨x, s, rfl, h⟩ := xD_inv h; obtain ⟨h0, h⟩ := xbif h; exact r_dstore C hd (hnl ▸ Nat.le_of_ble_eq_true h0) (hgo _ _ _ _ _ _ h1 h2 h)
  | astore_n k =>
    obtain ⟨h0, h⟩ := xbif h; rcases xAn_inv h with ⟨a, s, rfl, h⟩ | ⟨s, rfl, h⟩; exact r_astore_n C hd (hnl ▸ Nat.le_of_ble_eq_true h0) (hgo _ _ _ _ _ _ h1 h2 h); exact r_astore_nN C hd (hnl ▸ Nat.le_of_ble_eq_true h0) (hgo _ _ _ _ _ _ h1 h2 h)
  | astore k =>
    obtain ⟨h0, h⟩ := xbif h; rcases xAn_inv h with ⟨a, s, rfl, h⟩ | ⟨s, rfl, h⟩; exact r_astore C hd (hnl ▸ Nat.le_of_ble_eq_true h0) (hgo _ _ _ _ _ _ h1 h2 h); exact r_astoreN C hd (hnl ▸ Nat.le_of_ble_eq_true h0) (hgo _ _ _ _ _ _ h1 h2 h)
  | iinc k v =>
    obtain ⟨x, h0, h⟩ := xlI_inv h; exact r_iinc C hd h0 (hgo _ _ _ _ _ _ h1 h2 h)
  | ifCond cnd off =>
    have htg := of_decide_eq_true htgt
    cases cnd with
    | eq => obtain ⟨x, s, rfl, h9⟩ := xI_inv h; exact r_if_eq C hd htg (fun c => hgo _ _ _ _ _ _ h1 h2 (by rw [if_pos c] at h9; exact h9)) (fun c => hgo _ _ _ _ _ _ h1 h2 (by rw [if_neg c] at h9; exact h9))
    | ne => obtain ⟨x, s, rfl, h9⟩ := xI_inv h; exact r_if_ne C hd htg (fun c => hgo _ _ _ _ _ _ h1 h2 (by rw [if_neg c] at h9; exact h9)) (fun c => hgo _ _ _ _ _ _ h1 h2 (by rw [if_pos c] at h9; exact h9))
    | lt => obtain ⟨x, s, rfl, h9⟩ := xI_inv h; exact r_if_lt C hd htg (fun c => hgo _ _ _ _ _ _ h1 h2 (by rw [if_pos c] at h9; exact h9)) (fun c => hgo _ _ _ _ _ _ h1 h2 (by rw [if_neg c] at h9; exact h9))
    | ge => obtain ⟨x, s, rfl, h9⟩ := xI_inv h; exact r_if_ge C hd htg (fun c => hgo _ _ _ _ _ _ h1 h2 (by rw [if_pos c] at h9; exact h9)) (fun c => hgo _ _ _ _ _ _ h1 h2 (by rw [if_neg c] at h9; exact h9))
    | gt => obtain ⟨x, s, rfl, h9⟩ := xI_inv h; exact r_if_gt C hd htg (fun c => hgo _ _ _ _ _ _ h1 h2 (by rw [if_pos c] at h9; exact h9)) (fun c => hgo _ _ _ _ _ _ h1 h2 (by rw [if_neg c] at h9; exact h9))
    | le => obtain ⟨x, s, rfl, h9⟩ := xI_inv h; exact r_if_le C hd htg (fun c => hgo _ _ _ _ _ _ h1 h2 (by rw [if_pos c] at h9; exact h9)) (fun c => hgo _ _ _ _ _ _ h1 h2 (by rw [if_neg c] at h9; exact h9))
  | if_icmp cnd off =>
    have htg := of_decide_eq_true htgt
    cases cnd with
    | eq => obtain ⟨x, y, s, rfl, h9⟩ := xII_inv h; exact r_icmp_eq C hd htg (fun c => hgo _ _ _ _ _ _ h1 h2 (by rw [if_pos c] at h9; exact h9)) (fun c => hgo _ _ _ _ _ _ h1 h2 (by rw [if_neg c] at h9; exact h9))
    | ne => obtain ⟨x, y, s, rfl, h9⟩ := xII_inv h; exact r_icmp_ne C hd htg (fun c => hgo _ _ _ _ _ _ h1 h2 (by rw [if_neg c] at h9; exact h9)) (fun c => hgo _ _ _ _ _ _ h1 h2 (by rw [if_pos c] at h9; exact h9))
    | lt => obtain ⟨x, y, s, rfl, h9⟩ := xII_inv h; exact r_icmp_lt C hd htg (fun c => hgo _ _ _ _ _ _ h1 h2 (by rw [if_pos c] at h9; exact h9)) (fun c => hgo _ _ _ _ _ _ h1 h2 (by rw [if_neg c] at h9; exact h9))
    | ge => obtain ⟨x, y, s, rfl, h9⟩ := xII_inv h; exact r_icmp_ge C hd htg (fun c => hgo _ _ _ _ _ _ h1 h2 (by rw [if_pos c] at h9; exact h9)) (fun c => hgo _ _ _ _ _ _ h1 h2 (by rw [if_neg c] at h9; exact h9))
    | gt => obtain ⟨x, y, s, rfl, h9⟩ := xII_inv h; exact r_icmp_gt C hd htg (fun c => hgo _ _ _ _ _ _ h1 h2 (by rw [if_pos c] at h9; exact h9)) (fun c => hgo _ _ _ _ _ _ h1 h2 (by rw [if_neg c] at h9; exact h9))
    | le => obtain ⟨x, y, s, rfl, h9⟩ := xII_inv h; exact r_icmp_le C hd htg (fun c => hgo _ _ _ _ _ _ h1 h2 (by rw [if_pos c] at h9; exact h9)) (fun c => hgo _ _ _ _ _ _ h1 h2 (by rw [if_neg c] at h9; exact h9))
  | goto off =>
    have htg := of_decide_eq_true htgt
    exact r_goto C hd htg (hgo _ _ _ _ _ _ h1 h2 h)
  | ifnull off =>
    have htg := of_decide_eq_true htgt
    rcases xAn_inv h with ⟨a, s, rfl, h⟩ | ⟨s, rfl, h⟩; exact r_ifnull C hd (hgo _ _ _ _ _ _ h1 h2 h); exact r_ifnullN C hd htg (hgo _ _ _ _ _ _ h1 h2 h)
  | ifnonnull off =>
    have htg := of_decide_eq_true htgt
    rcases xAn_inv h with ⟨a, s, rfl, h⟩ | ⟨s, rfl, h⟩; exact r_ifnonnull C hd htg (hgo _ _ _ _ _ _ h1 h2 h); exact r_ifnonnullN C hd (hgo _ _ _ _ _ _ h1 h2 h)
  | tableswitch dflt lo hi offs =>
    obtain ⟨x, s, rfl, h⟩ := xI_inv h; obtain ⟨t, ht, h⟩ := xswitch_inv h; rcases hsw.1 dflt lo hi offs rfl x t ht with ⟨g1, g2⟩ | ⟨off, g1, g2, g3, g4⟩; exact r_tableOut C hd g1 g2 (hgo _ _ _ _ _ _ h1 h2 h); exact r_tableIn C hd g1 g2 g3 g4 (hgo _ _ _ _ _ _ h1 h2 h)
  | lookupswitch dflt ps =>
    obtain ⟨x, s, rfl, h⟩ := xI_inv h; obtain ⟨t, ht, h⟩ := xswitch_inv h; obtain ⟨g1, g2⟩ := hsw.2 dflt ps rfl x t ht; exact r_lookup C hd g1 g2 (hgo _ _ _ _ _ _ h1 h2 h)
  | ldc k =>
    cases hq : I.str k with
    | some q => simp only [xstep, hq, cond] at h; obtain ⟨a, g, h⟩ := h; exact r_ldcS C hd (hstr k q hq) g (hgo _ _ _ _ _ _ h1 h2 h)
    | none =>
      cases hv : I.cst k with
      | none => simp [xstep, hq, hv] at h
      | some v => cases v <;> first | (simp [xstep, hq, hv] at h; done) | (simp only [xstep, hq, hv] at h; exact r_ldc C hd (hcst.1 k _ hv) (hgo _ _ _ _ _ _ h1 h2 h))
  | ldc_w k =>
    cases hq : I.str k with
    | some q => simp only [xstep, hq, cond] at h; obtain ⟨a, g, h⟩ := h; exact r_ldcSW C hd (hstr k q hq) g (hgo _ _ _ _ _ _ h1 h2 h)
    | none =>
      cases hv : I.cst k with
      | none => simp [xstep, hq, hv] at h
      | some v => cases v <;> first | (simp [xstep, hq, hv] at h; done) | (simp only [xstep, hq, hv] at h; exact r_ldcw C hd (hcst.1 k _ hv) (hgo _ _ _ _ _ _ h1 h2 h))
  | ldc2_w k =>
    cases hv : I.cst k with
    | none => simp [xstep, hv] at h
    | some v => cases v <;> first | (simp [xstep, hv] at h; done) | (simp only [xstep, hv] at h; exact r_ldc2 C hd (hcst.2 k _ hv) (hgo _ _ _ _ _ _ h1 h2 h))
  | getfield k =>
    cases hq : I.fld k with
    | none => simp [xstep, hq] at h
    | some q =>
      obtain ⟨ci, j⟩ := q
      simp only [xstep, hq] at h
      obtain ⟨w1, w2, w3⟩ := hfld k ci j hq
      obtain ⟨a, s, rfl, h0, h⟩ := xA_inv h
      obtain ⟨v, hv, h⟩ := xgetv_inv h
      subst hv
      exact r_get C hd w1 w2 w3 h0 (hgo _ _ _ _ _ _ h1 h2 h)
  | putfield k =>
    cases hq : I.pf k with
    | none => simp [xstep, hq] at h
    | some q =>
      obtain ⟨ci, j⟩ := q
      simp only [xstep, hq] at h
      obtain ⟨w1, w2, w3, w5⟩ := hpf k ci j hq
      rcases xputv_inv h with ⟨a, x, s, rfl, ht, h0, h⟩ | ⟨a, x, s, rfl, ht, hz, hz2, h0, h⟩ | ⟨a, x, s, rfl, ht, h0, h⟩ | ⟨a, x, s, rfl, ht, h0, h⟩
      · exact r_putI C hd w1 w2 w3 h0 w5 ht (hgo _ _ _ _ _ _ h1 h2 h)
      · exact r_putZ C hd w1 w2 w3 h0 w5 ht hz hz2 (hgo _ _ _ _ _ _ h1 h2 h)
      · exact r_putL C hd w1 w2 w3 h0 w5 ht (hgo _ _ _ _ _ _ h1 h2 h)
      · exact r_putR (v := some x) C hd w1 w2 w3 h0 w5 ht (hgo _ _ _ _ _ _ h1 h2 h)
  | arraylength =>
    obtain ⟨a, s, rfl, ⟨k, hk, h0⟩, h⟩ := xA_inv h
    rcases hk with hk | rfl
    · match k, hk with
      | 0, _ => exact r_alen0 C hd h0 (hgo _ _ _ _ _ _ h1 h2 h)
      | 1, _ => exact r_alen1 C hd h0 (hgo _ _ _ _ _ _ h1 h2 h)
      | 2, _ => exact r_alen2 C hd h0 (hgo _ _ _ _ _ _ h1 h2 h)
      | 3, _ => exact r_alen3 C hd h0 (hgo _ _ _ _ _ _ h1 h2 h)
      | 4, _ => exact r_alen4 C hd h0 (hgo _ _ _ _ _ _ h1 h2 h)
      | 5, _ => exact r_alen5 C hd h0 (hgo _ _ _ _ _ _ h1 h2 h)
      | 6, _ => exact r_alen6 C hd h0 (hgo _ _ _ _ _ _ h1 h2 h)
    · exact r_slen C hd h0 (hgo _ _ _ _ _ _ h1 h2 h)
  | iaload =>
    obtain ⟨i, a, s, rfl, h0, hin, h⟩ := xIA_inv h; rcases h0 with h0 | h0; exact r_iald C hd h0 hin (hgo _ _ _ _ _ _ h1 h2 h); exact r_sld C hd h0 hin (hgo _ _ _ _ _ _ h1 h2 h)
  | baload =>
    obtain ⟨i, a, s, rfl, h0, hin, h⟩ := xIA_inv h; rcases h0 with h0 | h0; exact r_zald C hd h0 hin (hgo _ _ _ _ _ _ h1 h2 h); exact r_bald C hd h0 hin (hgo _ _ _ _ _ _ h1 h2 h)
  | laload =>
    obtain ⟨i, a, s, rfl, h0, hin, h⟩ := xIA_inv h; exact r_lald C hd h0 hin (hgo _ _ _ _ _ _ h1 h2 h)
  | daload =>
    obtain ⟨i, a, s, rfl, h0, hin, h⟩ := xIA_inv h; exact r_dald C hd h0 hin (hgo _ _ _ _ _ _ h1 h2 h)
  | aaload =>
    obtain ⟨i, a, s, rfl, h0, hin, b, hb, h⟩ := xIA_inv h
    have h5 := hgo _ _ _ _ _ _ h1 h2 h
    rw [show Value.ref b = va_rf (aR μ a i.toNatClampNeg) by rw [hb]; rfl] at h5
    rcases h0 with h0 | h0
    · exact r_aldW C hd h0 hin h5
    · exact r_aldP C hd h0 hin h5
  | iastore =>
    obtain ⟨x, i, a, s, rfl, h0, hin, h⟩ := xIIA_inv h; exact r_iast C hd h0 hin (hgo _ _ _ _ _ _ h1 h2 h)
  | bastore =>
    obtain ⟨x, i, a, s, rfl, hin, h⟩ := xIIA_inv h; rcases h with ⟨h0, h⟩ | ⟨h0, h⟩; exact r_zast C hd h0 hin (hgo _ _ _ _ _ _ h1 h2 h); exact r_bast C hd h0 hin (hgo _ _ _ _ _ _ h1 h2 h)
  | lastore =>
    obtain ⟨x, i, a, s, rfl, h0, hin, h⟩ := xJIA_inv h; exact r_last C hd h0 hin (hgo _ _ _ _ _ _ h1 h2 h)
  | dastore =>
    obtain ⟨x, i, a, s, rfl, h0, hin, h⟩ := xDIA_inv h; exact r_dast C hd h0 hin (hgo _ _ _ _ _ _ h1 h2 h)
  | aastore =>
    obtain ⟨v, i, a, s, rfl, hin, h0, h⟩ := xAIA_inv h; rcases h0 with ⟨h0, h00⟩ | ⟨h0, h00⟩; exact r_astW C hd h0 h00 hin (hgo _ _ _ _ _ _ h1 h2 h); exact r_astP C hd h0 h00 hin (hgo _ _ _ _ _ _ h1 h2 h)
  | new k =>
    cases hq : I.exc pc with
    | some E => simp only [xstep, hq] at h; obtain ⟨rfl, g1, g2, g3⟩ := xN1_inv h; exact hexc E hq _ _ _ _ (hrc ▸ g1) (hrs ▸ g2) g3
    | none =>
      cases hv : I.nw k with
      | none => simp [xstep, hq, hv] at h
      | some ci =>
        simp only [xstep, hq, hv] at h
        obtain ⟨g1, g2, g3, h⟩ := h
        obtain ⟨w1, w2, w3, w4⟩ := hnw k ci hv
        rw [hrc] at g2
        rw [hrs] at g3
        exact r_new C hd w1 w2 w3 w4 g1 g2 g3 (hgo _ _ _ _ _ _ g2 g3 h)
  | newarray ty =>
    cases ty with
    | int => obtain ⟨n, s, rfl, g1, g2, g3, g4, g5, h⟩ := xI_inv h; rw [hrc] at g4; rw [hrs] at g5; exact r_newa0 C hd xarr_int g1 g2 rfl g3 g4 g5 (hgo _ _ _ _ _ _ g4 g5 h)
    | boolean => obtain ⟨n, s, rfl, g1, g2, g3, g4, g5, h⟩ := xI_inv h; rw [hrc] at g4; rw [hrs] at g5; exact r_newa1 C hd xarr_boolean g1 g2 rfl g3 g4 g5 (hgo _ _ _ _ _ _ g4 g5 h)
    | byte => obtain ⟨n, s, rfl, g1, g2, g3, g4, g5, h⟩ := xI_inv h; rw [hrc] at g4; rw [hrs] at g5; exact r_newa2 C hd xarr_byte g1 g2 rfl g3 g4 g5 (hgo _ _ _ _ _ _ g4 g5 h)
    | long => obtain ⟨n, s, rfl, g1, g2, g3, g4, g5, h⟩ := xI_inv h; rw [hrc] at g4; rw [hrs] at g5; exact r_newa3 C hd xarr_long g1 g2 rfl g3 g4 g5 (hgo _ _ _ _ _ _ g4 g5 h)
    | double => obtain ⟨n, s, rfl, g1, g2, g3, g4, g5, h⟩ := xI_inv h; rw [hrc] at g4; rw [hrs] at g5; exact r_newa4 C hd xarr_double g1 g2 rfl g3 g4 g5 (hgo _ _ _ _ _ _ g4 g5 h)
    | _ => exact absurd h id
  | anewarray k =>
    have h' := h
    simp only [xstep] at h'
    split at h'
    · rename_i hv
      obtain ⟨n, s, rfl, g1, g2, g3, g4, g5, h⟩ := xI_inv h'; rw [hrc] at g4; rw [hrs] at g5; exact r_anew5 C hd (han.1 k hv) g1 g2 rfl g3 g4 g5 (hgo _ _ _ _ _ _ g4 g5 h)
    · rename_i hv
      obtain ⟨n, s, rfl, g1, g2, g3, g4, g5, h⟩ := xI_inv h'; rw [hrc] at g4; rw [hrs] at g5; exact r_anew6 C hd (han.2 k hv) g1 g2 rfl g3 g4 g5 (hgo _ _ _ _ _ _ g4 g5 h)
    · exact absurd h' id
  | ireturn =>
    obtain ⟨x, rfl, h9⟩ := xI1_inv h
    rw [hret] at C
    split at h9
    · rename_i e; rw [e] at C; exact r_ireturn C hE hd h1 h2 h9
    · rename_i e; rw [e] at C; exact r_zreturn C hE hd h9.1 h1 h2 h9.2
    · rename_i e; rw [e] at C; exact r_creturn C hE hd h9.1 h1 h2 h9.2
    · rename_i e; rw [e] at C; exact r_breturn C hE hd h9.1 h1 h2 h9.2
    · exact absurd h9 id
  | lreturn =>
    obtain ⟨x, rfl, e, h⟩ := xJ1_inv h; rw [hret, e] at C; exact r_lreturn C hE hd h1 h2 h
  | dreturn =>
    obtain ⟨x, rfl, e, h⟩ := xD1_inv h; rw [hret, e] at C; exact r_dreturn C hE hd h1 h2 h
  | areturn =>
    cases e : I.ret with
    | none => simp [xstep, e] at h
    | some rt =>
      simp only [xstep, e] at h
      rw [hret, e] at C
      rcases xA1_inv h.2 with ⟨a, rfl, h3⟩ | ⟨rfl, h3⟩
      · exact r_areturn (x := some a) C hE hd h.1 h1 h2 h3
      · exact r_areturn (x := none) C hE hd h.1 h1 h2 h3
  | return_ =>
    obtain ⟨rfl, e, h⟩ := xN1_inv h; rw [hret, e] at C; exact r_return C hE hd h1 h2 h
  | invokestatic k =>
    cases hq : I.cal k with
    | none => simp [xstep, hq] at h
    | some e =>
      simp only [xstep, hq] at h
      have hc := hcal k e hq
      split at h
      · rename_i hk
        obtain ⟨y, b, maxL, cret, rm, w1, w2, w3, w5, w6⟩ := hc.1 hk
        obtain ⟨s, g1, g2, g3, h⟩ := xtake_inv h
        obtain ⟨g4, g5, h⟩ := xroom_inv hrc hrs h1 h2 h
        rw [g1, ← List.reverse_reverse (st.take e.n)]
        rw [← w5] at g4
        rw [← w6] at g5
        exact r_callS C w1 hd w2 w3 (by rw [List.length_reverse, List.length_take]; exact Nat.min_eq_left g2) g3 ⟨g4, g5⟩ (fun v μ1 hv => by rw [w5, w6]; exact xretk_go (by rw [← w5]; exact g4) (by rw [← w6]; exact g5) hgo hv) h
      · rename_i hk
        obtain ⟨y, b, maxL, cret, rm, w1, w2, w3, w5, w6⟩ := hc.2.2.2.1 hk
        obtain ⟨s, g1, g2, g3, h⟩ := xtake_inv h
        obtain ⟨g4, g5, h⟩ := xroom_inv hrc hrs h1 h2 h
        rw [g1, ← List.reverse_reverse (st.take e.n)]
        rw [← w5] at g4
        rw [← w6] at g5
        exact r_callSN C w1 hd w2 w3 (by rw [List.length_reverse, List.length_take]; exact Nat.min_eq_left g2) g3 ⟨g4, g5⟩ (fun v μ1 hv => by rw [w5, w6]; exact xretk_go (by rw [← w5]; exact g4) (by rw [← w6]; exact g5) hgo hv) h
      · rename_i hk
        obtain ⟨y, b, maxL, cret, rm, w1, w2, w3, w5, w6⟩ := hc.2.2.2.2.2.2.1 hk
        obtain ⟨s, g1, g2, g3, h⟩ := xtake_inv h
        obtain ⟨g4, g5, h⟩ := xroom_inv hrc hrs h1 h2 h
        rw [g1, ← List.reverse_reverse (st.take e.n)]
        rw [← w5] at g4
        rw [← w6] at g5
        exact r_callSX C w1 hd w2 w3 (by rw [List.length_reverse, List.length_take]; exact Nat.min_eq_left g2) g3 ⟨g4, g5⟩ (fun v μ1 hv => by rw [w5, w6]; exact xretk_go (by rw [← w5]; exact g4) (by rw [← w6]; exact g5) hgo hv) (fun E μ1 hE => by rw [w5, w6]; exact hthr _ _ _ _ _ _ (by rw [← w5]; exact g4) (by rw [← w6]; exact g5) hE) h
      · rename_i hk
        obtain ⟨w1, w2, w3, w4, w5, w6⟩ := hc.2.2.2.2.2.2.2.2.2 hk
        obtain ⟨n, dp, b, sp, a, s, rfl, rfl, h0, g2, g3, g4, g5, g6, h⟩ := xcopyArgs_inv h
        rcases h0 with ⟨h0, h00⟩ | ⟨h0, h00, h000⟩
        · exact r_copy (kd := 0) C hd w1 w2 w3 w4 (by decide) rfl rfl h0 h00 g2 g3 g4 g5 g6 (fun i hi => rfl) w5 (by show 0 + _ ≤ _; omega) (hgo _ _ _ _ _ _ h1 h2 h)
        · exact r_copy (kd := 1) C hd w1 w2 w3 w4 (by decide) rfl rfl h0 h00 g2 g3 g4 g5 g6 (fun i hi => by rcases h000 i hi with z | z <;> rw [z] <;> rfl) w5 (by show 0 + _ ≤ _; omega) (hgo _ _ _ _ _ _ h1 h2 h)
      · exact absurd h id
  | invokevirtual k =>
    cases hq : I.cal k with
    | none => simp [xstep, hq] at h
    | some e =>
      simp only [xstep, hq] at h
      have hc := hcal k e hq
      split at h
      · rename_i hk
        obtain ⟨y, b, maxL, cret, rm, w1, w2, w3, w4, w7, w5, w6⟩ := hc.2.1 hk
        obtain ⟨s0, g1, g2, g3, h⟩ := xtake_inv h
        obtain ⟨a, s, rfl, ht, h⟩ := xA_inv h
        obtain ⟨g4, g5, h⟩ := xroom_inv hrc hrs h1 h2 h
        rw [g1, ← List.reverse_reverse (st.take e.n)]
        rw [← w5] at g4
        rw [← w6] at g5
        exact r_callV C w1 hd w2 w3 w4 w7 ht (by rw [List.length_reverse, List.length_take]; exact Nat.min_eq_left g2) (xcat_tail g3) ⟨g4, g5⟩ (fun v μ1 hv => by rw [w5, w6]; exact xretk_go (by rw [← w5]; exact g4) (by rw [← w6]; exact g5) hgo hv) h
      · rename_i hk
        obtain ⟨y, b, maxL, cret, rm, w1, w2, w3, w4, w7, w5, w6⟩ := hc.2.2.2.2.2.1 hk
        obtain ⟨s0, g1, g2, g3, h⟩ := xtake_inv h
        obtain ⟨a, s, rfl, ht, h⟩ := xA_inv h
        obtain ⟨g4, g5, h⟩ := xroom_inv hrc hrs h1 h2 h
        rw [g1, ← List.reverse_reverse (st.take e.n)]
        rw [← w5] at g4
        rw [← w6] at g5
        exact r_callVX C w1 hd w2 w3 w4 w7 ht (by rw [List.length_reverse, List.length_take]; exact Nat.min_eq_left g2) (xcat_tail g3) ⟨g4, g5⟩ (fun v μ1 hv => by rw [w5, w6]; exact xretk_go (by rw [← w5]; exact g4) (by rw [← w6]; exact g5) hgo hv) (fun E μ1 hE => by rw [w5, w6]; exact hthr _ _ _ _ _ _ (by rw [← w5]; exact g4) (by rw [← w6]; exact g5) hE) h
      · rename_i hk
        obtain ⟨y, b, maxL, cret, rm, w1, w2, w3, w4, w5, w6⟩ := hc.2.2.2.2.2.2.2.1 hk
        obtain ⟨s0, g1, g2, g3, h⟩ := xtake_inv h
        obtain ⟨a, s, rfl, ht, h⟩ := xA_inv h
        obtain ⟨g4, g5, h⟩ := xroom_inv hrc hrs h1 h2 h
        rw [g1, ← List.reverse_reverse (st.take e.n)]
        rw [← w5] at g4
        rw [← w6] at g5
        exact r_callVS C w1 hd w2 w3 w4 ht (by rw [List.length_reverse, List.length_take]; exact Nat.min_eq_left g2) (xcat_tail g3) ⟨g4, g5⟩ (fun v μ1 hv => by rw [w5, w6]; exact xretk_go (by rw [← w5]; exact g4) (by rw [← w6]; exact g5) hgo hv) h
      · exact absurd h id
  | invokespecial k =>
    cases hq : I.cal k with
    | none => simp [xstep, hq] at h
    | some e =>
      simp only [xstep, hq] at h
      have hc := hcal k e hq
      split at h
      · rename_i hk
        obtain ⟨y, b, maxL, rm, w1, w2, w3, w4, w5, w6⟩ := hc.2.2.1 hk
        obtain ⟨s0, g1, g2, g3, h⟩ := xtake_inv h
        obtain ⟨a, s, rfl, h⟩ := xA_inv h
        obtain ⟨g4, g5, h⟩ := xroom_inv hrc hrs h1 h2 h
        rw [g1, ← List.reverse_reverse (st.take e.n)]
        rw [← w5] at g4
        rw [← w6] at g5
        exact r_callI C w1 hd w2 w3 w4 (by rw [List.length_reverse, List.length_take]; exact Nat.min_eq_left g2) (xcat_tail g3) ⟨g4, g5⟩ (fun v μ1 hv => by rw [w5, w6]; exact xretk_go (by rw [← w5]; exact g4) (by rw [← w6]; exact g5) hgo hv) h
      · rename_i hk
        obtain ⟨y, b, maxL, rm, w1, w2, w3, w4, w5, w6⟩ := hc.2.2.2.2.1 hk
        obtain ⟨s0, g1, g2, g3, h⟩ := xtake_inv h
        obtain ⟨a, s, rfl, h⟩ := xA_inv h
        obtain ⟨g4, g5, h⟩ := xroom_inv hrc hrs h1 h2 h
        rw [g1, ← List.reverse_reverse (st.take e.n)]
        rw [← w5] at g4
        rw [← w6] at g5
        exact r_callIN C w1 hd w2 w3 w4 (by rw [List.length_reverse, List.length_take]; exact Nat.min_eq_left g2) (xcat_tail g3) ⟨g4, g5⟩ (fun v μ1 hv => by rw [w5, w6]; exact xretk_go (by rw [← w5]; exact g4) (by rw [← w6]; exact g5) hgo hv) h
      · rename_i hk
        obtain ⟨w1, w2, w3, w5, w6⟩ := hc.2.2.2.2.2.2.2.2.1 hk
        obtain ⟨a, s, rfl, h⟩ := xA_inv h
        obtain ⟨h0, h⟩ := xbif h
        have := Nat.le_of_ble_eq_true h0
        exact r_objInit C hd w1 w2 w3 w5 (by omega) (hgo _ _ _ _ _ _ h1 h2 h)
      · exact absurd h id
  | _ => exact absurd h id
end XSND
