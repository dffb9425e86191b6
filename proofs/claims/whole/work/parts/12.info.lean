/-! ===== the checks of a method's tables ===== -/
def xcode (N : Nat) (t : Nat → Option (Instr × Nat × Nat)) : Nat → Option (Instr × Nat × Nat) := fun pc => bif Nat.blt pc N then t pc else none
/-- a switch's cases, checked -/
def xswchk (pc : Nat) (ins : Instr) (o : Option (List (Int32 × Nat) × Nat)) : Bool := match ins, o with
  | .tableswitch dflt lo hi offs, some (cs, d) => decide ((pc : Int) + dflt = (d : Int)) && decide ((offs.size : Int) = hi - lo + 1) &&
      cs.all (fun c => decide (lo ≤ c.1.toInt) && decide (c.1.toInt ≤ hi) && decide (offs[(c.1.toInt - lo).toNat]? = some ((c.2 : Int) - (pc : Int)))) &&
      (List.range offs.size).all (fun i => cs.any (fun c => decide (c.1.toInt = lo + (i : Int))) || decide (offs[i]? = some dflt))
  | .lookupswitch dflt ps, some (cs, d) => decide ((pc : Int) + dflt = (d : Int)) && (ps.toList.zip (ps.toList.drop 1)).all (fun (a, next) => a.1 < next.1) && decide (ps.toList.map (fun q => (q.1, (pc : Int) + q.2)) = cs.map (fun c => (c.1.toInt, (c.2 : Int))))
  | .tableswitch .., none => true
  | .lookupswitch .., none => true
  | _, _ => true
theorem xswt_cases (d : Nat) (x : Int32) : ∀ cs : List (Int32 × Nat), (∃ c ∈ cs, x = c.1 ∧ xswt cs d x = c.2) ∨ ((∀ c ∈ cs, x ≠ c.1) ∧ xswt cs d x = d)
  | [] => Or.inr ⟨fun _ h => absurd h List.not_mem_nil, rfl⟩
  | c :: cs => by
    by_cases h : x = c.1
    · exact Or.inl ⟨c, List.mem_cons_self, h, by simp [xswt, h]⟩
    · rcases xswt_cases d x cs with ⟨c', h1, h2, h3⟩ | ⟨h1, h2⟩
      · exact Or.inl ⟨c', List.mem_cons_of_mem _ h1, h2, by simp [xswt, h, h3]⟩
      · refine Or.inr ⟨fun c' hc => ?_, by simp [xswt, h, h2]⟩
        rcases List.mem_cons.mp hc with rfl | hc
        · exact h
        · exact h1 c' hc
theorem xlook_eq (pc : Nat) (dflt : Int) (d : Nat) (hd : (pc : Int) + dflt = (d : Int)) (x : Int32) : ∀ (ps : List (Int × Int)) (cs : List (Int32 × Nat)), ps.map (fun q => (q.1, (pc : Int) + q.2)) = cs.map (fun c => (c.1.toInt, (c.2 : Int))) → (pc : Int) + Op.lookupswitch.offset ps dflt x.toInt = (xswt cs d x : Int)
  | [], [], _ => by simpa [Op.lookupswitch.offset, xswt] using hd
  | [], _ :: _, h => by simp at h
  | _ :: _, [], h => by simp at h
  | p :: ps, c :: cs, h => by
    simp only [List.map_cons, List.cons.injEq, Prod.mk.injEq] at h
    obtain ⟨⟨h1, h2⟩, h3⟩ := h
    have ih := xlook_eq pc dflt d hd x ps cs h3
    by_cases hx : x = c.1
    · subst hx
      simp only [xswt, if_true]
      rw [← h2]
      simp [Op.lookupswitch.offset, h1]
    · have hx' : ¬ x.toInt = p.1 := by
        rw [h1]
        exact fun z => hx (Int32.toInt_inj.mp z)
      simp only [xswt, if_neg hx]
      rw [← ih]
      obtain ⟨a, b⟩ := p
      congr 1
      have hx'' : ¬ a = x.toInt := fun z => hx' z.symm
      simp [Op.lookupswitch.offset, hx', hx'']
theorem xswchk_ok {pc : Nat} {ins : Instr} {o : Option (List (Int32 × Nat) × Nat)} (h : xswchk pc ins o = true) : xswOK pc ins o := by
  refine ⟨?_, ?_⟩
  · rintro dflt lo hi offs rfl x t ht
    cases o with
    | none => cases ht
    | some q =>
      obtain ⟨cs, d⟩ := q
      simp only [Option.map_some, Option.some.injEq] at ht
      subst ht
      simp only [xswchk, Bool.and_eq_true, decide_eq_true_eq, List.all_eq_true, Bool.or_eq_true, List.any_eq_true, List.mem_range] at h
      obtain ⟨⟨⟨h1, h2⟩, h3⟩, h4⟩ := h
      by_cases hr : x.toInt < lo ∨ hi < x.toInt
      · refine Or.inl ⟨hr, ?_⟩
        rcases xswt_cases d x cs with ⟨c, c1, c2, c3⟩ | ⟨c1, c2⟩
        · obtain ⟨⟨g1, g2⟩, g3⟩ := h3 c c1
          rw [← c2] at g1 g2
          omega
        · rw [c2]; exact h1
      · have hr1 : ¬ x.toInt < lo := fun z => hr (Or.inl z)
        have hr2 : ¬ hi < x.toInt := fun z => hr (Or.inr z)
        rcases xswt_cases d x cs with ⟨c, c1, c2, c3⟩ | ⟨c1, c2⟩
        · obtain ⟨⟨g1, g2⟩, g3⟩ := h3 c c1
          rw [← c2] at g3
          exact Or.inr ⟨_, hr1, hr2, g3, by rw [c3]; omega⟩
        · refine Or.inr ⟨dflt, hr1, hr2, ?_, by rw [c2]; exact h1⟩
          rcases h4 (x.toInt - lo).toNat (by omega) with ⟨c, g1, g2⟩ | g
          · exfalso
            refine c1 c g1 (Int32.toInt_inj.mp ?_)
            rw [g2]
            omega
          · exact g
  · rintro dflt ps rfl x t ht
    cases o with
    | none => cases ht
    | some q =>
      obtain ⟨cs, d⟩ := q
      simp only [Option.map_some, Option.some.injEq] at ht
      subst ht
      simp only [xswchk, Bool.and_eq_true, decide_eq_true_eq] at h
      obtain ⟨⟨h1, h2⟩, h3⟩ := h
      exact ⟨h2, xlook_eq pc dflt d h1 x ps.toList cs h3⟩
def xchk (cc : ByteArray) (pc : Nat) (o : Option (Instr × Nat × Nat)) (sw : Option (List (Int32 × Nat) × Nat)) : Bool := match o with
  | some q => decide (decode cc pc = .ok (q.1, (ilen q.1).getD q.2.1)) && itgt pc q.1 q.2.2 && xswchk pc q.1 sw
  | none => true
theorem xcode_ok {cc : ByteArray} {N : Nat} {t : Nat → Option (Instr × Nat × Nat)} {sw : Nat → Option (List (Int32 × Nat) × Nat)} (h : (List.range N).all (fun pc => xchk cc pc (t pc) (sw pc)) = true) : ∀ pc q, xcode N t pc = some q → decode cc pc = .ok (q.1, (ilen q.1).getD q.2.1) ∧ itgt pc q.1 q.2.2 = true ∧ xswOK pc q.1 (sw pc) := by
  intro pc q hq
  unfold xcode at hq
  cases hb : Nat.blt pc N with
  | false => rw [hb] at hq; cases hq
  | true =>
    rw [hb] at hq
    have hlt : pc < N := Nat.le_of_ble_eq_true hb
    have hc := List.all_eq_true.mp h pc (List.mem_range.mpr hlt)
    have hq : t pc = some q := hq
    rw [hq] at hc
    simp only [xchk, Bool.and_eq_true, decide_eq_true_eq] at hc
    exact ⟨hc.1.1, hc.1.2, xswchk_ok hc.2⟩
/-- entries by a list -/
def xlk {α : Type} (l : List (Nat × α)) (k : Nat) : Option α := match l with
  | [] => none
  | q :: l => bif Nat.beq k q.1 then some q.2 else xlk l k
theorem xlk_mem {α : Type} {k : Nat} {v : α} : ∀ {l : List (Nat × α)}, xlk l k = some v → (k, v) ∈ l
  | [], h => by cases h
  | q :: l, h => by
    unfold xlk at h
    cases hb : Nat.beq k q.1 with
    | true =>
      rw [hb] at h
      have e := Nat.eq_of_beq_eq_true hb
      cases h
      obtain ⟨a, b⟩ := q
      subst e
      exact List.mem_cons_self
    | false =>
      rw [hb] at h
      exact List.mem_cons_of_mem _ (xlk_mem h)
/-- an entry for a field: (entry, ((class, slot))), and the word's place -/
def xfchk (own : String) (k : Nat) (v : Nat × Nat) (i : Nat) : Bool := decide (lw_tbl[i]? = some (Cond.fieldLink own k (xT v.1 v.2).1 (xT v.1 v.2).2.1 (xT v.1 v.2).2.2.1)) && goodWord (Cond.fieldLink own k (xT v.1 v.2).1 (xT v.1 v.2).2.1 (xT v.1 v.2).2.2.1) && (Nat.blt v.1 10 && Nat.blt v.2 (xN v.1))
theorem xfchk_ok {own : String} {l : List (Nat × Nat × Nat)} {is : List Nat} (h : ((l.zip is).all (fun q => xfchk own q.1.1 q.1.2 q.2) && Nat.ble l.length is.length) = true) : ∀ k ci j, xlk l k = some (ci, j) → Cond.fieldLink own k (xT ci j).1 (xT ci j).2.1 (xT ci j).2.2.1 ∈ TW ∧ ci < 10 ∧ j < xN ci := by
  intro k ci j hk
  simp only [Bool.and_eq_true] at h
  obtain ⟨n, hn⟩ := List.getElem?_of_mem (xlk_mem hk)
  have hl := (List.getElem?_eq_some_iff.mp hn).1
  have hle := Nat.le_of_ble_eq_true h.2
  have hi : is[n]? = some is[n] := List.getElem?_eq_getElem (by omega)
  have hz : (l.zip is)[n]? = some ((k, ci, j), is[n]) := by
    rw [List.getElem?_zip_eq_some]
    exact ⟨hn, hi⟩
  have hc := List.all_eq_true.mp h.1 _ (List.mem_of_getElem? hz)
  simp only [xfchk, Bool.and_eq_true] at hc
  exact ⟨TW_in _ (by simp only [Bool.and_eq_true]; exact hc.1), Nat.le_of_ble_eq_true hc.2.1, Nat.le_of_ble_eq_true hc.2.2⟩
def xpchk (own : String) (ini : Bool) (v : Nat × Nat) : Bool := !(xT v.1 v.2).2.2.2 || (decide ((xT v.1 v.2).1 = own) && ini)
theorem xpchk_ok {own : String} {ini : Bool} {l : List (Nat × Nat × Nat)} {is : List Nat} (h : ((l.zip is).all (fun q => xfchk own q.1.1 q.1.2 q.2) && Nat.ble l.length is.length) = true) (h2 : l.all (fun q => xpchk own ini q.2) = true) : ∀ k ci j, xlk l k = some (ci, j) → Cond.fieldLink own k (xT ci j).1 (xT ci j).2.1 (xT ci j).2.2.1 ∈ TW ∧ ci < 10 ∧ j < xN ci ∧ ((xT ci j).2.2.2 = false ∨ ((xT ci j).1 = own ∧ ini = true)) := by
  intro k ci j hk
  obtain ⟨g1, g2, g3⟩ := xfchk_ok h k ci j hk
  have hc := List.all_eq_true.mp h2 _ (xlk_mem hk)
  simp only [xpchk, Bool.or_eq_true, Bool.not_eq_true', Bool.and_eq_true, decide_eq_true_eq] at hc
  exact ⟨g1, g2, g3, hc⟩
section XC
variable {κ : XK} {own : String} {k n ci rk mc ms : Nat} {y : MethodName} {b : ByteArray} {maxL : Nat} {cret : Option FieldType} {rm : Room} {f : XSem}
theorem xc_0 (h1 : XMet κ.l y b maxL cret rm f) (h2 : XLink κ own k y b maxL cret rm n) (h3 : Cond.static y ∈ TW) (h4 : rm.cells = mc) (h5 : rm.slots = ms) : XCallOK κ own k (0, n, ci, rk, mc, ms, f) := ⟨fun _ => ⟨y, b, maxL, cret, rm, h1, h2, h3, h4, h5⟩, nofun, nofun, nofun, nofun, nofun, nofun, nofun, nofun, nofun⟩
theorem xc_1 (h1 : XMet κ.l y b maxL cret rm f) (h2 : XLink κ own k y b maxL cret rm n) (h3 : Cond.instanceMethod y ∈ TW) (h6 : Cond.selects (xC ci) y y ∈ TW) (h7 : ci < 10) (h4 : rm.cells = mc) (h5 : rm.slots = ms) : XCallOK κ own k (1, n, ci, rk, mc, ms, f) := ⟨nofun, fun _ => ⟨y, b, maxL, cret, rm, h1, h2, h3, h6, h7, h4, h5⟩, nofun, nofun, nofun, nofun, nofun, nofun, nofun, nofun⟩
theorem xc_2 (h1 : XMet κ.l y b maxL none rm f) (h2 : XLink κ own k y b maxL none rm n) (h3 : Cond.instanceMethod y ∈ TW) (h6 : y.name = "<init>") (h4 : rm.cells = mc) (h5 : rm.slots = ms) : XCallOK κ own k (2, n, ci, rk, mc, ms, f) := ⟨nofun, nofun, fun _ => ⟨y, b, maxL, rm, h1, h2, h3, h6, h4, h5⟩, nofun, nofun, nofun, nofun, nofun, nofun, nofun⟩
theorem xc_3 (h1 : XMet κ.l y b maxL cret rm f) (h2 : XLinkN κ own k y b maxL cret rm n) (h3 : Cond.static y ∈ TW) (h4 : rm.cells = mc) (h5 : rm.slots = ms) : XCallOK κ own k (3, n, ci, rk, mc, ms, f) := ⟨nofun, nofun, nofun, fun _ => ⟨y, b, maxL, cret, rm, h1, h2, h3, h4, h5⟩, nofun, nofun, nofun, nofun, nofun, nofun⟩
theorem xc_4 (h1 : XMet κ.l y b maxL none rm f) (h2 : XLinkN κ own k y b maxL none rm n) (h3 : Cond.instanceMethod y ∈ TW) (h6 : y.name = "<init>") (h4 : rm.cells = mc) (h5 : rm.slots = ms) : XCallOK κ own k (4, n, ci, rk, mc, ms, f) := ⟨nofun, nofun, nofun, nofun, fun _ => ⟨y, b, maxL, rm, h1, h2, h3, h6, h4, h5⟩, nofun, nofun, nofun, nofun, nofun⟩
theorem xc_5 (h1 : XMetX κ.l y (.code y b maxL cret :: TW) rm f) (h2 : XLink κ own k y b maxL cret rm n) (h3 : Cond.instanceMethod y ∈ TW) (h6 : Cond.selects (xC ci) y y ∈ TW) (h7 : ci < 10) (h4 : rm.cells = mc) (h5 : rm.slots = ms) : XCallOK κ own k (5, n, ci, rk, mc, ms, f) := ⟨nofun, nofun, nofun, nofun, nofun, fun _ => ⟨y, b, maxL, cret, rm, h1, h2, h3, h6, h7, h4, h5⟩, nofun, nofun, nofun, nofun⟩
theorem xc_6 (h1 : XMetX κ.l y (.code y b maxL cret :: TW) rm f) (h2 : XLink κ own k y b maxL cret rm n) (h3 : Cond.static y ∈ TW) (h4 : rm.cells = mc) (h5 : rm.slots = ms) : XCallOK κ own k (6, n, ci, rk, mc, ms, f) := ⟨nofun, nofun, nofun, nofun, nofun, nofun, fun _ => ⟨y, b, maxL, cret, rm, h1, h2, h3, h4, h5⟩, nofun, nofun, nofun⟩
theorem xc_9 (h1 : XMet κ.l y b maxL cret rm f) (h2 : XLink κ own k y b maxL cret rm n) (h3 : Cond.instanceMethod y ∈ TW) (h6 : Cond.selects "java/lang/String" y y ∈ TW) (h4 : rm.cells = mc) (h5 : rm.slots = ms) : XCallOK κ own k (9, n, ci, rk, mc, ms, f) := ⟨nofun, nofun, nofun, nofun, nofun, nofun, nofun, fun _ => ⟨y, b, maxL, cret, rm, h1, h2, h3, h6, h4, h5⟩, nofun, nofun⟩
theorem xc_7 (h : Cond.methodLink own k Lib.objectInit ∈ TW ∧ Cond.instanceMethod Lib.objectInit ∈ TW ∧ Cond.code Lib.objectInit ⟨#[0xb1]⟩ 1 none ∈ TW ∧ 1 ≤ κ.R.frames ∧ 20 ≤ κ.R.locals) : XCallOK κ own k (7, n, ci, rk, mc, ms, f) := ⟨nofun, nofun, nofun, nofun, nofun, nofun, nofun, nofun, fun _ => h, nofun⟩
theorem xc_8 (h : Cond.methodLink own k arraycopyName ∈ TW ∧ Cond.native arraycopyName ∈ TW ∧ Cond.static arraycopyName ∈ TW ∧ Cond.initialized "java/lang/System" ∈ TW ∧ 1 ≤ κ.R.frames ∧ 8 + (nativeFrameWords "java/lang/System" "arraycopy" 5 + 11) ≤ κ.R.locals) : XCallOK κ own k (8, n, ci, rk, mc, ms, f) := ⟨nofun, nofun, nofun, nofun, nofun, nofun, nofun, nofun, nofun, fun _ => h⟩
end XC
/-- a throw's facts -/
def XExcOK (cc : ByteArray) (own E : String) (pc : Nat) : Prop := ∃ (text : String) (names : List String) (ik is ic : Nat), own = RX8 ∧ (is, text) ∈ xmsgs ∧ names.length = 2 ∧ Bundle.fit E = true ∧ (∀ n ∈ names, Bundle.fit n = true) ∧ Cond.classLink own ik E ∈ TW ∧ Cond.initialized E ∈ TW ∧ (∀ w ∈ vx_atS own ic E names, w ∈ TW ∨ (∃ q ∈ xcastl, w = .castable q q) ∨ ∃ q ∈ xdecll, w = .declares q) ∧ decode cc pc = .ok (.new ik, 3) ∧ decode cc (pc + 3) = .ok (.dup, 1) ∧
  ((decode cc (pc + 4) = .ok (.ldc is, 2) ∧ decode cc (pc + 6) = .ok (.invokespecial ic, 3) ∧ decode cc (pc + 9) = .ok (.athrow, 1)) ∨ (decode cc (pc + 4) = .ok (.ldc_w is, 3) ∧ decode cc (pc + 7) = .ok (.invokespecial ic, 3) ∧ decode cc (pc + 10) = .ok (.athrow, 1)))
/-- a method that returns or throws, without a table of its own -/
theorem XMetX.wp {l : Launch} {y : MethodName} {b : ByteArray} {rm : Room} {I : XInfo} {Kf : XQ → XX → XKT} {fuel : Nat} (hl0 : l.stackTraces = false) (hy : plainName y.cls = true) (hI : XInfoOK l rm y.cls b false I) (he : ∀ pc E, I.exc pc = some E → XExcOK b y.cls E pc) (hh : ∀ pc E, I.hnd pc E = none) (hf : 5 < rm.frames) (hlo : 82 ≤ rm.locals)
    (hK : ∀ (κ : XK) (ξ : XE) (Q : XQ) (X : XX), XSet κ ξ b y.cls I.nl I.ret I Q X → XKGood κ ξ I.nl I (Kf Q X)) : XMetX l y (.code y b I.nl I.ret :: TW) rm (xsem I Kf fuel) := by
  refine XMetX.of hy (fun κ ξ μ as Q X C hl hR ht hQ h => ?_)
  obtain ⟨h0, h⟩ := xbif h
  have S : XSet κ ξ b y.cls I.nl I.ret I Q X := fun K hK => by
    refine xwp_ok C hI hl hR (fun z => by cases z) (fun H locs g hg => ?_) rfl rfl ⟨fun pc E hE nc ns μ L b1 b2 hx => ?_, fun pc E _ L s μ nc ns b1 b2 hx => ?_, fun pc E hp h => by rw [hh] at h; cases h⟩ hK
    · unfold XKW
      rw [hQ]
      rw [hR] at hg ⊢
      exact vx_ret hg
    · obtain ⟨text, names, ik, is, ic, w1, w2, w3, w4, w5, w6, w7, w8, d0, d3, w9⟩ := he pc E hE
      have hl1 : κ.l.stackTraces = false := by rw [hl]; exact hl0
      rcases w9 with ⟨d4, d6, d9⟩ | ⟨d4, d6, d9⟩
      · exact r_throw C hQ hl1 w1 w2 w4 w5 w6 w7 w8 d0 d3 d4 d6 d9 (fun x hx => (ht x hx).elim) (by rw [hR, w3]; exact hf) (by rw [hR, w3]; show 0 + _ ≤ _; omega) b1 b2 (by rw [← hR]; exact b1) (by rw [← hR]; exact b2) hx
      · exact r_throwW C hQ hl1 w1 w2 w4 w5 w6 w7 w8 d0 d3 d4 d6 d9 (fun x hx => (ht x hx).elim) (by rw [hR, w3]; exact hf) (by rw [hR, w3]; show 0 + _ ≤ _; omega) b1 b2 (by rw [← hR]; exact b1) (by rw [← hR]; exact b2) hx
    · exact r_out C (fun x hx => (ht x hx).elim) hQ (by rw [← hR]; exact b1) (by rw [← hR]; exact b2) hx
  exact ⟨Nat.le_of_ble_eq_true h0, S _ (hK κ ξ Q X S) _ _ _ _ _ _ _ (Nat.zero_le _) (Nat.zero_le _) h⟩
theorem xlk_all {α : Type} {l : List (Nat × α)} {P : Nat → α → Prop} (h : ∀ q ∈ l, P q.1 q.2) : ∀ k v, xlk l k = some v → P k v := fun _ _ hk => h _ (xlk_mem hk)
theorem xlk_n {α : Type} {P : Nat × α → Prop} : ∀ q ∈ ([] : List (Nat × α)), P q := nofun
theorem xlk_c {α : Type} {P : Nat × α → Prop} {q : Nat × α} {l : List (Nat × α)} (h1 : P q) (h2 : ∀ z ∈ l, P z) : ∀ z ∈ q :: l, P z := List.forall_mem_cons.mpr ⟨h1, h2⟩
def xexw (E : String) (ic : Nat) : Bool := (vx_atS RX8 ic E ["java/lang/RuntimeException", "java/lang/Exception"]).all (fun w => (lw_tbl.contains w && goodWord w) || decide (w = .castable E E) || xdecll.any (fun q => decide (w = .declares q)))
theorem xexw_ok {E : String} {ic : Nat} (h : xexw E ic = true) (hE : E ∈ xcastl) : ∀ w ∈ vx_atS RX8 ic E ["java/lang/RuntimeException", "java/lang/Exception"], w ∈ TW ∨ (∃ q ∈ xcastl, w = .castable q q) ∨ ∃ q ∈ xdecll, w = .declares q := by
  intro w hw
  have h1 := List.all_eq_true.mp h w hw
  simp only [Bool.or_eq_true, Bool.and_eq_true, decide_eq_true_eq, List.contains_iff_mem, List.any_eq_true] at h1
  rcases h1 with (⟨h1, h2⟩ | h1) | ⟨q, h1, h2⟩
  · exact Or.inl (List.mem_filter.mpr ⟨h1, h2⟩)
  · exact Or.inr (Or.inl ⟨E, hE, h1⟩)
  · exact Or.inr (Or.inr ⟨q, h1, h2⟩)
theorem xexw_364 : xexw "java/lang/IndexOutOfBoundsException" 364 = true := by decide +kernel
theorem xexw_189 : xexw "java/lang/IllegalArgumentException" 189 = true := by decide +kernel
theorem xexw_306 : xexw "java/lang/ArithmeticException" 306 = true := by decide +kernel
