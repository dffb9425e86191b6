/-! ===== a method out of its walk ===== -/
abbrev XKT : Type := Nat → List (Option Value) → List Value → XM → Nat → Nat → Prop
abbrev XFT : Type := List (Option Value) → List Value → XM → Nat → Nat → Prop
/-- what a switch's list of cases must be -/
def xswOK (pc : Nat) (ins : Instr) (o : Option (List (Int32 × Nat) × Nat)) : Prop :=
  (∀ dflt lo hi offs, ins = .tableswitch dflt lo hi offs → ∀ (x : Int32) (t : Nat), o.map (fun q => xswt q.1 q.2 x) = some t → ((x.toInt < lo ∨ hi < x.toInt) ∧ (pc : Int) + dflt = (t : Int)) ∨ ∃ off, ¬ x.toInt < lo ∧ ¬ hi < x.toInt ∧ offs[(x.toInt - lo).toNat]? = some off ∧ (pc : Int) + off = (t : Int)) ∧ ∀ dflt ps, ins = .lookupswitch dflt ps → ∀ (x : Int32) (t : Nat), o.map (fun q => xswt q.1 q.2 x) = some t → (ps.toList.zip (ps.toList.drop 1)).all (fun (a, next) => a.1 < next.1) = true ∧ (pc : Int) + Op.lookupswitch.offset ps.toList dflt x.toInt = (t : Int)
/-- a method's tables, against the claim's own -/
def XInfoOK (l : Launch) (R : Room) (own : String) (cc : ByteArray) (ini : Bool) (I : XInfo) : Prop :=
  (∀ pc q, I.code pc = some q → decode cc pc = .ok (q.1, (ilen q.1).getD q.2.1) ∧ itgt pc q.1 q.2.2 = true ∧ xswOK pc q.1 (I.sw pc)) ∧
  (∀ k ci j, I.fld k = some (ci, j) → Cond.fieldLink own k (xT ci j).1 (xT ci j).2.1 (xT ci j).2.2.1 ∈ TW ∧ ci < 10 ∧ j < xN ci) ∧
  (∀ k ci j, I.pf k = some (ci, j) → Cond.fieldLink own k (xT ci j).1 (xT ci j).2.1 (xT ci j).2.2.1 ∈ TW ∧ ci < 10 ∧ j < xN ci ∧ ((xT ci j).2.2.2 = false ∨ ((xT ci j).1 = own ∧ ini = true))) ∧
  (∀ κ : XK, κ.l = l → κ.R = R → ∀ k e, I.cal k = some e → XCallOK κ own k e) ∧
  (∀ k ci, I.nw k = some ci → ci < 10 ∧ Cond.classLink own k (xC ci) ∈ TW ∧ Cond.instantiable (xC ci) (xN ci) ∈ TW ∧ Cond.initialized (xC ci) ∈ TW) ∧
  ((∀ k, I.an k = some 5 → Cond.classLink own k RX7 ∈ TW) ∧ ∀ k, I.an k = some 6 → Cond.classLink own k RX3 ∈ TW) ∧
  ((∀ k v, I.cst k = some (.int v) → Cond.constant own k v ∈ TW) ∧ ∀ k v, I.cst k = some (.long v) → Cond.constantLong own k v ∈ TW) ∧
  (∀ k q, I.str k = some q → ∃ tx, (q, own, k, tx) ∈ xstrs) ∧ I.rc = R.cells ∧ I.rs = R.slots
section XMETH
variable {κ : XK} {ξ : XE} {cc : ByteArray} {own : String} {nL : Nat} {ret : Option FieldType}
/-- what a walk may go on to -/
def XKGood (κ : XK) (ξ : XE) (nL : Nat) (I : XInfo) (K : XKT) : Prop := ∀ pc bs, I.cut pc = some bs → ∀ L st μ nc ns, nc ≤ κ.R.cells → ns ≤ κ.R.slots → K pc (xmask bs L) st μ nc ns → XG κ ξ nL nc ns μ pc (xmask bs L) st
def XFGood (κ : XK) (ξ : XE) (nL : Nat) (h : Nat) (F : XFT) : Prop := ∀ L st μ nc ns, nc ≤ κ.R.cells → ns ≤ κ.R.slots → F L st μ nc ns → XG κ ξ nL nc ns μ h L st
/-- the ends of a walk: what is thrown -/
def XThr (κ : XK) (ξ : XE) (nL : Nat) (I : XInfo) (X : XX) : Prop :=
  (∀ pc E, I.exc pc = some E → ∀ nc ns μ L, nc + 1 ≤ κ.R.cells → ns + 6 ≤ κ.R.slots → X E (uF μ) → XG κ ξ nL nc ns μ pc L []) ∧
  (∀ pc E, I.hnd pc E = none → ∀ L s μ nc ns, nc ≤ κ.R.cells → ns ≤ κ.R.slots → X E μ → XGx κ ξ nL nc ns μ pc L s E) ∧
  (∀ pc E hp, I.hnd pc E = some hp → ∀ L s μ nc ns, (∀ q : Nat, XG κ ξ nL nc ns μ hp L [.ref q]) → XGx κ ξ nL nc ns μ pc L s E)
theorem xwp_ok (C : XCtx κ ξ cc own nL ret) {l : Launch} {R : Room} {ini : Bool} {I : XInfo} {Q : XQ} {X : XX} {K : XKT} (hI : XInfoOK l R own cc ini I) (hl : κ.l = l) (hR : κ.R = R) (hini : ini = true → κ.meth.name = "<init>") (hE : XEnd κ ξ κ.R.cells κ.R.slots Q) (hret : ret = I.ret) (hnl : I.nl = nL) (hT : XThr κ ξ nL I X) (hK : XKGood κ ξ nL I K) :
    ∀ (n pc : Nat) (L : List (Option Value)) (st : List Value) (μ : XM) (nc ns : Nat), nc ≤ κ.R.cells → ns ≤ κ.R.slots → xwp I K Q X n pc L st μ nc ns → XG κ ξ nL nc ns μ pc L st := by
  obtain ⟨i1, i2, i3, i4, i5, i6, i7, i8, i9, i10⟩ := hI
  intro n
  induction n with
  | zero => intro pc L st μ nc ns _ _ h; exact absurd h id
  | succ n ih =>
    intro pc L st μ nc ns h1 h2 h
    have h : (match I.code pc with | some q => xstep I Q X (xgo I K (xwp I K Q X n)) pc L st μ nc ns q.1 q.2.2 | none => False) := h
    cases hq : I.code pc with
    | none => rw [hq] at h; exact absurd h id
    | some q =>
      rw [hq] at h
      obtain ⟨g1, g2, g3⟩ := i1 pc q hq
      have hgo := xgo_ok (I := I) (K := K) hK ih
      refine xstep_ok C (go := xgo I K (xwp I K Q X n)) g1 g2 hgo hE hret hnl (i9.trans (by rw [hR])) (i10.trans (by rw [hR])) i2 (fun k ci j hk => ?_) (fun k e hk => i4 κ hl hR k e hk) i5 i6 i7 i8 (fun E hE => hT.1 pc E hE) (fun L s E μ nc ns b1 b2 h => ?_) g3 h1 h2 h
      · obtain ⟨a1, a2, a3, a4⟩ := i3 k ci j hk
        exact ⟨a1, a2, a3, a4.imp id (fun z => ⟨z.1, hini z.2⟩)⟩
      · cases hh : I.hnd pc E with
        | none => rw [hh] at h; exact hT.2.1 pc E hh L s μ nc ns b1 b2 h
        | some hp => rw [hh] at h; exact hT.2.2 pc E hp hh L s μ nc ns (fun q => hgo _ _ _ _ _ _ b1 b2 (h q))
def xk0 : XKT := fun _ _ _ _ _ _ => False
def xk (h : Nat) (F : XFT) (K : XKT) : XKT := fun pc L st μ nc ns => bif Nat.beq pc h then F L st μ nc ns else K pc L st μ nc ns
noncomputable def xloop (I : XInfo) (Q : XQ) (X : XX) (fuel h : Nat) (Kf : XFT → XKT) (n : Nat) : XFT :=
  Nat.rec (fun _ _ _ _ _ => False) (fun _ ih L st μ nc ns => xwp I (Kf ih) Q X fuel h L st μ nc ns) n
noncomputable def xjoin (I : XInfo) (Q : XQ) (X : XX) (fuel h : Nat) (K : XKT) : XFT := fun L st μ nc ns => xwp I K Q X fuel h L st μ nc ns
theorem xk0_ok {I : XInfo} : XKGood κ ξ nL I xk0 := fun _ _ _ _ _ _ _ _ _ _ h => absurd h id
theorem xk_ok {I : XInfo} {h : Nat} {F : XFT} {K : XKT} (hF : XFGood κ ξ nL h F) (hK : XKGood κ ξ nL I K) : XKGood κ ξ nL I (xk h F K) := by
  intro pc bs hb L st μ nc ns h1 h2 hk
  unfold xk at hk
  cases hp : Nat.beq pc h with
  | true =>
    rw [hp] at hk
    have e := Nat.eq_of_beq_eq_true hp
    subst e
    exact hF _ _ _ _ _ h1 h2 hk
  | false =>
    rw [hp] at hk
    exact hK pc bs hb L st μ nc ns h1 h2 hk
/-- all that a walk of this method stands on -/
def XSet (κ : XK) (ξ : XE) (cc : ByteArray) (own : String) (nL : Nat) (ret : Option FieldType) (I : XInfo) (Q : XQ) (X : XX) : Prop := ∀ K : XKT, XKGood κ ξ nL I K → ∀ (n pc : Nat) (L : List (Option Value)) (st : List Value) (μ : XM) (nc ns : Nat), nc ≤ κ.R.cells → ns ≤ κ.R.slots → xwp I K Q X n pc L st μ nc ns → XG κ ξ nL nc ns μ pc L st
theorem xloop_ok {I : XInfo} {Q : XQ} {X : XX} (S : XSet κ ξ cc own nL ret I Q X) {fuel h : Nat} {Kf : XFT → XKT} (hKf : ∀ F, XFGood κ ξ nL h F → XKGood κ ξ nL I (Kf F)) : ∀ n, XFGood κ ξ nL h (xloop I Q X fuel h Kf n) := by
  intro n
  induction n with
  | zero => exact fun _ _ _ _ _ _ _ h => absurd h id
  | succ n ih => exact fun L st μ nc ns h1 h2 hk => S _ (hKf _ ih) _ _ _ _ _ _ _ h1 h2 hk
theorem xjoin_ok {I : XInfo} {Q : XQ} {X : XX} (S : XSet κ ξ cc own nL ret I Q X) {fuel h : Nat} {K : XKT} (hK : XKGood κ ξ nL I K) : XFGood κ ξ nL h (xjoin I Q X fuel h K) := fun L st μ nc ns h1 h2 hk => S K hK _ _ _ _ _ _ _ h1 h2 hk
end XMETH
/-- what a method does, by its walk -/
def xsem (I : XInfo) (Kf : XQ → XX → XKT) (fuel : Nat) : XSem := fun μ as Q X => bif Nat.ble (xarg as).length I.nl then xwp I (Kf Q X) Q X fuel 0 (xentry I.nl as) [] μ 0 0 else False
/-- a method that returns -/
theorem XMet.wp {l : Launch} {y : MethodName} {b : ByteArray} {rm : Room} {ini : Bool} {I : XInfo} {Kf : XQ → XX → XKT} {fuel : Nat} (hy : plainName y.cls = true) (hI : XInfoOK l rm y.cls b ini I) (hini : ini = true → y.name = "<init>") (he : ∀ pc, I.exc pc = none) (hh : ∀ pc E, I.hnd pc E = none)
    (hK : ∀ (κ : XK) (ξ : XE) (Q : XQ) (X : XX), XSet κ ξ b y.cls I.nl I.ret I Q X → XKGood κ ξ I.nl I (Kf Q X)) : XMet l y b I.nl I.ret rm (xsem I Kf fuel) := by
  refine XMet.of hy (fun κ ξ μ as Q C hl hR hn hE h => ?_)
  obtain ⟨h0, h⟩ := xbif h
  have S : XSet κ ξ b y.cls I.nl I.ret I Q (fun _ _ => False) := fun K hK => xwp_ok C hI hl hR (fun z => by rw [hn]; exact hini z) (by rw [hR]; exact hE) rfl rfl ⟨(fun pc E h => by rw [he] at h; cases h), (fun pc E _ L s μ nc ns _ _ h => absurd h id), (fun pc E hp h => by rw [hh] at h; cases h)⟩ hK
  exact ⟨Nat.le_of_ble_eq_true h0, S _ (hK κ ξ Q _ S) _ _ _ _ _ _ _ (Nat.zero_le _) (Nat.zero_le _) h⟩
