/-! ===== the walk of a method, as a predicate transformer over the memory ===== -/
/-- a call: its kind, how many arguments (but this), the receiver's class, what it answers with, what it makes, what it does -/
abbrev XCall : Type := Nat × Nat × Nat × Nat × Nat × Nat × XSem
abbrev XCall.kd (e : XCall) : Nat := e.1
abbrev XCall.n (e : XCall) : Nat := e.2.1
abbrev XCall.ci (e : XCall) : Nat := e.2.2.1
abbrev XCall.rk (e : XCall) : Nat := e.2.2.2.1
abbrev XCall.mc (e : XCall) : Nat := e.2.2.2.2.1
abbrev XCall.ms (e : XCall) : Nat := e.2.2.2.2.2.1
abbrev XCall.sem (e : XCall) : XSem := e.2.2.2.2.2.2
/-- a method: its code (with lengths and targets), its class's entries, its callees, its cut points -/
abbrev XInfo : Type := (Nat → Option (Instr × Nat × Nat)) × (Nat → Option (Nat × Nat)) × (Nat → Option (Nat × Nat)) × (Nat → Option XCall) × (Nat → Option Nat) × (Nat → Option Nat) × (Nat → Option Value) × (Nat → Option Nat) × (Nat → Option (List Bool)) × (Nat → Option String) × (Nat → String → Option Nat) × (Nat → Option (List (Int32 × Nat) × Nat)) × Nat × Nat × Nat × Option FieldType
abbrev XInfo.code (I : XInfo) := I.1
abbrev XInfo.fld (I : XInfo) := I.2.1
abbrev XInfo.pf (I : XInfo) := I.2.2.1
abbrev XInfo.cal (I : XInfo) := I.2.2.2.1
abbrev XInfo.nw (I : XInfo) := I.2.2.2.2.1
abbrev XInfo.an (I : XInfo) := I.2.2.2.2.2.1
abbrev XInfo.cst (I : XInfo) := I.2.2.2.2.2.2.1
abbrev XInfo.str (I : XInfo) := I.2.2.2.2.2.2.2.1
abbrev XInfo.cut (I : XInfo) := I.2.2.2.2.2.2.2.2.1
abbrev XInfo.exc (I : XInfo) := I.2.2.2.2.2.2.2.2.2.1
abbrev XInfo.hnd (I : XInfo) := I.2.2.2.2.2.2.2.2.2.2.1
abbrev XInfo.sw (I : XInfo) := I.2.2.2.2.2.2.2.2.2.2.2.1
abbrev XInfo.nl (I : XInfo) : Nat := I.2.2.2.2.2.2.2.2.2.2.2.2.1
abbrev XInfo.rc (I : XInfo) : Nat := I.2.2.2.2.2.2.2.2.2.2.2.2.2.1
abbrev XInfo.rs (I : XInfo) : Nat := I.2.2.2.2.2.2.2.2.2.2.2.2.2.2.1
abbrev XInfo.ret (I : XInfo) : Option FieldType := I.2.2.2.2.2.2.2.2.2.2.2.2.2.2.2
theorem xbif {b : Bool} {P : Prop} (h : bif b then P else False) : b = true ∧ P := by cases b <;> simp_all
def xI (st : List Value) (k : Int32 → List Value → Prop) : Prop := match st with | .int x :: s => k x s | _ => False
theorem xI_inv {st : List Value} {k : Int32 → List Value → Prop} (h : xI st k) : ∃ x s, st = .int x :: s ∧ k x s := by
  unfold xI at h
  split at h
  · exact ⟨_, _, rfl, h⟩
  · exact absurd h id
def xJ (st : List Value) (k : Int64 → List Value → Prop) : Prop := match st with | .long x :: s => k x s | _ => False
theorem xJ_inv {st : List Value} {k : Int64 → List Value → Prop} (h : xJ st k) : ∃ x s, st = .long x :: s ∧ k x s := by
  unfold xJ at h
  split at h
  · exact ⟨_, _, rfl, h⟩
  · exact absurd h id
def xD (st : List Value) (k : UInt64 → List Value → Prop) : Prop := match st with | .double x :: s => k x s | _ => False
theorem xD_inv {st : List Value} {k : UInt64 → List Value → Prop} (h : xD st k) : ∃ x s, st = .double x :: s ∧ k x s := by
  unfold xD at h
  split at h
  · exact ⟨_, _, rfl, h⟩
  · exact absurd h id
def xA (st : List Value) (k : Nat → List Value → Prop) : Prop := match st with | .ref x :: s => k x s | _ => False
theorem xA_inv {st : List Value} {k : Nat → List Value → Prop} (h : xA st k) : ∃ x s, st = .ref x :: s ∧ k x s := by
  unfold xA at h
  split at h
  · exact ⟨_, _, rfl, h⟩
  · exact absurd h id
def xV (st : List Value) (k : Value → List Value → Prop) : Prop := match st with | x :: s => k x s | _ => False
theorem xV_inv {st : List Value} {k : Value → List Value → Prop} (h : xV st k) : ∃ x s, st = x :: s ∧ k x s := by
  unfold xV at h
  split at h
  · exact ⟨_, _, rfl, h⟩
  · exact absurd h id
def xII (st : List Value) (k : Int32 → Int32 → List Value → Prop) : Prop := match st with | .int y :: .int x :: s => k x y s | _ => False
theorem xII_inv {st : List Value} {k : Int32 → Int32 → List Value → Prop} (h : xII st k) : ∃ x y s, st = .int y :: .int x :: s ∧ k x y s := by
  unfold xII at h
  split at h
  · exact ⟨_, _, _, rfl, h⟩
  · exact absurd h id
def xJJ (st : List Value) (k : Int64 → Int64 → List Value → Prop) : Prop := match st with | .long y :: .long x :: s => k x y s | _ => False
theorem xJJ_inv {st : List Value} {k : Int64 → Int64 → List Value → Prop} (h : xJJ st k) : ∃ x y s, st = .long y :: .long x :: s ∧ k x y s := by
  unfold xJJ at h
  split at h
  · exact ⟨_, _, _, rfl, h⟩
  · exact absurd h id
def xJI (st : List Value) (k : Int64 → Int32 → List Value → Prop) : Prop := match st with | .int y :: .long x :: s => k x y s | _ => False
theorem xJI_inv {st : List Value} {k : Int64 → Int32 → List Value → Prop} (h : xJI st k) : ∃ x y s, st = .int y :: .long x :: s ∧ k x y s := by
  unfold xJI at h
  split at h
  · exact ⟨_, _, _, rfl, h⟩
  · exact absurd h id
def xDD (st : List Value) (k : UInt64 → UInt64 → List Value → Prop) : Prop := match st with | .double y :: .double x :: s => k x y s | _ => False
theorem xDD_inv {st : List Value} {k : UInt64 → UInt64 → List Value → Prop} (h : xDD st k) : ∃ x y s, st = .double y :: .double x :: s ∧ k x y s := by
  unfold xDD at h
  split at h
  · exact ⟨_, _, _, rfl, h⟩
  · exact absurd h id
def xIA (st : List Value) (k : Int32 → Nat → List Value → Prop) : Prop := match st with | .int i :: .ref a :: s => k i a s | _ => False
theorem xIA_inv {st : List Value} {k : Int32 → Nat → List Value → Prop} (h : xIA st k) : ∃ i a s, st = .int i :: .ref a :: s ∧ k i a s := by
  unfold xIA at h
  split at h
  · exact ⟨_, _, _, rfl, h⟩
  · exact absurd h id
def xIIA (st : List Value) (k : Int32 → Int32 → Nat → List Value → Prop) : Prop := match st with | .int x :: .int i :: .ref a :: s => k x i a s | _ => False
theorem xIIA_inv {st : List Value} {k : Int32 → Int32 → Nat → List Value → Prop} (h : xIIA st k) : ∃ x i a s, st = .int x :: .int i :: .ref a :: s ∧ k x i a s := by
  unfold xIIA at h
  split at h
  · exact ⟨_, _, _, _, rfl, h⟩
  · exact absurd h id
def xJIA (st : List Value) (k : Int64 → Int32 → Nat → List Value → Prop) : Prop := match st with | .long x :: .int i :: .ref a :: s => k x i a s | _ => False
theorem xJIA_inv {st : List Value} {k : Int64 → Int32 → Nat → List Value → Prop} (h : xJIA st k) : ∃ x i a s, st = .long x :: .int i :: .ref a :: s ∧ k x i a s := by
  unfold xJIA at h
  split at h
  · exact ⟨_, _, _, _, rfl, h⟩
  · exact absurd h id
def xDIA (st : List Value) (k : UInt64 → Int32 → Nat → List Value → Prop) : Prop := match st with | .double x :: .int i :: .ref a :: s => k x i a s | _ => False
theorem xDIA_inv {st : List Value} {k : UInt64 → Int32 → Nat → List Value → Prop} (h : xDIA st k) : ∃ x i a s, st = .double x :: .int i :: .ref a :: s ∧ k x i a s := by
  unfold xDIA at h
  split at h
  · exact ⟨_, _, _, _, rfl, h⟩
  · exact absurd h id
def xAIA (st : List Value) (k : Nat → Int32 → Nat → List Value → Prop) : Prop := match st with | .ref x :: .int i :: .ref a :: s => k x i a s | _ => False
theorem xAIA_inv {st : List Value} {k : Nat → Int32 → Nat → List Value → Prop} (h : xAIA st k) : ∃ x i a s, st = .ref x :: .int i :: .ref a :: s ∧ k x i a s := by
  unfold xAIA at h
  split at h
  · exact ⟨_, _, _, _, rfl, h⟩
  · exact absurd h id
def xI1 (st : List Value) (k : Int32 → Prop) : Prop := match st with | [.int x] => k x | _ => False
theorem xI1_inv {st : List Value} {k : Int32 → Prop} (h : xI1 st k) : ∃ x, st = [.int x] ∧ k x := by
  unfold xI1 at h
  split at h
  · exact ⟨_, rfl, h⟩
  · exact absurd h id
def xJ1 (st : List Value) (k : Int64 → Prop) : Prop := match st with | [.long x] => k x | _ => False
theorem xJ1_inv {st : List Value} {k : Int64 → Prop} (h : xJ1 st k) : ∃ x, st = [.long x] ∧ k x := by
  unfold xJ1 at h
  split at h
  · exact ⟨_, rfl, h⟩
  · exact absurd h id
def xD1 (st : List Value) (k : UInt64 → Prop) : Prop := match st with | [.double x] => k x | _ => False
theorem xD1_inv {st : List Value} {k : UInt64 → Prop} (h : xD1 st k) : ∃ x, st = [.double x] ∧ k x := by
  unfold xD1 at h
  split at h
  · exact ⟨_, rfl, h⟩
  · exact absurd h id
def xA1 (st : List Value) (k : Nat → Prop) (kn : Prop) : Prop := match st with | [.ref a] => k a | [.null] => kn | _ => False
theorem xA1_inv {st : List Value} {k : Nat → Prop} {kn : Prop} (h : xA1 st k kn) : (∃ a, st = [.ref a] ∧ k a) ∨ (st = [.null] ∧ kn) := by
  unfold xA1 at h
  split at h
  · exact Or.inl ⟨_, rfl, h⟩
  · exact Or.inr ⟨rfl, h⟩
  · exact absurd h id
def xN1 (st : List Value) (k : Prop) : Prop := match st with | [] => k | _ => False
theorem xN1_inv {st : List Value} {k : Prop} (h : xN1 st k) : st = [] ∧ k := by
  unfold xN1 at h
  split at h
  · exact ⟨rfl, h⟩
  · exact absurd h id
def xAn (st : List Value) (k : Nat → List Value → Prop) (kn : List Value → Prop) : Prop := match st with | .ref a :: s => k a s | .null :: s => kn s | _ => False
theorem xAn_inv {st : List Value} {k : Nat → List Value → Prop} {kn : List Value → Prop} (h : xAn st k kn) : (∃ a s, st = .ref a :: s ∧ k a s) ∨ (∃ s, st = .null :: s ∧ kn s) := by
  unfold xAn at h
  split at h
  · exact Or.inl ⟨_, _, rfl, h⟩
  · exact Or.inr ⟨_, rfl, h⟩
  · exact absurd h id
def xcopyArgs (st : List Value) (k : Int32 → Int32 → Nat → Int32 → Nat → List Value → Prop) : Prop := match st with | .int n :: .int dp :: .ref b :: .int sp :: .ref a :: [] => k n dp b sp a [] | _ => False
theorem xcopyArgs_inv {st : List Value} {k : Int32 → Int32 → Nat → Int32 → Nat → List Value → Prop} (h : xcopyArgs st k) : ∃ n dp b sp a s, st = .int n :: .int dp :: .ref b :: .int sp :: .ref a :: s ∧ s = [] ∧ k n dp b sp a s := by
  unfold xcopyArgs at h
  split at h
  · exact ⟨_, _, _, _, _, _, rfl, rfl, h⟩
  · exact absurd h id
def xlI (L : List (Option Value)) (i : Nat) (k : Int32 → Prop) : Prop := match L[i]? with | some (some (.int x)) => k x | _ => False
theorem xlI_inv {L : List (Option Value)} {i : Nat} {k : Int32 → Prop} (h : xlI L i k) : ∃ x, L[i]? = some (some (.int x)) ∧ k x := by
  unfold xlI at h
  split at h
  · rename_i h0
    exact ⟨_, h0, h⟩
  · exact absurd h id
def xlJ (L : List (Option Value)) (i : Nat) (k : Int64 → Prop) : Prop := match L[i]? with | some (some (.long x)) => k x | _ => False
theorem xlJ_inv {L : List (Option Value)} {i : Nat} {k : Int64 → Prop} (h : xlJ L i k) : ∃ x, L[i]? = some (some (.long x)) ∧ k x := by
  unfold xlJ at h
  split at h
  · rename_i h0
    exact ⟨_, h0, h⟩
  · exact absurd h id
def xlD (L : List (Option Value)) (i : Nat) (k : UInt64 → Prop) : Prop := match L[i]? with | some (some (.double x)) => k x | _ => False
theorem xlD_inv {L : List (Option Value)} {i : Nat} {k : UInt64 → Prop} (h : xlD L i k) : ∃ x, L[i]? = some (some (.double x)) ∧ k x := by
  unfold xlD at h
  split at h
  · rename_i h0
    exact ⟨_, h0, h⟩
  · exact absurd h id
def xlA (L : List (Option Value)) (i : Nat) (k : Nat → Prop) (kn : Prop) : Prop := match L[i]? with | some (some (.ref a)) => k a | some (some .null) => kn | _ => False
theorem xlA_inv {L : List (Option Value)} {i : Nat} {k : Nat → Prop} {kn : Prop} (h : xlA L i k kn) : (∃ a, L[i]? = some (some (.ref a)) ∧ k a) ∨ (L[i]? = some (some .null) ∧ kn) := by
  unfold xlA at h
  split at h
  · rename_i h0
    exact Or.inl ⟨_, h0, h⟩
  · rename_i h0
    exact Or.inr ⟨h0, h⟩
  · exact absurd h id
def xgetv (μ : XM) (key a : Nat) (ty : FieldType) (k : Value → Prop) : Prop := match ty with
  | .int => k (.int (gI μ key a))
  | .boolean => k (.int (gI μ key a))
  | .long => k (.long (gL μ key a))
  | _ => ∃ b, gR μ key a = some b ∧ k (.ref b)
theorem xgetv_inv {μ : XM} {key a : Nat} {ty : FieldType} {k : Value → Prop} (h : xgetv μ key a ty k) : ∃ v, v = xv μ a key ty ∧ k v := by
  cases ty <;> simp only [xgetv] at h <;> first | exact ⟨_, rfl, h⟩ | (obtain ⟨b, hb, h⟩ := h; exact ⟨_, by simp [xv, hb, va_rf], h⟩)
def xputv (st : List Value) (ty : FieldType) (kI : Nat → Int32 → List Value → Prop) (kL : Nat → Int64 → List Value → Prop) (kR : Nat → Nat → List Value → Prop) : Prop := match ty with
  | .int => (match st with | .int x :: .ref a :: s => kI a x s | _ => False)
  | .boolean => (match st with | .int x :: .ref a :: s => narrow .boolean (.int x) = .int x ∧ fits .boolean (.int x) = true ∧ kI a x s | _ => False)
  | .long => (match st with | .long x :: .ref a :: s => kL a x s | _ => False)
  | .object _ => (match st with | .ref x :: .ref a :: s => kR a x s | _ => False)
  | .array _ => (match st with | .ref x :: .ref a :: s => kR a x s | _ => False)
  | _ => False
theorem xputv_inv {st : List Value} {ty : FieldType} {kI : Nat → Int32 → List Value → Prop} {kL : Nat → Int64 → List Value → Prop} {kR : Nat → Nat → List Value → Prop} (h : xputv st ty kI kL kR) :
    (∃ a x s, st = .int x :: .ref a :: s ∧ ty = .int ∧ kI a x s) ∨ (∃ a x s, st = .int x :: .ref a :: s ∧ ty = .boolean ∧ narrow .boolean (.int x) = .int x ∧ fits .boolean (.int x) = true ∧ kI a x s) ∨ (∃ a x s, st = .long x :: .ref a :: s ∧ ty = .long ∧ kL a x s) ∨ (∃ a x s, st = .ref x :: .ref a :: s ∧ xrefTy ty = true ∧ kR a x s) := by
  cases ty <;> simp only [xputv] at h <;> first
    | exact absurd h id
    | (split at h
       · first
         | exact Or.inl ⟨_, _, _, rfl, rfl, h⟩
         | exact Or.inr (Or.inl ⟨_, _, _, rfl, rfl, h⟩)
         | exact Or.inr (Or.inr (Or.inl ⟨_, _, _, rfl, rfl, h⟩))
         | exact Or.inr (Or.inr (Or.inr ⟨_, _, _, rfl, rfl, h⟩))
       · exact absurd h id)
def xswc : List (Int32 × Nat) → Nat → Int32 → (Nat → Prop) → Prop
  | [], d, _, k => k d
  | c :: cs, d, x, k => if x = c.1 then k c.2 else xswc cs d x k
def xswt : List (Int32 × Nat) → Nat → Int32 → Nat
  | [], d, _ => d
  | c :: cs, d, x => if x = c.1 then c.2 else xswt cs d x
def xswitch (o : Option (List (Int32 × Nat) × Nat)) (x : Int32) (k : Nat → Prop) : Prop := match o with
  | some q => xswc q.1 q.2 x k
  | none => False
theorem xswc_eq (k : Nat → Prop) (d : Nat) (x : Int32) : ∀ cs : List (Int32 × Nat), xswc cs d x k = k (xswt cs d x)
  | [] => rfl
  | c :: cs => by
    unfold xswc xswt
    split
    · rfl
    · exact xswc_eq k d x cs
theorem xswitch_inv {o : Option (List (Int32 × Nat) × Nat)} {x : Int32} {k : Nat → Prop} (h : xswitch o x k) : ∃ t, o.map (fun q => xswt q.1 q.2 x) = some t ∧ k t := by
  unfold xswitch at h
  split at h
  · rw [xswc_eq] at h
    exact ⟨_, rfl, h⟩
  · exact absurd h id
def xtake (st : List Value) (n : Nat) (k : List Value → Prop) : Prop := bif Nat.ble n st.length && Nat.ble ((st.drop n).map fun v => v.category).sum 8 then k (st.drop n) else False
theorem xtake_inv {st : List Value} {n : Nat} {k : List Value → Prop} (h : xtake st n k) : ∃ s, st = st.take n ++ s ∧ n ≤ st.length ∧ (s.map fun v => v.category).sum ≤ 8 ∧ k s := by
  obtain ⟨h0, h⟩ := xbif h
  simp only [Bool.and_eq_true] at h0
  exact ⟨_, (List.take_append_drop n st).symm, Nat.le_of_ble_eq_true h0.1, Nat.le_of_ble_eq_true h0.2, h⟩
theorem xcat_tail {v : Value} {s : List Value} (h : ((v :: s).map fun v => v.category).sum ≤ 8) : (s.map fun v => v.category).sum ≤ 8 := by
  simp only [List.map_cons, List.sum_cons] at h
  omega
def xroom (I : XInfo) (e : XCall) (nc ns : Nat) (P : Prop) : Prop := bif Nat.beq e.mc 0 && Nat.beq e.ms 0 then P else (nc + e.mc ≤ I.rc ∧ ns + e.ms ≤ I.rs ∧ P)
theorem xroom_inv {I : XInfo} {e : XCall} {nc ns rc rs : Nat} {P : Prop} (hrc : I.rc = rc) (hrs : I.rs = rs) (h1 : nc ≤ rc) (h2 : ns ≤ rs) (h : xroom I e nc ns P) : nc + e.mc ≤ rc ∧ ns + e.ms ≤ rs ∧ P := by
  unfold xroom at h
  cases hb : (Nat.beq e.mc 0 && Nat.beq e.ms 0) with
  | true =>
    rw [hb] at h
    simp only [Bool.and_eq_true] at hb
    have e1 := Nat.eq_of_beq_eq_true hb.1
    have e2 := Nat.eq_of_beq_eq_true hb.2
    exact ⟨by rw [e1]; exact h1, by rw [e2]; exact h2, h⟩
  | false =>
    rw [hb] at h
    exact ⟨hrc ▸ h.1, hrs ▸ h.2.1, h.2.2⟩
def xretk (rk : Nat) (v : Option Value) (k : List Value → Prop) : Prop := match rk with
  | 0 => (match v with | none => k [] | _ => False)
  | 1 => (match v with | some (.int r) => k [.int r] | _ => False)
  | 2 => (match v with | some (.long r) => k [.long r] | _ => False)
  | 3 => (match v with | some (.ref a) => k [.ref a] | some .null => k [.null] | _ => False)
  | 4 => (match v with | some (.double r) => k [.double r] | _ => False)
  | _ => False
theorem xretk_inv {rk : Nat} {v : Option Value} {k : List Value → Prop} (h : xretk rk v k) : k v.toList := by
  unfold xretk at h
  split at h
  all_goals first | exact absurd h id | (split at h <;> first | exact h | exact absurd h id)
def xmask : List Bool → List (Option Value) → List (Option Value)
  | true :: bs, v :: vs => v :: xmask bs vs
  | false :: bs, _ :: vs => none :: xmask bs vs
  | _, vs => vs
theorem xmask_len : ∀ (bs : List Bool) (L : List (Option Value)), (xmask bs L).length = L.length
  | [], L => by simp [xmask]
  | b :: bs, [] => by cases b <;> simp [xmask]
  | b :: bs, v :: vs => by cases b <;> simp [xmask, xmask_len bs vs]
theorem xmask_at : ∀ (bs : List Bool) (L : List (Option Value)) (i : Nat) (v : Value), (xmask bs L)[i]? = some (some v) → L[i]? = some (some v)
  | [], L, i, v, h => by simpa [xmask] using h
  | b :: bs, [], i, v, h => by cases b <;> simp [xmask] at h
  | b :: bs, w :: vs, i, v, h => by
    cases b <;> cases i <;> simp [xmask] at h ⊢
    · exact xmask_at bs vs _ v h
    · exact h
    · exact xmask_at bs vs _ v h
def xgo (I : XInfo) (K : Nat → List (Option Value) → List Value → XM → Nat → Nat → Prop) (ih : Nat → List (Option Value) → List Value → XM → Nat → Nat → Prop) (pc : Nat) (L : List (Option Value)) (st : List Value) (μ : XM) (nc ns : Nat) : Prop := match I.cut pc with
  | some bs => K pc (xmask bs L) st μ nc ns
  | none => ih pc L st μ nc ns

/-- one instruction -/
def xstep (I : XInfo) (Q : XQ) (X : XX) (go : Nat → List (Option Value) → List Value → XM → Nat → Nat → Prop) (pc : Nat) (L : List (Option Value)) (st : List Value) (μ : XM) (nc ns : Nat) (ins : Instr) (tgt : Nat) : Prop := match ins with
  | .iadd => xII st fun x y s => go (pc + 1) L (.int (x + y) :: s) μ nc ns
  | .isub => xII st fun x y s => go (pc + 1) L (.int (x - y) :: s) μ nc ns
  | .imul => xII st fun x y s => go (pc + 1) L (.int (x * y) :: s) μ nc ns
  | .iand => xII st fun x y s => go (pc + 1) L (.int (x &&& y) :: s) μ nc ns
  | .ior => xII st fun x y s => go (pc + 1) L (.int (x ||| y) :: s) μ nc ns
  | .ixor => xII st fun x y s => go (pc + 1) L (.int (x ^^^ y) :: s) μ nc ns
  | .ishl => xII st fun x y s => go (pc + 1) L (.int (x <<< (y &&& 31)) :: s) μ nc ns
  | .ishr => xII st fun x y s => go (pc + 1) L (.int (x >>> (y &&& 31)) :: s) μ nc ns
  | .iushr => xII st fun x y s => go (pc + 1) L (.int ((x.toUInt32 >>> (y.toUInt32 &&& Int32.toUInt32 31)).toInt32) :: s) μ nc ns
  | .idiv => xII st fun x y s => ¬ y = 0 ∧ go (pc + 1) L (.int (x / y) :: s) μ nc ns
  | .irem => xII st fun x y s => ¬ y = 0 ∧ go (pc + 1) L (.int (x - x / y * y) :: s) μ nc ns
  | .ineg => xI st fun x s => go (pc + 1) L (.int (-x) :: s) μ nc ns
  | .ladd => xJJ st fun x y s => go (pc + 1) L (.long (x + y) :: s) μ nc ns
  | .lsub => xJJ st fun x y s => go (pc + 1) L (.long (x - y) :: s) μ nc ns
  | .lmul => xJJ st fun x y s => go (pc + 1) L (.long (x * y) :: s) μ nc ns
  | .land => xJJ st fun x y s => go (pc + 1) L (.long (x &&& y) :: s) μ nc ns
  | .lor => xJJ st fun x y s => go (pc + 1) L (.long (x ||| y) :: s) μ nc ns
  | .lxor => xJJ st fun x y s => go (pc + 1) L (.long (x ^^^ y) :: s) μ nc ns
  | .lushr => xJI st fun x y s => go (pc + 1) L (.long ((x.toUInt64 >>> (y.toInt64.toUInt64 &&& Int64.toUInt64 63)).toInt64) :: s) μ nc ns
  | .lshl => xJI st fun x y s => go (pc + 1) L (.long (x <<< (y.toInt64 &&& 63)) :: s) μ nc ns
  | .lcmp => xJJ st fun x y s => go (pc + 1) L (.int (lg_cmp x y) :: s) μ nc ns
  | .dcmp op => xDD st fun x y s => go (pc + 1) L (.int (Op.cmpValue (FP.dcmp x y) op) :: s) μ nc ns
  | .ddiv => xDD st fun x y s => vf_n64 (FP.ddiv x y) ∧ go (pc + 1) L (.double (FP.ddiv x y) :: s) μ nc ns
  | .i2d => xI st fun x s => go (pc + 1) L (.double (FP.i2d x) :: s) μ nc ns
  | .i2l => xI st fun x s => go (pc + 1) L (.long x.toInt64 :: s) μ nc ns
  | .l2i => xJ st fun x s => go (pc + 1) L (.int x.toInt32 :: s) μ nc ns
  | .i2b => xI st fun x s => go (pc + 1) L (.int x.toInt8.toInt32 :: s) μ nc ns
  | .i2c => xI st fun x s => go (pc + 1) L (.int (x.toUInt32 % 65536).toInt32 :: s) μ nc ns
  | .dconst d => d = 0 ∧ go (pc + 1) L (.double FP.dconst0 :: st) μ nc ns
  | .iconst k => go (pc + 1) L (.int (Int32.ofInt k) :: st) μ nc ns
  | .bipush k => go (pc + 2) L (.int (Int8.ofInt k).toInt32 :: st) μ nc ns
  | .sipush k => go (pc + 3) L (.int (Int16.ofInt k).toInt32 :: st) μ nc ns
  | .lconst k => go (pc + 1) L (.long (Int64.ofNat (k : Nat)) :: st) μ nc ns
  | .aconst_null => go (pc + 1) L (.null :: st) μ nc ns
  | .dup => xV st fun v s => v.category = 1 ∧ go (pc + 1) L (v :: v :: s) μ nc ns
  | .pop => xV st fun v s => v.category = 1 ∧ go (pc + 1) L (s) μ nc ns
  | .dup2 => xV st fun v s => xV s fun w s => v.category = 1 ∧ w.category = 1 ∧ go (pc + 1) L (v :: w :: v :: w :: s) μ nc ns
  | .iload_n k => xlI L (k : Nat) fun x => go (pc + 1) L (.int x :: st) μ nc ns
  | .iload k => xlI L k fun x => go (pc + 2) L (.int x :: st) μ nc ns
  | .lload_n k => xlJ L (k : Nat) fun x => go (pc + 1) L (.long x :: st) μ nc ns
  | .lload k => xlJ L k fun x => go (pc + 2) L (.long x :: st) μ nc ns
  | .dload_n k => xlD L (k : Nat) fun x => go (pc + 1) L (.double x :: st) μ nc ns
  | .dload k => xlD L k fun x => go (pc + 2) L (.double x :: st) μ nc ns
  | .aload_n k => xlA L (k : Nat) (fun a => go (pc + 1) L (.ref a :: st) μ nc ns) (go (pc + 1) L (.null :: st) μ nc ns)
  | .aload k => xlA L k (fun a => go (pc + 2) L (.ref a :: st) μ nc ns) (go (pc + 2) L (.null :: st) μ nc ns)
  | .istore_n k => xI st fun x s => bif Nat.blt ((k : Nat)) I.nl then go (pc + 1) (lset L (k : Nat) (.int x)) (s) μ nc ns else False
  | .istore k => xI st fun x s => bif Nat.blt (k) I.nl then go (pc + 2) (lset L k (.int x)) (s) μ nc ns else False
  | .lstore_n k => xJ st fun x s => bif Nat.blt ((k : Nat) + 1) I.nl then go (pc + 1) (lset2 L (k : Nat) (.long x)) (s) μ nc ns else False
  | .lstore k => xJ st fun x s => bif Nat.blt (k + 1) I.nl then go (pc + 2) (lset2 L k (.long x)) (s) μ nc ns else False
  | .dstore_n k => xD st fun x s => bif Nat.blt ((k : Nat) + 1) I.nl then go (pc + 1) (lset2 L (k : Nat) (.double x)) (s) μ nc ns else False
  | .dstore k => xD st fun x s => bif Nat.blt (k + 1) I.nl then go (pc + 2) (lset2 L k (.double x)) (s) μ nc ns else False
  | .astore_n k => bif Nat.blt (k : Nat) I.nl then xAn st (fun a s => go (pc + 1) (lset L (k : Nat) (.ref a)) (s) μ nc ns) (fun s => go (pc + 1) (lset L (k : Nat) .null) (s) μ nc ns) else False
  | .astore k => bif Nat.blt k I.nl then xAn st (fun a s => go (pc + 2) (lset L k (.ref a)) (s) μ nc ns) (fun s => go (pc + 2) (lset L k .null) (s) μ nc ns) else False
  | .iinc k v => xlI L k fun x => go (pc + 3) (lset L k (.int (x + Int32.ofInt v))) (st) μ nc ns
  | .ifCond cnd off => match cnd with | .eq => xI st fun x s => if x = 0 then go (tgt) L (s) μ nc ns else go (pc + 3) L (s) μ nc ns | .ne => xI st fun x s => if x = 0 then go (pc + 3) L (s) μ nc ns else go (tgt) L (s) μ nc ns | .lt => xI st fun x s => if x < 0 then go (tgt) L (s) μ nc ns else go (pc + 3) L (s) μ nc ns | .ge => xI st fun x s => if 0 ≤ x then go (tgt) L (s) μ nc ns else go (pc + 3) L (s) μ nc ns | .gt => xI st fun x s => if 0 < x then go (tgt) L (s) μ nc ns else go (pc + 3) L (s) μ nc ns | .le => xI st fun x s => if x ≤ 0 then go (tgt) L (s) μ nc ns else go (pc + 3) L (s) μ nc ns
  | .if_icmp cnd off => match cnd with | .eq => xII st fun x y s => if x = y then go (tgt) L (s) μ nc ns else go (pc + 3) L (s) μ nc ns | .ne => xII st fun x y s => if x = y then go (pc + 3) L (s) μ nc ns else go (tgt) L (s) μ nc ns | .lt => xII st fun x y s => if x < y then go (tgt) L (s) μ nc ns else go (pc + 3) L (s) μ nc ns | .ge => xII st fun x y s => if y ≤ x then go (tgt) L (s) μ nc ns else go (pc + 3) L (s) μ nc ns | .gt => xII st fun x y s => if y < x then go (tgt) L (s) μ nc ns else go (pc + 3) L (s) μ nc ns | .le => xII st fun x y s => if x ≤ y then go (tgt) L (s) μ nc ns else go (pc + 3) L (s) μ nc ns
  | .goto off => go (tgt) L (st) μ nc ns
  | .ifnull off => xAn st (fun a s => go (pc + 3) L (s) μ nc ns) (fun s => go (tgt) L (s) μ nc ns)
  | .ifnonnull off => xAn st (fun a s => go (tgt) L (s) μ nc ns) (fun s => go (pc + 3) L (s) μ nc ns)
  | .tableswitch dflt lo hi offs => xI st fun x s => xswitch (I.sw pc) x fun t => go t L s μ nc ns
  | .lookupswitch dflt ps => xI st fun x s => xswitch (I.sw pc) x fun t => go t L s μ nc ns
  | .ldc k => match I.str k with | some q => (bif Nat.beq 2 2 then ∃ a, gR μ (2000 + q) 0 = some a ∧ go (pc + 2) L (.ref a :: st) μ nc ns else ∃ a, gR μ (2000 + q) 0 = some a ∧ go (pc + 2) L (.ref a :: st) μ nc ns) | none => match I.cst k with | some (.int v) => go (pc + 2) L (.int v :: st) μ nc ns | _ => False
  | .ldc_w k => match I.str k with | some q => (bif Nat.beq 3 2 then ∃ a, gR μ (2000 + q) 0 = some a ∧ go (pc + 3) L (.ref a :: st) μ nc ns else ∃ a, gR μ (2000 + q) 0 = some a ∧ go (pc + 3) L (.ref a :: st) μ nc ns) | none => match I.cst k with | some (.int v) => go (pc + 3) L (.int v :: st) μ nc ns | _ => False
  | .ldc2_w k => match I.cst k with | some (.long v) => go (pc + 3) L (.long v :: st) μ nc ns | _ => False
  | .getfield k => match I.fld k with | some (ci, j) => xA st fun a s => tg μ a = some (.inl ci) ∧ xgetv μ (32 * ci + j) a (xtyf ci j) fun v => go (pc + 3) L (v :: s) μ nc ns | none => False
  | .putfield k => match I.pf k with | some (ci, j) => xputv st (xtyf ci j) (fun a x s => tg μ a = some (.inl ci) ∧ go (pc + 3) L (s) (sI μ (32 * ci + j) a x) nc ns) (fun a x s => tg μ a = some (.inl ci) ∧ go (pc + 3) L (s) (sL μ (32 * ci + j) a x) nc ns) (fun a x s => tg μ a = some (.inl ci) ∧ go (pc + 3) L (s) (sR μ (32 * ci + j) a (some x)) nc ns) | none => False
  | .arraylength => xA st fun a s => (∃ k, (k < 7 ∨ k = 9) ∧ tg μ a = some (.inr k)) ∧ go (pc + 1) L (.int (Int32.ofNat (ln μ a)) :: s) μ nc ns
  | .iaload => xIA st fun i a s => (tg μ a = some (.inr 0) ∨ tg μ a = some (.inr 9)) ∧ vp_in i (ln μ a) ∧ go (pc + 1) L (.int (aI μ a i.toNatClampNeg) :: s) μ nc ns
  | .baload => xIA st fun i a s => (tg μ a = some (.inr 1) ∨ tg μ a = some (.inr 2)) ∧ vp_in i (ln μ a) ∧ go (pc + 1) L (.int (aI μ a i.toNatClampNeg) :: s) μ nc ns
  | .laload => xIA st fun i a s => (tg μ a = some (.inr 3)) ∧ vp_in i (ln μ a) ∧ go (pc + 1) L (.long (aL μ a i.toNatClampNeg) :: s) μ nc ns
  | .daload => xIA st fun i a s => (tg μ a = some (.inr 4)) ∧ vp_in i (ln μ a) ∧ go (pc + 1) L (.double (aD μ a i.toNatClampNeg) :: s) μ nc ns
  | .aaload => xIA st fun i a s => (tg μ a = some (.inr 5) ∨ tg μ a = some (.inr 6)) ∧ vp_in i (ln μ a) ∧ ∃ b, aR μ a i.toNatClampNeg = some b ∧ go (pc + 1) L (.ref b :: s) μ nc ns
  | .iastore => xIIA st fun x i a s => tg μ a = some (.inr 0) ∧ vp_in i (ln μ a) ∧ go (pc + 1) L (s) (wI μ a i.toNatClampNeg x) nc ns
  | .bastore => xIIA st fun x i a s => vp_in i (ln μ a) ∧ (tg μ a = some (.inr 1) ∧ go (pc + 1) L (s) (wI μ a i.toNatClampNeg (vp_nar .boolean x)) nc ns ∨ tg μ a = some (.inr 2) ∧ go (pc + 1) L (s) (wI μ a i.toNatClampNeg (vp_nar .byte x)) nc ns)
  | .lastore => xJIA st fun x i a s => tg μ a = some (.inr 3) ∧ vp_in i (ln μ a) ∧ go (pc + 1) L (s) (wL μ a i.toNatClampNeg x) nc ns
  | .dastore => xDIA st fun x i a s => tg μ a = some (.inr 4) ∧ vp_in i (ln μ a) ∧ go (pc + 1) L (s) (wD μ a i.toNatClampNeg x) nc ns
  | .aastore => xAIA st fun v i a s => vp_in i (ln μ a) ∧ (tg μ a = some (.inr 5) ∧ tg μ v = some (.inl 7) ∨ tg μ a = some (.inr 6) ∧ tg μ v = some (.inl 3)) ∧ go (pc + 1) L (s) (wR μ a i.toNatClampNeg (some v)) nc ns
  | .new k => match I.exc pc with | some E => xN1 st (nc + 1 ≤ I.rc ∧ ns + 6 ≤ I.rs ∧ X E (uF μ)) | none => match I.nw k with | some ci => fr μ = true ∧ nc + 1 ≤ I.rc ∧ ns + xN ci ≤ I.rs ∧ go (pc + 3) L (.ref (tp μ) :: st) (nO μ ci) (nc + 1) (ns + xN ci) | none => False
  | .newarray ty => match ty with | .int => xI st fun n s => fr μ = true ∧ ¬ n < 0 ∧ n.toNatClampNeg ≤ 1000000 ∧ nc + 1 ≤ I.rc ∧ ns + n.toNatClampNeg ≤ I.rs ∧ go (pc + 2) L (.ref (tp μ) :: s) (nA μ 0 n.toNatClampNeg) (nc + 1) (ns + n.toNatClampNeg) | .boolean => xI st fun n s => fr μ = true ∧ ¬ n < 0 ∧ n.toNatClampNeg ≤ 1000000 ∧ nc + 1 ≤ I.rc ∧ ns + n.toNatClampNeg ≤ I.rs ∧ go (pc + 2) L (.ref (tp μ) :: s) (nA μ 1 n.toNatClampNeg) (nc + 1) (ns + n.toNatClampNeg) | .byte => xI st fun n s => fr μ = true ∧ ¬ n < 0 ∧ n.toNatClampNeg ≤ 1000000 ∧ nc + 1 ≤ I.rc ∧ ns + n.toNatClampNeg ≤ I.rs ∧ go (pc + 2) L (.ref (tp μ) :: s) (nA μ 2 n.toNatClampNeg) (nc + 1) (ns + n.toNatClampNeg) | .long => xI st fun n s => fr μ = true ∧ ¬ n < 0 ∧ n.toNatClampNeg ≤ 1000000 ∧ nc + 1 ≤ I.rc ∧ ns + n.toNatClampNeg ≤ I.rs ∧ go (pc + 2) L (.ref (tp μ) :: s) (nA μ 3 n.toNatClampNeg) (nc + 1) (ns + n.toNatClampNeg) | .double => xI st fun n s => fr μ = true ∧ ¬ n < 0 ∧ n.toNatClampNeg ≤ 1000000 ∧ nc + 1 ≤ I.rc ∧ ns + n.toNatClampNeg ≤ I.rs ∧ go (pc + 2) L (.ref (tp μ) :: s) (nA μ 4 n.toNatClampNeg) (nc + 1) (ns + n.toNatClampNeg) | _ => False
  | .anewarray k => match I.an k with | some 5 => xI st fun n s => fr μ = true ∧ ¬ n < 0 ∧ n.toNatClampNeg ≤ 1000000 ∧ nc + 1 ≤ I.rc ∧ ns + n.toNatClampNeg ≤ I.rs ∧ go (pc + 3) L (.ref (tp μ) :: s) (nA μ 5 n.toNatClampNeg) (nc + 1) (ns + n.toNatClampNeg) | some 6 => xI st fun n s => fr μ = true ∧ ¬ n < 0 ∧ n.toNatClampNeg ≤ 1000000 ∧ nc + 1 ≤ I.rc ∧ ns + n.toNatClampNeg ≤ I.rs ∧ go (pc + 3) L (.ref (tp μ) :: s) (nA μ 6 n.toNatClampNeg) (nc + 1) (ns + n.toNatClampNeg) | _ => False
  | .ireturn => xI1 st fun x => match I.ret with | some .int => Q (some (.int x)) μ | some .boolean => narrow .boolean (.int x) = .int x ∧ Q (some (.int x)) μ | some .char => narrow .char (.int x) = .int x ∧ Q (some (.int x)) μ | some .byte => narrow .byte (.int x) = .int x ∧ Q (some (.int x)) μ | _ => False
  | .lreturn => xJ1 st fun x => I.ret = some .long ∧ Q (some (.long x)) μ
  | .dreturn => xD1 st fun x => I.ret = some .double ∧ Q (some (.double x)) μ
  | .areturn => match I.ret with | some rt => xrefTy rt = true ∧ xA1 st (fun a => Q (some (.ref a)) μ) (Q (some .null) μ) | none => False
  | .return_ => xN1 st (I.ret = none ∧ Q none μ)
  | .invokestatic k => match I.cal k with | some e => (match e.kd with | 0 => xtake st e.n fun s => xroom I e nc ns (e.sem μ (st.take e.n).reverse (fun v μ1 => xretk e.rk v fun vs => go (pc + 3) L (vs ++ s) μ1 (nc + e.mc) (ns + e.ms)) (fun _ _ => False)) | 3 => xtake st e.n fun s => xroom I e nc ns (e.sem μ (st.take e.n).reverse (fun v μ1 => xretk e.rk v fun vs => go (pc + 3) L (vs ++ s) μ1 (nc + e.mc) (ns + e.ms)) (fun _ _ => False)) | 6 => xtake st e.n fun s => xroom I e nc ns (e.sem μ (st.take e.n).reverse (fun v μ1 => xretk e.rk v fun vs => go (pc + 3) L (vs ++ s) μ1 (nc + e.mc) (ns + e.ms)) (fun E μ1 => match I.hnd pc E with | some hp => ∀ q : Nat, go (hp) L (.ref q :: []) μ1 (nc + e.mc) (ns + e.ms) | none => X E μ1)) | 8 => xcopyArgs st fun n dp b sp a s => (tg μ a = some (.inr 0) ∧ tg μ b = some (.inr 0) ∨ tg μ a = some (.inr 1) ∧ tg μ b = some (.inr 1) ∧ ∀ i, i < n.toNatClampNeg → aI μ a (sp.toNatClampNeg + i) = 0 ∨ aI μ a (sp.toNatClampNeg + i) = 1) ∧ ¬ sp < 0 ∧ ¬ dp < 0 ∧ ¬ n < 0 ∧ sp.toNatClampNeg + n.toNatClampNeg ≤ ln μ a ∧ dp.toNatClampNeg + n.toNatClampNeg ≤ ln μ b ∧ go (pc + 3) L (s) (uF (cI μ a sp.toNatClampNeg b dp.toNatClampNeg n.toNatClampNeg)) nc ns | _ => False) | none => False
  | .invokevirtual k => match I.cal k with | some e => (match e.kd with | 1 => xtake st e.n fun s0 => xA s0 fun a s => tg μ a = some (.inl e.ci) ∧ xroom I e nc ns (e.sem μ (.ref a :: (st.take e.n).reverse) (fun v μ1 => xretk e.rk v fun vs => go (pc + 3) L (vs ++ s) μ1 (nc + e.mc) (ns + e.ms)) (fun _ _ => False)) | 5 => xtake st e.n fun s0 => xA s0 fun a s => tg μ a = some (.inl e.ci) ∧ xroom I e nc ns (e.sem μ (.ref a :: (st.take e.n).reverse) (fun v μ1 => xretk e.rk v fun vs => go (pc + 3) L (vs ++ s) μ1 (nc + e.mc) (ns + e.ms)) (fun E μ1 => match I.hnd pc E with | some hp => ∀ q : Nat, go (hp) L (.ref q :: []) μ1 (nc + e.mc) (ns + e.ms) | none => X E μ1)) | 9 => xtake st e.n fun s0 => xA s0 fun a s => tg μ a = some (.inr 10) ∧ xroom I e nc ns (e.sem μ (.ref a :: (st.take e.n).reverse) (fun v μ1 => xretk e.rk v fun vs => go (pc + 3) L (vs ++ s) μ1 (nc + e.mc) (ns + e.ms)) (fun _ _ => False)) | _ => False) | none => False
  | .invokespecial k => match I.cal k with | some e => (match e.kd with | 2 => xtake st e.n fun s0 => xA s0 fun a s => xroom I e nc ns (e.sem μ (.ref a :: (st.take e.n).reverse) (fun v μ1 => xretk e.rk v fun vs => go (pc + 3) L (vs ++ s) μ1 (nc + e.mc) (ns + e.ms)) (fun _ _ => False)) | 4 => xtake st e.n fun s0 => xA s0 fun a s => xroom I e nc ns (e.sem μ (.ref a :: (st.take e.n).reverse) (fun v μ1 => xretk e.rk v fun vs => go (pc + 3) L (vs ++ s) μ1 (nc + e.mc) (ns + e.ms)) (fun _ _ => False)) | 7 => xA st fun a s => bif Nat.ble (s.map fun v => v.category).sum 8 then go (pc + 3) L (s) μ nc ns else False | _ => False) | none => False
  | _ => False
def ilen : Instr → Option Nat
  | .iadd => some 1
  | .isub => some 1
  | .imul => some 1
  | .iand => some 1
  | .ior => some 1
  | .ixor => some 1
  | .ishl => some 1
  | .ishr => some 1
  | .iushr => some 1
  | .idiv => some 1
  | .irem => some 1
  | .ineg => some 1
  | .ladd => some 1
  | .lsub => some 1
  | .lmul => some 1
  | .land => some 1
  | .lor => some 1
  | .lxor => some 1
  | .lushr => some 1
  | .lshl => some 1
  | .lcmp => some 1
  | .dcmp .. => some 1
  | .ddiv => some 1
  | .i2d => some 1
  | .i2l => some 1
  | .l2i => some 1
  | .i2b => some 1
  | .i2c => some 1
  | .dconst .. => some 1
  | .iconst .. => some 1
  | .bipush .. => some 2
  | .sipush .. => some 3
  | .lconst .. => some 1
  | .aconst_null => some 1
  | .dup => some 1
  | .pop => some 1
  | .dup2 => some 1
  | .iload_n .. => some 1
  | .iload .. => some 2
  | .lload_n .. => some 1
  | .lload .. => some 2
  | .dload_n .. => some 1
  | .dload .. => some 2
  | .aload_n .. => some 1
  | .aload .. => some 2
  | .istore_n .. => some 1
  | .istore .. => some 2
  | .lstore_n .. => some 1
  | .lstore .. => some 2
  | .dstore_n .. => some 1
  | .dstore .. => some 2
  | .astore_n .. => some 1
  | .astore .. => some 2
  | .iinc .. => some 3
  | .ifCond .. => some 3
  | .if_icmp .. => some 3
  | .goto .. => some 3
  | .ifnull .. => some 3
  | .ifnonnull .. => some 3
  | .ldc .. => some 2
  | .ldc_w .. => some 3
  | .ldc2_w .. => some 3
  | .getfield .. => some 3
  | .putfield .. => some 3
  | .arraylength => some 1
  | .iaload => some 1
  | .baload => some 1
  | .laload => some 1
  | .daload => some 1
  | .aaload => some 1
  | .iastore => some 1
  | .bastore => some 1
  | .lastore => some 1
  | .dastore => some 1
  | .aastore => some 1
  | .new .. => some 3
  | .newarray .. => some 2
  | .anewarray .. => some 3
  | .ireturn => some 1
  | .lreturn => some 1
  | .dreturn => some 1
  | .areturn => some 1
  | .return_ => some 1
  | .invokestatic .. => some 3
  | .invokevirtual .. => some 3
  | .invokespecial .. => some 3
  | _ => none
def itgt (pc : Nat) (ins : Instr) (tgt : Nat) : Bool := match ins with
  | .ifCond _ off => decide ((pc : Int) + off = (tgt : Int))
  | .if_icmp _ off => decide ((pc : Int) + off = (tgt : Int))
  | .goto off => decide ((pc : Int) + off = (tgt : Int))
  | .ifnull off => decide ((pc : Int) + off = (tgt : Int))
  | .ifnonnull off => decide ((pc : Int) + off = (tgt : Int))
  | _ => true
/-- the walk -/
noncomputable def xwp (I : XInfo) (K : Nat → List (Option Value) → List Value → XM → Nat → Nat → Prop) (Q : XQ) (X : XX) (n : Nat) : Nat → List (Option Value) → List Value → XM → Nat → Nat → Prop :=
  Nat.rec (fun _ _ _ _ _ _ => False) (fun _ ih pc L st μ nc ns => match I.code pc with
    | some q => xstep I Q X (xgo I K ih) pc L st μ nc ns q.1 q.2.2
    | none => False) n
