/-! ===== the frame of a walk over a memory ===== -/
def TW : List Cond := lw_tbl.filter goodWord
theorem TW_in {w : Cond} (i : Nat) (h : (decide (lw_tbl[i]? = some w) && goodWord w) = true) : w ∈ TW := by
  simp only [Bool.and_eq_true, decide_eq_true_eq] at h
  exact List.mem_filter.mpr ⟨List.mem_of_getElem? h.1, h.2⟩
theorem TW_goodIn {ws : List Cond} (h : ∀ w ∈ ws, w ∈ TW) : GoodIn TW ws := fun w hw => ⟨h w hw, good_of_word (List.mem_filter.mp (h w hw)).2⟩
abbrev XK : Type := Program × Launch × Env × Room × State × MethodId × Array Value × List Frame × Method × Code × (State → Prop)
abbrev XK.p (κ : XK) : Program := κ.1
abbrev XK.l (κ : XK) : Launch := κ.2.1
abbrev XK.e (κ : XK) : Env := κ.2.2.1
abbrev XK.R (κ : XK) : Room := κ.2.2.2.1
abbrev XK.s (κ : XK) : State := κ.2.2.2.2.1
abbrev XK.m (κ : XK) : MethodId := κ.2.2.2.2.2.1
abbrev XK.args (κ : XK) : Array Value := κ.2.2.2.2.2.2.1
abbrev XK.below (κ : XK) : List Frame := κ.2.2.2.2.2.2.2.1
abbrev XK.meth (κ : XK) : Method := κ.2.2.2.2.2.2.2.2.1
abbrev XK.c (κ : XK) : Code := κ.2.2.2.2.2.2.2.2.2.1
abbrev XK.Q (κ : XK) : State → Prop := κ.2.2.2.2.2.2.2.2.2.2
abbrev XKW (κ : XK) (H : Heap) (locs : List Loc) (nc ns : Nat) (g : JFrame) : Prop := W κ.p κ.l κ.e κ.R κ.s κ.m κ.args κ.below κ.meth κ.c H locs nc ns κ.Q g
/-- locals by their places -/
def xL (ls : Array Slot) (L : List (Option Value)) : Prop := ls.size = L.length ∧ lv_wf ls ∧ ∀ (i : Nat) (v : Value), L[i]? = some (some v) → ls[i]? = some (.val v)
def xkill (L : List (Option Value)) (i : Nat) : List (Option Value) := match i with
  | 0 => L
  | j + 1 => match L[j]? with
    | some (some w) => if w.category = 2 then L.set j none else L
    | _ => L
def lset (L : List (Option Value)) (i : Nat) (v : Value) : List (Option Value) := (xkill L i).set i (some v)
def lset2 (L : List (Option Value)) (i : Nat) (v : Value) : List (Option Value) := ((xkill L i).set i (some v)).set (i + 1) none
def xpairs (L : List (Option Value)) : List (Nat × Value) := (List.range L.length).filterMap (fun i => (L[i]?.getD none).map (fun v => (i, v)))
theorem xpairs_mem {L : List (Option Value)} {i : Nat} {v : Value} : (i, v) ∈ xpairs L ↔ L[i]? = some (some v) := by
  unfold xpairs
  simp only [List.mem_filterMap, List.mem_range, Option.map_eq_some_iff, Prod.mk.injEq]
  constructor
  · rintro ⟨j, hj, w, hw, rfl, rfl⟩
    rw [List.getElem?_eq_getElem hj] at hw ⊢
    simpa using hw
  · intro h
    have hi := (List.getElem?_eq_some_iff.mp h).1
    exact ⟨i, hi, v, by rw [h]; rfl, rfl, rfl⟩
theorem xL.has {ls : Array Slot} {L : List (Option Value)} (h : xL ls L) : lv_has ls L.length (xpairs L) := ⟨h.1, h.2.1, fun q hq => h.2.2 q.1 q.2 (xpairs_mem.mp hq)⟩
theorem xkill_len (L : List (Option Value)) (i : Nat) : (xkill L i).length = L.length := by
  unfold xkill
  split
  · rfl
  · split
    · split <;> simp
    · rfl
theorem xkill_at {L : List (Option Value)} {i j : Nat} {w : Value} (h : (xkill L i)[j]? = some (some w)) : L[j]? = some (some w) ∧ ¬ (j + 1 = i ∧ w.category = 2) := by
  unfold xkill at h
  split at h
  · exact ⟨h, by omega⟩
  · rename_i k
    split at h
    · rename_i w0 h0
      split at h
      · rename_i h2
        by_cases hjk : j = k
        · subst hjk
          rw [List.getElem?_set_self (List.getElem?_eq_some_iff.mp h0).1] at h
          cases h
        · rw [List.getElem?_set_ne (Ne.symm hjk)] at h
          exact ⟨h, by omega⟩
      · rename_i h2
        refine ⟨h, ?_⟩
        rintro ⟨hj, hc⟩
        have hjk : j = k := by omega
        subst hjk
        rw [h0] at h
        cases h
        exact h2 hc
    · rename_i hn
      refine ⟨h, ?_⟩
      rintro ⟨hj, hc⟩
      have hjk : j = k := by omega
      subst hjk
      exact hn w h
theorem xL.set {ls' : Array Slot} {L : List (Option Value)} {i : Nat} {v : Value} (h : lv_has ls' L.length ((i, v) :: (xpairs L).filter (fun q => !(q.1 == i) && !(q.1 + 1 == i && q.2.category == 2)))) : xL ls' (lset L i v) := by
  refine ⟨by rw [h.1]; simp [lset, xkill_len], h.2.1, fun j w hj => ?_⟩
  unfold lset at hj
  by_cases hji : j = i
  · subst hji
    have hl := (List.getElem?_eq_some_iff.mp hj).1
    rw [List.length_set] at hl
    rw [List.getElem?_set_self hl] at hj
    cases hj
    exact h.2.2 (j, v) List.mem_cons_self
  · rw [List.getElem?_set_ne (Ne.symm hji)] at hj
    obtain ⟨h1, h2⟩ := xkill_at hj
    refine h.2.2 (j, w) (List.mem_cons_of_mem _ (List.mem_filter.mpr ⟨xpairs_mem.mpr h1, ?_⟩))
    simp only [Bool.and_eq_true, Bool.not_eq_true', beq_eq_false_iff_ne, ne_eq, Bool.and_eq_false_iff]
    refine ⟨hji, ?_⟩
    by_cases hc : j + 1 = i
    · exact Or.inr (fun hc2 => h2 ⟨hc, hc2⟩)
    · exact Or.inl hc
theorem xL.set2 {ls' : Array Slot} {L : List (Option Value)} {i : Nat} {v : Value} (h : lv_has ls' L.length ((i, v) :: (xpairs L).filter (fun q => !(q.1 == i) && (!(q.1 == i + 1) && !(q.1 + 1 == i && q.2.category == 2))))) : xL ls' (lset2 L i v) := by
  refine ⟨by rw [h.1]; simp [lset2, xkill_len], h.2.1, fun j w hj => ?_⟩
  unfold lset2 at hj
  by_cases hj1 : j = i + 1
  · subst hj1
    have hl := (List.getElem?_eq_some_iff.mp hj).1
    rw [List.length_set] at hl
    rw [List.getElem?_set_self hl] at hj
    cases hj
  · rw [List.getElem?_set_ne (Ne.symm hj1)] at hj
    by_cases hji : j = i
    · subst hji
      have hl := (List.getElem?_eq_some_iff.mp hj).1
      rw [List.length_set] at hl
      rw [List.getElem?_set_self hl] at hj
      cases hj
      exact h.2.2 (j, v) List.mem_cons_self
    · rw [List.getElem?_set_ne (Ne.symm hji)] at hj
      obtain ⟨h1, h2⟩ := xkill_at hj
      refine h.2.2 (j, w) (List.mem_cons_of_mem _ (List.mem_filter.mpr ⟨xpairs_mem.mpr h1, ?_⟩))
      simp only [Bool.and_eq_true, Bool.not_eq_true', beq_eq_false_iff_ne, ne_eq, Bool.and_eq_false_iff]
      refine ⟨hji, hj1, ?_⟩
      by_cases hc : j + 1 = i
      · exact Or.inr (fun hc2 => h2 ⟨hc, hc2⟩)
      · exact Or.inl hc
/-- fewer locals -/
theorem xL.less {ls : Array Slot} {L L' : List (Option Value)} (h : xL ls L) (hl : L'.length = L.length) (hs : ∀ (i : Nat) (v : Value), L'[i]? = some (some v) → L[i]? = some (some v)) : xL ls L' := ⟨by rw [h.1, hl], h.2.1, fun i v hi => h.2.2 i v (hs i v hi)⟩
/-- what the throws need of the start: statics of Throwable, the texts -/
def xmsgs : List (Nat × String) := [(187, "hops out of range"), (272, "no such state"), (304, "no packet is told"), (362, "no such node"), (365, "no such link"), (367, "no such packet"), (369, "index is negative"), (371, "no such direction"), (373, "limit out of range"), (375, "ticks out of range")]
def xnest : List (String × Nat × MethodName) := [("ChipNetwork$World", 11, ⟨"ChipNetwork$Grid", "<init>", "()V"⟩), ("ChipNetwork$World", 32, ⟨"ChipNetwork$Packet", "<init>", "()V"⟩), ("ChipNetwork", 28, ⟨"ChipNetwork$Paths", "<init>", "()V"⟩), ("ChipNetwork", 35, ⟨"ChipNetwork$Text", "<init>", "()V"⟩), ("ChipNetwork", 42, ⟨"ChipNetwork$Loader", "<init>", "()V"⟩), ("ChipNetwork", 49, ⟨"ChipNetwork$Script", "<init>", "()V"⟩), ("ChipNetwork$Grid", 35, ⟨"ChipNetwork", "putAt", "([III)V"⟩), ("ChipNetwork$Text", 35, ⟨"ChipNetwork", "valueAt", "([II)I"⟩), ("ChipNetwork$Paths", 53, ⟨"ChipNetwork", "putAt", "([III)V"⟩), ("ChipNetwork$Paths", 72, ⟨"ChipNetwork", "valueAt", "([II)I"⟩), ("ChipNetwork$Script", 66, ⟨"ChipNetwork", "putAt", "([III)V"⟩), ("ChipNetwork$Script", 15, ⟨"ChipNetwork", "valueAt", "([II)I"⟩), ("ChipNetwork$World", 88, ⟨"ChipNetwork", "putAt", "([III)V"⟩)]
def xcastl : List String := ["java/lang/IndexOutOfBoundsException", "java/lang/IllegalArgumentException", "java/lang/ArithmeticException"]
def xdecll : List MethodName := [⟨"java/lang/IndexOutOfBoundsException", "<init>", "()V"⟩, ⟨"java/lang/IndexOutOfBoundsException", "<init>", "(Ljava/lang/String;)V"⟩, ⟨"java/lang/RuntimeException", "<init>", "()V"⟩, ⟨"java/lang/RuntimeException", "<init>", "(Ljava/lang/String;)V"⟩, ⟨"java/lang/Exception", "<init>", "()V"⟩, ⟨"java/lang/Exception", "<init>", "(Ljava/lang/String;)V"⟩, ⟨"java/lang/Throwable", "<init>", "()V"⟩, ⟨"java/lang/Throwable", "<init>", "(Ljava/lang/String;)V"⟩]
/-- statics of the JDK's that are read -/
def xJZ (A : Nat → Prop) (U : State) (H : Heap) : Prop := vx_Zq Bundle.tN "UNASSIGNED_STACK" Bundle.steD A U H ∧ va_Z "java/lang/String" "COMPACT_STRINGS" "Z" (.int 1) A U H ∧ va_Zq "jdk/internal/util/Preconditions" "SIOOBE_FORMATTER" "Ljava/util/function/BiFunction;" A U H
theorem xJZ.moved {A : Nat → Prop} {u U : State} {H : Heap} (hvm : u.vm.Alike U.vm) (h : xJZ A u H) : xJZ A U H := ⟨h.1.moved hvm, h.2.1.moved hvm, h.2.2.moved hvm⟩
theorem xJZ.kept {A : Nat → Prop} {U : State} {H H1 : Heap} (h : xJZ A U H) (hq : ∀ a : Nat, a < H.size → ¬ A a → H1[a]? = H[a]?) : xJZ A U H1 := ⟨h.1.kept hq, h.2.1.kept hq, h.2.2.kept hq⟩
def xZ (ξ : XE) (U : State) (H : Heap) : Prop := xJZ ξ.2.2 U H ∧ vx_Zq Bundle.tN "SUPPRESSED_SENTINEL" Bundle.listD ξ.2.2 U H ∧ (∀ q ∈ xmsgs, ∃ sa, vk_R RX8 q.1 q.2 sa U) ∧ (∀ q ∈ xnest, va_Nw (.methodLinkNest q.1 q.2.1 q.2.2 RX8) U) ∧ va_AO RX7 U ∧ va_AO RX3 U ∧ (∀ q ∈ xstrs, vk_R q.2.1 q.2.2.1 q.2.2.2 (ξ.2.1 (100 + q.1)) U) ∧ (∀ q ∈ xcastl, va_Nw (.castable q q) U) ∧ (∀ q ∈ xdecll, va_Nw (.declares q) U) ∧ va_Nc "java/lang/IllegalArgumentException" "java/lang/IndexOutOfBoundsException" U
/-- the walk's fixed facts -/
def XCtx (κ : XK) (ξ : XE) (cc : ByteArray) (own : String) (nL : Nat) (ret : Option FieldType) : Prop :=
  κ.p.tables.exec = Jvm.exec ∧ κ.c.code = cc ∧ κ.c.maxLocals = nL ∧ κ.s.vm.findClass own = some κ.m.cls ∧ (∀ w ∈ TW, w.before κ.args κ.s = true) ∧ va_K ξ.1 xcl (xty ξ.2.1) κ.s ∧ (∀ q, κ.s.heap.size ≤ q → ξ.2.2 q) ∧ κ.meth.sig.returnType = ret ∧ κ.meth.locks = false ∧ xZ ξ κ.s κ.s.heap
/-- the walk's goal: from this memory, at this place, with these locals and this stack -/
def XG (κ : XK) (ξ : XE) (nL : Nat) (nc ns : Nat) (μ : XM) (pc : Nat) (L : List (Option Value)) (st : List Value) : Prop :=
  L.length = nL → ∀ (H : Heap) (locs : List Loc) (ls : Array Slot), xR ξ μ κ.s H → va_S ξ.2.2 κ.s.heap H locs → xL ls L → XKW κ H locs nc ns (F0 κ.m pc ls st)
section XROWS
variable {κ : XK} {ξ : XE} {cc : ByteArray} {own : String} {nL : Nat} {ret : Option FieldType} {nc ns : Nat} {μ : XM} {pc : Nat} {L : List (Option Value)} {st : List Value}

theorem r_iadd (C : XCtx κ ξ cc own nL ret) {x y : Int32} (hd : decode cc pc = .ok (.iadd, 1)) (k : XG κ ξ nL nc ns μ (pc + 1) L (.int (x + y) :: st)) : XG κ ξ nL nc ns μ pc L (.int y :: .int x :: st) := fun hn H locs ls hR hS hl => lv_iadd C.1 C.2.1 hd (k hn H locs ls hR hS hl)
theorem r_isub (C : XCtx κ ξ cc own nL ret) {x y : Int32} (hd : decode cc pc = .ok (.isub, 1)) (k : XG κ ξ nL nc ns μ (pc + 1) L (.int (x - y) :: st)) : XG κ ξ nL nc ns μ pc L (.int y :: .int x :: st) := fun hn H locs ls hR hS hl => lv_isub C.1 C.2.1 hd (k hn H locs ls hR hS hl)
theorem r_imul (C : XCtx κ ξ cc own nL ret) {x y : Int32} (hd : decode cc pc = .ok (.imul, 1)) (k : XG κ ξ nL nc ns μ (pc + 1) L (.int (x * y) :: st)) : XG κ ξ nL nc ns μ pc L (.int y :: .int x :: st) := fun hn H locs ls hR hS hl => lv_imul C.1 C.2.1 hd (k hn H locs ls hR hS hl)
theorem r_iand (C : XCtx κ ξ cc own nL ret) {x y : Int32} (hd : decode cc pc = .ok (.iand, 1)) (k : XG κ ξ nL nc ns μ (pc + 1) L (.int (x &&& y) :: st)) : XG κ ξ nL nc ns μ pc L (.int y :: .int x :: st) := fun hn H locs ls hR hS hl => lv_iand C.1 C.2.1 hd (k hn H locs ls hR hS hl)
theorem r_ior (C : XCtx κ ξ cc own nL ret) {x y : Int32} (hd : decode cc pc = .ok (.ior, 1)) (k : XG κ ξ nL nc ns μ (pc + 1) L (.int (x ||| y) :: st)) : XG κ ξ nL nc ns μ pc L (.int y :: .int x :: st) := fun hn H locs ls hR hS hl => lv_ior C.1 C.2.1 hd (k hn H locs ls hR hS hl)
theorem r_ixor (C : XCtx κ ξ cc own nL ret) {x y : Int32} (hd : decode cc pc = .ok (.ixor, 1)) (k : XG κ ξ nL nc ns μ (pc + 1) L (.int (x ^^^ y) :: st)) : XG κ ξ nL nc ns μ pc L (.int y :: .int x :: st) := fun hn H locs ls hR hS hl => lv_ixor C.1 C.2.1 hd (k hn H locs ls hR hS hl)
theorem r_ishl (C : XCtx κ ξ cc own nL ret) {x y : Int32} (hd : decode cc pc = .ok (.ishl, 1)) (k : XG κ ξ nL nc ns μ (pc + 1) L (.int (x <<< (y &&& 31)) :: st)) : XG κ ξ nL nc ns μ pc L (.int y :: .int x :: st) := fun hn H locs ls hR hS hl => lv_ishl C.1 C.2.1 hd (k hn H locs ls hR hS hl)
theorem r_ishr (C : XCtx κ ξ cc own nL ret) {x y : Int32} (hd : decode cc pc = .ok (.ishr, 1)) (k : XG κ ξ nL nc ns μ (pc + 1) L (.int (x >>> (y &&& 31)) :: st)) : XG κ ξ nL nc ns μ pc L (.int y :: .int x :: st) := fun hn H locs ls hR hS hl => lv_ishr C.1 C.2.1 hd (k hn H locs ls hR hS hl)
theorem r_iushr (C : XCtx κ ξ cc own nL ret) {x y : Int32} (hd : decode cc pc = .ok (.iushr, 1)) (k : XG κ ξ nL nc ns μ (pc + 1) L (.int ((x.toUInt32 >>> (y.toUInt32 &&& Int32.toUInt32 31)).toInt32) :: st)) : XG κ ξ nL nc ns μ pc L (.int y :: .int x :: st) := fun hn H locs ls hR hS hl => lv_iushr C.1 C.2.1 hd rfl (k hn H locs ls hR hS hl)
theorem r_lushr (C : XCtx κ ξ cc own nL ret) {x : Int64} {y : Int32} (hd : decode cc pc = .ok (.lushr, 1)) (k : XG κ ξ nL nc ns μ (pc + 1) L (.long ((x.toUInt64 >>> (y.toInt64.toUInt64 &&& Int64.toUInt64 63)).toInt64) :: st)) : XG κ ξ nL nc ns μ pc L (.int y :: .long x :: st) := fun hn H locs ls hR hS hl => lv_lushr C.1 C.2.1 hd rfl (k hn H locs ls hR hS hl)
theorem r_lshl (C : XCtx κ ξ cc own nL ret) {x : Int64} {y : Int32} (hd : decode cc pc = .ok (.lshl, 1)) (k : XG κ ξ nL nc ns μ (pc + 1) L (.long (x <<< (y.toInt64 &&& 63)) :: st)) : XG κ ξ nL nc ns μ pc L (.int y :: .long x :: st) := fun hn H locs ls hR hS hl => lv_lshl C.1 C.2.1 hd rfl (k hn H locs ls hR hS hl)
theorem r_idiv (C : XCtx κ ξ cc own nL ret) {x y : Int32} (hd : decode cc pc = .ok (.idiv, 1)) (h0 : ¬ y = 0) (k : XG κ ξ nL nc ns μ (pc + 1) L (.int (x / y) :: st)) : XG κ ξ nL nc ns μ pc L (.int y :: .int x :: st) := fun hn H locs ls hR hS hl => lv_idiv C.1 C.2.1 hd h0 (k hn H locs ls hR hS hl)
theorem r_irem (C : XCtx κ ξ cc own nL ret) {x y : Int32} (hd : decode cc pc = .ok (.irem, 1)) (h0 : ¬ y = 0) (k : XG κ ξ nL nc ns μ (pc + 1) L (.int (x - x / y * y) :: st)) : XG κ ξ nL nc ns μ pc L (.int y :: .int x :: st) := fun hn H locs ls hR hS hl => lv_irem C.1 C.2.1 hd h0 (k hn H locs ls hR hS hl)
theorem r_ineg (C : XCtx κ ξ cc own nL ret) {x : Int32} (hd : decode cc pc = .ok (.ineg, 1)) (k : XG κ ξ nL nc ns μ (pc + 1) L (.int (-x) :: st)) : XG κ ξ nL nc ns μ pc L (.int x :: st) := fun hn H locs ls hR hS hl => lv_ineg C.1 C.2.1 hd (k hn H locs ls hR hS hl)
theorem r_ladd (C : XCtx κ ξ cc own nL ret) {x y : Int64} (hd : decode cc pc = .ok (.ladd, 1)) (k : XG κ ξ nL nc ns μ (pc + 1) L (.long (x + y) :: st)) : XG κ ξ nL nc ns μ pc L (.long y :: .long x :: st) := fun hn H locs ls hR hS hl => lv_ladd C.1 C.2.1 hd (k hn H locs ls hR hS hl)
theorem r_lsub (C : XCtx κ ξ cc own nL ret) {x y : Int64} (hd : decode cc pc = .ok (.lsub, 1)) (k : XG κ ξ nL nc ns μ (pc + 1) L (.long (x - y) :: st)) : XG κ ξ nL nc ns μ pc L (.long y :: .long x :: st) := fun hn H locs ls hR hS hl => lv_lsub C.1 C.2.1 hd (k hn H locs ls hR hS hl)
theorem r_lmul (C : XCtx κ ξ cc own nL ret) {x y : Int64} (hd : decode cc pc = .ok (.lmul, 1)) (k : XG κ ξ nL nc ns μ (pc + 1) L (.long (x * y) :: st)) : XG κ ξ nL nc ns μ pc L (.long y :: .long x :: st) := fun hn H locs ls hR hS hl => lv_lmul C.1 C.2.1 hd (k hn H locs ls hR hS hl)
theorem r_land (C : XCtx κ ξ cc own nL ret) {x y : Int64} (hd : decode cc pc = .ok (.land, 1)) (k : XG κ ξ nL nc ns μ (pc + 1) L (.long (x &&& y) :: st)) : XG κ ξ nL nc ns μ pc L (.long y :: .long x :: st) := fun hn H locs ls hR hS hl => lv_land C.1 C.2.1 hd (k hn H locs ls hR hS hl)
theorem r_lor (C : XCtx κ ξ cc own nL ret) {x y : Int64} (hd : decode cc pc = .ok (.lor, 1)) (k : XG κ ξ nL nc ns μ (pc + 1) L (.long (x ||| y) :: st)) : XG κ ξ nL nc ns μ pc L (.long y :: .long x :: st) := fun hn H locs ls hR hS hl => lv_lor C.1 C.2.1 hd (k hn H locs ls hR hS hl)
theorem r_lxor (C : XCtx κ ξ cc own nL ret) {x y : Int64} (hd : decode cc pc = .ok (.lxor, 1)) (k : XG κ ξ nL nc ns μ (pc + 1) L (.long (x ^^^ y) :: st)) : XG κ ξ nL nc ns μ pc L (.long y :: .long x :: st) := fun hn H locs ls hR hS hl => lv_lxor C.1 C.2.1 hd (k hn H locs ls hR hS hl)
theorem r_lcmp (C : XCtx κ ξ cc own nL ret) {x y : Int64} (hd : decode cc pc = .ok (.lcmp, 1)) (k : XG κ ξ nL nc ns μ (pc + 1) L (.int (lg_cmp x y) :: st)) : XG κ ξ nL nc ns μ pc L (.long y :: .long x :: st) := fun hn H locs ls hR hS hl => W.lcmp C.1 C.2.1 hd (k hn H locs ls hR hS hl)
theorem r_dcmp (C : XCtx κ ξ cc own nL ret) {x y : UInt64} {op : CmpOp} (hd : decode cc pc = .ok (.dcmp op, 1)) (k : XG κ ξ nL nc ns μ (pc + 1) L (.int (Op.cmpValue (FP.dcmp x y) op) :: st)) : XG κ ξ nL nc ns μ pc L (.double y :: .double x :: st) := fun hn H locs ls hR hS hl => lv_dcmp C.1 C.2.1 hd (k hn H locs ls hR hS hl)
theorem r_ddiv (C : XCtx κ ξ cc own nL ret) {x y : UInt64} (hd : decode cc pc = .ok (.ddiv, 1)) (h0 : vf_n64 (FP.ddiv x y)) (k : XG κ ξ nL nc ns μ (pc + 1) L (.double (FP.ddiv x y) :: st)) : XG κ ξ nL nc ns μ pc L (.double y :: .double x :: st) := fun hn H locs ls hR hS hl => lv_ddiv C.1 C.2.1 hd h0 (k hn H locs ls hR hS hl)
theorem r_i2d (C : XCtx κ ξ cc own nL ret) {x : Int32} (hd : decode cc pc = .ok (.i2d, 1)) (k : XG κ ξ nL nc ns μ (pc + 1) L (.double (FP.i2d x) :: st)) : XG κ ξ nL nc ns μ pc L (.int x :: st) := fun hn H locs ls hR hS hl => lv_i2d C.1 C.2.1 hd (k hn H locs ls hR hS hl)
theorem r_dconst0 (C : XCtx κ ξ cc own nL ret) (hd : decode cc pc = .ok (.dconst 0, 1)) (k : XG κ ξ nL nc ns μ (pc + 1) L (.double FP.dconst0 :: st)) : XG κ ξ nL nc ns μ pc L (st) := fun hn H locs ls hR hS hl => lv_dconst0 C.1 C.2.1 hd (k hn H locs ls hR hS hl)
theorem r_i2l (C : XCtx κ ξ cc own nL ret) {x : Int32} (hd : decode cc pc = .ok (.i2l, 1)) (k : XG κ ξ nL nc ns μ (pc + 1) L (.long x.toInt64 :: st)) : XG κ ξ nL nc ns μ pc L (.int x :: st) := fun hn H locs ls hR hS hl => lv_i2l C.1 C.2.1 hd rfl (k hn H locs ls hR hS hl)
theorem r_l2i (C : XCtx κ ξ cc own nL ret) {x : Int64} (hd : decode cc pc = .ok (.l2i, 1)) (k : XG κ ξ nL nc ns μ (pc + 1) L (.int x.toInt32 :: st)) : XG κ ξ nL nc ns μ pc L (.long x :: st) := fun hn H locs ls hR hS hl => lv_l2i C.1 C.2.1 hd rfl (k hn H locs ls hR hS hl)
theorem r_i2b (C : XCtx κ ξ cc own nL ret) {x : Int32} (hd : decode cc pc = .ok (.i2b, 1)) (k : XG κ ξ nL nc ns μ (pc + 1) L (.int x.toInt8.toInt32 :: st)) : XG κ ξ nL nc ns μ pc L (.int x :: st) := fun hn H locs ls hR hS hl => lv_i2b C.1 C.2.1 hd rfl (k hn H locs ls hR hS hl)
theorem r_i2c (C : XCtx κ ξ cc own nL ret) {x : Int32} (hd : decode cc pc = .ok (.i2c, 1)) (k : XG κ ξ nL nc ns μ (pc + 1) L (.int ((x.toUInt32 % 65536).toInt32) :: st)) : XG κ ξ nL nc ns μ pc L (.int x :: st) := fun hn H locs ls hR hS hl => lv_i2c C.1 C.2.1 hd rfl (k hn H locs ls hR hS hl)
theorem r_iconst (C : XCtx κ ξ cc own nL ret) {n : Int} (hd : decode cc pc = .ok (.iconst n, 1)) (k : XG κ ξ nL nc ns μ (pc + 1) L (.int (Int32.ofInt n) :: st)) : XG κ ξ nL nc ns μ pc L (st) := fun hn H locs ls hR hS hl => lv_iconst C.1 C.2.1 hd rfl (k hn H locs ls hR hS hl)
theorem r_bipush (C : XCtx κ ξ cc own nL ret) {n : Int} (hd : decode cc pc = .ok (.bipush n, 2)) (k : XG κ ξ nL nc ns μ (pc + 2) L (.int ((Int8.ofInt n).toInt32) :: st)) : XG κ ξ nL nc ns μ pc L (st) := fun hn H locs ls hR hS hl => lv_bipush C.1 C.2.1 hd rfl (k hn H locs ls hR hS hl)
theorem r_sipush (C : XCtx κ ξ cc own nL ret) {n : Int} (hd : decode cc pc = .ok (.sipush n, 3)) (k : XG κ ξ nL nc ns μ (pc + 3) L (.int ((Int16.ofInt n).toInt32) :: st)) : XG κ ξ nL nc ns μ pc L (st) := fun hn H locs ls hR hS hl => lv_sipush C.1 C.2.1 hd rfl (k hn H locs ls hR hS hl)
theorem r_lconst (C : XCtx κ ξ cc own nL ret) {n : Fin 2} (hd : decode cc pc = .ok (.lconst n, 1)) (k : XG κ ξ nL nc ns μ (pc + 1) L (.long (Int64.ofNat (n : Nat)) :: st)) : XG κ ξ nL nc ns μ pc L (st) := fun hn H locs ls hR hS hl => lv_lconst C.1 C.2.1 hd rfl (k hn H locs ls hR hS hl)
theorem r_null (C : XCtx κ ξ cc own nL ret) (hd : decode cc pc = .ok (.aconst_null, 1)) (k : XG κ ξ nL nc ns μ (pc + 1) L (.null :: st)) : XG κ ξ nL nc ns μ pc L (st) := fun hn H locs ls hR hS hl => lv_null C.1 C.2.1 hd (k hn H locs ls hR hS hl)
theorem r_dup (C : XCtx κ ξ cc own nL ret) {v : Value} (hd : decode cc pc = .ok (.dup, 1)) (hc : v.category = 1) (k : XG κ ξ nL nc ns μ (pc + 1) L (v :: v :: st)) : XG κ ξ nL nc ns μ pc L (v :: st) := fun hn H locs ls hR hS hl => lv_dup C.1 C.2.1 hd hc (k hn H locs ls hR hS hl)
theorem r_pop (C : XCtx κ ξ cc own nL ret) {v : Value} (hd : decode cc pc = .ok (.pop, 1)) (hc : v.category = 1) (k : XG κ ξ nL nc ns μ (pc + 1) L (st)) : XG κ ξ nL nc ns μ pc L (v :: st) := fun hn H locs ls hR hS hl => lv_pop C.1 C.2.1 hd hc (k hn H locs ls hR hS hl)
theorem r_dup2 (C : XCtx κ ξ cc own nL ret) {v w : Value} (hd : decode cc pc = .ok (.dup2, 1)) (hc : v.category = 1) (hc2 : w.category = 1) (k : XG κ ξ nL nc ns μ (pc + 1) L (v :: w :: v :: w :: st)) : XG κ ξ nL nc ns μ pc L (v :: w :: st) := fun hn H locs ls hR hS hl => lv_dup2_11 C.1 C.2.1 hd hc hc2 (k hn H locs ls hR hS hl)
theorem r_iload_n (C : XCtx κ ξ cc own nL ret) {n : Fin 4} {x : Int32} (hd : decode cc pc = .ok (.iload_n n, 1)) (h : L[(n : Nat)]? = some (some (.int x))) (k : XG κ ξ nL nc ns μ (pc + 1) L (.int x :: st)) : XG κ ξ nL nc ns μ pc L st := fun hn H locs ls hR hS hl => lv_iload_n C.1 C.2.1 hd rfl (hl.2.2 _ _ h) (k hn H locs ls hR hS hl)
theorem r_iload (C : XCtx κ ξ cc own nL ret) {i : Nat} {x : Int32} (hd : decode cc pc = .ok (.iload i, 2)) (h : L[i]? = some (some (.int x))) (k : XG κ ξ nL nc ns μ (pc + 2) L (.int x :: st)) : XG κ ξ nL nc ns μ pc L st := fun hn H locs ls hR hS hl => lv_iload C.1 C.2.1 hd (hl.2.2 _ _ h) (k hn H locs ls hR hS hl)
theorem r_lload_n (C : XCtx κ ξ cc own nL ret) {n : Fin 4} {x : Int64} (hd : decode cc pc = .ok (.lload_n n, 1)) (h : L[(n : Nat)]? = some (some (.long x))) (k : XG κ ξ nL nc ns μ (pc + 1) L (.long x :: st)) : XG κ ξ nL nc ns μ pc L st := fun hn H locs ls hR hS hl => lv_lload_n C.1 C.2.1 hd rfl (hl.2.2 _ _ h) (k hn H locs ls hR hS hl)
theorem r_lload (C : XCtx κ ξ cc own nL ret) {i : Nat} {x : Int64} (hd : decode cc pc = .ok (.lload i, 2)) (h : L[i]? = some (some (.long x))) (k : XG κ ξ nL nc ns μ (pc + 2) L (.long x :: st)) : XG κ ξ nL nc ns μ pc L st := fun hn H locs ls hR hS hl => lv_lload C.1 C.2.1 hd (hl.2.2 _ _ h) (k hn H locs ls hR hS hl)
theorem r_dload_n (C : XCtx κ ξ cc own nL ret) {n : Fin 4} {x : UInt64} (hd : decode cc pc = .ok (.dload_n n, 1)) (h : L[(n : Nat)]? = some (some (.double x))) (k : XG κ ξ nL nc ns μ (pc + 1) L (.double x :: st)) : XG κ ξ nL nc ns μ pc L st := fun hn H locs ls hR hS hl => lv_dload_n C.1 C.2.1 hd rfl (hl.2.2 _ _ h) (k hn H locs ls hR hS hl)
theorem r_dload (C : XCtx κ ξ cc own nL ret) {i : Nat} {x : UInt64} (hd : decode cc pc = .ok (.dload i, 2)) (h : L[i]? = some (some (.double x))) (k : XG κ ξ nL nc ns μ (pc + 2) L (.double x :: st)) : XG κ ξ nL nc ns μ pc L st := fun hn H locs ls hR hS hl => lv_dload C.1 C.2.1 hd (hl.2.2 _ _ h) (k hn H locs ls hR hS hl)
theorem r_aload_n (C : XCtx κ ξ cc own nL ret) {n : Fin 4} {x : Nat} (hd : decode cc pc = .ok (.aload_n n, 1)) (h : L[(n : Nat)]? = some (some (.ref x))) (k : XG κ ξ nL nc ns μ (pc + 1) L (.ref x :: st)) : XG κ ξ nL nc ns μ pc L st := fun hn H locs ls hR hS hl => lv_aload_n C.1 C.2.1 hd rfl (hl.2.2 _ _ h) (k hn H locs ls hR hS hl)
theorem r_aload (C : XCtx κ ξ cc own nL ret) {i : Nat} {x : Nat} (hd : decode cc pc = .ok (.aload i, 2)) (h : L[i]? = some (some (.ref x))) (k : XG κ ξ nL nc ns μ (pc + 2) L (.ref x :: st)) : XG κ ξ nL nc ns μ pc L st := fun hn H locs ls hR hS hl => lv_aload C.1 C.2.1 hd (hl.2.2 _ _ h) (k hn H locs ls hR hS hl)
theorem r_aload_nN (C : XCtx κ ξ cc own nL ret) {n : Fin 4} (hd : decode cc pc = .ok (.aload_n n, 1)) (h : L[(n : Nat)]? = some (some .null)) (k : XG κ ξ nL nc ns μ (pc + 1) L (.null :: st)) : XG κ ξ nL nc ns μ pc L st := fun hn H locs ls hR hS hl => lv_aload_nN C.1 C.2.1 hd rfl (hl.2.2 _ _ h) (k hn H locs ls hR hS hl)
theorem r_aloadN (C : XCtx κ ξ cc own nL ret) {i : Nat} (hd : decode cc pc = .ok (.aload i, 2)) (h : L[i]? = some (some .null)) (k : XG κ ξ nL nc ns μ (pc + 2) L (.null :: st)) : XG κ ξ nL nc ns μ pc L st := fun hn H locs ls hR hS hl => lv_aloadN C.1 C.2.1 hd (hl.2.2 _ _ h) (k hn H locs ls hR hS hl)
theorem r_istore_n (C : XCtx κ ξ cc own nL ret) {n : Fin 4} {x : Int32} (hd : decode cc pc = .ok (.istore_n n, 1)) (h : (n : Nat) < nL) (k : XG κ ξ nL nc ns μ (pc + 1) (lset L (n : Nat) (.int x)) st) : XG κ ξ nL nc ns μ pc L (.int x :: st) := fun hn H locs ls hR hS hl => lv_istore_n C.1 C.2.1 hd rfl hl.has (by rw [hn]; exact h) rfl (fun ls1 h1 => k (by simp [lset, xkill_len, hn]) H locs ls1 hR hS (xL.set h1))
theorem r_istore (C : XCtx κ ξ cc own nL ret) {i : Nat} {x : Int32} (hd : decode cc pc = .ok (.istore i, 2)) (h : i < nL) (k : XG κ ξ nL nc ns μ (pc + 2) (lset L i (.int x)) st) : XG κ ξ nL nc ns μ pc L (.int x :: st) := fun hn H locs ls hR hS hl => lv_istore C.1 C.2.1 hd hl.has (by rw [hn]; exact h) rfl (fun ls1 h1 => k (by simp [lset, xkill_len, hn]) H locs ls1 hR hS (xL.set h1))
theorem r_lstore_n (C : XCtx κ ξ cc own nL ret) {n : Fin 4} {x : Int64} (hd : decode cc pc = .ok (.lstore_n n, 1)) (h : (n : Nat) + 1 < nL) (k : XG κ ξ nL nc ns μ (pc + 1) (lset2 L (n : Nat) (.long x)) st) : XG κ ξ nL nc ns μ pc L (.long x :: st) := fun hn H locs ls hR hS hl => lv_lstore_n C.1 C.2.1 hd rfl hl.has (by rw [hn]; exact h) rfl (fun ls1 h1 => k (by simp [lset2, xkill_len, hn]) H locs ls1 hR hS (xL.set2 h1))
theorem r_lstore (C : XCtx κ ξ cc own nL ret) {i : Nat} {x : Int64} (hd : decode cc pc = .ok (.lstore i, 2)) (h : i + 1 < nL) (k : XG κ ξ nL nc ns μ (pc + 2) (lset2 L i (.long x)) st) : XG κ ξ nL nc ns μ pc L (.long x :: st) := fun hn H locs ls hR hS hl => lv_lstore C.1 C.2.1 hd hl.has (by rw [hn]; exact h) rfl (fun ls1 h1 => k (by simp [lset2, xkill_len, hn]) H locs ls1 hR hS (xL.set2 h1))
theorem r_dstore_n (C : XCtx κ ξ cc own nL ret) {n : Fin 4} {x : UInt64} (hd : decode cc pc = .ok (.dstore_n n, 1)) (h : (n : Nat) + 1 < nL) (k : XG κ ξ nL nc ns μ (pc + 1) (lset2 L (n : Nat) (.double x)) st) : XG κ ξ nL nc ns μ pc L (.double x :: st) := fun hn H locs ls hR hS hl => lv_dstore_n C.1 C.2.1 hd rfl hl.has (by rw [hn]; exact h) rfl (fun ls1 h1 => k (by simp [lset2, xkill_len, hn]) H locs ls1 hR hS (xL.set2 h1))
theorem r_dstore (C : XCtx κ ξ cc own nL ret) {i : Nat} {x : UInt64} (hd : decode cc pc = .ok (.dstore i, 2)) (h : i + 1 < nL) (k : XG κ ξ nL nc ns μ (pc + 2) (lset2 L i (.double x)) st) : XG κ ξ nL nc ns μ pc L (.double x :: st) := fun hn H locs ls hR hS hl => lv_dstore C.1 C.2.1 hd hl.has (by rw [hn]; exact h) rfl (fun ls1 h1 => k (by simp [lset2, xkill_len, hn]) H locs ls1 hR hS (xL.set2 h1))
theorem r_astore_n (C : XCtx κ ξ cc own nL ret) {n : Fin 4} {x : Nat} (hd : decode cc pc = .ok (.astore_n n, 1)) (h : (n : Nat) < nL) (k : XG κ ξ nL nc ns μ (pc + 1) (lset L (n : Nat) (.ref x)) st) : XG κ ξ nL nc ns μ pc L (.ref x :: st) := fun hn H locs ls hR hS hl => lv_astore_n C.1 C.2.1 hd rfl hl.has (by rw [hn]; exact h) rfl (fun ls1 h1 => k (by simp [lset, xkill_len, hn]) H locs ls1 hR hS (xL.set h1))
theorem r_astore (C : XCtx κ ξ cc own nL ret) {i : Nat} {x : Nat} (hd : decode cc pc = .ok (.astore i, 2)) (h : i < nL) (k : XG κ ξ nL nc ns μ (pc + 2) (lset L i (.ref x)) st) : XG κ ξ nL nc ns μ pc L (.ref x :: st) := fun hn H locs ls hR hS hl => lv_astore C.1 C.2.1 hd hl.has (by rw [hn]; exact h) rfl (fun ls1 h1 => k (by simp [lset, xkill_len, hn]) H locs ls1 hR hS (xL.set h1))
theorem r_astore_nN (C : XCtx κ ξ cc own nL ret) {n : Fin 4} (hd : decode cc pc = .ok (.astore_n n, 1)) (h : (n : Nat) < nL) (k : XG κ ξ nL nc ns μ (pc + 1) (lset L (n : Nat) (.null)) st) : XG κ ξ nL nc ns μ pc L (.null :: st) := fun hn H locs ls hR hS hl => lv_astore_nN C.1 C.2.1 hd rfl hl.has (by rw [hn]; exact h) rfl (fun ls1 h1 => k (by simp [lset, xkill_len, hn]) H locs ls1 hR hS (xL.set h1))
theorem r_astoreN (C : XCtx κ ξ cc own nL ret) {i : Nat} (hd : decode cc pc = .ok (.astore i, 2)) (h : i < nL) (k : XG κ ξ nL nc ns μ (pc + 2) (lset L i (.null)) st) : XG κ ξ nL nc ns μ pc L (.null :: st) := fun hn H locs ls hR hS hl => lv_astoreN C.1 C.2.1 hd hl.has (by rw [hn]; exact h) rfl (fun ls1 h1 => k (by simp [lset, xkill_len, hn]) H locs ls1 hR hS (xL.set h1))
theorem r_iinc (C : XCtx κ ξ cc own nL ret) {i : Nat} {n : Int} {x : Int32} (hd : decode cc pc = .ok (.iinc i n, 3)) (h : L[i]? = some (some (.int x))) (k : XG κ ξ nL nc ns μ (pc + 3) (lset L i (.int (x + Int32.ofInt n))) st) : XG κ ξ nL nc ns μ pc L st := fun hn H locs ls hR hS hl => by
  obtain ⟨j, hj⟩ := List.getElem?_of_mem (xpairs_mem.mpr h)
  exact lv_iinc C.1 C.2.1 hd hl.has (k := j) hj rfl (by have := (List.getElem?_eq_some_iff.mp h).1; exact this) rfl (fun ls1 h1 => k (by simp [lset, xkill_len, hn]) H locs ls1 hR hS (xL.set h1))
theorem r_if_eq (C : XCtx κ ξ cc own nL ret) {x : Int32} {off : Int} {tgt : Nat} (hd : decode cc pc = .ok (.ifCond .eq off, 3)) (ht : (pc : Int) + off = (tgt : Int)) (kt : x = 0 → XG κ ξ nL nc ns μ tgt L st) (kf : ¬ x = 0 → XG κ ξ nL nc ns μ (pc + 3) L st) : XG κ ξ nL nc ns μ pc L (.int x :: st) := fun hn H locs ls hR hS hl => lv_if_eq C.1 C.2.1 hd ht (fun c => kt c hn H locs ls hR hS hl) (fun c => kf c hn H locs ls hR hS hl)
theorem r_icmp_eq (C : XCtx κ ξ cc own nL ret) {x y : Int32} {off : Int} {tgt : Nat} (hd : decode cc pc = .ok (.if_icmp .eq off, 3)) (ht : (pc : Int) + off = (tgt : Int)) (kt : x = y → XG κ ξ nL nc ns μ tgt L st) (kf : ¬ x = y → XG κ ξ nL nc ns μ (pc + 3) L st) : XG κ ξ nL nc ns μ pc L (.int y :: .int x :: st) := fun hn H locs ls hR hS hl => lv_icmp_eq C.1 C.2.1 hd ht (fun c => kt c hn H locs ls hR hS hl) (fun c => kf c hn H locs ls hR hS hl)
theorem r_if_ne (C : XCtx κ ξ cc own nL ret) {x : Int32} {off : Int} {tgt : Nat} (hd : decode cc pc = .ok (.ifCond .ne off, 3)) (ht : (pc : Int) + off = (tgt : Int)) (kt : ¬ x = 0 → XG κ ξ nL nc ns μ tgt L st) (kf : x = 0 → XG κ ξ nL nc ns μ (pc + 3) L st) : XG κ ξ nL nc ns μ pc L (.int x :: st) := fun hn H locs ls hR hS hl => lv_if_ne C.1 C.2.1 hd ht (fun c => kt c hn H locs ls hR hS hl) (fun c => kf c hn H locs ls hR hS hl)
theorem r_icmp_ne (C : XCtx κ ξ cc own nL ret) {x y : Int32} {off : Int} {tgt : Nat} (hd : decode cc pc = .ok (.if_icmp .ne off, 3)) (ht : (pc : Int) + off = (tgt : Int)) (kt : ¬ x = y → XG κ ξ nL nc ns μ tgt L st) (kf : x = y → XG κ ξ nL nc ns μ (pc + 3) L st) : XG κ ξ nL nc ns μ pc L (.int y :: .int x :: st) := fun hn H locs ls hR hS hl => lv_icmp_ne C.1 C.2.1 hd ht (fun c => kt c hn H locs ls hR hS hl) (fun c => kf c hn H locs ls hR hS hl)
theorem r_if_lt (C : XCtx κ ξ cc own nL ret) {x : Int32} {off : Int} {tgt : Nat} (hd : decode cc pc = .ok (.ifCond .lt off, 3)) (ht : (pc : Int) + off = (tgt : Int)) (kt : x < 0 → XG κ ξ nL nc ns μ tgt L st) (kf : ¬ x < 0 → XG κ ξ nL nc ns μ (pc + 3) L st) : XG κ ξ nL nc ns μ pc L (.int x :: st) := fun hn H locs ls hR hS hl => lv_if_lt C.1 C.2.1 hd ht (fun c => kt c hn H locs ls hR hS hl) (fun c => kf c hn H locs ls hR hS hl)
theorem r_icmp_lt (C : XCtx κ ξ cc own nL ret) {x y : Int32} {off : Int} {tgt : Nat} (hd : decode cc pc = .ok (.if_icmp .lt off, 3)) (ht : (pc : Int) + off = (tgt : Int)) (kt : x < y → XG κ ξ nL nc ns μ tgt L st) (kf : ¬ x < y → XG κ ξ nL nc ns μ (pc + 3) L st) : XG κ ξ nL nc ns μ pc L (.int y :: .int x :: st) := fun hn H locs ls hR hS hl => lv_icmp_lt C.1 C.2.1 hd ht (fun c => kt c hn H locs ls hR hS hl) (fun c => kf c hn H locs ls hR hS hl)
theorem r_if_ge (C : XCtx κ ξ cc own nL ret) {x : Int32} {off : Int} {tgt : Nat} (hd : decode cc pc = .ok (.ifCond .ge off, 3)) (ht : (pc : Int) + off = (tgt : Int)) (kt : 0 ≤ x → XG κ ξ nL nc ns μ tgt L st) (kf : ¬ 0 ≤ x → XG κ ξ nL nc ns μ (pc + 3) L st) : XG κ ξ nL nc ns μ pc L (.int x :: st) := fun hn H locs ls hR hS hl => lv_if_ge C.1 C.2.1 hd ht (fun c => kt c hn H locs ls hR hS hl) (fun c => kf c hn H locs ls hR hS hl)
theorem r_icmp_ge (C : XCtx κ ξ cc own nL ret) {x y : Int32} {off : Int} {tgt : Nat} (hd : decode cc pc = .ok (.if_icmp .ge off, 3)) (ht : (pc : Int) + off = (tgt : Int)) (kt : y ≤ x → XG κ ξ nL nc ns μ tgt L st) (kf : ¬ y ≤ x → XG κ ξ nL nc ns μ (pc + 3) L st) : XG κ ξ nL nc ns μ pc L (.int y :: .int x :: st) := fun hn H locs ls hR hS hl => lv_icmp_ge C.1 C.2.1 hd ht (fun c => kt c hn H locs ls hR hS hl) (fun c => kf c hn H locs ls hR hS hl)
theorem r_if_gt (C : XCtx κ ξ cc own nL ret) {x : Int32} {off : Int} {tgt : Nat} (hd : decode cc pc = .ok (.ifCond .gt off, 3)) (ht : (pc : Int) + off = (tgt : Int)) (kt : 0 < x → XG κ ξ nL nc ns μ tgt L st) (kf : ¬ 0 < x → XG κ ξ nL nc ns μ (pc + 3) L st) : XG κ ξ nL nc ns μ pc L (.int x :: st) := fun hn H locs ls hR hS hl => lv_if_gt C.1 C.2.1 hd ht (fun c => kt c hn H locs ls hR hS hl) (fun c => kf c hn H locs ls hR hS hl)
theorem r_icmp_gt (C : XCtx κ ξ cc own nL ret) {x y : Int32} {off : Int} {tgt : Nat} (hd : decode cc pc = .ok (.if_icmp .gt off, 3)) (ht : (pc : Int) + off = (tgt : Int)) (kt : y < x → XG κ ξ nL nc ns μ tgt L st) (kf : ¬ y < x → XG κ ξ nL nc ns μ (pc + 3) L st) : XG κ ξ nL nc ns μ pc L (.int y :: .int x :: st) := fun hn H locs ls hR hS hl => lv_icmp_gt C.1 C.2.1 hd ht (fun c => kt c hn H locs ls hR hS hl) (fun c => kf c hn H locs ls hR hS hl)
theorem r_if_le (C : XCtx κ ξ cc own nL ret) {x : Int32} {off : Int} {tgt : Nat} (hd : decode cc pc = .ok (.ifCond .le off, 3)) (ht : (pc : Int) + off = (tgt : Int)) (kt : x ≤ 0 → XG κ ξ nL nc ns μ tgt L st) (kf : ¬ x ≤ 0 → XG κ ξ nL nc ns μ (pc + 3) L st) : XG κ ξ nL nc ns μ pc L (.int x :: st) := fun hn H locs ls hR hS hl => lv_if_le C.1 C.2.1 hd ht (fun c => kt c hn H locs ls hR hS hl) (fun c => kf c hn H locs ls hR hS hl)
theorem r_icmp_le (C : XCtx κ ξ cc own nL ret) {x y : Int32} {off : Int} {tgt : Nat} (hd : decode cc pc = .ok (.if_icmp .le off, 3)) (ht : (pc : Int) + off = (tgt : Int)) (kt : x ≤ y → XG κ ξ nL nc ns μ tgt L st) (kf : ¬ x ≤ y → XG κ ξ nL nc ns μ (pc + 3) L st) : XG κ ξ nL nc ns μ pc L (.int y :: .int x :: st) := fun hn H locs ls hR hS hl => lv_icmp_le C.1 C.2.1 hd ht (fun c => kt c hn H locs ls hR hS hl) (fun c => kf c hn H locs ls hR hS hl)
theorem r_goto (C : XCtx κ ξ cc own nL ret) {off : Int} {tgt : Nat} (hd : decode cc pc = .ok (.goto off, 3)) (ht : (pc : Int) + off = (tgt : Int)) (k : XG κ ξ nL nc ns μ tgt L st) : XG κ ξ nL nc ns μ pc L st := fun hn H locs ls hR hS hl => lv_goto C.1 C.2.1 hd ht (k hn H locs ls hR hS hl)
theorem r_ifnonnull (C : XCtx κ ξ cc own nL ret) {x : Nat} {off : Int} {tgt : Nat} (hd : decode cc pc = .ok (.ifnonnull off, 3)) (ht : (pc : Int) + off = (tgt : Int)) (k : XG κ ξ nL nc ns μ tgt L st) : XG κ ξ nL nc ns μ pc L (.ref x :: st) := fun hn H locs ls hR hS hl => lv_ifnonnull C.1 C.2.1 hd ht (k hn H locs ls hR hS hl)
theorem r_ifnonnullN (C : XCtx κ ξ cc own nL ret) {off : Int} (hd : decode cc pc = .ok (.ifnonnull off, 3)) (k : XG κ ξ nL nc ns μ (pc + 3) L st) : XG κ ξ nL nc ns μ pc L (.null :: st) := fun hn H locs ls hR hS hl => lv_ifnonnullN C.1 C.2.1 hd (k hn H locs ls hR hS hl)
theorem r_ifnull (C : XCtx κ ξ cc own nL ret) {x : Nat} {off : Int} (hd : decode cc pc = .ok (.ifnull off, 3)) (k : XG κ ξ nL nc ns μ (pc + 3) L st) : XG κ ξ nL nc ns μ pc L (.ref x :: st) := fun hn H locs ls hR hS hl => lv_ifnull C.1 C.2.1 hd (k hn H locs ls hR hS hl)
theorem r_ifnullN (C : XCtx κ ξ cc own nL ret) {off : Int} {tgt : Nat} (hd : decode cc pc = .ok (.ifnull off, 3)) (ht : (pc : Int) + off = (tgt : Int)) (k : XG κ ξ nL nc ns μ tgt L st) : XG κ ξ nL nc ns μ pc L (.null :: st) := fun hn H locs ls hR hS hl => lv_ifnullN C.1 C.2.1 hd ht (k hn H locs ls hR hS hl)
theorem r_tableOut (C : XCtx κ ξ cc own nL ret) {dflt lo hi : Int} {offs : Array Int} {len : Nat} {x : Int32} {tgt : Nat} (hd : decode cc pc = .ok (.tableswitch dflt lo hi offs, len)) (h : x.toInt < lo ∨ hi < x.toInt) (ht : (pc : Int) + dflt = (tgt : Int)) (k : XG κ ξ nL nc ns μ tgt L st) : XG κ ξ nL nc ns μ pc L (.int x :: st) := fun hn H locs ls hR hS hl => lv_tableOut C.1 C.2.1 hd h ht (k hn H locs ls hR hS hl)
theorem r_tableIn (C : XCtx κ ξ cc own nL ret) {dflt lo hi : Int} {offs : Array Int} {len : Nat} {x : Int32} {off : Int} {tgt : Nat} (hd : decode cc pc = .ok (.tableswitch dflt lo hi offs, len)) (h1 : ¬ x.toInt < lo) (h2 : ¬ hi < x.toInt) (ho : offs[(x.toInt - lo).toNat]? = some off) (ht : (pc : Int) + off = (tgt : Int)) (k : XG κ ξ nL nc ns μ tgt L st) : XG κ ξ nL nc ns μ pc L (.int x :: st) := fun hn H locs ls hR hS hl => lv_tableIn C.1 C.2.1 hd h1 h2 ho ht (k hn H locs ls hR hS hl)
theorem r_lookup (C : XCtx κ ξ cc own nL ret) {dflt : Int} {ps : Array (Int × Int)} {len : Nat} {x : Int32} {tgt : Nat} (hd : decode cc pc = .ok (.lookupswitch dflt ps, len)) (hp : (ps.toList.zip (ps.toList.drop 1)).all (fun (a, next) => a.1 < next.1) = true) (ht : (pc : Int) + Op.lookupswitch.offset ps.toList dflt x.toInt = (tgt : Int)) (k : XG κ ξ nL nc ns μ tgt L st) : XG κ ξ nL nc ns μ pc L (.int x :: st) := fun hn H locs ls hR hS hl => lv_lookup C.1 C.2.1 hd hp rfl ht (k hn H locs ls hR hS hl)
theorem r_ldc (C : XCtx κ ξ cc own nL ret) {i : Nat} {v : Int32} (hd : decode cc pc = .ok (.ldc i, 2)) (hw : Cond.constant own i v ∈ TW) (k : XG κ ξ nL nc ns μ (pc + 2) L (.int v :: st)) : XG κ ξ nL nc ns μ pc L st := fun hn H locs ls hR hS hl => lv_ldc C.1 C.2.1 C.2.2.2.1 (C.2.2.2.2.1 _ hw) hd (k hn H locs ls hR hS hl)
theorem r_ldcw (C : XCtx κ ξ cc own nL ret) {i : Nat} {v : Int32} (hd : decode cc pc = .ok (.ldc_w i, 3)) (hw : Cond.constant own i v ∈ TW) (k : XG κ ξ nL nc ns μ (pc + 3) L (.int v :: st)) : XG κ ξ nL nc ns μ pc L st := fun hn H locs ls hR hS hl => lv_ldcw C.1 C.2.1 C.2.2.2.1 (C.2.2.2.2.1 _ hw) hd (k hn H locs ls hR hS hl)
theorem r_ldc2 (C : XCtx κ ξ cc own nL ret) {i : Nat} {v : Int64} (hd : decode cc pc = .ok (.ldc2_w i, 3)) (hw : Cond.constantLong own i v ∈ TW) (k : XG κ ξ nL nc ns μ (pc + 3) L (.long v :: st)) : XG κ ξ nL nc ns μ pc L st := fun hn H locs ls hR hS hl => lv_ldc2 C.1 C.2.1 C.2.2.2.1 (C.2.2.2.2.1 _ hw) hd (k hn H locs ls hR hS hl)
end XROWS
