/-! ===== the text's two methods ===== -/
theorem xJZ_of {κ : XK} {ξ : XE} {cc : ByteArray} {own : String} {nL : Nat} {ret : Option FieldType} (C : XCtx κ ξ cc own nL ret) : va_Z "java/lang/String" "COMPACT_STRINGS" "Z" (.int 1) ξ.2.2 κ.s κ.s.heap ∧ va_Zq "jdk/internal/util/Preconditions" "SIOOBE_FORMATTER" "Ljava/util/function/BiFunction;" ξ.2.2 κ.s κ.s.heap := C.z.1.2
section
variable {κ : XK} {ξ : XE} {cc : ByteArray} {own : String} {nL : Nat} {ret : Option FieldType} {nc ns : Nat} {μ : XM} {pc : Nat} {L : List (Option Value)} {st : List Value}
theorem jt_down {ty : FieldType} {t N : Nat} {f : Nat → Value} {A : Nat → Prop} {s : State} {H : Heap} {locs : List Loc} (h : va_T ty t N f A s H) (hA : ∀ q, s.heap.size ≤ q → A q) (hS : va_S A s.heap H locs) : va_T ty t N f A s s.heap := by
  obtain ⟨cell, h1, h2, h3, h4, h5, h6, h7⟩ := h
  have hlt : t < s.heap.size := Nat.lt_of_not_le (fun q => h7 (hA t q))
  exact ⟨cell, (hS.2.1 t hlt h7).symm.trans h1, h2, h3, h4, h5, h6, h7⟩
theorem r_jval (C : XCtx κ ξ cc own nL ret) {idx a : Nat} (hd : decode cc pc = .ok (.getfield idx, 3)) (hw : Cond.fieldLink own idx "java/lang/String" "value" "[B" ∈ TW) (ht : tg μ a = some (.inr 10)) (k : ∀ v : Nat, va_T .byte v (ln μ a) (fun j => .int (aI μ a j)) ξ.2.2 κ.s κ.s.heap → ln μ a < 2147483648 → XG κ ξ nL nc ns μ (pc + 3) L (.ref v :: st)) : XG κ ξ nL nc ns μ pc L (.ref a :: st) := by
  intro hn H locs ls hR hS hl
  obtain ⟨⟨v, h1, h2, h3, h4⟩, hlen⟩ := xro_10 hR ht
  obtain ⟨cf, kk, fi, f, cell, g1, g2, g3, g4, g5, g6⟩ := h3
  exact W.getf C.1 C.2.1 C.2.2.2.1 (C.2.2.2.2.1 _ hw) g1 g2 g3 g4 (v := .ref v) g5 rfl rfl hd (k v (jt_down h4 C.2.2.2.2.2.2.1 hS) hlen hn H locs ls hR hS hl)
theorem r_jcod (C : XCtx κ ξ cc own nL ret) {idx a : Nat} (hd : decode cc pc = .ok (.getfield idx, 3)) (hw : Cond.fieldLink own idx "java/lang/String" "coder" "B" ∈ TW) (ht : tg μ a = some (.inr 10)) (k : XG κ ξ nL nc ns μ (pc + 3) L (.int 0 :: st)) : XG κ ξ nL nc ns μ pc L (.ref a :: st) := by
  intro hn H locs ls hR hS hl
  obtain ⟨⟨v, h1, h2, h3, h4⟩, hlen⟩ := xro_10 hR ht
  obtain ⟨cf, kk, fi, f, cell, g1, g2, g3, g4, g5, g6⟩ := h2
  exact W.getf C.1 C.2.1 C.2.2.2.1 (C.2.2.2.2.1 _ hw) g1 g2 g3 g4 (v := .int 0) g5 rfl rfl hd (k hn H locs ls hR hS hl)
theorem r_jcs (C : XCtx κ ξ cc own nL ret) {idx : Nat} (hd : decode cc pc = .ok (.getstatic idx, 3)) (hw : Cond.fieldLink own idx "java/lang/String" "COMPACT_STRINGS" "Z" ∈ TW) (k : XG κ ξ nL nc ns μ (pc + 3) L (.int 1 :: st)) : XG κ ξ nL nc ns μ pc L st :=
  fun hn H locs ls hR hS hl => va_gets C.1 C.2.1 (xJZ_of C).1 hS C.2.2.2.1 (C.2.2.2.2.1 _ hw) (fun x h => h) hd (k hn H locs ls hR hS hl)
theorem r_jsf (C : XCtx κ ξ cc own nL ret) {idx : Nat} (hd : decode cc pc = .ok (.getstatic idx, 3)) (hw : Cond.fieldLink own idx "jdk/internal/util/Preconditions" "SIOOBE_FORMATTER" "Ljava/util/function/BiFunction;" ∈ TW) (k : ∀ v : Value, v.category = 1 → XG κ ξ nL nc ns μ (pc + 3) L (v :: st)) : XG κ ξ nL nc ns μ pc L st := by
  intro hn H locs ls hR hS hl
  rcases (xJZ_of C).2 with h | ⟨t, h⟩
  · exact va_gets C.1 C.2.1 h hS C.2.2.2.1 (C.2.2.2.2.1 _ hw) (fun x h => h) hd (k _ rfl hn H locs ls hR hS hl)
  · exact va_gets C.1 C.2.1 h hS C.2.2.2.1 (C.2.2.2.2.1 _ hw) (fun x h => h) hd (k _ rfl hn H locs ls hR hS hl)
theorem r_jlen (C : XCtx κ ξ cc own nL ret) {v N : Nat} {f : Nat → Value} (hd : decode cc pc = .ok (.arraylength, 1)) (hT : va_T .byte v N f ξ.2.2 κ.s κ.s.heap) (k : XG κ ξ nL nc ns μ (pc + 1) L (.int (Int32.ofNat N) :: st)) : XG κ ξ nL nc ns μ pc L (.ref v :: st) :=
  fun hn H locs ls hR hS hl => va_tlen C.1 C.2.1 hT hS rfl hd (k hn H locs ls hR hS hl)
theorem r_jbl (C : XCtx κ ξ cc own nL ret) {v N : Nat} {g : Nat → Int32} {i : Int32} (hd : decode cc pc = .ok (.baload, 1)) (hT : va_T .byte v N (fun j => .int (g j)) ξ.2.2 κ.s κ.s.heap) (hin : vp_in i N) (k : XG κ ξ nL nc ns μ (pc + 1) L (.int (g i.toNatClampNeg) :: st)) : XG κ ξ nL nc ns μ pc L (.int i :: .ref v :: st) :=
  fun hn H locs ls hR hS hl => va_tb C.1 C.2.1 hT hS hin rfl hd (k hn H locs ls hR hS hl)
end
abbrev rm_jleaf : Room := { frames := 1, cells := 0, slots := 0, locals := 64 }
abbrev rm_jchk : Room := { frames := 2, cells := 0, slots := 0, locals := 128 }
abbrev rm_jl1 : Room := { frames := 3, cells := 0, slots := 0, locals := 192 }
noncomputable def s_jcoder : XSem := xseal fun μ as Q _ => ∃ a : Nat, as = [.ref a] ∧ tg μ a = some (.inr 10) ∧ Q (some (.int 0)) μ
noncomputable def s_jlat : XSem := xseal fun μ as Q _ => ∃ a : Nat, as = [.ref a] ∧ tg μ a = some (.inr 10) ∧ Q (some (.int 1)) μ
noncomputable def s_jpre : XSem := xseal fun μ as Q _ => ∃ (i n : Int32) (v : Value), as = [.int i, .int n, v] ∧ v.category = 1 ∧ (¬ i < 0 ∧ i < n) ∧ Q (some (.int i)) μ
noncomputable def s_jchk : XSem := xseal fun μ as Q _ => ∃ i n : Int32, as = [.int i, .int n] ∧ (¬ i < 0 ∧ i < n) ∧ Q none μ
theorem m_jcoder (l : Launch) : XMet l yJ0_coder_7d493 cJ0_coder_7d493 1 (some .byte) rm_jleaf s_jcoder := by
  refine XMet.of (by decide +kernel) (fun κ ξ μ as Q C hl hR hn hE h => ?_)
  rw [s_jcoder, xseal_eq] at h
  obtain ⟨a, rfl, ht, hq⟩ := h
  refine ⟨Nat.le_of_ble_eq_true rfl, ?_⟩
  show XG κ ξ 1 0 0 μ 0 [some (.ref a)] []
  refine r_jcs (idx := 38) C (by decide +kernel) (TW_in 492 (by decide +kernel)) ?_
  refine r_if_eq (off := 10) (tgt := 13) C (by decide +kernel) (by decide) (fun h => absurd h (by decide)) (fun _ => ?_)
  refine r_aload_n (n := 0) C (by decide +kernel) rfl ?_
  refine r_jcod (idx := 15) C (by decide +kernel) (TW_in 2137 (by decide +kernel)) ht ?_
  refine r_goto (off := 4) (tgt := 14) C (by decide +kernel) (by decide) ?_
  exact r_breturn C hE (by decide +kernel) (by decide +kernel) (Nat.le_refl _) (Nat.le_refl _) hq
theorem m_jlat (l : Launch) : XMet l yJ0_isLatin1_aae02 cJ0_isLatin1_aae02 1 (some .boolean) rm_jleaf s_jlat := by
  refine XMet.of (by decide +kernel) (fun κ ξ μ as Q C hl hR hn hE h => ?_)
  rw [s_jlat, xseal_eq] at h
  obtain ⟨a, rfl, ht, hq⟩ := h
  refine ⟨Nat.le_of_ble_eq_true rfl, ?_⟩
  show XG κ ξ 1 0 0 μ 0 [some (.ref a)] []
  refine r_jcs (idx := 38) C (by decide +kernel) (TW_in 492 (by decide +kernel)) ?_
  refine r_if_eq (off := 14) (tgt := 17) C (by decide +kernel) (by decide) (fun h => absurd h (by decide)) (fun _ => ?_)
  refine r_aload_n (n := 0) C (by decide +kernel) rfl ?_
  refine r_jcod (idx := 15) C (by decide +kernel) (TW_in 2137 (by decide +kernel)) ht ?_
  refine r_if_ne (off := 7) (tgt := 17) C (by decide +kernel) (by decide) (fun h => absurd rfl h) (fun _ => ?_)
  refine r_iconst (n := 1) C (by decide +kernel) ?_
  refine r_goto (off := 4) (tgt := 18) C (by decide +kernel) (by decide) ?_
  exact r_zreturn C hE (by decide +kernel) (by decide +kernel) (Nat.le_refl _) (Nat.le_refl _) hq
theorem m_jpre (l : Launch) : XMet l yJ3_checkIndex_8e157 cJ3_checkIndex_8e157 3 (some .int) rm_jleaf s_jpre := by
  refine XMet.of (by decide +kernel) (fun κ ξ μ as Q C hl hR hn hE h => ?_)
  rw [s_jpre, xseal_eq] at h
  obtain ⟨i, n, v, rfl, hv, ⟨h1, h2⟩, hq⟩ := h
  have hx : xarg [.int i, .int n, v] = [some (.int i), some (.int n), some v] := by
    cases v with
    | long x => exact absurd (show (2 : Nat) = 1 from hv) (by decide)
    | double x => exact absurd (show (2 : Nat) = 1 from hv) (by decide)
    | int x => rfl
    | float x => rfl
    | ref x => rfl
    | null => rfl
    | retAddr x => rfl
  refine ⟨by rw [hx]; exact Nat.le_of_ble_eq_true rfl, ?_⟩
  have he : xentry 3 [.int i, .int n, v] = [some (.int i), some (.int n), some v] := by
    unfold xentry
    rw [hx]
    rfl
  rw [he]
  refine r_iload_n (n := 0) C (by decide +kernel) rfl ?_
  refine r_if_lt (off := 8) (tgt := 9) C (by decide +kernel) (by decide) (fun h => absurd h h1) (fun _ => ?_)
  refine r_iload_n (n := 0) C (by decide +kernel) rfl ?_
  refine r_iload_n (n := 1) C (by decide +kernel) rfl ?_
  refine r_icmp_lt (off := 10) (tgt := 16) C (by decide +kernel) (by decide) (fun _ => ?_) (fun h => absurd h2 h)
  refine r_iload_n (n := 0) C (by decide +kernel) rfl ?_
  exact r_ireturn C hE (by decide +kernel) (Nat.le_refl _) (Nat.le_refl _) hq
theorem m_jchk (l : Launch) : XMet l yJ0_checkIndex_df160 cJ0_checkIndex_df160 2 none rm_jchk s_jchk := by
  refine XMet.of (by decide +kernel) (fun κ ξ μ as Q C hl hR hn hE h => ?_)
  rw [s_jchk, xseal_eq] at h
  obtain ⟨i, n, rfl, h12, hq⟩ := h
  refine ⟨Nat.le_of_ble_eq_true rfl, ?_⟩
  show XG κ ξ 2 0 0 μ 0 [some (.int i), some (.int n)] []
  refine r_iload_n (n := 0) C (by decide +kernel) rfl ?_
  refine r_iload_n (n := 1) C (by decide +kernel) rfl ?_
  refine r_jsf (idx := 1053) C (by decide +kernel) (TW_in 508 (by decide +kernel)) (fun v hv => ?_)
  refine r_callS (n := 3) (idx := 1059) (As := [.int i, .int n, v]) (rm := rm_jleaf) (f := s_jpre) (st := []) (Q' := fun w μ' => w = some (.int i) ∧ μ' = μ) C (hl ▸ m_jpre l) (by decide +kernel) ⟨TW_in 512 (by decide +kernel), TW_in 129 (by decide +kernel), TW_in 510 (by decide +kernel), ⟨by decide +kernel, by decide +kernel, by decide +kernel⟩, by rw [hR]; exact Nat.le_of_ble_eq_true rfl, by rw [hR]; exact Nat.le_of_ble_eq_true rfl⟩ (TW_in 511 (by decide +kernel)) rfl (Nat.zero_le _) ⟨by rw [hR]; exact Nat.le_refl _, by rw [hR]; exact Nat.le_refl _⟩ (fun w μ' hw => ?_) ?_
  · obtain ⟨rfl, rfl⟩ := hw
    refine r_pop C (by decide +kernel) rfl ?_
    exact r_return C hE (by decide +kernel) (Nat.le_refl _) (Nat.le_refl _) hq
  · rw [s_jpre, xseal_eq]
    exact ⟨i, n, v, rfl, hv, h12, rfl, rfl⟩
/-- a callee's start, and what the row of bytes holds -/
def xPcT (ξ : XE) (μ : XM) (as : List Value) (v N : Nat) (g : Nat → Int32) : Array Value → State → Prop := fun a U => xPc ξ μ as a U ∧ va_T .byte v N (fun j => .int (g j)) ξ.2.2 U U.heap
theorem jlt {i : Int32} {N : Nat} (hin : vp_in i N) (hN : N < 2147483648) : ¬ i < 0 ∧ i < Int32.ofNat N := by
  have h1 : ¬ i < 0 := fun h => hin (Or.inl h)
  have h2 : i.toNatClampNeg < N := Nat.not_le.mp (fun h => hin (Or.inr h))
  refine ⟨h1, ?_⟩
  have h3 : 0 ≤ i.toInt := by
    have := mt Int32.lt_iff_toInt_lt.mpr h1
    have h0 : (0 : Int32).toInt = 0 := rfl
    omega
  have h4 : i.toInt.toNat < N := h2
  rw [Int32.lt_iff_toInt_lt, Int32.toInt_ofNat_of_lt (by omega)]
  omega
theorem m_jl1 (l : Launch) {ξ : XE} {μ : XM} {v N : Nat} {g : Nat → Int32} {i : Int32} {Q : XQ} (hin : vp_in i N) (hN : N < 2147483648) (hq : Q (some (.int (g i.toNatClampNeg &&& 255))) μ) : Met l yJ1_charAt_3b067 (.code yJ1_charAt_3b067 cJ1_charAt_3b067 2 (some .char) :: TW) rm_jl1 (xPcT ξ μ [.ref v, .int i] v N g) (xQn ξ Q) 0 0 ξ.2.2 := by
  refine Met.ofW (cc := cJ1_charAt_3b067) (maxL := 2) (ret := some .char) (by decide +kernel) rfl ?_
  intro p e s m args below meth c s₁ B hml hv
  obtain ⟨⟨rfl, hR, hK, hZ, hA⟩, hT⟩ := hv
  have hts := atoms_spec (ws := Cond.code yJ1_charAt_3b067 cJ1_charAt_3b067 2 (some .char) :: TW) B.pre
  have C : XCtx (p, l, e, rm_jl1, s, m, [Value.ref v, Value.int i].toArray, below, meth, c, MQ below (xQn ξ Q) [Value.ref v, Value.int i].toArray s 0 0 ξ.2.2) ξ cJ1_charAt_3b067 yJ1_charAt_3b067.cls 2 (some .char) := ⟨B.exec, B.bytes, hml, findClass_of_methodNamed B.named, fun w hw => hts w (List.mem_cons_of_mem _ hw), hK, hA, B.returns, B.notSynchronized, hZ⟩
  have hE : XEnd (p, l, e, rm_jl1, s, m, [Value.ref v, Value.int i].toArray, below, meth, c, MQ below (xQn ξ Q) [Value.ref v, Value.int i].toArray s 0 0 ξ.2.2) ξ 0 0 Q := fun H locs g h => h
  have hx : XG (p, l, e, rm_jl1, s, m, [Value.ref v, Value.int i].toArray, below, meth, c, MQ below (xQn ξ Q) [Value.ref v, Value.int i].toArray s 0 0 ξ.2.2) ξ 2 0 0 μ 0 [some (.ref v), some (.int i)] [] := by
    refine r_iload_n (n := 1) C (by decide +kernel) rfl ?_
    refine r_aload_n (n := 0) C (by decide +kernel) rfl ?_
    refine r_jlen C (by decide +kernel) hT ?_
    refine r_callS (n := 2) (idx := 9) (As := [.int i, .int (Int32.ofNat N)]) (rm := rm_jchk) (f := s_jchk) (st := []) (Q' := fun w μ' => w = none ∧ μ' = μ) C (m_jchk l) (by decide +kernel) ⟨TW_in 507 (by decide +kernel), TW_in 127 (by decide +kernel), TW_in 505 (by decide +kernel), ⟨by decide +kernel, by decide +kernel, by decide +kernel⟩, Nat.le_of_ble_eq_true rfl, Nat.le_of_ble_eq_true rfl⟩ (TW_in 506 (by decide +kernel)) rfl (Nat.zero_le _) ⟨Nat.le_refl _, Nat.le_refl _⟩ (fun w μ' hw => ?_) ?_
    · obtain ⟨rfl, rfl⟩ := hw
      show XG _ ξ 2 0 0 _ _ _ []
      refine r_aload_n (n := 0) C (by decide +kernel) rfl ?_
      refine r_iload_n (n := 1) C (by decide +kernel) rfl ?_
      refine r_jbl C (by decide +kernel) hT hin ?_
      refine r_sipush (n := 255) C (by decide +kernel) ?_
      refine r_iand C (by decide +kernel) ?_
      refine r_i2c C (by decide +kernel) ?_
      have e1 : ((g i.toNatClampNeg &&& (Int16.ofInt 255).toInt32).toUInt32 % 65536).toInt32 = g i.toNatClampNeg &&& 255 := sc_c2 _
      rw [e1]
      exact r_creturn C hE (by decide +kernel) (sc_nar _) (Nat.le_refl _) (Nat.le_refl _) hq
    · rw [s_jchk, xseal_eq]
      exact ⟨i, _, rfl, jlt hin hN, rfl, rfl⟩
  rw [lg_entry_eq]
  exact hx (xentry_len (as := [Value.ref v, Value.int i]) (n := 2) (Nat.le_of_ble_eq_true rfl)) s.heap [] _ hR va_S.rf (xentry_L (as := [Value.ref v, Value.int i]) (n := 2) (Nat.le_of_ble_eq_true rfl))
theorem xPcT_pre {κ : XK} {ξ : XE} {cc : ByteArray} {own : String} {nL : Nat} {ret : Option FieldType} {μ : XM} (C : XCtx κ ξ cc own nL ret) {H : Heap} {locs : List Loc} (hR : xR ξ μ κ.s H) (hS : va_S ξ.2.2 κ.s.heap H locs) (As : List Value) {v N : Nat} {g : Nat → Int32} (hT : va_T .byte v N (fun j => .int (g j)) ξ.2.2 κ.s κ.s.heap) : FrameBlind (xPcT ξ μ As v N g) ∧ ∀ U : State, U.heap = H → κ.s.WarmedH U.vm → xPcT ξ μ As v N g As.toArray U := by
  obtain ⟨h1, h2⟩ := x_pre C hR hS As
  refine ⟨fun a U gg mk h => ⟨h1 a U gg mk h.1, ?_⟩, fun U hU hW => ⟨h2 U hU hW, ?_⟩⟩
  · exact va_T.moved (Vm.Alike.refl U.vm) h.2
  · rw [hU]
    exact va_T.moved hW.alike (hT.kept hS.2.1)
theorem r_jl1 {κ : XK} {ξ : XE} {cc : ByteArray} {own : String} {nL : Nat} {ret : Option FieldType} {nc ns : Nat} {μ : XM} {pc : Nat} {L : List (Option Value)} (C : XCtx κ ξ cc own nL ret) {idx v N : Nat} {g : Nat → Int32} {i : Int32} (hd : decode cc pc = .ok (.invokestatic idx, 3)) (hk : XLink κ own idx yJ1_charAt_3b067 cJ1_charAt_3b067 2 (some .char) rm_jl1 2) (hst : Cond.static yJ1_charAt_3b067 ∈ TW) (hT : va_T .byte v N (fun j => .int (g j)) ξ.2.2 κ.s κ.s.heap) (hin : vp_in i N) (hN : N < 2147483648) (h1 : nc ≤ κ.R.cells) (h2 : ns ≤ κ.R.slots) (k : XG κ ξ nL nc ns μ (pc + 3) L [.int (g i.toNatClampNeg &&& 255)]) : XG κ ξ nL nc ns μ pc L [.int i, .ref v] := by
  intro hn H locs ls hR hS hl
  exact x_next (As := [Value.ref v, Value.int i]) (rest := []) (mc := 0) (ms := 0) (Q' := fun w μ2 => w = some (.int (g i.toNatClampNeg &&& 255)) ∧ μ2 = μ) hn hl hS (fun _ z => z) (fun w μ2 hw => by
    obtain ⟨rfl, rfl⟩ := hw
    exact k) (va_runS ⟨C.1, C.2.1, C.2.2.1, C.2.2.2.1, C.2.2.2.2.1⟩ (m_jl1 κ.l (Q := fun w μ2 => w = some (.int (g i.toNatClampNeg &&& 255)) ∧ μ2 = μ) hin hN ⟨rfl, rfl⟩) ⟨x_callB C hk, C.2.2.2.2.1 _ hst⟩ (xPcT_pre C hR hS [Value.ref v, Value.int i] hT) rfl rfl (hl.1.trans hn) rfl (lv_room (Nat.zero_le _)) hd ⟨h1, h2⟩)
theorem m_J0_length_8abf5 (l : Launch) (hl0 : l.stackTraces = false) : XMet l yJ0_length_8abf5 cJ0_length_8abf5 1 (some .int) rm_J0_length_8abf5 s_J0_length_8abf5 := by
  refine XMet.of (by decide +kernel) (fun κ ξ μ as Q C hl hR hn hE h => ?_)
  rw [s_J0_length_8abf5, xseal_eq] at h
  obtain ⟨a, rfl, ht, hq⟩ : ∃ a : Nat, as = [.ref a] ∧ tg μ a = some (.inr 10) ∧ Q (some (.int (Int32.ofNat (ln μ a)))) μ := by
    split at h
    · exact ⟨_, rfl, h⟩
    · exact absurd h id
  refine ⟨Nat.le_of_ble_eq_true rfl, ?_⟩
  show XG κ ξ 1 0 0 μ 0 [some (.ref a)] []
  refine r_aload_n (n := 0) C (by decide +kernel) rfl ?_
  refine r_jval (idx := 9) C (by decide +kernel) (TW_in 2136 (by decide +kernel)) ht (fun v hT hN => ?_)
  refine r_jlen C (by decide +kernel) hT ?_
  refine r_aload_n (n := 0) C (by decide +kernel) rfl ?_
  refine r_callVS (idx := 335) (As := []) (rm := rm_jleaf) (f := s_jcoder) (st := [.int (Int32.ofNat (ln μ a))]) (Q' := fun w μ' => w = some (.int 0) ∧ μ' = μ) C (hl ▸ m_jcoder l) (by decide +kernel) ⟨TW_in 491 (by decide +kernel), TW_in 127 (by decide +kernel), TW_in 488 (by decide +kernel), ⟨by decide +kernel, by decide +kernel, by decide +kernel⟩, by rw [hR]; exact Nat.le_of_ble_eq_true rfl, by rw [hR]; exact Nat.le_of_ble_eq_true rfl⟩ (TW_in 489 (by decide +kernel)) (TW_in 490 (by decide +kernel)) ht rfl (Nat.le_of_ble_eq_true rfl) ⟨by rw [hR]; exact Nat.le_refl _, by rw [hR]; exact Nat.le_refl _⟩ (fun w μ' hw => ?_) ?_
  · obtain ⟨rfl, rfl⟩ := hw
    refine r_ishr C (by decide +kernel) ?_
    have e1 : Int32.ofNat (ln μ' a) >>> ((0 : Int32) &&& 31) = Int32.ofNat (ln μ' a) := sc_shr0 hN
    rw [e1]
    exact r_ireturn C hE (by decide +kernel) (Nat.le_refl _) (Nat.le_refl _) hq
  · rw [s_jcoder, xseal_eq]
    exact ⟨a, rfl, ht, rfl, rfl⟩
theorem m_J0_charAt_5068e (l : Launch) (hl0 : l.stackTraces = false) : XMet l yJ0_charAt_5068e cJ0_charAt_5068e 2 (some .char) rm_J0_charAt_5068e s_J0_charAt_5068e := by
  refine XMet.of (by decide +kernel) (fun κ ξ μ as Q C hl hR hn hE h => ?_)
  rw [s_J0_charAt_5068e, xseal_eq] at h
  obtain ⟨a, i, rfl, ht, hin, hq⟩ : ∃ (a : Nat) (i : Int32), as = [.ref a, .int i] ∧ tg μ a = some (.inr 10) ∧ vp_in i (ln μ a) ∧ Q (some (.int (aI μ a i.toNatClampNeg &&& 255))) μ := by
    split at h
    · exact ⟨_, _, rfl, h⟩
    · exact absurd h id
  refine ⟨Nat.le_of_ble_eq_true rfl, ?_⟩
  show XG κ ξ 2 0 0 μ 0 [some (.ref a), some (.int i)] []
  refine r_aload_n (n := 0) C (by decide +kernel) rfl ?_
  refine r_callVS (idx := 492) (As := []) (rm := rm_jleaf) (f := s_jlat) (st := []) (Q' := fun w μ' => w = some (.int 1) ∧ μ' = μ) C (hl ▸ m_jlat l) (by decide +kernel) ⟨TW_in 501 (by decide +kernel), TW_in 127 (by decide +kernel), TW_in 498 (by decide +kernel), ⟨by decide +kernel, by decide +kernel, by decide +kernel⟩, by rw [hR]; exact Nat.le_of_ble_eq_true rfl, by rw [hR]; exact Nat.le_of_ble_eq_true rfl⟩ (TW_in 499 (by decide +kernel)) (TW_in 500 (by decide +kernel)) ht rfl (Nat.zero_le _) ⟨by rw [hR]; exact Nat.le_refl _, by rw [hR]; exact Nat.le_refl _⟩ (fun w μ' hw => ?_) ?_
  · obtain ⟨rfl, rfl⟩ := hw
    refine r_if_eq (off := 12) (tgt := 16) C (by decide +kernel) (by decide) (fun h => absurd h (by decide)) (fun _ => ?_)
    refine r_aload_n (n := 0) C (by decide +kernel) rfl ?_
    refine r_jval (idx := 9) C (by decide +kernel) (TW_in 2136 (by decide +kernel)) ht (fun v hT hN => ?_)
    refine r_iload_n (n := 1) C (by decide +kernel) rfl ?_
    refine r_jl1 (idx := 495) C (by decide +kernel) ⟨TW_in 504 (by decide +kernel), TW_in 128 (by decide +kernel), TW_in 502 (by decide +kernel), ⟨by decide +kernel, by decide +kernel, by decide +kernel⟩, by rw [hR]; exact Nat.le_of_ble_eq_true rfl, by rw [hR]; exact Nat.le_of_ble_eq_true rfl⟩ (TW_in 503 (by decide +kernel)) hT hin hN (Nat.zero_le _) (Nat.zero_le _) ?_
    exact r_creturn C hE (by decide +kernel) (sc_nar _) (Nat.le_refl _) (Nat.le_refl _) hq
  · rw [s_jlat, xseal_eq]
    exact ⟨a, rfl, ht, rfl, rfl⟩
