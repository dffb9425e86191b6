theorem TW_hts {a : Array Value} {s : State} (hts : ∀ w ∈ lw_tbl, w.before a s = true) : ∀ w ∈ TW, w.before a s = true := fun w hw => hts w (List.mem_filter.mp hw).1
theorem hW {a : Array Value} {s : State} (hts : ∀ w ∈ TW, w.before a s = true) (i : Nat) {w : Cond} (h : (decide (lw_tbl[i]? = some w) && goodWord w) = true) : w.before a s = true := hts w (TW_in i h)
theorem hT {a : Array Value} {s : State} (hts : ∀ w ∈ lw_tbl, w.before a s = true) (i : Nat) {w : Cond} (h : decide (lw_tbl[i]? = some w) = true) : w.before a s = true := hts w (List.mem_of_getElem? (of_decide_eq_true h))
/-- the classes -/
theorem en_cls {a : Array Value} {s : State} (hts : ∀ w ∈ TW, w.before a s = true) : ∃ D : va_G, ∀ (k : Nat) (q : vw_C), xcl[k]? = some q → u_Kn s q.1 q.2.1 q.2.2 (D.1 k) (D.2 k) := by
  obtain ⟨c0, d0, h0⟩ := u_known (C := RX0) (T := TX0) (N := 6) (n := 6) hts xws_0 (hW hts 156 (by decide +kernel))
  obtain ⟨c1, d1, h1⟩ := u_known (C := RX1) (T := TX1) (N := 3) (n := 3) hts xws_1 (hW hts 277 (by decide +kernel))
  obtain ⟨c2, d2, h2⟩ := u_known (C := RX2) (T := TX2) (N := 1) (n := 1) hts xws_2 (hW hts 355 (by decide +kernel))
  obtain ⟨c3, d3, h3⟩ := u_known (C := RX3) (T := TX3) (N := 12) (n := 12) hts xws_3 (hW hts 190 (by decide +kernel))
  obtain ⟨c4, d4, h4⟩ := u_known (C := RX4) (T := TX4) (N := 5) (n := 5) hts xws_4 (hW hts 297 (by decide +kernel))
  obtain ⟨c5, d5, h5⟩ := u_known (C := RX5) (T := TX5) (N := 2) (n := 2) hts xws_5 (hW hts 365 (by decide +kernel))
  obtain ⟨c6, d6, h6⟩ := u_known (C := RX6) (T := TX6) (N := 8) (n := 8) hts xws_6 (hW hts 319 (by decide +kernel))
  obtain ⟨c7, d7, h7⟩ := u_known (C := RX7) (T := TX7) (N := 7) (n := 7) hts xws_7 (hW hts 150 (by decide +kernel))
  obtain ⟨c8, d8, h8⟩ := u_known (C := RX8) (T := TX8) (N := 11) (n := 11) hts xws_8 (hW hts 142 (by decide +kernel))
  obtain ⟨c9, d9, h9⟩ := u_known (C := RX9) (T := TX9) (N := 33) (n := 33) hts xws_9 (hW hts 1430 (by decide +kernel))
  refine ⟨(fun k => [c0, c1, c2, c3, c4, c5, c6, c7, c8, c9].getD k 0, fun k => [d0, d1, d2, d3, d4, d5, d6, d7, d8, d9].getD k (fun _ => 0)), fun k q hq => ?_⟩
  match k, hq with
  | 0, hq => cases hq; exact h0
  | 1, hq => cases hq; exact h1
  | 2, hq => cases hq; exact h2
  | 3, hq => cases hq; exact h3
  | 4, hq => cases hq; exact h4
  | 5, hq => cases hq; exact h5
  | 6, hq => cases hq; exact h6
  | 7, hq => cases hq; exact h7
  | 8, hq => cases hq; exact h8
  | 9, hq => cases hq; exact h9
  | k + 10, hq => simp at hq
/-- the classes of rows -/
theorem en_tys {a : Array Value} {s : State} (hts : ∀ w ∈ lw_tbl, w.before a s = true) (f : Nat → Nat) : ∃ E : Nat → ClassId, (∀ k, E (100 + k) = f k) ∧ ∀ (k : Nat) (q : ClassId × FieldType), (xty E)[k]? = some q → ArrOfT s q.1 q.2 ∧ va_RA s q.1 q.2 := by
  obtain ⟨c0, a0, b0⟩ := en_arr (ty := .int) (hT hts 187 (by decide +kernel))
  obtain ⟨c1, a1, b1⟩ := en_arr (ty := .boolean) (hT hts 246 (by decide +kernel))
  obtain ⟨c2, a2, b2⟩ := en_arr (ty := .byte) (hT hts 628 (by decide +kernel))
  obtain ⟨c3, a3, b3⟩ := en_arr (ty := .long) (hT hts 2132 (by decide +kernel))
  obtain ⟨c4, a4, b4⟩ := en_arr (ty := .double) (hT hts 2133 (by decide +kernel))
  obtain ⟨c5, a5, b5⟩ := en_over (C := RX7) (hT hts 283 (by decide +kernel))
  obtain ⟨c6, a6, b6⟩ := en_over (C := RX3) (hT hts 189 (by decide +kernel))
  refine ⟨fun k => if k < 7 then [c0, c1, c2, c3, c4, c5, c6].getD k 0 else f (k - 100), fun k => ?_, fun k q hq => ?_⟩
  · show (if 100 + k < 7 then _ else f (100 + k - 100)) = f k
    rw [if_neg (by omega), Nat.add_sub_cancel_left]
  · match k, hq with
    | 0, hq => cases hq; exact ⟨a0, b0⟩
    | 1, hq => cases hq; exact ⟨a1, b1⟩
    | 2, hq => cases hq; exact ⟨a2, b2⟩
    | 3, hq => cases hq; exact ⟨a3, b3⟩
    | 4, hq => cases hq; exact ⟨a4, b4⟩
    | 5, hq => cases hq; exact ⟨a5, b5⟩
    | 6, hq => cases hq; exact ⟨a6, b6⟩
    | k + 7, hq => simp [xty] at hq
/-- what stays -/
theorem en_xZ {a : Array Value} {s : State} (hts : ∀ w ∈ lw_tbl, w.before a s = true) (hgv : (Jvm.Cond.and given_1 narrow_1).before a s = true) {ξ : XE} (hA : ∀ q : Nat, q < s.heap.size → ¬ ξ.2.2 q) (hE : ∀ i : Nat, i < 14 → (tmX i).eval a s none [] s = some (.ref (ξ.2.1 (100 + i)))) : xZ ξ s s.heap := by
  have hs := flat_of_before _ hgv
  refine ⟨⟨vx_Zqof (hT hts 955 (by decide +kernel)) (hT hts 132 (by decide +kernel)) (hs _ (by decide +kernel)) hA, va_Zof (hT hts 493 (by decide +kernel)) (hT hts 127 (by decide +kernel)) (va_eqi (hs _ (by decide +kernel))) hA, va_Zqof (hT hts 509 (by decide +kernel)) (hT hts 129 (by decide +kernel)) (hs _ (by decide +kernel)) hA⟩, vx_Zqof (hT hts 957 (by decide +kernel)) (hT hts 132 (by decide +kernel)) (hs _ (by decide +kernel)) hA, ?_, ?_, va_AO.of (hT hts 283 (by decide +kernel)), va_AO.of (hT hts 189 (by decide +kernel)), ?_, ?_, ?_, va_Nc.of (hs _ (by decide +kernel))⟩
  · exact List.forall_mem_cons.mpr ⟨en_vkR (hT hts 1141 (by decide +kernel)), List.forall_mem_cons.mpr ⟨en_vkR (hT hts 1328 (by decide +kernel)), List.forall_mem_cons.mpr ⟨en_vkR (hT hts 1409 (by decide +kernel)), List.forall_mem_cons.mpr ⟨en_vkR (hT hts 1031 (by decide +kernel)), List.forall_mem_cons.mpr ⟨en_vkR (hT hts 1065 (by decide +kernel)), List.forall_mem_cons.mpr ⟨en_vkR (hT hts 1241 (by decide +kernel)), List.forall_mem_cons.mpr ⟨en_vkR (hT hts 1157 (by decide +kernel)), List.forall_mem_cons.mpr ⟨en_vkR (hT hts 1047 (by decide +kernel)), List.forall_mem_cons.mpr ⟨en_vkR (hT hts 1197 (by decide +kernel)), List.forall_mem_cons.mpr ⟨en_vkR (hT hts 1208 (by decide +kernel)), fun _ h => absurd h List.not_mem_nil⟩⟩⟩⟩⟩⟩⟩⟩⟩⟩
  · exact List.forall_mem_cons.mpr ⟨va_Nw.of rfl (hT hts 157 (by decide +kernel)), List.forall_mem_cons.mpr ⟨va_Nw.of rfl (hT hts 191 (by decide +kernel)), List.forall_mem_cons.mpr ⟨va_Nw.of rfl (hT hts 298 (by decide +kernel)), List.forall_mem_cons.mpr ⟨va_Nw.of rfl (hT hts 320 (by decide +kernel)), List.forall_mem_cons.mpr ⟨va_Nw.of rfl (hT hts 356 (by decide +kernel)), List.forall_mem_cons.mpr ⟨va_Nw.of rfl (hT hts 366 (by decide +kernel)), List.forall_mem_cons.mpr ⟨va_Nw.of rfl (hT hts 390 (by decide +kernel)), List.forall_mem_cons.mpr ⟨va_Nw.of rfl (hT hts 459 (by decide +kernel)), List.forall_mem_cons.mpr ⟨va_Nw.of rfl (hT hts 708 (by decide +kernel)), List.forall_mem_cons.mpr ⟨va_Nw.of rfl (hT hts 714 (by decide +kernel)), List.forall_mem_cons.mpr ⟨va_Nw.of rfl (hT hts 784 (by decide +kernel)), List.forall_mem_cons.mpr ⟨va_Nw.of rfl (hT hts 800 (by decide +kernel)), List.forall_mem_cons.mpr ⟨va_Nw.of rfl (hT hts 891 (by decide +kernel)), fun _ h => absurd h List.not_mem_nil⟩⟩⟩⟩⟩⟩⟩⟩⟩⟩⟩⟩⟩
  · exact List.forall_mem_cons.mpr ⟨vk_R.of (hT hts 479 (by decide +kernel)) (hE 0 (by omega)), List.forall_mem_cons.mpr ⟨vk_R.of (hT hts 555 (by decide +kernel)) (hE 1 (by omega)), List.forall_mem_cons.mpr ⟨vk_R.of (hT hts 560 (by decide +kernel)) (hE 2 (by omega)), List.forall_mem_cons.mpr ⟨vk_R.of (hT hts 573 (by decide +kernel)) (hE 3 (by omega)), List.forall_mem_cons.mpr ⟨vk_R.of (hT hts 575 (by decide +kernel)) (hE 4 (by omega)), List.forall_mem_cons.mpr ⟨vk_R.of (hT hts 576 (by decide +kernel)) (hE 5 (by omega)), List.forall_mem_cons.mpr ⟨vk_R.of (hT hts 577 (by decide +kernel)) (hE 6 (by omega)), List.forall_mem_cons.mpr ⟨vk_R.of (hT hts 599 (by decide +kernel)) (hE 7 (by omega)), List.forall_mem_cons.mpr ⟨vk_R.of (hT hts 773 (by decide +kernel)) (hE 8 (by omega)), List.forall_mem_cons.mpr ⟨vk_R.of (hT hts 775 (by decide +kernel)) (hE 9 (by omega)), List.forall_mem_cons.mpr ⟨vk_R.of (hT hts 776 (by decide +kernel)) (hE 10 (by omega)), List.forall_mem_cons.mpr ⟨vk_R.of (hT hts 777 (by decide +kernel)) (hE 11 (by omega)), List.forall_mem_cons.mpr ⟨vk_R.of (hT hts 778 (by decide +kernel)) (hE 12 (by omega)), List.forall_mem_cons.mpr ⟨vk_R.of (hT hts 1426 (by decide +kernel)) (hE 13 (by omega)), fun _ h => absurd h List.not_mem_nil⟩⟩⟩⟩⟩⟩⟩⟩⟩⟩⟩⟩⟩⟩
  · exact List.forall_mem_cons.mpr ⟨va_Nw.of rfl (hT hts 1024 (by decide +kernel)), List.forall_mem_cons.mpr ⟨va_Nw.of rfl (hT hts 1040 (by decide +kernel)), List.forall_mem_cons.mpr ⟨va_Nw.of rfl (hT hts 1402 (by decide +kernel)), fun _ h => absurd h List.not_mem_nil⟩⟩⟩
  · exact List.forall_mem_cons.mpr ⟨va_Nw.of rfl (hT hts 990 (by decide +kernel)), List.forall_mem_cons.mpr ⟨va_Nw.of rfl (hT hts 991 (by decide +kernel)), List.forall_mem_cons.mpr ⟨va_Nw.of rfl (hT hts 992 (by decide +kernel)), List.forall_mem_cons.mpr ⟨va_Nw.of rfl (hT hts 993 (by decide +kernel)), List.forall_mem_cons.mpr ⟨va_Nw.of rfl (hT hts 994 (by decide +kernel)), List.forall_mem_cons.mpr ⟨va_Nw.of rfl (hT hts 995 (by decide +kernel)), List.forall_mem_cons.mpr ⟨va_Nw.of rfl (hT hts 996 (by decide +kernel)), List.forall_mem_cons.mpr ⟨va_Nw.of rfl (hT hts 997 (by decide +kernel)), fun _ h => absurd h List.not_mem_nil⟩⟩⟩⟩⟩⟩⟩⟩
