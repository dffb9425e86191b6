/-! ===== the class: a command is done ===== -/
def oDo (A : AS) (r : Int × Int × Int × Int) : AR := if r.1 = 1 then oTick A r.2.1 else if ¬ (0 ≤ r.2.1 ∧ r.2.1 < A.1.2.2.1) then (A, (0, -1)) else if r.1 = 0 then (if 0 ≤ r.2.2.1 ∧ r.2.2.1 < A.1.2.2.1 then oSend A r.2.1 r.2.2.1 r.2.2.2 else (A, (0, -1))) else if r.1 = 2 then oTurn A r.2.1 r.2.2.1 1 else if r.1 = 3 then oTurn A r.2.1 r.2.2.1 0 else oForget A r.2.1
section
variable {μ : XM} {x : Nat} {Q : XQ} {X : XX} {A : AS} {n col : Int} {R : Int → Int}
theorem e_part (hL : XL μ x) (hR : MR μ (x + 1175) 160 R) (n0 : 0 ≤ n) (n1 : n < 40) (c0 : 0 ≤ col) (c1 : col < 4) : s_X5_part μ [.ref (x + 1174), .int (ji n), .int (ji col)] Q X = Q (some (.int (ji (R (4 * n + col))))) μ := by
  have ev := fun (Q : XQ) X => e_valueAt (Q := Q) (X := X) (i := 4 * n + col) (XL_38 hL) (by rw [XL_39 hL]; omega) (by omega) (by rw [XL_39 hL]; omega) (hR _ (by omega) (by omega))
  simp (disch := first | assumption | omega) only [XL_0, XL_1, XL_2, XL_3, XL_4, XL_5, XL_6, XL_7, XL_8, XL_9, XL_10, XL_11, XL_12, XL_13, XL_14, XL_15, XL_16, XL_17, XL_18, XL_19, XL_20, XL_21, XL_22, XL_23, XL_24, XL_25, XL_26, XL_27, XL_28, XL_29, XL_30, XL_31, XL_32, XL_33, XL_34, XL_35, XL_36, XL_37, XL_38, XL_39, XL_40, XL_41, XL_42, XL_43, XL_44, XL_45, XL_46, XL_47, WS_0, WS_1, WS_2, WS_3, WS_4, WS_5, WS_6, WS_7, WS_8, WS_9, WS_10, WS_11, WS_12, WS_13, WS_14, WS_15, WS_16, WS_17, WS_18, WS_19, WS_20, PS_0, PS_1, PS_2, PS_3, PS_4, PS_5, PS_6, ji_add, ji_sub, ji_mul, ji_neg, ji_lit0, ji_ofNat, ji_lt, ji_le, ji_eq, ji_nat, ji_in, qV_at, qI_at, qJ_at, qD_at, qA_at, qA_no, nb0, nb1, cat_r, cat_i, Option.some.injEq, exists_eq_left', true_and, and_true, if_true, if_false, ite_not, not_true_eq_false, not_false_eq_true, Sum.inr.injEq, exists_eq_right', true_or, or_true, and_self, Int.cast_ofNat_Int, reduceCtorEq, or_false, false_or, false_and, and_false, jb_zero, lt7_0, lt7_1, lt7_2, lt7_3, lt7_4, lt7_5, lt7_6, Nat.reduceAdd, Nat.reduceLeDiff, c_X5_part_1, u_X5_part, ev, ↓reduceIte, ilt_t, ilt_f, ile_t, ile_f, ieq_t, ieq_f, jb_T, jb_F, jb_t, jb_f]
theorem oDo_v {r : Int × Int × Int × Int} (hi : INV A) (hb : CB r) : -4 ≤ (oDo A r).2.2 ∧ (oDo A r).2.2 ≤ 40000 := by
  have hbz := hi.1.1.1.2.1
  have ht := hi.1.2.1
  have cz := cntz_b (lsn A.1.2.2.2 A.2.1 0 r.2.1) 72 0 0
  have cd := fun Z : Int → Int => cntz_b (fun l => decide (Z (2 + l) ≠ 0)) 72 0 0
  have hbb : r.1 = 1 → 1 ≤ r.2.1 ∧ r.2.1 ≤ 500 := fun h1 => by
    unfold CB at hb
    omega
  have tk : r.1 = 1 → -4 ≤ (oTick A r.2.1).2.2 ∧ (oTick A r.2.1).2.2 ≤ 40000 := fun h1 => by
    have := hbb h1
    unfold oTick psh
    split <;> simp only <;> omega
  have tn : ∀ y d, -4 ≤ (oTurn A r.2.1 y d).2.2 ∧ (oTurn A r.2.1 y d).2.2 ≤ 40000 := fun y d => by
    have := cd (zu A.2.1 (2 + lka A.1.1 A.1.2.1 A.1.2.2.1 r.2.1 y) d)
    unfold oTurn psh dcn
    split <;> simp only <;> omega
  have sd : -4 ≤ (oSend A r.2.1 r.2.2.1 r.2.2.2).2.2 ∧ (oSend A r.2.1 r.2.2.1 r.2.2.2).2.2 ≤ 40000 := by
    unfold oSend psh
    (repeat' split) <;> simp only <;> omega
  have fg : -4 ≤ (oForget A r.2.1).2.2 ∧ (oForget A r.2.1).2.2 ≤ 40000 := by
    unfold oForget psh
    simp only
    omega
  unfold oDo
  by_cases h1 : r.1 = 1
  · rw [if_pos h1]; exact tk h1
  · rw [if_neg h1]
    (repeat' split) <;> first | exact sd | exact tn _ _ | exact fg | (simp only; omega)
end
