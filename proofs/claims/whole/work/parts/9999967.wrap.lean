/-! ===== the wrappers ===== -/
section
variable {μ : XM} {x o d : Nat} {Q : XQ} {X : XX} {A : AS}
theorem w_link (hx : XS μ x A) (hi : INV A) (hC : SC μ x) (to : tg μ o = some (.inr 3)) (lo : ln μ o = 1) (ho : x + 1345 ≤ o) {p1 p2 : Int} (a1 : -2147483648 ≤ p1) (b1 : p1 < 2147483648) (a2 : -2147483648 ≤ p2) (b2 : p2 < 2147483648) (hQ : WQ μ x o Q (A, oc2 (0 ≤ p1 ∧ p1 < A.1.2.2.1) (0 ≤ p2 ∧ p2 < 4) (lka A.1.1 A.1.2.1 A.1.2.2.1 p1 p2))) : s_L_link μ [.ref x, .int (ji p1), .int (ji p2), .ref o] Q X := by
  have hL := hx.1
  rw [u_L_link, uj_L_link_5]
  refine ⟨XL_0 hL, by omega, by omega, ?_⟩
  rw [q_link (hx.xw hi) a1 b1 a2 b2]
  refine oc_2 rg_oc2 (fun h => ?_) (fun h => Or.inl ⟨rfl, fun q => ?_⟩) (fun h => Or.inr (Or.inl ⟨rfl, fun q => ?_⟩))
  · rw [qI_at, c_L_link_1, uj_L_link_8]
    exact ⟨to, vin0 lo, hQ.ok hi (CH.refl _ _) hx ho h⟩
  · rw [uj_L_link_13]
    exact hQ.ex hi (CH.refl _ _) hx h (by decide)
  · rw [uj_L_link_17]
    exact hQ.ex hi (CH.refl _ _) hx h (by decide)
theorem w_isDead (hx : XS μ x A) (hi : INV A) (hC : SC μ x) (to : tg μ o = some (.inr 3)) (lo : ln μ o = 1) (ho : x + 1345 ≤ o) {p1 : Int} (a1 : -2147483648 ≤ p1) (b1 : p1 < 2147483648) (hQ : WQ μ x o Q (A, oc1 (isl A.1.1 A.1.2.1 A.1.2.2.1 p1 = true) (if A.2.1 (2 + p1) ≠ 0 then 1 else 0))) : s_L_isDead μ [.ref x, .int (ji p1), .ref o] Q X := by
  have hL := hx.1
  rw [u_L_isDead, uj_L_isDead_4]
  refine ⟨XL_0 hL, by omega, by omega, ?_⟩
  rw [q_isDead (hx.xw hi) a1 b1]
  refine oc_1 rg_oc1 (fun h => ?_) (fun h => Or.inl ⟨rfl, fun q => ?_⟩)
  · rw [qI_at, c_L_isDead_1, uj_L_isDead_7]
    exact hQ.okb hi (CH.refl _ _) hx ho h to lo b_oc1
  · rw [uj_L_isDead_19]
    exact hQ.ex hi (CH.refl _ _) hx h (by decide)
theorem w_end (hx : XS μ x A) (hi : INV A) (hC : SC μ x) (to : tg μ o = some (.inr 3)) (lo : ln μ o = 1) (ho : x + 1345 ≤ o) {p1 p2 : Int} (a1 : -2147483648 ≤ p1) (b1 : p1 < 2147483648) (hg : p2 = 0 ∨ p2 = 1) (hQ : WQ μ x o Q (A, oc1 (isl A.1.1 A.1.2.1 A.1.2.2.1 p1 = true) (if p2 = 0 then p1 / 2 else nxt A.1.1 A.1.2.1 A.1.2.2.1 (p1 / 2) (p1 % 2)))) : s_L_end μ [.ref x, .int (ji p1), .int (ji p2), .ref o] Q X := by
  have hL := hx.1
  rw [u_L_end, uj_L_end_5]
  refine ⟨XL_0 hL, by omega, by omega, ?_⟩
  rw [q_end (hx.xw hi) a1 b1 hg]
  refine oc_1 rg_oc1 (fun h => ?_) (fun h => Or.inl ⟨rfl, fun q => ?_⟩)
  · rw [qI_at, c_L_end_1, uj_L_end_8]
    exact ⟨to, vin0 lo, hQ.ok hi (CH.refl _ _) hx ho h⟩
  · rw [uj_L_end_13]
    exact hQ.ex hi (CH.refl _ _) hx h (by decide)
theorem w_lesson (hx : XS μ x A) (hi : INV A) (hC : SC μ x) (to : tg μ o = some (.inr 3)) (lo : ln μ o = 1) (ho : x + 1345 ≤ o) {p1 p2 : Int} (a1 : -2147483648 ≤ p1) (b1 : p1 < 2147483648) (a2 : -2147483648 ≤ p2) (b2 : p2 < 2147483648) (hQ : WQ μ x o Q (A, oc1 ((0 ≤ p1 ∧ p1 < A.1.2.2.1) ∧ isl A.1.1 A.1.2.1 A.1.2.2.1 p2 = true) (les A.2.1 p1 p2))) : s_L_lesson μ [.ref x, .int (ji p1), .int (ji p2), .ref o] Q X := by
  have hL := hx.1
  rw [u_L_lesson, uj_L_lesson_5]
  refine ⟨XL_0 hL, by omega, by omega, ?_⟩
  rw [q_lesson (hx.xw hi) a1 b1 a2 b2]
  refine oc_1 rg_oc1 (fun h => ?_) (fun h => Or.inl ⟨rfl, fun q => ?_⟩)
  · rw [qI_at, c_L_lesson_1, uj_L_lesson_8]
    exact ⟨to, vin0 lo, hQ.ok hi (CH.refl _ _) hx ho h⟩
  · rw [uj_L_lesson_13]
    exact hQ.ex hi (CH.refl _ _) hx h (by decide)
theorem w_lessons (hx : XS μ x A) (hi : INV A) (hC : SC μ x) (to : tg μ o = some (.inr 3)) (lo : ln μ o = 1) (ho : x + 1345 ≤ o) {p1 : Int} (a1 : -2147483648 ≤ p1) (b1 : p1 < 2147483648) (hQ : WQ μ x o Q (A, oc1 (0 ≤ p1 ∧ p1 < A.1.2.2.1) (cntz (lsn A.1.2.2.2 A.2.1 0 p1) 0 72 0))) : s_L_lessons μ [.ref x, .int (ji p1), .ref o] Q X := by
  have hL := hx.1
  rw [u_L_lessons, uj_L_lessons_4]
  refine ⟨XL_0 hL, by omega, by omega, ?_⟩
  rw [q_lessons (hx.xw hi) a1 b1]
  refine oc_1 rg_oc1 (fun h => ?_) (fun h => Or.inl ⟨rfl, fun q => ?_⟩)
  · rw [qI_at, c_L_lessons_1, uj_L_lessons_7]
    exact ⟨to, vin0 lo, hQ.ok hi (CH.refl _ _) hx ho h⟩
  · rw [uj_L_lessons_12]
    exact hQ.ex hi (CH.refl _ _) hx h (by decide)
theorem w_knowers (hx : XS μ x A) (hi : INV A) (hC : SC μ x) (to : tg μ o = some (.inr 3)) (lo : ln μ o = 1) (ho : x + 1345 ≤ o) {p1 : Int} (a1 : -2147483648 ≤ p1) (b1 : p1 < 2147483648) (hQ : WQ μ x o Q (A, oc1 (isl A.1.1 A.1.2.1 A.1.2.2.1 p1 = true) (cntz (fun k => hol A.1.2.2.2 A.2.1 k p1) 0 A.1.2.2.1.toNat 0))) : s_L_knowers μ [.ref x, .int (ji p1), .ref o] Q X := by
  have hL := hx.1
  rw [u_L_knowers, uj_L_knowers_4]
  refine ⟨XL_0 hL, by omega, by omega, ?_⟩
  rw [q_knowers (hx.xw hi) a1 b1]
  refine oc_1 rg_oc1 (fun h => ?_) (fun h => Or.inl ⟨rfl, fun q => ?_⟩)
  · rw [qI_at, c_L_knowers_1, uj_L_knowers_7]
    exact ⟨to, vin0 lo, hQ.ok hi (CH.refl _ _) hx ho h⟩
  · rw [uj_L_knowers_12]
    exact hQ.ex hi (CH.refl _ _) hx h (by decide)
theorem w_wrongLessons (hx : XS μ x A) (hi : INV A) (hC : SC μ x) (to : tg μ o = some (.inr 3)) (lo : ln μ o = 1) (ho : x + 1345 ≤ o) {p1 : Int} (a1 : -2147483648 ≤ p1) (b1 : p1 < 2147483648) (hQ : WQ μ x o Q (A, oc1 (0 ≤ p1 ∧ p1 < A.1.2.2.1) (cntz (lsn A.1.2.2.2 A.2.1 1 p1) 0 72 0))) : s_L_wrongLessons μ [.ref x, .int (ji p1), .ref o] Q X := by
  have hL := hx.1
  rw [u_L_wrongLessons, uj_L_wrongLessons_4]
  refine ⟨XL_0 hL, by omega, by omega, ?_⟩
  rw [q_wrongLessons (hx.xw hi) a1 b1]
  refine oc_1 rg_oc1 (fun h => ?_) (fun h => Or.inl ⟨rfl, fun q => ?_⟩)
  · rw [qI_at, c_L_wrongLessons_1, uj_L_wrongLessons_7]
    exact ⟨to, vin0 lo, hQ.ok hi (CH.refl _ _) hx ho h⟩
  · rw [uj_L_wrongLessons_12]
    exact hQ.ex hi (CH.refl _ _) hx h (by decide)
theorem w_distance (hx : XS μ x A) (hi : INV A) (hC : SC μ x) (to : tg μ o = some (.inr 3)) (lo : ln μ o = 1) (ho : x + 1345 ≤ o) {p1 p2 : Int} (a1 : -2147483648 ≤ p1) (b1 : p1 < 2147483648) (a2 : -2147483648 ≤ p2) (b2 : p2 < 2147483648) (hQ : WQ μ x o Q (A, oc1 ((0 ≤ p1 ∧ p1 < A.1.2.2.1) ∧ 0 ≤ p2 ∧ p2 < A.1.2.2.1) (dst A.1.1 p1 p2))) : s_L_distance μ [.ref x, .int (ji p1), .int (ji p2), .ref o] Q X := by
  have hL := hx.1
  rw [u_L_distance, uj_L_distance_5]
  refine ⟨XL_0 hL, by omega, by omega, ?_⟩
  rw [q_distance (hx.xw hi) a1 b1 a2 b2]
  refine oc_1 rg_oc1 (fun h => ?_) (fun h => Or.inl ⟨rfl, fun q => ?_⟩)
  · rw [qI_at, c_L_distance_1, uj_L_distance_8]
    exact ⟨to, vin0 lo, hQ.ok hi (CH.refl _ _) hx ho h⟩
  · rw [uj_L_distance_13]
    exact hQ.ex hi (CH.refl _ _) hx h (by decide)
theorem w_shortest (hx : XS μ x A) (hi : INV A) (hC : SC μ x) (to : tg μ o = some (.inr 3)) (lo : ln μ o = 1) (ho : x + 1345 ≤ o) {p1 p2 : Int} (a1 : -2147483648 ≤ p1) (b1 : p1 < 2147483648) (a2 : -2147483648 ≤ p2) (b2 : p2 < 2147483648) (hQ : WQ μ x o Q (xShortest A p1 p2)) : s_L_shortest μ [.ref x, .int (ji p1), .int (ji p2), .ref o] Q X := by
  have hL := hx.1
  rw [u_L_shortest, uj_L_shortest_5]
  refine ⟨XL_0 hL, by omega, by omega, ?_⟩
  refine q_shortest (e2 := "") hx hi a1 b1 a2 b2 (fun μ1 c1 x1 => ?_)
  have to1 : tg μ1 o = some (.inr 3) := by rw [c1.1.1]; exact to
  have lo1 : ln μ1 o = 1 := by rw [c1.1.2.1]; exact lo
  have hi1 : INV (xShortest A p1 p2).1 := (inv_op1 hi (fun _ => hi))
  refine oc_1 (rg_op1 rfl) (fun h => ?_) (fun h => Or.inl ⟨rfl, fun q => ?_⟩)
  · rw [qI_at, c_L_shortest_1, uj_L_shortest_8]
    exact ⟨to1, vin0 lo1, hQ.ok hi1 c1 x1 ho h⟩
  · rw [uj_L_shortest_13]
    exact hQ.ex hi1 c1 x1 h (by decide)
theorem w_believed (hx : XS μ x A) (hi : INV A) (hC : SC μ x) (to : tg μ o = some (.inr 3)) (lo : ln μ o = 1) (ho : x + 1345 ≤ o) {p1 p2 : Int} (a1 : -2147483648 ≤ p1) (b1 : p1 < 2147483648) (a2 : -2147483648 ≤ p2) (b2 : p2 < 2147483648) (hQ : WQ μ x o Q (xBelieved A p1 p2)) : s_L_believed μ [.ref x, .int (ji p1), .int (ji p2), .ref o] Q X := by
  have hL := hx.1
  rw [u_L_believed, uj_L_believed_5]
  refine ⟨XL_0 hL, by omega, by omega, ?_⟩
  refine q_believed (e2 := "") hx hi a1 b1 a2 b2 (fun μ1 c1 x1 => ?_)
  have to1 : tg μ1 o = some (.inr 3) := by rw [c1.1.1]; exact to
  have lo1 : ln μ1 o = 1 := by rw [c1.1.2.1]; exact lo
  have hi1 : INV (xBelieved A p1 p2).1 := (inv_op1 hi (fun _ => hi))
  refine oc_1 (rg_op1 rfl) (fun h => ?_) (fun h => Or.inl ⟨rfl, fun q => ?_⟩)
  · rw [qI_at, c_L_believed_1, uj_L_believed_8]
    exact ⟨to1, vin0 lo1, hQ.ok hi1 c1 x1 ho h⟩
  · rw [uj_L_believed_13]
    exact hQ.ex hi1 c1 x1 h (by decide)
theorem w_ways (hx : XS μ x A) (hi : INV A) (hC : SC μ x) (to : tg μ o = some (.inr 3)) (lo : ln μ o = 1) (ho : x + 1345 ≤ o) {p1 p2 p3 : Int} (a1 : -2147483648 ≤ p1) (b1 : p1 < 2147483648) (a2 : -2147483648 ≤ p2) (b2 : p2 < 2147483648) (a3 : -2147483648 ≤ p3) (b3 : p3 < 2147483648) (hQ : WQ μ x o Q (xWays A p1 p2 p3)) : s_L_ways μ [.ref x, .int (ji p1), .int (ji p2), .int (ji p3), .ref o] Q X := by
  have hL := hx.1
  rw [u_L_ways, uj_L_ways_7]
  refine ⟨XL_0 hL, by omega, by omega, ?_⟩
  refine q_ways hx hi a1 b1 a2 b2 a3 b3 (fun μ1 c1 x1 => ?_)
  have to1 : tg μ1 o = some (.inr 3) := by rw [c1.1.1]; exact to
  have lo1 : ln μ1 o = 1 := by rw [c1.1.2.1]; exact lo
  have hi1 : INV (xWays A p1 p2 p3).1 := (inv_op2 hi (fun _ _ => hi))
  refine oc_2 (rg_op2 rfl) (fun h => ?_) (fun h => Or.inl ⟨rfl, fun q => ?_⟩) (fun h => Or.inr (Or.inl ⟨rfl, fun q => ?_⟩))
  · rw [qI_at, c_L_ways_1, uj_L_ways_10]
    exact ⟨to1, vin0 lo1, hQ.ok hi1 c1 x1 ho h⟩
  · rw [uj_L_ways_15]
    exact hQ.ex hi1 c1 x1 h (by decide)
  · rw [uj_L_ways_19]
    exact hQ.ex hi1 c1 x1 h (by decide)
theorem w_bridge (hx : XS μ x A) (hi : INV A) (hC : SC μ x) (to : tg μ o = some (.inr 3)) (lo : ln μ o = 1) (ho : x + 1345 ≤ o) {p1 : Int} (a1 : -2147483648 ≤ p1) (b1 : p1 < 2147483648) (hQ : WQ μ x o Q (xBridge A p1)) : s_L_bridge μ [.ref x, .int (ji p1), .ref o] Q X := by
  have hL := hx.1
  rw [u_L_bridge, uj_L_bridge_4]
  refine ⟨XL_0 hL, by omega, by omega, ?_⟩
  refine q_bridge (e2 := "") hx hi a1 b1 (fun μ1 c1 x1 => ?_)
  have to1 : tg μ1 o = some (.inr 3) := by rw [c1.1.1]; exact to
  have lo1 : ln μ1 o = 1 := by rw [c1.1.2.1]; exact lo
  have hi1 : INV (xBridge A p1).1 := (inv_op1 hi (fun _ => hi))
  refine oc_1 (rg_op1 rfl) (fun h => ?_) (fun h => Or.inl ⟨rfl, fun q => ?_⟩)
  · rw [qI_at, c_L_bridge_1, uj_L_bridge_7]
    exact ⟨to1, vin0 lo1, hQ.ok hi1 c1 x1 ho h⟩
  · rw [uj_L_bridge_12]
    exact hQ.ex hi1 c1 x1 h (by decide)
theorem w_cut (hx : XS μ x A) (hi : INV A) (hC : SC μ x) (to : tg μ o = some (.inr 3)) (lo : ln μ o = 1) (ho : x + 1345 ≤ o) {p1 p2 : Int} (a1 : -2147483648 ≤ p1) (b1 : p1 < 2147483648) (a2 : -2147483648 ≤ p2) (b2 : p2 < 2147483648) (hQ : WQ μ x o Q (xCut A p1 p2)) : s_L_cut μ [.ref x, .int (ji p1), .int (ji p2), .ref o] Q X := by
  have hL := hx.1
  rw [u_L_cut, uj_L_cut_5]
  refine ⟨XL_0 hL, by omega, by omega, ?_⟩
  refine q_cut (e2 := "") hx hi a1 b1 a2 b2 (fun μ1 c1 x1 => ?_)
  have to1 : tg μ1 o = some (.inr 3) := by rw [c1.1.1]; exact to
  have lo1 : ln μ1 o = 1 := by rw [c1.1.2.1]; exact lo
  have hi1 : INV (xCut A p1 p2).1 := (inv_op1 hi (fun _ => hi))
  refine oc_1 (rg_op1 rfl) (fun h => ?_) (fun h => Or.inl ⟨rfl, fun q => ?_⟩)
  · rw [qI_at, c_L_cut_1, uj_L_cut_8]
    exact ⟨to1, vin0 lo1, hQ.ok hi1 c1 x1 ho h⟩
  · rw [uj_L_cut_13]
    exact hQ.ex hi1 c1 x1 h (by decide)
theorem w_farthest (hx : XS μ x A) (hi : INV A) (hC : SC μ x) (to : tg μ o = some (.inr 3)) (lo : ln μ o = 1) (ho : x + 1345 ≤ o) {p1 : Int} (a1 : -2147483648 ≤ p1) (b1 : p1 < 2147483648) (hQ : WQ μ x o Q (xFarthest A p1)) : s_L_farthest μ [.ref x, .int (ji p1), .ref o] Q X := by
  have hL := hx.1
  rw [u_L_farthest, uj_L_farthest_4]
  refine ⟨XL_0 hL, by omega, by omega, ?_⟩
  refine q_farthest (e2 := "") hx hi a1 b1 (fun μ1 c1 x1 => ?_)
  have to1 : tg μ1 o = some (.inr 3) := by rw [c1.1.1]; exact to
  have lo1 : ln μ1 o = 1 := by rw [c1.1.2.1]; exact lo
  have hi1 : INV (xFarthest A p1).1 := (inv_op1 hi (fun _ => hi))
  refine oc_1 (rg_op1 rfl) (fun h => ?_) (fun h => Or.inl ⟨rfl, fun q => ?_⟩)
  · rw [qI_at, c_L_farthest_1, uj_L_farthest_7]
    exact ⟨to1, vin0 lo1, hQ.ok hi1 c1 x1 ho h⟩
  · rw [uj_L_farthest_12]
    exact hQ.ex hi1 c1 x1 h (by decide)
theorem w_send (hx : XS μ x A) (hi : INV A) (hC : SC μ x) (to : tg μ o = some (.inr 3)) (lo : ln μ o = 1) (ho : x + 1345 ≤ o) {p1 p2 p3 : Int} (a1 : -2147483648 ≤ p1) (b1 : p1 < 2147483648) (a2 : -2147483648 ≤ p2) (b2 : p2 < 2147483648) (a3 : -2147483648 ≤ p3) (b3 : p3 < 2147483648) (hQ : WQ μ x o Q (xSend A p1 p2 p3)) : s_L_send μ [.ref x, .int (ji p1), .int (ji p2), .int (ji p3), .ref o] Q X := by
  have hL := hx.1
  rw [u_L_send, uj_L_send_7]
  refine ⟨XL_0 hL, by omega, by omega, ?_⟩
  refine q_send hx hi a1 b1 a2 b2 a3 b3 (fun μ1 c1 x1 => ?_)
  have to1 : tg μ1 o = some (.inr 3) := by rw [c1.1.1]; exact to
  have lo1 : ln μ1 o = 1 := by rw [c1.1.2.1]; exact lo
  have hi1 : INV (xSend A p1 p2 p3).1 := (inv_op2 hi (fun h1 h2 => hi.send h1.1.1 h1.1.2 h1.2.1 h1.2.2 h2.1 h2.2))
  refine oc_2 (rg_op2 z_send) (fun h => ?_) (fun h => Or.inl ⟨rfl, fun q => ?_⟩) (fun h => Or.inr (Or.inl ⟨rfl, fun q => ?_⟩))
  · rw [qI_at, c_L_send_1, uj_L_send_10]
    exact ⟨to1, vin0 lo1, hQ.ok hi1 c1 x1 ho h⟩
  · rw [uj_L_send_15]
    exact hQ.ex hi1 c1 x1 h (by decide)
  · rw [uj_L_send_19]
    exact hQ.ex hi1 c1 x1 h (by decide)
theorem w_tick (hx : XS μ x A) (hi : INV A) (hC : SC μ x) (to : tg μ o = some (.inr 3)) (lo : ln μ o = 1) (ho : x + 1345 ≤ o) {p1 : Int} (a1 : -2147483648 ≤ p1) (b1 : p1 < 2147483648) (hQ : WQ μ x o Q (xTick A p1)) : s_L_tick μ [.ref x, .int (ji p1), .ref o] Q X := by
  have hL := hx.1
  rw [u_L_tick, uj_L_tick_4]
  refine ⟨XL_0 hL, by omega, by omega, ?_⟩
  refine q_tick (e2 := "") hx hi a1 b1 (fun μ1 c1 x1 => ?_)
  have to1 : tg μ1 o = some (.inr 3) := by rw [c1.1.1]; exact to
  have lo1 : ln μ1 o = 1 := by rw [c1.1.2.1]; exact lo
  have hi1 : INV (xTick A p1).1 := (inv_op1 hi (fun h => hi.tick h.1))
  refine oc_1 (rg_op1 z_tick) (fun h => ?_) (fun h => Or.inl ⟨rfl, fun q => ?_⟩)
  · rw [qI_at, c_L_tick_1, uj_L_tick_7]
    exact ⟨to1, vin0 lo1, hQ.ok hi1 c1 x1 ho h⟩
  · rw [uj_L_tick_12]
    exact hQ.ex hi1 c1 x1 h (by decide)
theorem w_kill (hx : XS μ x A) (hi : INV A) (hC : SC μ x) (to : tg μ o = some (.inr 3)) (lo : ln μ o = 1) (ho : x + 1345 ≤ o) {p1 p2 : Int} (a1 : -2147483648 ≤ p1) (b1 : p1 < 2147483648) (a2 : -2147483648 ≤ p2) (b2 : p2 < 2147483648) (hQ : WQ μ x o Q (xTurn A p1 p2 1)) : s_L_kill μ [.ref x, .int (ji p1), .int (ji p2), .ref o] Q X := by
  have hL := hx.1
  rw [u_L_kill, uj_L_kill_5]
  refine ⟨XL_0 hL, by omega, by omega, ?_⟩
  refine q_kill hx hi a1 b1 a2 b2 (fun μ1 c1 x1 => ?_)
  have to1 : tg μ1 o = some (.inr 3) := by rw [c1.1.1]; exact to
  have lo1 : ln μ1 o = 1 := by rw [c1.1.2.1]; exact lo
  have hi1 : INV (xTurn A p1 p2 1).1 := (inv_op2 hi (fun _ _ => hi.turn (Or.inr rfl)))
  refine oc_2 (rg_op2 z_turn) (fun h => ?_) (fun h => Or.inl ⟨rfl, fun q => ?_⟩) (fun h => Or.inr (Or.inl ⟨rfl, fun q => ?_⟩))
  · rw [qI_at, c_L_kill_1, uj_L_kill_8]
    exact ⟨to1, vin0 lo1, hQ.ok hi1 c1 x1 ho h⟩
  · rw [uj_L_kill_13]
    exact hQ.ex hi1 c1 x1 h (by decide)
  · rw [uj_L_kill_17]
    exact hQ.ex hi1 c1 x1 h (by decide)
theorem w_mend (hx : XS μ x A) (hi : INV A) (hC : SC μ x) (to : tg μ o = some (.inr 3)) (lo : ln μ o = 1) (ho : x + 1345 ≤ o) {p1 p2 : Int} (a1 : -2147483648 ≤ p1) (b1 : p1 < 2147483648) (a2 : -2147483648 ≤ p2) (b2 : p2 < 2147483648) (hQ : WQ μ x o Q (xTurn A p1 p2 0)) : s_L_mend μ [.ref x, .int (ji p1), .int (ji p2), .ref o] Q X := by
  have hL := hx.1
  rw [u_L_mend, uj_L_mend_5]
  refine ⟨XL_0 hL, by omega, by omega, ?_⟩
  refine q_mend hx hi a1 b1 a2 b2 (fun μ1 c1 x1 => ?_)
  have to1 : tg μ1 o = some (.inr 3) := by rw [c1.1.1]; exact to
  have lo1 : ln μ1 o = 1 := by rw [c1.1.2.1]; exact lo
  have hi1 : INV (xTurn A p1 p2 0).1 := (inv_op2 hi (fun _ _ => hi.turn (Or.inl rfl)))
  refine oc_2 (rg_op2 z_turn) (fun h => ?_) (fun h => Or.inl ⟨rfl, fun q => ?_⟩) (fun h => Or.inr (Or.inl ⟨rfl, fun q => ?_⟩))
  · rw [qI_at, c_L_mend_1, uj_L_mend_8]
    exact ⟨to1, vin0 lo1, hQ.ok hi1 c1 x1 ho h⟩
  · rw [uj_L_mend_13]
    exact hQ.ex hi1 c1 x1 h (by decide)
  · rw [uj_L_mend_17]
    exact hQ.ex hi1 c1 x1 h (by decide)
theorem w_forget (hx : XS μ x A) (hi : INV A) (hC : SC μ x) (to : tg μ o = some (.inr 3)) (lo : ln μ o = 1) (ho : x + 1345 ≤ o) {p1 : Int} (a1 : -2147483648 ≤ p1) (b1 : p1 < 2147483648) (hQ : WQ μ x o Q (xForget A p1)) : s_L_forget μ [.ref x, .int (ji p1), .ref o] Q X := by
  have hL := hx.1
  rw [u_L_forget, uj_L_forget_4]
  refine ⟨XL_0 hL, by omega, by omega, ?_⟩
  refine q_forget (e2 := "") hx hi a1 b1 (fun μ1 c1 x1 => ?_)
  have to1 : tg μ1 o = some (.inr 3) := by rw [c1.1.1]; exact to
  have lo1 : ln μ1 o = 1 := by rw [c1.1.2.1]; exact lo
  have hi1 : INV (xForget A p1).1 := (inv_op1 hi (fun h => hi.forget h.1 h.2))
  refine oc_1 (rg_op1 rfl) (fun h => ?_) (fun h => Or.inl ⟨rfl, fun q => ?_⟩)
  · rw [qI_at, c_L_forget_1, uj_L_forget_7]
    exact ⟨to1, vin0 lo1, hQ.ok hi1 c1 x1 ho h⟩
  · rw [uj_L_forget_12]
    exact hQ.ex hi1 c1 x1 h (by decide)
theorem w_packet (hx : XS μ x A) (hi : INV A) (hC : SC μ x) (to : tg μ o = some (.inr 3)) (lo : ln μ o = 1) (ho : x + 1345 ≤ o) {p1 p2 : Int} (a1 : -2147483648 ≤ p1) (b1 : p1 < 2147483648) (a2 : -2147483648 ≤ p2) (b2 : p2 < 2147483648) (hQ : WQ μ x o Q (A, oc1 (0 ≤ p1 ∧ p1 < A.2.1 1) (prp A.1.2.2.1 A.2.1 (2666 + 120 * p1) p2))) : s_L_packet μ [.ref x, .int (ji p1), .int (ji p2), .ref o] Q X := by
  have hL := hx.1
  rw [u_L_packet, uj_L_packet_5]
  refine ⟨XL_0 hL, by omega, by omega, ?_⟩
  rw [q_packet (hx.xw hi) a1 b1 a2 b2]
  refine oc_1 rg_oc1 (fun h => ?_) (fun h => Or.inl ⟨rfl, fun q => ?_⟩)
  · rw [qI_at, c_L_packet_1, uj_L_packet_8]
    exact ⟨to, vin0 lo, hQ.ok hi (CH.refl _ _) hx ho h⟩
  · rw [uj_L_packet_13]
    exact hQ.ex hi (CH.refl _ _) hx h (by decide)
theorem w_trail (hx : XS μ x A) (hi : INV A) (hC : SC μ x) (to : tg μ o = some (.inr 3)) (lo : ln μ o = 1) (ho : x + 1345 ≤ o) {p1 p2 : Int} (a1 : -2147483648 ≤ p1) (b1 : p1 < 2147483648) (a2 : -2147483648 ≤ p2) (b2 : p2 < 2147483648) (hQ : WQ μ x o Q (A, oc1 ((0 ≤ p1 ∧ p1 < A.2.1 1) ∧ 0 ≤ p2) (trn A.2.1 (2666 + 120 * p1) p2))) : s_L_trail μ [.ref x, .int (ji p1), .int (ji p2), .ref o] Q X := by
  have hL := hx.1
  rw [u_L_trail, uj_L_trail_5]
  refine ⟨XL_0 hL, by omega, by omega, ?_⟩
  rw [q_trail (hx.xw hi) a1 b1 a2 b2]
  refine oc_1 rg_oc1 (fun h => ?_) (fun h => Or.inl ⟨rfl, fun q => ?_⟩)
  · rw [qI_at, c_L_trail_1, uj_L_trail_8]
    exact ⟨to, vin0 lo, hQ.ok hi (CH.refl _ _) hx ho h⟩
  · rw [uj_L_trail_13]
    exact hQ.ex hi (CH.refl _ _) hx h (by decide)
theorem w_isVisited (hx : XS μ x A) (hi : INV A) (hC : SC μ x) (to : tg μ o = some (.inr 3)) (lo : ln μ o = 1) (ho : x + 1345 ≤ o) {p1 p2 : Int} (a1 : -2147483648 ≤ p1) (b1 : p1 < 2147483648) (a2 : -2147483648 ≤ p2) (b2 : p2 < 2147483648) (hQ : WQ μ x o Q (A, oc1 ((0 ≤ p1 ∧ p1 < A.2.1 1) ∧ 0 ≤ p2 ∧ p2 < A.1.2.2.1) (if vis A.2.1 (2666 + 120 * p1) p2 = true then 1 else 0))) : s_L_isVisited μ [.ref x, .int (ji p1), .int (ji p2), .ref o] Q X := by
  have hL := hx.1
  rw [u_L_isVisited, uj_L_isVisited_5]
  refine ⟨XL_0 hL, by omega, by omega, ?_⟩
  rw [q_isVisited (hx.xw hi) a1 b1 a2 b2]
  refine oc_1 rg_oc1 (fun h => ?_) (fun h => Or.inl ⟨rfl, fun q => ?_⟩)
  · rw [qI_at, c_L_isVisited_1, uj_L_isVisited_8]
    exact hQ.okb hi (CH.refl _ _) hx ho h to lo b_oc1
  · rw [uj_L_isVisited_20]
    exact hQ.ex hi (CH.refl _ _) hx h (by decide)
theorem w_found (hx : XS μ x A) (hi : INV A) (hC : SC μ x) (to : tg μ o = some (.inr 3)) (lo : ln μ o = 1) (ho : x + 1345 ≤ o) {p1 p2 : Int} (a1 : -2147483648 ≤ p1) (b1 : p1 < 2147483648) (a2 : -2147483648 ≤ p2) (b2 : p2 < 2147483648) (hQ : WQ μ x o Q (A, oc1 ((0 ≤ p1 ∧ p1 < A.2.1 1) ∧ isl A.1.1 A.1.2.1 A.1.2.2.1 p2 = true) (fnd A.2.1 (2666 + 120 * p1) p2))) : s_L_found μ [.ref x, .int (ji p1), .int (ji p2), .ref o] Q X := by
  have hL := hx.1
  rw [u_L_found, uj_L_found_5]
  refine ⟨XL_0 hL, by omega, by omega, ?_⟩
  rw [q_found (hx.xw hi) a1 b1 a2 b2]
  refine oc_1 rg_oc1 (fun h => ?_) (fun h => Or.inl ⟨rfl, fun q => ?_⟩)
  · rw [qI_at, c_L_found_1, uj_L_found_8]
    exact ⟨to, vin0 lo, hQ.ok hi (CH.refl _ _) hx ho h⟩
  · rw [uj_L_found_13]
    exact hQ.ex hi (CH.refl _ _) hx h (by decide)
theorem w_deadHome (hx : XS μ x A) (hi : INV A) (hC : SC μ x) (to : tg μ o = some (.inr 3)) (lo : ln μ o = 1) (ho : x + 1345 ≤ o) {p1 : Int} (a1 : -2147483648 ≤ p1) (b1 : p1 < 2147483648) (hQ : WQ μ x o Q (A, oc1 (0 ≤ p1 ∧ p1 < A.2.1 1) (dhm A.1.1 A.2.1 (2666 + 120 * p1) (A.2.1 (2666 + 120 * p1 + 6) - 1).toNat))) : s_L_deadHome μ [.ref x, .int (ji p1), .ref o] Q X := by
  have hL := hx.1
  rw [u_L_deadHome, uj_L_deadHome_4]
  refine ⟨XL_0 hL, by omega, by omega, ?_⟩
  rw [q_deadHome (hx.xw hi) a1 b1]
  refine oc_1 rg_oc1 (fun h => ?_) (fun h => Or.inl ⟨rfl, fun q => ?_⟩)
  · rw [qI_at, c_L_deadHome_1, uj_L_deadHome_7]
    exact ⟨to, vin0 lo, hQ.ok hi (CH.refl _ _) hx ho h⟩
  · rw [uj_L_deadHome_12]
    exact hQ.ex hi (CH.refl _ _) hx h (by decide)
theorem w_healed (hx : XS μ x A) (hi : INV A) (hC : SC μ x) (to : tg μ o = some (.inr 3)) (lo : ln μ o = 1) (ho : x + 1345 ≤ o) {p1 : Int} (a1 : -2147483648 ≤ p1) (b1 : p1 < 2147483648) (hQ : WQ μ x o Q (A, oc1 (0 ≤ p1 ∧ p1 < A.2.1 1) (cntz (fun l => decide (A.2.1 (2666 + 120 * p1 + 47 + l) ≠ -1 ∧ A.2.1 (2 + l) = 0)) 0 72 0))) : s_L_healed μ [.ref x, .int (ji p1), .ref o] Q X := by
  have hL := hx.1
  rw [u_L_healed, uj_L_healed_4]
  refine ⟨XL_0 hL, by omega, by omega, ?_⟩
  rw [q_healed (hx.xw hi) a1 b1]
  refine oc_1 rg_oc1 (fun h => ?_) (fun h => Or.inl ⟨rfl, fun q => ?_⟩)
  · rw [qI_at, c_L_healed_1, uj_L_healed_7]
    exact ⟨to, vin0 lo, hQ.ok hi (CH.refl _ _) hx ho h⟩
  · rw [uj_L_healed_12]
    exact hQ.ex hi (CH.refl _ _) hx h (by decide)
theorem w_choice (hx : XS μ x A) (hi : INV A) (hC : SC μ x) (to : tg μ o = some (.inr 3)) (lo : ln μ o = 1) (ho : x + 1345 ≤ o) {p1 : Int} (a1 : -2147483648 ≤ p1) (b1 : p1 < 2147483648) (hQ : WQ μ x o Q (A, oc1 (0 ≤ p1 ∧ p1 < A.2.1 1) (if A.2.1 (2666 + 120 * p1 + 3) = 0 then bst A.1.1 A.1.2.1 A.1.2.2.1 A.1.2.2.2 A.2.1 (2666 + 120 * p1) else -1))) : s_L_choice μ [.ref x, .int (ji p1), .ref o] Q X := by
  have hL := hx.1
  rw [u_L_choice, uj_L_choice_4]
  refine ⟨XL_0 hL, by omega, by omega, ?_⟩
  rw [q_choice (hx.xw hi) a1 b1]
  refine oc_1 rg_oc1 (fun h => ?_) (fun h => Or.inl ⟨rfl, fun q => ?_⟩)
  · rw [qI_at, c_L_choice_1, uj_L_choice_7]
    exact ⟨to, vin0 lo, hQ.ok hi (CH.refl _ _) hx ho h⟩
  · rw [uj_L_choice_12]
    exact hQ.ex hi (CH.refl _ _) hx h (by decide)
theorem w_reason (hx : XS μ x A) (hi : INV A) (hC : SC μ x) (to : tg μ o = some (.inr 3)) (lo : ln μ o = 1) (ho : x + 1345 ≤ o) {p1 p2 : Int} (a1 : -2147483648 ≤ p1) (b1 : p1 < 2147483648) (a2 : -2147483648 ≤ p2) (b2 : p2 < 2147483648) (hQ : WQ μ x o Q (A, oc2 (0 ≤ p1 ∧ p1 < A.2.1 1) (0 ≤ p2 ∧ p2 < 4) (rsn A.1.1 A.1.2.1 A.1.2.2.1 A.1.2.2.2 A.2.1 (2666 + 120 * p1) p2))) : s_L_reason μ [.ref x, .int (ji p1), .int (ji p2), .ref o] Q X := by
  have hL := hx.1
  rw [u_L_reason, uj_L_reason_5]
  refine ⟨XL_0 hL, by omega, by omega, ?_⟩
  rw [q_reason (hx.xw hi) a1 b1 a2 b2]
  refine oc_2 rg_oc2 (fun h => ?_) (fun h => Or.inl ⟨rfl, fun q => ?_⟩) (fun h => Or.inr (Or.inl ⟨rfl, fun q => ?_⟩))
  · rw [qI_at, c_L_reason_1, uj_L_reason_8]
    exact ⟨to, vin0 lo, hQ.ok hi (CH.refl _ _) hx ho h⟩
  · rw [uj_L_reason_13]
    exact hQ.ex hi (CH.refl _ _) hx h (by decide)
  · rw [uj_L_reason_17]
    exact hQ.ex hi (CH.refl _ _) hx h (by decide)
theorem w_cause (hx : XS μ x A) (hi : INV A) (hC : SC μ x) (to : tg μ o = some (.inr 3)) (lo : ln μ o = 1) (ho : x + 1345 ≤ o) {p1 p2 : Int} (a1 : -2147483648 ≤ p1) (b1 : p1 < 2147483648) (a2 : -2147483648 ≤ p2) (b2 : p2 < 2147483648) (hQ : WQ μ x o Q (A, oc2 (0 ≤ p1 ∧ p1 < A.2.1 1) (0 ≤ p2 ∧ p2 < 4) (cau A.1.1 A.1.2.1 A.1.2.2.1 A.1.2.2.2 A.2.1 (2666 + 120 * p1) p2))) : s_L_cause μ [.ref x, .int (ji p1), .int (ji p2), .ref o] Q X := by
  have hL := hx.1
  rw [u_L_cause, uj_L_cause_5]
  refine ⟨XL_0 hL, by omega, by omega, ?_⟩
  rw [q_cause (hx.xw hi) a1 b1 a2 b2]
  refine oc_2 rg_oc2 (fun h => ?_) (fun h => Or.inl ⟨rfl, fun q => ?_⟩) (fun h => Or.inr (Or.inl ⟨rfl, fun q => ?_⟩))
  · rw [qI_at, c_L_cause_1, uj_L_cause_8]
    exact ⟨to, vin0 lo, hQ.ok hi (CH.refl _ _) hx ho h⟩
  · rw [uj_L_cause_13]
    exact hQ.ex hi (CH.refl _ _) hx h (by decide)
  · rw [uj_L_cause_17]
    exact hQ.ex hi (CH.refl _ _) hx h (by decide)
theorem w_packetsIn (hx : XS μ x A) (hi : INV A) (hC : SC μ x) (to : tg μ o = some (.inr 3)) (lo : ln μ o = 1) (ho : x + 1345 ≤ o) {p1 : Int} (a1 : -2147483648 ≤ p1) (b1 : p1 < 2147483648) (hQ : WQ μ x o Q (A, oc1 (0 ≤ p1 ∧ p1 ≤ 5) ((pin A.2.1 3 p1).toInt))) : s_L_packetsIn μ [.ref x, .int (ji p1), .ref o] Q X := by
  have hL := hx.1
  rw [u_L_packetsIn, uj_L_packetsIn_4]
  refine ⟨XL_0 hL, by omega, by omega, ?_⟩
  rw [(q_packetsIn (hx.xw hi) a1 b1).trans (oc_if (e2 := ""))]
  refine oc_1 rg_oc1 (fun h => ?_) (fun h => Or.inl ⟨rfl, fun q => ?_⟩)
  · rw [qI_at, c_L_packetsIn_1, uj_L_packetsIn_7]
    exact ⟨to, vin0 lo, hQ.ok hi (CH.refl _ _) hx ho h⟩
  · rw [uj_L_packetsIn_12]
    exact hQ.ex hi (CH.refl _ _) hx h (by decide)
theorem w_packetsAt (hx : XS μ x A) (hi : INV A) (hC : SC μ x) (to : tg μ o = some (.inr 3)) (lo : ln μ o = 1) (ho : x + 1345 ≤ o) {p1 : Int} (a1 : -2147483648 ≤ p1) (b1 : p1 < 2147483648) (hQ : WQ μ x o Q (A, oc1 (0 ≤ p1 ∧ p1 < A.1.2.2.1) ((foldz (fun k x => if (act A.2.1 k && decide (A.2.1 ((2666 + 120 * k) + 4) = p1)) = true then x ||| jshl (ji 1) (ji k) else x) 0 (A.2.1 1).toNat (ji 0)).toInt))) : s_L_packetsAt μ [.ref x, .int (ji p1), .ref o] Q X := by
  have hL := hx.1
  rw [u_L_packetsAt, uj_L_packetsAt_4]
  refine ⟨XL_0 hL, by omega, by omega, ?_⟩
  rw [(q_packetsAt (hx.xw hi) a1 b1).trans (oc_if (e2 := ""))]
  refine oc_1 rg_oc1 (fun h => ?_) (fun h => Or.inl ⟨rfl, fun q => ?_⟩)
  · rw [qI_at, c_L_packetsAt_1, uj_L_packetsAt_7]
    exact ⟨to, vin0 lo, hQ.ok hi (CH.refl _ _) hx ho h⟩
  · rw [uj_L_packetsAt_12]
    exact hQ.ex hi (CH.refl _ _) hx h (by decide)
theorem w_packetsTo (hx : XS μ x A) (hi : INV A) (hC : SC μ x) (to : tg μ o = some (.inr 3)) (lo : ln μ o = 1) (ho : x + 1345 ≤ o) {p1 : Int} (a1 : -2147483648 ≤ p1) (b1 : p1 < 2147483648) (hQ : WQ μ x o Q (A, oc1 (0 ≤ p1 ∧ p1 < A.1.2.2.1) ((pin A.2.1 1 p1).toInt))) : s_L_packetsTo μ [.ref x, .int (ji p1), .ref o] Q X := by
  have hL := hx.1
  rw [u_L_packetsTo, uj_L_packetsTo_4]
  refine ⟨XL_0 hL, by omega, by omega, ?_⟩
  rw [(q_packetsTo (hx.xw hi) a1 b1).trans (oc_if (e2 := ""))]
  refine oc_1 rg_oc1 (fun h => ?_) (fun h => Or.inl ⟨rfl, fun q => ?_⟩)
  · rw [qI_at, c_L_packetsTo_1, uj_L_packetsTo_7]
    exact ⟨to, vin0 lo, hQ.ok hi (CH.refl _ _) hx ho h⟩
  · rw [uj_L_packetsTo_12]
    exact hQ.ex hi (CH.refl _ _) hx h (by decide)
theorem w_unvisited (hx : XS μ x A) (hi : INV A) (hC : SC μ x) (to : tg μ o = some (.inr 3)) (lo : ln μ o = 1) (ho : x + 1345 ≤ o) {p1 : Int} (a1 : -2147483648 ≤ p1) (b1 : p1 < 2147483648) (hQ : WQ μ x o Q (A, oc1 (0 ≤ p1) (unf A.2.1 A.1.2.2.1 p1))) : s_L_unvisited μ [.ref x, .int (ji p1), .ref o] Q X := by
  have hL := hx.1
  rw [u_L_unvisited, uj_L_unvisited_4]
  refine ⟨XL_0 hL, by omega, by omega, ?_⟩
  rw [q_unvisited (hx.xw hi) a1 b1]
  refine oc_1 rg_oc1 (fun h => ?_) (fun h => Or.inl ⟨rfl, fun q => ?_⟩)
  · rw [qI_at, c_L_unvisited_1, uj_L_unvisited_7]
    exact ⟨to, vin0 lo, hQ.ok hi (CH.refl _ _) hx ho h⟩
  · rw [uj_L_unvisited_12]
    exact hQ.ex hi (CH.refl _ _) hx h (by decide)
theorem w_stateIn (hx : XS μ x A) (hi : INV A) (hC : SC μ x) (to : tg μ o = some (.inr 3)) (lo : ln μ o = 1) (ho : x + 1345 ≤ o) {p1 p2 : Int} (a1 : -2147483648 ≤ p1) (b1 : p1 < 2147483648) (a2 : -2147483648 ≤ p2) (b2 : p2 < 2147483648) (hQ : WQ μ x o Q (xStateIn A p1 p2)) : s_L_stateIn μ [.ref x, .int (ji p1), .int (ji p2), .ref o] Q X := by
  have hL := hx.1
  rw [u_L_stateIn, uj_L_stateIn_5]
  refine ⟨XL_0 hL, by omega, by omega, ?_⟩
  refine q_stateIn hx hi a1 b1 a2 b2 (fun μ1 c1 x1 => ?_)
  have to1 : tg μ1 o = some (.inr 3) := by rw [c1.1.1]; exact to
  have lo1 : ln μ1 o = 1 := by rw [c1.1.2.1]; exact lo
  have hi1 : INV (xStateIn A p1 p2).1 := (inv_op2 hi (fun _ _ => hi))
  refine oc_2 (rg_op2 rfl) (fun h => ?_) (fun h => Or.inl ⟨rfl, fun q => ?_⟩) (fun h => Or.inr (Or.inl ⟨rfl, fun q => ?_⟩))
  · rw [qI_at, c_L_stateIn_1, uj_L_stateIn_8]
    exact ⟨to1, vin0 lo1, hQ.ok hi1 c1 x1 ho h⟩
  · rw [uj_L_stateIn_13]
    exact hQ.ex hi1 c1 x1 h (by decide)
  · rw [uj_L_stateIn_17]
    exact hQ.ex hi1 c1 x1 h (by decide)
theorem w_quietIn (hx : XS μ x A) (hi : INV A) (hC : SC μ x) (to : tg μ o = some (.inr 3)) (lo : ln μ o = 1) (ho : x + 1345 ≤ o) {p1 : Int} (a1 : -2147483648 ≤ p1) (b1 : p1 < 2147483648) (hQ : WQ μ x o Q (xQuiet A p1)) : s_L_quietIn μ [.ref x, .int (ji p1), .ref o] Q X := by
  have hL := hx.1
  rw [u_L_quietIn, uj_L_quietIn_4]
  refine ⟨XL_0 hL, by omega, by omega, ?_⟩
  refine q_quietIn (e2 := "") hx hi a1 b1 (fun μ1 c1 x1 => ?_)
  have to1 : tg μ1 o = some (.inr 3) := by rw [c1.1.1]; exact to
  have lo1 : ln μ1 o = 1 := by rw [c1.1.2.1]; exact lo
  have hi1 : INV (xQuiet A p1).1 := (inv_op1 hi (fun _ => hi))
  refine oc_1 (rg_op1 rfl) (fun h => ?_) (fun h => Or.inl ⟨rfl, fun q => ?_⟩)
  · rw [qI_at, c_L_quietIn_1, uj_L_quietIn_7]
    exact ⟨to1, vin0 lo1, hQ.ok hi1 c1 x1 ho h⟩
  · rw [uj_L_quietIn_12]
    exact hQ.ex hi1 c1 x1 h (by decide)
theorem w_fate (hx : XS μ x A) (hi : INV A) (hC : SC μ x) (to : tg μ o = some (.inr 3)) (lo : ln μ o = 1) (ho : x + 1345 ≤ o) {p1 p2 p3 : Int} (a1 : -2147483648 ≤ p1) (b1 : p1 < 2147483648) (a2 : -2147483648 ≤ p2) (b2 : p2 < 2147483648) (a3 : -2147483648 ≤ p3) (b3 : p3 < 2147483648) (hQ : WQ μ x o Q (xFate A p1 p2 p3)) : s_L_fate μ [.ref x, .int (ji p1), .int (ji p2), .int (ji p3), .ref o] Q X := by
  have hL := hx.1
  rw [u_L_fate, uj_L_fate_7]
  refine ⟨XL_0 hL, by omega, by omega, ?_⟩
  refine q_fate hx hi a1 b1 a2 b2 a3 b3 (fun μ1 c1 x1 => ?_)
  have to1 : tg μ1 o = some (.inr 3) := by rw [c1.1.1]; exact to
  have lo1 : ln μ1 o = 1 := by rw [c1.1.2.1]; exact lo
  have hi1 : INV (xFate A p1 p2 p3).1 := (inv_op2 hi (fun _ _ => hi))
  refine oc_2 (rg_op2 rfl) (fun h => ?_) (fun h => Or.inl ⟨rfl, fun q => ?_⟩) (fun h => Or.inr (Or.inl ⟨rfl, fun q => ?_⟩))
  · rw [qI_at, c_L_fate_1, uj_L_fate_10]
    exact ⟨to1, vin0 lo1, hQ.ok hi1 c1 x1 ho h⟩
  · rw [uj_L_fate_15]
    exact hQ.ex hi1 c1 x1 h (by decide)
  · rw [uj_L_fate_19]
    exact hQ.ex hi1 c1 x1 h (by decide)
theorem w_leastLimit (hx : XS μ x A) (hi : INV A) (hC : SC μ x) (to : tg μ o = some (.inr 3)) (lo : ln μ o = 1) (ho : x + 1345 ≤ o) {p1 p2 : Int} (a1 : -2147483648 ≤ p1) (b1 : p1 < 2147483648) (a2 : -2147483648 ≤ p2) (b2 : p2 < 2147483648) (hQ : WQ μ x o Q (xLeast A p1 p2)) : s_L_leastLimit μ [.ref x, .int (ji p1), .int (ji p2), .ref o] Q X := by
  have hL := hx.1
  rw [u_L_leastLimit, uj_L_leastLimit_5]
  refine ⟨XL_0 hL, by omega, by omega, ?_⟩
  refine q_least (e2 := "") hx hi a1 b1 a2 b2 (fun μ1 c1 x1 => ?_)
  have to1 : tg μ1 o = some (.inr 3) := by rw [c1.1.1]; exact to
  have lo1 : ln μ1 o = 1 := by rw [c1.1.2.1]; exact lo
  have hi1 : INV (xLeast A p1 p2).1 := (inv_op1 hi (fun _ => hi))
  refine oc_1 (rg_op1 rfl) (fun h => ?_) (fun h => Or.inl ⟨rfl, fun q => ?_⟩)
  · rw [qI_at, c_L_leastLimit_1, uj_L_leastLimit_8]
    exact ⟨to1, vin0 lo1, hQ.ok hi1 c1 x1 ho h⟩
  · rw [uj_L_leastLimit_13]
    exact hQ.ex hi1 c1 x1 h (by decide)
theorem w_write (hx : XS μ x A) (hi : INV A) (hC : SC μ x) (to : tg μ o = some (.inr 3)) (lo : ln μ o = 1) (ho : x + 1345 ≤ o) {p1 : Int} (a1 : -2147483648 ≤ p1) (b1 : p1 < 2147483648) (hQ : WQ μ x o Q (xWrite A p1)) : s_L_write μ [.ref x, .int (ji p1), .ref o] Q X := by
  have hL := hx.1
  rw [u_L_write, uj_L_write_4]
  refine ⟨XL_0 hL, by omega, by omega, ?_⟩
  refine q_write (e2 := "") hx hi hC a1 b1 (fun μ1 c1 x1 => ?_)
  have to1 : tg μ1 o = some (.inr 3) := by rw [c1.1.1]; exact to
  have lo1 : ln μ1 o = 1 := by rw [c1.1.2.1]; exact lo
  have hi1 : INV (xWrite A p1).1 := (inv_op1 hi (fun h => hi.write h.1 h.2))
  refine oc_1 (rg_op1 rfl) (fun h => ?_) (fun h => Or.inl ⟨rfl, fun q => ?_⟩)
  · rw [qI_at, c_L_write_1, uj_L_write_7]
    exact ⟨to1, vin0 lo1, hQ.ok hi1 c1 x1 ho h⟩
  · rw [uj_L_write_12]
    exact hQ.ex hi1 c1 x1 h (by decide)
def WD (μ : XM) (x d : Nat) (Q : XQ) (A : AS) : Prop := ∀ ν, CH (fun a => a = d) ν μ → XS ν x A → (¬ (mhf A.2.1).2 = 0 → aD ν d 0 = dvq (mhf A.2.1).1 (mhf A.2.1).2) → Q (some (.int (ji (if (mhf A.2.1).2 = 0 then 1 else 0)))) ν
theorem w_meanHops (hx : XS μ x A) (hi : INV A) (td : tg μ d = some (.inr 4)) (ld : ln μ d = 1) (hd : x + 1345 ≤ d) (hQ : WD μ x d Q A) : s_L_meanHops μ [.ref x, .ref d] Q X := by
  have hL := hx.1
  rw [u_L_meanHops, uj_L_meanHops_3]
  refine ⟨XL_0 hL, by omega, by omega, ?_⟩
  rw [q_meanHops (hx.xw hi)]
  unfold mhR
  by_cases h : (mhf A.2.1).2 = 0
  · rw [if_pos h]
    refine Or.inl ⟨rfl, fun q => ?_⟩
    rw [uj_L_meanHops_10]
    have c0 : CH (fun _ => False) (uF μ) μ := CH.uF (CH.refl _ _)
    have := hQ (uF μ) (CH.uF (CH.refl _ _)) (hx.frame hi c0 (fun a a0 a1 a2 => a2.elim)) (fun k => absurd h k)
    rw [if_pos h] at this
    exact this
  · rw [if_neg h, qD_at, c_L_meanHops_1, uj_L_meanHops_6]
    refine ⟨td, vin0 ld, ?_⟩
    have c0 : CH (fun a => a = d) (wD μ d (Int32.toNatClampNeg (ji 0)) (dvq (mhf A.2.1).1 (mhf A.2.1).2)) μ := CH_wD (CH.refl _ _) rfl
    have := hQ _ c0 (hx.frame hi c0 (fun a a0 a1 a2 => by omega)) (fun _ => aD_wD_at _ _ _ _)
    rw [if_neg h] at this
    exact this
end
