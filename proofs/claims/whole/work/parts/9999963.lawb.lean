set_option maxRecDepth 100000 in
theorem u_L_link {μ : XM} {a0 : Nat} {x1 : Int32} {x2 : Int32} {a3 : Nat} {Q : XQ} {X : XX} : s_L_link μ [.ref a0, .int x1, .int x2, .ref a3] Q X = (j_L_link_5 Q X [none, none, none, none, none] [.int x2, .int x1, .ref a0, .int (ji 0), .ref a3] μ 0 0) := by
  rw [s_L_link, xseal_eq]
  rfl
noncomputable def c_L_link_1 (Q : XQ) (X : XX) (xs3 : Int32) (as4 : Nat) (nc : Nat) (ns : Nat) (r2 : Int32) (μ1 : XM) : Prop := j_L_link_8 Q X [none, none, none, none, none] [.int r2, .int xs3, .ref as4] μ1 (nc + 2) (ns + 12)
set_option maxRecDepth 100000 in
theorem uj_L_link_5 {μ : XM} {xs0 : Int32} {xs1 : Int32} {as2 : Nat} {xs3 : Int32} {as4 : Nat} {nc ns : Nat} {Q : XQ} {X : XX} : j_L_link_5 Q X [none, none, none, none, none] [.int xs0, .int xs1, .ref as2, .int xs3, .ref as4] μ nc ns = ((tg μ as2 = some (.inl 8) ∧ nc + 2 ≤ 2 ∧ ns + 12 ≤ 12 ∧ s_X8_link μ [.ref as2, .int xs1, .int xs0] (qI (c_L_link_1 Q X xs3 as4 nc ns)) (fun E μ9 => (E = "java/lang/IndexOutOfBoundsException" ∧ ∀ q : Nat, j_L_link_13 Q X [none, none, none, none, none] [.ref q] μ9 (nc + 2) (ns + 12)) ∨ (E = "java/lang/IllegalArgumentException" ∧ ∀ q : Nat, j_L_link_17 Q X [none, none, none, none, none] [.ref q] μ9 (nc + 2) (ns + 12)) ∨ False))) := by
  rw [j_L_link_5, xseal_eq]
  rfl
set_option maxRecDepth 100000 in
theorem uj_L_link_8 {μ : XM} {xs0 : Int32} {xs1 : Int32} {as2 : Nat} {nc ns : Nat} {Q : XQ} {X : XX} : j_L_link_8 Q X [none, none, none, none, none] [.int xs0, .int xs1, .ref as2] μ nc ns = ((tg μ as2 = some (.inr 3) ∧ vp_in xs1 (ln μ as2) ∧ Q (some (.int (ji 0))) (wL μ as2 (Int32.toNatClampNeg xs1) (Int32.toInt64 xs0)))) := by
  rw [j_L_link_8, xseal_eq]
  rfl
set_option maxRecDepth 100000 in
theorem uj_L_link_13 {μ : XM} {as0 : Nat} {nc ns : Nat} {Q : XQ} {X : XX} : j_L_link_13 Q X [none, none, none, none, none] [.ref as0] μ nc ns = (Q (some (.int (ji 1))) μ) := by
  rw [j_L_link_13, xseal_eq]
  rfl
set_option maxRecDepth 100000 in
theorem uj_L_link_17 {μ : XM} {as0 : Nat} {nc ns : Nat} {Q : XQ} {X : XX} : j_L_link_17 Q X [none, none, none, none, none] [.ref as0] μ nc ns = (Q (some (.int (ji 2))) μ) := by
  rw [j_L_link_17, xseal_eq]
  rfl
set_option maxRecDepth 100000 in
theorem u_L_isDead {μ : XM} {a0 : Nat} {x1 : Int32} {a2 : Nat} {Q : XQ} {X : XX} : s_L_isDead μ [.ref a0, .int x1, .ref a2] Q X = (j_L_isDead_4 Q X [none, none, none, none] [.int x1, .ref a0, .int (ji 0), .ref a2] μ 0 0) := by
  rw [s_L_isDead, xseal_eq]
  rfl
noncomputable def c_L_isDead_1 (Q : XQ) (X : XX) (xs2 : Int32) (as3 : Nat) (nc : Nat) (ns : Nat) (r2 : Int32) (μ1 : XM) : Prop := j_L_isDead_7 Q X [none, none, none, none] [.int r2, .int xs2, .ref as3] μ1 (nc + 1) (ns + 6)
set_option maxRecDepth 100000 in
theorem uj_L_isDead_4 {μ : XM} {xs0 : Int32} {as1 : Nat} {xs2 : Int32} {as3 : Nat} {nc ns : Nat} {Q : XQ} {X : XX} : j_L_isDead_4 Q X [none, none, none, none] [.int xs0, .ref as1, .int xs2, .ref as3] μ nc ns = ((tg μ as1 = some (.inl 8) ∧ nc + 1 ≤ 1 ∧ ns + 6 ≤ 6 ∧ s_X8_isDead μ [.ref as1, .int xs0] (qI (c_L_isDead_1 Q X xs2 as3 nc ns)) (fun E μ9 => (E = "java/lang/IndexOutOfBoundsException" ∧ ∀ q : Nat, j_L_isDead_19 Q X [none, none, none, none] [.ref q] μ9 (nc + 1) (ns + 6)) ∨ False))) := by
  rw [j_L_isDead_4, xseal_eq]
  rfl
set_option maxRecDepth 100000 in
theorem uj_L_isDead_7 {μ : XM} {xs0 : Int32} {xs1 : Int32} {as2 : Nat} {nc ns : Nat} {Q : XQ} {X : XX} : j_L_isDead_7 Q X [none, none, none, none] [.int xs0, .int xs1, .ref as2] μ nc ns = ((if xs0 = 0 then (tg μ as2 = some (.inr 3) ∧ vp_in xs1 (ln μ as2) ∧ Q (some (.int (ji 0))) (wL μ as2 (Int32.toNatClampNeg xs1) (jl 0))) else (tg μ as2 = some (.inr 3) ∧ vp_in xs1 (ln μ as2) ∧ Q (some (.int (ji 0))) (wL μ as2 (Int32.toNatClampNeg xs1) (jl 1))))) := by
  rw [j_L_isDead_7, xseal_eq]
  rfl
set_option maxRecDepth 100000 in
theorem uj_L_isDead_19 {μ : XM} {as0 : Nat} {nc ns : Nat} {Q : XQ} {X : XX} : j_L_isDead_19 Q X [none, none, none, none] [.ref as0] μ nc ns = (Q (some (.int (ji 1))) μ) := by
  rw [j_L_isDead_19, xseal_eq]
  rfl
set_option maxRecDepth 100000 in
theorem u_L_end {μ : XM} {a0 : Nat} {x1 : Int32} {x2 : Int32} {a3 : Nat} {Q : XQ} {X : XX} : s_L_end μ [.ref a0, .int x1, .int x2, .ref a3] Q X = (j_L_end_5 Q X [none, none, none, none, none] [.int x2, .int x1, .ref a0, .int (ji 0), .ref a3] μ 0 0) := by
  rw [s_L_end, xseal_eq]
  rfl
noncomputable def c_L_end_1 (Q : XQ) (X : XX) (xs3 : Int32) (as4 : Nat) (nc : Nat) (ns : Nat) (r2 : Int32) (μ1 : XM) : Prop := j_L_end_8 Q X [none, none, none, none, none] [.int r2, .int xs3, .ref as4] μ1 (nc + 1) (ns + 6)
set_option maxRecDepth 100000 in
theorem uj_L_end_5 {μ : XM} {xs0 : Int32} {xs1 : Int32} {as2 : Nat} {xs3 : Int32} {as4 : Nat} {nc ns : Nat} {Q : XQ} {X : XX} : j_L_end_5 Q X [none, none, none, none, none] [.int xs0, .int xs1, .ref as2, .int xs3, .ref as4] μ nc ns = ((tg μ as2 = some (.inl 8) ∧ nc + 1 ≤ 1 ∧ ns + 6 ≤ 6 ∧ s_X8_end μ [.ref as2, .int xs1, .int xs0] (qI (c_L_end_1 Q X xs3 as4 nc ns)) (fun E μ9 => (E = "java/lang/IndexOutOfBoundsException" ∧ ∀ q : Nat, j_L_end_13 Q X [none, none, none, none, none] [.ref q] μ9 (nc + 1) (ns + 6)) ∨ False))) := by
  rw [j_L_end_5, xseal_eq]
  rfl
set_option maxRecDepth 100000 in
theorem uj_L_end_8 {μ : XM} {xs0 : Int32} {xs1 : Int32} {as2 : Nat} {nc ns : Nat} {Q : XQ} {X : XX} : j_L_end_8 Q X [none, none, none, none, none] [.int xs0, .int xs1, .ref as2] μ nc ns = ((tg μ as2 = some (.inr 3) ∧ vp_in xs1 (ln μ as2) ∧ Q (some (.int (ji 0))) (wL μ as2 (Int32.toNatClampNeg xs1) (Int32.toInt64 xs0)))) := by
  rw [j_L_end_8, xseal_eq]
  rfl
set_option maxRecDepth 100000 in
theorem uj_L_end_13 {μ : XM} {as0 : Nat} {nc ns : Nat} {Q : XQ} {X : XX} : j_L_end_13 Q X [none, none, none, none, none] [.ref as0] μ nc ns = (Q (some (.int (ji 1))) μ) := by
  rw [j_L_end_13, xseal_eq]
  rfl
set_option maxRecDepth 100000 in
theorem u_L_lesson {μ : XM} {a0 : Nat} {x1 : Int32} {x2 : Int32} {a3 : Nat} {Q : XQ} {X : XX} : s_L_lesson μ [.ref a0, .int x1, .int x2, .ref a3] Q X = (j_L_lesson_5 Q X [none, none, none, none, none] [.int x2, .int x1, .ref a0, .int (ji 0), .ref a3] μ 0 0) := by
  rw [s_L_lesson, xseal_eq]
  rfl
noncomputable def c_L_lesson_1 (Q : XQ) (X : XX) (xs3 : Int32) (as4 : Nat) (nc : Nat) (ns : Nat) (r2 : Int32) (μ1 : XM) : Prop := j_L_lesson_8 Q X [none, none, none, none, none] [.int r2, .int xs3, .ref as4] μ1 (nc + 2) (ns + 12)
set_option maxRecDepth 100000 in
theorem uj_L_lesson_5 {μ : XM} {xs0 : Int32} {xs1 : Int32} {as2 : Nat} {xs3 : Int32} {as4 : Nat} {nc ns : Nat} {Q : XQ} {X : XX} : j_L_lesson_5 Q X [none, none, none, none, none] [.int xs0, .int xs1, .ref as2, .int xs3, .ref as4] μ nc ns = ((tg μ as2 = some (.inl 8) ∧ nc + 2 ≤ 2 ∧ ns + 12 ≤ 12 ∧ s_X8_lesson μ [.ref as2, .int xs1, .int xs0] (qI (c_L_lesson_1 Q X xs3 as4 nc ns)) (fun E μ9 => (E = "java/lang/IndexOutOfBoundsException" ∧ ∀ q : Nat, j_L_lesson_13 Q X [none, none, none, none, none] [.ref q] μ9 (nc + 2) (ns + 12)) ∨ False))) := by
  rw [j_L_lesson_5, xseal_eq]
  rfl
set_option maxRecDepth 100000 in
theorem uj_L_lesson_8 {μ : XM} {xs0 : Int32} {xs1 : Int32} {as2 : Nat} {nc ns : Nat} {Q : XQ} {X : XX} : j_L_lesson_8 Q X [none, none, none, none, none] [.int xs0, .int xs1, .ref as2] μ nc ns = ((tg μ as2 = some (.inr 3) ∧ vp_in xs1 (ln μ as2) ∧ Q (some (.int (ji 0))) (wL μ as2 (Int32.toNatClampNeg xs1) (Int32.toInt64 xs0)))) := by
  rw [j_L_lesson_8, xseal_eq]
  rfl
set_option maxRecDepth 100000 in
theorem uj_L_lesson_13 {μ : XM} {as0 : Nat} {nc ns : Nat} {Q : XQ} {X : XX} : j_L_lesson_13 Q X [none, none, none, none, none] [.ref as0] μ nc ns = (Q (some (.int (ji 1))) μ) := by
  rw [j_L_lesson_13, xseal_eq]
  rfl
set_option maxRecDepth 100000 in
theorem u_L_lessons {μ : XM} {a0 : Nat} {x1 : Int32} {a2 : Nat} {Q : XQ} {X : XX} : s_L_lessons μ [.ref a0, .int x1, .ref a2] Q X = (j_L_lessons_4 Q X [none, none, none, none] [.int x1, .ref a0, .int (ji 0), .ref a2] μ 0 0) := by
  rw [s_L_lessons, xseal_eq]
  rfl
noncomputable def c_L_lessons_1 (Q : XQ) (X : XX) (xs2 : Int32) (as3 : Nat) (nc : Nat) (ns : Nat) (r2 : Int32) (μ1 : XM) : Prop := j_L_lessons_7 Q X [none, none, none, none] [.int r2, .int xs2, .ref as3] μ1 (nc + 1) (ns + 6)
set_option maxRecDepth 100000 in
theorem uj_L_lessons_4 {μ : XM} {xs0 : Int32} {as1 : Nat} {xs2 : Int32} {as3 : Nat} {nc ns : Nat} {Q : XQ} {X : XX} : j_L_lessons_4 Q X [none, none, none, none] [.int xs0, .ref as1, .int xs2, .ref as3] μ nc ns = ((tg μ as1 = some (.inl 8) ∧ nc + 1 ≤ 1 ∧ ns + 6 ≤ 6 ∧ s_X8_lessons μ [.ref as1, .int xs0] (qI (c_L_lessons_1 Q X xs2 as3 nc ns)) (fun E μ9 => (E = "java/lang/IndexOutOfBoundsException" ∧ ∀ q : Nat, j_L_lessons_12 Q X [none, none, none, none] [.ref q] μ9 (nc + 1) (ns + 6)) ∨ False))) := by
  rw [j_L_lessons_4, xseal_eq]
  rfl
set_option maxRecDepth 100000 in
theorem uj_L_lessons_7 {μ : XM} {xs0 : Int32} {xs1 : Int32} {as2 : Nat} {nc ns : Nat} {Q : XQ} {X : XX} : j_L_lessons_7 Q X [none, none, none, none] [.int xs0, .int xs1, .ref as2] μ nc ns = ((tg μ as2 = some (.inr 3) ∧ vp_in xs1 (ln μ as2) ∧ Q (some (.int (ji 0))) (wL μ as2 (Int32.toNatClampNeg xs1) (Int32.toInt64 xs0)))) := by
  rw [j_L_lessons_7, xseal_eq]
  rfl
set_option maxRecDepth 100000 in
theorem uj_L_lessons_12 {μ : XM} {as0 : Nat} {nc ns : Nat} {Q : XQ} {X : XX} : j_L_lessons_12 Q X [none, none, none, none] [.ref as0] μ nc ns = (Q (some (.int (ji 1))) μ) := by
  rw [j_L_lessons_12, xseal_eq]
  rfl
set_option maxRecDepth 100000 in
theorem u_L_knowers {μ : XM} {a0 : Nat} {x1 : Int32} {a2 : Nat} {Q : XQ} {X : XX} : s_L_knowers μ [.ref a0, .int x1, .ref a2] Q X = (j_L_knowers_4 Q X [none, none, none, none] [.int x1, .ref a0, .int (ji 0), .ref a2] μ 0 0) := by
  rw [s_L_knowers, xseal_eq]
  rfl
noncomputable def c_L_knowers_1 (Q : XQ) (X : XX) (xs2 : Int32) (as3 : Nat) (nc : Nat) (ns : Nat) (r2 : Int32) (μ1 : XM) : Prop := j_L_knowers_7 Q X [none, none, none, none] [.int r2, .int xs2, .ref as3] μ1 (nc + 1) (ns + 6)
set_option maxRecDepth 100000 in
theorem uj_L_knowers_4 {μ : XM} {xs0 : Int32} {as1 : Nat} {xs2 : Int32} {as3 : Nat} {nc ns : Nat} {Q : XQ} {X : XX} : j_L_knowers_4 Q X [none, none, none, none] [.int xs0, .ref as1, .int xs2, .ref as3] μ nc ns = ((tg μ as1 = some (.inl 8) ∧ nc + 1 ≤ 1 ∧ ns + 6 ≤ 6 ∧ s_X8_knowers μ [.ref as1, .int xs0] (qI (c_L_knowers_1 Q X xs2 as3 nc ns)) (fun E μ9 => (E = "java/lang/IndexOutOfBoundsException" ∧ ∀ q : Nat, j_L_knowers_12 Q X [none, none, none, none] [.ref q] μ9 (nc + 1) (ns + 6)) ∨ False))) := by
  rw [j_L_knowers_4, xseal_eq]
  rfl
set_option maxRecDepth 100000 in
theorem uj_L_knowers_7 {μ : XM} {xs0 : Int32} {xs1 : Int32} {as2 : Nat} {nc ns : Nat} {Q : XQ} {X : XX} : j_L_knowers_7 Q X [none, none, none, none] [.int xs0, .int xs1, .ref as2] μ nc ns = ((tg μ as2 = some (.inr 3) ∧ vp_in xs1 (ln μ as2) ∧ Q (some (.int (ji 0))) (wL μ as2 (Int32.toNatClampNeg xs1) (Int32.toInt64 xs0)))) := by
  rw [j_L_knowers_7, xseal_eq]
  rfl
set_option maxRecDepth 100000 in
theorem uj_L_knowers_12 {μ : XM} {as0 : Nat} {nc ns : Nat} {Q : XQ} {X : XX} : j_L_knowers_12 Q X [none, none, none, none] [.ref as0] μ nc ns = (Q (some (.int (ji 1))) μ) := by
  rw [j_L_knowers_12, xseal_eq]
  rfl
set_option maxRecDepth 100000 in
theorem u_L_wrongLessons {μ : XM} {a0 : Nat} {x1 : Int32} {a2 : Nat} {Q : XQ} {X : XX} : s_L_wrongLessons μ [.ref a0, .int x1, .ref a2] Q X = (j_L_wrongLessons_4 Q X [none, none, none, none] [.int x1, .ref a0, .int (ji 0), .ref a2] μ 0 0) := by
  rw [s_L_wrongLessons, xseal_eq]
  rfl
noncomputable def c_L_wrongLessons_1 (Q : XQ) (X : XX) (xs2 : Int32) (as3 : Nat) (nc : Nat) (ns : Nat) (r2 : Int32) (μ1 : XM) : Prop := j_L_wrongLessons_7 Q X [none, none, none, none] [.int r2, .int xs2, .ref as3] μ1 (nc + 1) (ns + 6)
set_option maxRecDepth 100000 in
theorem uj_L_wrongLessons_4 {μ : XM} {xs0 : Int32} {as1 : Nat} {xs2 : Int32} {as3 : Nat} {nc ns : Nat} {Q : XQ} {X : XX} : j_L_wrongLessons_4 Q X [none, none, none, none] [.int xs0, .ref as1, .int xs2, .ref as3] μ nc ns = ((tg μ as1 = some (.inl 8) ∧ nc + 1 ≤ 1 ∧ ns + 6 ≤ 6 ∧ s_X8_wrongLessons μ [.ref as1, .int xs0] (qI (c_L_wrongLessons_1 Q X xs2 as3 nc ns)) (fun E μ9 => (E = "java/lang/IndexOutOfBoundsException" ∧ ∀ q : Nat, j_L_wrongLessons_12 Q X [none, none, none, none] [.ref q] μ9 (nc + 1) (ns + 6)) ∨ False))) := by
  rw [j_L_wrongLessons_4, xseal_eq]
  rfl
set_option maxRecDepth 100000 in
theorem uj_L_wrongLessons_7 {μ : XM} {xs0 : Int32} {xs1 : Int32} {as2 : Nat} {nc ns : Nat} {Q : XQ} {X : XX} : j_L_wrongLessons_7 Q X [none, none, none, none] [.int xs0, .int xs1, .ref as2] μ nc ns = ((tg μ as2 = some (.inr 3) ∧ vp_in xs1 (ln μ as2) ∧ Q (some (.int (ji 0))) (wL μ as2 (Int32.toNatClampNeg xs1) (Int32.toInt64 xs0)))) := by
  rw [j_L_wrongLessons_7, xseal_eq]
  rfl
set_option maxRecDepth 100000 in
theorem uj_L_wrongLessons_12 {μ : XM} {as0 : Nat} {nc ns : Nat} {Q : XQ} {X : XX} : j_L_wrongLessons_12 Q X [none, none, none, none] [.ref as0] μ nc ns = (Q (some (.int (ji 1))) μ) := by
  rw [j_L_wrongLessons_12, xseal_eq]
  rfl
set_option maxRecDepth 100000 in
theorem u_L_distance {μ : XM} {a0 : Nat} {x1 : Int32} {x2 : Int32} {a3 : Nat} {Q : XQ} {X : XX} : s_L_distance μ [.ref a0, .int x1, .int x2, .ref a3] Q X = (j_L_distance_5 Q X [none, none, none, none, none] [.int x2, .int x1, .ref a0, .int (ji 0), .ref a3] μ 0 0) := by
  rw [s_L_distance, xseal_eq]
  rfl
noncomputable def c_L_distance_1 (Q : XQ) (X : XX) (xs3 : Int32) (as4 : Nat) (nc : Nat) (ns : Nat) (r2 : Int32) (μ1 : XM) : Prop := j_L_distance_8 Q X [none, none, none, none, none] [.int r2, .int xs3, .ref as4] μ1 (nc + 2) (ns + 12)
set_option maxRecDepth 100000 in
theorem uj_L_distance_5 {μ : XM} {xs0 : Int32} {xs1 : Int32} {as2 : Nat} {xs3 : Int32} {as4 : Nat} {nc ns : Nat} {Q : XQ} {X : XX} : j_L_distance_5 Q X [none, none, none, none, none] [.int xs0, .int xs1, .ref as2, .int xs3, .ref as4] μ nc ns = ((tg μ as2 = some (.inl 8) ∧ nc + 2 ≤ 2 ∧ ns + 12 ≤ 12 ∧ s_X8_distance μ [.ref as2, .int xs1, .int xs0] (qI (c_L_distance_1 Q X xs3 as4 nc ns)) (fun E μ9 => (E = "java/lang/IndexOutOfBoundsException" ∧ ∀ q : Nat, j_L_distance_13 Q X [none, none, none, none, none] [.ref q] μ9 (nc + 2) (ns + 12)) ∨ False))) := by
  rw [j_L_distance_5, xseal_eq]
  rfl
set_option maxRecDepth 100000 in
theorem uj_L_distance_8 {μ : XM} {xs0 : Int32} {xs1 : Int32} {as2 : Nat} {nc ns : Nat} {Q : XQ} {X : XX} : j_L_distance_8 Q X [none, none, none, none, none] [.int xs0, .int xs1, .ref as2] μ nc ns = ((tg μ as2 = some (.inr 3) ∧ vp_in xs1 (ln μ as2) ∧ Q (some (.int (ji 0))) (wL μ as2 (Int32.toNatClampNeg xs1) (Int32.toInt64 xs0)))) := by
  rw [j_L_distance_8, xseal_eq]
  rfl
set_option maxRecDepth 100000 in
theorem uj_L_distance_13 {μ : XM} {as0 : Nat} {nc ns : Nat} {Q : XQ} {X : XX} : j_L_distance_13 Q X [none, none, none, none, none] [.ref as0] μ nc ns = (Q (some (.int (ji 1))) μ) := by
  rw [j_L_distance_13, xseal_eq]
  rfl
set_option maxRecDepth 100000 in
theorem u_L_shortest {μ : XM} {a0 : Nat} {x1 : Int32} {x2 : Int32} {a3 : Nat} {Q : XQ} {X : XX} : s_L_shortest μ [.ref a0, .int x1, .int x2, .ref a3] Q X = (j_L_shortest_5 Q X [none, none, none, none, none] [.int x2, .int x1, .ref a0, .int (ji 0), .ref a3] μ 0 0) := by
  rw [s_L_shortest, xseal_eq]
  rfl
noncomputable def c_L_shortest_1 (Q : XQ) (X : XX) (xs3 : Int32) (as4 : Nat) (nc : Nat) (ns : Nat) (r2 : Int32) (μ1 : XM) : Prop := j_L_shortest_8 Q X [none, none, none, none, none] [.int r2, .int xs3, .ref as4] μ1 (nc + 2) (ns + 12)
set_option maxRecDepth 100000 in
theorem uj_L_shortest_5 {μ : XM} {xs0 : Int32} {xs1 : Int32} {as2 : Nat} {xs3 : Int32} {as4 : Nat} {nc ns : Nat} {Q : XQ} {X : XX} : j_L_shortest_5 Q X [none, none, none, none, none] [.int xs0, .int xs1, .ref as2, .int xs3, .ref as4] μ nc ns = ((tg μ as2 = some (.inl 8) ∧ nc + 2 ≤ 2 ∧ ns + 12 ≤ 12 ∧ s_X8_shortest μ [.ref as2, .int xs1, .int xs0] (qI (c_L_shortest_1 Q X xs3 as4 nc ns)) (fun E μ9 => (E = "java/lang/IndexOutOfBoundsException" ∧ ∀ q : Nat, j_L_shortest_13 Q X [none, none, none, none, none] [.ref q] μ9 (nc + 2) (ns + 12)) ∨ False))) := by
  rw [j_L_shortest_5, xseal_eq]
  rfl
set_option maxRecDepth 100000 in
theorem uj_L_shortest_8 {μ : XM} {xs0 : Int32} {xs1 : Int32} {as2 : Nat} {nc ns : Nat} {Q : XQ} {X : XX} : j_L_shortest_8 Q X [none, none, none, none, none] [.int xs0, .int xs1, .ref as2] μ nc ns = ((tg μ as2 = some (.inr 3) ∧ vp_in xs1 (ln μ as2) ∧ Q (some (.int (ji 0))) (wL μ as2 (Int32.toNatClampNeg xs1) (Int32.toInt64 xs0)))) := by
  rw [j_L_shortest_8, xseal_eq]
  rfl
set_option maxRecDepth 100000 in
theorem uj_L_shortest_13 {μ : XM} {as0 : Nat} {nc ns : Nat} {Q : XQ} {X : XX} : j_L_shortest_13 Q X [none, none, none, none, none] [.ref as0] μ nc ns = (Q (some (.int (ji 1))) μ) := by
  rw [j_L_shortest_13, xseal_eq]
  rfl
set_option maxRecDepth 100000 in
theorem u_L_believed {μ : XM} {a0 : Nat} {x1 : Int32} {x2 : Int32} {a3 : Nat} {Q : XQ} {X : XX} : s_L_believed μ [.ref a0, .int x1, .int x2, .ref a3] Q X = (j_L_believed_5 Q X [none, none, none, none, none] [.int x2, .int x1, .ref a0, .int (ji 0), .ref a3] μ 0 0) := by
  rw [s_L_believed, xseal_eq]
  rfl
noncomputable def c_L_believed_1 (Q : XQ) (X : XX) (xs3 : Int32) (as4 : Nat) (nc : Nat) (ns : Nat) (r2 : Int32) (μ1 : XM) : Prop := j_L_believed_8 Q X [none, none, none, none, none] [.int r2, .int xs3, .ref as4] μ1 (nc + 2) (ns + 12)
set_option maxRecDepth 100000 in
theorem uj_L_believed_5 {μ : XM} {xs0 : Int32} {xs1 : Int32} {as2 : Nat} {xs3 : Int32} {as4 : Nat} {nc ns : Nat} {Q : XQ} {X : XX} : j_L_believed_5 Q X [none, none, none, none, none] [.int xs0, .int xs1, .ref as2, .int xs3, .ref as4] μ nc ns = ((tg μ as2 = some (.inl 8) ∧ nc + 2 ≤ 2 ∧ ns + 12 ≤ 12 ∧ s_X8_believed μ [.ref as2, .int xs1, .int xs0] (qI (c_L_believed_1 Q X xs3 as4 nc ns)) (fun E μ9 => (E = "java/lang/IndexOutOfBoundsException" ∧ ∀ q : Nat, j_L_believed_13 Q X [none, none, none, none, none] [.ref q] μ9 (nc + 2) (ns + 12)) ∨ False))) := by
  rw [j_L_believed_5, xseal_eq]
  rfl
set_option maxRecDepth 100000 in
theorem uj_L_believed_8 {μ : XM} {xs0 : Int32} {xs1 : Int32} {as2 : Nat} {nc ns : Nat} {Q : XQ} {X : XX} : j_L_believed_8 Q X [none, none, none, none, none] [.int xs0, .int xs1, .ref as2] μ nc ns = ((tg μ as2 = some (.inr 3) ∧ vp_in xs1 (ln μ as2) ∧ Q (some (.int (ji 0))) (wL μ as2 (Int32.toNatClampNeg xs1) (Int32.toInt64 xs0)))) := by
  rw [j_L_believed_8, xseal_eq]
  rfl
set_option maxRecDepth 100000 in
theorem uj_L_believed_13 {μ : XM} {as0 : Nat} {nc ns : Nat} {Q : XQ} {X : XX} : j_L_believed_13 Q X [none, none, none, none, none] [.ref as0] μ nc ns = (Q (some (.int (ji 1))) μ) := by
  rw [j_L_believed_13, xseal_eq]
  rfl
set_option maxRecDepth 100000 in
theorem u_L_ways {μ : XM} {a0 : Nat} {x1 : Int32} {x2 : Int32} {x3 : Int32} {a4 : Nat} {Q : XQ} {X : XX} : s_L_ways μ [.ref a0, .int x1, .int x2, .int x3, .ref a4] Q X = (j_L_ways_7 Q X [none, none, none, none, none, none] [.int x3, .int x2, .int x1, .ref a0, .int (ji 0), .ref a4] μ 0 0) := by
  rw [s_L_ways, xseal_eq]
  rfl
noncomputable def c_L_ways_1 (Q : XQ) (X : XX) (xs4 : Int32) (as5 : Nat) (nc : Nat) (ns : Nat) (r2 : Int32) (μ1 : XM) : Prop := j_L_ways_10 Q X [none, none, none, none, none, none] [.int r2, .int xs4, .ref as5] μ1 (nc + 3) (ns + 18)
set_option maxRecDepth 100000 in
theorem uj_L_ways_7 {μ : XM} {xs0 : Int32} {xs1 : Int32} {xs2 : Int32} {as3 : Nat} {xs4 : Int32} {as5 : Nat} {nc ns : Nat} {Q : XQ} {X : XX} : j_L_ways_7 Q X [none, none, none, none, none, none] [.int xs0, .int xs1, .int xs2, .ref as3, .int xs4, .ref as5] μ nc ns = ((tg μ as3 = some (.inl 8) ∧ nc + 3 ≤ 3 ∧ ns + 18 ≤ 18 ∧ s_X8_ways μ [.ref as3, .int xs2, .int xs1, .int xs0] (qI (c_L_ways_1 Q X xs4 as5 nc ns)) (fun E μ9 => (E = "java/lang/IndexOutOfBoundsException" ∧ ∀ q : Nat, j_L_ways_15 Q X [none, none, none, none, none, none] [.ref q] μ9 (nc + 3) (ns + 18)) ∨ (E = "java/lang/IllegalArgumentException" ∧ ∀ q : Nat, j_L_ways_19 Q X [none, none, none, none, none, none] [.ref q] μ9 (nc + 3) (ns + 18)) ∨ False))) := by
  rw [j_L_ways_7, xseal_eq]
  rfl
set_option maxRecDepth 100000 in
theorem uj_L_ways_10 {μ : XM} {xs0 : Int32} {xs1 : Int32} {as2 : Nat} {nc ns : Nat} {Q : XQ} {X : XX} : j_L_ways_10 Q X [none, none, none, none, none, none] [.int xs0, .int xs1, .ref as2] μ nc ns = ((tg μ as2 = some (.inr 3) ∧ vp_in xs1 (ln μ as2) ∧ Q (some (.int (ji 0))) (wL μ as2 (Int32.toNatClampNeg xs1) (Int32.toInt64 xs0)))) := by
  rw [j_L_ways_10, xseal_eq]
  rfl
set_option maxRecDepth 100000 in
theorem uj_L_ways_15 {μ : XM} {as0 : Nat} {nc ns : Nat} {Q : XQ} {X : XX} : j_L_ways_15 Q X [none, none, none, none, none, none] [.ref as0] μ nc ns = (Q (some (.int (ji 1))) μ) := by
  rw [j_L_ways_15, xseal_eq]
  rfl
set_option maxRecDepth 100000 in
theorem uj_L_ways_19 {μ : XM} {as0 : Nat} {nc ns : Nat} {Q : XQ} {X : XX} : j_L_ways_19 Q X [none, none, none, none, none, none] [.ref as0] μ nc ns = (Q (some (.int (ji 2))) μ) := by
  rw [j_L_ways_19, xseal_eq]
  rfl
set_option maxRecDepth 100000 in
theorem u_L_bridge {μ : XM} {a0 : Nat} {x1 : Int32} {a2 : Nat} {Q : XQ} {X : XX} : s_L_bridge μ [.ref a0, .int x1, .ref a2] Q X = (j_L_bridge_4 Q X [none, none, none, none] [.int x1, .ref a0, .int (ji 0), .ref a2] μ 0 0) := by
  rw [s_L_bridge, xseal_eq]
  rfl
noncomputable def c_L_bridge_1 (Q : XQ) (X : XX) (xs2 : Int32) (as3 : Nat) (nc : Nat) (ns : Nat) (r2 : Int32) (μ1 : XM) : Prop := j_L_bridge_7 Q X [none, none, none, none] [.int r2, .int xs2, .ref as3] μ1 (nc + 1) (ns + 6)
set_option maxRecDepth 100000 in
theorem uj_L_bridge_4 {μ : XM} {xs0 : Int32} {as1 : Nat} {xs2 : Int32} {as3 : Nat} {nc ns : Nat} {Q : XQ} {X : XX} : j_L_bridge_4 Q X [none, none, none, none] [.int xs0, .ref as1, .int xs2, .ref as3] μ nc ns = ((tg μ as1 = some (.inl 8) ∧ nc + 1 ≤ 1 ∧ ns + 6 ≤ 6 ∧ s_X8_bridge μ [.ref as1, .int xs0] (qI (c_L_bridge_1 Q X xs2 as3 nc ns)) (fun E μ9 => (E = "java/lang/IndexOutOfBoundsException" ∧ ∀ q : Nat, j_L_bridge_12 Q X [none, none, none, none] [.ref q] μ9 (nc + 1) (ns + 6)) ∨ False))) := by
  rw [j_L_bridge_4, xseal_eq]
  rfl
set_option maxRecDepth 100000 in
theorem uj_L_bridge_7 {μ : XM} {xs0 : Int32} {xs1 : Int32} {as2 : Nat} {nc ns : Nat} {Q : XQ} {X : XX} : j_L_bridge_7 Q X [none, none, none, none] [.int xs0, .int xs1, .ref as2] μ nc ns = ((tg μ as2 = some (.inr 3) ∧ vp_in xs1 (ln μ as2) ∧ Q (some (.int (ji 0))) (wL μ as2 (Int32.toNatClampNeg xs1) (Int32.toInt64 xs0)))) := by
  rw [j_L_bridge_7, xseal_eq]
  rfl
set_option maxRecDepth 100000 in
theorem uj_L_bridge_12 {μ : XM} {as0 : Nat} {nc ns : Nat} {Q : XQ} {X : XX} : j_L_bridge_12 Q X [none, none, none, none] [.ref as0] μ nc ns = (Q (some (.int (ji 1))) μ) := by
  rw [j_L_bridge_12, xseal_eq]
  rfl
set_option maxRecDepth 100000 in
theorem u_L_cut {μ : XM} {a0 : Nat} {x1 : Int32} {x2 : Int32} {a3 : Nat} {Q : XQ} {X : XX} : s_L_cut μ [.ref a0, .int x1, .int x2, .ref a3] Q X = (j_L_cut_5 Q X [none, none, none, none, none] [.int x2, .int x1, .ref a0, .int (ji 0), .ref a3] μ 0 0) := by
  rw [s_L_cut, xseal_eq]
  rfl
noncomputable def c_L_cut_1 (Q : XQ) (X : XX) (xs3 : Int32) (as4 : Nat) (nc : Nat) (ns : Nat) (r2 : Int32) (μ1 : XM) : Prop := j_L_cut_8 Q X [none, none, none, none, none] [.int r2, .int xs3, .ref as4] μ1 (nc + 2) (ns + 12)
set_option maxRecDepth 100000 in
theorem uj_L_cut_5 {μ : XM} {xs0 : Int32} {xs1 : Int32} {as2 : Nat} {xs3 : Int32} {as4 : Nat} {nc ns : Nat} {Q : XQ} {X : XX} : j_L_cut_5 Q X [none, none, none, none, none] [.int xs0, .int xs1, .ref as2, .int xs3, .ref as4] μ nc ns = ((tg μ as2 = some (.inl 8) ∧ nc + 2 ≤ 2 ∧ ns + 12 ≤ 12 ∧ s_X8_cut μ [.ref as2, .int xs1, .int xs0] (qI (c_L_cut_1 Q X xs3 as4 nc ns)) (fun E μ9 => (E = "java/lang/IndexOutOfBoundsException" ∧ ∀ q : Nat, j_L_cut_13 Q X [none, none, none, none, none] [.ref q] μ9 (nc + 2) (ns + 12)) ∨ False))) := by
  rw [j_L_cut_5, xseal_eq]
  rfl
set_option maxRecDepth 100000 in
theorem uj_L_cut_8 {μ : XM} {xs0 : Int32} {xs1 : Int32} {as2 : Nat} {nc ns : Nat} {Q : XQ} {X : XX} : j_L_cut_8 Q X [none, none, none, none, none] [.int xs0, .int xs1, .ref as2] μ nc ns = ((tg μ as2 = some (.inr 3) ∧ vp_in xs1 (ln μ as2) ∧ Q (some (.int (ji 0))) (wL μ as2 (Int32.toNatClampNeg xs1) (Int32.toInt64 xs0)))) := by
  rw [j_L_cut_8, xseal_eq]
  rfl
set_option maxRecDepth 100000 in
theorem uj_L_cut_13 {μ : XM} {as0 : Nat} {nc ns : Nat} {Q : XQ} {X : XX} : j_L_cut_13 Q X [none, none, none, none, none] [.ref as0] μ nc ns = (Q (some (.int (ji 1))) μ) := by
  rw [j_L_cut_13, xseal_eq]
  rfl
set_option maxRecDepth 100000 in
theorem u_L_farthest {μ : XM} {a0 : Nat} {x1 : Int32} {a2 : Nat} {Q : XQ} {X : XX} : s_L_farthest μ [.ref a0, .int x1, .ref a2] Q X = (j_L_farthest_4 Q X [none, none, none, none] [.int x1, .ref a0, .int (ji 0), .ref a2] μ 0 0) := by
  rw [s_L_farthest, xseal_eq]
  rfl
noncomputable def c_L_farthest_1 (Q : XQ) (X : XX) (xs2 : Int32) (as3 : Nat) (nc : Nat) (ns : Nat) (r2 : Int32) (μ1 : XM) : Prop := j_L_farthest_7 Q X [none, none, none, none] [.int r2, .int xs2, .ref as3] μ1 (nc + 1) (ns + 6)
set_option maxRecDepth 100000 in
theorem uj_L_farthest_4 {μ : XM} {xs0 : Int32} {as1 : Nat} {xs2 : Int32} {as3 : Nat} {nc ns : Nat} {Q : XQ} {X : XX} : j_L_farthest_4 Q X [none, none, none, none] [.int xs0, .ref as1, .int xs2, .ref as3] μ nc ns = ((tg μ as1 = some (.inl 8) ∧ nc + 1 ≤ 1 ∧ ns + 6 ≤ 6 ∧ s_X8_farthest μ [.ref as1, .int xs0] (qI (c_L_farthest_1 Q X xs2 as3 nc ns)) (fun E μ9 => (E = "java/lang/IndexOutOfBoundsException" ∧ ∀ q : Nat, j_L_farthest_12 Q X [none, none, none, none] [.ref q] μ9 (nc + 1) (ns + 6)) ∨ False))) := by
  rw [j_L_farthest_4, xseal_eq]
  rfl
set_option maxRecDepth 100000 in
theorem uj_L_farthest_7 {μ : XM} {xs0 : Int32} {xs1 : Int32} {as2 : Nat} {nc ns : Nat} {Q : XQ} {X : XX} : j_L_farthest_7 Q X [none, none, none, none] [.int xs0, .int xs1, .ref as2] μ nc ns = ((tg μ as2 = some (.inr 3) ∧ vp_in xs1 (ln μ as2) ∧ Q (some (.int (ji 0))) (wL μ as2 (Int32.toNatClampNeg xs1) (Int32.toInt64 xs0)))) := by
  rw [j_L_farthest_7, xseal_eq]
  rfl
set_option maxRecDepth 100000 in
theorem uj_L_farthest_12 {μ : XM} {as0 : Nat} {nc ns : Nat} {Q : XQ} {X : XX} : j_L_farthest_12 Q X [none, none, none, none] [.ref as0] μ nc ns = (Q (some (.int (ji 1))) μ) := by
  rw [j_L_farthest_12, xseal_eq]
  rfl
set_option maxRecDepth 100000 in
theorem u_L_send {μ : XM} {a0 : Nat} {x1 : Int32} {x2 : Int32} {x3 : Int32} {a4 : Nat} {Q : XQ} {X : XX} : s_L_send μ [.ref a0, .int x1, .int x2, .int x3, .ref a4] Q X = (j_L_send_7 Q X [none, none, none, none, none, none] [.int x3, .int x2, .int x1, .ref a0, .int (ji 0), .ref a4] μ 0 0) := by
  rw [s_L_send, xseal_eq]
  rfl
noncomputable def c_L_send_1 (Q : XQ) (X : XX) (xs4 : Int32) (as5 : Nat) (nc : Nat) (ns : Nat) (r2 : Int32) (μ1 : XM) : Prop := j_L_send_10 Q X [none, none, none, none, none, none] [.int r2, .int xs4, .ref as5] μ1 (nc + 3) (ns + 18)
set_option maxRecDepth 100000 in
theorem uj_L_send_7 {μ : XM} {xs0 : Int32} {xs1 : Int32} {xs2 : Int32} {as3 : Nat} {xs4 : Int32} {as5 : Nat} {nc ns : Nat} {Q : XQ} {X : XX} : j_L_send_7 Q X [none, none, none, none, none, none] [.int xs0, .int xs1, .int xs2, .ref as3, .int xs4, .ref as5] μ nc ns = ((tg μ as3 = some (.inl 8) ∧ nc + 3 ≤ 3 ∧ ns + 18 ≤ 18 ∧ s_X8_send μ [.ref as3, .int xs2, .int xs1, .int xs0] (qI (c_L_send_1 Q X xs4 as5 nc ns)) (fun E μ9 => (E = "java/lang/IndexOutOfBoundsException" ∧ ∀ q : Nat, j_L_send_15 Q X [none, none, none, none, none, none] [.ref q] μ9 (nc + 3) (ns + 18)) ∨ (E = "java/lang/IllegalArgumentException" ∧ ∀ q : Nat, j_L_send_19 Q X [none, none, none, none, none, none] [.ref q] μ9 (nc + 3) (ns + 18)) ∨ False))) := by
  rw [j_L_send_7, xseal_eq]
  rfl
set_option maxRecDepth 100000 in
theorem uj_L_send_10 {μ : XM} {xs0 : Int32} {xs1 : Int32} {as2 : Nat} {nc ns : Nat} {Q : XQ} {X : XX} : j_L_send_10 Q X [none, none, none, none, none, none] [.int xs0, .int xs1, .ref as2] μ nc ns = ((tg μ as2 = some (.inr 3) ∧ vp_in xs1 (ln μ as2) ∧ Q (some (.int (ji 0))) (wL μ as2 (Int32.toNatClampNeg xs1) (Int32.toInt64 xs0)))) := by
  rw [j_L_send_10, xseal_eq]
  rfl
set_option maxRecDepth 100000 in
theorem uj_L_send_15 {μ : XM} {as0 : Nat} {nc ns : Nat} {Q : XQ} {X : XX} : j_L_send_15 Q X [none, none, none, none, none, none] [.ref as0] μ nc ns = (Q (some (.int (ji 1))) μ) := by
  rw [j_L_send_15, xseal_eq]
  rfl
set_option maxRecDepth 100000 in
theorem uj_L_send_19 {μ : XM} {as0 : Nat} {nc ns : Nat} {Q : XQ} {X : XX} : j_L_send_19 Q X [none, none, none, none, none, none] [.ref as0] μ nc ns = (Q (some (.int (ji 2))) μ) := by
  rw [j_L_send_19, xseal_eq]
  rfl
set_option maxRecDepth 100000 in
theorem u_L_tick {μ : XM} {a0 : Nat} {x1 : Int32} {a2 : Nat} {Q : XQ} {X : XX} : s_L_tick μ [.ref a0, .int x1, .ref a2] Q X = (j_L_tick_4 Q X [none, none, none, none] [.int x1, .ref a0, .int (ji 0), .ref a2] μ 0 0) := by
  rw [s_L_tick, xseal_eq]
  rfl
noncomputable def c_L_tick_1 (Q : XQ) (X : XX) (xs2 : Int32) (as3 : Nat) (nc : Nat) (ns : Nat) (r2 : Int32) (μ1 : XM) : Prop := j_L_tick_7 Q X [none, none, none, none] [.int r2, .int xs2, .ref as3] μ1 (nc + 1) (ns + 6)
set_option maxRecDepth 100000 in
theorem uj_L_tick_4 {μ : XM} {xs0 : Int32} {as1 : Nat} {xs2 : Int32} {as3 : Nat} {nc ns : Nat} {Q : XQ} {X : XX} : j_L_tick_4 Q X [none, none, none, none] [.int xs0, .ref as1, .int xs2, .ref as3] μ nc ns = ((tg μ as1 = some (.inl 8) ∧ nc + 1 ≤ 1 ∧ ns + 6 ≤ 6 ∧ s_X8_tick μ [.ref as1, .int xs0] (qI (c_L_tick_1 Q X xs2 as3 nc ns)) (fun E μ9 => (E = "java/lang/IllegalArgumentException" ∧ ∀ q : Nat, j_L_tick_12 Q X [none, none, none, none] [.ref q] μ9 (nc + 1) (ns + 6)) ∨ False))) := by
  rw [j_L_tick_4, xseal_eq]
  rfl
set_option maxRecDepth 100000 in
theorem uj_L_tick_7 {μ : XM} {xs0 : Int32} {xs1 : Int32} {as2 : Nat} {nc ns : Nat} {Q : XQ} {X : XX} : j_L_tick_7 Q X [none, none, none, none] [.int xs0, .int xs1, .ref as2] μ nc ns = ((tg μ as2 = some (.inr 3) ∧ vp_in xs1 (ln μ as2) ∧ Q (some (.int (ji 0))) (wL μ as2 (Int32.toNatClampNeg xs1) (Int32.toInt64 xs0)))) := by
  rw [j_L_tick_7, xseal_eq]
  rfl
set_option maxRecDepth 100000 in
theorem uj_L_tick_12 {μ : XM} {as0 : Nat} {nc ns : Nat} {Q : XQ} {X : XX} : j_L_tick_12 Q X [none, none, none, none] [.ref as0] μ nc ns = (Q (some (.int (ji 1))) μ) := by
  rw [j_L_tick_12, xseal_eq]
  rfl
set_option maxRecDepth 100000 in
theorem u_L_kill {μ : XM} {a0 : Nat} {x1 : Int32} {x2 : Int32} {a3 : Nat} {Q : XQ} {X : XX} : s_L_kill μ [.ref a0, .int x1, .int x2, .ref a3] Q X = (j_L_kill_5 Q X [none, none, none, none, none] [.int x2, .int x1, .ref a0, .int (ji 0), .ref a3] μ 0 0) := by
  rw [s_L_kill, xseal_eq]
  rfl
noncomputable def c_L_kill_1 (Q : XQ) (X : XX) (xs3 : Int32) (as4 : Nat) (nc : Nat) (ns : Nat) (r2 : Int32) (μ1 : XM) : Prop := j_L_kill_8 Q X [none, none, none, none, none] [.int r2, .int xs3, .ref as4] μ1 (nc + 2) (ns + 12)
set_option maxRecDepth 100000 in
theorem uj_L_kill_5 {μ : XM} {xs0 : Int32} {xs1 : Int32} {as2 : Nat} {xs3 : Int32} {as4 : Nat} {nc ns : Nat} {Q : XQ} {X : XX} : j_L_kill_5 Q X [none, none, none, none, none] [.int xs0, .int xs1, .ref as2, .int xs3, .ref as4] μ nc ns = ((tg μ as2 = some (.inl 8) ∧ nc + 2 ≤ 2 ∧ ns + 12 ≤ 12 ∧ s_X8_kill μ [.ref as2, .int xs1, .int xs0] (qI (c_L_kill_1 Q X xs3 as4 nc ns)) (fun E μ9 => (E = "java/lang/IndexOutOfBoundsException" ∧ ∀ q : Nat, j_L_kill_13 Q X [none, none, none, none, none] [.ref q] μ9 (nc + 2) (ns + 12)) ∨ (E = "java/lang/IllegalArgumentException" ∧ ∀ q : Nat, j_L_kill_17 Q X [none, none, none, none, none] [.ref q] μ9 (nc + 2) (ns + 12)) ∨ False))) := by
  rw [j_L_kill_5, xseal_eq]
  rfl
set_option maxRecDepth 100000 in
theorem uj_L_kill_8 {μ : XM} {xs0 : Int32} {xs1 : Int32} {as2 : Nat} {nc ns : Nat} {Q : XQ} {X : XX} : j_L_kill_8 Q X [none, none, none, none, none] [.int xs0, .int xs1, .ref as2] μ nc ns = ((tg μ as2 = some (.inr 3) ∧ vp_in xs1 (ln μ as2) ∧ Q (some (.int (ji 0))) (wL μ as2 (Int32.toNatClampNeg xs1) (Int32.toInt64 xs0)))) := by
  rw [j_L_kill_8, xseal_eq]
  rfl
set_option maxRecDepth 100000 in
theorem uj_L_kill_13 {μ : XM} {as0 : Nat} {nc ns : Nat} {Q : XQ} {X : XX} : j_L_kill_13 Q X [none, none, none, none, none] [.ref as0] μ nc ns = (Q (some (.int (ji 1))) μ) := by
  rw [j_L_kill_13, xseal_eq]
  rfl
set_option maxRecDepth 100000 in
theorem uj_L_kill_17 {μ : XM} {as0 : Nat} {nc ns : Nat} {Q : XQ} {X : XX} : j_L_kill_17 Q X [none, none, none, none, none] [.ref as0] μ nc ns = (Q (some (.int (ji 2))) μ) := by
  rw [j_L_kill_17, xseal_eq]
  rfl
set_option maxRecDepth 100000 in
theorem u_L_mend {μ : XM} {a0 : Nat} {x1 : Int32} {x2 : Int32} {a3 : Nat} {Q : XQ} {X : XX} : s_L_mend μ [.ref a0, .int x1, .int x2, .ref a3] Q X = (j_L_mend_5 Q X [none, none, none, none, none] [.int x2, .int x1, .ref a0, .int (ji 0), .ref a3] μ 0 0) := by
  rw [s_L_mend, xseal_eq]
  rfl
noncomputable def c_L_mend_1 (Q : XQ) (X : XX) (xs3 : Int32) (as4 : Nat) (nc : Nat) (ns : Nat) (r2 : Int32) (μ1 : XM) : Prop := j_L_mend_8 Q X [none, none, none, none, none] [.int r2, .int xs3, .ref as4] μ1 (nc + 2) (ns + 12)
set_option maxRecDepth 100000 in
theorem uj_L_mend_5 {μ : XM} {xs0 : Int32} {xs1 : Int32} {as2 : Nat} {xs3 : Int32} {as4 : Nat} {nc ns : Nat} {Q : XQ} {X : XX} : j_L_mend_5 Q X [none, none, none, none, none] [.int xs0, .int xs1, .ref as2, .int xs3, .ref as4] μ nc ns = ((tg μ as2 = some (.inl 8) ∧ nc + 2 ≤ 2 ∧ ns + 12 ≤ 12 ∧ s_X8_mend μ [.ref as2, .int xs1, .int xs0] (qI (c_L_mend_1 Q X xs3 as4 nc ns)) (fun E μ9 => (E = "java/lang/IndexOutOfBoundsException" ∧ ∀ q : Nat, j_L_mend_13 Q X [none, none, none, none, none] [.ref q] μ9 (nc + 2) (ns + 12)) ∨ (E = "java/lang/IllegalArgumentException" ∧ ∀ q : Nat, j_L_mend_17 Q X [none, none, none, none, none] [.ref q] μ9 (nc + 2) (ns + 12)) ∨ False))) := by
  rw [j_L_mend_5, xseal_eq]
  rfl
set_option maxRecDepth 100000 in
theorem uj_L_mend_8 {μ : XM} {xs0 : Int32} {xs1 : Int32} {as2 : Nat} {nc ns : Nat} {Q : XQ} {X : XX} : j_L_mend_8 Q X [none, none, none, none, none] [.int xs0, .int xs1, .ref as2] μ nc ns = ((tg μ as2 = some (.inr 3) ∧ vp_in xs1 (ln μ as2) ∧ Q (some (.int (ji 0))) (wL μ as2 (Int32.toNatClampNeg xs1) (Int32.toInt64 xs0)))) := by
  rw [j_L_mend_8, xseal_eq]
  rfl
set_option maxRecDepth 100000 in
theorem uj_L_mend_13 {μ : XM} {as0 : Nat} {nc ns : Nat} {Q : XQ} {X : XX} : j_L_mend_13 Q X [none, none, none, none, none] [.ref as0] μ nc ns = (Q (some (.int (ji 1))) μ) := by
  rw [j_L_mend_13, xseal_eq]
  rfl
set_option maxRecDepth 100000 in
theorem uj_L_mend_17 {μ : XM} {as0 : Nat} {nc ns : Nat} {Q : XQ} {X : XX} : j_L_mend_17 Q X [none, none, none, none, none] [.ref as0] μ nc ns = (Q (some (.int (ji 2))) μ) := by
  rw [j_L_mend_17, xseal_eq]
  rfl
set_option maxRecDepth 100000 in
theorem u_L_forget {μ : XM} {a0 : Nat} {x1 : Int32} {a2 : Nat} {Q : XQ} {X : XX} : s_L_forget μ [.ref a0, .int x1, .ref a2] Q X = (j_L_forget_4 Q X [none, none, none, none] [.int x1, .ref a0, .int (ji 0), .ref a2] μ 0 0) := by
  rw [s_L_forget, xseal_eq]
  rfl
noncomputable def c_L_forget_1 (Q : XQ) (X : XX) (xs2 : Int32) (as3 : Nat) (nc : Nat) (ns : Nat) (r2 : Int32) (μ1 : XM) : Prop := j_L_forget_7 Q X [none, none, none, none] [.int r2, .int xs2, .ref as3] μ1 (nc + 1) (ns + 6)
set_option maxRecDepth 100000 in
theorem uj_L_forget_4 {μ : XM} {xs0 : Int32} {as1 : Nat} {xs2 : Int32} {as3 : Nat} {nc ns : Nat} {Q : XQ} {X : XX} : j_L_forget_4 Q X [none, none, none, none] [.int xs0, .ref as1, .int xs2, .ref as3] μ nc ns = ((tg μ as1 = some (.inl 8) ∧ nc + 1 ≤ 1 ∧ ns + 6 ≤ 6 ∧ s_X8_forget μ [.ref as1, .int xs0] (qI (c_L_forget_1 Q X xs2 as3 nc ns)) (fun E μ9 => (E = "java/lang/IndexOutOfBoundsException" ∧ ∀ q : Nat, j_L_forget_12 Q X [none, none, none, none] [.ref q] μ9 (nc + 1) (ns + 6)) ∨ False))) := by
  rw [j_L_forget_4, xseal_eq]
  rfl
set_option maxRecDepth 100000 in
theorem uj_L_forget_7 {μ : XM} {xs0 : Int32} {xs1 : Int32} {as2 : Nat} {nc ns : Nat} {Q : XQ} {X : XX} : j_L_forget_7 Q X [none, none, none, none] [.int xs0, .int xs1, .ref as2] μ nc ns = ((tg μ as2 = some (.inr 3) ∧ vp_in xs1 (ln μ as2) ∧ Q (some (.int (ji 0))) (wL μ as2 (Int32.toNatClampNeg xs1) (Int32.toInt64 xs0)))) := by
  rw [j_L_forget_7, xseal_eq]
  rfl
set_option maxRecDepth 100000 in
theorem uj_L_forget_12 {μ : XM} {as0 : Nat} {nc ns : Nat} {Q : XQ} {X : XX} : j_L_forget_12 Q X [none, none, none, none] [.ref as0] μ nc ns = (Q (some (.int (ji 1))) μ) := by
  rw [j_L_forget_12, xseal_eq]
  rfl
set_option maxRecDepth 100000 in
theorem u_L_packet {μ : XM} {a0 : Nat} {x1 : Int32} {x2 : Int32} {a3 : Nat} {Q : XQ} {X : XX} : s_L_packet μ [.ref a0, .int x1, .int x2, .ref a3] Q X = (j_L_packet_5 Q X [none, none, none, none, none] [.int x2, .int x1, .ref a0, .int (ji 0), .ref a3] μ 0 0) := by
  rw [s_L_packet, xseal_eq]
  rfl
noncomputable def c_L_packet_1 (Q : XQ) (X : XX) (xs3 : Int32) (as4 : Nat) (nc : Nat) (ns : Nat) (r2 : Int32) (μ1 : XM) : Prop := j_L_packet_8 Q X [none, none, none, none, none] [.int r2, .int xs3, .ref as4] μ1 (nc + 1) (ns + 6)
set_option maxRecDepth 100000 in
theorem uj_L_packet_5 {μ : XM} {xs0 : Int32} {xs1 : Int32} {as2 : Nat} {xs3 : Int32} {as4 : Nat} {nc ns : Nat} {Q : XQ} {X : XX} : j_L_packet_5 Q X [none, none, none, none, none] [.int xs0, .int xs1, .ref as2, .int xs3, .ref as4] μ nc ns = ((tg μ as2 = some (.inl 8) ∧ nc + 1 ≤ 1 ∧ ns + 6 ≤ 6 ∧ s_X8_packet μ [.ref as2, .int xs1, .int xs0] (qI (c_L_packet_1 Q X xs3 as4 nc ns)) (fun E μ9 => (E = "java/lang/IndexOutOfBoundsException" ∧ ∀ q : Nat, j_L_packet_13 Q X [none, none, none, none, none] [.ref q] μ9 (nc + 1) (ns + 6)) ∨ False))) := by
  rw [j_L_packet_5, xseal_eq]
  rfl
set_option maxRecDepth 100000 in
theorem uj_L_packet_8 {μ : XM} {xs0 : Int32} {xs1 : Int32} {as2 : Nat} {nc ns : Nat} {Q : XQ} {X : XX} : j_L_packet_8 Q X [none, none, none, none, none] [.int xs0, .int xs1, .ref as2] μ nc ns = ((tg μ as2 = some (.inr 3) ∧ vp_in xs1 (ln μ as2) ∧ Q (some (.int (ji 0))) (wL μ as2 (Int32.toNatClampNeg xs1) (Int32.toInt64 xs0)))) := by
  rw [j_L_packet_8, xseal_eq]
  rfl
set_option maxRecDepth 100000 in
theorem uj_L_packet_13 {μ : XM} {as0 : Nat} {nc ns : Nat} {Q : XQ} {X : XX} : j_L_packet_13 Q X [none, none, none, none, none] [.ref as0] μ nc ns = (Q (some (.int (ji 1))) μ) := by
  rw [j_L_packet_13, xseal_eq]
  rfl
set_option maxRecDepth 100000 in
theorem u_L_trail {μ : XM} {a0 : Nat} {x1 : Int32} {x2 : Int32} {a3 : Nat} {Q : XQ} {X : XX} : s_L_trail μ [.ref a0, .int x1, .int x2, .ref a3] Q X = (j_L_trail_5 Q X [none, none, none, none, none] [.int x2, .int x1, .ref a0, .int (ji 0), .ref a3] μ 0 0) := by
  rw [s_L_trail, xseal_eq]
  rfl
noncomputable def c_L_trail_1 (Q : XQ) (X : XX) (xs3 : Int32) (as4 : Nat) (nc : Nat) (ns : Nat) (r2 : Int32) (μ1 : XM) : Prop := j_L_trail_8 Q X [none, none, none, none, none] [.int r2, .int xs3, .ref as4] μ1 (nc + 2) (ns + 12)
set_option maxRecDepth 100000 in
theorem uj_L_trail_5 {μ : XM} {xs0 : Int32} {xs1 : Int32} {as2 : Nat} {xs3 : Int32} {as4 : Nat} {nc ns : Nat} {Q : XQ} {X : XX} : j_L_trail_5 Q X [none, none, none, none, none] [.int xs0, .int xs1, .ref as2, .int xs3, .ref as4] μ nc ns = ((tg μ as2 = some (.inl 8) ∧ nc + 2 ≤ 2 ∧ ns + 12 ≤ 12 ∧ s_X8_trail μ [.ref as2, .int xs1, .int xs0] (qI (c_L_trail_1 Q X xs3 as4 nc ns)) (fun E μ9 => (E = "java/lang/IndexOutOfBoundsException" ∧ ∀ q : Nat, j_L_trail_13 Q X [none, none, none, none, none] [.ref q] μ9 (nc + 2) (ns + 12)) ∨ False))) := by
  rw [j_L_trail_5, xseal_eq]
  rfl
set_option maxRecDepth 100000 in
theorem uj_L_trail_8 {μ : XM} {xs0 : Int32} {xs1 : Int32} {as2 : Nat} {nc ns : Nat} {Q : XQ} {X : XX} : j_L_trail_8 Q X [none, none, none, none, none] [.int xs0, .int xs1, .ref as2] μ nc ns = ((tg μ as2 = some (.inr 3) ∧ vp_in xs1 (ln μ as2) ∧ Q (some (.int (ji 0))) (wL μ as2 (Int32.toNatClampNeg xs1) (Int32.toInt64 xs0)))) := by
  rw [j_L_trail_8, xseal_eq]
  rfl
set_option maxRecDepth 100000 in
theorem uj_L_trail_13 {μ : XM} {as0 : Nat} {nc ns : Nat} {Q : XQ} {X : XX} : j_L_trail_13 Q X [none, none, none, none, none] [.ref as0] μ nc ns = (Q (some (.int (ji 1))) μ) := by
  rw [j_L_trail_13, xseal_eq]
  rfl
set_option maxRecDepth 100000 in
theorem u_L_isVisited {μ : XM} {a0 : Nat} {x1 : Int32} {x2 : Int32} {a3 : Nat} {Q : XQ} {X : XX} : s_L_isVisited μ [.ref a0, .int x1, .int x2, .ref a3] Q X = (j_L_isVisited_5 Q X [none, none, none, none, none] [.int x2, .int x1, .ref a0, .int (ji 0), .ref a3] μ 0 0) := by
  rw [s_L_isVisited, xseal_eq]
  rfl
noncomputable def c_L_isVisited_1 (Q : XQ) (X : XX) (xs3 : Int32) (as4 : Nat) (nc : Nat) (ns : Nat) (r2 : Int32) (μ1 : XM) : Prop := j_L_isVisited_8 Q X [none, none, none, none, none] [.int r2, .int xs3, .ref as4] μ1 (nc + 2) (ns + 12)
set_option maxRecDepth 100000 in
theorem uj_L_isVisited_5 {μ : XM} {xs0 : Int32} {xs1 : Int32} {as2 : Nat} {xs3 : Int32} {as4 : Nat} {nc ns : Nat} {Q : XQ} {X : XX} : j_L_isVisited_5 Q X [none, none, none, none, none] [.int xs0, .int xs1, .ref as2, .int xs3, .ref as4] μ nc ns = ((tg μ as2 = some (.inl 8) ∧ nc + 2 ≤ 2 ∧ ns + 12 ≤ 12 ∧ s_X8_isVisited μ [.ref as2, .int xs1, .int xs0] (qI (c_L_isVisited_1 Q X xs3 as4 nc ns)) (fun E μ9 => (E = "java/lang/IndexOutOfBoundsException" ∧ ∀ q : Nat, j_L_isVisited_20 Q X [none, none, none, none, none] [.ref q] μ9 (nc + 2) (ns + 12)) ∨ False))) := by
  rw [j_L_isVisited_5, xseal_eq]
  rfl
set_option maxRecDepth 100000 in
theorem uj_L_isVisited_8 {μ : XM} {xs0 : Int32} {xs1 : Int32} {as2 : Nat} {nc ns : Nat} {Q : XQ} {X : XX} : j_L_isVisited_8 Q X [none, none, none, none, none] [.int xs0, .int xs1, .ref as2] μ nc ns = ((if xs0 = 0 then (tg μ as2 = some (.inr 3) ∧ vp_in xs1 (ln μ as2) ∧ Q (some (.int (ji 0))) (wL μ as2 (Int32.toNatClampNeg xs1) (jl 0))) else (tg μ as2 = some (.inr 3) ∧ vp_in xs1 (ln μ as2) ∧ Q (some (.int (ji 0))) (wL μ as2 (Int32.toNatClampNeg xs1) (jl 1))))) := by
  rw [j_L_isVisited_8, xseal_eq]
  rfl
set_option maxRecDepth 100000 in
theorem uj_L_isVisited_20 {μ : XM} {as0 : Nat} {nc ns : Nat} {Q : XQ} {X : XX} : j_L_isVisited_20 Q X [none, none, none, none, none] [.ref as0] μ nc ns = (Q (some (.int (ji 1))) μ) := by
  rw [j_L_isVisited_20, xseal_eq]
  rfl
set_option maxRecDepth 100000 in
theorem u_L_found {μ : XM} {a0 : Nat} {x1 : Int32} {x2 : Int32} {a3 : Nat} {Q : XQ} {X : XX} : s_L_found μ [.ref a0, .int x1, .int x2, .ref a3] Q X = (j_L_found_5 Q X [none, none, none, none, none] [.int x2, .int x1, .ref a0, .int (ji 0), .ref a3] μ 0 0) := by
  rw [s_L_found, xseal_eq]
  rfl
noncomputable def c_L_found_1 (Q : XQ) (X : XX) (xs3 : Int32) (as4 : Nat) (nc : Nat) (ns : Nat) (r2 : Int32) (μ1 : XM) : Prop := j_L_found_8 Q X [none, none, none, none, none] [.int r2, .int xs3, .ref as4] μ1 (nc + 2) (ns + 12)
set_option maxRecDepth 100000 in
theorem uj_L_found_5 {μ : XM} {xs0 : Int32} {xs1 : Int32} {as2 : Nat} {xs3 : Int32} {as4 : Nat} {nc ns : Nat} {Q : XQ} {X : XX} : j_L_found_5 Q X [none, none, none, none, none] [.int xs0, .int xs1, .ref as2, .int xs3, .ref as4] μ nc ns = ((tg μ as2 = some (.inl 8) ∧ nc + 2 ≤ 2 ∧ ns + 12 ≤ 12 ∧ s_X8_found μ [.ref as2, .int xs1, .int xs0] (qI (c_L_found_1 Q X xs3 as4 nc ns)) (fun E μ9 => (E = "java/lang/IndexOutOfBoundsException" ∧ ∀ q : Nat, j_L_found_13 Q X [none, none, none, none, none] [.ref q] μ9 (nc + 2) (ns + 12)) ∨ False))) := by
  rw [j_L_found_5, xseal_eq]
  rfl
set_option maxRecDepth 100000 in
theorem uj_L_found_8 {μ : XM} {xs0 : Int32} {xs1 : Int32} {as2 : Nat} {nc ns : Nat} {Q : XQ} {X : XX} : j_L_found_8 Q X [none, none, none, none, none] [.int xs0, .int xs1, .ref as2] μ nc ns = ((tg μ as2 = some (.inr 3) ∧ vp_in xs1 (ln μ as2) ∧ Q (some (.int (ji 0))) (wL μ as2 (Int32.toNatClampNeg xs1) (Int32.toInt64 xs0)))) := by
  rw [j_L_found_8, xseal_eq]
  rfl
set_option maxRecDepth 100000 in
theorem uj_L_found_13 {μ : XM} {as0 : Nat} {nc ns : Nat} {Q : XQ} {X : XX} : j_L_found_13 Q X [none, none, none, none, none] [.ref as0] μ nc ns = (Q (some (.int (ji 1))) μ) := by
  rw [j_L_found_13, xseal_eq]
  rfl
set_option maxRecDepth 100000 in
theorem u_L_deadHome {μ : XM} {a0 : Nat} {x1 : Int32} {a2 : Nat} {Q : XQ} {X : XX} : s_L_deadHome μ [.ref a0, .int x1, .ref a2] Q X = (j_L_deadHome_4 Q X [none, none, none, none] [.int x1, .ref a0, .int (ji 0), .ref a2] μ 0 0) := by
  rw [s_L_deadHome, xseal_eq]
  rfl
noncomputable def c_L_deadHome_1 (Q : XQ) (X : XX) (xs2 : Int32) (as3 : Nat) (nc : Nat) (ns : Nat) (r2 : Int32) (μ1 : XM) : Prop := j_L_deadHome_7 Q X [none, none, none, none] [.int r2, .int xs2, .ref as3] μ1 (nc + 1) (ns + 6)
set_option maxRecDepth 100000 in
theorem uj_L_deadHome_4 {μ : XM} {xs0 : Int32} {as1 : Nat} {xs2 : Int32} {as3 : Nat} {nc ns : Nat} {Q : XQ} {X : XX} : j_L_deadHome_4 Q X [none, none, none, none] [.int xs0, .ref as1, .int xs2, .ref as3] μ nc ns = ((tg μ as1 = some (.inl 8) ∧ nc + 1 ≤ 1 ∧ ns + 6 ≤ 6 ∧ s_X8_deadHome μ [.ref as1, .int xs0] (qI (c_L_deadHome_1 Q X xs2 as3 nc ns)) (fun E μ9 => (E = "java/lang/IndexOutOfBoundsException" ∧ ∀ q : Nat, j_L_deadHome_12 Q X [none, none, none, none] [.ref q] μ9 (nc + 1) (ns + 6)) ∨ False))) := by
  rw [j_L_deadHome_4, xseal_eq]
  rfl
set_option maxRecDepth 100000 in
theorem uj_L_deadHome_7 {μ : XM} {xs0 : Int32} {xs1 : Int32} {as2 : Nat} {nc ns : Nat} {Q : XQ} {X : XX} : j_L_deadHome_7 Q X [none, none, none, none] [.int xs0, .int xs1, .ref as2] μ nc ns = ((tg μ as2 = some (.inr 3) ∧ vp_in xs1 (ln μ as2) ∧ Q (some (.int (ji 0))) (wL μ as2 (Int32.toNatClampNeg xs1) (Int32.toInt64 xs0)))) := by
  rw [j_L_deadHome_7, xseal_eq]
  rfl
set_option maxRecDepth 100000 in
theorem uj_L_deadHome_12 {μ : XM} {as0 : Nat} {nc ns : Nat} {Q : XQ} {X : XX} : j_L_deadHome_12 Q X [none, none, none, none] [.ref as0] μ nc ns = (Q (some (.int (ji 1))) μ) := by
  rw [j_L_deadHome_12, xseal_eq]
  rfl
set_option maxRecDepth 100000 in
theorem u_L_healed {μ : XM} {a0 : Nat} {x1 : Int32} {a2 : Nat} {Q : XQ} {X : XX} : s_L_healed μ [.ref a0, .int x1, .ref a2] Q X = (j_L_healed_4 Q X [none, none, none, none] [.int x1, .ref a0, .int (ji 0), .ref a2] μ 0 0) := by
  rw [s_L_healed, xseal_eq]
  rfl
noncomputable def c_L_healed_1 (Q : XQ) (X : XX) (xs2 : Int32) (as3 : Nat) (nc : Nat) (ns : Nat) (r2 : Int32) (μ1 : XM) : Prop := j_L_healed_7 Q X [none, none, none, none] [.int r2, .int xs2, .ref as3] μ1 (nc + 1) (ns + 6)
set_option maxRecDepth 100000 in
theorem uj_L_healed_4 {μ : XM} {xs0 : Int32} {as1 : Nat} {xs2 : Int32} {as3 : Nat} {nc ns : Nat} {Q : XQ} {X : XX} : j_L_healed_4 Q X [none, none, none, none] [.int xs0, .ref as1, .int xs2, .ref as3] μ nc ns = ((tg μ as1 = some (.inl 8) ∧ nc + 1 ≤ 1 ∧ ns + 6 ≤ 6 ∧ s_X8_healed μ [.ref as1, .int xs0] (qI (c_L_healed_1 Q X xs2 as3 nc ns)) (fun E μ9 => (E = "java/lang/IndexOutOfBoundsException" ∧ ∀ q : Nat, j_L_healed_12 Q X [none, none, none, none] [.ref q] μ9 (nc + 1) (ns + 6)) ∨ False))) := by
  rw [j_L_healed_4, xseal_eq]
  rfl
set_option maxRecDepth 100000 in
theorem uj_L_healed_7 {μ : XM} {xs0 : Int32} {xs1 : Int32} {as2 : Nat} {nc ns : Nat} {Q : XQ} {X : XX} : j_L_healed_7 Q X [none, none, none, none] [.int xs0, .int xs1, .ref as2] μ nc ns = ((tg μ as2 = some (.inr 3) ∧ vp_in xs1 (ln μ as2) ∧ Q (some (.int (ji 0))) (wL μ as2 (Int32.toNatClampNeg xs1) (Int32.toInt64 xs0)))) := by
  rw [j_L_healed_7, xseal_eq]
  rfl
set_option maxRecDepth 100000 in
theorem uj_L_healed_12 {μ : XM} {as0 : Nat} {nc ns : Nat} {Q : XQ} {X : XX} : j_L_healed_12 Q X [none, none, none, none] [.ref as0] μ nc ns = (Q (some (.int (ji 1))) μ) := by
  rw [j_L_healed_12, xseal_eq]
  rfl
set_option maxRecDepth 100000 in
theorem u_L_choice {μ : XM} {a0 : Nat} {x1 : Int32} {a2 : Nat} {Q : XQ} {X : XX} : s_L_choice μ [.ref a0, .int x1, .ref a2] Q X = (j_L_choice_4 Q X [none, none, none, none] [.int x1, .ref a0, .int (ji 0), .ref a2] μ 0 0) := by
  rw [s_L_choice, xseal_eq]
  rfl
noncomputable def c_L_choice_1 (Q : XQ) (X : XX) (xs2 : Int32) (as3 : Nat) (nc : Nat) (ns : Nat) (r2 : Int32) (μ1 : XM) : Prop := j_L_choice_7 Q X [none, none, none, none] [.int r2, .int xs2, .ref as3] μ1 (nc + 1) (ns + 6)
set_option maxRecDepth 100000 in
theorem uj_L_choice_4 {μ : XM} {xs0 : Int32} {as1 : Nat} {xs2 : Int32} {as3 : Nat} {nc ns : Nat} {Q : XQ} {X : XX} : j_L_choice_4 Q X [none, none, none, none] [.int xs0, .ref as1, .int xs2, .ref as3] μ nc ns = ((tg μ as1 = some (.inl 8) ∧ nc + 1 ≤ 1 ∧ ns + 6 ≤ 6 ∧ s_X8_choice μ [.ref as1, .int xs0] (qI (c_L_choice_1 Q X xs2 as3 nc ns)) (fun E μ9 => (E = "java/lang/IndexOutOfBoundsException" ∧ ∀ q : Nat, j_L_choice_12 Q X [none, none, none, none] [.ref q] μ9 (nc + 1) (ns + 6)) ∨ False))) := by
  rw [j_L_choice_4, xseal_eq]
  rfl
set_option maxRecDepth 100000 in
theorem uj_L_choice_7 {μ : XM} {xs0 : Int32} {xs1 : Int32} {as2 : Nat} {nc ns : Nat} {Q : XQ} {X : XX} : j_L_choice_7 Q X [none, none, none, none] [.int xs0, .int xs1, .ref as2] μ nc ns = ((tg μ as2 = some (.inr 3) ∧ vp_in xs1 (ln μ as2) ∧ Q (some (.int (ji 0))) (wL μ as2 (Int32.toNatClampNeg xs1) (Int32.toInt64 xs0)))) := by
  rw [j_L_choice_7, xseal_eq]
  rfl
set_option maxRecDepth 100000 in
theorem uj_L_choice_12 {μ : XM} {as0 : Nat} {nc ns : Nat} {Q : XQ} {X : XX} : j_L_choice_12 Q X [none, none, none, none] [.ref as0] μ nc ns = (Q (some (.int (ji 1))) μ) := by
  rw [j_L_choice_12, xseal_eq]
  rfl
set_option maxRecDepth 100000 in
theorem u_L_reason {μ : XM} {a0 : Nat} {x1 : Int32} {x2 : Int32} {a3 : Nat} {Q : XQ} {X : XX} : s_L_reason μ [.ref a0, .int x1, .int x2, .ref a3] Q X = (j_L_reason_5 Q X [none, none, none, none, none] [.int x2, .int x1, .ref a0, .int (ji 0), .ref a3] μ 0 0) := by
  rw [s_L_reason, xseal_eq]
  rfl
noncomputable def c_L_reason_1 (Q : XQ) (X : XX) (xs3 : Int32) (as4 : Nat) (nc : Nat) (ns : Nat) (r2 : Int32) (μ1 : XM) : Prop := j_L_reason_8 Q X [none, none, none, none, none] [.int r2, .int xs3, .ref as4] μ1 (nc + 2) (ns + 12)
set_option maxRecDepth 100000 in
theorem uj_L_reason_5 {μ : XM} {xs0 : Int32} {xs1 : Int32} {as2 : Nat} {xs3 : Int32} {as4 : Nat} {nc ns : Nat} {Q : XQ} {X : XX} : j_L_reason_5 Q X [none, none, none, none, none] [.int xs0, .int xs1, .ref as2, .int xs3, .ref as4] μ nc ns = ((tg μ as2 = some (.inl 8) ∧ nc + 2 ≤ 2 ∧ ns + 12 ≤ 12 ∧ s_X8_reason μ [.ref as2, .int xs1, .int xs0] (qI (c_L_reason_1 Q X xs3 as4 nc ns)) (fun E μ9 => (E = "java/lang/IndexOutOfBoundsException" ∧ ∀ q : Nat, j_L_reason_13 Q X [none, none, none, none, none] [.ref q] μ9 (nc + 2) (ns + 12)) ∨ (E = "java/lang/IllegalArgumentException" ∧ ∀ q : Nat, j_L_reason_17 Q X [none, none, none, none, none] [.ref q] μ9 (nc + 2) (ns + 12)) ∨ False))) := by
  rw [j_L_reason_5, xseal_eq]
  rfl
set_option maxRecDepth 100000 in
theorem uj_L_reason_8 {μ : XM} {xs0 : Int32} {xs1 : Int32} {as2 : Nat} {nc ns : Nat} {Q : XQ} {X : XX} : j_L_reason_8 Q X [none, none, none, none, none] [.int xs0, .int xs1, .ref as2] μ nc ns = ((tg μ as2 = some (.inr 3) ∧ vp_in xs1 (ln μ as2) ∧ Q (some (.int (ji 0))) (wL μ as2 (Int32.toNatClampNeg xs1) (Int32.toInt64 xs0)))) := by
  rw [j_L_reason_8, xseal_eq]
  rfl
set_option maxRecDepth 100000 in
theorem uj_L_reason_13 {μ : XM} {as0 : Nat} {nc ns : Nat} {Q : XQ} {X : XX} : j_L_reason_13 Q X [none, none, none, none, none] [.ref as0] μ nc ns = (Q (some (.int (ji 1))) μ) := by
  rw [j_L_reason_13, xseal_eq]
  rfl
set_option maxRecDepth 100000 in
theorem uj_L_reason_17 {μ : XM} {as0 : Nat} {nc ns : Nat} {Q : XQ} {X : XX} : j_L_reason_17 Q X [none, none, none, none, none] [.ref as0] μ nc ns = (Q (some (.int (ji 2))) μ) := by
  rw [j_L_reason_17, xseal_eq]
  rfl
set_option maxRecDepth 100000 in
theorem u_L_cause {μ : XM} {a0 : Nat} {x1 : Int32} {x2 : Int32} {a3 : Nat} {Q : XQ} {X : XX} : s_L_cause μ [.ref a0, .int x1, .int x2, .ref a3] Q X = (j_L_cause_5 Q X [none, none, none, none, none] [.int x2, .int x1, .ref a0, .int (ji 0), .ref a3] μ 0 0) := by
  rw [s_L_cause, xseal_eq]
  rfl
noncomputable def c_L_cause_1 (Q : XQ) (X : XX) (xs3 : Int32) (as4 : Nat) (nc : Nat) (ns : Nat) (r2 : Int32) (μ1 : XM) : Prop := j_L_cause_8 Q X [none, none, none, none, none] [.int r2, .int xs3, .ref as4] μ1 (nc + 2) (ns + 12)
set_option maxRecDepth 100000 in
theorem uj_L_cause_5 {μ : XM} {xs0 : Int32} {xs1 : Int32} {as2 : Nat} {xs3 : Int32} {as4 : Nat} {nc ns : Nat} {Q : XQ} {X : XX} : j_L_cause_5 Q X [none, none, none, none, none] [.int xs0, .int xs1, .ref as2, .int xs3, .ref as4] μ nc ns = ((tg μ as2 = some (.inl 8) ∧ nc + 2 ≤ 2 ∧ ns + 12 ≤ 12 ∧ s_X8_cause μ [.ref as2, .int xs1, .int xs0] (qI (c_L_cause_1 Q X xs3 as4 nc ns)) (fun E μ9 => (E = "java/lang/IndexOutOfBoundsException" ∧ ∀ q : Nat, j_L_cause_13 Q X [none, none, none, none, none] [.ref q] μ9 (nc + 2) (ns + 12)) ∨ (E = "java/lang/IllegalArgumentException" ∧ ∀ q : Nat, j_L_cause_17 Q X [none, none, none, none, none] [.ref q] μ9 (nc + 2) (ns + 12)) ∨ False))) := by
  rw [j_L_cause_5, xseal_eq]
  rfl
set_option maxRecDepth 100000 in
theorem uj_L_cause_8 {μ : XM} {xs0 : Int32} {xs1 : Int32} {as2 : Nat} {nc ns : Nat} {Q : XQ} {X : XX} : j_L_cause_8 Q X [none, none, none, none, none] [.int xs0, .int xs1, .ref as2] μ nc ns = ((tg μ as2 = some (.inr 3) ∧ vp_in xs1 (ln μ as2) ∧ Q (some (.int (ji 0))) (wL μ as2 (Int32.toNatClampNeg xs1) (Int32.toInt64 xs0)))) := by
  rw [j_L_cause_8, xseal_eq]
  rfl
set_option maxRecDepth 100000 in
theorem uj_L_cause_13 {μ : XM} {as0 : Nat} {nc ns : Nat} {Q : XQ} {X : XX} : j_L_cause_13 Q X [none, none, none, none, none] [.ref as0] μ nc ns = (Q (some (.int (ji 1))) μ) := by
  rw [j_L_cause_13, xseal_eq]
  rfl
set_option maxRecDepth 100000 in
theorem uj_L_cause_17 {μ : XM} {as0 : Nat} {nc ns : Nat} {Q : XQ} {X : XX} : j_L_cause_17 Q X [none, none, none, none, none] [.ref as0] μ nc ns = (Q (some (.int (ji 2))) μ) := by
  rw [j_L_cause_17, xseal_eq]
  rfl
set_option maxRecDepth 100000 in
theorem u_L_packetsIn {μ : XM} {a0 : Nat} {x1 : Int32} {a2 : Nat} {Q : XQ} {X : XX} : s_L_packetsIn μ [.ref a0, .int x1, .ref a2] Q X = (j_L_packetsIn_4 Q X [none, none, none, none] [.int x1, .ref a0, .int (ji 0), .ref a2] μ 0 0) := by
  rw [s_L_packetsIn, xseal_eq]
  rfl
noncomputable def c_L_packetsIn_1 (Q : XQ) (X : XX) (xs2 : Int32) (as3 : Nat) (nc : Nat) (ns : Nat) (r2 : Int32) (μ1 : XM) : Prop := j_L_packetsIn_7 Q X [none, none, none, none] [.int r2, .int xs2, .ref as3] μ1 (nc + 1) (ns + 6)
set_option maxRecDepth 100000 in
theorem uj_L_packetsIn_4 {μ : XM} {xs0 : Int32} {as1 : Nat} {xs2 : Int32} {as3 : Nat} {nc ns : Nat} {Q : XQ} {X : XX} : j_L_packetsIn_4 Q X [none, none, none, none] [.int xs0, .ref as1, .int xs2, .ref as3] μ nc ns = ((tg μ as1 = some (.inl 8) ∧ nc + 1 ≤ 1 ∧ ns + 6 ≤ 6 ∧ s_X8_packetsIn μ [.ref as1, .int xs0] (qI (c_L_packetsIn_1 Q X xs2 as3 nc ns)) (fun E μ9 => (E = "java/lang/IllegalArgumentException" ∧ ∀ q : Nat, j_L_packetsIn_12 Q X [none, none, none, none] [.ref q] μ9 (nc + 1) (ns + 6)) ∨ False))) := by
  rw [j_L_packetsIn_4, xseal_eq]
  rfl
set_option maxRecDepth 100000 in
theorem uj_L_packetsIn_7 {μ : XM} {xs0 : Int32} {xs1 : Int32} {as2 : Nat} {nc ns : Nat} {Q : XQ} {X : XX} : j_L_packetsIn_7 Q X [none, none, none, none] [.int xs0, .int xs1, .ref as2] μ nc ns = ((tg μ as2 = some (.inr 3) ∧ vp_in xs1 (ln μ as2) ∧ Q (some (.int (ji 0))) (wL μ as2 (Int32.toNatClampNeg xs1) (Int32.toInt64 xs0)))) := by
  rw [j_L_packetsIn_7, xseal_eq]
  rfl
set_option maxRecDepth 100000 in
theorem uj_L_packetsIn_12 {μ : XM} {as0 : Nat} {nc ns : Nat} {Q : XQ} {X : XX} : j_L_packetsIn_12 Q X [none, none, none, none] [.ref as0] μ nc ns = (Q (some (.int (ji 1))) μ) := by
  rw [j_L_packetsIn_12, xseal_eq]
  rfl
set_option maxRecDepth 100000 in
theorem u_L_packetsAt {μ : XM} {a0 : Nat} {x1 : Int32} {a2 : Nat} {Q : XQ} {X : XX} : s_L_packetsAt μ [.ref a0, .int x1, .ref a2] Q X = (j_L_packetsAt_4 Q X [none, none, none, none] [.int x1, .ref a0, .int (ji 0), .ref a2] μ 0 0) := by
  rw [s_L_packetsAt, xseal_eq]
  rfl
noncomputable def c_L_packetsAt_1 (Q : XQ) (X : XX) (xs2 : Int32) (as3 : Nat) (nc : Nat) (ns : Nat) (r2 : Int32) (μ1 : XM) : Prop := j_L_packetsAt_7 Q X [none, none, none, none] [.int r2, .int xs2, .ref as3] μ1 (nc + 1) (ns + 6)
set_option maxRecDepth 100000 in
theorem uj_L_packetsAt_4 {μ : XM} {xs0 : Int32} {as1 : Nat} {xs2 : Int32} {as3 : Nat} {nc ns : Nat} {Q : XQ} {X : XX} : j_L_packetsAt_4 Q X [none, none, none, none] [.int xs0, .ref as1, .int xs2, .ref as3] μ nc ns = ((tg μ as1 = some (.inl 8) ∧ nc + 1 ≤ 1 ∧ ns + 6 ≤ 6 ∧ s_X8_packetsAt μ [.ref as1, .int xs0] (qI (c_L_packetsAt_1 Q X xs2 as3 nc ns)) (fun E μ9 => (E = "java/lang/IndexOutOfBoundsException" ∧ ∀ q : Nat, j_L_packetsAt_12 Q X [none, none, none, none] [.ref q] μ9 (nc + 1) (ns + 6)) ∨ False))) := by
  rw [j_L_packetsAt_4, xseal_eq]
  rfl
set_option maxRecDepth 100000 in
theorem uj_L_packetsAt_7 {μ : XM} {xs0 : Int32} {xs1 : Int32} {as2 : Nat} {nc ns : Nat} {Q : XQ} {X : XX} : j_L_packetsAt_7 Q X [none, none, none, none] [.int xs0, .int xs1, .ref as2] μ nc ns = ((tg μ as2 = some (.inr 3) ∧ vp_in xs1 (ln μ as2) ∧ Q (some (.int (ji 0))) (wL μ as2 (Int32.toNatClampNeg xs1) (Int32.toInt64 xs0)))) := by
  rw [j_L_packetsAt_7, xseal_eq]
  rfl
set_option maxRecDepth 100000 in
theorem uj_L_packetsAt_12 {μ : XM} {as0 : Nat} {nc ns : Nat} {Q : XQ} {X : XX} : j_L_packetsAt_12 Q X [none, none, none, none] [.ref as0] μ nc ns = (Q (some (.int (ji 1))) μ) := by
  rw [j_L_packetsAt_12, xseal_eq]
  rfl
set_option maxRecDepth 100000 in
theorem u_L_packetsTo {μ : XM} {a0 : Nat} {x1 : Int32} {a2 : Nat} {Q : XQ} {X : XX} : s_L_packetsTo μ [.ref a0, .int x1, .ref a2] Q X = (j_L_packetsTo_4 Q X [none, none, none, none] [.int x1, .ref a0, .int (ji 0), .ref a2] μ 0 0) := by
  rw [s_L_packetsTo, xseal_eq]
  rfl
noncomputable def c_L_packetsTo_1 (Q : XQ) (X : XX) (xs2 : Int32) (as3 : Nat) (nc : Nat) (ns : Nat) (r2 : Int32) (μ1 : XM) : Prop := j_L_packetsTo_7 Q X [none, none, none, none] [.int r2, .int xs2, .ref as3] μ1 (nc + 1) (ns + 6)
set_option maxRecDepth 100000 in
theorem uj_L_packetsTo_4 {μ : XM} {xs0 : Int32} {as1 : Nat} {xs2 : Int32} {as3 : Nat} {nc ns : Nat} {Q : XQ} {X : XX} : j_L_packetsTo_4 Q X [none, none, none, none] [.int xs0, .ref as1, .int xs2, .ref as3] μ nc ns = ((tg μ as1 = some (.inl 8) ∧ nc + 1 ≤ 1 ∧ ns + 6 ≤ 6 ∧ s_X8_packetsTo μ [.ref as1, .int xs0] (qI (c_L_packetsTo_1 Q X xs2 as3 nc ns)) (fun E μ9 => (E = "java/lang/IndexOutOfBoundsException" ∧ ∀ q : Nat, j_L_packetsTo_12 Q X [none, none, none, none] [.ref q] μ9 (nc + 1) (ns + 6)) ∨ False))) := by
  rw [j_L_packetsTo_4, xseal_eq]
  rfl
set_option maxRecDepth 100000 in
theorem uj_L_packetsTo_7 {μ : XM} {xs0 : Int32} {xs1 : Int32} {as2 : Nat} {nc ns : Nat} {Q : XQ} {X : XX} : j_L_packetsTo_7 Q X [none, none, none, none] [.int xs0, .int xs1, .ref as2] μ nc ns = ((tg μ as2 = some (.inr 3) ∧ vp_in xs1 (ln μ as2) ∧ Q (some (.int (ji 0))) (wL μ as2 (Int32.toNatClampNeg xs1) (Int32.toInt64 xs0)))) := by
  rw [j_L_packetsTo_7, xseal_eq]
  rfl
set_option maxRecDepth 100000 in
theorem uj_L_packetsTo_12 {μ : XM} {as0 : Nat} {nc ns : Nat} {Q : XQ} {X : XX} : j_L_packetsTo_12 Q X [none, none, none, none] [.ref as0] μ nc ns = (Q (some (.int (ji 1))) μ) := by
  rw [j_L_packetsTo_12, xseal_eq]
  rfl
set_option maxRecDepth 100000 in
theorem u_L_unvisited {μ : XM} {a0 : Nat} {x1 : Int32} {a2 : Nat} {Q : XQ} {X : XX} : s_L_unvisited μ [.ref a0, .int x1, .ref a2] Q X = (j_L_unvisited_4 Q X [none, none, none, none] [.int x1, .ref a0, .int (ji 0), .ref a2] μ 0 0) := by
  rw [s_L_unvisited, xseal_eq]
  rfl
noncomputable def c_L_unvisited_1 (Q : XQ) (X : XX) (xs2 : Int32) (as3 : Nat) (nc : Nat) (ns : Nat) (r2 : Int32) (μ1 : XM) : Prop := j_L_unvisited_7 Q X [none, none, none, none] [.int r2, .int xs2, .ref as3] μ1 (nc + 1) (ns + 6)
set_option maxRecDepth 100000 in
theorem uj_L_unvisited_4 {μ : XM} {xs0 : Int32} {as1 : Nat} {xs2 : Int32} {as3 : Nat} {nc ns : Nat} {Q : XQ} {X : XX} : j_L_unvisited_4 Q X [none, none, none, none] [.int xs0, .ref as1, .int xs2, .ref as3] μ nc ns = ((tg μ as1 = some (.inl 8) ∧ nc + 1 ≤ 1 ∧ ns + 6 ≤ 6 ∧ s_X8_unvisited μ [.ref as1, .int xs0] (qI (c_L_unvisited_1 Q X xs2 as3 nc ns)) (fun E μ9 => (E = "java/lang/IndexOutOfBoundsException" ∧ ∀ q : Nat, j_L_unvisited_12 Q X [none, none, none, none] [.ref q] μ9 (nc + 1) (ns + 6)) ∨ False))) := by
  rw [j_L_unvisited_4, xseal_eq]
  rfl
set_option maxRecDepth 100000 in
theorem uj_L_unvisited_7 {μ : XM} {xs0 : Int32} {xs1 : Int32} {as2 : Nat} {nc ns : Nat} {Q : XQ} {X : XX} : j_L_unvisited_7 Q X [none, none, none, none] [.int xs0, .int xs1, .ref as2] μ nc ns = ((tg μ as2 = some (.inr 3) ∧ vp_in xs1 (ln μ as2) ∧ Q (some (.int (ji 0))) (wL μ as2 (Int32.toNatClampNeg xs1) (Int32.toInt64 xs0)))) := by
  rw [j_L_unvisited_7, xseal_eq]
  rfl
set_option maxRecDepth 100000 in
theorem uj_L_unvisited_12 {μ : XM} {as0 : Nat} {nc ns : Nat} {Q : XQ} {X : XX} : j_L_unvisited_12 Q X [none, none, none, none] [.ref as0] μ nc ns = (Q (some (.int (ji 1))) μ) := by
  rw [j_L_unvisited_12, xseal_eq]
  rfl
set_option maxRecDepth 100000 in
theorem u_L_stateIn {μ : XM} {a0 : Nat} {x1 : Int32} {x2 : Int32} {a3 : Nat} {Q : XQ} {X : XX} : s_L_stateIn μ [.ref a0, .int x1, .int x2, .ref a3] Q X = (j_L_stateIn_5 Q X [none, none, none, none, none] [.int x2, .int x1, .ref a0, .int (ji 0), .ref a3] μ 0 0) := by
  rw [s_L_stateIn, xseal_eq]
  rfl
noncomputable def c_L_stateIn_1 (Q : XQ) (X : XX) (xs3 : Int32) (as4 : Nat) (nc : Nat) (ns : Nat) (r2 : Int32) (μ1 : XM) : Prop := j_L_stateIn_8 Q X [none, none, none, none, none] [.int r2, .int xs3, .ref as4] μ1 (nc + 2) (ns + 12)
set_option maxRecDepth 100000 in
theorem uj_L_stateIn_5 {μ : XM} {xs0 : Int32} {xs1 : Int32} {as2 : Nat} {xs3 : Int32} {as4 : Nat} {nc ns : Nat} {Q : XQ} {X : XX} : j_L_stateIn_5 Q X [none, none, none, none, none] [.int xs0, .int xs1, .ref as2, .int xs3, .ref as4] μ nc ns = ((tg μ as2 = some (.inl 8) ∧ nc + 2 ≤ 2 ∧ ns + 12 ≤ 12 ∧ s_X8_stateIn μ [.ref as2, .int xs1, .int xs0] (qI (c_L_stateIn_1 Q X xs3 as4 nc ns)) (fun E μ9 => (E = "java/lang/IndexOutOfBoundsException" ∧ ∀ q : Nat, j_L_stateIn_13 Q X [none, none, none, none, none] [.ref q] μ9 (nc + 2) (ns + 12)) ∨ (E = "java/lang/IllegalArgumentException" ∧ ∀ q : Nat, j_L_stateIn_17 Q X [none, none, none, none, none] [.ref q] μ9 (nc + 2) (ns + 12)) ∨ False))) := by
  rw [j_L_stateIn_5, xseal_eq]
  rfl
set_option maxRecDepth 100000 in
theorem uj_L_stateIn_8 {μ : XM} {xs0 : Int32} {xs1 : Int32} {as2 : Nat} {nc ns : Nat} {Q : XQ} {X : XX} : j_L_stateIn_8 Q X [none, none, none, none, none] [.int xs0, .int xs1, .ref as2] μ nc ns = ((tg μ as2 = some (.inr 3) ∧ vp_in xs1 (ln μ as2) ∧ Q (some (.int (ji 0))) (wL μ as2 (Int32.toNatClampNeg xs1) (Int32.toInt64 xs0)))) := by
  rw [j_L_stateIn_8, xseal_eq]
  rfl
set_option maxRecDepth 100000 in
theorem uj_L_stateIn_13 {μ : XM} {as0 : Nat} {nc ns : Nat} {Q : XQ} {X : XX} : j_L_stateIn_13 Q X [none, none, none, none, none] [.ref as0] μ nc ns = (Q (some (.int (ji 1))) μ) := by
  rw [j_L_stateIn_13, xseal_eq]
  rfl
set_option maxRecDepth 100000 in
theorem uj_L_stateIn_17 {μ : XM} {as0 : Nat} {nc ns : Nat} {Q : XQ} {X : XX} : j_L_stateIn_17 Q X [none, none, none, none, none] [.ref as0] μ nc ns = (Q (some (.int (ji 2))) μ) := by
  rw [j_L_stateIn_17, xseal_eq]
  rfl
set_option maxRecDepth 100000 in
theorem u_L_quietIn {μ : XM} {a0 : Nat} {x1 : Int32} {a2 : Nat} {Q : XQ} {X : XX} : s_L_quietIn μ [.ref a0, .int x1, .ref a2] Q X = (j_L_quietIn_4 Q X [none, none, none, none] [.int x1, .ref a0, .int (ji 0), .ref a2] μ 0 0) := by
  rw [s_L_quietIn, xseal_eq]
  rfl
noncomputable def c_L_quietIn_1 (Q : XQ) (X : XX) (xs2 : Int32) (as3 : Nat) (nc : Nat) (ns : Nat) (r2 : Int32) (μ1 : XM) : Prop := j_L_quietIn_7 Q X [none, none, none, none] [.int r2, .int xs2, .ref as3] μ1 (nc + 1) (ns + 6)
set_option maxRecDepth 100000 in
theorem uj_L_quietIn_4 {μ : XM} {xs0 : Int32} {as1 : Nat} {xs2 : Int32} {as3 : Nat} {nc ns : Nat} {Q : XQ} {X : XX} : j_L_quietIn_4 Q X [none, none, none, none] [.int xs0, .ref as1, .int xs2, .ref as3] μ nc ns = ((tg μ as1 = some (.inl 8) ∧ nc + 1 ≤ 1 ∧ ns + 6 ≤ 6 ∧ s_X8_quietIn μ [.ref as1, .int xs0] (qI (c_L_quietIn_1 Q X xs2 as3 nc ns)) (fun E μ9 => (E = "java/lang/IllegalArgumentException" ∧ ∀ q : Nat, j_L_quietIn_12 Q X [none, none, none, none] [.ref q] μ9 (nc + 1) (ns + 6)) ∨ False))) := by
  rw [j_L_quietIn_4, xseal_eq]
  rfl
set_option maxRecDepth 100000 in
theorem uj_L_quietIn_7 {μ : XM} {xs0 : Int32} {xs1 : Int32} {as2 : Nat} {nc ns : Nat} {Q : XQ} {X : XX} : j_L_quietIn_7 Q X [none, none, none, none] [.int xs0, .int xs1, .ref as2] μ nc ns = ((tg μ as2 = some (.inr 3) ∧ vp_in xs1 (ln μ as2) ∧ Q (some (.int (ji 0))) (wL μ as2 (Int32.toNatClampNeg xs1) (Int32.toInt64 xs0)))) := by
  rw [j_L_quietIn_7, xseal_eq]
  rfl
set_option maxRecDepth 100000 in
theorem uj_L_quietIn_12 {μ : XM} {as0 : Nat} {nc ns : Nat} {Q : XQ} {X : XX} : j_L_quietIn_12 Q X [none, none, none, none] [.ref as0] μ nc ns = (Q (some (.int (ji 1))) μ) := by
  rw [j_L_quietIn_12, xseal_eq]
  rfl
set_option maxRecDepth 100000 in
theorem u_L_fate {μ : XM} {a0 : Nat} {x1 : Int32} {x2 : Int32} {x3 : Int32} {a4 : Nat} {Q : XQ} {X : XX} : s_L_fate μ [.ref a0, .int x1, .int x2, .int x3, .ref a4] Q X = (j_L_fate_7 Q X [none, none, none, none, none, none] [.int x3, .int x2, .int x1, .ref a0, .int (ji 0), .ref a4] μ 0 0) := by
  rw [s_L_fate, xseal_eq]
  rfl
noncomputable def c_L_fate_1 (Q : XQ) (X : XX) (xs4 : Int32) (as5 : Nat) (nc : Nat) (ns : Nat) (r2 : Int32) (μ1 : XM) : Prop := j_L_fate_10 Q X [none, none, none, none, none, none] [.int r2, .int xs4, .ref as5] μ1 (nc + 3) (ns + 18)
set_option maxRecDepth 100000 in
theorem uj_L_fate_7 {μ : XM} {xs0 : Int32} {xs1 : Int32} {xs2 : Int32} {as3 : Nat} {xs4 : Int32} {as5 : Nat} {nc ns : Nat} {Q : XQ} {X : XX} : j_L_fate_7 Q X [none, none, none, none, none, none] [.int xs0, .int xs1, .int xs2, .ref as3, .int xs4, .ref as5] μ nc ns = ((tg μ as3 = some (.inl 8) ∧ nc + 3 ≤ 3 ∧ ns + 18 ≤ 18 ∧ s_X8_fate μ [.ref as3, .int xs2, .int xs1, .int xs0] (qI (c_L_fate_1 Q X xs4 as5 nc ns)) (fun E μ9 => (E = "java/lang/IndexOutOfBoundsException" ∧ ∀ q : Nat, j_L_fate_15 Q X [none, none, none, none, none, none] [.ref q] μ9 (nc + 3) (ns + 18)) ∨ (E = "java/lang/IllegalArgumentException" ∧ ∀ q : Nat, j_L_fate_19 Q X [none, none, none, none, none, none] [.ref q] μ9 (nc + 3) (ns + 18)) ∨ False))) := by
  rw [j_L_fate_7, xseal_eq]
  rfl
set_option maxRecDepth 100000 in
theorem uj_L_fate_10 {μ : XM} {xs0 : Int32} {xs1 : Int32} {as2 : Nat} {nc ns : Nat} {Q : XQ} {X : XX} : j_L_fate_10 Q X [none, none, none, none, none, none] [.int xs0, .int xs1, .ref as2] μ nc ns = ((tg μ as2 = some (.inr 3) ∧ vp_in xs1 (ln μ as2) ∧ Q (some (.int (ji 0))) (wL μ as2 (Int32.toNatClampNeg xs1) (Int32.toInt64 xs0)))) := by
  rw [j_L_fate_10, xseal_eq]
  rfl
set_option maxRecDepth 100000 in
theorem uj_L_fate_15 {μ : XM} {as0 : Nat} {nc ns : Nat} {Q : XQ} {X : XX} : j_L_fate_15 Q X [none, none, none, none, none, none] [.ref as0] μ nc ns = (Q (some (.int (ji 1))) μ) := by
  rw [j_L_fate_15, xseal_eq]
  rfl
set_option maxRecDepth 100000 in
theorem uj_L_fate_19 {μ : XM} {as0 : Nat} {nc ns : Nat} {Q : XQ} {X : XX} : j_L_fate_19 Q X [none, none, none, none, none, none] [.ref as0] μ nc ns = (Q (some (.int (ji 2))) μ) := by
  rw [j_L_fate_19, xseal_eq]
  rfl
set_option maxRecDepth 100000 in
theorem u_L_leastLimit {μ : XM} {a0 : Nat} {x1 : Int32} {x2 : Int32} {a3 : Nat} {Q : XQ} {X : XX} : s_L_leastLimit μ [.ref a0, .int x1, .int x2, .ref a3] Q X = (j_L_leastLimit_5 Q X [none, none, none, none, none] [.int x2, .int x1, .ref a0, .int (ji 0), .ref a3] μ 0 0) := by
  rw [s_L_leastLimit, xseal_eq]
  rfl
noncomputable def c_L_leastLimit_1 (Q : XQ) (X : XX) (xs3 : Int32) (as4 : Nat) (nc : Nat) (ns : Nat) (r2 : Int32) (μ1 : XM) : Prop := j_L_leastLimit_8 Q X [none, none, none, none, none] [.int r2, .int xs3, .ref as4] μ1 (nc + 2) (ns + 12)
set_option maxRecDepth 100000 in
theorem uj_L_leastLimit_5 {μ : XM} {xs0 : Int32} {xs1 : Int32} {as2 : Nat} {xs3 : Int32} {as4 : Nat} {nc ns : Nat} {Q : XQ} {X : XX} : j_L_leastLimit_5 Q X [none, none, none, none, none] [.int xs0, .int xs1, .ref as2, .int xs3, .ref as4] μ nc ns = ((tg μ as2 = some (.inl 8) ∧ nc + 2 ≤ 2 ∧ ns + 12 ≤ 12 ∧ s_X8_leastLimit μ [.ref as2, .int xs1, .int xs0] (qI (c_L_leastLimit_1 Q X xs3 as4 nc ns)) (fun E μ9 => (E = "java/lang/IndexOutOfBoundsException" ∧ ∀ q : Nat, j_L_leastLimit_13 Q X [none, none, none, none, none] [.ref q] μ9 (nc + 2) (ns + 12)) ∨ False))) := by
  rw [j_L_leastLimit_5, xseal_eq]
  rfl
set_option maxRecDepth 100000 in
theorem uj_L_leastLimit_8 {μ : XM} {xs0 : Int32} {xs1 : Int32} {as2 : Nat} {nc ns : Nat} {Q : XQ} {X : XX} : j_L_leastLimit_8 Q X [none, none, none, none, none] [.int xs0, .int xs1, .ref as2] μ nc ns = ((tg μ as2 = some (.inr 3) ∧ vp_in xs1 (ln μ as2) ∧ Q (some (.int (ji 0))) (wL μ as2 (Int32.toNatClampNeg xs1) (Int32.toInt64 xs0)))) := by
  rw [j_L_leastLimit_8, xseal_eq]
  rfl
set_option maxRecDepth 100000 in
theorem uj_L_leastLimit_13 {μ : XM} {as0 : Nat} {nc ns : Nat} {Q : XQ} {X : XX} : j_L_leastLimit_13 Q X [none, none, none, none, none] [.ref as0] μ nc ns = (Q (some (.int (ji 1))) μ) := by
  rw [j_L_leastLimit_13, xseal_eq]
  rfl
set_option maxRecDepth 100000 in
theorem u_L_meanHops {μ : XM} {a0 : Nat} {a1 : Nat} {Q : XQ} {X : XX} : s_L_meanHops μ [.ref a0, .ref a1] Q X = (j_L_meanHops_3 Q X [none, none, none] [.ref a0, .int (ji 0), .ref a1] μ 0 0) := by
  rw [s_L_meanHops, xseal_eq]
  rfl
noncomputable def c_L_meanHops_1 (Q : XQ) (X : XX) (xs1 : Int32) (as2 : Nat) (nc : Nat) (ns : Nat) (e2 : UInt64) (μ1 : XM) : Prop := j_L_meanHops_6 Q X [none, none, none] [.double e2, .int xs1, .ref as2] μ1 (nc + 1) (ns + 6)
set_option maxRecDepth 100000 in
theorem uj_L_meanHops_3 {μ : XM} {as0 : Nat} {xs1 : Int32} {as2 : Nat} {nc ns : Nat} {Q : XQ} {X : XX} : j_L_meanHops_3 Q X [none, none, none] [.ref as0, .int xs1, .ref as2] μ nc ns = ((tg μ as0 = some (.inl 8) ∧ nc + 1 ≤ 1 ∧ ns + 6 ≤ 6 ∧ s_X8_meanHops μ [.ref as0] (qD (c_L_meanHops_1 Q X xs1 as2 nc ns)) (fun E μ9 => (E = "java/lang/ArithmeticException" ∧ ∀ q : Nat, j_L_meanHops_10 Q X [none, none, none] [.ref q] μ9 (nc + 1) (ns + 6)) ∨ False))) := by
  rw [j_L_meanHops_3, xseal_eq]
  rfl
set_option maxRecDepth 100000 in
theorem uj_L_meanHops_6 {μ : XM} {ds0 : UInt64} {xs1 : Int32} {as2 : Nat} {nc ns : Nat} {Q : XQ} {X : XX} : j_L_meanHops_6 Q X [none, none, none] [.double ds0, .int xs1, .ref as2] μ nc ns = ((tg μ as2 = some (.inr 4) ∧ vp_in xs1 (ln μ as2) ∧ Q (some (.int (ji 0))) (wD μ as2 (Int32.toNatClampNeg xs1) ds0))) := by
  rw [j_L_meanHops_6, xseal_eq]
  rfl
set_option maxRecDepth 100000 in
theorem uj_L_meanHops_10 {μ : XM} {as0 : Nat} {nc ns : Nat} {Q : XQ} {X : XX} : j_L_meanHops_10 Q X [none, none, none] [.ref as0] μ nc ns = (Q (some (.int (ji 1))) μ) := by
  rw [j_L_meanHops_10, xseal_eq]
  rfl
set_option maxRecDepth 100000 in
theorem u_L_write {μ : XM} {a0 : Nat} {x1 : Int32} {a2 : Nat} {Q : XQ} {X : XX} : s_L_write μ [.ref a0, .int x1, .ref a2] Q X = (j_L_write_4 Q X [none, none, none, none] [.int x1, .ref a0, .int (ji 0), .ref a2] μ 0 0) := by
  rw [s_L_write, xseal_eq]
  rfl
noncomputable def c_L_write_1 (Q : XQ) (X : XX) (xs2 : Int32) (as3 : Nat) (nc : Nat) (ns : Nat) (r2 : Int32) (μ1 : XM) : Prop := j_L_write_7 Q X [none, none, none, none] [.int r2, .int xs2, .ref as3] μ1 (nc + 1) (ns + 6)
set_option maxRecDepth 100000 in
theorem uj_L_write_4 {μ : XM} {xs0 : Int32} {as1 : Nat} {xs2 : Int32} {as3 : Nat} {nc ns : Nat} {Q : XQ} {X : XX} : j_L_write_4 Q X [none, none, none, none] [.int xs0, .ref as1, .int xs2, .ref as3] μ nc ns = ((tg μ as1 = some (.inl 8) ∧ nc + 1 ≤ 1 ∧ ns + 6 ≤ 6 ∧ s_X8_write μ [.ref as1, .int xs0] (qI (c_L_write_1 Q X xs2 as3 nc ns)) (fun E μ9 => (E = "java/lang/IndexOutOfBoundsException" ∧ ∀ q : Nat, j_L_write_12 Q X [none, none, none, none] [.ref q] μ9 (nc + 1) (ns + 6)) ∨ False))) := by
  rw [j_L_write_4, xseal_eq]
  rfl
set_option maxRecDepth 100000 in
theorem uj_L_write_7 {μ : XM} {xs0 : Int32} {xs1 : Int32} {as2 : Nat} {nc ns : Nat} {Q : XQ} {X : XX} : j_L_write_7 Q X [none, none, none, none] [.int xs0, .int xs1, .ref as2] μ nc ns = ((tg μ as2 = some (.inr 3) ∧ vp_in xs1 (ln μ as2) ∧ Q (some (.int (ji 0))) (wL μ as2 (Int32.toNatClampNeg xs1) (Int32.toInt64 xs0)))) := by
  rw [j_L_write_7, xseal_eq]
  rfl
set_option maxRecDepth 100000 in
theorem uj_L_write_12 {μ : XM} {as0 : Nat} {nc ns : Nat} {Q : XQ} {X : XX} : j_L_write_12 Q X [none, none, none, none] [.ref as0] μ nc ns = (Q (some (.int (ji 1))) μ) := by
  rw [j_L_write_12, xseal_eq]
  rfl
