/-! ===== words of the explicit bodies ===== -/
def ji (z : Int) : Int32 := Int32.ofInt z
def jl (z : Int) : Int64 := Int64.ofInt z
def jshl (x y : Int32) : Int32 := x <<< (y &&& 31)
def jshr (x y : Int32) : Int32 := x >>> (y &&& 31)
def jushr (x y : Int32) : Int32 := (x.toUInt32 >>> (y.toUInt32 &&& Int32.toUInt32 31)).toInt32
def jrem (x y : Int32) : Int32 := x - x / y * y
def jlshl (x : Int64) (y : Int32) : Int64 := x <<< (y.toInt64 &&& 63)
def jlushr (x : Int64) (y : Int32) : Int64 := (x.toUInt64 >>> (y.toInt64.toUInt64 &&& Int64.toUInt64 63)).toInt64
def jtob (x : Int32) : Int32 := x.toInt8.toInt32
def jtoc (x : Int32) : Int32 := (x.toUInt32 % 65536).toInt32
def nb (x : Int32) : Prop := narrow .boolean (.int x) = .int x
def qV (k : XM → Prop) : XQ := fun v μ => match v with | none => k μ | _ => False
def qI (k : Int32 → XM → Prop) : XQ := fun v μ => match v with | some (.int r) => k r μ | _ => False
def qJ (k : Int64 → XM → Prop) : XQ := fun v μ => match v with | some (.long r) => k r μ | _ => False
def qD (k : UInt64 → XM → Prop) : XQ := fun v μ => match v with | some (.double r) => k r μ | _ => False
def qA (k : Nat → XM → Prop) (kn : XM → Prop) : XQ := fun v μ => match v with | some (.ref a) => k a μ | some .null => kn μ | _ => False
set_option maxRecDepth 100000 in
theorem u_X0_hasNode {μ : XM} {a0 : Nat} {x1 : Int32} {Q : XQ} {X : XX} : s_X0_hasNode μ [.ref a0, .int x1] Q X = ((if x1 < 0 then (nb (ji 0) ∧ Q (some (.int (ji 0))) μ) else (tg μ a0 = some (.inl 0) ∧ (if (gI μ 2 a0) ≤ x1 then (nb (ji 0) ∧ Q (some (.int (ji 0))) μ) else (nb (ji 1) ∧ Q (some (.int (ji 1))) μ))))) := by
  rw [s_X0_hasNode, xseal_eq]
  rfl
set_option maxRecDepth 100000 in
theorem u_X0_beyond {μ : XM} {a0 : Nat} {x1 : Int32} {x2 : Int32} {Q : XQ} {X : XX} : s_X0_beyond μ [.ref a0, .int x1, .int x2] Q X = ((if x1 < 0 then Q (some (.int (ji (-1)))) μ else (tg μ a0 = some (.inl 0) ∧ (if (gI μ 2 a0) ≤ x1 then Q (some (.int (ji (-1)))) μ else (if x2 < 0 then Q (some (.int (ji (-1)))) μ else (if x2 < (ji 4) then (tg μ a0 = some (.inl 0) ∧ ∃ b1, gR μ 5 a0 = some b1 ∧ ((∃ k, (k < 7 ∨ k = 9) ∧ tg μ b1 = some (.inr k)) ∧ (if (Int32.ofNat (ln μ b1)) ≤ (((ji 4) * x1) + x2) then Q (some (.int (ji (-1)))) μ else (tg μ a0 = some (.inl 0) ∧ ∃ b2, gR μ 5 a0 = some b2 ∧ ((tg μ b2 = some (.inr 0) ∨ tg μ b2 = some (.inr 9)) ∧ vp_in (((ji 4) * x1) + x2) (ln μ b2) ∧ Q (some (.int (aI μ b2 (Int32.toNatClampNeg (((ji 4) * x1) + x2))))) μ))))) else Q (some (.int (ji (-1)))) μ)))))) := by
  rw [s_X0_beyond, xseal_eq]
  rfl
set_option maxRecDepth 100000 in
theorem u_X0_wayTo {μ : XM} {a0 : Nat} {x1 : Int32} {x2 : Int32} {Q : XQ} {X : XX} : s_X0_wayTo μ [.ref a0, .int x1, .int x2] Q X = (l_X0_wayTo_2 Q X [some (.ref a0), some (.int x1), some (.int x2), some (.int (ji 0))] [] μ 0 0) := by
  rw [s_X0_wayTo, xseal_eq]
  rfl
set_option maxRecDepth 100000 in
theorem ul_X0_wayTo_2 {μ : XM} {a0 : Nat} {x1 : Int32} {x2 : Int32} {x3 : Int32} {nc ns n : Nat} {Q : XQ} {X : XX} : ln_X0_wayTo_2 Q X (n + 1) [some (.ref a0), some (.int x1), some (.int x2), some (.int x3)] [] μ nc ns = ((if (ji 4) ≤ x3 then Q (some (.int (ji (-1)))) μ else (tg μ a0 = some (.inl 0) ∧ s_X0_beyond μ [.ref a0, .int x1, .int x3] (qI fun r2 μ1 => (if r2 = x2 then Q (some (.int x3)) μ1 else ln_X0_wayTo_2 Q X n [some (.ref a0), some (.int x1), some (.int x2), some (.int (x3 + ji 1))] [] μ1 nc ns)) (fun _ _ => False)))) := rfl
set_option maxRecDepth 100000 in
theorem u_X0_greaterEnd {μ : XM} {a0 : Nat} {x1 : Int32} {Q : XQ} {X : XX} : s_X0_greaterEnd μ [.ref a0, .int x1] Q X = ((tg μ a0 = some (.inl 0) ∧ s_X0_beyond μ [.ref a0, .int (jshr x1 (ji 1)), .int (x1 &&& (ji 1))] (qI fun r2 μ1 => Q (some (.int r2)) μ1) (fun _ _ => False))) := by
  rw [s_X0_greaterEnd, xseal_eq]
  rfl
set_option maxRecDepth 100000 in
theorem u_X0_hasLink {μ : XM} {a0 : Nat} {x1 : Int32} {Q : XQ} {X : XX} : s_X0_hasLink μ [.ref a0, .int x1] Q X = ((if x1 < 0 then (nb (ji 0) ∧ Q (some (.int (ji 0))) μ) else (tg μ a0 = some (.inl 0) ∧ s_X0_greaterEnd μ [.ref a0, .int x1] (qI fun r2 μ1 => (if r2 = (ji (-1)) then (nb (ji 0) ∧ Q (some (.int (ji 0))) μ1) else (nb (ji 1) ∧ Q (some (.int (ji 1))) μ1))) (fun _ _ => False)))) := by
  rw [s_X0_hasLink, xseal_eq]
  rfl
set_option maxRecDepth 100000 in
theorem u_X8_putAt {μ : XM} {a0 : Nat} {x1 : Int32} {x2 : Int32} {Q : XQ} {X : XX} : s_X8_putAt μ [.ref a0, .int x1, .int x2] Q X = ((if x1 < 0 then ((none : Option FieldType) = none ∧ Q none μ) else ((∃ k, (k < 7 ∨ k = 9) ∧ tg μ a0 = some (.inr k)) ∧ (if (Int32.ofNat (ln μ a0)) ≤ x1 then ((none : Option FieldType) = none ∧ Q none μ) else (tg μ a0 = some (.inr 0) ∧ vp_in x1 (ln μ a0) ∧ ((none : Option FieldType) = none ∧ Q none (wI μ a0 (Int32.toNatClampNeg x1) x2))))))) := by
  rw [s_X8_putAt, xseal_eq]
  rfl
set_option maxRecDepth 100000 in
theorem u_X0_settle {μ : XM} {a0 : Nat} {x1 : Int32} {x2 : Int32} {x3 : Int32} {Q : XQ} {X : XX} : s_X0_settle μ [.ref a0, .int x1, .int x2, .int x3] Q X = ((tg μ a0 = some (.inl 0) ∧ ∃ b1, gR μ 3 a0 = some b1 ∧ (s_X8_putAt μ [.ref b1, .int x1, .int x2] (qV fun μ2 => (tg μ2 a0 = some (.inl 0) ∧ ∃ b3, gR μ2 4 a0 = some b3 ∧ (s_X8_putAt μ2 [.ref b3, .int x1, .int x3] (qV fun μ4 => (tg μ4 a0 = some (.inl 0) ∧ ∃ b5, gR μ4 5 a0 = some b5 ∧ (tg μ4 a0 = some (.inl 0) ∧ (if (gI μ4 0 a0) ≤ (x2 + (ji 1)) then j_X0_settle_44 Q X [some (.ref a0), some (.int x1), some (.int x2), some (.int x3)] [.int (ji (-1)), .int (((ji 4) * x1) + (ji 0)), .ref b5] μ4 0 0 else j_X0_settle_44 Q X [some (.ref a0), some (.int x1), some (.int x2), some (.int x3)] [.int (x1 + (ji 1)), .int (((ji 4) * x1) + (ji 0)), .ref b5] μ4 0 0)))) (fun _ _ => False)))) (fun _ _ => False)))) := by
  rw [s_X0_settle, xseal_eq]
  rfl
set_option maxRecDepth 100000 in
theorem uj_X0_settle_44 {μ : XM} {a0 : Nat} {x1 : Int32} {x2 : Int32} {x3 : Int32} {xs0 : Int32} {xs1 : Int32} {as2 : Nat} {nc ns : Nat} {Q : XQ} {X : XX} : j_X0_settle_44 Q X [some (.ref a0), some (.int x1), some (.int x2), some (.int x3)] [.int xs0, .int xs1, .ref as2] μ nc ns = ((s_X8_putAt μ [.ref as2, .int xs1, .int xs0] (qV fun μ6 => (tg μ6 a0 = some (.inl 0) ∧ ∃ b7, gR μ6 5 a0 = some b7 ∧ (tg μ6 a0 = some (.inl 0) ∧ (if (gI μ6 1 a0) ≤ (x3 + (ji 1)) then j_X0_settle_76 Q X [some (.ref a0), some (.int x1), some (.int x2), some (.int x3)] [.int (ji (-1)), .int (((ji 4) * x1) + (ji 1)), .ref b7] μ6 nc ns else (tg μ6 a0 = some (.inl 0) ∧ j_X0_settle_76 Q X [some (.ref a0), some (.int x1), some (.int x2), some (.int x3)] [.int (x1 + (gI μ6 0 a0)), .int (((ji 4) * x1) + (ji 1)), .ref b7] μ6 nc ns))))) (fun _ _ => False))) := by
  rw [j_X0_settle_44, xseal_eq]
  rfl
set_option maxRecDepth 100000 in
theorem uj_X0_settle_76 {μ : XM} {a0 : Nat} {x1 : Int32} {x2 : Int32} {x3 : Int32} {xs0 : Int32} {xs1 : Int32} {as2 : Nat} {nc ns : Nat} {Q : XQ} {X : XX} : j_X0_settle_76 Q X [some (.ref a0), some (.int x1), some (.int x2), some (.int x3)] [.int xs0, .int xs1, .ref as2] μ nc ns = ((s_X8_putAt μ [.ref as2, .int xs1, .int xs0] (qV fun μ8 => (tg μ8 a0 = some (.inl 0) ∧ ∃ b9, gR μ8 5 a0 = some b9 ∧ (if x2 ≤ 0 then j_X0_settle_99 Q X [some (.ref a0), some (.int x1), none, some (.int x3)] [.int (ji (-1)), .int (((ji 4) * x1) + (ji 2)), .ref b9] μ8 nc ns else j_X0_settle_99 Q X [some (.ref a0), some (.int x1), none, some (.int x3)] [.int (x1 - (ji 1)), .int (((ji 4) * x1) + (ji 2)), .ref b9] μ8 nc ns))) (fun _ _ => False))) := by
  rw [j_X0_settle_76, xseal_eq]
  rfl
set_option maxRecDepth 100000 in
theorem uj_X0_settle_99 {μ : XM} {a0 : Nat} {x1 : Int32} {x3 : Int32} {xs0 : Int32} {xs1 : Int32} {as2 : Nat} {nc ns : Nat} {Q : XQ} {X : XX} : j_X0_settle_99 Q X [some (.ref a0), some (.int x1), none, some (.int x3)] [.int xs0, .int xs1, .ref as2] μ nc ns = ((s_X8_putAt μ [.ref as2, .int xs1, .int xs0] (qV fun μ10 => (tg μ10 a0 = some (.inl 0) ∧ ∃ b11, gR μ10 5 a0 = some b11 ∧ (if x3 ≤ 0 then (s_X8_putAt μ10 [.ref b11, .int (((ji 4) * x1) + (ji 3)), .int (ji (-1))] (qV fun μ12 => ((none : Option FieldType) = none ∧ Q none μ12)) (fun _ _ => False)) else (tg μ10 a0 = some (.inl 0) ∧ (s_X8_putAt μ10 [.ref b11, .int (((ji 4) * x1) + (ji 3)), .int (x1 - (gI μ10 0 a0))] (qV fun μ13 => ((none : Option FieldType) = none ∧ Q none μ13)) (fun _ _ => False)))))) (fun _ _ => False))) := by
  rw [j_X0_settle_99, xseal_eq]
  rfl
set_option maxRecDepth 100000 in
theorem u_X0_shape {μ : XM} {a0 : Nat} {x1 : Int32} {x2 : Int32} {Q : XQ} {X : XX} : s_X0_shape μ [.ref a0, .int x1, .int x2] Q X = ((tg μ a0 = some (.inl 0) ∧ (tg (sI μ 0 a0 x1) a0 = some (.inl 0) ∧ (tg (sI (sI μ 0 a0 x1) 1 a0 x2) a0 = some (.inl 0) ∧ l_X0_shape_19 Q X [some (.ref a0), none, none, some (.int (ji 0)), none] [] (sI (sI (sI μ 0 a0 x1) 1 a0 x2) 2 a0 (x1 * x2)) 0 0)))) := by
  rw [s_X0_shape, xseal_eq]
  rfl
set_option maxRecDepth 100000 in
theorem ul_X0_shape_19 {μ : XM} {a0 : Nat} {x3 : Int32} {nc ns n : Nat} {Q : XQ} {X : XX} : ln_X0_shape_19 Q X (n + 1) [some (.ref a0), none, none, some (.int x3), none] [] μ nc ns = ((tg μ a0 = some (.inl 0) ∧ (if (gI μ 1 a0) ≤ x3 then ((none : Option FieldType) = none ∧ Q none μ) else l_X0_shape_30 Q X (ln_X0_shape_19 Q X n) [some (.ref a0), none, none, some (.int x3), some (.int (ji 0))] [] μ nc ns))) := rfl
set_option maxRecDepth 100000 in
theorem ul_X0_shape_30 {μ : XM} {a0 : Nat} {x3 : Int32} {x4 : Int32} {nc ns n : Nat} {Q : XQ} {X : XX} {F19 : XFT} : ln_X0_shape_30 Q X F19 (n + 1) [some (.ref a0), none, none, some (.int x3), some (.int x4)] [] μ nc ns = ((tg μ a0 = some (.inl 0) ∧ (if (gI μ 0 a0) ≤ x4 then F19 [some (.ref a0), none, none, some (.int (x3 + ji 1)), none] [] μ nc ns else (tg μ a0 = some (.inl 0) ∧ (tg μ a0 = some (.inl 0) ∧ s_X0_settle μ [.ref a0, .int (((gI μ 0 a0) * x3) + x4), .int x4, .int x3] (qV fun μ1 => ln_X0_shape_30 Q X F19 n [some (.ref a0), none, none, some (.int x3), some (.int (x4 + ji 1))] [] μ1 nc ns) (fun _ _ => False)))))) := rfl
set_option maxRecDepth 100000 in
theorem u_X0_apart {μ : XM} {a0 : Nat} {x1 : Int32} {x2 : Int32} {Q : XQ} {X : XX} : s_X0_apart μ [.ref a0, .int x1, .int x2] Q X = ((if x1 < 0 then Q (some (.int (ji 0))) μ else (tg μ a0 = some (.inl 0) ∧ ∃ b1, gR μ 3 a0 = some b1 ∧ ((∃ k, (k < 7 ∨ k = 9) ∧ tg μ b1 = some (.inr k)) ∧ (if (Int32.ofNat (ln μ b1)) ≤ x1 then Q (some (.int (ji 0))) μ else (if x2 < 0 then Q (some (.int (ji 0))) μ else (tg μ a0 = some (.inl 0) ∧ ∃ b2, gR μ 3 a0 = some b2 ∧ ((∃ k, (k < 7 ∨ k = 9) ∧ tg μ b2 = some (.inr k)) ∧ (if (Int32.ofNat (ln μ b2)) ≤ x2 then Q (some (.int (ji 0))) μ else (tg μ a0 = some (.inl 0) ∧ ∃ b3, gR μ 4 a0 = some b3 ∧ ((∃ k, (k < 7 ∨ k = 9) ∧ tg μ b3 = some (.inr k)) ∧ (if (Int32.ofNat (ln μ b3)) ≤ x1 then Q (some (.int (ji 0))) μ else (tg μ a0 = some (.inl 0) ∧ ∃ b4, gR μ 4 a0 = some b4 ∧ ((∃ k, (k < 7 ∨ k = 9) ∧ tg μ b4 = some (.inr k)) ∧ (if x2 < (Int32.ofNat (ln μ b4)) then (tg μ a0 = some (.inl 0) ∧ ∃ b5, gR μ 3 a0 = some b5 ∧ ((tg μ b5 = some (.inr 0) ∨ tg μ b5 = some (.inr 9)) ∧ vp_in x1 (ln μ b5) ∧ (tg μ a0 = some (.inl 0) ∧ ∃ b6, gR μ 3 a0 = some b6 ∧ ((tg μ b6 = some (.inr 0) ∨ tg μ b6 = some (.inr 9)) ∧ vp_in x2 (ln μ b6) ∧ (tg μ a0 = some (.inl 0) ∧ ∃ b7, gR μ 4 a0 = some b7 ∧ ((tg μ b7 = some (.inr 0) ∨ tg μ b7 = some (.inr 9)) ∧ vp_in x1 (ln μ b7) ∧ (tg μ a0 = some (.inl 0) ∧ ∃ b8, gR μ 4 a0 = some b8 ∧ ((tg μ b8 = some (.inr 0) ∨ tg μ b8 = some (.inr 9)) ∧ vp_in x2 (ln μ b8) ∧ (if 0 ≤ ((aI μ b5 (Int32.toNatClampNeg x1)) - (aI μ b6 (Int32.toNatClampNeg x2))) then (if 0 ≤ ((aI μ b7 (Int32.toNatClampNeg x1)) - (aI μ b8 (Int32.toNatClampNeg x2))) then Q (some (.int (((aI μ b5 (Int32.toNatClampNeg x1)) - (aI μ b6 (Int32.toNatClampNeg x2))) + ((aI μ b7 (Int32.toNatClampNeg x1)) - (aI μ b8 (Int32.toNatClampNeg x2)))))) μ else Q (some (.int (((aI μ b5 (Int32.toNatClampNeg x1)) - (aI μ b6 (Int32.toNatClampNeg x2))) + (-((aI μ b7 (Int32.toNatClampNeg x1)) - (aI μ b8 (Int32.toNatClampNeg x2))))))) μ) else (if 0 ≤ ((aI μ b7 (Int32.toNatClampNeg x1)) - (aI μ b8 (Int32.toNatClampNeg x2))) then Q (some (.int ((-((aI μ b5 (Int32.toNatClampNeg x1)) - (aI μ b6 (Int32.toNatClampNeg x2)))) + ((aI μ b7 (Int32.toNatClampNeg x1)) - (aI μ b8 (Int32.toNatClampNeg x2)))))) μ else Q (some (.int ((-((aI μ b5 (Int32.toNatClampNeg x1)) - (aI μ b6 (Int32.toNatClampNeg x2)))) + (-((aI μ b7 (Int32.toNatClampNeg x1)) - (aI μ b8 (Int32.toNatClampNeg x2))))))) μ)))))))))) else Q (some (.int (ji 0))) μ))))))))))))))) := by
  rw [s_X0_apart, xseal_eq]
  rfl
set_option maxRecDepth 100000 in
theorem u_X8_requireNode {μ : XM} {a0 : Nat} {x1 : Int32} {Q : XQ} {X : XX} : s_X8_requireNode μ [.ref a0, .int x1] Q X = ((tg μ a0 = some (.inl 8) ∧ ∃ b1, gR μ 256 a0 = some b1 ∧ (tg μ b1 = some (.inl 7) ∧ ∃ b2, gR μ 224 b1 = some b2 ∧ (tg μ b2 = some (.inl 0) ∧ s_X0_hasNode μ [.ref b2, .int x1] (qI fun r4 μ3 => (if r4 = 0 then (0 + 1 ≤ 1 ∧ 0 + 6 ≤ 6 ∧ X "java/lang/IndexOutOfBoundsException" (uF μ3)) else ((none : Option FieldType) = none ∧ Q none μ3))) (fun _ _ => False))))) := by
  rw [s_X8_requireNode, xseal_eq]
  rfl
