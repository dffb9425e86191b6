set_option maxRecDepth 100000 in
theorem u_X8_nextStale {μ : XM} {a0 : Nat} {Q : XQ} {X : XX} : s_X8_nextStale μ [.ref a0] Q X = (l_X8_nextStale_4 Q X [some (.ref a0), some (.int (ji (-1))), some (.int (ji 0)), none, none] [] μ 0 0) := by
  rw [s_X8_nextStale, xseal_eq]
  rfl
set_option maxRecDepth 100000 in
theorem ul_X8_nextStale_4 {μ : XM} {a0 : Nat} {x1 : Int32} {x2 : Int32} {nc ns n : Nat} {Q : XQ} {X : XX} : ln_X8_nextStale_4 Q X (n + 1) [some (.ref a0), some (.int x1), some (.int x2), none, none] [] μ nc ns = ((tg μ a0 = some (.inl 8) ∧ ∃ b1, gR μ 256 a0 = some b1 ∧ (tg μ b1 = some (.inl 7) ∧ ∃ b2, gR μ 224 b1 = some b2 ∧ (tg μ b2 = some (.inl 0) ∧ (if (gI μ 2 b2) ≤ x2 then (if x1 = (ji (-1)) then Q (some (.int (ji (-1)))) μ else (tg μ a0 = some (.inl 8) ∧ ∃ b3, gR μ 256 a0 = some b3 ∧ (tg μ b3 = some (.inl 7) ∧ Q (some (.int (x1 + (gI μ 228 b3)))) μ))) else l_X8_nextStale_20 Q X (ln_X8_nextStale_4 Q X n) [some (.ref a0), some (.int x1), some (.int x2), some (.int (ji 0)), none] [] μ nc ns))))) := rfl
noncomputable def c_X8_nextStale_1 (Q : XQ) (X : XX) (F4 : XFT) (n : Nat) (a0 : Nat) (x1 : Int32) (x2 : Int32) (x3 : Int32) (nc : Nat) (ns : Nat) (r6 : Int32) (r9 : Int32) (μ8 : XM) : Prop := (if r9 = 0 then ln_X8_nextStale_20 Q X F4 n [some (.ref a0), some (.int x1), some (.int x2), some (.int (x3 + ji 1)), none] [] μ8 nc ns else (if x1 = (ji (-1)) then ln_X8_nextStale_20 Q X F4 n [some (.ref a0), some (.int r6), some (.int x2), some (.int (x3 + ji 1)), none] [] μ8 nc ns else (if x1 ≤ r6 then ln_X8_nextStale_20 Q X F4 n [some (.ref a0), some (.int x1), some (.int x2), some (.int (x3 + ji 1)), none] [] μ8 nc ns else ln_X8_nextStale_20 Q X F4 n [some (.ref a0), some (.int r6), some (.int x2), some (.int (x3 + ji 1)), none] [] μ8 nc ns)))
noncomputable def c_X8_nextStale_2 (a0 : Nat) (x2 : Int32) (x3 : Int32) (Q : XQ) (X : XX) (F4 : XFT) (n : Nat) (x1 : Int32) (nc : Nat) (ns : Nat) (r6 : Int32) (μ5 : XM) : Prop := (tg μ5 a0 = some (.inl 8) ∧ ∃ b7, gR μ5 256 a0 = some b7 ∧ (tg μ5 b7 = some (.inl 7) ∧ s_X7_isWarned μ5 [.ref b7, .int x2, .int x3] (qI (c_X8_nextStale_1 Q X F4 n a0 x1 x2 x3 nc ns r6)) (fun _ _ => False)))
set_option maxRecDepth 100000 in
theorem ul_X8_nextStale_20 {μ : XM} {a0 : Nat} {x1 : Int32} {x2 : Int32} {x3 : Int32} {nc ns n : Nat} {Q : XQ} {X : XX} {F4 : XFT} : ln_X8_nextStale_20 Q X F4 (n + 1) [some (.ref a0), some (.int x1), some (.int x2), some (.int x3), none] [] μ nc ns = ((if (ji 72) ≤ x3 then F4 [some (.ref a0), some (.int x1), some (.int (x2 + ji 1)), none, none] [] μ nc ns else (tg μ a0 = some (.inl 8) ∧ ∃ b4, gR μ 256 a0 = some b4 ∧ (tg μ b4 = some (.inl 7) ∧ s_X7_lessonTime μ [.ref b4, .int x2, .int x3] (qI (c_X8_nextStale_2 a0 x2 x3 Q X F4 n x1 nc ns)) (fun _ _ => False))))) := rfl
noncomputable def c_X8_outputByte_1 (Q : XQ) (r3 : Int32) (μ2 : XM) : Prop := Q (some (.int r3)) μ2
set_option maxRecDepth 100000 in
theorem u_X8_outputByte {μ : XM} {a0 : Nat} {x1 : Int32} {Q : XQ} {X : XX} : s_X8_outputByte μ [.ref a0, .int x1] Q X = ((tg μ a0 = some (.inl 8) ∧ (if (gI μ 266 a0) ≤ x1 then Q (some (.int (ji (-1)))) μ else (tg μ a0 = some (.inl 8) ∧ ∃ b1, gR μ 265 a0 = some b1 ∧ (s_X8_valueAt μ [.ref b1, .int x1] (qI (c_X8_outputByte_1 Q)) (fun _ _ => False)))))) := by
  rw [s_X8_outputByte, xseal_eq]
  rfl
noncomputable def c_X8_packet_1 (Q : XQ) (r6 : Int32) (μ5 : XM) : Prop := Q (some (.int r6)) μ5
noncomputable def c_X8_packet_2 (x2 : Int32) (Q : XQ) (b4 : Nat) (μ3 : XM) : Prop := (tg μ3 b4 = some (.inl 3) ∧ s_X3_property μ3 [.ref b4, .int x2] (qI (c_X8_packet_1 Q)) (fun _ _ => False))
noncomputable def c_X8_packet_3 (Q : XQ) (μ3 : XM) : Prop := Q (some (.int (ji (-1)))) μ3
noncomputable def c_X8_packet_4 (a0 : Nat) (x1 : Int32) (x2 : Int32) (Q : XQ) (μ1 : XM) : Prop := (tg μ1 a0 = some (.inl 8) ∧ ∃ b2, gR μ1 256 a0 = some b2 ∧ (tg μ1 b2 = some (.inl 7) ∧ s_X7_packetOf μ1 [.ref b2, .int x1] (qA (c_X8_packet_2 x2 Q) (c_X8_packet_3 Q)) (fun _ _ => False)))
set_option maxRecDepth 100000 in
theorem u_X8_packet {μ : XM} {a0 : Nat} {x1 : Int32} {x2 : Int32} {Q : XQ} {X : XX} : s_X8_packet μ [.ref a0, .int x1, .int x2] Q X = ((tg μ a0 = some (.inl 8) ∧ 0 + 1 ≤ 1 ∧ 0 + 6 ≤ 6 ∧ s_X8_requirePacket μ [.ref a0, .int x1] (qV (c_X8_packet_4 a0 x1 x2 Q)) X)) := by
  rw [s_X8_packet, xseal_eq]
  rfl
noncomputable def c_X8_packetsAt_1 (Q : XQ) (r4 : Int32) (μ3 : XM) : Prop := Q (some (.int r4)) μ3
noncomputable def c_X8_packetsAt_2 (a0 : Nat) (x1 : Int32) (Q : XQ) (μ1 : XM) : Prop := (tg μ1 a0 = some (.inl 8) ∧ ∃ b2, gR μ1 256 a0 = some b2 ∧ (tg μ1 b2 = some (.inl 7) ∧ s_X7_activeAt μ1 [.ref b2, .int x1] (qI (c_X8_packetsAt_1 Q)) (fun _ _ => False)))
set_option maxRecDepth 100000 in
theorem u_X8_packetsAt {μ : XM} {a0 : Nat} {x1 : Int32} {Q : XQ} {X : XX} : s_X8_packetsAt μ [.ref a0, .int x1] Q X = ((tg μ a0 = some (.inl 8) ∧ 0 + 1 ≤ 1 ∧ 0 + 6 ≤ 6 ∧ s_X8_requireNode μ [.ref a0, .int x1] (qV (c_X8_packetsAt_2 a0 x1 Q)) X)) := by
  rw [s_X8_packetsAt, xseal_eq]
  rfl
set_option maxRecDepth 100000 in
theorem u_X8_packetsIn {μ : XM} {a0 : Nat} {x1 : Int32} {Q : XQ} {X : XX} : s_X8_packetsIn μ [.ref a0, .int x1] Q X = ((if x1 < 0 then (0 + 1 ≤ 1 ∧ 0 + 6 ≤ 6 ∧ X "java/lang/IllegalArgumentException" (uF μ)) else (if x1 ≤ (ji 5) then l_X8_packetsIn_24 Q X [some (.ref a0), some (.int x1), some (.int (ji 0)), some (.int (ji 0)), none] [] μ 0 0 else (0 + 1 ≤ 1 ∧ 0 + 6 ≤ 6 ∧ X "java/lang/IllegalArgumentException" (uF μ))))) := by
  rw [s_X8_packetsIn, xseal_eq]
  rfl
noncomputable def c_X8_packetsIn_1 (x1 : Int32) (Q : XQ) (X : XX) (n : Nat) (a0 : Nat) (x2 : Int32) (x3 : Int32) (nc : Nat) (ns : Nat) (b4 : Nat) (μ3 : XM) : Prop := (tg μ3 b4 = some (.inl 3) ∧ (if (gI μ3 99 b4) = x1 then ln_X8_packetsIn_24 Q X n [some (.ref a0), some (.int x1), some (.int (x2 ||| (jshl (ji 1) x3))), some (.int (x3 + ji 1)), none] [] μ3 nc ns else ln_X8_packetsIn_24 Q X n [some (.ref a0), some (.int x1), some (.int x2), some (.int (x3 + ji 1)), none] [] μ3 nc ns))
noncomputable def c_X8_packetsIn_2 (Q : XQ) (X : XX) (n : Nat) (a0 : Nat) (x1 : Int32) (x2 : Int32) (x3 : Int32) (nc : Nat) (ns : Nat) (μ3 : XM) : Prop := ln_X8_packetsIn_24 Q X n [some (.ref a0), some (.int x1), some (.int x2), some (.int (x3 + ji 1)), none] [] μ3 nc ns
set_option maxRecDepth 100000 in
theorem ul_X8_packetsIn_24 {μ : XM} {a0 : Nat} {x1 : Int32} {x2 : Int32} {x3 : Int32} {nc ns n : Nat} {Q : XQ} {X : XX} : ln_X8_packetsIn_24 Q X (n + 1) [some (.ref a0), some (.int x1), some (.int x2), some (.int x3), none] [] μ nc ns = ((tg μ a0 = some (.inl 8) ∧ ∃ b1, gR μ 256 a0 = some b1 ∧ (tg μ b1 = some (.inl 7) ∧ (if (gI μ 230 b1) ≤ x3 then Q (some (.int x2)) μ else (tg μ a0 = some (.inl 8) ∧ ∃ b2, gR μ 256 a0 = some b2 ∧ (tg μ b2 = some (.inl 7) ∧ s_X7_packetOf μ [.ref b2, .int x3] (qA (c_X8_packetsIn_1 x1 Q X n a0 x2 x3 nc ns) (c_X8_packetsIn_2 Q X n a0 x1 x2 x3 nc ns)) (fun _ _ => False))))))) := rfl
noncomputable def c_X8_packetsTo_1 (Q : XQ) (X : XX) (a0 : Nat) (x1 : Int32) (μ1 : XM) : Prop := l_X8_packetsTo_9 Q X [some (.ref a0), some (.int x1), some (.int (ji 0)), some (.int (ji 0)), none] [] μ1 (0 + 1) (0 + 6)
set_option maxRecDepth 100000 in
theorem u_X8_packetsTo {μ : XM} {a0 : Nat} {x1 : Int32} {Q : XQ} {X : XX} : s_X8_packetsTo μ [.ref a0, .int x1] Q X = ((tg μ a0 = some (.inl 8) ∧ 0 + 1 ≤ 1 ∧ 0 + 6 ≤ 6 ∧ s_X8_requireNode μ [.ref a0, .int x1] (qV (c_X8_packetsTo_1 Q X a0 x1)) X)) := by
  rw [s_X8_packetsTo, xseal_eq]
  rfl
noncomputable def c_X8_packetsTo_2 (x1 : Int32) (Q : XQ) (X : XX) (n : Nat) (a0 : Nat) (x2 : Int32) (x3 : Int32) (nc : Nat) (ns : Nat) (b5 : Nat) (μ4 : XM) : Prop := (tg μ4 b5 = some (.inl 3) ∧ (if (gI μ4 97 b5) = x1 then ln_X8_packetsTo_9 Q X n [some (.ref a0), some (.int x1), some (.int (x2 ||| (jshl (ji 1) x3))), some (.int (x3 + ji 1)), none] [] μ4 nc ns else ln_X8_packetsTo_9 Q X n [some (.ref a0), some (.int x1), some (.int x2), some (.int (x3 + ji 1)), none] [] μ4 nc ns))
noncomputable def c_X8_packetsTo_3 (Q : XQ) (X : XX) (n : Nat) (a0 : Nat) (x1 : Int32) (x2 : Int32) (x3 : Int32) (nc : Nat) (ns : Nat) (μ4 : XM) : Prop := ln_X8_packetsTo_9 Q X n [some (.ref a0), some (.int x1), some (.int x2), some (.int (x3 + ji 1)), none] [] μ4 nc ns
set_option maxRecDepth 100000 in
theorem ul_X8_packetsTo_9 {μ : XM} {a0 : Nat} {x1 : Int32} {x2 : Int32} {x3 : Int32} {nc ns n : Nat} {Q : XQ} {X : XX} : ln_X8_packetsTo_9 Q X (n + 1) [some (.ref a0), some (.int x1), some (.int x2), some (.int x3), none] [] μ nc ns = ((tg μ a0 = some (.inl 8) ∧ ∃ b2, gR μ 256 a0 = some b2 ∧ (tg μ b2 = some (.inl 7) ∧ (if (gI μ 230 b2) ≤ x3 then Q (some (.int x2)) μ else (tg μ a0 = some (.inl 8) ∧ ∃ b3, gR μ 256 a0 = some b3 ∧ (tg μ b3 = some (.inl 7) ∧ s_X7_packetOf μ [.ref b3, .int x3] (qA (c_X8_packetsTo_2 x1 Q X n a0 x2 x3 nc ns) (c_X8_packetsTo_3 Q X n a0 x1 x2 x3 nc ns)) (fun _ _ => False))))))) := rfl
noncomputable def c_X8_parts_1 (Q : XQ) (X : XX) (a0 : Nat) (μ3 : XM) : Prop := l_X8_parts_18 Q X [some (.ref a0), some (.int (ji 0)), some (.long (jl 0)), none, some (.int (ji 0))] [] μ3 0 0
set_option maxRecDepth 100000 in
theorem u_X8_parts {μ : XM} {a0 : Nat} {Q : XQ} {X : XX} : s_X8_parts μ [.ref a0] Q X = ((tg μ a0 = some (.inl 8) ∧ ∃ b1, gR μ 259 a0 = some b1 ∧ (tg μ a0 = some (.inl 8) ∧ ∃ b2, gR μ 256 a0 = some b2 ∧ (tg μ b1 = some (.inl 4) ∧ s_X4_openAlive μ [.ref b1, .ref b2] (qV (c_X8_parts_1 Q X a0)) (fun _ _ => False))))) := by
  rw [s_X8_parts, xseal_eq]
  rfl
noncomputable def c_X8_parts_2 (Q : XQ) (X : XX) (n : Nat) (a0 : Nat) (x1 : Int32) (y2 : Int64) (x4 : Int32) (nc : Nat) (ns : Nat) (w12 : Int64) (μ11 : XM) : Prop := ln_X8_parts_18 Q X n [some (.ref a0), some (.int (x1 + ji 1)), some (.long (y2 ||| w12)), none, some (.int (x4 + ji 1))] [] μ11 nc ns
noncomputable def c_X8_parts_3 (a0 : Nat) (Q : XQ) (X : XX) (n : Nat) (x1 : Int32) (y2 : Int64) (x4 : Int32) (nc : Nat) (ns : Nat) (μ9 : XM) : Prop := (tg μ9 a0 = some (.inl 8) ∧ ∃ b10, gR μ9 259 a0 = some b10 ∧ (tg μ9 b10 = some (.inl 4) ∧ s_X4_reachedNodes μ9 [.ref b10] (qJ (c_X8_parts_2 Q X n a0 x1 y2 x4 nc ns)) (fun _ _ => False)))
set_option maxRecDepth 100000 in
theorem ul_X8_parts_18 {μ : XM} {a0 : Nat} {x1 : Int32} {y2 : Int64} {x4 : Int32} {nc ns n : Nat} {Q : XQ} {X : XX} : ln_X8_parts_18 Q X (n + 1) [some (.ref a0), some (.int x1), some (.long y2), none, some (.int x4)] [] μ nc ns = ((tg μ a0 = some (.inl 8) ∧ ∃ b4, gR μ 256 a0 = some b4 ∧ (tg μ b4 = some (.inl 7) ∧ ∃ b5, gR μ 224 b4 = some b5 ∧ (tg μ b5 = some (.inl 0) ∧ (if (gI μ 2 b5) ≤ x4 then Q (some (.int x1)) μ else (if (lg_cmp (y2 &&& (jlshl (jl 1) x4)) (jl 0)) = 0 then (tg μ a0 = some (.inl 8) ∧ ∃ b6, gR μ 259 a0 = some b6 ∧ (tg μ a0 = some (.inl 8) ∧ ∃ b7, gR μ 256 a0 = some b7 ∧ (tg μ b7 = some (.inl 7) ∧ ∃ b8, gR μ 224 b7 = some b8 ∧ (tg μ b6 = some (.inl 4) ∧ s_X4_spread μ [.ref b6, .ref b8, .int x4] (qV (c_X8_parts_3 a0 Q X n x1 y2 x4 nc ns)) (fun _ _ => False))))) else ln_X8_parts_18 Q X n [some (.ref a0), some (.int x1), some (.long y2), none, some (.int (x4 + ji 1))] [] μ nc ns)))))) := rfl
noncomputable def c_X8_passTime_1 (a0 : Nat) (Q : XQ) (μ6 : XM) : Prop := (tg μ6 a0 = some (.inl 8) ∧ ∃ b7, gR μ6 256 a0 = some b7 ∧ (tg μ6 b7 = some (.inl 7) ∧ Q (some (.int (gI μ6 229 b7))) μ6))
noncomputable def c_X8_passTime_2 (a0 : Nat) (x1 : Int32) (Q : XQ) (μ4 : XM) : Prop := (tg μ4 a0 = some (.inl 8) ∧ ∃ b5, gR μ4 256 a0 = some b5 ∧ (tg μ4 b5 = some (.inl 7) ∧ s_X7_pass μ4 [.ref b5, .int x1] (qV (c_X8_passTime_1 a0 Q)) (fun _ _ => False)))
set_option maxRecDepth 100000 in
theorem u_X8_passTime {μ : XM} {a0 : Nat} {x1 : Int32} {Q : XQ} {X : XX} : s_X8_passTime μ [.ref a0, .int x1] Q X = ((tg μ a0 = some (.inl 8) ∧ ∃ b1, gR μ 256 a0 = some b1 ∧ (tg μ b1 = some (.inl 7) ∧ (if ((gI μ 229 b1) + x1) ≤ (ji 30000) then (tg μ a0 = some (.inl 8) ∧ ∃ b2, gR μ 258 a0 = some b2 ∧ (tg μ a0 = some (.inl 8) ∧ ∃ b3, gR μ 256 a0 = some b3 ∧ (tg μ b2 = some (.inl 1) ∧ s_X1_remember μ [.ref b2, .ref b3] (qV (c_X8_passTime_2 a0 x1 Q)) (fun _ _ => False)))) else Q (some (.int (ji (-2)))) μ)))) := by
  rw [s_X8_passTime, xseal_eq]
  rfl
noncomputable def c_X8_sendPacket_1 (a0 : Nat) (Q : XQ) (b7 : Nat) (μ6 : XM) : Prop := (Value.category (.ref b7) = 1 ∧ (tg μ6 a0 = some (.inl 8) ∧ ∃ b8, gR μ6 256 a0 = some b8 ∧ (tg μ6 b8 = some (.inl 7) ∧ Q (some (.int ((gI μ6 230 b8) - (ji 1)))) μ6)))
noncomputable def c_X8_sendPacket_2 (a0 : Nat) (Q : XQ) (μ6 : XM) : Prop := (Value.category (.null) = 1 ∧ (tg μ6 a0 = some (.inl 8) ∧ ∃ b9, gR μ6 256 a0 = some b9 ∧ (tg μ6 b9 = some (.inl 7) ∧ Q (some (.int ((gI μ6 230 b9) - (ji 1)))) μ6)))
noncomputable def c_X8_sendPacket_3 (a0 : Nat) (x1 : Int32) (x2 : Int32) (x3 : Int32) (Q : XQ) (μ4 : XM) : Prop := (tg μ4 a0 = some (.inl 8) ∧ ∃ b5, gR μ4 256 a0 = some b5 ∧ (tg μ4 b5 = some (.inl 7) ∧ s_X7_addPacket μ4 [.ref b5, .int x1, .int x2, .int x3] (qA (c_X8_sendPacket_1 a0 Q) (c_X8_sendPacket_2 a0 Q)) (fun _ _ => False)))
set_option maxRecDepth 100000 in
theorem u_X8_sendPacket {μ : XM} {a0 : Nat} {x1 : Int32} {x2 : Int32} {x3 : Int32} {Q : XQ} {X : XX} : s_X8_sendPacket μ [.ref a0, .int x1, .int x2, .int x3] Q X = ((if x1 = x2 then Q (some (.int (ji (-4)))) μ else (tg μ a0 = some (.inl 8) ∧ ∃ b1, gR μ 256 a0 = some b1 ∧ (tg μ b1 = some (.inl 7) ∧ (if (gI μ 230 b1) < (ji 24) then (tg μ a0 = some (.inl 8) ∧ ∃ b2, gR μ 258 a0 = some b2 ∧ (tg μ a0 = some (.inl 8) ∧ ∃ b3, gR μ 256 a0 = some b3 ∧ (tg μ b2 = some (.inl 1) ∧ s_X1_remember μ [.ref b2, .ref b3] (qV (c_X8_sendPacket_3 a0 x1 x2 x3 Q)) (fun _ _ => False)))) else Q (some (.int (ji (-2)))) μ))))) := by
  rw [s_X8_sendPacket, xseal_eq]
  rfl
noncomputable def c_X8_perform_1 (Q : XQ) (r22 : Int32) (μ21 : XM) : Prop := (if r22 < 0 then (nb (ji 0) ∧ Q (some (.int (ji 0))) μ21) else (nb (ji 1) ∧ Q (some (.int (ji 1))) μ21))
noncomputable def c_X8_perform_2 (a0 : Nat) (r3 : Int32) (r6 : Int32) (Q : XQ) (r20 : Int32) (μ19 : XM) : Prop := (tg μ19 a0 = some (.inl 8) ∧ s_X8_sendPacket μ19 [.ref a0, .int r3, .int r6, .int r20] (qI (c_X8_perform_1 Q)) (fun _ _ => False))
noncomputable def c_X8_perform_3 (Q : XQ) (a0 : Nat) (x1 : Int32) (r3 : Int32) (r6 : Int32) (r17 : Int32) (μ16 : XM) : Prop := (if r17 = 0 then (nb (ji 0) ∧ Q (some (.int (ji 0))) μ16) else (tg μ16 a0 = some (.inl 8) ∧ ∃ b18, gR μ16 262 a0 = some b18 ∧ (tg μ16 b18 = some (.inl 5) ∧ s_X5_part μ16 [.ref b18, .int x1, .int (ji 3)] (qI (c_X8_perform_2 a0 r3 r6 Q)) (fun _ _ => False))))
noncomputable def c_X8_perform_4 (Q : XQ) (r24 : Int32) (μ23 : XM) : Prop := (if r24 < 0 then (nb (ji 0) ∧ Q (some (.int (ji 0))) μ23) else (nb (ji 1) ∧ Q (some (.int (ji 1))) μ23))
noncomputable def c_X8_perform_5 (Q : XQ) (r26 : Int32) (μ25 : XM) : Prop := (if r26 < 0 then (nb (ji 0) ∧ Q (some (.int (ji 0))) μ25) else (nb (ji 1) ∧ Q (some (.int (ji 1))) μ25))
noncomputable def c_X8_perform_6 (Q : XQ) (r28 : Int32) (μ27 : XM) : Prop := (if r28 < 0 then (nb (ji 0) ∧ Q (some (.int (ji 0))) μ27) else (nb (ji 1) ∧ Q (some (.int (ji 1))) μ27))
noncomputable def c_X8_perform_7 (Q : XQ) (r30 : Int32) (μ29 : XM) : Prop := (if r30 < 0 then (nb (ji 0) ∧ Q (some (.int (ji 0))) μ29) else (nb (ji 1) ∧ Q (some (.int (ji 1))) μ29))
noncomputable def c_X8_perform_8 (r10 : Int32) (Q : XQ) (a0 : Nat) (r6 : Int32) (x1 : Int32) (r3 : Int32) (r13 : Int32) (μ12 : XM) : Prop := (if r13 = ji (0) then (if r10 = 0 then (nb (ji 0) ∧ Q (some (.int (ji 0))) μ12) else (tg μ12 a0 = some (.inl 8) ∧ ∃ b14, gR μ12 256 a0 = some b14 ∧ (tg μ12 b14 = some (.inl 7) ∧ ∃ b15, gR μ12 224 b14 = some b15 ∧ (tg μ12 b15 = some (.inl 0) ∧ s_X0_hasNode μ12 [.ref b15, .int r6] (qI (c_X8_perform_3 Q a0 x1 r3 r6)) (fun _ _ => False))))) else (if r13 = ji (1) then (tg μ12 a0 = some (.inl 8) ∧ s_X8_passTime μ12 [.ref a0, .int r3] (qI (c_X8_perform_4 Q)) (fun _ _ => False)) else (if r13 = ji (2) then (if r10 = 0 then (nb (ji 0) ∧ Q (some (.int (ji 0))) μ12) else (tg μ12 a0 = some (.inl 8) ∧ s_X8_turnLink μ12 [.ref a0, .int r3, .int r6, .int (ji 1)] (qI (c_X8_perform_5 Q)) (fun _ _ => False))) else (if r13 = ji (3) then (if r10 = 0 then (nb (ji 0) ∧ Q (some (.int (ji 0))) μ12) else (tg μ12 a0 = some (.inl 8) ∧ s_X8_turnLink μ12 [.ref a0, .int r3, .int r6, .int (ji 0)] (qI (c_X8_perform_6 Q)) (fun _ _ => False))) else (if r13 = ji (4) then (if r10 = 0 then (nb (ji 0) ∧ Q (some (.int (ji 0))) μ12) else (tg μ12 a0 = some (.inl 8) ∧ s_X8_dropLessons μ12 [.ref a0, .int r3] (qI (c_X8_perform_7 Q)) (fun _ _ => False))) else (nb (ji 0) ∧ Q (some (.int (ji 0))) μ12))))))
noncomputable def c_X8_perform_9 (a0 : Nat) (x1 : Int32) (Q : XQ) (r6 : Int32) (r3 : Int32) (r10 : Int32) (μ9 : XM) : Prop := (tg μ9 a0 = some (.inl 8) ∧ ∃ b11, gR μ9 262 a0 = some b11 ∧ (tg μ9 b11 = some (.inl 5) ∧ s_X5_part μ9 [.ref b11, .int x1, .int (ji 0)] (qI (c_X8_perform_8 r10 Q a0 r6 x1 r3)) (fun _ _ => False)))
noncomputable def c_X8_perform_10 (a0 : Nat) (r3 : Int32) (x1 : Int32) (Q : XQ) (r6 : Int32) (μ5 : XM) : Prop := (tg μ5 a0 = some (.inl 8) ∧ ∃ b7, gR μ5 256 a0 = some b7 ∧ (tg μ5 b7 = some (.inl 7) ∧ ∃ b8, gR μ5 224 b7 = some b8 ∧ (tg μ5 b8 = some (.inl 0) ∧ s_X0_hasNode μ5 [.ref b8, .int r3] (qI (c_X8_perform_9 a0 x1 Q r6 r3)) (fun _ _ => False))))
noncomputable def c_X8_perform_11 (a0 : Nat) (x1 : Int32) (Q : XQ) (r3 : Int32) (μ2 : XM) : Prop := (tg μ2 a0 = some (.inl 8) ∧ ∃ b4, gR μ2 262 a0 = some b4 ∧ (tg μ2 b4 = some (.inl 5) ∧ s_X5_part μ2 [.ref b4, .int x1, .int (ji 2)] (qI (c_X8_perform_10 a0 r3 x1 Q)) (fun _ _ => False)))
set_option maxRecDepth 100000 in
theorem u_X8_perform {μ : XM} {a0 : Nat} {x1 : Int32} {Q : XQ} {X : XX} : s_X8_perform μ [.ref a0, .int x1] Q X = ((tg μ a0 = some (.inl 8) ∧ ∃ b1, gR μ 262 a0 = some b1 ∧ (tg μ b1 = some (.inl 5) ∧ s_X5_part μ [.ref b1, .int x1, .int (ji 1)] (qI (c_X8_perform_11 a0 x1 Q)) (fun _ _ => False)))) := by
  rw [s_X8_perform, xseal_eq]
  rfl
noncomputable def c_X8_play_1 (a0 : Nat) (Q : XQ) (X : XX) (r4 : Int32) (μ3 : XM) : Prop := (tg μ3 a0 = some (.inl 8) ∧ ∃ b5, gR μ3 260 a0 = some b5 ∧ (tg μ3 b5 = some (.inl 6) ∧ (if r4 = 0 then Q (some (.int (ji (-3)))) (sI μ3 193 b5 (ji 0)) else l_X8_play_29 Q X [some (.ref a0), none, some (.int (ji 0))] [] (sI μ3 193 b5 (ji 0)) 0 0)))
set_option maxRecDepth 100000 in
theorem u_X8_play {μ : XM} {a0 : Nat} {Q : XQ} {X : XX} : s_X8_play μ [.ref a0] Q X = ((tg μ a0 = some (.inl 8) ∧ ∃ b1, gR μ 262 a0 = some b1 ∧ (tg μ a0 = some (.inl 8) ∧ ∃ b2, gR μ 260 a0 = some b2 ∧ (tg μ b1 = some (.inl 5) ∧ s_X5_readCommands μ [.ref b1, .ref b2] (qI (c_X8_play_1 a0 Q X)) (fun _ _ => False))))) := by
  rw [s_X8_play, xseal_eq]
  rfl
noncomputable def c_X8_play_2 (Q : XQ) (x2 : Int32) (X : XX) (n : Nat) (a0 : Nat) (nc : Nat) (ns : Nat) (r9 : Int32) (μ8 : XM) : Prop := (if r9 = 0 then Q (some (.int x2)) μ8 else ln_X8_play_29 Q X n [some (.ref a0), none, some (.int (x2 + ji 1))] [] μ8 nc ns)
set_option maxRecDepth 100000 in
theorem ul_X8_play_29 {μ : XM} {a0 : Nat} {x2 : Int32} {nc ns n : Nat} {Q : XQ} {X : XX} : ln_X8_play_29 Q X (n + 1) [some (.ref a0), none, some (.int x2)] [] μ nc ns = ((tg μ a0 = some (.inl 8) ∧ ∃ b6, gR μ 262 a0 = some b6 ∧ (tg μ b6 = some (.inl 5) ∧ (if (gI μ 161 b6) ≤ x2 then (tg μ a0 = some (.inl 8) ∧ ∃ b7, gR μ 262 a0 = some b7 ∧ (tg μ b7 = some (.inl 5) ∧ Q (some (.int (gI μ 161 b7))) μ)) else (tg μ a0 = some (.inl 8) ∧ s_X8_perform μ [.ref a0, .int x2] (qI (c_X8_play_2 Q x2 X n a0 nc ns)) (fun _ _ => False)))))) := rfl
set_option maxRecDepth 100000 in
theorem u_X8_putOutput {μ : XM} {a0 : Nat} {x1 : Int32} {Q : XQ} {X : XX} : s_X8_putOutput μ [.ref a0, .int x1] Q X = ((tg μ a0 = some (.inl 8) ∧ (if (gI μ 266 a0) < 0 then ((none : Option FieldType) = none ∧ Q none μ) else (tg μ a0 = some (.inl 8) ∧ (tg μ a0 = some (.inl 8) ∧ ∃ b1, gR μ 265 a0 = some b1 ∧ ((∃ k, (k < 7 ∨ k = 9) ∧ tg μ b1 = some (.inr k)) ∧ (if (Int32.ofNat (ln μ b1)) ≤ (gI μ 266 a0) then ((none : Option FieldType) = none ∧ Q none μ) else (tg μ a0 = some (.inl 8) ∧ ∃ b2, gR μ 265 a0 = some b2 ∧ (tg μ a0 = some (.inl 8) ∧ (tg μ b2 = some (.inr 0) ∧ vp_in (gI μ 266 a0) (ln μ b2) ∧ (Value.category (.ref a0) = 1 ∧ (tg (wI μ b2 (Int32.toNatClampNeg (gI μ 266 a0)) x1) a0 = some (.inl 8) ∧ (tg (wI μ b2 (Int32.toNatClampNeg (gI μ 266 a0)) x1) a0 = some (.inl 8) ∧ ((none : Option FieldType) = none ∧ Q none (sI (wI μ b2 (Int32.toNatClampNeg (gI μ 266 a0)) x1) 266 a0 ((gI (wI μ b2 (Int32.toNatClampNeg (gI μ 266 a0)) x1) 266 a0) + (ji 1))))))))))))))))) := by
  rw [s_X8_putOutput, xseal_eq]
  rfl
set_option maxRecDepth 100000 in
theorem u_X8_requireTicks {μ : XM} {x0 : Int32} {Q : XQ} {X : XX} : s_X8_requireTicks μ [.int x0] Q X = ((if x0 < (ji 1) then (0 + 1 ≤ 1 ∧ 0 + 6 ≤ 6 ∧ X "java/lang/IllegalArgumentException" (uF μ)) else (if x0 ≤ (ji 500) then ((none : Option FieldType) = none ∧ Q none μ) else (0 + 1 ≤ 1 ∧ 0 + 6 ≤ 6 ∧ X "java/lang/IllegalArgumentException" (uF μ))))) := by
  rw [s_X8_requireTicks, xseal_eq]
  rfl
noncomputable def c_X8_quietIn_1 (Q : XQ) (X : XX) (a0 : Nat) (x1 : Int32) (μ4 : XM) : Prop := l_X8_quietIn_17 Q X [some (.ref a0), some (.int x1), some (.int (ji 0))] [] μ4 (0 + 1) (0 + 6)
noncomputable def c_X8_quietIn_2 (a0 : Nat) (Q : XQ) (X : XX) (x1 : Int32) (μ1 : XM) : Prop := (tg μ1 a0 = some (.inl 8) ∧ ∃ b2, gR μ1 257 a0 = some b2 ∧ (tg μ1 a0 = some (.inl 8) ∧ ∃ b3, gR μ1 256 a0 = some b3 ∧ (tg μ1 b2 = some (.inl 7) ∧ s_X7_copyFrom μ1 [.ref b2, .ref b3] (qV (c_X8_quietIn_1 Q X a0 x1)) (fun _ _ => False))))
set_option maxRecDepth 100000 in
theorem u_X8_quietIn {μ : XM} {a0 : Nat} {x1 : Int32} {Q : XQ} {X : XX} : s_X8_quietIn μ [.ref a0, .int x1] Q X = ((0 + 1 ≤ 1 ∧ 0 + 6 ≤ 6 ∧ s_X8_requireTicks μ [.int x1] (qV (c_X8_quietIn_2 a0 Q X x1)) X)) := by
  rw [s_X8_quietIn, xseal_eq]
  rfl
noncomputable def c_X8_quietIn_3 (Q : XQ) (x1 : Int32) (r7 : Int32) (μ6 : XM) : Prop := (if r7 = 0 then Q (some (.int x1)) μ6 else Q (some (.int (ji (-1)))) μ6)
noncomputable def c_X8_quietIn_4 (Q : XQ) (X : XX) (n : Nat) (a0 : Nat) (x1 : Int32) (x2 : Int32) (nc : Nat) (ns : Nat) (μ12 : XM) : Prop := ln_X8_quietIn_17 Q X n [some (.ref a0), some (.int x1), some (.int (x2 + ji 1))] [] μ12 nc ns
noncomputable def c_X8_quietIn_5 (Q : XQ) (x2 : Int32) (a0 : Nat) (X : XX) (n : Nat) (x1 : Int32) (nc : Nat) (ns : Nat) (r10 : Int32) (μ9 : XM) : Prop := (if r10 = 0 then Q (some (.int x2)) μ9 else (tg μ9 a0 = some (.inl 8) ∧ ∃ b11, gR μ9 257 a0 = some b11 ∧ (tg μ9 b11 = some (.inl 7) ∧ s_X7_pass μ9 [.ref b11, .int (ji 1)] (qV (c_X8_quietIn_4 Q X n a0 x1 x2 nc ns)) (fun _ _ => False))))
set_option maxRecDepth 100000 in
theorem ul_X8_quietIn_17 {μ : XM} {a0 : Nat} {x1 : Int32} {x2 : Int32} {nc ns n : Nat} {Q : XQ} {X : XX} : ln_X8_quietIn_17 Q X (n + 1) [some (.ref a0), some (.int x1), some (.int x2)] [] μ nc ns = ((if x1 ≤ x2 then (tg μ a0 = some (.inl 8) ∧ ∃ b5, gR μ 257 a0 = some b5 ∧ (tg μ b5 = some (.inl 7) ∧ s_X7_countActive μ [.ref b5] (qI (c_X8_quietIn_3 Q x1)) (fun _ _ => False))) else (tg μ a0 = some (.inl 8) ∧ ∃ b8, gR μ 257 a0 = some b8 ∧ (tg μ b8 = some (.inl 7) ∧ s_X7_countActive μ [.ref b8] (qI (c_X8_quietIn_5 Q x2 a0 X n x1 nc ns)) (fun _ _ => False))))) := rfl
noncomputable def c_X8_reason_1 (Q : XQ) (r7 : Int32) (μ6 : XM) : Prop := Q (some (.int r7)) μ6
noncomputable def c_X8_reason_2 (a0 : Nat) (x2 : Int32) (Q : XQ) (b5 : Nat) (μ4 : XM) : Prop := (tg μ4 a0 = some (.inl 8) ∧ s_X8_reasonOf μ4 [.ref a0, .ref b5, .int x2] (qI (c_X8_reason_1 Q)) (fun _ _ => False))
noncomputable def c_X8_reason_3 (Q : XQ) (r9 : Int32) (μ8 : XM) : Prop := Q (some (.int r9)) μ8
noncomputable def c_X8_reason_4 (a0 : Nat) (x2 : Int32) (Q : XQ) (μ4 : XM) : Prop := (tg μ4 a0 = some (.inl 8) ∧ s_X8_reasonOf μ4 [.ref a0, .null, .int x2] (qI (c_X8_reason_3 Q)) (fun _ _ => False))
noncomputable def c_X8_reason_5 (a0 : Nat) (x1 : Int32) (x2 : Int32) (Q : XQ) (μ2 : XM) : Prop := (tg μ2 a0 = some (.inl 8) ∧ ∃ b3, gR μ2 256 a0 = some b3 ∧ (tg μ2 b3 = some (.inl 7) ∧ s_X7_packetOf μ2 [.ref b3, .int x1] (qA (c_X8_reason_2 a0 x2 Q) (c_X8_reason_4 a0 x2 Q)) (fun _ _ => False)))
noncomputable def c_X8_reason_6 (x2 : Int32) (a0 : Nat) (x1 : Int32) (Q : XQ) (X : XX) (μ1 : XM) : Prop := ((0 + 1) + 1 ≤ 2 ∧ (0 + 6) + 6 ≤ 12 ∧ s_X8_requireWay μ1 [.int x2] (qV (c_X8_reason_5 a0 x1 x2 Q)) X)
set_option maxRecDepth 100000 in
theorem u_X8_reason {μ : XM} {a0 : Nat} {x1 : Int32} {x2 : Int32} {Q : XQ} {X : XX} : s_X8_reason μ [.ref a0, .int x1, .int x2] Q X = ((tg μ a0 = some (.inl 8) ∧ 0 + 1 ≤ 2 ∧ 0 + 6 ≤ 12 ∧ s_X8_requirePacket μ [.ref a0, .int x1] (qV (c_X8_reason_6 x2 a0 x1 Q X)) X)) := by
  rw [s_X8_reason, xseal_eq]
  rfl
set_option maxRecDepth 100000 in
theorem u_X8_snapshotOf {μ : XM} {a0 : Nat} {x1 : Int32} {Q : XQ} {X : XX} : s_X8_snapshotOf μ [.ref a0, .int x1] Q X = ((if x1 < 0 then ((true = true) ∧ Q (some (.null)) μ) else (tg μ a0 = some (.inl 8) ∧ ∃ b1, gR μ 263 a0 = some b1 ∧ ((∃ k, (k < 7 ∨ k = 9) ∧ tg μ b1 = some (.inr k)) ∧ (if x1 < (Int32.ofNat (ln μ b1)) then (tg μ a0 = some (.inl 8) ∧ ∃ b2, gR μ 263 a0 = some b2 ∧ ((tg μ b2 = some (.inr 5) ∨ tg μ b2 = some (.inr 6)) ∧ vp_in x1 (ln μ b2) ∧ ∃ b3, aR μ b2 (Int32.toNatClampNeg x1) = some b3 ∧ ((true = true) ∧ Q (some (.ref b3)) μ))) else ((true = true) ∧ Q (some (.null)) μ)))))) := by
  rw [s_X8_snapshotOf, xseal_eq]
  rfl
noncomputable def c_X8_restoreSnapshot_1 (Q : XQ) (μ8 : XM) : Prop := (nb (ji 1) ∧ Q (some (.int (ji 1))) μ8)
noncomputable def c_X8_restoreSnapshot_2 (a0 : Nat) (Q : XQ) (μ6 : XM) : Prop := (tg μ6 a0 = some (.inl 8) ∧ ∃ b7, gR μ6 258 a0 = some b7 ∧ (tg μ6 b7 = some (.inl 1) ∧ s_X1_clear μ6 [.ref b7] (qV (c_X8_restoreSnapshot_1 Q)) (fun _ _ => False)))
noncomputable def c_X8_restoreSnapshot_3 (x1 : Int32) (Q : XQ) (a0 : Nat) (b2 : Nat) (μ1 : XM) : Prop := (if x1 < 0 then (nb (ji 0) ∧ Q (some (.int (ji 0))) μ1) else (tg μ1 a0 = some (.inl 8) ∧ ∃ b3, gR μ1 264 a0 = some b3 ∧ ((∃ k, (k < 7 ∨ k = 9) ∧ tg μ1 b3 = some (.inr k)) ∧ (if (Int32.ofNat (ln μ1 b3)) ≤ x1 then (nb (ji 0) ∧ Q (some (.int (ji 0))) μ1) else (tg μ1 a0 = some (.inl 8) ∧ ∃ b4, gR μ1 264 a0 = some b4 ∧ ((tg μ1 b4 = some (.inr 1) ∨ tg μ1 b4 = some (.inr 2)) ∧ vp_in x1 (ln μ1 b4) ∧ (if (aI μ1 b4 (Int32.toNatClampNeg x1)) = 0 then (nb (ji 0) ∧ Q (some (.int (ji 0))) μ1) else (tg μ1 a0 = some (.inl 8) ∧ ∃ b5, gR μ1 256 a0 = some b5 ∧ (tg μ1 b5 = some (.inl 7) ∧ s_X7_copyFrom μ1 [.ref b5, .ref b2] (qV (c_X8_restoreSnapshot_2 a0 Q)) (fun _ _ => False))))))))))
noncomputable def c_X8_restoreSnapshot_4 (Q : XQ) (μ1 : XM) : Prop := (nb (ji 0) ∧ Q (some (.int (ji 0))) μ1)
set_option maxRecDepth 100000 in
theorem u_X8_restoreSnapshot {μ : XM} {a0 : Nat} {x1 : Int32} {Q : XQ} {X : XX} : s_X8_restoreSnapshot μ [.ref a0, .int x1] Q X = ((tg μ a0 = some (.inl 8) ∧ s_X8_snapshotOf μ [.ref a0, .int x1] (qA (c_X8_restoreSnapshot_3 x1 Q a0) (c_X8_restoreSnapshot_4 Q)) (fun _ _ => False))) := by
  rw [s_X8_restoreSnapshot, xseal_eq]
  rfl
noncomputable def c_X8_saveSnapshot_1 (a0 : Nat) (x1 : Int32) (Q : XQ) (μ5 : XM) : Prop := (tg μ5 a0 = some (.inl 8) ∧ ∃ b6, gR μ5 264 a0 = some b6 ∧ (vp_in x1 (ln μ5 b6) ∧ (tg μ5 b6 = some (.inr 1) ∧ (nb (ji 1) ∧ Q (some (.int (ji 1))) (wI μ5 b6 (Int32.toNatClampNeg x1) (vp_nar .boolean (ji 1)))) ∨ tg μ5 b6 = some (.inr 2) ∧ (nb (ji 1) ∧ Q (some (.int (ji 1))) (wI μ5 b6 (Int32.toNatClampNeg x1) (vp_nar .byte (ji 1)))))))
noncomputable def c_X8_saveSnapshot_2 (x1 : Int32) (Q : XQ) (a0 : Nat) (b2 : Nat) (μ1 : XM) : Prop := (if x1 < 0 then (nb (ji 0) ∧ Q (some (.int (ji 0))) μ1) else (tg μ1 a0 = some (.inl 8) ∧ ∃ b3, gR μ1 264 a0 = some b3 ∧ ((∃ k, (k < 7 ∨ k = 9) ∧ tg μ1 b3 = some (.inr k)) ∧ (if x1 < (Int32.ofNat (ln μ1 b3)) then (tg μ1 a0 = some (.inl 8) ∧ ∃ b4, gR μ1 256 a0 = some b4 ∧ (tg μ1 b2 = some (.inl 7) ∧ s_X7_copyFrom μ1 [.ref b2, .ref b4] (qV (c_X8_saveSnapshot_1 a0 x1 Q)) (fun _ _ => False))) else (nb (ji 0) ∧ Q (some (.int (ji 0))) μ1)))))
noncomputable def c_X8_saveSnapshot_3 (Q : XQ) (μ1 : XM) : Prop := (nb (ji 0) ∧ Q (some (.int (ji 0))) μ1)
set_option maxRecDepth 100000 in
theorem u_X8_saveSnapshot {μ : XM} {a0 : Nat} {x1 : Int32} {Q : XQ} {X : XX} : s_X8_saveSnapshot μ [.ref a0, .int x1] Q X = ((tg μ a0 = some (.inl 8) ∧ s_X8_snapshotOf μ [.ref a0, .int x1] (qA (c_X8_saveSnapshot_2 x1 Q a0) (c_X8_saveSnapshot_3 Q)) (fun _ _ => False))) := by
  rw [s_X8_saveSnapshot, xseal_eq]
  rfl
noncomputable def c_X8_send_1 (Q : XQ) (r5 : Int32) (μ4 : XM) : Prop := Q (some (.int r5)) μ4
noncomputable def c_X8_send_2 (a0 : Nat) (x1 : Int32) (x2 : Int32) (x3 : Int32) (Q : XQ) (μ3 : XM) : Prop := (tg μ3 a0 = some (.inl 8) ∧ s_X8_sendPacket μ3 [.ref a0, .int x1, .int x2, .int x3] (qI (c_X8_send_1 Q)) (fun _ _ => False))
noncomputable def c_X8_send_3 (x3 : Int32) (a0 : Nat) (x1 : Int32) (x2 : Int32) (Q : XQ) (X : XX) (μ2 : XM) : Prop := (((0 + 1) + 1) + 1 ≤ 3 ∧ ((0 + 6) + 6) + 6 ≤ 18 ∧ s_X8_requireLimit μ2 [.int x3] (qV (c_X8_send_2 a0 x1 x2 x3 Q)) X)
noncomputable def c_X8_send_4 (a0 : Nat) (x2 : Int32) (x3 : Int32) (x1 : Int32) (Q : XQ) (X : XX) (μ1 : XM) : Prop := (tg μ1 a0 = some (.inl 8) ∧ (0 + 1) + 1 ≤ 3 ∧ (0 + 6) + 6 ≤ 18 ∧ s_X8_requireNode μ1 [.ref a0, .int x2] (qV (c_X8_send_3 x3 a0 x1 x2 Q X)) X)
set_option maxRecDepth 100000 in
theorem u_X8_send {μ : XM} {a0 : Nat} {x1 : Int32} {x2 : Int32} {x3 : Int32} {Q : XQ} {X : XX} : s_X8_send μ [.ref a0, .int x1, .int x2, .int x3] Q X = ((tg μ a0 = some (.inl 8) ∧ 0 + 1 ≤ 3 ∧ 0 + 6 ≤ 18 ∧ s_X8_requireNode μ [.ref a0, .int x1] (qV (c_X8_send_4 a0 x2 x3 x1 Q X)) X)) := by
  rw [s_X8_send, xseal_eq]
  rfl
noncomputable def c_X8_shortest_1 (Q : XQ) (r12 : Int32) (μ11 : XM) : Prop := Q (some (.int r12)) μ11
noncomputable def c_X8_shortest_2 (a0 : Nat) (x2 : Int32) (Q : XQ) (μ9 : XM) : Prop := (tg μ9 a0 = some (.inl 8) ∧ ∃ b10, gR μ9 259 a0 = some b10 ∧ (tg μ9 b10 = some (.inl 4) ∧ s_X4_hopsTo μ9 [.ref b10, .int x2] (qI (c_X8_shortest_1 Q)) (fun _ _ => False)))
noncomputable def c_X8_shortest_3 (a0 : Nat) (x1 : Int32) (x2 : Int32) (Q : XQ) (μ5 : XM) : Prop := (tg μ5 a0 = some (.inl 8) ∧ ∃ b6, gR μ5 259 a0 = some b6 ∧ (tg μ5 a0 = some (.inl 8) ∧ ∃ b7, gR μ5 256 a0 = some b7 ∧ (tg μ5 b7 = some (.inl 7) ∧ ∃ b8, gR μ5 224 b7 = some b8 ∧ (tg μ5 b6 = some (.inl 4) ∧ s_X4_spread μ5 [.ref b6, .ref b8, .int x1] (qV (c_X8_shortest_2 a0 x2 Q)) (fun _ _ => False)))))
noncomputable def c_X8_shortest_4 (a0 : Nat) (x1 : Int32) (x2 : Int32) (Q : XQ) (μ2 : XM) : Prop := (tg μ2 a0 = some (.inl 8) ∧ ∃ b3, gR μ2 259 a0 = some b3 ∧ (tg μ2 a0 = some (.inl 8) ∧ ∃ b4, gR μ2 256 a0 = some b4 ∧ (tg μ2 b3 = some (.inl 4) ∧ s_X4_openAlive μ2 [.ref b3, .ref b4] (qV (c_X8_shortest_3 a0 x1 x2 Q)) (fun _ _ => False))))
noncomputable def c_X8_shortest_5 (a0 : Nat) (x2 : Int32) (x1 : Int32) (Q : XQ) (X : XX) (μ1 : XM) : Prop := (tg μ1 a0 = some (.inl 8) ∧ (0 + 1) + 1 ≤ 2 ∧ (0 + 6) + 6 ≤ 12 ∧ s_X8_requireNode μ1 [.ref a0, .int x2] (qV (c_X8_shortest_4 a0 x1 x2 Q)) X)
set_option maxRecDepth 100000 in
theorem u_X8_shortest {μ : XM} {a0 : Nat} {x1 : Int32} {x2 : Int32} {Q : XQ} {X : XX} : s_X8_shortest μ [.ref a0, .int x1, .int x2] Q X = ((tg μ a0 = some (.inl 8) ∧ 0 + 1 ≤ 2 ∧ 0 + 6 ≤ 12 ∧ s_X8_requireNode μ [.ref a0, .int x1] (qV (c_X8_shortest_5 a0 x2 x1 Q X)) X)) := by
  rw [s_X8_shortest, xseal_eq]
  rfl
noncomputable def c_X8_stateIn_1 (Q : XQ) (b10 : Nat) (μ9 : XM) : Prop := (tg μ9 b10 = some (.inl 3) ∧ Q (some (.int (gI μ9 99 b10))) μ9)
noncomputable def c_X8_stateIn_2 (Q : XQ) (μ9 : XM) : Prop := Q (some (.int (ji (-1)))) μ9
noncomputable def c_X8_stateIn_3 (a0 : Nat) (x1 : Int32) (Q : XQ) (μ7 : XM) : Prop := (tg μ7 a0 = some (.inl 8) ∧ ∃ b8, gR μ7 257 a0 = some b8 ∧ (tg μ7 b8 = some (.inl 7) ∧ s_X7_packetOf μ7 [.ref b8, .int x1] (qA (c_X8_stateIn_1 Q) (c_X8_stateIn_2 Q)) (fun _ _ => False)))
noncomputable def c_X8_stateIn_4 (a0 : Nat) (x2 : Int32) (x1 : Int32) (Q : XQ) (μ5 : XM) : Prop := (tg μ5 a0 = some (.inl 8) ∧ ∃ b6, gR μ5 257 a0 = some b6 ∧ (tg μ5 b6 = some (.inl 7) ∧ s_X7_pass μ5 [.ref b6, .int x2] (qV (c_X8_stateIn_3 a0 x1 Q)) (fun _ _ => False)))
noncomputable def c_X8_stateIn_5 (a0 : Nat) (x2 : Int32) (x1 : Int32) (Q : XQ) (μ2 : XM) : Prop := (tg μ2 a0 = some (.inl 8) ∧ ∃ b3, gR μ2 257 a0 = some b3 ∧ (tg μ2 a0 = some (.inl 8) ∧ ∃ b4, gR μ2 256 a0 = some b4 ∧ (tg μ2 b3 = some (.inl 7) ∧ s_X7_copyFrom μ2 [.ref b3, .ref b4] (qV (c_X8_stateIn_4 a0 x2 x1 Q)) (fun _ _ => False))))
noncomputable def c_X8_stateIn_6 (x2 : Int32) (a0 : Nat) (x1 : Int32) (Q : XQ) (X : XX) (μ1 : XM) : Prop := ((0 + 1) + 1 ≤ 2 ∧ (0 + 6) + 6 ≤ 12 ∧ s_X8_requireTicks μ1 [.int x2] (qV (c_X8_stateIn_5 a0 x2 x1 Q)) X)
set_option maxRecDepth 100000 in
theorem u_X8_stateIn {μ : XM} {a0 : Nat} {x1 : Int32} {x2 : Int32} {Q : XQ} {X : XX} : s_X8_stateIn μ [.ref a0, .int x1, .int x2] Q X = ((tg μ a0 = some (.inl 8) ∧ 0 + 1 ≤ 2 ∧ 0 + 6 ≤ 12 ∧ s_X8_requirePacket μ [.ref a0, .int x1] (qV (c_X8_stateIn_6 x2 a0 x1 Q X)) X)) := by
  rw [s_X8_stateIn, xseal_eq]
  rfl
noncomputable def c_X8_tick_1 (Q : XQ) (r3 : Int32) (μ2 : XM) : Prop := Q (some (.int r3)) μ2
noncomputable def c_X8_tick_2 (a0 : Nat) (x1 : Int32) (Q : XQ) (μ1 : XM) : Prop := (tg μ1 a0 = some (.inl 8) ∧ s_X8_passTime μ1 [.ref a0, .int x1] (qI (c_X8_tick_1 Q)) (fun _ _ => False))
set_option maxRecDepth 100000 in
theorem u_X8_tick {μ : XM} {a0 : Nat} {x1 : Int32} {Q : XQ} {X : XX} : s_X8_tick μ [.ref a0, .int x1] Q X = ((0 + 1 ≤ 1 ∧ 0 + 6 ≤ 6 ∧ s_X8_requireTicks μ [.int x1] (qV (c_X8_tick_2 a0 x1 Q)) X)) := by
  rw [s_X8_tick, xseal_eq]
  rfl
noncomputable def c_X8_trail_1 (Q : XQ) (r7 : Int32) (μ6 : XM) : Prop := Q (some (.int r7)) μ6
noncomputable def c_X8_trail_2 (x2 : Int32) (Q : XQ) (b5 : Nat) (μ4 : XM) : Prop := (tg μ4 b5 = some (.inl 3) ∧ s_X3_trailNode μ4 [.ref b5, .int x2] (qI (c_X8_trail_1 Q)) (fun _ _ => False))
noncomputable def c_X8_trail_3 (Q : XQ) (μ4 : XM) : Prop := Q (some (.int (ji (-1)))) μ4
noncomputable def c_X8_trail_4 (a0 : Nat) (x1 : Int32) (x2 : Int32) (Q : XQ) (μ2 : XM) : Prop := (tg μ2 a0 = some (.inl 8) ∧ ∃ b3, gR μ2 256 a0 = some b3 ∧ (tg μ2 b3 = some (.inl 7) ∧ s_X7_packetOf μ2 [.ref b3, .int x1] (qA (c_X8_trail_2 x2 Q) (c_X8_trail_3 Q)) (fun _ _ => False)))
noncomputable def c_X8_trail_5 (x2 : Int32) (a0 : Nat) (x1 : Int32) (Q : XQ) (X : XX) (μ1 : XM) : Prop := ((0 + 1) + 1 ≤ 2 ∧ (0 + 6) + 6 ≤ 12 ∧ s_X8_requireNotNegative μ1 [.int x2] (qV (c_X8_trail_4 a0 x1 x2 Q)) X)
set_option maxRecDepth 100000 in
theorem u_X8_trail {μ : XM} {a0 : Nat} {x1 : Int32} {x2 : Int32} {Q : XQ} {X : XX} : s_X8_trail μ [.ref a0, .int x1, .int x2] Q X = ((tg μ a0 = some (.inl 8) ∧ 0 + 1 ≤ 2 ∧ 0 + 6 ≤ 12 ∧ s_X8_requirePacket μ [.ref a0, .int x1] (qV (c_X8_trail_5 x2 a0 x1 Q X)) X)) := by
  rw [s_X8_trail, xseal_eq]
  rfl
set_option maxRecDepth 100000 in
theorem u_X8_truncateInput {μ : XM} {a0 : Nat} {x1 : Int32} {Q : XQ} {X : XX} : s_X8_truncateInput μ [.ref a0, .int x1] Q X = ((if x1 < 0 then Q (some (.int (ji (-1)))) μ else (tg μ a0 = some (.inl 8) ∧ ∃ b1, gR μ 260 a0 = some b1 ∧ (tg μ b1 = some (.inl 6) ∧ (if x1 ≤ (gI μ 193 b1) then (tg μ a0 = some (.inl 8) ∧ ∃ b2, gR μ 260 a0 = some b2 ∧ (tg μ b2 = some (.inl 6) ∧ Q (some (.int x1)) (sI μ 193 b2 x1))) else Q (some (.int (ji (-1)))) μ))))) := by
  rw [s_X8_truncateInput, xseal_eq]
  rfl
noncomputable def c_X8_undo_1 (Q : XQ) (a0 : Nat) (r4 : Int32) (μ3 : XM) : Prop := (if r4 = 0 then Q (some (.int (ji (-1)))) μ3 else (tg μ3 a0 = some (.inl 8) ∧ ∃ b5, gR μ3 258 a0 = some b5 ∧ (tg μ3 b5 = some (.inl 1) ∧ Q (some (.int (gI μ3 34 b5))) μ3)))
set_option maxRecDepth 100000 in
theorem u_X8_undo {μ : XM} {a0 : Nat} {Q : XQ} {X : XX} : s_X8_undo μ [.ref a0] Q X = ((tg μ a0 = some (.inl 8) ∧ ∃ b1, gR μ 258 a0 = some b1 ∧ (tg μ a0 = some (.inl 8) ∧ ∃ b2, gR μ 256 a0 = some b2 ∧ (tg μ b1 = some (.inl 1) ∧ s_X1_takeBack μ [.ref b1, .ref b2] (qI (c_X8_undo_1 Q a0)) (fun _ _ => False))))) := by
  rw [s_X8_undo, xseal_eq]
  rfl
noncomputable def c_X8_unvisited_1 (Q : XQ) (X : XX) (a0 : Nat) (x1 : Int32) (w4 : Int64) (μ3 : XM) : Prop := l_X8_unvisited_18 Q X [some (.ref a0), some (.int x1), some (.long w4), none, some (.int (ji 0)), some (.int (ji 0))] [] μ3 (0 + 1) (0 + 6)
noncomputable def c_X8_unvisited_2 (a0 : Nat) (Q : XQ) (X : XX) (x1 : Int32) (μ1 : XM) : Prop := (tg μ1 a0 = some (.inl 8) ∧ ∃ b2, gR μ1 256 a0 = some b2 ∧ (tg μ1 b2 = some (.inl 7) ∧ s_X7_visitedByAny μ1 [.ref b2] (qJ (c_X8_unvisited_1 Q X a0 x1)) (fun _ _ => False)))
set_option maxRecDepth 100000 in
theorem u_X8_unvisited {μ : XM} {a0 : Nat} {x1 : Int32} {Q : XQ} {X : XX} : s_X8_unvisited μ [.ref a0, .int x1] Q X = ((0 + 1 ≤ 1 ∧ 0 + 6 ≤ 6 ∧ s_X8_requireNotNegative μ [.int x1] (qV (c_X8_unvisited_2 a0 Q X x1)) X)) := by
  rw [s_X8_unvisited, xseal_eq]
  rfl
set_option maxRecDepth 100000 in
theorem ul_X8_unvisited_18 {μ : XM} {a0 : Nat} {x1 : Int32} {y2 : Int64} {x4 : Int32} {x5 : Int32} {nc ns n : Nat} {Q : XQ} {X : XX} : ln_X8_unvisited_18 Q X (n + 1) [some (.ref a0), some (.int x1), some (.long y2), none, some (.int x4), some (.int x5)] [] μ nc ns = ((tg μ a0 = some (.inl 8) ∧ ∃ b5, gR μ 256 a0 = some b5 ∧ (tg μ b5 = some (.inl 7) ∧ ∃ b6, gR μ 224 b5 = some b6 ∧ (tg μ b6 = some (.inl 0) ∧ (if (gI μ 2 b6) ≤ x5 then Q (some (.int (ji (-1)))) μ else (if (lg_cmp (y2 &&& (jlshl (jl 1) x5)) (jl 0)) = 0 then (if x4 = x1 then Q (some (.int x5)) μ else ln_X8_unvisited_18 Q X n [some (.ref a0), some (.int x1), some (.long y2), none, some (.int (x4 + ji 1)), some (.int (x5 + ji 1))] [] μ nc ns) else ln_X8_unvisited_18 Q X n [some (.ref a0), some (.int x1), some (.long y2), none, some (.int x4), some (.int (x5 + ji 1))] [] μ nc ns)))))) := rfl
noncomputable def c_X8_ways_1 (Q : XQ) (r5 : Int32) (μ4 : XM) : Prop := Q (some (.int r5)) μ4
noncomputable def c_X8_ways_2 (x3 : Int32) (X : XX) (a0 : Nat) (x1 : Int32) (x2 : Int32) (Q : XQ) (μ2 : XM) : Prop := (if x3 < 0 then (((0 + 1) + 1) + 1 ≤ 3 ∧ ((0 + 6) + 6) + 6 ≤ 18 ∧ X "java/lang/IllegalArgumentException" (uF μ2)) else (if x3 ≤ (ji 8) then (tg μ2 a0 = some (.inl 8) ∧ ∃ b3, gR μ2 256 a0 = some b3 ∧ (s_X8_countWays_8 μ2 [.ref b3, .int x1, .int x2, .int x3, .long (jl 0)] (qI (c_X8_ways_1 Q)) (fun _ _ => False))) else (((0 + 1) + 1) + 1 ≤ 3 ∧ ((0 + 6) + 6) + 6 ≤ 18 ∧ X "java/lang/IllegalArgumentException" (uF μ2))))
noncomputable def c_X8_ways_3 (a0 : Nat) (x2 : Int32) (x3 : Int32) (X : XX) (x1 : Int32) (Q : XQ) (μ1 : XM) : Prop := (tg μ1 a0 = some (.inl 8) ∧ (0 + 1) + 1 ≤ 3 ∧ (0 + 6) + 6 ≤ 18 ∧ s_X8_requireNode μ1 [.ref a0, .int x2] (qV (c_X8_ways_2 x3 X a0 x1 x2 Q)) X)
set_option maxRecDepth 100000 in
theorem u_X8_ways {μ : XM} {a0 : Nat} {x1 : Int32} {x2 : Int32} {x3 : Int32} {Q : XQ} {X : XX} : s_X8_ways μ [.ref a0, .int x1, .int x2, .int x3] Q X = ((tg μ a0 = some (.inl 8) ∧ 0 + 1 ≤ 3 ∧ 0 + 6 ≤ 18 ∧ s_X8_requireNode μ [.ref a0, .int x1] (qV (c_X8_ways_3 a0 x2 x3 X x1 Q)) X)) := by
  rw [s_X8_ways, xseal_eq]
  rfl
set_option maxRecDepth 100000 in
theorem u_X8_wisest {μ : XM} {a0 : Nat} {Q : XQ} {X : XX} : s_X8_wisest μ [.ref a0] Q X = (l_X8_wisest_6 Q X [some (.ref a0), some (.int (ji (-1))), some (.int (ji 0)), some (.int (ji 0)), none] [] μ 0 0) := by
  rw [s_X8_wisest, xseal_eq]
  rfl
noncomputable def c_X8_wisest_1 (x2 : Int32) (Q : XQ) (X : XX) (n : Nat) (a0 : Nat) (x1 : Int32) (x3 : Int32) (nc : Nat) (ns : Nat) (r5 : Int32) (μ4 : XM) : Prop := (if r5 ≤ x2 then ln_X8_wisest_6 Q X n [some (.ref a0), some (.int x1), some (.int x2), some (.int (x3 + ji 1)), none] [] μ4 nc ns else ln_X8_wisest_6 Q X n [some (.ref a0), some (.int x3), some (.int r5), some (.int (x3 + ji 1)), none] [] μ4 nc ns)
set_option maxRecDepth 100000 in
theorem ul_X8_wisest_6 {μ : XM} {a0 : Nat} {x1 : Int32} {x2 : Int32} {x3 : Int32} {nc ns n : Nat} {Q : XQ} {X : XX} : ln_X8_wisest_6 Q X (n + 1) [some (.ref a0), some (.int x1), some (.int x2), some (.int x3), none] [] μ nc ns = ((tg μ a0 = some (.inl 8) ∧ ∃ b1, gR μ 256 a0 = some b1 ∧ (tg μ b1 = some (.inl 7) ∧ ∃ b2, gR μ 224 b1 = some b2 ∧ (tg μ b2 = some (.inl 0) ∧ (if (gI μ 2 b2) ≤ x3 then Q (some (.int x1)) μ else (tg μ a0 = some (.inl 8) ∧ ∃ b3, gR μ 256 a0 = some b3 ∧ (tg μ b3 = some (.inl 7) ∧ s_X7_countLessons μ [.ref b3, .int x3, .int (ji 0)] (qI (c_X8_wisest_1 x2 Q X n a0 x1 x3 nc ns)) (fun _ _ => False)))))))) := rfl
noncomputable def c_X8_write_1 (Q : XQ) (X : XX) (a0 : Nat) (b4 : Nat) (μ5 : XM) : Prop := l_X8_write_64 Q X [some (.ref a0), none, some (.ref b4), some (.int (ji 1)), none] [] μ5 (0 + 1) (0 + 6)
noncomputable def c_X8_write_2 (Q : XQ) (X : XX) (a0 : Nat) (b4 : Nat) (μ7 : XM) : Prop := l_X8_write_64 Q X [some (.ref a0), none, some (.ref b4), some (.int (ji 1)), none] [] μ7 (0 + 1) (0 + 6)
noncomputable def c_X8_write_3 (b4 : Nat) (a0 : Nat) (Q : XQ) (X : XX) (μ6 : XM) : Prop := (tg μ6 b4 = some (.inl 3) ∧ (¬ (ji 10) = 0 ∧ (tg μ6 a0 = some (.inl 8) ∧ s_X8_putOutput μ6 [.ref a0, .int ((ji 48) + (jrem (gI μ6 96 b4) (ji 10)))] (qV (c_X8_write_2 Q X a0 b4)) (fun _ _ => False))))
noncomputable def c_X8_write_4 (a0 : Nat) (Q : XQ) (X : XX) (b4 : Nat) (μ3 : XM) : Prop := (tg μ3 a0 = some (.inl 8) ∧ (tg (sI μ3 266 a0 (ji 0)) b4 = some (.inl 3) ∧ (if (gI (sI μ3 266 a0 (ji 0)) 96 b4) < (ji 10) then (tg (sI μ3 266 a0 (ji 0)) b4 = some (.inl 3) ∧ (¬ (ji 10) = 0 ∧ (tg (sI μ3 266 a0 (ji 0)) a0 = some (.inl 8) ∧ s_X8_putOutput (sI μ3 266 a0 (ji 0)) [.ref a0, .int ((ji 48) + (jrem (gI (sI μ3 266 a0 (ji 0)) 96 b4) (ji 10)))] (qV (c_X8_write_1 Q X a0 b4)) (fun _ _ => False)))) else (tg (sI μ3 266 a0 (ji 0)) b4 = some (.inl 3) ∧ (¬ (ji 10) = 0 ∧ (tg (sI μ3 266 a0 (ji 0)) a0 = some (.inl 8) ∧ s_X8_putOutput (sI μ3 266 a0 (ji 0)) [.ref a0, .int ((ji 48) + ((gI (sI μ3 266 a0 (ji 0)) 96 b4) / (ji 10)))] (qV (c_X8_write_3 b4 a0 Q X)) (fun _ _ => False)))))))
noncomputable def c_X8_write_5 (a0 : Nat) (Q : XQ) (μ3 : XM) : Prop := (tg μ3 a0 = some (.inl 8) ∧ Q (some (.int (ji 0))) (sI μ3 266 a0 (ji 0)))
noncomputable def c_X8_write_6 (a0 : Nat) (x1 : Int32) (Q : XQ) (X : XX) (μ1 : XM) : Prop := (tg μ1 a0 = some (.inl 8) ∧ ∃ b2, gR μ1 256 a0 = some b2 ∧ (tg μ1 b2 = some (.inl 7) ∧ s_X7_packetOf μ1 [.ref b2, .int x1] (qA (c_X8_write_4 a0 Q X) (c_X8_write_5 a0 Q)) (fun _ _ => False)))
set_option maxRecDepth 100000 in
theorem u_X8_write {μ : XM} {a0 : Nat} {x1 : Int32} {Q : XQ} {X : XX} : s_X8_write μ [.ref a0, .int x1] Q X = ((tg μ a0 = some (.inl 8) ∧ 0 + 1 ≤ 1 ∧ 0 + 6 ≤ 6 ∧ s_X8_requirePacket μ [.ref a0, .int x1] (qV (c_X8_write_6 a0 x1 Q X)) X)) := by
  rw [s_X8_write, xseal_eq]
  rfl
noncomputable def c_X8_write_7 (Q : XQ) (X : XX) (n : Nat) (a0 : Nat) (a2 : Nat) (x3 : Int32) (nc : Nat) (ns : Nat) (μ22 : XM) : Prop := ln_X8_write_64 Q X n [some (.ref a0), none, some (.ref a2), some (.int (x3 + ji 1)), none] [] μ22 nc ns
noncomputable def c_X8_write_8 (a0 : Nat) (Q : XQ) (X : XX) (n : Nat) (a2 : Nat) (x3 : Int32) (nc : Nat) (ns : Nat) (r21 : Int32) (μ20 : XM) : Prop := (tg μ20 a0 = some (.inl 8) ∧ s_X8_putOutput μ20 [.ref a0, .int r21] (qV (c_X8_write_7 Q X n a0 a2 x3 nc ns)) (fun _ _ => False))
noncomputable def c_X8_write_9 (r15 : Int32) (Q : XQ) (X : XX) (n : Nat) (a0 : Nat) (a2 : Nat) (x3 : Int32) (nc : Nat) (ns : Nat) (r18 : Int32) (μ17 : XM) : Prop := (if r18 ≤ r15 then ln_X8_write_64 Q X n [some (.ref a0), none, some (.ref a2), some (.int (x3 + ji 1)), none] [] μ17 nc ns else (∃ b19, gR μ17 2013 0 = some b19 ∧ (tg μ17 b19 = some (.inr 10) ∧ s_J0_charAt_5068e μ17 [.ref b19, .int r15] (qI (c_X8_write_8 a0 Q X n a2 x3 nc ns)) (fun _ _ => False))))
noncomputable def c_X8_write_10 (Q : XQ) (X : XX) (n : Nat) (a0 : Nat) (a2 : Nat) (x3 : Int32) (nc : Nat) (ns : Nat) (r15 : Int32) (μ14 : XM) : Prop := (if r15 < 0 then ln_X8_write_64 Q X n [some (.ref a0), none, some (.ref a2), some (.int (x3 + ji 1)), none] [] μ14 nc ns else (∃ b16, gR μ14 2013 0 = some b16 ∧ (tg μ14 b16 = some (.inr 10) ∧ s_J0_length_8abf5 μ14 [.ref b16] (qI (c_X8_write_9 r15 Q X n a0 a2 x3 nc ns)) (fun _ _ => False))))
noncomputable def c_X8_write_11 (b9 : Nat) (r11 : Int32) (Q : XQ) (X : XX) (n : Nat) (a0 : Nat) (a2 : Nat) (x3 : Int32) (nc : Nat) (ns : Nat) (r13 : Int32) (μ12 : XM) : Prop := (tg μ12 b9 = some (.inl 0) ∧ s_X0_wayTo μ12 [.ref b9, .int r11, .int r13] (qI (c_X8_write_10 Q X n a0 a2 x3 nc ns)) (fun _ _ => False))
noncomputable def c_X8_write_12 (a2 : Nat) (x3 : Int32) (b9 : Nat) (Q : XQ) (X : XX) (n : Nat) (a0 : Nat) (nc : Nat) (ns : Nat) (r11 : Int32) (μ10 : XM) : Prop := (tg μ10 a2 = some (.inl 3) ∧ s_X3_trailNode μ10 [.ref a2, .int x3] (qI (c_X8_write_11 b9 r11 Q X n a0 a2 x3 nc ns)) (fun _ _ => False))
set_option maxRecDepth 100000 in
theorem ul_X8_write_64 {μ : XM} {a0 : Nat} {a2 : Nat} {x3 : Int32} {nc ns n : Nat} {Q : XQ} {X : XX} : ln_X8_write_64 Q X (n + 1) [some (.ref a0), none, some (.ref a2), some (.int x3), none] [] μ nc ns = ((tg μ a2 = some (.inl 3) ∧ (if (gI μ 104 a2) ≤ x3 then (tg μ a0 = some (.inl 8) ∧ Q (some (.int (gI μ 266 a0))) μ) else (tg μ a0 = some (.inl 8) ∧ ∃ b8, gR μ 256 a0 = some b8 ∧ (tg μ b8 = some (.inl 7) ∧ ∃ b9, gR μ 224 b8 = some b9 ∧ (tg μ a2 = some (.inl 3) ∧ s_X3_trailNode μ [.ref a2, .int (x3 - (ji 1))] (qI (c_X8_write_12 a2 x3 b9 Q X n a0 nc ns)) (fun _ _ => False))))))) := rfl
noncomputable def c_X8_wrongLessons_1 (Q : XQ) (r4 : Int32) (μ3 : XM) : Prop := Q (some (.int r4)) μ3
noncomputable def c_X8_wrongLessons_2 (a0 : Nat) (x1 : Int32) (Q : XQ) (μ1 : XM) : Prop := (tg μ1 a0 = some (.inl 8) ∧ ∃ b2, gR μ1 256 a0 = some b2 ∧ (tg μ1 b2 = some (.inl 7) ∧ s_X7_countLessons μ1 [.ref b2, .int x1, .int (ji 1)] (qI (c_X8_wrongLessons_1 Q)) (fun _ _ => False)))
set_option maxRecDepth 100000 in
theorem u_X8_wrongLessons {μ : XM} {a0 : Nat} {x1 : Int32} {Q : XQ} {X : XX} : s_X8_wrongLessons μ [.ref a0, .int x1] Q X = ((tg μ a0 = some (.inl 8) ∧ 0 + 1 ≤ 1 ∧ 0 + 6 ≤ 6 ∧ s_X8_requireNode μ [.ref a0, .int x1] (qV (c_X8_wrongLessons_2 a0 x1 Q)) X)) := by
  rw [s_X8_wrongLessons, xseal_eq]
  rfl
