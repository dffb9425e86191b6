/-! ===== decode, fast: a long method's bytes out of one number ===== -/
theorem u1_at {all : ByteArray} {p b : Nat} (h : p < all.size) (hb : all[p].toNat = b) : (Jvm.ClassFile.Reader.u1 : Jvm.ClassFile.Decoder Nat) all p = .ok (b, p + 1) := by
  show (dite (p < all.size) (fun h => (do set (p+1); pure all[p].toNat : Jvm.ClassFile.Decoder Nat)) (fun _ => throw (Jvm.ClassFile.HasTruncated.truncated p))) all p = _
  rw [dif_pos h, ← hb]
  rfl
theorem u2_at {all : ByteArray} {p b c : Nat} (h : p + 1 < all.size) (hb : all[p].toNat = b) (hc : all[p + 1].toNat = c) : (Jvm.ClassFile.Reader.u2 : Jvm.ClassFile.Decoder Nat) all p = .ok (b * 256 + c, p + 2) := by
  show Except.bind ((Jvm.ClassFile.Reader.u1 : Jvm.ClassFile.Decoder Nat) all p) (fun (r : Nat × Nat) => Except.bind ((Jvm.ClassFile.Reader.u1 : Jvm.ClassFile.Decoder Nat) all r.2) (fun (q : Nat × Nat) => .ok (r.1 * 256 + q.1, q.2))) = _
  rw [u1_at (by omega) hb]
  show Except.bind ((Jvm.ClassFile.Reader.u1 : Jvm.ClassFile.Decoder Nat) all (p + 1)) (fun (q : Nat × Nat) => .ok (b * 256 + q.1, q.2)) = _
  rw [u1_at h hc]
  rfl
theorem s2_at {all : ByteArray} {p b c : Nat} (h : p + 1 < all.size) (hb : all[p].toNat = b) (hc : all[p + 1].toNat = c) : (Jvm.ClassFile.Reader.s2 : Jvm.ClassFile.Decoder Int) all p = .ok (Jvm.ClassFile.Reader.signed 16 (b * 256 + c), p + 2) := by
  show Except.map (fun (r : Nat × Nat) => (Jvm.ClassFile.Reader.signed 16 r.1, r.2)) ((Jvm.ClassFile.Reader.u2 : Jvm.ClassFile.Decoder Nat) all p) = _
  rw [u2_at h hb hc]
  rfl
theorem s1_at {all : ByteArray} {p b : Nat} (h : p < all.size) (hb : all[p].toNat = b) : (Jvm.ClassFile.Reader.s1 : Jvm.ClassFile.Decoder Int) all p = .ok (Jvm.ClassFile.Reader.signed 8 b, p + 1) := by
  show Except.map (fun (r : Nat × Nat) => (Jvm.ClassFile.Reader.signed 8 r.1, r.2)) ((Jvm.ClassFile.Reader.u1 : Jvm.ClassFile.Decoder Nat) all p) = _
  rw [u1_at h hb]
  rfl
theorem dec_2 {all : ByteArray} {p b c : Nat} (h : p + 2 < all.size) (h0 : all[p].toNat = 2) (h1 : all[p + 1].toNat = b) (h2 : all[p + 1 + 1].toNat = c) : decode all p = .ok (.iconst (-1), 1) := by
  have g : decode all p = Except.bind (Except.bind ((Jvm.ClassFile.Reader.u1 : Jvm.ClassFile.Decoder Nat) all p) (_ : Nat × Nat → Except Jvm.ClassFile.DecodeError (Instr × Nat))) (fun (r : Instr × Nat) => .ok (r.1, r.2 - p)) := rfl
  rw [g, u1_at (by omega) h0]
  show Except.ok (_, p + 1 - p) = _
  rw [Nat.add_sub_cancel_left]
theorem dec_3 {all : ByteArray} {p b c : Nat} (h : p + 2 < all.size) (h0 : all[p].toNat = 3) (h1 : all[p + 1].toNat = b) (h2 : all[p + 1 + 1].toNat = c) : decode all p = .ok (.iconst (0), 1) := by
  have g : decode all p = Except.bind (Except.bind ((Jvm.ClassFile.Reader.u1 : Jvm.ClassFile.Decoder Nat) all p) (_ : Nat × Nat → Except Jvm.ClassFile.DecodeError (Instr × Nat))) (fun (r : Instr × Nat) => .ok (r.1, r.2 - p)) := rfl
  rw [g, u1_at (by omega) h0]
  show Except.ok (_, p + 1 - p) = _
  rw [Nat.add_sub_cancel_left]
theorem dec_4 {all : ByteArray} {p b c : Nat} (h : p + 2 < all.size) (h0 : all[p].toNat = 4) (h1 : all[p + 1].toNat = b) (h2 : all[p + 1 + 1].toNat = c) : decode all p = .ok (.iconst (1), 1) := by
  have g : decode all p = Except.bind (Except.bind ((Jvm.ClassFile.Reader.u1 : Jvm.ClassFile.Decoder Nat) all p) (_ : Nat × Nat → Except Jvm.ClassFile.DecodeError (Instr × Nat))) (fun (r : Instr × Nat) => .ok (r.1, r.2 - p)) := rfl
  rw [g, u1_at (by omega) h0]
  show Except.ok (_, p + 1 - p) = _
  rw [Nat.add_sub_cancel_left]
theorem dec_5 {all : ByteArray} {p b c : Nat} (h : p + 2 < all.size) (h0 : all[p].toNat = 5) (h1 : all[p + 1].toNat = b) (h2 : all[p + 1 + 1].toNat = c) : decode all p = .ok (.iconst (2), 1) := by
  have g : decode all p = Except.bind (Except.bind ((Jvm.ClassFile.Reader.u1 : Jvm.ClassFile.Decoder Nat) all p) (_ : Nat × Nat → Except Jvm.ClassFile.DecodeError (Instr × Nat))) (fun (r : Instr × Nat) => .ok (r.1, r.2 - p)) := rfl
  rw [g, u1_at (by omega) h0]
  show Except.ok (_, p + 1 - p) = _
  rw [Nat.add_sub_cancel_left]
theorem dec_6 {all : ByteArray} {p b c : Nat} (h : p + 2 < all.size) (h0 : all[p].toNat = 6) (h1 : all[p + 1].toNat = b) (h2 : all[p + 1 + 1].toNat = c) : decode all p = .ok (.iconst (3), 1) := by
  have g : decode all p = Except.bind (Except.bind ((Jvm.ClassFile.Reader.u1 : Jvm.ClassFile.Decoder Nat) all p) (_ : Nat × Nat → Except Jvm.ClassFile.DecodeError (Instr × Nat))) (fun (r : Instr × Nat) => .ok (r.1, r.2 - p)) := rfl
  rw [g, u1_at (by omega) h0]
  show Except.ok (_, p + 1 - p) = _
  rw [Nat.add_sub_cancel_left]
theorem dec_7 {all : ByteArray} {p b c : Nat} (h : p + 2 < all.size) (h0 : all[p].toNat = 7) (h1 : all[p + 1].toNat = b) (h2 : all[p + 1 + 1].toNat = c) : decode all p = .ok (.iconst (4), 1) := by
  have g : decode all p = Except.bind (Except.bind ((Jvm.ClassFile.Reader.u1 : Jvm.ClassFile.Decoder Nat) all p) (_ : Nat × Nat → Except Jvm.ClassFile.DecodeError (Instr × Nat))) (fun (r : Instr × Nat) => .ok (r.1, r.2 - p)) := rfl
  rw [g, u1_at (by omega) h0]
  show Except.ok (_, p + 1 - p) = _
  rw [Nat.add_sub_cancel_left]
theorem dec_8 {all : ByteArray} {p b c : Nat} (h : p + 2 < all.size) (h0 : all[p].toNat = 8) (h1 : all[p + 1].toNat = b) (h2 : all[p + 1 + 1].toNat = c) : decode all p = .ok (.iconst (5), 1) := by
  have g : decode all p = Except.bind (Except.bind ((Jvm.ClassFile.Reader.u1 : Jvm.ClassFile.Decoder Nat) all p) (_ : Nat × Nat → Except Jvm.ClassFile.DecodeError (Instr × Nat))) (fun (r : Instr × Nat) => .ok (r.1, r.2 - p)) := rfl
  rw [g, u1_at (by omega) h0]
  show Except.ok (_, p + 1 - p) = _
  rw [Nat.add_sub_cancel_left]
theorem dec_9 {all : ByteArray} {p b c : Nat} (h : p + 2 < all.size) (h0 : all[p].toNat = 9) (h1 : all[p + 1].toNat = b) (h2 : all[p + 1 + 1].toNat = c) : decode all p = .ok (.lconst 0, 1) := by
  have g : decode all p = Except.bind (Except.bind ((Jvm.ClassFile.Reader.u1 : Jvm.ClassFile.Decoder Nat) all p) (_ : Nat × Nat → Except Jvm.ClassFile.DecodeError (Instr × Nat))) (fun (r : Instr × Nat) => .ok (r.1, r.2 - p)) := rfl
  rw [g, u1_at (by omega) h0]
  show Except.ok (_, p + 1 - p) = _
  rw [Nat.add_sub_cancel_left]
theorem dec_10 {all : ByteArray} {p b c : Nat} (h : p + 2 < all.size) (h0 : all[p].toNat = 10) (h1 : all[p + 1].toNat = b) (h2 : all[p + 1 + 1].toNat = c) : decode all p = .ok (.lconst 1, 1) := by
  have g : decode all p = Except.bind (Except.bind ((Jvm.ClassFile.Reader.u1 : Jvm.ClassFile.Decoder Nat) all p) (_ : Nat × Nat → Except Jvm.ClassFile.DecodeError (Instr × Nat))) (fun (r : Instr × Nat) => .ok (r.1, r.2 - p)) := rfl
  rw [g, u1_at (by omega) h0]
  show Except.ok (_, p + 1 - p) = _
  rw [Nat.add_sub_cancel_left]
theorem dec_21 {all : ByteArray} {p b c : Nat} (h : p + 2 < all.size) (h0 : all[p].toNat = 21) (h1 : all[p + 1].toNat = b) (h2 : all[p + 1 + 1].toNat = c) : decode all p = .ok (.iload b, 2) := by
  have g : decode all p = Except.bind (Except.bind ((Jvm.ClassFile.Reader.u1 : Jvm.ClassFile.Decoder Nat) all p) (_ : Nat × Nat → Except Jvm.ClassFile.DecodeError (Instr × Nat))) (fun (r : Instr × Nat) => .ok (r.1, r.2 - p)) := rfl
  rw [g, u1_at (by omega) h0]
  show Except.bind (Except.bind ((Jvm.ClassFile.Reader.u1 : Jvm.ClassFile.Decoder Nat) all (p + 1)) (fun (r : Nat × Nat) => .ok (.iload r.1, r.2))) (fun (r : Instr × Nat) => .ok (r.1, r.2 - p)) = _
  rw [u1_at (by omega) h1]
  show Except.ok (_, p + 1 + 1 - p) = _
  rw [show p + 1 + 1 - p = 2 by omega]
theorem dec_24 {all : ByteArray} {p b c : Nat} (h : p + 2 < all.size) (h0 : all[p].toNat = 24) (h1 : all[p + 1].toNat = b) (h2 : all[p + 1 + 1].toNat = c) : decode all p = .ok (.dload b, 2) := by
  have g : decode all p = Except.bind (Except.bind ((Jvm.ClassFile.Reader.u1 : Jvm.ClassFile.Decoder Nat) all p) (_ : Nat × Nat → Except Jvm.ClassFile.DecodeError (Instr × Nat))) (fun (r : Instr × Nat) => .ok (r.1, r.2 - p)) := rfl
  rw [g, u1_at (by omega) h0]
  show Except.bind (Except.bind ((Jvm.ClassFile.Reader.u1 : Jvm.ClassFile.Decoder Nat) all (p + 1)) (fun (r : Nat × Nat) => .ok (.dload r.1, r.2))) (fun (r : Instr × Nat) => .ok (r.1, r.2 - p)) = _
  rw [u1_at (by omega) h1]
  show Except.ok (_, p + 1 + 1 - p) = _
  rw [show p + 1 + 1 - p = 2 by omega]
theorem dec_25 {all : ByteArray} {p b c : Nat} (h : p + 2 < all.size) (h0 : all[p].toNat = 25) (h1 : all[p + 1].toNat = b) (h2 : all[p + 1 + 1].toNat = c) : decode all p = .ok (.aload b, 2) := by
  have g : decode all p = Except.bind (Except.bind ((Jvm.ClassFile.Reader.u1 : Jvm.ClassFile.Decoder Nat) all p) (_ : Nat × Nat → Except Jvm.ClassFile.DecodeError (Instr × Nat))) (fun (r : Instr × Nat) => .ok (r.1, r.2 - p)) := rfl
  rw [g, u1_at (by omega) h0]
  show Except.bind (Except.bind ((Jvm.ClassFile.Reader.u1 : Jvm.ClassFile.Decoder Nat) all (p + 1)) (fun (r : Nat × Nat) => .ok (.aload r.1, r.2))) (fun (r : Instr × Nat) => .ok (r.1, r.2 - p)) = _
  rw [u1_at (by omega) h1]
  show Except.ok (_, p + 1 + 1 - p) = _
  rw [show p + 1 + 1 - p = 2 by omega]
theorem dec_42 {all : ByteArray} {p b c : Nat} (h : p + 2 < all.size) (h0 : all[p].toNat = 42) (h1 : all[p + 1].toNat = b) (h2 : all[p + 1 + 1].toNat = c) : decode all p = .ok (.aload_n 0, 1) := by
  have g : decode all p = Except.bind (Except.bind ((Jvm.ClassFile.Reader.u1 : Jvm.ClassFile.Decoder Nat) all p) (_ : Nat × Nat → Except Jvm.ClassFile.DecodeError (Instr × Nat))) (fun (r : Instr × Nat) => .ok (r.1, r.2 - p)) := rfl
  rw [g, u1_at (by omega) h0]
  show Except.ok (_, p + 1 - p) = _
  rw [Nat.add_sub_cancel_left]
theorem dec_43 {all : ByteArray} {p b c : Nat} (h : p + 2 < all.size) (h0 : all[p].toNat = 43) (h1 : all[p + 1].toNat = b) (h2 : all[p + 1 + 1].toNat = c) : decode all p = .ok (.aload_n 1, 1) := by
  have g : decode all p = Except.bind (Except.bind ((Jvm.ClassFile.Reader.u1 : Jvm.ClassFile.Decoder Nat) all p) (_ : Nat × Nat → Except Jvm.ClassFile.DecodeError (Instr × Nat))) (fun (r : Instr × Nat) => .ok (r.1, r.2 - p)) := rfl
  rw [g, u1_at (by omega) h0]
  show Except.ok (_, p + 1 - p) = _
  rw [Nat.add_sub_cancel_left]
theorem dec_44 {all : ByteArray} {p b c : Nat} (h : p + 2 < all.size) (h0 : all[p].toNat = 44) (h1 : all[p + 1].toNat = b) (h2 : all[p + 1 + 1].toNat = c) : decode all p = .ok (.aload_n 2, 1) := by
  have g : decode all p = Except.bind (Except.bind ((Jvm.ClassFile.Reader.u1 : Jvm.ClassFile.Decoder Nat) all p) (_ : Nat × Nat → Except Jvm.ClassFile.DecodeError (Instr × Nat))) (fun (r : Instr × Nat) => .ok (r.1, r.2 - p)) := rfl
  rw [g, u1_at (by omega) h0]
  show Except.ok (_, p + 1 - p) = _
  rw [Nat.add_sub_cancel_left]
theorem dec_45 {all : ByteArray} {p b c : Nat} (h : p + 2 < all.size) (h0 : all[p].toNat = 45) (h1 : all[p + 1].toNat = b) (h2 : all[p + 1 + 1].toNat = c) : decode all p = .ok (.aload_n 3, 1) := by
  have g : decode all p = Except.bind (Except.bind ((Jvm.ClassFile.Reader.u1 : Jvm.ClassFile.Decoder Nat) all p) (_ : Nat × Nat → Except Jvm.ClassFile.DecodeError (Instr × Nat))) (fun (r : Instr × Nat) => .ok (r.1, r.2 - p)) := rfl
  rw [g, u1_at (by omega) h0]
  show Except.ok (_, p + 1 - p) = _
  rw [Nat.add_sub_cancel_left]
theorem dec_46 {all : ByteArray} {p b c : Nat} (h : p + 2 < all.size) (h0 : all[p].toNat = 46) (h1 : all[p + 1].toNat = b) (h2 : all[p + 1 + 1].toNat = c) : decode all p = .ok (.iaload, 1) := by
  have g : decode all p = Except.bind (Except.bind ((Jvm.ClassFile.Reader.u1 : Jvm.ClassFile.Decoder Nat) all p) (_ : Nat × Nat → Except Jvm.ClassFile.DecodeError (Instr × Nat))) (fun (r : Instr × Nat) => .ok (r.1, r.2 - p)) := rfl
  rw [g, u1_at (by omega) h0]
  show Except.ok (_, p + 1 - p) = _
  rw [Nat.add_sub_cancel_left]
theorem dec_47 {all : ByteArray} {p b c : Nat} (h : p + 2 < all.size) (h0 : all[p].toNat = 47) (h1 : all[p + 1].toNat = b) (h2 : all[p + 1 + 1].toNat = c) : decode all p = .ok (.laload, 1) := by
  have g : decode all p = Except.bind (Except.bind ((Jvm.ClassFile.Reader.u1 : Jvm.ClassFile.Decoder Nat) all p) (_ : Nat × Nat → Except Jvm.ClassFile.DecodeError (Instr × Nat))) (fun (r : Instr × Nat) => .ok (r.1, r.2 - p)) := rfl
  rw [g, u1_at (by omega) h0]
  show Except.ok (_, p + 1 - p) = _
  rw [Nat.add_sub_cancel_left]
theorem dec_49 {all : ByteArray} {p b c : Nat} (h : p + 2 < all.size) (h0 : all[p].toNat = 49) (h1 : all[p + 1].toNat = b) (h2 : all[p + 1 + 1].toNat = c) : decode all p = .ok (.daload, 1) := by
  have g : decode all p = Except.bind (Except.bind ((Jvm.ClassFile.Reader.u1 : Jvm.ClassFile.Decoder Nat) all p) (_ : Nat × Nat → Except Jvm.ClassFile.DecodeError (Instr × Nat))) (fun (r : Instr × Nat) => .ok (r.1, r.2 - p)) := rfl
  rw [g, u1_at (by omega) h0]
  show Except.ok (_, p + 1 - p) = _
  rw [Nat.add_sub_cancel_left]
theorem dec_54 {all : ByteArray} {p b c : Nat} (h : p + 2 < all.size) (h0 : all[p].toNat = 54) (h1 : all[p + 1].toNat = b) (h2 : all[p + 1 + 1].toNat = c) : decode all p = .ok (.istore b, 2) := by
  have g : decode all p = Except.bind (Except.bind ((Jvm.ClassFile.Reader.u1 : Jvm.ClassFile.Decoder Nat) all p) (_ : Nat × Nat → Except Jvm.ClassFile.DecodeError (Instr × Nat))) (fun (r : Instr × Nat) => .ok (r.1, r.2 - p)) := rfl
  rw [g, u1_at (by omega) h0]
  show Except.bind (Except.bind ((Jvm.ClassFile.Reader.u1 : Jvm.ClassFile.Decoder Nat) all (p + 1)) (fun (r : Nat × Nat) => .ok (.istore r.1, r.2))) (fun (r : Instr × Nat) => .ok (r.1, r.2 - p)) = _
  rw [u1_at (by omega) h1]
  show Except.ok (_, p + 1 + 1 - p) = _
  rw [show p + 1 + 1 - p = 2 by omega]
theorem dec_57 {all : ByteArray} {p b c : Nat} (h : p + 2 < all.size) (h0 : all[p].toNat = 57) (h1 : all[p + 1].toNat = b) (h2 : all[p + 1 + 1].toNat = c) : decode all p = .ok (.dstore b, 2) := by
  have g : decode all p = Except.bind (Except.bind ((Jvm.ClassFile.Reader.u1 : Jvm.ClassFile.Decoder Nat) all p) (_ : Nat × Nat → Except Jvm.ClassFile.DecodeError (Instr × Nat))) (fun (r : Instr × Nat) => .ok (r.1, r.2 - p)) := rfl
  rw [g, u1_at (by omega) h0]
  show Except.bind (Except.bind ((Jvm.ClassFile.Reader.u1 : Jvm.ClassFile.Decoder Nat) all (p + 1)) (fun (r : Nat × Nat) => .ok (.dstore r.1, r.2))) (fun (r : Instr × Nat) => .ok (r.1, r.2 - p)) = _
  rw [u1_at (by omega) h1]
  show Except.ok (_, p + 1 + 1 - p) = _
  rw [show p + 1 + 1 - p = 2 by omega]
theorem dec_58 {all : ByteArray} {p b c : Nat} (h : p + 2 < all.size) (h0 : all[p].toNat = 58) (h1 : all[p + 1].toNat = b) (h2 : all[p + 1 + 1].toNat = c) : decode all p = .ok (.astore b, 2) := by
  have g : decode all p = Except.bind (Except.bind ((Jvm.ClassFile.Reader.u1 : Jvm.ClassFile.Decoder Nat) all p) (_ : Nat × Nat → Except Jvm.ClassFile.DecodeError (Instr × Nat))) (fun (r : Instr × Nat) => .ok (r.1, r.2 - p)) := rfl
  rw [g, u1_at (by omega) h0]
  show Except.bind (Except.bind ((Jvm.ClassFile.Reader.u1 : Jvm.ClassFile.Decoder Nat) all (p + 1)) (fun (r : Nat × Nat) => .ok (.astore r.1, r.2))) (fun (r : Instr × Nat) => .ok (r.1, r.2 - p)) = _
  rw [u1_at (by omega) h1]
  show Except.ok (_, p + 1 + 1 - p) = _
  rw [show p + 1 + 1 - p = 2 by omega]
theorem dec_75 {all : ByteArray} {p b c : Nat} (h : p + 2 < all.size) (h0 : all[p].toNat = 75) (h1 : all[p + 1].toNat = b) (h2 : all[p + 1 + 1].toNat = c) : decode all p = .ok (.astore_n 0, 1) := by
  have g : decode all p = Except.bind (Except.bind ((Jvm.ClassFile.Reader.u1 : Jvm.ClassFile.Decoder Nat) all p) (_ : Nat × Nat → Except Jvm.ClassFile.DecodeError (Instr × Nat))) (fun (r : Instr × Nat) => .ok (r.1, r.2 - p)) := rfl
  rw [g, u1_at (by omega) h0]
  show Except.ok (_, p + 1 - p) = _
  rw [Nat.add_sub_cancel_left]
theorem dec_76 {all : ByteArray} {p b c : Nat} (h : p + 2 < all.size) (h0 : all[p].toNat = 76) (h1 : all[p + 1].toNat = b) (h2 : all[p + 1 + 1].toNat = c) : decode all p = .ok (.astore_n 1, 1) := by
  have g : decode all p = Except.bind (Except.bind ((Jvm.ClassFile.Reader.u1 : Jvm.ClassFile.Decoder Nat) all p) (_ : Nat × Nat → Except Jvm.ClassFile.DecodeError (Instr × Nat))) (fun (r : Instr × Nat) => .ok (r.1, r.2 - p)) := rfl
  rw [g, u1_at (by omega) h0]
  show Except.ok (_, p + 1 - p) = _
  rw [Nat.add_sub_cancel_left]
theorem dec_77 {all : ByteArray} {p b c : Nat} (h : p + 2 < all.size) (h0 : all[p].toNat = 77) (h1 : all[p + 1].toNat = b) (h2 : all[p + 1 + 1].toNat = c) : decode all p = .ok (.astore_n 2, 1) := by
  have g : decode all p = Except.bind (Except.bind ((Jvm.ClassFile.Reader.u1 : Jvm.ClassFile.Decoder Nat) all p) (_ : Nat × Nat → Except Jvm.ClassFile.DecodeError (Instr × Nat))) (fun (r : Instr × Nat) => .ok (r.1, r.2 - p)) := rfl
  rw [g, u1_at (by omega) h0]
  show Except.ok (_, p + 1 - p) = _
  rw [Nat.add_sub_cancel_left]
theorem dec_78 {all : ByteArray} {p b c : Nat} (h : p + 2 < all.size) (h0 : all[p].toNat = 78) (h1 : all[p + 1].toNat = b) (h2 : all[p + 1 + 1].toNat = c) : decode all p = .ok (.astore_n 3, 1) := by
  have g : decode all p = Except.bind (Except.bind ((Jvm.ClassFile.Reader.u1 : Jvm.ClassFile.Decoder Nat) all p) (_ : Nat × Nat → Except Jvm.ClassFile.DecodeError (Instr × Nat))) (fun (r : Instr × Nat) => .ok (r.1, r.2 - p)) := rfl
  rw [g, u1_at (by omega) h0]
  show Except.ok (_, p + 1 - p) = _
  rw [Nat.add_sub_cancel_left]
theorem dec_89 {all : ByteArray} {p b c : Nat} (h : p + 2 < all.size) (h0 : all[p].toNat = 89) (h1 : all[p + 1].toNat = b) (h2 : all[p + 1 + 1].toNat = c) : decode all p = .ok (.dup, 1) := by
  have g : decode all p = Except.bind (Except.bind ((Jvm.ClassFile.Reader.u1 : Jvm.ClassFile.Decoder Nat) all p) (_ : Nat × Nat → Except Jvm.ClassFile.DecodeError (Instr × Nat))) (fun (r : Instr × Nat) => .ok (r.1, r.2 - p)) := rfl
  rw [g, u1_at (by omega) h0]
  show Except.ok (_, p + 1 - p) = _
  rw [Nat.add_sub_cancel_left]
theorem dec_96 {all : ByteArray} {p b c : Nat} (h : p + 2 < all.size) (h0 : all[p].toNat = 96) (h1 : all[p + 1].toNat = b) (h2 : all[p + 1 + 1].toNat = c) : decode all p = .ok (.iadd, 1) := by
  have g : decode all p = Except.bind (Except.bind ((Jvm.ClassFile.Reader.u1 : Jvm.ClassFile.Decoder Nat) all p) (_ : Nat × Nat → Except Jvm.ClassFile.DecodeError (Instr × Nat))) (fun (r : Instr × Nat) => .ok (r.1, r.2 - p)) := rfl
  rw [g, u1_at (by omega) h0]
  show Except.ok (_, p + 1 - p) = _
  rw [Nat.add_sub_cancel_left]
theorem dec_100 {all : ByteArray} {p b c : Nat} (h : p + 2 < all.size) (h0 : all[p].toNat = 100) (h1 : all[p + 1].toNat = b) (h2 : all[p + 1 + 1].toNat = c) : decode all p = .ok (.isub, 1) := by
  have g : decode all p = Except.bind (Except.bind ((Jvm.ClassFile.Reader.u1 : Jvm.ClassFile.Decoder Nat) all p) (_ : Nat × Nat → Except Jvm.ClassFile.DecodeError (Instr × Nat))) (fun (r : Instr × Nat) => .ok (r.1, r.2 - p)) := rfl
  rw [g, u1_at (by omega) h0]
  show Except.ok (_, p + 1 - p) = _
  rw [Nat.add_sub_cancel_left]
theorem dec_126 {all : ByteArray} {p b c : Nat} (h : p + 2 < all.size) (h0 : all[p].toNat = 126) (h1 : all[p + 1].toNat = b) (h2 : all[p + 1 + 1].toNat = c) : decode all p = .ok (.iand, 1) := by
  have g : decode all p = Except.bind (Except.bind ((Jvm.ClassFile.Reader.u1 : Jvm.ClassFile.Decoder Nat) all p) (_ : Nat × Nat → Except Jvm.ClassFile.DecodeError (Instr × Nat))) (fun (r : Instr × Nat) => .ok (r.1, r.2 - p)) := rfl
  rw [g, u1_at (by omega) h0]
  show Except.ok (_, p + 1 - p) = _
  rw [Nat.add_sub_cancel_left]
theorem dec_132 {all : ByteArray} {p b c : Nat} (h : p + 2 < all.size) (h0 : all[p].toNat = 132) (h1 : all[p + 1].toNat = b) (h2 : all[p + 1 + 1].toNat = c) : decode all p = .ok (.iinc b (Jvm.ClassFile.Reader.signed 8 c), 3) := by
  have g : decode all p = Except.bind (Except.bind ((Jvm.ClassFile.Reader.u1 : Jvm.ClassFile.Decoder Nat) all p) (_ : Nat × Nat → Except Jvm.ClassFile.DecodeError (Instr × Nat))) (fun (r : Instr × Nat) => .ok (r.1, r.2 - p)) := rfl
  rw [g, u1_at (by omega) h0]
  show Except.bind (Except.bind ((Jvm.ClassFile.Reader.u1 : Jvm.ClassFile.Decoder Nat) all (p + 1)) (fun (r : Nat × Nat) => Except.bind ((Jvm.ClassFile.Reader.s1 : Jvm.ClassFile.Decoder Int) all r.2) (fun (q : Int × Nat) => .ok (.iinc r.1 q.1, q.2)))) (fun (r : Instr × Nat) => .ok (r.1, r.2 - p)) = _
  rw [u1_at (by omega) h1]
  show Except.bind (Except.bind ((Jvm.ClassFile.Reader.s1 : Jvm.ClassFile.Decoder Int) all (p + 1 + 1)) (fun (q : Int × Nat) => .ok (.iinc b q.1, q.2))) (fun (r : Instr × Nat) => .ok (r.1, r.2 - p)) = _
  rw [s1_at (by omega) h2]
  show Except.ok (_, p + 1 + 1 + 1 - p) = _
  rw [show p + 1 + 1 + 1 - p = 3 by omega]
theorem dec_133 {all : ByteArray} {p b c : Nat} (h : p + 2 < all.size) (h0 : all[p].toNat = 133) (h1 : all[p + 1].toNat = b) (h2 : all[p + 1 + 1].toNat = c) : decode all p = .ok (.i2l, 1) := by
  have g : decode all p = Except.bind (Except.bind ((Jvm.ClassFile.Reader.u1 : Jvm.ClassFile.Decoder Nat) all p) (_ : Nat × Nat → Except Jvm.ClassFile.DecodeError (Instr × Nat))) (fun (r : Instr × Nat) => .ok (r.1, r.2 - p)) := rfl
  rw [g, u1_at (by omega) h0]
  show Except.ok (_, p + 1 - p) = _
  rw [Nat.add_sub_cancel_left]
theorem dec_148 {all : ByteArray} {p b c : Nat} (h : p + 2 < all.size) (h0 : all[p].toNat = 148) (h1 : all[p + 1].toNat = b) (h2 : all[p + 1 + 1].toNat = c) : decode all p = .ok (.lcmp, 1) := by
  have g : decode all p = Except.bind (Except.bind ((Jvm.ClassFile.Reader.u1 : Jvm.ClassFile.Decoder Nat) all p) (_ : Nat × Nat → Except Jvm.ClassFile.DecodeError (Instr × Nat))) (fun (r : Instr × Nat) => .ok (r.1, r.2 - p)) := rfl
  rw [g, u1_at (by omega) h0]
  show Except.ok (_, p + 1 - p) = _
  rw [Nat.add_sub_cancel_left]
theorem dec_151 {all : ByteArray} {p b c : Nat} (h : p + 2 < all.size) (h0 : all[p].toNat = 151) (h1 : all[p + 1].toNat = b) (h2 : all[p + 1 + 1].toNat = c) : decode all p = .ok (.dcmp .l, 1) := by
  have g : decode all p = Except.bind (Except.bind ((Jvm.ClassFile.Reader.u1 : Jvm.ClassFile.Decoder Nat) all p) (_ : Nat × Nat → Except Jvm.ClassFile.DecodeError (Instr × Nat))) (fun (r : Instr × Nat) => .ok (r.1, r.2 - p)) := rfl
  rw [g, u1_at (by omega) h0]
  show Except.ok (_, p + 1 - p) = _
  rw [Nat.add_sub_cancel_left]
theorem dec_152 {all : ByteArray} {p b c : Nat} (h : p + 2 < all.size) (h0 : all[p].toNat = 152) (h1 : all[p + 1].toNat = b) (h2 : all[p + 1 + 1].toNat = c) : decode all p = .ok (.dcmp .g, 1) := by
  have g : decode all p = Except.bind (Except.bind ((Jvm.ClassFile.Reader.u1 : Jvm.ClassFile.Decoder Nat) all p) (_ : Nat × Nat → Except Jvm.ClassFile.DecodeError (Instr × Nat))) (fun (r : Instr × Nat) => .ok (r.1, r.2 - p)) := rfl
  rw [g, u1_at (by omega) h0]
  show Except.ok (_, p + 1 - p) = _
  rw [Nat.add_sub_cancel_left]
theorem dec_153 {all : ByteArray} {p b c : Nat} (h : p + 2 < all.size) (h0 : all[p].toNat = 153) (h1 : all[p + 1].toNat = b) (h2 : all[p + 1 + 1].toNat = c) : decode all p = .ok (.ifCond .eq (Jvm.ClassFile.Reader.signed 16 (b * 256 + c)), 3) := by
  have g : decode all p = Except.bind (Except.bind ((Jvm.ClassFile.Reader.u1 : Jvm.ClassFile.Decoder Nat) all p) (_ : Nat × Nat → Except Jvm.ClassFile.DecodeError (Instr × Nat))) (fun (r : Instr × Nat) => .ok (r.1, r.2 - p)) := rfl
  rw [g, u1_at (by omega) h0]
  show Except.bind (Except.bind ((Jvm.ClassFile.Reader.s2 : Jvm.ClassFile.Decoder Int) all (p + 1)) (fun (r : Int × Nat) => .ok (.ifCond .eq r.1, r.2))) (fun (r : Instr × Nat) => .ok (r.1, r.2 - p)) = _
  rw [s2_at (by omega) h1 h2]
  show Except.ok (_, p + 1 + 2 - p) = _
  rw [show p + 1 + 2 - p = 3 by omega]
theorem dec_154 {all : ByteArray} {p b c : Nat} (h : p + 2 < all.size) (h0 : all[p].toNat = 154) (h1 : all[p + 1].toNat = b) (h2 : all[p + 1 + 1].toNat = c) : decode all p = .ok (.ifCond .ne (Jvm.ClassFile.Reader.signed 16 (b * 256 + c)), 3) := by
  have g : decode all p = Except.bind (Except.bind ((Jvm.ClassFile.Reader.u1 : Jvm.ClassFile.Decoder Nat) all p) (_ : Nat × Nat → Except Jvm.ClassFile.DecodeError (Instr × Nat))) (fun (r : Instr × Nat) => .ok (r.1, r.2 - p)) := rfl
  rw [g, u1_at (by omega) h0]
  show Except.bind (Except.bind ((Jvm.ClassFile.Reader.s2 : Jvm.ClassFile.Decoder Int) all (p + 1)) (fun (r : Int × Nat) => .ok (.ifCond .ne r.1, r.2))) (fun (r : Instr × Nat) => .ok (r.1, r.2 - p)) = _
  rw [s2_at (by omega) h1 h2]
  show Except.ok (_, p + 1 + 2 - p) = _
  rw [show p + 1 + 2 - p = 3 by omega]
theorem dec_155 {all : ByteArray} {p b c : Nat} (h : p + 2 < all.size) (h0 : all[p].toNat = 155) (h1 : all[p + 1].toNat = b) (h2 : all[p + 1 + 1].toNat = c) : decode all p = .ok (.ifCond .lt (Jvm.ClassFile.Reader.signed 16 (b * 256 + c)), 3) := by
  have g : decode all p = Except.bind (Except.bind ((Jvm.ClassFile.Reader.u1 : Jvm.ClassFile.Decoder Nat) all p) (_ : Nat × Nat → Except Jvm.ClassFile.DecodeError (Instr × Nat))) (fun (r : Instr × Nat) => .ok (r.1, r.2 - p)) := rfl
  rw [g, u1_at (by omega) h0]
  show Except.bind (Except.bind ((Jvm.ClassFile.Reader.s2 : Jvm.ClassFile.Decoder Int) all (p + 1)) (fun (r : Int × Nat) => .ok (.ifCond .lt r.1, r.2))) (fun (r : Instr × Nat) => .ok (r.1, r.2 - p)) = _
  rw [s2_at (by omega) h1 h2]
  show Except.ok (_, p + 1 + 2 - p) = _
  rw [show p + 1 + 2 - p = 3 by omega]
theorem dec_156 {all : ByteArray} {p b c : Nat} (h : p + 2 < all.size) (h0 : all[p].toNat = 156) (h1 : all[p + 1].toNat = b) (h2 : all[p + 1 + 1].toNat = c) : decode all p = .ok (.ifCond .ge (Jvm.ClassFile.Reader.signed 16 (b * 256 + c)), 3) := by
  have g : decode all p = Except.bind (Except.bind ((Jvm.ClassFile.Reader.u1 : Jvm.ClassFile.Decoder Nat) all p) (_ : Nat × Nat → Except Jvm.ClassFile.DecodeError (Instr × Nat))) (fun (r : Instr × Nat) => .ok (r.1, r.2 - p)) := rfl
  rw [g, u1_at (by omega) h0]
  show Except.bind (Except.bind ((Jvm.ClassFile.Reader.s2 : Jvm.ClassFile.Decoder Int) all (p + 1)) (fun (r : Int × Nat) => .ok (.ifCond .ge r.1, r.2))) (fun (r : Instr × Nat) => .ok (r.1, r.2 - p)) = _
  rw [s2_at (by omega) h1 h2]
  show Except.ok (_, p + 1 + 2 - p) = _
  rw [show p + 1 + 2 - p = 3 by omega]
theorem dec_157 {all : ByteArray} {p b c : Nat} (h : p + 2 < all.size) (h0 : all[p].toNat = 157) (h1 : all[p + 1].toNat = b) (h2 : all[p + 1 + 1].toNat = c) : decode all p = .ok (.ifCond .gt (Jvm.ClassFile.Reader.signed 16 (b * 256 + c)), 3) := by
  have g : decode all p = Except.bind (Except.bind ((Jvm.ClassFile.Reader.u1 : Jvm.ClassFile.Decoder Nat) all p) (_ : Nat × Nat → Except Jvm.ClassFile.DecodeError (Instr × Nat))) (fun (r : Instr × Nat) => .ok (r.1, r.2 - p)) := rfl
  rw [g, u1_at (by omega) h0]
  show Except.bind (Except.bind ((Jvm.ClassFile.Reader.s2 : Jvm.ClassFile.Decoder Int) all (p + 1)) (fun (r : Int × Nat) => .ok (.ifCond .gt r.1, r.2))) (fun (r : Instr × Nat) => .ok (r.1, r.2 - p)) = _
  rw [s2_at (by omega) h1 h2]
  show Except.ok (_, p + 1 + 2 - p) = _
  rw [show p + 1 + 2 - p = 3 by omega]
theorem dec_158 {all : ByteArray} {p b c : Nat} (h : p + 2 < all.size) (h0 : all[p].toNat = 158) (h1 : all[p + 1].toNat = b) (h2 : all[p + 1 + 1].toNat = c) : decode all p = .ok (.ifCond .le (Jvm.ClassFile.Reader.signed 16 (b * 256 + c)), 3) := by
  have g : decode all p = Except.bind (Except.bind ((Jvm.ClassFile.Reader.u1 : Jvm.ClassFile.Decoder Nat) all p) (_ : Nat × Nat → Except Jvm.ClassFile.DecodeError (Instr × Nat))) (fun (r : Instr × Nat) => .ok (r.1, r.2 - p)) := rfl
  rw [g, u1_at (by omega) h0]
  show Except.bind (Except.bind ((Jvm.ClassFile.Reader.s2 : Jvm.ClassFile.Decoder Int) all (p + 1)) (fun (r : Int × Nat) => .ok (.ifCond .le r.1, r.2))) (fun (r : Instr × Nat) => .ok (r.1, r.2 - p)) = _
  rw [s2_at (by omega) h1 h2]
  show Except.ok (_, p + 1 + 2 - p) = _
  rw [show p + 1 + 2 - p = 3 by omega]
theorem dec_159 {all : ByteArray} {p b c : Nat} (h : p + 2 < all.size) (h0 : all[p].toNat = 159) (h1 : all[p + 1].toNat = b) (h2 : all[p + 1 + 1].toNat = c) : decode all p = .ok (.if_icmp .eq (Jvm.ClassFile.Reader.signed 16 (b * 256 + c)), 3) := by
  have g : decode all p = Except.bind (Except.bind ((Jvm.ClassFile.Reader.u1 : Jvm.ClassFile.Decoder Nat) all p) (_ : Nat × Nat → Except Jvm.ClassFile.DecodeError (Instr × Nat))) (fun (r : Instr × Nat) => .ok (r.1, r.2 - p)) := rfl
  rw [g, u1_at (by omega) h0]
  show Except.bind (Except.bind ((Jvm.ClassFile.Reader.s2 : Jvm.ClassFile.Decoder Int) all (p + 1)) (fun (r : Int × Nat) => .ok (.if_icmp .eq r.1, r.2))) (fun (r : Instr × Nat) => .ok (r.1, r.2 - p)) = _
  rw [s2_at (by omega) h1 h2]
  show Except.ok (_, p + 1 + 2 - p) = _
  rw [show p + 1 + 2 - p = 3 by omega]
theorem dec_160 {all : ByteArray} {p b c : Nat} (h : p + 2 < all.size) (h0 : all[p].toNat = 160) (h1 : all[p + 1].toNat = b) (h2 : all[p + 1 + 1].toNat = c) : decode all p = .ok (.if_icmp .ne (Jvm.ClassFile.Reader.signed 16 (b * 256 + c)), 3) := by
  have g : decode all p = Except.bind (Except.bind ((Jvm.ClassFile.Reader.u1 : Jvm.ClassFile.Decoder Nat) all p) (_ : Nat × Nat → Except Jvm.ClassFile.DecodeError (Instr × Nat))) (fun (r : Instr × Nat) => .ok (r.1, r.2 - p)) := rfl
  rw [g, u1_at (by omega) h0]
  show Except.bind (Except.bind ((Jvm.ClassFile.Reader.s2 : Jvm.ClassFile.Decoder Int) all (p + 1)) (fun (r : Int × Nat) => .ok (.if_icmp .ne r.1, r.2))) (fun (r : Instr × Nat) => .ok (r.1, r.2 - p)) = _
  rw [s2_at (by omega) h1 h2]
  show Except.ok (_, p + 1 + 2 - p) = _
  rw [show p + 1 + 2 - p = 3 by omega]
theorem dec_161 {all : ByteArray} {p b c : Nat} (h : p + 2 < all.size) (h0 : all[p].toNat = 161) (h1 : all[p + 1].toNat = b) (h2 : all[p + 1 + 1].toNat = c) : decode all p = .ok (.if_icmp .lt (Jvm.ClassFile.Reader.signed 16 (b * 256 + c)), 3) := by
  have g : decode all p = Except.bind (Except.bind ((Jvm.ClassFile.Reader.u1 : Jvm.ClassFile.Decoder Nat) all p) (_ : Nat × Nat → Except Jvm.ClassFile.DecodeError (Instr × Nat))) (fun (r : Instr × Nat) => .ok (r.1, r.2 - p)) := rfl
  rw [g, u1_at (by omega) h0]
  show Except.bind (Except.bind ((Jvm.ClassFile.Reader.s2 : Jvm.ClassFile.Decoder Int) all (p + 1)) (fun (r : Int × Nat) => .ok (.if_icmp .lt r.1, r.2))) (fun (r : Instr × Nat) => .ok (r.1, r.2 - p)) = _
  rw [s2_at (by omega) h1 h2]
  show Except.ok (_, p + 1 + 2 - p) = _
  rw [show p + 1 + 2 - p = 3 by omega]
theorem dec_162 {all : ByteArray} {p b c : Nat} (h : p + 2 < all.size) (h0 : all[p].toNat = 162) (h1 : all[p + 1].toNat = b) (h2 : all[p + 1 + 1].toNat = c) : decode all p = .ok (.if_icmp .ge (Jvm.ClassFile.Reader.signed 16 (b * 256 + c)), 3) := by
  have g : decode all p = Except.bind (Except.bind ((Jvm.ClassFile.Reader.u1 : Jvm.ClassFile.Decoder Nat) all p) (_ : Nat × Nat → Except Jvm.ClassFile.DecodeError (Instr × Nat))) (fun (r : Instr × Nat) => .ok (r.1, r.2 - p)) := rfl
  rw [g, u1_at (by omega) h0]
  show Except.bind (Except.bind ((Jvm.ClassFile.Reader.s2 : Jvm.ClassFile.Decoder Int) all (p + 1)) (fun (r : Int × Nat) => .ok (.if_icmp .ge r.1, r.2))) (fun (r : Instr × Nat) => .ok (r.1, r.2 - p)) = _
  rw [s2_at (by omega) h1 h2]
  show Except.ok (_, p + 1 + 2 - p) = _
  rw [show p + 1 + 2 - p = 3 by omega]
theorem dec_163 {all : ByteArray} {p b c : Nat} (h : p + 2 < all.size) (h0 : all[p].toNat = 163) (h1 : all[p + 1].toNat = b) (h2 : all[p + 1 + 1].toNat = c) : decode all p = .ok (.if_icmp .gt (Jvm.ClassFile.Reader.signed 16 (b * 256 + c)), 3) := by
  have g : decode all p = Except.bind (Except.bind ((Jvm.ClassFile.Reader.u1 : Jvm.ClassFile.Decoder Nat) all p) (_ : Nat × Nat → Except Jvm.ClassFile.DecodeError (Instr × Nat))) (fun (r : Instr × Nat) => .ok (r.1, r.2 - p)) := rfl
  rw [g, u1_at (by omega) h0]
  show Except.bind (Except.bind ((Jvm.ClassFile.Reader.s2 : Jvm.ClassFile.Decoder Int) all (p + 1)) (fun (r : Int × Nat) => .ok (.if_icmp .gt r.1, r.2))) (fun (r : Instr × Nat) => .ok (r.1, r.2 - p)) = _
  rw [s2_at (by omega) h1 h2]
  show Except.ok (_, p + 1 + 2 - p) = _
  rw [show p + 1 + 2 - p = 3 by omega]
theorem dec_164 {all : ByteArray} {p b c : Nat} (h : p + 2 < all.size) (h0 : all[p].toNat = 164) (h1 : all[p + 1].toNat = b) (h2 : all[p + 1 + 1].toNat = c) : decode all p = .ok (.if_icmp .le (Jvm.ClassFile.Reader.signed 16 (b * 256 + c)), 3) := by
  have g : decode all p = Except.bind (Except.bind ((Jvm.ClassFile.Reader.u1 : Jvm.ClassFile.Decoder Nat) all p) (_ : Nat × Nat → Except Jvm.ClassFile.DecodeError (Instr × Nat))) (fun (r : Instr × Nat) => .ok (r.1, r.2 - p)) := rfl
  rw [g, u1_at (by omega) h0]
  show Except.bind (Except.bind ((Jvm.ClassFile.Reader.s2 : Jvm.ClassFile.Decoder Int) all (p + 1)) (fun (r : Int × Nat) => .ok (.if_icmp .le r.1, r.2))) (fun (r : Instr × Nat) => .ok (r.1, r.2 - p)) = _
  rw [s2_at (by omega) h1 h2]
  show Except.ok (_, p + 1 + 2 - p) = _
  rw [show p + 1 + 2 - p = 3 by omega]
theorem dec_167 {all : ByteArray} {p b c : Nat} (h : p + 2 < all.size) (h0 : all[p].toNat = 167) (h1 : all[p + 1].toNat = b) (h2 : all[p + 1 + 1].toNat = c) : decode all p = .ok (.goto (Jvm.ClassFile.Reader.signed 16 (b * 256 + c)), 3) := by
  have g : decode all p = Except.bind (Except.bind ((Jvm.ClassFile.Reader.u1 : Jvm.ClassFile.Decoder Nat) all p) (_ : Nat × Nat → Except Jvm.ClassFile.DecodeError (Instr × Nat))) (fun (r : Instr × Nat) => .ok (r.1, r.2 - p)) := rfl
  rw [g, u1_at (by omega) h0]
  show Except.bind (Except.bind ((Jvm.ClassFile.Reader.s2 : Jvm.ClassFile.Decoder Int) all (p + 1)) (fun (r : Int × Nat) => .ok (.goto r.1, r.2))) (fun (r : Instr × Nat) => .ok (r.1, r.2 - p)) = _
  rw [s2_at (by omega) h1 h2]
  show Except.ok (_, p + 1 + 2 - p) = _
  rw [show p + 1 + 2 - p = 3 by omega]
theorem dec_172 {all : ByteArray} {p b c : Nat} (h : p + 2 < all.size) (h0 : all[p].toNat = 172) (h1 : all[p + 1].toNat = b) (h2 : all[p + 1 + 1].toNat = c) : decode all p = .ok (.ireturn, 1) := by
  have g : decode all p = Except.bind (Except.bind ((Jvm.ClassFile.Reader.u1 : Jvm.ClassFile.Decoder Nat) all p) (_ : Nat × Nat → Except Jvm.ClassFile.DecodeError (Instr × Nat))) (fun (r : Instr × Nat) => .ok (r.1, r.2 - p)) := rfl
  rw [g, u1_at (by omega) h0]
  show Except.ok (_, p + 1 - p) = _
  rw [Nat.add_sub_cancel_left]
theorem dec_182 {all : ByteArray} {p b c : Nat} (h : p + 2 < all.size) (h0 : all[p].toNat = 182) (h1 : all[p + 1].toNat = b) (h2 : all[p + 1 + 1].toNat = c) : decode all p = .ok (.invokevirtual (b * 256 + c), 3) := by
  have g : decode all p = Except.bind (Except.bind ((Jvm.ClassFile.Reader.u1 : Jvm.ClassFile.Decoder Nat) all p) (_ : Nat × Nat → Except Jvm.ClassFile.DecodeError (Instr × Nat))) (fun (r : Instr × Nat) => .ok (r.1, r.2 - p)) := rfl
  rw [g, u1_at (by omega) h0]
  show Except.bind (Except.bind ((Jvm.ClassFile.Reader.u2 : Jvm.ClassFile.Decoder Nat) all (p + 1)) (fun (r : Nat × Nat) => .ok (.invokevirtual r.1, r.2))) (fun (r : Instr × Nat) => .ok (r.1, r.2 - p)) = _
  rw [u2_at (by omega) h1 h2]
  show Except.ok (_, p + 1 + 2 - p) = _
  rw [show p + 1 + 2 - p = 3 by omega]
theorem dec_183 {all : ByteArray} {p b c : Nat} (h : p + 2 < all.size) (h0 : all[p].toNat = 183) (h1 : all[p + 1].toNat = b) (h2 : all[p + 1 + 1].toNat = c) : decode all p = .ok (.invokespecial (b * 256 + c), 3) := by
  have g : decode all p = Except.bind (Except.bind ((Jvm.ClassFile.Reader.u1 : Jvm.ClassFile.Decoder Nat) all p) (_ : Nat × Nat → Except Jvm.ClassFile.DecodeError (Instr × Nat))) (fun (r : Instr × Nat) => .ok (r.1, r.2 - p)) := rfl
  rw [g, u1_at (by omega) h0]
  show Except.bind (Except.bind ((Jvm.ClassFile.Reader.u2 : Jvm.ClassFile.Decoder Nat) all (p + 1)) (fun (r : Nat × Nat) => .ok (.invokespecial r.1, r.2))) (fun (r : Instr × Nat) => .ok (r.1, r.2 - p)) = _
  rw [u2_at (by omega) h1 h2]
  show Except.ok (_, p + 1 + 2 - p) = _
  rw [show p + 1 + 2 - p = 3 by omega]
theorem dec_184 {all : ByteArray} {p b c : Nat} (h : p + 2 < all.size) (h0 : all[p].toNat = 184) (h1 : all[p + 1].toNat = b) (h2 : all[p + 1 + 1].toNat = c) : decode all p = .ok (.invokestatic (b * 256 + c), 3) := by
  have g : decode all p = Except.bind (Except.bind ((Jvm.ClassFile.Reader.u1 : Jvm.ClassFile.Decoder Nat) all p) (_ : Nat × Nat → Except Jvm.ClassFile.DecodeError (Instr × Nat))) (fun (r : Instr × Nat) => .ok (r.1, r.2 - p)) := rfl
  rw [g, u1_at (by omega) h0]
  show Except.bind (Except.bind ((Jvm.ClassFile.Reader.u2 : Jvm.ClassFile.Decoder Nat) all (p + 1)) (fun (r : Nat × Nat) => .ok (.invokestatic r.1, r.2))) (fun (r : Instr × Nat) => .ok (r.1, r.2 - p)) = _
  rw [u2_at (by omega) h1 h2]
  show Except.ok (_, p + 1 + 2 - p) = _
  rw [show p + 1 + 2 - p = 3 by omega]
theorem dec_187 {all : ByteArray} {p b c : Nat} (h : p + 2 < all.size) (h0 : all[p].toNat = 187) (h1 : all[p + 1].toNat = b) (h2 : all[p + 1 + 1].toNat = c) : decode all p = .ok (.new (b * 256 + c), 3) := by
  have g : decode all p = Except.bind (Except.bind ((Jvm.ClassFile.Reader.u1 : Jvm.ClassFile.Decoder Nat) all p) (_ : Nat × Nat → Except Jvm.ClassFile.DecodeError (Instr × Nat))) (fun (r : Instr × Nat) => .ok (r.1, r.2 - p)) := rfl
  rw [g, u1_at (by omega) h0]
  show Except.bind (Except.bind ((Jvm.ClassFile.Reader.u2 : Jvm.ClassFile.Decoder Nat) all (p + 1)) (fun (r : Nat × Nat) => .ok (.new r.1, r.2))) (fun (r : Instr × Nat) => .ok (r.1, r.2 - p)) = _
  rw [u2_at (by omega) h1 h2]
  show Except.ok (_, p + 1 + 2 - p) = _
  rw [show p + 1 + 2 - p = 3 by omega]
theorem dec_190 {all : ByteArray} {p b c : Nat} (h : p + 2 < all.size) (h0 : all[p].toNat = 190) (h1 : all[p + 1].toNat = b) (h2 : all[p + 1 + 1].toNat = c) : decode all p = .ok (.arraylength, 1) := by
  have g : decode all p = Except.bind (Except.bind ((Jvm.ClassFile.Reader.u1 : Jvm.ClassFile.Decoder Nat) all p) (_ : Nat × Nat → Except Jvm.ClassFile.DecodeError (Instr × Nat))) (fun (r : Instr × Nat) => .ok (r.1, r.2 - p)) := rfl
  rw [g, u1_at (by omega) h0]
  show Except.ok (_, p + 1 - p) = _
  rw [Nat.add_sub_cancel_left]
def fdec (a b c : Nat) : Option (Instr × Nat) :=
  if a = 2 then some (.iconst (-1), 1) else
  if a = 3 then some (.iconst (0), 1) else
  if a = 4 then some (.iconst (1), 1) else
  if a = 5 then some (.iconst (2), 1) else
  if a = 6 then some (.iconst (3), 1) else
  if a = 7 then some (.iconst (4), 1) else
  if a = 8 then some (.iconst (5), 1) else
  if a = 9 then some (.lconst 0, 1) else
  if a = 10 then some (.lconst 1, 1) else
  if a = 21 then some (.iload b, 2) else
  if a = 24 then some (.dload b, 2) else
  if a = 25 then some (.aload b, 2) else
  if a = 42 then some (.aload_n 0, 1) else
  if a = 43 then some (.aload_n 1, 1) else
  if a = 44 then some (.aload_n 2, 1) else
  if a = 45 then some (.aload_n 3, 1) else
  if a = 46 then some (.iaload, 1) else
  if a = 47 then some (.laload, 1) else
  if a = 49 then some (.daload, 1) else
  if a = 54 then some (.istore b, 2) else
  if a = 57 then some (.dstore b, 2) else
  if a = 58 then some (.astore b, 2) else
  if a = 75 then some (.astore_n 0, 1) else
  if a = 76 then some (.astore_n 1, 1) else
  if a = 77 then some (.astore_n 2, 1) else
  if a = 78 then some (.astore_n 3, 1) else
  if a = 89 then some (.dup, 1) else
  if a = 96 then some (.iadd, 1) else
  if a = 100 then some (.isub, 1) else
  if a = 126 then some (.iand, 1) else
  if a = 132 then some (.iinc b (Jvm.ClassFile.Reader.signed 8 c), 3) else
  if a = 133 then some (.i2l, 1) else
  if a = 148 then some (.lcmp, 1) else
  if a = 151 then some (.dcmp .l, 1) else
  if a = 152 then some (.dcmp .g, 1) else
  if a = 153 then some (.ifCond .eq (Jvm.ClassFile.Reader.signed 16 (b * 256 + c)), 3) else
  if a = 154 then some (.ifCond .ne (Jvm.ClassFile.Reader.signed 16 (b * 256 + c)), 3) else
  if a = 155 then some (.ifCond .lt (Jvm.ClassFile.Reader.signed 16 (b * 256 + c)), 3) else
  if a = 156 then some (.ifCond .ge (Jvm.ClassFile.Reader.signed 16 (b * 256 + c)), 3) else
  if a = 157 then some (.ifCond .gt (Jvm.ClassFile.Reader.signed 16 (b * 256 + c)), 3) else
  if a = 158 then some (.ifCond .le (Jvm.ClassFile.Reader.signed 16 (b * 256 + c)), 3) else
  if a = 159 then some (.if_icmp .eq (Jvm.ClassFile.Reader.signed 16 (b * 256 + c)), 3) else
  if a = 160 then some (.if_icmp .ne (Jvm.ClassFile.Reader.signed 16 (b * 256 + c)), 3) else
  if a = 161 then some (.if_icmp .lt (Jvm.ClassFile.Reader.signed 16 (b * 256 + c)), 3) else
  if a = 162 then some (.if_icmp .ge (Jvm.ClassFile.Reader.signed 16 (b * 256 + c)), 3) else
  if a = 163 then some (.if_icmp .gt (Jvm.ClassFile.Reader.signed 16 (b * 256 + c)), 3) else
  if a = 164 then some (.if_icmp .le (Jvm.ClassFile.Reader.signed 16 (b * 256 + c)), 3) else
  if a = 167 then some (.goto (Jvm.ClassFile.Reader.signed 16 (b * 256 + c)), 3) else
  if a = 172 then some (.ireturn, 1) else
  if a = 182 then some (.invokevirtual (b * 256 + c), 3) else
  if a = 183 then some (.invokespecial (b * 256 + c), 3) else
  if a = 184 then some (.invokestatic (b * 256 + c), 3) else
  if a = 187 then some (.new (b * 256 + c), 3) else
  if a = 190 then some (.arraylength, 1) else
  none
theorem fdec_ok {all : ByteArray} {p a b c : Nat} {r : Instr × Nat} (h : p + 2 < all.size) (h0 : all[p].toNat = a) (h1 : all[p + 1].toNat = b) (h2 : all[p + 1 + 1].toNat = c) (hf : fdec a b c = some r) : decode all p = .ok r := by
  unfold fdec at hf
  by_cases e2 : a = 2
  · rw [if_pos e2] at hf; cases hf; exact dec_2 h (h0.trans e2) h1 h2
  rw [if_neg e2] at hf
  by_cases e3 : a = 3
  · rw [if_pos e3] at hf; cases hf; exact dec_3 h (h0.trans e3) h1 h2
  rw [if_neg e3] at hf
  by_cases e4 : a = 4
  · rw [if_pos e4] at hf; cases hf; exact dec_4 h (h0.trans e4) h1 h2
  rw [if_neg e4] at hf
  by_cases e5 : a = 5
  · rw [if_pos e5] at hf; cases hf; exact dec_5 h (h0.trans e5) h1 h2
  rw [if_neg e5] at hf
  by_cases e6 : a = 6
  · rw [if_pos e6] at hf; cases hf; exact dec_6 h (h0.trans e6) h1 h2
  rw [if_neg e6] at hf
  by_cases e7 : a = 7
  · rw [if_pos e7] at hf; cases hf; exact dec_7 h (h0.trans e7) h1 h2
  rw [if_neg e7] at hf
  by_cases e8 : a = 8
  · rw [if_pos e8] at hf; cases hf; exact dec_8 h (h0.trans e8) h1 h2
  rw [if_neg e8] at hf
  by_cases e9 : a = 9
  · rw [if_pos e9] at hf; cases hf; exact dec_9 h (h0.trans e9) h1 h2
  rw [if_neg e9] at hf
  by_cases e10 : a = 10
  · rw [if_pos e10] at hf; cases hf; exact dec_10 h (h0.trans e10) h1 h2
  rw [if_neg e10] at hf
  by_cases e21 : a = 21
  · rw [if_pos e21] at hf; cases hf; exact dec_21 h (h0.trans e21) h1 h2
  rw [if_neg e21] at hf
  by_cases e24 : a = 24
  · rw [if_pos e24] at hf; cases hf; exact dec_24 h (h0.trans e24) h1 h2
  rw [if_neg e24] at hf
  by_cases e25 : a = 25
  · rw [if_pos e25] at hf; cases hf; exact dec_25 h (h0.trans e25) h1 h2
  rw [if_neg e25] at hf
  by_cases e42 : a = 42
  · rw [if_pos e42] at hf; cases hf; exact dec_42 h (h0.trans e42) h1 h2
  rw [if_neg e42] at hf
  by_cases e43 : a = 43
  · rw [if_pos e43] at hf; cases hf; exact dec_43 h (h0.trans e43) h1 h2
  rw [if_neg e43] at hf
  by_cases e44 : a = 44
  · rw [if_pos e44] at hf; cases hf; exact dec_44 h (h0.trans e44) h1 h2
  rw [if_neg e44] at hf
  by_cases e45 : a = 45
  · rw [if_pos e45] at hf; cases hf; exact dec_45 h (h0.trans e45) h1 h2
  rw [if_neg e45] at hf
  by_cases e46 : a = 46
  · rw [if_pos e46] at hf; cases hf; exact dec_46 h (h0.trans e46) h1 h2
  rw [if_neg e46] at hf
  by_cases e47 : a = 47
  · rw [if_pos e47] at hf; cases hf; exact dec_47 h (h0.trans e47) h1 h2
  rw [if_neg e47] at hf
  by_cases e49 : a = 49
  · rw [if_pos e49] at hf; cases hf; exact dec_49 h (h0.trans e49) h1 h2
  rw [if_neg e49] at hf
  by_cases e54 : a = 54
  · rw [if_pos e54] at hf; cases hf; exact dec_54 h (h0.trans e54) h1 h2
  rw [if_neg e54] at hf
  by_cases e57 : a = 57
  · rw [if_pos e57] at hf; cases hf; exact dec_57 h (h0.trans e57) h1 h2
  rw [if_neg e57] at hf
  by_cases e58 : a = 58
  · rw [if_pos e58] at hf; cases hf; exact dec_58 h (h0.trans e58) h1 h2
  rw [if_neg e58] at hf
  by_cases e75 : a = 75
  · rw [if_pos e75] at hf; cases hf; exact dec_75 h (h0.trans e75) h1 h2
  rw [if_neg e75] at hf
  by_cases e76 : a = 76
  · rw [if_pos e76] at hf; cases hf; exact dec_76 h (h0.trans e76) h1 h2
  rw [if_neg e76] at hf
  by_cases e77 : a = 77
  · rw [if_pos e77] at hf; cases hf; exact dec_77 h (h0.trans e77) h1 h2
  rw [if_neg e77] at hf
  by_cases e78 : a = 78
  · rw [if_pos e78] at hf; cases hf; exact dec_78 h (h0.trans e78) h1 h2
  rw [if_neg e78] at hf
  by_cases e89 : a = 89
  · rw [if_pos e89] at hf; cases hf; exact dec_89 h (h0.trans e89) h1 h2
  rw [if_neg e89] at hf
  by_cases e96 : a = 96
  · rw [if_pos e96] at hf; cases hf; exact dec_96 h (h0.trans e96) h1 h2
  rw [if_neg e96] at hf
  by_cases e100 : a = 100
  · rw [if_pos e100] at hf; cases hf; exact dec_100 h (h0.trans e100) h1 h2
  rw [if_neg e100] at hf
  by_cases e126 : a = 126
  · rw [if_pos e126] at hf; cases hf; exact dec_126 h (h0.trans e126) h1 h2
  rw [if_neg e126] at hf
  by_cases e132 : a = 132
  · rw [if_pos e132] at hf; cases hf; exact dec_132 h (h0.trans e132) h1 h2
  rw [if_neg e132] at hf
  by_cases e133 : a = 133
  · rw [if_pos e133] at hf; cases hf; exact dec_133 h (h0.trans e133) h1 h2
  rw [if_neg e133] at hf
  by_cases e148 : a = 148
  · rw [if_pos e148] at hf; cases hf; exact dec_148 h (h0.trans e148) h1 h2
  rw [if_neg e148] at hf
  by_cases e151 : a = 151
  · rw [if_pos e151] at hf; cases hf; exact dec_151 h (h0.trans e151) h1 h2
  rw [if_neg e151] at hf
  by_cases e152 : a = 152
  · rw [if_pos e152] at hf; cases hf; exact dec_152 h (h0.trans e152) h1 h2
  rw [if_neg e152] at hf
  by_cases e153 : a = 153
  · rw [if_pos e153] at hf; cases hf; exact dec_153 h (h0.trans e153) h1 h2
  rw [if_neg e153] at hf
  by_cases e154 : a = 154
  · rw [if_pos e154] at hf; cases hf; exact dec_154 h (h0.trans e154) h1 h2
  rw [if_neg e154] at hf
  by_cases e155 : a = 155
  · rw [if_pos e155] at hf; cases hf; exact dec_155 h (h0.trans e155) h1 h2
  rw [if_neg e155] at hf
  by_cases e156 : a = 156
  · rw [if_pos e156] at hf; cases hf; exact dec_156 h (h0.trans e156) h1 h2
  rw [if_neg e156] at hf
  by_cases e157 : a = 157
  · rw [if_pos e157] at hf; cases hf; exact dec_157 h (h0.trans e157) h1 h2
  rw [if_neg e157] at hf
  by_cases e158 : a = 158
  · rw [if_pos e158] at hf; cases hf; exact dec_158 h (h0.trans e158) h1 h2
  rw [if_neg e158] at hf
  by_cases e159 : a = 159
  · rw [if_pos e159] at hf; cases hf; exact dec_159 h (h0.trans e159) h1 h2
  rw [if_neg e159] at hf
  by_cases e160 : a = 160
  · rw [if_pos e160] at hf; cases hf; exact dec_160 h (h0.trans e160) h1 h2
  rw [if_neg e160] at hf
  by_cases e161 : a = 161
  · rw [if_pos e161] at hf; cases hf; exact dec_161 h (h0.trans e161) h1 h2
  rw [if_neg e161] at hf
  by_cases e162 : a = 162
  · rw [if_pos e162] at hf; cases hf; exact dec_162 h (h0.trans e162) h1 h2
  rw [if_neg e162] at hf
  by_cases e163 : a = 163
  · rw [if_pos e163] at hf; cases hf; exact dec_163 h (h0.trans e163) h1 h2
  rw [if_neg e163] at hf
  by_cases e164 : a = 164
  · rw [if_pos e164] at hf; cases hf; exact dec_164 h (h0.trans e164) h1 h2
  rw [if_neg e164] at hf
  by_cases e167 : a = 167
  · rw [if_pos e167] at hf; cases hf; exact dec_167 h (h0.trans e167) h1 h2
  rw [if_neg e167] at hf
  by_cases e172 : a = 172
  · rw [if_pos e172] at hf; cases hf; exact dec_172 h (h0.trans e172) h1 h2
  rw [if_neg e172] at hf
  by_cases e182 : a = 182
  · rw [if_pos e182] at hf; cases hf; exact dec_182 h (h0.trans e182) h1 h2
  rw [if_neg e182] at hf
  by_cases e183 : a = 183
  · rw [if_pos e183] at hf; cases hf; exact dec_183 h (h0.trans e183) h1 h2
  rw [if_neg e183] at hf
  by_cases e184 : a = 184
  · rw [if_pos e184] at hf; cases hf; exact dec_184 h (h0.trans e184) h1 h2
  rw [if_neg e184] at hf
  by_cases e187 : a = 187
  · rw [if_pos e187] at hf; cases hf; exact dec_187 h (h0.trans e187) h1 h2
  rw [if_neg e187] at hf
  by_cases e190 : a = 190
  · rw [if_pos e190] at hf; cases hf; exact dec_190 h (h0.trans e190) h1 h2
  rw [if_neg e190] at hf
  cases hf
/-- a list's bytes lie in a number -/
def bchk : List UInt8 → Nat → Bool
  | [], _ => true
  | x :: xs, B => bif Nat.beq x.toNat (B % 256) then bchk xs (B / 256) else false
theorem bchk_ok : ∀ (l : List UInt8) (B : Nat), bchk l B = true → ∀ (p : Nat) (h : p < l.length), l[p].toNat = B / 256 ^ p % 256 := by
  intro l
  induction l with
  | nil => intro B _ p h; exact absurd h (Nat.not_lt_zero _)
  | cons x xs ih =>
    intro B hB p h
    unfold bchk at hB
    cases hx : Nat.beq x.toNat (B % 256) with
    | false => rw [hx] at hB; cases hB
    | true =>
      rw [hx] at hB
      cases p with
      | zero =>
        rw [Nat.pow_zero, Nat.div_one]
        exact Nat.eq_of_beq_eq_true hx
      | succ p =>
        have g := ih (B / 256) hB p (Nat.lt_of_succ_lt_succ h)
        rw [Nat.div_div_eq_div_mul, ← Nat.pow_succ'] at g
        exact g
def fby (B p : Nat) : Nat := B / 256 ^ p % 256
/-- the fast check -/
def fchk (B pc : Nat) (o : Option (Instr × Nat × Nat)) (sw : Option (List (Int32 × Nat) × Nat)) : Bool := match o with
  | some q => decide (fdec (fby B pc) (fby B (pc + 1)) (fby B (pc + 1 + 1)) = some (q.1, (ilen q.1).getD q.2.1)) && itgt pc q.1 q.2.2 && xswchk pc q.1 sw
  | none => true
theorem fchk_ok {cc : ByteArray} {B pc : Nat} {o : Option (Instr × Nat × Nat)} {sw : Option (List (Int32 × Nat) × Nat)} (hB : bchk cc.data.toList B = true) (h : pc + 2 < cc.size) (hf : fchk B pc o sw = true) : xchk cc pc o sw = true := by
  have gb : ∀ p (hp : p < cc.size), cc[p].toNat = fby B p := fun p hp => bchk_ok cc.data.toList B hB p hp
  cases o with
  | none => rfl
  | some q =>
    have hf : (decide (fdec (fby B pc) (fby B (pc + 1)) (fby B (pc + 1 + 1)) = some (q.1, (ilen q.1).getD q.2.1)) && itgt pc q.1 q.2.2 && xswchk pc q.1 sw) = true := hf
    rw [Bool.and_eq_true, Bool.and_eq_true] at hf
    have d := fdec_ok h (gb pc (by omega)) (gb (pc + 1) (by omega)) (gb (pc + 1 + 1) h) (of_decide_eq_true hf.1.1)
    show (decide (decode cc pc = .ok (q.1, (ilen q.1).getD q.2.1)) && itgt pc q.1 q.2.2 && xswchk pc q.1 sw) = true
    rw [Bool.and_eq_true, Bool.and_eq_true]
    exact ⟨⟨decide_eq_true d, hf.1.2⟩, hf.2⟩
/-- slow before u and behind v -/
theorem fcode {cc : ByteArray} {B N u v : Nat} {t : Nat → Option (Instr × Nat × Nat)} {sw : Nat → Option (List (Int32 × Nat) × Nat)} (hB : bchk cc.data.toList B = true) (hv : u + v + 2 ≤ cc.size) (h1 : (List.range u).all (fun pc => xchk cc pc (t pc) (sw pc)) = true) (h2 : (List.range v).all (fun i => fchk B (u + i) (t (u + i)) (sw (u + i))) = true) (h3 : (List.range (N - (u + v))).all (fun i => xchk cc (u + v + i) (t (u + v + i)) (sw (u + v + i))) = true) : (List.range N).all (fun pc => xchk cc pc (t pc) (sw pc)) = true := by
  refine List.all_eq_true.mpr (fun pc hp => ?_)
  have hp := List.mem_range.mp hp
  by_cases k1 : pc < u
  · exact List.all_eq_true.mp h1 pc (List.mem_range.mpr k1)
  by_cases k2 : pc < u + v
  · have g := List.all_eq_true.mp h2 (pc - u) (List.mem_range.mpr (by omega))
    rw [show u + (pc - u) = pc by omega] at g
    exact fchk_ok hB (by omega) g
  · have g := List.all_eq_true.mp h3 (pc - (u + v)) (List.mem_range.mpr (by omega))
    rw [show u + v + (pc - (u + v)) = pc by omega] at g
    exact g
