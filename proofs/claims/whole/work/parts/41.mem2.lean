/-! ===== reads of writes ===== -/
theorem gL_sI (μ : XM) (k0 a0 : Nat) (v : Int32) (k a : Nat) : gL (sI μ k0 a0 v) k a = gL μ k a := Eq.trans rfl rfl
theorem gR_sI (μ : XM) (k0 a0 : Nat) (v : Int32) (k a : Nat) : gR (sI μ k0 a0 v) k a = gR μ k a := Eq.trans rfl rfl
theorem aI_sI (μ : XM) (k0 a0 : Nat) (v : Int32) (a i : Nat) : aI (sI μ k0 a0 v) a i = aI μ a i := Eq.trans rfl rfl
theorem aL_sI (μ : XM) (k0 a0 : Nat) (v : Int32) (a i : Nat) : aL (sI μ k0 a0 v) a i = aL μ a i := Eq.trans rfl rfl
theorem aD_sI (μ : XM) (k0 a0 : Nat) (v : Int32) (a i : Nat) : aD (sI μ k0 a0 v) a i = aD μ a i := Eq.trans rfl rfl
theorem aR_sI (μ : XM) (k0 a0 : Nat) (v : Int32) (a i : Nat) : aR (sI μ k0 a0 v) a i = aR μ a i := Eq.trans rfl rfl
theorem tg_sI (μ : XM) (k0 a0 : Nat) (v : Int32) (a : Nat) : tg (sI μ k0 a0 v) a = tg μ a := Eq.trans rfl rfl
theorem ln_sI (μ : XM) (k0 a0 : Nat) (v : Int32) (a : Nat) : ln (sI μ k0 a0 v) a = ln μ a := Eq.trans rfl rfl
theorem tp_sI (μ : XM) (k0 a0 : Nat) (v : Int32) : tp (sI μ k0 a0 v) = tp μ := Eq.trans rfl rfl
theorem fr_sI (μ : XM) (k0 a0 : Nat) (v : Int32) : fr (sI μ k0 a0 v) = fr μ := Eq.trans rfl rfl
theorem gI_sL (μ : XM) (k0 a0 : Nat) (v : Int64) (k a : Nat) : gI (sL μ k0 a0 v) k a = gI μ k a := Eq.trans rfl rfl
theorem gR_sL (μ : XM) (k0 a0 : Nat) (v : Int64) (k a : Nat) : gR (sL μ k0 a0 v) k a = gR μ k a := Eq.trans rfl rfl
theorem aI_sL (μ : XM) (k0 a0 : Nat) (v : Int64) (a i : Nat) : aI (sL μ k0 a0 v) a i = aI μ a i := Eq.trans rfl rfl
theorem aL_sL (μ : XM) (k0 a0 : Nat) (v : Int64) (a i : Nat) : aL (sL μ k0 a0 v) a i = aL μ a i := Eq.trans rfl rfl
theorem aD_sL (μ : XM) (k0 a0 : Nat) (v : Int64) (a i : Nat) : aD (sL μ k0 a0 v) a i = aD μ a i := Eq.trans rfl rfl
theorem aR_sL (μ : XM) (k0 a0 : Nat) (v : Int64) (a i : Nat) : aR (sL μ k0 a0 v) a i = aR μ a i := Eq.trans rfl rfl
theorem tg_sL (μ : XM) (k0 a0 : Nat) (v : Int64) (a : Nat) : tg (sL μ k0 a0 v) a = tg μ a := Eq.trans rfl rfl
theorem ln_sL (μ : XM) (k0 a0 : Nat) (v : Int64) (a : Nat) : ln (sL μ k0 a0 v) a = ln μ a := Eq.trans rfl rfl
theorem tp_sL (μ : XM) (k0 a0 : Nat) (v : Int64) : tp (sL μ k0 a0 v) = tp μ := Eq.trans rfl rfl
theorem fr_sL (μ : XM) (k0 a0 : Nat) (v : Int64) : fr (sL μ k0 a0 v) = fr μ := Eq.trans rfl rfl
theorem gI_sR (μ : XM) (k0 a0 : Nat) (v : Option Nat) (k a : Nat) : gI (sR μ k0 a0 v) k a = gI μ k a := Eq.trans rfl rfl
theorem gL_sR (μ : XM) (k0 a0 : Nat) (v : Option Nat) (k a : Nat) : gL (sR μ k0 a0 v) k a = gL μ k a := Eq.trans rfl rfl
theorem aI_sR (μ : XM) (k0 a0 : Nat) (v : Option Nat) (a i : Nat) : aI (sR μ k0 a0 v) a i = aI μ a i := Eq.trans rfl rfl
theorem aL_sR (μ : XM) (k0 a0 : Nat) (v : Option Nat) (a i : Nat) : aL (sR μ k0 a0 v) a i = aL μ a i := Eq.trans rfl rfl
theorem aD_sR (μ : XM) (k0 a0 : Nat) (v : Option Nat) (a i : Nat) : aD (sR μ k0 a0 v) a i = aD μ a i := Eq.trans rfl rfl
theorem aR_sR (μ : XM) (k0 a0 : Nat) (v : Option Nat) (a i : Nat) : aR (sR μ k0 a0 v) a i = aR μ a i := Eq.trans rfl rfl
theorem tg_sR (μ : XM) (k0 a0 : Nat) (v : Option Nat) (a : Nat) : tg (sR μ k0 a0 v) a = tg μ a := Eq.trans rfl rfl
theorem ln_sR (μ : XM) (k0 a0 : Nat) (v : Option Nat) (a : Nat) : ln (sR μ k0 a0 v) a = ln μ a := Eq.trans rfl rfl
theorem tp_sR (μ : XM) (k0 a0 : Nat) (v : Option Nat) : tp (sR μ k0 a0 v) = tp μ := Eq.trans rfl rfl
theorem fr_sR (μ : XM) (k0 a0 : Nat) (v : Option Nat) : fr (sR μ k0 a0 v) = fr μ := Eq.trans rfl rfl
theorem gI_wI (μ : XM) (a0 i0 : Nat) (v : Int32) (k a : Nat) : gI (wI μ a0 i0 v) k a = gI μ k a := Eq.trans rfl rfl
theorem gL_wI (μ : XM) (a0 i0 : Nat) (v : Int32) (k a : Nat) : gL (wI μ a0 i0 v) k a = gL μ k a := Eq.trans rfl rfl
theorem gR_wI (μ : XM) (a0 i0 : Nat) (v : Int32) (k a : Nat) : gR (wI μ a0 i0 v) k a = gR μ k a := Eq.trans rfl rfl
theorem aL_wI (μ : XM) (a0 i0 : Nat) (v : Int32) (a i : Nat) : aL (wI μ a0 i0 v) a i = aL μ a i := Eq.trans rfl rfl
theorem aD_wI (μ : XM) (a0 i0 : Nat) (v : Int32) (a i : Nat) : aD (wI μ a0 i0 v) a i = aD μ a i := Eq.trans rfl rfl
theorem aR_wI (μ : XM) (a0 i0 : Nat) (v : Int32) (a i : Nat) : aR (wI μ a0 i0 v) a i = aR μ a i := Eq.trans rfl rfl
theorem tg_wI (μ : XM) (a0 i0 : Nat) (v : Int32) (a : Nat) : tg (wI μ a0 i0 v) a = tg μ a := Eq.trans rfl rfl
theorem ln_wI (μ : XM) (a0 i0 : Nat) (v : Int32) (a : Nat) : ln (wI μ a0 i0 v) a = ln μ a := Eq.trans rfl rfl
theorem tp_wI (μ : XM) (a0 i0 : Nat) (v : Int32) : tp (wI μ a0 i0 v) = tp μ := Eq.trans rfl rfl
theorem fr_wI (μ : XM) (a0 i0 : Nat) (v : Int32) : fr (wI μ a0 i0 v) = fr μ := Eq.trans rfl rfl
theorem gI_wL (μ : XM) (a0 i0 : Nat) (v : Int64) (k a : Nat) : gI (wL μ a0 i0 v) k a = gI μ k a := Eq.trans rfl rfl
theorem gL_wL (μ : XM) (a0 i0 : Nat) (v : Int64) (k a : Nat) : gL (wL μ a0 i0 v) k a = gL μ k a := Eq.trans rfl rfl
theorem gR_wL (μ : XM) (a0 i0 : Nat) (v : Int64) (k a : Nat) : gR (wL μ a0 i0 v) k a = gR μ k a := Eq.trans rfl rfl
theorem aI_wL (μ : XM) (a0 i0 : Nat) (v : Int64) (a i : Nat) : aI (wL μ a0 i0 v) a i = aI μ a i := Eq.trans rfl rfl
theorem aD_wL (μ : XM) (a0 i0 : Nat) (v : Int64) (a i : Nat) : aD (wL μ a0 i0 v) a i = aD μ a i := Eq.trans rfl rfl
theorem aR_wL (μ : XM) (a0 i0 : Nat) (v : Int64) (a i : Nat) : aR (wL μ a0 i0 v) a i = aR μ a i := Eq.trans rfl rfl
theorem tg_wL (μ : XM) (a0 i0 : Nat) (v : Int64) (a : Nat) : tg (wL μ a0 i0 v) a = tg μ a := Eq.trans rfl rfl
theorem ln_wL (μ : XM) (a0 i0 : Nat) (v : Int64) (a : Nat) : ln (wL μ a0 i0 v) a = ln μ a := Eq.trans rfl rfl
theorem tp_wL (μ : XM) (a0 i0 : Nat) (v : Int64) : tp (wL μ a0 i0 v) = tp μ := Eq.trans rfl rfl
theorem fr_wL (μ : XM) (a0 i0 : Nat) (v : Int64) : fr (wL μ a0 i0 v) = fr μ := Eq.trans rfl rfl
theorem gI_wD (μ : XM) (a0 i0 : Nat) (v : UInt64) (k a : Nat) : gI (wD μ a0 i0 v) k a = gI μ k a := Eq.trans rfl rfl
theorem gL_wD (μ : XM) (a0 i0 : Nat) (v : UInt64) (k a : Nat) : gL (wD μ a0 i0 v) k a = gL μ k a := Eq.trans rfl rfl
theorem gR_wD (μ : XM) (a0 i0 : Nat) (v : UInt64) (k a : Nat) : gR (wD μ a0 i0 v) k a = gR μ k a := Eq.trans rfl rfl
theorem aI_wD (μ : XM) (a0 i0 : Nat) (v : UInt64) (a i : Nat) : aI (wD μ a0 i0 v) a i = aI μ a i := Eq.trans rfl rfl
theorem aL_wD (μ : XM) (a0 i0 : Nat) (v : UInt64) (a i : Nat) : aL (wD μ a0 i0 v) a i = aL μ a i := Eq.trans rfl rfl
theorem aR_wD (μ : XM) (a0 i0 : Nat) (v : UInt64) (a i : Nat) : aR (wD μ a0 i0 v) a i = aR μ a i := Eq.trans rfl rfl
theorem tg_wD (μ : XM) (a0 i0 : Nat) (v : UInt64) (a : Nat) : tg (wD μ a0 i0 v) a = tg μ a := Eq.trans rfl rfl
theorem ln_wD (μ : XM) (a0 i0 : Nat) (v : UInt64) (a : Nat) : ln (wD μ a0 i0 v) a = ln μ a := Eq.trans rfl rfl
theorem tp_wD (μ : XM) (a0 i0 : Nat) (v : UInt64) : tp (wD μ a0 i0 v) = tp μ := Eq.trans rfl rfl
theorem fr_wD (μ : XM) (a0 i0 : Nat) (v : UInt64) : fr (wD μ a0 i0 v) = fr μ := Eq.trans rfl rfl
theorem gI_wR (μ : XM) (a0 i0 : Nat) (v : Option Nat) (k a : Nat) : gI (wR μ a0 i0 v) k a = gI μ k a := Eq.trans rfl rfl
theorem gL_wR (μ : XM) (a0 i0 : Nat) (v : Option Nat) (k a : Nat) : gL (wR μ a0 i0 v) k a = gL μ k a := Eq.trans rfl rfl
theorem gR_wR (μ : XM) (a0 i0 : Nat) (v : Option Nat) (k a : Nat) : gR (wR μ a0 i0 v) k a = gR μ k a := Eq.trans rfl rfl
theorem aI_wR (μ : XM) (a0 i0 : Nat) (v : Option Nat) (a i : Nat) : aI (wR μ a0 i0 v) a i = aI μ a i := Eq.trans rfl rfl
theorem aL_wR (μ : XM) (a0 i0 : Nat) (v : Option Nat) (a i : Nat) : aL (wR μ a0 i0 v) a i = aL μ a i := Eq.trans rfl rfl
theorem aD_wR (μ : XM) (a0 i0 : Nat) (v : Option Nat) (a i : Nat) : aD (wR μ a0 i0 v) a i = aD μ a i := Eq.trans rfl rfl
theorem tg_wR (μ : XM) (a0 i0 : Nat) (v : Option Nat) (a : Nat) : tg (wR μ a0 i0 v) a = tg μ a := Eq.trans rfl rfl
theorem ln_wR (μ : XM) (a0 i0 : Nat) (v : Option Nat) (a : Nat) : ln (wR μ a0 i0 v) a = ln μ a := Eq.trans rfl rfl
theorem tp_wR (μ : XM) (a0 i0 : Nat) (v : Option Nat) : tp (wR μ a0 i0 v) = tp μ := Eq.trans rfl rfl
theorem fr_wR (μ : XM) (a0 i0 : Nat) (v : Option Nat) : fr (wR μ a0 i0 v) = fr μ := Eq.trans rfl rfl
theorem gI_cI (μ : XM) (b0 p0 a0 q0 n0 : Nat) (k a : Nat) : gI (cI μ b0 p0 a0 q0 n0) k a = gI μ k a := Eq.trans rfl rfl
theorem gL_cI (μ : XM) (b0 p0 a0 q0 n0 : Nat) (k a : Nat) : gL (cI μ b0 p0 a0 q0 n0) k a = gL μ k a := Eq.trans rfl rfl
theorem gR_cI (μ : XM) (b0 p0 a0 q0 n0 : Nat) (k a : Nat) : gR (cI μ b0 p0 a0 q0 n0) k a = gR μ k a := Eq.trans rfl rfl
theorem aL_cI (μ : XM) (b0 p0 a0 q0 n0 : Nat) (a i : Nat) : aL (cI μ b0 p0 a0 q0 n0) a i = aL μ a i := Eq.trans rfl rfl
theorem aD_cI (μ : XM) (b0 p0 a0 q0 n0 : Nat) (a i : Nat) : aD (cI μ b0 p0 a0 q0 n0) a i = aD μ a i := Eq.trans rfl rfl
theorem aR_cI (μ : XM) (b0 p0 a0 q0 n0 : Nat) (a i : Nat) : aR (cI μ b0 p0 a0 q0 n0) a i = aR μ a i := Eq.trans rfl rfl
theorem tg_cI (μ : XM) (b0 p0 a0 q0 n0 : Nat) (a : Nat) : tg (cI μ b0 p0 a0 q0 n0) a = tg μ a := Eq.trans rfl rfl
theorem ln_cI (μ : XM) (b0 p0 a0 q0 n0 : Nat) (a : Nat) : ln (cI μ b0 p0 a0 q0 n0) a = ln μ a := Eq.trans rfl rfl
theorem tp_cI (μ : XM) (b0 p0 a0 q0 n0 : Nat) : tp (cI μ b0 p0 a0 q0 n0) = tp μ := Eq.trans rfl rfl
theorem fr_cI (μ : XM) (b0 p0 a0 q0 n0 : Nat) : fr (cI μ b0 p0 a0 q0 n0) = fr μ := Eq.trans rfl rfl
theorem gI_uF (μ : XM) (k a : Nat) : gI (uF μ) k a = gI μ k a := Eq.trans rfl rfl
theorem gL_uF (μ : XM) (k a : Nat) : gL (uF μ) k a = gL μ k a := Eq.trans rfl rfl
theorem gR_uF (μ : XM) (k a : Nat) : gR (uF μ) k a = gR μ k a := Eq.trans rfl rfl
theorem aI_uF (μ : XM) (a i : Nat) : aI (uF μ) a i = aI μ a i := Eq.trans rfl rfl
theorem aL_uF (μ : XM) (a i : Nat) : aL (uF μ) a i = aL μ a i := Eq.trans rfl rfl
theorem aD_uF (μ : XM) (a i : Nat) : aD (uF μ) a i = aD μ a i := Eq.trans rfl rfl
theorem aR_uF (μ : XM) (a i : Nat) : aR (uF μ) a i = aR μ a i := Eq.trans rfl rfl
theorem tg_uF (μ : XM) (a : Nat) : tg (uF μ) a = tg μ a := Eq.trans rfl rfl
theorem ln_uF (μ : XM) (a : Nat) : ln (uF μ) a = ln μ a := Eq.trans rfl rfl
theorem tp_uF (μ : XM) : tp (uF μ) = tp μ := Eq.trans rfl rfl
theorem gI_sI_at (μ : XM) (k a : Nat) (v : Int32) : gI (sI μ k a v) k a = v := if_pos ⟨rfl, rfl⟩
theorem gI_sI_k (μ : XM) (k0 a0 k a : Nat) (v : Int32) (h : k ≠ k0) : gI (sI μ k0 a0 v) k a = gI μ k a := if_neg (fun z => h z.1)
theorem gI_sI_a (μ : XM) (k0 a0 k a : Nat) (v : Int32) (h : a ≠ a0) : gI (sI μ k0 a0 v) k a = gI μ k a := if_neg (fun z => h z.2)
theorem gL_sL_at (μ : XM) (k a : Nat) (v : Int64) : gL (sL μ k a v) k a = v := if_pos ⟨rfl, rfl⟩
theorem gL_sL_k (μ : XM) (k0 a0 k a : Nat) (v : Int64) (h : k ≠ k0) : gL (sL μ k0 a0 v) k a = gL μ k a := if_neg (fun z => h z.1)
theorem gL_sL_a (μ : XM) (k0 a0 k a : Nat) (v : Int64) (h : a ≠ a0) : gL (sL μ k0 a0 v) k a = gL μ k a := if_neg (fun z => h z.2)
theorem gR_sR_at (μ : XM) (k a : Nat) (v : Option Nat) : gR (sR μ k a v) k a = v := if_pos ⟨rfl, rfl⟩
theorem gR_sR_k (μ : XM) (k0 a0 k a : Nat) (v : Option Nat) (h : k ≠ k0) : gR (sR μ k0 a0 v) k a = gR μ k a := if_neg (fun z => h z.1)
theorem gR_sR_a (μ : XM) (k0 a0 k a : Nat) (v : Option Nat) (h : a ≠ a0) : gR (sR μ k0 a0 v) k a = gR μ k a := if_neg (fun z => h z.2)
theorem aI_wI_at (μ : XM) (a i : Nat) (v : Int32) : aI (wI μ a i v) a i = v := if_pos ⟨rfl, rfl⟩
theorem aI_wI_a (μ : XM) (a0 i0 a i : Nat) (v : Int32) (h : a ≠ a0) : aI (wI μ a0 i0 v) a i = aI μ a i := if_neg (fun z => h z.1)
theorem aI_wI_i (μ : XM) (a0 i0 a i : Nat) (v : Int32) (h : i ≠ i0) : aI (wI μ a0 i0 v) a i = aI μ a i := if_neg (fun z => h z.2)
theorem aL_wL_at (μ : XM) (a i : Nat) (v : Int64) : aL (wL μ a i v) a i = v := if_pos ⟨rfl, rfl⟩
theorem aL_wL_a (μ : XM) (a0 i0 a i : Nat) (v : Int64) (h : a ≠ a0) : aL (wL μ a0 i0 v) a i = aL μ a i := if_neg (fun z => h z.1)
theorem aL_wL_i (μ : XM) (a0 i0 a i : Nat) (v : Int64) (h : i ≠ i0) : aL (wL μ a0 i0 v) a i = aL μ a i := if_neg (fun z => h z.2)
theorem aD_wD_at (μ : XM) (a i : Nat) (v : UInt64) : aD (wD μ a i v) a i = v := if_pos ⟨rfl, rfl⟩
theorem aD_wD_a (μ : XM) (a0 i0 a i : Nat) (v : UInt64) (h : a ≠ a0) : aD (wD μ a0 i0 v) a i = aD μ a i := if_neg (fun z => h z.1)
theorem aD_wD_i (μ : XM) (a0 i0 a i : Nat) (v : UInt64) (h : i ≠ i0) : aD (wD μ a0 i0 v) a i = aD μ a i := if_neg (fun z => h z.2)
theorem aR_wR_at (μ : XM) (a i : Nat) (v : Option Nat) : aR (wR μ a i v) a i = v := if_pos ⟨rfl, rfl⟩
theorem aR_wR_a (μ : XM) (a0 i0 a i : Nat) (v : Option Nat) (h : a ≠ a0) : aR (wR μ a0 i0 v) a i = aR μ a i := if_neg (fun z => h z.1)
theorem aR_wR_i (μ : XM) (a0 i0 a i : Nat) (v : Option Nat) (h : i ≠ i0) : aR (wR μ a0 i0 v) a i = aR μ a i := if_neg (fun z => h z.2)
theorem aI_cI_at (μ : XM) (b p a q n i : Nat) (h1 : q ≤ i) (h2 : i < q + n) : aI (cI μ b p a q n) a i = aI μ b (p + (i - q)) := if_pos ⟨rfl, h1, h2⟩
theorem aI_cI_a (μ : XM) (b p a0 q n a i : Nat) (h : a ≠ a0) : aI (cI μ b p a0 q n) a i = aI μ a i := if_neg (fun z => h z.1)
theorem aI_cI_i (μ : XM) (b p a0 q n a i : Nat) (h : i < q ∨ q + n ≤ i) : aI (cI μ b p a0 q n) a i = aI μ a i := if_neg (fun z => by omega)
