/-! ===== what is made: the reference ===== -/
theorem nint {μ : XM} {f a : Nat} {v : Int32} : (fr (sI μ f a v) = fr μ ∧ tp (sI μ f a v) = tp μ) ∧ gI (sI μ f a v) f a = v ∧ (tg (sI μ f a v) a = tg μ a ∧ (∀ j, gR (sI μ f a v) j a = gR μ j a) ∧ ∀ j, j ≠ f → gI (sI μ f a v) j a = gI μ j a) ∧ ∀ b, b ≠ a → SQ (sI μ f a v) μ b := ⟨⟨rfl, rfl⟩, gI_sI_at _ _ _ _, ⟨rfl, fun _ => rfl, fun j hj => gI_sI_k _ _ _ _ _ _ hj⟩, fun b hb => ⟨⟨rfl, rfl⟩, fun k => gI_sI_a _ _ _ _ _ _ hb, fun _ => rfl, fun _ => rfl, fun _ => rfl, fun _ => rfl, fun _ => rfl, fun _ => rfl⟩⟩
section
variable {μ : XM} {Q : XQ} {X : XX} {m : Nat}
theorem r_anew (hfr : fr μ = true) (ht : tp μ = m + 1) (hg : tg μ m = some (.inl 9)) (h0 : ∀ k, gI μ k m = 0) (hK : ∀ ν, NB m ν μ → MS ν m aZ → Q none ν) : s_X9_init μ [.ref m] Q X := by
  rw [u_X9_init, tn_c (n := 90656) (a := 90656) rfl (by omega), tn_c (n := 2) (a := 2) rfl (by omega), tn_c (n := 36) (a := 36) rfl (by omega), tn_c (n := 9) (a := 9) rfl (by omega), tn_c (n := 72) (a := 72) rfl (by omega), tn_c (n := 60) (a := 60) rfl (by omega), tn_c (n := 1000) (a := 1000) rfl (by omega), tn_c (n := 2664) (a := 2664) rfl (by omega), tn_c (n := 160) (a := 160) rfl (by omega)]
  have h1 := nrow (k := 0) (n := 90656) (f := 288) (a := m) (t := m + 1) hfr ht (by omega)
  refine ⟨hfr, ng_c (by omega) (by omega), by omega, by omega, by omega, (nA_tg (by rw [ht]; omega)).trans hg, ?_⟩
  generalize sR (nA μ 0 90656) 288 m (some (tp μ)) = M1 at h1 ⊢
  have g1 := h1.2.2.1.1.trans hg
  have h2 := nrow (k := 1) (n := 2) (f := 289) (a := m) (t := m + 2) h1.1.1 h1.1.2 (by omega)
  refine ⟨h1.1.1, ng_c (by omega) (by omega), by omega, by omega, by omega, (nA_tg (by rw [h1.1.2]; omega)).trans g1, ?_⟩
  generalize sR (nA M1 1 2) 289 m (some (tp M1)) = M2 at h2 ⊢
  have g2 := h2.2.2.1.1.trans g1
  have h3 := nint (μ := M2) (f := 292) (a := m) (v := ji 1)
  refine ⟨g2, ?_⟩
  generalize sI M2 292 m (ji 1) = M3 at h3 ⊢
  have fr3 : fr M3 = true := h3.1.1.trans h2.1.1
  have tp3 : tp M3 = m + 3 := h3.1.2.trans h2.1.2
  have g3 := h3.2.2.1.1.trans g2
  have h4 := nint (μ := M3) (f := 293) (a := m) (v := ji 1)
  refine ⟨g3, ?_⟩
  generalize sI M3 293 m (ji 1) = M4 at h4 ⊢
  have fr4 : fr M4 = true := h4.1.1.trans fr3
  have tp4 : tp M4 = m + 3 := h4.1.2.trans tp3
  have g4 := h4.2.2.1.1.trans g3
  have h5 := nint (μ := M4) (f := 294) (a := m) (v := ji 50)
  refine ⟨g4, ?_⟩
  intro M5
  have h5' : (fr M5 = fr M4 ∧ tp M5 = tp M4) ∧ gI M5 294 m = ji 50 ∧ (tg M5 m = tg M4 m ∧ (∀ j, gR M5 j m = gR M4 j m) ∧ ∀ j, j ≠ 294 → gI M5 j m = gI M4 j m) ∧ ∀ b, b ≠ m → SQ M5 M4 b := h5
  clear h5
  have h5 := h5'
  clear h5'
  clear_value M5
  have fr5 : fr M5 = true := h5.1.1.trans fr4
  have tp5 : tp M5 = m + 3 := h5.1.2.trans tp4
  have g5 := h5.2.2.1.1.trans g4
  have h6 := nrow (k := 0) (n := 36) (f := 299) (a := m) (t := m + 3) fr5 tp5 (by omega)
  refine ⟨fr5, ng_c (by omega) (by omega), by omega, by omega, by omega, (nA_tg (by rw [tp5]; omega)).trans g5, ?_⟩
  generalize sR (nA M5 0 36) 299 m (some (tp M5)) = M6 at h6 ⊢
  have g6 := h6.2.2.1.1.trans g5
  have h7 := nrow (k := 0) (n := 9) (f := 300) (a := m) (t := m + 4) h6.1.1 h6.1.2 (by omega)
  refine ⟨h6.1.1, ng_c (by omega) (by omega), by omega, by omega, by omega, (nA_tg (by rw [h6.1.2]; omega)).trans g6, ?_⟩
  generalize sR (nA M6 0 9) 300 m (some (tp M6)) = M7 at h7 ⊢
  have g7 := h7.2.2.1.1.trans g6
  have h8 := nrow (k := 0) (n := 9) (f := 301) (a := m) (t := m + 5) h7.1.1 h7.1.2 (by omega)
  refine ⟨h7.1.1, ng_c (by omega) (by omega), by omega, by omega, by omega, (nA_tg (by rw [h7.1.2]; omega)).trans g7, ?_⟩
  intro M8
  have h8' : R1 M8 M7 301 m 0 9 (m + 5) := h8
  clear h8
  have h8 := h8'
  clear h8'
  clear_value M8
  have g8 := h8.2.2.1.1.trans g7
  have h9 := nrow (k := 0) (n := 36) (f := 302) (a := m) (t := m + 6) h8.1.1 h8.1.2 (by omega)
  refine ⟨h8.1.1, ng_c (by omega) (by omega), by omega, by omega, by omega, (nA_tg (by rw [h8.1.2]; omega)).trans g8, ?_⟩
  generalize sR (nA M8 0 36) 302 m (some (tp M8)) = M9 at h9 ⊢
  have g9 := h9.2.2.1.1.trans g8
  have h10 := nrow (k := 0) (n := 72) (f := 303) (a := m) (t := m + 7) h9.1.1 h9.1.2 (by omega)
  refine ⟨h9.1.1, ng_c (by omega) (by omega), by omega, by omega, by omega, (nA_tg (by rw [h9.1.2]; omega)).trans g9, ?_⟩
  generalize sR (nA M9 0 72) 303 m (some (tp M9)) = M10 at h10 ⊢
  have g10 := h10.2.2.1.1.trans g9
  have h11 := nrow (k := 0) (n := 36) (f := 304) (a := m) (t := m + 8) h10.1.1 h10.1.2 (by omega)
  refine ⟨h10.1.1, ng_c (by omega) (by omega), by omega, by omega, by omega, (nA_tg (by rw [h10.1.2]; omega)).trans g10, ?_⟩
  intro M11
  have h11' : R1 M11 M10 304 m 0 36 (m + 8) := h11
  clear h11
  have h11 := h11'
  clear h11'
  clear_value M11
  have g11 := h11.2.2.1.1.trans g10
  have h12 := nrow (k := 0) (n := 60) (f := 306) (a := m) (t := m + 9) h11.1.1 h11.1.2 (by omega)
  refine ⟨h11.1.1, ng_c (by omega) (by omega), by omega, by omega, by omega, (nA_tg (by rw [h11.1.2]; omega)).trans g11, ?_⟩
  generalize sR (nA M11 0 60) 306 m (some (tp M11)) = M12 at h12 ⊢
  have g12 := h12.2.2.1.1.trans g11
  have h13 := nrow (k := 2) (n := 1000) (f := 308) (a := m) (t := m + 10) h12.1.1 h12.1.2 (by omega)
  refine ⟨h12.1.1, ng_c (by omega) (by omega), by omega, by omega, by omega, (nA_tg (by rw [h12.1.2]; omega)).trans g12, ?_⟩
  generalize sR (nA M12 2 1000) 308 m (some (tp M12)) = M13 at h13 ⊢
  have g13 := h13.2.2.1.1.trans g12
  have h14 := nint (μ := M13) (f := 312) (a := m) (v := ji (-1))
  refine ⟨g13, ?_⟩
  generalize sI M13 312 m (ji (-1)) = M14 at h14 ⊢
  have fr14 : fr M14 = true := h14.1.1.trans h13.1.1
  have tp14 : tp M14 = m + 11 := h14.1.2.trans h13.1.2
  have g14 := h14.2.2.1.1.trans g13
  refine ⟨fr14, ng_c (by omega) (by omega), by omega, by omega, by omega, ?_⟩
  intro L15
  have h15 : R1 (sR L15 317 m (some (tp M14))) M14 317 m 0 2664 (m + 11) := nrow fr14 tp14 (by omega)
  have tl15 : tg L15 m = some (.inl 9) := (nA_tg (by rw [tp14]; omega)).trans g14
  refine ⟨tl15, ?_⟩
  generalize sR L15 317 m (some (tp M14)) = M15 at h15 ⊢
  have g15 := h15.2.2.1.1.trans g14
  refine ⟨h15.1.1, ng_c (by omega) (by omega), by omega, by omega, by omega, ?_⟩
  intro L16
  have h16 : R1 (sR L16 319 m (some (tp M15))) M15 319 m 0 160 (m + 12) := nrow h15.1.1 h15.1.2 (by omega)
  have tl16 : tg L16 m = some (.inl 9) := (nA_tg (by rw [h15.1.2]; omega)).trans g15
  refine ⟨tl16, ?_⟩
  intro M16
  have h16' : R1 M16 M15 319 m 0 160 (m + 12) := h16
  clear h16
  have h16 := h16'
  clear h16'
  clear_value M16
  have g16 := h16.2.2.1.1.trans g15
  refine ⟨g16, ?_⟩
  have q1 := h1.2.2.2
  have q2 := h2.2.2.2
  have q3 := h3.2.2.2
  have q4 := h4.2.2.2
  have q5 := h5.2.2.2
  have q6 := h6.2.2.2
  have q7 := h7.2.2.2
  have q8 := h8.2.2.2
  have q9 := h9.2.2.2
  have q10 := h10.2.2.2
  have q11 := h11.2.2.2
  have q12 := h12.2.2.2
  have q13 := h13.2.2.2
  have q14 := h14.2.2.2
  have q15 := h15.2.2.2
  have q16 := h16.2.2.2
  have r1 : gR M16 288 m = some (m + 1) := (h16.2.2.1.2.2 288 (by omega)).trans ((h15.2.2.1.2.2 288 (by omega)).trans ((h14.2.2.1.2.1 288).trans ((h13.2.2.1.2.2 288 (by omega)).trans ((h12.2.2.1.2.2 288 (by omega)).trans ((h11.2.2.1.2.2 288 (by omega)).trans ((h10.2.2.1.2.2 288 (by omega)).trans ((h9.2.2.1.2.2 288 (by omega)).trans ((h8.2.2.1.2.2 288 (by omega)).trans ((h7.2.2.1.2.2 288 (by omega)).trans ((h6.2.2.1.2.2 288 (by omega)).trans ((h5.2.2.1.2.1 288).trans ((h4.2.2.1.2.1 288).trans ((h3.2.2.1.2.1 288).trans ((h2.2.2.1.2.2 288 (by omega)).trans (h1.2.1.1)))))))))))))))
  have s1 := ((q16 (m + 1) (by omega) (by omega))).trans (((q15 (m + 1) (by omega) (by omega))).trans (((q14 (m + 1) (by omega))).trans (((q13 (m + 1) (by omega) (by omega))).trans (((q12 (m + 1) (by omega) (by omega))).trans (((q11 (m + 1) (by omega) (by omega))).trans (((q10 (m + 1) (by omega) (by omega))).trans (((q9 (m + 1) (by omega) (by omega))).trans (((q8 (m + 1) (by omega) (by omega))).trans (((q7 (m + 1) (by omega) (by omega))).trans (((q6 (m + 1) (by omega) (by omega))).trans (((q5 (m + 1) (by omega))).trans (((q4 (m + 1) (by omega))).trans (((q3 (m + 1) (by omega))).trans ((q2 (m + 1) (by omega) (by omega))))))))))))))))
  have a1 : tg M16 (m + 1) = some (.inr 0) := s1.1.1.trans h1.2.1.2.1
  have b1 : ln M16 (m + 1) = 90656 := s1.1.2.trans h1.2.1.2.2.1
  have r2 : gR M16 289 m = some (m + 2) := (h16.2.2.1.2.2 289 (by omega)).trans ((h15.2.2.1.2.2 289 (by omega)).trans ((h14.2.2.1.2.1 289).trans ((h13.2.2.1.2.2 289 (by omega)).trans ((h12.2.2.1.2.2 289 (by omega)).trans ((h11.2.2.1.2.2 289 (by omega)).trans ((h10.2.2.1.2.2 289 (by omega)).trans ((h9.2.2.1.2.2 289 (by omega)).trans ((h8.2.2.1.2.2 289 (by omega)).trans ((h7.2.2.1.2.2 289 (by omega)).trans ((h6.2.2.1.2.2 289 (by omega)).trans ((h5.2.2.1.2.1 289).trans ((h4.2.2.1.2.1 289).trans ((h3.2.2.1.2.1 289).trans (h2.2.1.1))))))))))))))
  have s2 := ((q16 (m + 2) (by omega) (by omega))).trans (((q15 (m + 2) (by omega) (by omega))).trans (((q14 (m + 2) (by omega))).trans (((q13 (m + 2) (by omega) (by omega))).trans (((q12 (m + 2) (by omega) (by omega))).trans (((q11 (m + 2) (by omega) (by omega))).trans (((q10 (m + 2) (by omega) (by omega))).trans (((q9 (m + 2) (by omega) (by omega))).trans (((q8 (m + 2) (by omega) (by omega))).trans (((q7 (m + 2) (by omega) (by omega))).trans (((q6 (m + 2) (by omega) (by omega))).trans (((q5 (m + 2) (by omega))).trans (((q4 (m + 2) (by omega))).trans ((q3 (m + 2) (by omega)))))))))))))))
  have a2 : tg M16 (m + 2) = some (.inr 1) := s2.1.1.trans h2.2.1.2.1
  have b2 : ln M16 (m + 2) = 2 := s2.1.2.trans h2.2.1.2.2.1
  have r3 : gR M16 299 m = some (m + 3) := (h16.2.2.1.2.2 299 (by omega)).trans ((h15.2.2.1.2.2 299 (by omega)).trans ((h14.2.2.1.2.1 299).trans ((h13.2.2.1.2.2 299 (by omega)).trans ((h12.2.2.1.2.2 299 (by omega)).trans ((h11.2.2.1.2.2 299 (by omega)).trans ((h10.2.2.1.2.2 299 (by omega)).trans ((h9.2.2.1.2.2 299 (by omega)).trans ((h8.2.2.1.2.2 299 (by omega)).trans ((h7.2.2.1.2.2 299 (by omega)).trans (h6.2.1.1))))))))))
  have s3 := ((q16 (m + 3) (by omega) (by omega))).trans (((q15 (m + 3) (by omega) (by omega))).trans (((q14 (m + 3) (by omega))).trans (((q13 (m + 3) (by omega) (by omega))).trans (((q12 (m + 3) (by omega) (by omega))).trans (((q11 (m + 3) (by omega) (by omega))).trans (((q10 (m + 3) (by omega) (by omega))).trans (((q9 (m + 3) (by omega) (by omega))).trans (((q8 (m + 3) (by omega) (by omega))).trans ((q7 (m + 3) (by omega) (by omega)))))))))))
  have a3 : tg M16 (m + 3) = some (.inr 0) := s3.1.1.trans h6.2.1.2.1
  have b3 : ln M16 (m + 3) = 36 := s3.1.2.trans h6.2.1.2.2.1
  have r4 : gR M16 300 m = some (m + 4) := (h16.2.2.1.2.2 300 (by omega)).trans ((h15.2.2.1.2.2 300 (by omega)).trans ((h14.2.2.1.2.1 300).trans ((h13.2.2.1.2.2 300 (by omega)).trans ((h12.2.2.1.2.2 300 (by omega)).trans ((h11.2.2.1.2.2 300 (by omega)).trans ((h10.2.2.1.2.2 300 (by omega)).trans ((h9.2.2.1.2.2 300 (by omega)).trans ((h8.2.2.1.2.2 300 (by omega)).trans (h7.2.1.1)))))))))
  have s4 := ((q16 (m + 4) (by omega) (by omega))).trans (((q15 (m + 4) (by omega) (by omega))).trans (((q14 (m + 4) (by omega))).trans (((q13 (m + 4) (by omega) (by omega))).trans (((q12 (m + 4) (by omega) (by omega))).trans (((q11 (m + 4) (by omega) (by omega))).trans (((q10 (m + 4) (by omega) (by omega))).trans (((q9 (m + 4) (by omega) (by omega))).trans ((q8 (m + 4) (by omega) (by omega))))))))))
  have a4 : tg M16 (m + 4) = some (.inr 0) := s4.1.1.trans h7.2.1.2.1
  have b4 : ln M16 (m + 4) = 9 := s4.1.2.trans h7.2.1.2.2.1
  have r5 : gR M16 301 m = some (m + 5) := (h16.2.2.1.2.2 301 (by omega)).trans ((h15.2.2.1.2.2 301 (by omega)).trans ((h14.2.2.1.2.1 301).trans ((h13.2.2.1.2.2 301 (by omega)).trans ((h12.2.2.1.2.2 301 (by omega)).trans ((h11.2.2.1.2.2 301 (by omega)).trans ((h10.2.2.1.2.2 301 (by omega)).trans ((h9.2.2.1.2.2 301 (by omega)).trans (h8.2.1.1))))))))
  have s5 := ((q16 (m + 5) (by omega) (by omega))).trans (((q15 (m + 5) (by omega) (by omega))).trans (((q14 (m + 5) (by omega))).trans (((q13 (m + 5) (by omega) (by omega))).trans (((q12 (m + 5) (by omega) (by omega))).trans (((q11 (m + 5) (by omega) (by omega))).trans (((q10 (m + 5) (by omega) (by omega))).trans ((q9 (m + 5) (by omega) (by omega)))))))))
  have a5 : tg M16 (m + 5) = some (.inr 0) := s5.1.1.trans h8.2.1.2.1
  have b5 : ln M16 (m + 5) = 9 := s5.1.2.trans h8.2.1.2.2.1
  have r6 : gR M16 302 m = some (m + 6) := (h16.2.2.1.2.2 302 (by omega)).trans ((h15.2.2.1.2.2 302 (by omega)).trans ((h14.2.2.1.2.1 302).trans ((h13.2.2.1.2.2 302 (by omega)).trans ((h12.2.2.1.2.2 302 (by omega)).trans ((h11.2.2.1.2.2 302 (by omega)).trans ((h10.2.2.1.2.2 302 (by omega)).trans (h9.2.1.1)))))))
  have s6 := ((q16 (m + 6) (by omega) (by omega))).trans (((q15 (m + 6) (by omega) (by omega))).trans (((q14 (m + 6) (by omega))).trans (((q13 (m + 6) (by omega) (by omega))).trans (((q12 (m + 6) (by omega) (by omega))).trans (((q11 (m + 6) (by omega) (by omega))).trans ((q10 (m + 6) (by omega) (by omega))))))))
  have a6 : tg M16 (m + 6) = some (.inr 0) := s6.1.1.trans h9.2.1.2.1
  have b6 : ln M16 (m + 6) = 36 := s6.1.2.trans h9.2.1.2.2.1
  have r7 : gR M16 303 m = some (m + 7) := (h16.2.2.1.2.2 303 (by omega)).trans ((h15.2.2.1.2.2 303 (by omega)).trans ((h14.2.2.1.2.1 303).trans ((h13.2.2.1.2.2 303 (by omega)).trans ((h12.2.2.1.2.2 303 (by omega)).trans ((h11.2.2.1.2.2 303 (by omega)).trans (h10.2.1.1))))))
  have s7 := ((q16 (m + 7) (by omega) (by omega))).trans (((q15 (m + 7) (by omega) (by omega))).trans (((q14 (m + 7) (by omega))).trans (((q13 (m + 7) (by omega) (by omega))).trans (((q12 (m + 7) (by omega) (by omega))).trans ((q11 (m + 7) (by omega) (by omega)))))))
  have a7 : tg M16 (m + 7) = some (.inr 0) := s7.1.1.trans h10.2.1.2.1
  have b7 : ln M16 (m + 7) = 72 := s7.1.2.trans h10.2.1.2.2.1
  have r8 : gR M16 304 m = some (m + 8) := (h16.2.2.1.2.2 304 (by omega)).trans ((h15.2.2.1.2.2 304 (by omega)).trans ((h14.2.2.1.2.1 304).trans ((h13.2.2.1.2.2 304 (by omega)).trans ((h12.2.2.1.2.2 304 (by omega)).trans (h11.2.1.1)))))
  have s8 := ((q16 (m + 8) (by omega) (by omega))).trans (((q15 (m + 8) (by omega) (by omega))).trans (((q14 (m + 8) (by omega))).trans (((q13 (m + 8) (by omega) (by omega))).trans ((q12 (m + 8) (by omega) (by omega))))))
  have a8 : tg M16 (m + 8) = some (.inr 0) := s8.1.1.trans h11.2.1.2.1
  have b8 : ln M16 (m + 8) = 36 := s8.1.2.trans h11.2.1.2.2.1
  have r9 : gR M16 306 m = some (m + 9) := (h16.2.2.1.2.2 306 (by omega)).trans ((h15.2.2.1.2.2 306 (by omega)).trans ((h14.2.2.1.2.1 306).trans ((h13.2.2.1.2.2 306 (by omega)).trans (h12.2.1.1))))
  have s9 := ((q16 (m + 9) (by omega) (by omega))).trans (((q15 (m + 9) (by omega) (by omega))).trans (((q14 (m + 9) (by omega))).trans ((q13 (m + 9) (by omega) (by omega)))))
  have a9 : tg M16 (m + 9) = some (.inr 0) := s9.1.1.trans h12.2.1.2.1
  have b9 : ln M16 (m + 9) = 60 := s9.1.2.trans h12.2.1.2.2.1
  have r10 : gR M16 308 m = some (m + 10) := (h16.2.2.1.2.2 308 (by omega)).trans ((h15.2.2.1.2.2 308 (by omega)).trans ((h14.2.2.1.2.1 308).trans (h13.2.1.1)))
  have s10 := ((q16 (m + 10) (by omega) (by omega))).trans (((q15 (m + 10) (by omega) (by omega))).trans ((q14 (m + 10) (by omega))))
  have a10 : tg M16 (m + 10) = some (.inr 2) := s10.1.1.trans h13.2.1.2.1
  have b10 : ln M16 (m + 10) = 1000 := s10.1.2.trans h13.2.1.2.2.1
  have r11 : gR M16 317 m = some (m + 11) := (h16.2.2.1.2.2 317 (by omega)).trans (h15.2.1.1)
  have s11 := (q16 (m + 11) (by omega) (by omega))
  have a11 : tg M16 (m + 11) = some (.inr 0) := s11.1.1.trans h15.2.1.2.1
  have b11 : ln M16 (m + 11) = 2664 := s11.1.2.trans h15.2.1.2.2.1
  have r12 : gR M16 319 m = some (m + 12) := h16.2.1.1
  have a12 : tg M16 (m + 12) = some (.inr 0) := h16.2.1.2.1
  have b12 : ln M16 (m + 12) = 160 := h16.2.1.2.2.1
  have hS : RS M16 m := ⟨⟨g16, r1, r2, r3, r4, r5, r6, r7, r8, r9, r10, r11, r12⟩, ⟨a1, a2, a3, a4, a5, a6, a7, a8, a9, a10, a11, a12⟩, b1, b2, b3, b4, b5, b6, b7, b8, b9, b10, b11, b12⟩
  have i290 : gI M16 290 m = ji 0 := (h16.2.2.1.2.1 290).trans ((h15.2.2.1.2.1 290).trans ((h14.2.2.1.2.2 290 (by omega)).trans ((h13.2.2.1.2.1 290).trans ((h12.2.2.1.2.1 290).trans ((h11.2.2.1.2.1 290).trans ((h10.2.2.1.2.1 290).trans ((h9.2.2.1.2.1 290).trans ((h8.2.2.1.2.1 290).trans ((h7.2.2.1.2.1 290).trans ((h6.2.2.1.2.1 290).trans ((h5.2.2.1.2.2 290 (by omega)).trans ((h4.2.2.1.2.2 290 (by omega)).trans ((h3.2.2.1.2.2 290 (by omega)).trans ((h2.2.2.1.2.1 290).trans ((h1.2.2.1.2.1 290).trans (h0 290))))))))))))))))
  have i291 : gI M16 291 m = ji 0 := (h16.2.2.1.2.1 291).trans ((h15.2.2.1.2.1 291).trans ((h14.2.2.1.2.2 291 (by omega)).trans ((h13.2.2.1.2.1 291).trans ((h12.2.2.1.2.1 291).trans ((h11.2.2.1.2.1 291).trans ((h10.2.2.1.2.1 291).trans ((h9.2.2.1.2.1 291).trans ((h8.2.2.1.2.1 291).trans ((h7.2.2.1.2.1 291).trans ((h6.2.2.1.2.1 291).trans ((h5.2.2.1.2.2 291 (by omega)).trans ((h4.2.2.1.2.2 291 (by omega)).trans ((h3.2.2.1.2.2 291 (by omega)).trans ((h2.2.2.1.2.1 291).trans ((h1.2.2.1.2.1 291).trans (h0 291))))))))))))))))
  have i307 : gI M16 307 m = ji 0 := (h16.2.2.1.2.1 307).trans ((h15.2.2.1.2.1 307).trans ((h14.2.2.1.2.2 307 (by omega)).trans ((h13.2.2.1.2.1 307).trans ((h12.2.2.1.2.1 307).trans ((h11.2.2.1.2.1 307).trans ((h10.2.2.1.2.1 307).trans ((h9.2.2.1.2.1 307).trans ((h8.2.2.1.2.1 307).trans ((h7.2.2.1.2.1 307).trans ((h6.2.2.1.2.1 307).trans ((h5.2.2.1.2.2 307 (by omega)).trans ((h4.2.2.1.2.2 307 (by omega)).trans ((h3.2.2.1.2.2 307 (by omega)).trans ((h2.2.2.1.2.1 307).trans ((h1.2.2.1.2.1 307).trans (h0 307))))))))))))))))
  have i309 : gI M16 309 m = ji 0 := (h16.2.2.1.2.1 309).trans ((h15.2.2.1.2.1 309).trans ((h14.2.2.1.2.2 309 (by omega)).trans ((h13.2.2.1.2.1 309).trans ((h12.2.2.1.2.1 309).trans ((h11.2.2.1.2.1 309).trans ((h10.2.2.1.2.1 309).trans ((h9.2.2.1.2.1 309).trans ((h8.2.2.1.2.1 309).trans ((h7.2.2.1.2.1 309).trans ((h6.2.2.1.2.1 309).trans ((h5.2.2.1.2.2 309 (by omega)).trans ((h4.2.2.1.2.2 309 (by omega)).trans ((h3.2.2.1.2.2 309 (by omega)).trans ((h2.2.2.1.2.1 309).trans ((h1.2.2.1.2.1 309).trans (h0 309))))))))))))))))
  have i311 : gI M16 311 m = ji 0 := (h16.2.2.1.2.1 311).trans ((h15.2.2.1.2.1 311).trans ((h14.2.2.1.2.2 311 (by omega)).trans ((h13.2.2.1.2.1 311).trans ((h12.2.2.1.2.1 311).trans ((h11.2.2.1.2.1 311).trans ((h10.2.2.1.2.1 311).trans ((h9.2.2.1.2.1 311).trans ((h8.2.2.1.2.1 311).trans ((h7.2.2.1.2.1 311).trans ((h6.2.2.1.2.1 311).trans ((h5.2.2.1.2.2 311 (by omega)).trans ((h4.2.2.1.2.2 311 (by omega)).trans ((h3.2.2.1.2.2 311 (by omega)).trans ((h2.2.2.1.2.1 311).trans ((h1.2.2.1.2.1 311).trans (h0 311))))))))))))))))
  have i292 : gI M16 292 m = ji 1 := (h16.2.2.1.2.1 292).trans ((h15.2.2.1.2.1 292).trans ((h14.2.2.1.2.2 292 (by omega)).trans ((h13.2.2.1.2.1 292).trans ((h12.2.2.1.2.1 292).trans ((h11.2.2.1.2.1 292).trans ((h10.2.2.1.2.1 292).trans ((h9.2.2.1.2.1 292).trans ((h8.2.2.1.2.1 292).trans ((h7.2.2.1.2.1 292).trans ((h6.2.2.1.2.1 292).trans ((h5.2.2.1.2.2 292 (by omega)).trans ((h4.2.2.1.2.2 292 (by omega)).trans (h3.2.1)))))))))))))
  have i293 : gI M16 293 m = ji 1 := (h16.2.2.1.2.1 293).trans ((h15.2.2.1.2.1 293).trans ((h14.2.2.1.2.2 293 (by omega)).trans ((h13.2.2.1.2.1 293).trans ((h12.2.2.1.2.1 293).trans ((h11.2.2.1.2.1 293).trans ((h10.2.2.1.2.1 293).trans ((h9.2.2.1.2.1 293).trans ((h8.2.2.1.2.1 293).trans ((h7.2.2.1.2.1 293).trans ((h6.2.2.1.2.1 293).trans ((h5.2.2.1.2.2 293 (by omega)).trans (h4.2.1))))))))))))
  have i294 : gI M16 294 m = ji 50 := (h16.2.2.1.2.1 294).trans ((h15.2.2.1.2.1 294).trans ((h14.2.2.1.2.2 294 (by omega)).trans ((h13.2.2.1.2.1 294).trans ((h12.2.2.1.2.1 294).trans ((h11.2.2.1.2.1 294).trans ((h10.2.2.1.2.1 294).trans ((h9.2.2.1.2.1 294).trans ((h8.2.2.1.2.1 294).trans ((h7.2.2.1.2.1 294).trans ((h6.2.2.1.2.1 294).trans (h5.2.1)))))))))))
  have i312 : gI M16 312 m = ji (-1) := (h16.2.2.1.2.1 312).trans ((h15.2.2.1.2.1 312).trans (h14.2.1))
  have hN : NB m M16 μ := fun a ha => ((q16 a (by omega) (by omega))).trans (((q15 a (by omega) (by omega))).trans (((q14 a (by omega))).trans (((q13 a (by omega) (by omega))).trans (((q12 a (by omega) (by omega))).trans (((q11 a (by omega) (by omega))).trans (((q10 a (by omega) (by omega))).trans (((q9 a (by omega) (by omega))).trans (((q8 a (by omega) (by omega))).trans (((q7 a (by omega) (by omega))).trans (((q6 a (by omega) (by omega))).trans (((q5 a (by omega))).trans (((q4 a (by omega))).trans (((q3 a (by omega))).trans (((q2 a (by omega) (by omega))).trans ((q1 a (by omega) (by omega)))))))))))))))))
  refine f_clr hS (fun ν c hz => ?_)
  show c_X9_init_1 Q ν
  rw [c_X9_init_1]
  have cm := (c.2 m (by omega)).1
  have c2 := (c.2 (m + 2) (by omega)).2.2.1
  refine ⟨rfl, hK ν (fun a ha => (SQ.ch c (by omega)).trans (hN a ha)) (MS.of (A := aZ) (f := 0) (hS.mono c.1) ((cm 292).trans i292) ((cm 293).trans i293) ((cm 294).trans i294) ((cm 291).trans i291) ((cm 290).trans i290) (by omega) (by omega) ((cm 309).trans i309) ((cm 311).trans i311) ((cm 312).trans i312) ((cm 307).trans i307) ⟨fun j j0 j1 => ?_, ⟨(c2 0).trans ((s2.2.2.2.2.1 0).trans (h2.2.1.2.2.2.1 0)), (c2 1).trans ((s2.2.2.2.2.1 1).trans (h2.2.1.2.2.2.1 1)), fun p _ _ hp => absurd (show false = true from hp) (by decide)⟩, fun i i0 i1 => ?_, fun i i0 i1 => ?_⟩ hz)⟩
  · have j1 : j < 0 := j1
    omega
  · have i1 : i < 0 := i1
    omega
  · have i1 : i < 0 := i1
    omega
end
