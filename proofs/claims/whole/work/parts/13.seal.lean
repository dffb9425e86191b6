/-! ===== sealed values; what never returns; the texts' two methods ===== -/
theorem xseal_ex {α : Type} (a : α) : ∃ b : α, b = a := ⟨a, rfl⟩
noncomputable def xseal {α : Type} (a : α) : α := Classical.choose (xseal_ex a)
theorem xseal_eq {α : Type} (a : α) : xseal a = a := Classical.choose_spec (xseal_ex a)
noncomputable def s_BOT : XSem := xseal fun _ _ _ _ => False
abbrev rm_BOT : Room := { frames := 0, cells := 0, slots := 0, locals := 0 }
theorem m_BOT {y : MethodName} {b : ByteArray} {n : Nat} {ret : Option FieldType} (l : Launch) (_ : l.stackTraces = false) : XMet l y b n ret rm_BOT s_BOT := fun _ _ _ _ h => by
  rw [s_BOT, xseal_eq] at h
  exact absurd h id
noncomputable def s_J0_length_8abf5 : XSem := xseal fun μ as Q _ => match as with
  | [.ref a] => tg μ a = some (.inr 10) ∧ Q (some (.int (Int32.ofNat (ln μ a)))) μ
  | _ => False
noncomputable def s_J0_charAt_5068e : XSem := xseal fun μ as Q _ => match as with
  | [.ref a, .int i] => tg μ a = some (.inr 10) ∧ vp_in i (ln μ a) ∧ Q (some (.int (aI μ a i.toNatClampNeg &&& 255))) μ
  | _ => False
abbrev rm_J0_length_8abf5 : Room := { frames := 8, cells := 0, slots := 0, locals := 512 }
abbrev rm_J0_charAt_5068e : Room := { frames := 8, cells := 0, slots := 0, locals := 512 }
