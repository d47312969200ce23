theorem mn_pm {r : Int32} (h : r = 1 ∨ r = -1) : ∃ w : Nat, (w = 9 ∨ w = 11) ∧ r = nI w - 10 := by
  rcases h with rfl | rfl
  · exact ⟨11, Or.inr rfl, by decide⟩
  · exact ⟨9, Or.inl rfl, by decide⟩
theorem mn_neg {w : Nat} (h : w = 9 ∨ w = 11) : ∃ w2 : Nat, (w2 = 9 ∨ w2 = 11) ∧ -(nI w - 10) = nI w2 - 10 := by
  rcases h with rfl | rfl
  · exact ⟨11, Or.inr rfl, by decide⟩
  · exact ⟨9, Or.inl rfl, by decide⟩
