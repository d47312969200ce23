theorem mn_M0 (f g : Nat → Int32) : 1 + (mn_ct mn_ng f 59049 + mn_ct mn_ng g 59049) ≤ 118099 := by
  have h1 := mn_ct_le mn_ng f 59049
  have h2 := mn_ct_le mn_ng g 59049
  generalize mn_ct mn_ng f 59049 = a at h1 ⊢
  generalize mn_ct mn_ng g 59049 = b at h2 ⊢
  omega
theorem mn_M1 {r : Int32} {a b n : Nat} (h1 : r = 0 ∨ r = 1) (h3 : r = 1 → b < a) (hq : a + 2 ≤ n + 1) : r = 0 ∧ 1 ≤ n ∨ b + 2 ≤ n := by
  rcases h1 with e | e
  · exact Or.inl ⟨e, by omega⟩
  · have := h3 e
    exact Or.inr (by omega)
theorem mn_M2 {r : Int32} {a b rd : Nat} (h1 : r = 0 ∨ r = 1) (h3 : r = 1 → b < a) (hq : rd + a ≤ 118099) : r = 0 ∨ rd + 1 + b ≤ 118099 := by
  rcases h1 with e | e
  · exact Or.inl e
  · have := h3 e
    exact Or.inr (by omega)
theorem mn_M9 {r : Int32} {a : Nat} (hq : r = 0 ∧ 1 ≤ 0 ∨ a + 2 ≤ 0) : False := by
  rcases hq with h | h
  · have := h.2
    omega
  · omega
