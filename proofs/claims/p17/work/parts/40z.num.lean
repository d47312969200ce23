theorem mn_sum_le (f : Nat → Nat) {j : Nat} : ∀ {k : Nat}, j < k → f j ≤ mn_sum f k := by
  intro k
  induction k with
  | zero => intro h; omega
  | succ k ih =>
    intro h
    show f j ≤ mn_sum f k + f k
    rcases Nat.lt_or_ge j k with q | q
    · have := ih q
      omega
    · have e : j = k := by omega
      subst e
      omega
theorem mn_b0 {S : Int32} {k : Nat} (h : (S >>> (nI k &&& 31)) &&& 1 = 0) : ¬ nb_bit S k := fun q => absurd (h.symm.trans q) (by decide)
theorem mn_b1 {S : Int32} {k : Nat} (h : ¬ (S >>> (nI k &&& 31)) &&& 1 = 0) : nb_bit S k := (mn_a1 (S >>> (nI k &&& 31))).resolve_left h
