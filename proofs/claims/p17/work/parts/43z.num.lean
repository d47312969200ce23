def mn_I (fs : Nat → Int32) : Prop := ∃ (n : Nat) (wq : Nat → Nat) (zz : Nat), 3 ≤ n ∧ n ≤ 10 ∧ fs 0 = nI n ∧ (∀ j, j < 10 → fs (1 + j) = nI (wq j)) ∧ mn_sum wq 10 ≤ 5 ∧ fs 11 = nI zz ∧ zz ≤ 10
theorem mn_I_upd {fs g : Nat → Int32} {i : Nat} {v : Int32} (h : mn_I fs) (hi : 12 ≤ i) (hg : g = upd fs i v) : mn_I g := by
  obtain ⟨n, wq, zz, h1, h2, h3, h4, h5, h6, h7⟩ := h
  have e : ∀ j, j < 12 → g j = fs j := fun j hj => by rw [hg]; unfold upd; rw [if_neg (by omega)]
  exact ⟨n, wq, zz, h1, h2, (e 0 (by omega)).trans h3, fun j hj => (e (1 + j) (by omega)).trans (h4 j hj), h5, (e 11 (by omega)).trans h6, h7⟩
theorem mn_I_11 {fs g : Nat → Int32} {z : Nat} (h : mn_I fs) (hz : z ≤ 10) (hg : g = upd fs 11 (nI z)) : mn_I g := by
  obtain ⟨n, wq, zz, h1, h2, h3, h4, h5, h6, h7⟩ := h
  have e : ∀ j, j < 11 → g j = fs j := fun j hj => by rw [hg]; unfold upd; rw [if_neg (by omega)]
  exact ⟨n, wq, z, h1, h2, (e 0 (by omega)).trans h3, fun j hj => (e (1 + j) (by omega)).trans (h4 j hj), h5, by rw [hg]; unfold upd; rw [if_pos rfl], hz⟩
def mn_up (f : Nat → Nat) (a b : Nat) : Nat → Nat := fun j => if j = a then b else f j
theorem mn_sum_up (f : Nat → Nat) {a b : Nat} : ∀ k, (k ≤ a → mn_sum (mn_up f a b) k = mn_sum f k) ∧ (a < k → mn_sum (mn_up f a b) k + f a = mn_sum f k + b) := by
  intro k
  induction k with
  | zero => exact ⟨fun _ => rfl, fun h => by omega⟩
  | succ k ih =>
    refine ⟨fun h => ?_, fun h => ?_⟩
    · show mn_sum (mn_up f a b) k + mn_up f a b k = mn_sum f k + f k
      rw [ih.1 (by omega), show mn_up f a b k = f k by unfold mn_up; rw [if_neg (by omega)]]
    · show mn_sum (mn_up f a b) k + mn_up f a b k + f a = mn_sum f k + f k + b
      by_cases q : a = k
      · subst q
        rw [ih.1 (Nat.le_refl a), show mn_up f a b a = b by unfold mn_up; rw [if_pos rfl]]
        omega
      · have h2 := ih.2 (by omega)
        rw [show mn_up f a b k = f k by unfold mn_up; rw [if_neg (by omega)]]
        omega
theorem mn_I_stand {fs g : Nat → Int32} {n a b zz : Nat} {wq : Nat → Nat} (h1 : 3 ≤ n) (h2 : n ≤ 10) (h3 : fs 0 = nI n) (h4 : ∀ j, j < 10 → fs (1 + j) = nI (wq j)) (h6 : fs 11 = nI zz) (h7 : zz ≤ 10) (ha : a < 10) (hg : g = upd fs (1 + a) (nI b)) (hs : mn_sum wq 10 - wq a + b ≤ 5) (hw : wq a ≤ mn_sum wq 10) : mn_I g := by
  have e : ∀ j, j ≠ 1 + a → g j = fs j := fun j hj => by rw [hg]; unfold upd; rw [if_neg hj]
  refine ⟨n, mn_up wq a b, zz, h1, h2, (e 0 (by omega)).trans h3, fun j hj => ?_, ?_, (e 11 (by omega)).trans h6, h7⟩
  · by_cases q : j = a
    · subst q
      rw [hg]
      unfold upd mn_up
      rw [if_pos rfl, if_pos rfl]
    · rw [e (1 + j) (by omega), h4 j hj]
      unfold mn_up
      rw [if_neg q]
  · have h := (mn_sum_up wq (a := a) (b := b) 10).2 ha
    omega
theorem mn_I_ring {g : Nat → Int32} {v zz : Nat} (h1 : 3 ≤ v) (h2 : v ≤ 10) (h3 : g 0 = nI v) (h4 : ∀ j, j < 10 → g (1 + j) = 0) (h6 : g 11 = nI zz) (h7 : zz ≤ 10) : mn_I g := ⟨v, fun _ => 0, zz, h1, h2, h3, fun j hj => h4 j hj, by decide, h6, h7⟩
