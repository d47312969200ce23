theorem mn_u11 {f g : Nat → Int32} {i : Nat} {v w : Int32} (hg : g = upd f i v) (hi : 12 ≤ i) (h : f 11 = w) : g 11 = w := by
  rw [hg]
  unfold upd
  rw [if_neg (by omega)]
  exact h
theorem mn_I_c {f g : Nat → Int32} (h : mn_I f) (e : ∀ i, i < 12 → g i = f i) : mn_I g := by
  obtain ⟨n, wq, zz, h1, h2, h3, h4, h5, h6, h7⟩ := h
  exact ⟨n, wq, zz, h1, h2, (e 0 (by omega)).trans h3, fun j hj => (e (1 + j) (by omega)).trans (h4 j hj), h5, (e 11 (by omega)).trans h6, h7⟩
/-- what is kept is a state -/
def mn_J (fi fk : Nat → Int32) : Prop := ∀ k, k < 2 → ¬ fk k = 0 → mn_I (fun i => fi (72 * k + i))
theorem mn_J_im {fi fk fs g gk : Nat → Int32} {k : Nat} (hJ : mn_J fi fk) (hI : mn_I fs) (hg : ∀ j, g j = if 72 * k ≤ j ∧ j < 72 * k + 72 then fs (j - 72 * k) else fi j) (hgk : gk = upd fk k 1) : mn_J g gk := by
  intro q hq hne
  by_cases e : q = k
  · subst e
    refine mn_I_c hI (fun i hi => ?_)
    show g (72 * q + i) = fs i
    rw [hg, if_pos (by omega), show 72 * q + i - 72 * q = i by omega]
  · refine mn_I_c (hJ q hq ?_) (fun i hi => ?_)
    · rw [hgk] at hne
      unfold upd at hne
      rw [if_neg e] at hne
      exact hne
    · show g (72 * q + i) = fi (72 * q + i)
      rw [hg, if_neg (by omega)]
theorem mn_cp {f fi g g2 : Nat → Int32} {b k : Nat} {v : Int32} (h : ∀ j, g j = if b ≤ j ∧ j < b + k then f (j - b) else fi j) (hg : g2 = upd g (b + k) v) (hv : v = f k) : ∀ j, g2 j = if b ≤ j ∧ j < b + (k + 1) then f (j - b) else fi j := by
  intro j
  rw [hg]
  unfold upd
  by_cases e : j = b + k
  · subst e
    rw [if_pos rfl, if_pos (by omega), show b + k - b = k by omega]
    exact hv
  · rw [if_neg e, h j]
    by_cases q : b ≤ j ∧ j < b + k
    · rw [if_pos q, if_pos (by omega)]
    · rw [if_neg q, if_neg (by omega)]
theorem mn_sum_mono (f : Nat → Nat) {j : Nat} : ∀ {k : Nat}, j ≤ k → mn_sum f j ≤ mn_sum f k := by
  intro k
  induction k with
  | zero =>
    intro h
    rw [show j = 0 by omega]
    exact Nat.le_refl _
  | succ k ih =>
    intro h
    show mn_sum f j ≤ mn_sum f k + f k
    rcases Nat.lt_or_ge k j with q | q
    · rw [show j = k + 1 by omega]
      exact Nat.le_refl _
    · have := ih q
      omega
theorem mn_sum_ad {f : Nat → Nat} {b v : Nat} (hb : b < 10) : mn_sum (mn_up f b (f b + v)) 10 = mn_sum f 10 + v := by
  have h := (mn_sum_up f (a := b) (b := f b + v) 10).2 hb
  omega
theorem mn_nq {fn g : Nat → Int32} {nq : Nat → Nat} {b v : Nat} (h : ∀ j, j < 10 → fn j = nI (nq j)) (hg : g = upd fn b (nI (nq b + v))) : ∀ j, j < 10 → g j = nI (mn_up nq b (nq b + v) j) := by
  intro j hj
  rw [hg]
  unfold upd mn_up
  by_cases e : j = b
  · rw [if_pos e, if_pos e]
  · rw [if_neg e, if_neg e]
    exact h j hj
