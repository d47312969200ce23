theorem nb_1023 (x : Int32) : 0 ≤ (x &&& 1023).toInt ∧ (x &&& 1023).toInt < 1024 := by
  have h := pk_andIn x (m := 1023) 10 (by decide) (by decide)
  have h2 := vp_in_iff.mp h
  exact ⟨h2.1, h2.2⟩
theorem nb_ofl {x : Int32} {n : Nat} (h0 : 0 ≤ x.toInt) (h1 : x.toInt < n) (hn : n < 2 ^ 31 := by omega) : ∃ k : Nat, k < n ∧ x = nI k := by
  obtain ⟨j, hj, e⟩ := vp_in_of (vp_in_iff.mpr ⟨h0, h1⟩) hn
  exact ⟨j, hj, e⟩
theorem nb_inj9 {a b : Nat} (ha : a < 60000) (hb : b < 60000) (h : nI a = nI b) : a = b := (nI_eq (by omega) (by omega)).mp h
theorem nb_rms {lo iv : Nat} {f g : Nat → Int32} {v : Int32} (hl : lo ≤ iv) (h : ∀ i : Nat, g i = if lo ≤ i ∧ i < iv then f (i + 6) else f i) (hv : v = f (iv + 6)) (i : Nat) : upd g iv v i = if lo ≤ i ∧ i < iv + 1 then f (i + 6) else f i := by
  unfold upd
  by_cases e : i = iv
  · subst e
    rw [if_pos rfl, if_pos ⟨hl, by omega⟩]
    exact hv
  · rw [if_neg e, h i]
    by_cases q : lo ≤ i ∧ i < iv
    · rw [if_pos q, if_pos ⟨q.1, by omega⟩]
    · rw [if_neg q, if_neg (by omega)]
theorem nb_fit {r : Int32} (h : r = 0 ∨ r = 1) : fits .boolean (.int r) = true := by rcases h with rfl | rfl <;> rfl
