def nb_c (n : Int32) : Nat → Nat
  | 0 => 0
  | k + 1 => nb_c n k + (if 1 ≤ k ∧ nb_bc (nI k) = n then 1 else 0)
theorem nb_c_le (n : Int32) : ∀ k, nb_c n k ≤ k := by
  intro k
  induction k with
  | zero => exact Nat.le_refl 0
  | succ k ih =>
    show nb_c n k + (if 1 ≤ k ∧ nb_bc (nI k) = n then 1 else 0) ≤ k + 1
    split <;> omega
theorem nb_c_1 (n : Int32) : nb_c n 1 = 0 := by
  show 0 + (if 1 ≤ 0 ∧ nb_bc (nI 0) = n then 1 else 0) = 0
  rw [if_neg (by omega)]
theorem nb_c_y {n : Int32} {k : Nat} (h : 1 ≤ k) (hb : nb_bc (nI k) = n) : nb_c n (k + 1) = nb_c n k + 1 := by
  show nb_c n k + (if 1 ≤ k ∧ nb_bc (nI k) = n then 1 else 0) = _
  rw [if_pos ⟨h, hb⟩]
theorem nb_c_n {n : Int32} {k : Nat} (hb : ¬ nb_bc (nI k) = n) : nb_c n (k + 1) = nb_c n k := by
  show nb_c n k + (if 1 ≤ k ∧ nb_bc (nI k) = n then 1 else 0) = _
  rw [if_neg (fun q => hb q.2)]
  rfl
def sp_kd (n : Int32) : Int32 := if n = 1 then 0 else 3
def sp_tk (n : Int32) : Int32 := if n = 1 then 0 else -6
def sp_all (n s d : Int32) : Int32 := if n.toInt < 1 ∨ 5 < n.toInt ∨ s.toInt < 0 ∨ 2 < s.toInt ∨ d.toInt < 0 ∨ 3 < d.toInt then -2 else if sp_kd n = d then nI (nb_c n 256) else 0
set_option maxRecDepth 100000 in
theorem nb_a10 : ∀ x : Fin 256, nI x.val &&& 1023 = nI x.val := by decide +kernel
theorem nb_stand {x : Nat} (h : x < 256) : nI x &&& 1023 = nI x := nb_a10 ⟨x, h⟩
theorem nb_sp1 {n s d : Int32} (h : n.toInt < 1 ∨ 5 < n.toInt ∨ s.toInt < 0 ∨ 2 < s.toInt ∨ d.toInt < 0 ∨ 3 < d.toInt) : (-2 : Int32) = sp_all n s d := by
  unfold sp_all; rw [if_pos h]
theorem nb_sp2 {n s d : Int32} (h : ¬ (n.toInt < 1 ∨ 5 < n.toInt ∨ s.toInt < 0 ∨ 2 < s.toInt ∨ d.toInt < 0 ∨ 3 < d.toInt)) {r : Int32} (hr : r = if sp_kd n = d then nI (nb_c n 256) else 0) : r = sp_all n s d := by
  unfold sp_all; rw [if_neg h]; exact hr
