def nb_dg (x : Int32) (k : Nat) : Int32 := x / nI (3 ^ k) - x / nI (3 ^ k) / 3 * 3
def nb_st (x : Int32) : Nat → Int32
  | 0 => 0
  | k + 1 => nb_st x k ||| (if nb_dg x k ≤ 0 then 0 else (1 : Int32) <<< (nI k &&& 31))
def nb_sz (x : Int32) : Nat → Int32
  | 0 => 0
  | k + 1 => nb_sz x k + ((x >>> (nI k &&& 31)) &&& 1)
def nb_bit (S : Int32) (k : Nat) : Prop := (S >>> (nI k &&& 31)) &&& 1 = 1
theorem mn_a1 (x : Int32) : x &&& 1 = 0 ∨ x &&& 1 = 1 := by
  have h := vp_in_iff.mp (pk_andIn x (m := 1) 1 (by decide) (by decide))
  have h2 := h.2
  exact nb_01 h.1 (by omega)
theorem mn_sz (x : Int32) : ∀ k, k ≤ 10 → ∃ s : Nat, s ≤ k ∧ nb_sz x k = nI s := by
  intro k
  induction k with
  | zero => exact fun _ => ⟨0, Nat.le_refl 0, rfl⟩
  | succ k ih =>
    intro hk
    obtain ⟨s, hs, e⟩ := ih (by omega)
    rcases mn_a1 (x >>> (nI k &&& 31)) with h | h
    · exact ⟨s, by omega, by show nb_sz x k + _ = _; rw [h, e, Int32.add_zero]⟩
    · exact ⟨s + 1, by omega, by show nb_sz x k + _ = _; rw [h, e]; exact nI_1 s⟩
theorem mn_or (a b : Nat) : nI a ||| nI b = nI (a ||| b) := by
  unfold nI
  first | rw [Int32.ofNat_or] | (apply Int32.toBitVec_inj.mp; simp)
theorem mn_stn (x : Int32) : ∀ k, k ≤ 10 → ∃ v : Nat, v < 2 ^ k ∧ nb_st x k = nI v := by
  intro k
  induction k with
  | zero => exact fun _ => ⟨0, by decide, rfl⟩
  | succ k ih =>
    intro hk
    obtain ⟨s, hs, e⟩ := ih (by omega)
    have h2 : 2 ^ (k + 1) = 2 * 2 ^ k := by rw [Nat.pow_succ, Nat.mul_comm]
    by_cases h : nb_dg x k ≤ 0
    · exact ⟨s, by omega, by show nb_st x k ||| _ = _; rw [if_pos h, e, Int32.or_zero]⟩
    · exact ⟨s ||| 2 ^ k, Nat.or_lt_two_pow (by omega) (by have := nb_pw1 k; omega), by show nb_st x k ||| _ = _; rw [if_neg h, e, nb_shl1 (by omega), mn_or]⟩
/-! the number to three of a row of walkers -/
def mn_code (f : Nat → Nat) : Nat → Nat
  | 0 => 0
  | k + 1 => mn_code f k + 3 ^ k * min (f k) 2
theorem mn_code_lt (f : Nat → Nat) : ∀ k, mn_code f k < 3 ^ k := by
  intro k
  induction k with
  | zero => exact Nat.one_pos
  | succ k ih =>
    have h3 : 3 ^ (k + 1) = 3 ^ k * 3 := Nat.pow_succ 3 k
    have h4 : 3 ^ k * min (f k) 2 ≤ 3 ^ k * 2 := Nat.mul_le_mul_left _ (Nat.min_le_right _ _)
    show mn_code f k + 3 ^ k * min (f k) 2 < _
    omega
theorem mn_p3 {k : Nat} (h : k ≤ 10) : 3 ^ k ≤ 59049 := Nat.pow_le_pow_right (n := 3) (by decide) h
theorem mn_p31 (k : Nat) : 1 ≤ 3 ^ k := Nat.one_le_pow k 3 (by decide)
theorem mn_dgt (f : Nat → Nat) (j : Nat) : ∀ k, j < k → mn_code f k / 3 ^ j % 3 = min (f j) 2 := by
  intro k
  induction k with
  | zero => intro h; omega
  | succ k ih =>
    intro h
    show (mn_code f k + 3 ^ k * min (f k) 2) / 3 ^ j % 3 = _
    rcases Nat.lt_or_ge j k with q | q
    · obtain ⟨d, rfl⟩ : ∃ d, k = j + 1 + d := ⟨k - (j + 1), by omega⟩
      have e : 3 ^ (j + 1 + d) * min (f (j + 1 + d)) 2 = 3 ^ j * (3 * (3 ^ d * min (f (j + 1 + d)) 2)) := by
        rw [Nat.pow_add, Nat.pow_succ]
        simp only [Nat.mul_assoc]
      rw [e, Nat.add_mul_div_left _ _ (mn_p31 j), Nat.add_mul_mod_self_left]
      exact ih q
    · have e : j = k := by omega
      subst e
      rw [Nat.add_mul_div_left _ _ (mn_p31 j), Nat.div_eq_of_lt (mn_code_lt f j), Nat.zero_add]
      have h5 : min (f j) 2 ≤ 2 := Nat.min_le_right _ _
      omega
theorem mn_dg {D k : Nat} (hD : D < 2 ^ 31) (hk : k ≤ 10) : nb_dg (nI D) k = nI (D / 3 ^ k % 3) := by
  have h1 := mn_p3 hk
  have h2 := mn_p31 k
  unfold nb_dg
  rw [pk_div hD (by omega) (by omega)]
  have h3 : D / 3 ^ k ≤ D := Nat.div_le_self _ _
  exact pk_rem (a := D / 3 ^ k) (d := 3) (by omega) (by decide) (by decide)
/-! bits -/
theorem mn_sm {k : Nat} (h : k ≤ 10) : ((nI k &&& 31).toBitVec.smod 32).toNat = k := by
  rcases (show k = 0 ∨ k = 1 ∨ k = 2 ∨ k = 3 ∨ k = 4 ∨ k = 5 ∨ k = 6 ∨ k = 7 ∨ k = 8 ∨ k = 9 ∨ k = 10 by omega) with rfl | rfl | rfl | rfl | rfl | rfl | rfl | rfl | rfl | rfl | rfl <;> decide
theorem mn_and (a b : Nat) : nI a &&& nI b = nI (a &&& b) := by
  unfold nI
  first | rw [Int32.ofNat_and] | (apply Int32.toBitVec_inj.mp; simp)
theorem mn_bit {S k : Nat} (hS : S < 1024) (hk : k ≤ 10) : nb_bit (nI S) k ↔ S.testBit k = true := by
  unfold nb_bit
  rw [pk_shrN (by omega) _ k (mn_sm hk), show (1 : Int32) = nI 1 from rfl, mn_and, Nat.and_one_is_mod, Nat.testBit_eq_decide_div_mod_eq, decide_eq_true_iff]
  have h1 : S / 2 ^ k % 2 < 2 := Nat.mod_lt _ (by decide)
  exact nI_eq (by omega) (by decide)
theorem mn_stb {D : Nat} (hD : D < 2 ^ 31) (j : Nat) : ∀ k, k ≤ 10 → ∀ v : Nat, nb_st (nI D) k = nI v → v < 2 ^ k → j < k → D / 3 ^ j % 3 ≠ 0 → v.testBit j = true := by
  intro k
  induction k with
  | zero => intro _ _ _ _ h; omega
  | succ k ih =>
    intro hk v ev hv hj hd
    obtain ⟨s, hs, e⟩ := mn_stn (nI D) k (by omega)
    have hp := nb_pw (k := k + 1) hk
    have h2 : 2 ^ (k + 1) = 2 * 2 ^ k := by rw [Nat.pow_succ, Nat.mul_comm]
    have ev : nb_st (nI D) k ||| (if nb_dg (nI D) k ≤ 0 then 0 else (1 : Int32) <<< (nI k &&& 31)) = nI v := ev
    rw [e, mn_dg hD (by omega)] at ev
    have h3 : D / 3 ^ k % 3 < 3 := Nat.mod_lt _ (by decide)
    by_cases h : D / 3 ^ k % 3 = 0
    · rw [h, if_pos (by decide), Int32.or_zero] at ev
      have e2 : s = v := nb_inj9 (by omega) (by omega) ev
      subst e2
      rcases Nat.lt_or_ge j k with q | q
      · exact ih (by omega) s e hs q hd
      · have e3 : j = k := by omega
        subst e3
        exact absurd h hd
    · rw [if_neg (by have h4 := nI_nle (n := D / 3 ^ k % 3) (by omega) (by omega); exact h4), nb_shl1 (by omega), mn_or] at ev
      have h5 : s ||| 2 ^ k < 2 ^ (k + 1) := Nat.or_lt_two_pow (by omega) (by have := nb_pw1 k; omega)
      have e2 : s ||| 2 ^ k = v := nb_inj9 (by omega) (by omega) ev
      subst e2
      rw [Nat.testBit_or]
      rcases Nat.lt_or_ge j k with q | q
      · rw [ih (by omega) s e hs q hd, Bool.true_or]
      · have e3 : j = k := by omega
        subst e3
        rw [Nat.testBit_two_pow_self, Bool.or_true]
/-- who stands on a cell is a stand of the state's number -/
theorem mn_stand {f : Nat → Nat} {n j : Nat} (hn : n ≤ 10) (hj : j < n) (hf : 0 < f j) : nb_bit (nb_st (nI (mn_code f n)) n) j := by
  have h1 := mn_code_lt f n
  have h2 := mn_p3 hn
  obtain ⟨v, hv, e⟩ := mn_stn (nI (mn_code f n)) n hn
  have hp := nb_pw hn
  rw [e]
  refine (mn_bit (by omega) (by omega)).mpr (mn_stb (D := mn_code f n) (by omega) j n hn v e hv hj ?_)
  rw [mn_dgt f j n hj]
  have h3 : min (f j) 2 = f j ∨ min (f j) 2 = 2 := by omega
  omega
/-! the ring's steps -/
set_option maxRecDepth 100000 in
theorem mn_besa : ∀ (a : Fin 10) (n : Fin 11) (w : Fin 21), a.val < n.val → 10 ≤ a.val + n.val + w.val → (nI a.val + (nI w.val - 10) + nI n.val) - (nI a.val + (nI w.val - 10) + nI n.val) / nI n.val * nI n.val = nI ((a.val + n.val + w.val - 10) % n.val) := by decide +kernel
theorem mn_bes {a n w : Nat} (ha : a < n) (hn : n ≤ 10) (hw : w ≤ 20) (h : 10 ≤ a + n + w) : (nI a + (nI w - 10) + nI n) - (nI a + (nI w - 10) + nI n) / nI n * nI n = nI ((a + n + w - 10) % n) := mn_besa ⟨a, by omega⟩ ⟨n, by omega⟩ ⟨w, by omega⟩ ha h
/-- where q steps up (w = 11) or down (w = 9) lead -/
def mn_tg (w n a q : Nat) : Nat := if w = 11 then (a + n + q) % n else (a + n - q) % n
set_option maxRecDepth 100000 in
theorem mn_tga : ∀ (a : Fin 10) (n : Fin 11) (q : Fin 11), a.val < n.val → q.val ≤ n.val → (mn_tg 11 n.val a.val q.val < n.val ∧ mn_tg 9 n.val a.val q.val < n.val) ∧ (q.val < n.val → (mn_tg 11 n.val a.val q.val + n.val + 11 - 10) % n.val = mn_tg 11 n.val a.val (q.val + 1) ∧ (mn_tg 9 n.val a.val q.val + n.val + 9 - 10) % n.val = mn_tg 9 n.val a.val (q.val + 1)) ∧ (mn_tg 11 n.val a.val n.val = a.val ∧ mn_tg 9 n.val a.val n.val = a.val) ∧ ((a.val + n.val + (10 + q.val) - 10) % n.val = mn_tg 11 n.val a.val q.val ∧ (a.val + n.val + (10 - q.val) - 10) % n.val = mn_tg 9 n.val a.val q.val) := by decide +kernel
theorem mn_tg_lt {w n a q : Nat} (hw : w = 9 ∨ w = 11) (ha : a < n) (hn : n ≤ 10) (hq : q ≤ n) : mn_tg w n a q < n := by
  have h := (mn_tga ⟨a, by omega⟩ ⟨n, by omega⟩ ⟨q, by omega⟩ ha hq).1
  rcases hw with rfl | rfl
  · exact h.2
  · exact h.1
theorem mn_tg_s {w n a q : Nat} (hw : w = 9 ∨ w = 11) (ha : a < n) (hn : n ≤ 10) (hq : q < n) : (mn_tg w n a q + n + w - 10) % n = mn_tg w n a (q + 1) := by
  have h := (mn_tga ⟨a, by omega⟩ ⟨n, by omega⟩ ⟨q, by omega⟩ ha (by show q ≤ n; omega)).2.1 hq
  rcases hw with rfl | rfl
  · exact h.2
  · exact h.1
theorem mn_tg_n {w n a : Nat} (hw : w = 9 ∨ w = 11) (ha : a < n) (hn : n ≤ 10) : mn_tg w n a n = a := by
  have h := (mn_tga ⟨a, by omega⟩ ⟨n, by omega⟩ ⟨n, by omega⟩ ha (Nat.le_refl n)).2.2.1
  rcases hw with rfl | rfl
  · exact h.2
  · exact h.1
theorem mn_tg_1 {w n a : Nat} (hw : w = 9 ∨ w = 11) (ha : a < n) (hn : n ≤ 10) : (a + n + w - 10) % n = mn_tg w n a 1 := by
  have h := (mn_tga ⟨a, by omega⟩ ⟨n, by omega⟩ ⟨1, by omega⟩ ha (by show 1 ≤ n; omega)).2.2.2
  rcases hw with rfl | rfl
  · exact h.2
  · exact h.1
set_option maxRecDepth 100000 in
theorem mn_wfa : ∀ v : Fin 11, (nI 9 - 10) * nI v.val = nI (10 - v.val) - 10 ∧ (nI 11 - 10) * nI v.val = nI (10 + v.val) - 10 := by decide +kernel
/-- a way times how far: where it leads -/
theorem mn_wf {w n a v : Nat} {p3 : Int32} (hw : w = 9 ∨ w = 11) (hp : p3 = nI w - 10) (ha : a < n) (hn : n ≤ 10) (hv : v ≤ n) : ∃ w1 : Nat, w1 ≤ 20 ∧ 10 ≤ a + n + w1 ∧ p3 * nI v = nI w1 - 10 ∧ (a + n + w1 - 10) % n = mn_tg w n a v := by
  have h := (mn_tga ⟨a, by omega⟩ ⟨n, by omega⟩ ⟨v, by omega⟩ ha hv).2.2.2
  have h2 := mn_wfa ⟨v, by omega⟩
  rcases hw with rfl | rfl
  · exact ⟨10 - v, by omega, by omega, by rw [hp]; exact h2.1, h.2⟩
  · exact ⟨10 + v, by omega, by omega, by rw [hp]; exact h2.2, h.1⟩
def mn_sum (f : Nat → Nat) : Nat → Nat
  | 0 => 0
  | k + 1 => mn_sum f k + f k
theorem mn_pm1 {z : Nat} (h : z ≤ 10) : (nI z - 1).toInt = (z : Int) - 1 := by
  rcases (show z = 0 ∨ z = 1 ∨ z = 2 ∨ z = 3 ∨ z = 4 ∨ z = 5 ∨ z = 6 ∨ z = 7 ∨ z = 8 ∨ z = 9 ∨ z = 10 by omega) with rfl | rfl | rfl | rfl | rfl | rfl | rfl | rfl | rfl | rfl | rfl <;> decide
