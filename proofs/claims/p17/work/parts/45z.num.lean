/-! how many of a row are so -/
def mn_ct (q : Int32 → Bool) (f : Nat → Int32) : Nat → Nat
  | 0 => 0
  | k + 1 => mn_ct q f k + (if q (f k) = true then 1 else 0)
theorem mn_ct_u (q : Int32 → Bool) (f : Nat → Int32) {c : Nat} {v : Int32} : ∀ N, (N ≤ c → mn_ct q (upd f c v) N = mn_ct q f N) ∧ (c < N → mn_ct q (upd f c v) N + (if q (f c) = true then 1 else 0) = mn_ct q f N + (if q v = true then 1 else 0)) := by
  intro N
  induction N with
  | zero => exact ⟨fun _ => rfl, fun h => by omega⟩
  | succ k ih =>
    refine ⟨fun h => ?_, fun h => ?_⟩
    · show mn_ct q (upd f c v) k + (if q (upd f c v k) = true then 1 else 0) = mn_ct q f k + (if q (f k) = true then 1 else 0)
      rw [ih.1 (by omega), show upd f c v k = f k by unfold upd; rw [if_neg (by omega)]]
    · show mn_ct q (upd f c v) k + (if q (upd f c v k) = true then 1 else 0) + _ = mn_ct q f k + (if q (f k) = true then 1 else 0) + _
      by_cases e : c = k
      · subst e
        rw [ih.1 (Nat.le_refl c), show upd f c v c = v by unfold upd; rw [if_pos rfl]]
        omega
      · have h2 := ih.2 (by omega)
        rw [show upd f c v k = f k by unfold upd; rw [if_neg (by omega)]]
        omega
theorem mn_ct_le (q : Int32 → Bool) (f : Nat → Int32) : ∀ N, mn_ct q f N ≤ N := by
  intro N
  induction N with
  | zero => exact Nat.le_refl 0
  | succ k ih =>
    show mn_ct q f k + (if q (f k) = true then 1 else 0) ≤ k + 1
    split <;> omega
def mn_t1 (x : Int32) : Bool := !decide (x = 0)
def mn_ng (x : Int32) : Bool := decide (x < 0)
/-- the list: no longer than what is noted, all its numbers states -/
def mn_L (n L : Nat) (lf ilf : Nat → Int32) : Prop := L ≤ mn_ct mn_t1 ilf 59049 ∧ ∀ j, j < L → ∃ c, c < 3 ^ n ∧ lf j = nI c
theorem mn_L_0 {n : Nat} {lf ilf : Nat → Int32} : mn_L n 0 lf ilf := ⟨Nat.zero_le _, fun j hj => by omega⟩
theorem mn_L_le {n L : Nat} {lf ilf : Nat → Int32} (h : mn_L n L lf ilf) : L ≤ 59049 := Nat.le_trans h.1 (mn_ct_le _ _ _)
theorem mn_L_up {n L c : Nat} {lf ilf g : Nat → Int32} (h : mn_L n L lf ilf) (hc : c < 59049) (hz : ilf c = 0) (hg : g = upd ilf c 1) : L + 1 ≤ mn_ct mn_t1 g 59049 := by
  have h1 := (mn_ct_u mn_t1 ilf (c := c) (v := 1) 59049).2 hc
  rw [hz, if_neg (by decide), if_pos (by decide)] at h1
  have h2 := h.1
  rw [hg]
  omega
theorem mn_L_lt {n L c : Nat} {lf ilf : Nat → Int32} (h : mn_L n L lf ilf) (hc : c < 59049) (hz : ilf c = 0) : L < 59049 := Nat.lt_of_lt_of_le (mn_L_up h hc hz rfl) (mn_ct_le _ _ _)
theorem mn_L_note {n L c : Nat} {lf ilf g h : Nat → Int32} (hL : mn_L n L lf ilf) (hn : n ≤ 10) (hc : c < 3 ^ n) (hz : ilf c = 0) (hg : g = upd ilf c 1) (hh : h = upd lf L (nI c)) : mn_L n (L + 1) h g := by
  refine ⟨mn_L_up hL (Nat.lt_of_lt_of_le hc (mn_p3 hn)) hz hg, fun j hj => ?_⟩
  rw [hh]
  unfold upd
  by_cases e : j = L
  · rw [if_pos e]
    exact ⟨c, hc, rfl⟩
  · rw [if_neg e]
    exact hL.2 j (by omega)
theorem mn_c9 {n c : Nat} (hn : n ≤ 10) (h : c < 3 ^ n) : c < 59049 := Nat.lt_of_lt_of_le h (mn_p3 hn)
theorem mn_ct_dn {f g : Nat → Int32} {c r : Nat} {x v : Int32} (hc : c < 59049) (hx : x = f c) (hn : ¬ (0 : Int32) ≤ x) (hg : g = upd f c v) (hv : v = nI r) (hr : r < 2 ^ 31) : mn_ct mn_ng g 59049 + 1 = mn_ct mn_ng f 59049 := by
  have h1 := (mn_ct_u mn_ng f (c := c) (v := v) 59049).2 hc
  have h2 : mn_ng (f c) = true := by
    rw [← hx]
    exact decide_eq_true (Int32.not_le.mp hn)
  have h3 : ¬ mn_ng v = true := by
    intro q
    have q1 := of_decide_eq_true q
    have q2 := Int32.lt_iff_toInt_lt.mp q1
    rw [hv, nI_toInt hr, show Int32.toInt 0 = 0 by decide] at q2
    omega
  rw [if_pos h2, if_neg h3] at h1
  rw [hg]
  omega
theorem mn_ct_eq {f g : Nat → Int32} {c : Nat} {v : Int32} (hc : c < 59049) (hg : g = upd f c v) (hv : v = f c) : mn_ct mn_ng g 59049 = mn_ct mn_ng f 59049 := by
  have h1 := (mn_ct_u mn_ng f (c := c) (v := v) 59049).2 hc
  rw [hv] at h1
  rw [hg, hv]
  omega
theorem mn_own {x q : Int32} {cv k : Nat} (hc : cv < 59049) (hk : k ≤ 10) (e1 : q = nI cv / nI (3 ^ k)) (e2 : x = q - q / 3 * 3) : ∃ ow : Nat, ow ≤ 2 ∧ x = nI ow := by
  have h := Nat.mod_lt (cv / 3 ^ k) (show 3 > 0 by decide)
  refine ⟨cv / 3 ^ k % 3, by omega, ?_⟩
  rw [e2, e1]
  exact mn_dg (by omega) hk
theorem mn_cq {fc g : Nat → Int32} {cq : Nat → Nat} {n b d : Nat} {v : Int32} (h : ∀ j, j < n → fc j = nI (cq j) ∧ cq j ≤ 2) (hg : g = upd fc b v) (hv : v = nI d) (hd : d ≤ 2) : ∀ j, j < n → g j = nI (mn_up cq b d j) ∧ mn_up cq b d j ≤ 2 := by
  intro j hj
  rw [hg, hv]
  unfold upd mn_up
  by_cases e : j = b
  · rw [if_pos e, if_pos e]
    exact ⟨rfl, hd⟩
  · rw [if_neg e, if_neg e]
    exact h j hj
theorem mn_st3 {v k d : Nat} (h : v < 3 ^ k) (hd : d ≤ 2) : v + 3 ^ k * d < 3 ^ (k + 1) := by
  have h3 : 3 ^ (k + 1) = 3 ^ k * 3 := Nat.pow_succ 3 k
  have h4 : 3 ^ k * d ≤ 3 ^ k * 2 := Nat.mul_le_mul_left _ hd
  omega
/-! the subsets of a set: what is left out goes down -/
theorem mn_ngn (w : Nat) : -(nI (w + 1)) = ~~~(nI w) := by
  rw [← nI_1 w]
  apply Int32.toBitVec_inj.mp
  show -((nI w).toBitVec + 1#32) = ~~~((nI w).toBitVec)
  generalize (nI w).toBitVec = x
  apply BitVec.eq_of_toNat_eq
  have h := x.isLt
  simp only [BitVec.toNat_neg, BitVec.toNat_not, BitVec.toNat_add, BitVec.toNat_ofNat]
  omega
theorem mn_nota (x y : BitVec 32) : ~~~x &&& y = y - (x &&& y) := by
  have h1 : (x &&& y) &&& (~~~x &&& y) = 0#32 := by
    apply BitVec.eq_of_getLsbD_eq
    intro i hi
    simp only [BitVec.getLsbD_and, BitVec.getLsbD_not, BitVec.getLsbD_zero]
    cases x.getLsbD i <;> simp
  have h2 : (x &&& y) + (~~~x &&& y) = y := by
    rw [BitVec.add_eq_or_of_and_eq_zero _ _ h1]
    apply BitVec.eq_of_getLsbD_eq
    intro i hi
    simp only [BitVec.getLsbD_and, BitVec.getLsbD_not, BitVec.getLsbD_or]
    cases x.getLsbD i <;> simp [hi]
  have h3 := BitVec.add_sub_cancel (~~~x &&& y) (x &&& y)
  rw [BitVec.add_comm (~~~x &&& y) (x &&& y), h2] at h3
  exact h3.symm
theorem mn_sub {a z : Nat} (hz : z ≤ a) : ∃ y, y ≤ a ∧ -(nI z) &&& nI a = nI a - nI y ∧ (y < z ∨ -(nI z) &&& nI a = 0) := by
  rcases Nat.eq_zero_or_pos z with e | e
  · subst e
    have h : -(nI 0) &&& nI a = 0 := by
      rw [show -(nI 0) = (0 : Int32) by decide]
      exact Int32.zero_and
    exact ⟨a, Nat.le_refl a, by rw [h, Int32.sub_self], Or.inr h⟩
  · obtain ⟨w, rfl⟩ : ∃ w, z = w + 1 := ⟨z - 1, by omega⟩
    have h1 : w &&& a ≤ w := Nat.and_le_left
    have h2 : w &&& a ≤ a := Nat.and_le_right
    refine ⟨w &&& a, h2, ?_, Or.inl (by omega)⟩
    rw [mn_ngn, ← mn_and]
    apply Int32.toBitVec_inj.mp
    exact mn_nota _ _
theorem mn_subs {x s y : Int32} {a z : Nat} (hx : x = nI a - nI z) (hs : s = x - nI a) (hy : y = s &&& nI a) : y = -(nI z) &&& nI a := by
  rw [hy, hs, hx]
  congr 1
  apply Int32.toBitVec_inj.mp
  show (nI a).toBitVec - (nI z).toBitVec - (nI a).toBitVec = -(nI z).toBitVec
  generalize (nI a).toBitVec = x
  generalize (nI z).toBitVec = y
  apply BitVec.eq_of_toNat_eq
  have h := x.isLt
  have h2 := y.isLt
  simp only [BitVec.toNat_neg, BitVec.toNat_sub]
  omega
