def nb_sg (x : Int32) : Nat → Int32
  | 0 => 0
  | k + 1 => nb_sg x k + (if nb_h x (nI k) = 0 then 0 else nI (3 ^ k))
def nb_cd (x : Nat) : Nat := (nb_sg (nI x) 8).toNatClampNeg
def nb_pn (x : Nat) : Nat := (nb_sz (nI x) 10).toNatClampNeg
set_option maxRecDepth 100000 in
theorem nb_cda : ∀ x : Fin 256, nb_sg (nI x.val) 8 = nI (nb_cd x.val) ∧ nb_cd x.val < 59049 := by decide +kernel
set_option maxRecDepth 100000 in
theorem nb_cdb : ∀ x : Fin 256, nb_st (nI (nb_cd x.val)) 8 = nI x.val := by decide +kernel
set_option maxRecDepth 100000 in
theorem nb_sza : ∀ x : Fin 256, nb_sz (nI x.val) 10 = nb_bc (nI x.val) ∧ nb_sz (nI x.val) 10 = nI (nb_pn x.val) ∧ nb_pn x.val ≤ 8 := by decide +kernel
theorem nb_cd1 {x : Nat} (h : x < 256) : nb_sg (nI x) 8 = nI (nb_cd x) := (nb_cda ⟨x, h⟩).1
theorem nb_cd2 {x : Nat} (h : x < 256) : nb_cd x < 59049 := (nb_cda ⟨x, h⟩).2
theorem nb_cd3 {x : Nat} (h : x < 256) : nb_st (nI (nb_cd x)) 8 = nI x := nb_cdb ⟨x, h⟩
theorem nb_sz1 {x : Nat} (h : x < 256) : nb_sz (nI x) 10 = nb_bc (nI x) := (nb_sza ⟨x, h⟩).1
theorem nb_sz2 {x : Nat} (h : x < 256) : nb_sz (nI x) 10 = nI (nb_pn x) := (nb_sza ⟨x, h⟩).2.1
theorem nb_sz3 {x : Nat} (h : x < 256) : nb_pn x ≤ 8 := (nb_sza ⟨x, h⟩).2.2
set_option maxRecDepth 100000 in
theorem nb_besa : ∀ (a : Fin 8) (w : Fin 17), (nI a.val + (nI w.val - 8) + 8) - (nI a.val + (nI w.val - 8) + 8) / 8 * 8 = nI ((a.val + w.val) % 8) := by decide +kernel
theorem nb_bes {a w : Nat} (ha : a < 8) (hw : w ≤ 16) : (nI a + (nI w - 8) + 8) - (nI a + (nI w - 8) + 8) / 8 * 8 = nI ((a + w) % 8) := nb_besa ⟨a, ha⟩ ⟨w, by omega⟩
def nb_ds (x w : Nat) : Nat → Nat → Nat
  | 0, _ => 0
  | f + 1, a => if (nI x >>> (nI a &&& 31)) &&& 1 = 0 then 1 + nb_ds x w f ((a + w) % 8) else 0
set_option maxRecDepth 100000 in
theorem nb_dsa : ∀ (x : Fin 256) (a : Fin 8), 0 < x.val → nb_ds x.val 7 8 a.val ≤ 7 ∧ nb_ds x.val 9 8 a.val ≤ 7 := by decide +kernel
set_option maxRecDepth 100000 in
theorem nb_dsc : ∀ (x : Fin 256) (a : Fin 8), 0 < x.val → (nI x.val >>> (nI a.val &&& 31)) &&& 1 = 0 → nb_ds x.val 7 8 ((a.val + 7) % 8) + 1 = nb_ds x.val 7 8 a.val ∧ nb_ds x.val 9 8 ((a.val + 9) % 8) + 1 = nb_ds x.val 9 8 a.val := by decide +kernel
theorem nb_dsb {x a w : Nat} (hx : x < 256) (h0 : 0 < x) (ha : a < 8) (hw : w = 7 ∨ w = 9) : nb_ds x w 8 a ≤ 7 := by
  rcases hw with rfl | rfl
  · exact (nb_dsa ⟨x, hx⟩ ⟨a, ha⟩ h0).1
  · exact (nb_dsa ⟨x, hx⟩ ⟨a, ha⟩ h0).2
theorem nb_dse {x a w : Nat} (hx : x < 256) (h0 : 0 < x) (ha : a < 8) (hw : w = 7 ∨ w = 9) (h : (nI x >>> (nI a &&& 31)) &&& 1 = 0) : nb_ds x w 8 ((a + w) % 8) + 1 = nb_ds x w 8 a := by
  rcases hw with rfl | rfl
  · exact (nb_dsc ⟨x, hx⟩ ⟨a, ha⟩ h0 h).1
  · exact (nb_dsc ⟨x, hx⟩ ⟨a, ha⟩ h0 h).2
theorem nb_wfa : ∀ v : Fin 9, (nI 7 - 8) * nI v.val = nI (8 - v.val) - 8 ∧ (nI 9 - 8) * nI v.val = nI (8 + v.val) - 8 := by decide +kernel
theorem nb_wf {w v : Nat} {p : Int32} (hw : w = 7 ∨ w = 9) (hp : p = nI w - 8) (hv : v ≤ 8) : ∃ w1 : Nat, w1 ≤ 16 ∧ p * nI v = nI w1 - 8 := by
  rcases hw with rfl | rfl
  · exact ⟨8 - v, by omega, by rw [hp]; exact (nb_wfa ⟨v, by omega⟩).1⟩
  · exact ⟨8 + v, by omega, by rw [hp]; exact (nb_wfa ⟨v, by omega⟩).2⟩
theorem nb_tk0 {n : Int32} (h : n = 1) : (0 : Int32) = sp_tk n := by unfold sp_tk; rw [if_pos h]
theorem nb_tk6 {n : Int32} (h : ¬ n = 1) : (-6 : Int32) = sp_tk n := by unfold sp_tk; rw [if_neg h]
theorem nb_inj {a b : Nat} (ha : a < 59049) (hb : b < 59049) (h : nI a = nI b) : a = b := (nI_eq (by omega) (by omega)).mp h
def nb_inv (nn : Int32) (k L : Nat) (lf il : Nat → Int32) : Prop := L ≤ k ∧ (∀ j, j < L → ∃ x, 0 < x ∧ x < 256 ∧ nb_sz (nI x) 10 = nn ∧ lf j = nI (nb_cd x)) ∧ (∀ c, c < 59049 → ¬ il c = 0 → ∃ j, j < L ∧ lf j = nI c) ∧ (∀ x, 0 < x → x < k → nb_sz (nI x) 10 = nn → ∃ j, j < L ∧ lf j = nI (nb_cd x))
theorem nb_inv_0 {nn : Int32} {lf il : Nat → Int32} (h : ∀ j, j < 59049 → il j = 0) : nb_inv nn 1 0 lf il :=
  ⟨by omega, fun j hj => absurd hj (by omega), fun c hc q => absurd (h c hc) q, fun x h1 h2 => absurd h1 (by omega)⟩
theorem nb_inv_skip {nn : Int32} {k L : Nat} {lf il : Nat → Int32} (h : nb_inv nn k L lf il) (hn : ¬ nb_sz (nI k) 10 = nn) : nb_inv nn (k + 1) L lf il := by
  obtain ⟨h1, h2, h3, h4⟩ := h
  refine ⟨by omega, h2, h3, fun x a b c => ?_⟩
  rcases Nat.lt_or_ge x k with q | q
  · exact h4 x a q c
  · have e : x = k := by omega
    subst e
    exact absurd c hn
def nb_nt (x L : Nat) (lf il : Nat → Int32) (L' : Nat) (lf' il' : Nat → Int32) : Prop := (L' = L ∧ lf' = lf ∧ il' = il ∧ ¬ il (nb_cd x) = 0) ∨ (L' = L + 1 ∧ lf' = upd lf L (nI (nb_cd x)) ∧ il' = upd il (nb_cd x) 1)
theorem nb_inv_note {nn : Int32} {k L L' : Nat} {lf il lf' il' : Nat → Int32} (h : nb_inv nn k L lf il) (h0 : 0 < k) (hk : k < 256) (hn : nb_sz (nI k) 10 = nn) (ht : nb_nt k L lf il L' lf' il') : nb_inv nn (k + 1) L' lf' il' := by
  obtain ⟨h1, h2, h3, h4⟩ := h
  rcases ht with ⟨rfl, rfl, rfl, hne⟩ | ⟨rfl, rfl, rfl⟩
  · refine ⟨by omega, h2, h3, fun x a b c => ?_⟩
    rcases Nat.lt_or_ge x k with q | q
    · exact h4 x a q c
    · have e : x = k := by omega
      subst e
      exact h3 _ (nb_cd2 hk) hne
  · have up0 : upd lf L (nI (nb_cd k)) L = nI (nb_cd k) := by unfold upd; rw [if_pos rfl]
    have upn : ∀ j, j < L → upd lf L (nI (nb_cd k)) j = lf j := fun j hj => by unfold upd; rw [if_neg (by omega)]
    refine ⟨by omega, fun j hj => ?_, fun c hc q => ?_, fun x a b c => ?_⟩
    · rcases Nat.lt_or_ge j L with q | q
      · obtain ⟨x, a, b, c, d⟩ := h2 j q
        exact ⟨x, a, b, c, (upn j q).trans d⟩
      · have e : j = L := by omega
        subst e
        exact ⟨k, h0, hk, hn, up0⟩
    · by_cases e : c = nb_cd k
      · subst e
        exact ⟨L, by omega, up0⟩
      · have q2 : ¬ il c = 0 := by
          intro z
          apply q
          unfold upd
          rw [if_neg e]
          exact z
        obtain ⟨j, a, b⟩ := h3 c hc q2
        exact ⟨j, by omega, (upn j a).trans b⟩
    · rcases Nat.lt_or_ge x k with q | q
      · obtain ⟨j, a1, b1⟩ := h4 x a q c
        exact ⟨j, by omega, (upn j a1).trans b1⟩
      · have e : x = k := by omega
        subst e
        exact ⟨L, by omega, up0⟩
def nb_T (nn : Int32) (k : Nat) (lf f : Nat → Int32) : Prop := ∀ j, j < k → ∀ q, q < 59049 → lf j = nI q → f q = sp_tk nn
theorem nb_T_0 {nn : Int32} {lf f : Nat → Int32} : nb_T nn 0 lf f := fun j hj => absurd hj (by omega)
theorem nb_T_s {nn v : Int32} {k x : Nat} {lf f g : Nat → Int32} (h : nb_T nn k lf f) (hx : x < 256) (hl : lf k = nI (nb_cd x)) (hg : g = upd f (nb_cd x) v) (hv : v = sp_tk nn) : nb_T nn (k + 1) lf g := by
  intro j hj q hq e
  rw [hg]
  unfold upd
  split
  · exact hv
  · rename_i hne
    rcases Nat.lt_or_ge j k with a | a
    · exact h j a q hq e
    · have e2 : j = k := by omega
      subst e2
      exact absurd (nb_inj hq (nb_cd2 hx) (e.symm.trans hl)) hne
theorem nb_T_c {nn : Int32} {k : Nat} {lf f g : Nat → Int32} (h : nb_T nn k lf f) (hg : ∀ q, g q = f q) : nb_T nn k lf g := fun j hj q hq e => (hg q).trans (h j hj q hq e)
