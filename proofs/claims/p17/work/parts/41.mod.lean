set_option maxHeartbeats 4000000 in
set_option maxRecDepth 100000 in
theorem mX8_in (l : Launch) (dC : Nat → ClassId) (dI : Nat → Nat → Nat) (cyI cyZ : ClassId) (p0 : Int32) (p1 : Int32) (p2 : Int32) (lo : Int) (hi : Int) (hlo : p1.toInt = lo) (hhi : p2.toInt = hi) : Met l yX8_in wsX8_in ({ frames := 0, cells := 0, slots := 0, locals := 0 }) (bs_R dC dI cyI cyZ [.int p0, .int p1, .int p2] []) (vp_Si (fun r : Int32 => (r = 0 ∨ r = 1) ∧ (r = 1 → lo ≤ p0.toInt ∧ p0.toInt ≤ hi) ∧ (r = 0 → ¬ (lo ≤ p0.toInt ∧ p0.toInt ≤ hi)))) 0 0 (fun _ => False) := by
  refine Met.ofW (cc := cX8_in) (maxL := 3) (ret := (some .boolean)) (by decide) rfl ?_
  intro p e s m args below meth c s₁ B hml hv
  obtain ⟨rfl, hB, hP⟩ := hv
  have hK := hB.1
  have hN := hB.2
  have hx := B.exec
  have hb := B.bytes
  have hr := B.returns
  have hts := atoms_spec (ws := wsX8_in) B.pre
  have hown : s.vm.findClass RX8 = some m.cls := findClass_of_methodNamed B.named
  have hlocks := B.notSynchronized
  have hP : va_P (dC, dI) vwCl [] s.heap := hP
  have hl := lv_entry ([.int p0, .int p1, .int p2]) (n := 3) (Nat.le_of_ble_eq_true rfl)
  rw [lg_entry_eq]
  generalize (lg_sl ([.int p0, .int p1, .int p2]) ++ List.replicate (3 - (lg_sl ([.int p0, .int p1, .int p2])).length) Slot.unset).toArray = ls at hl ⊢
  have hl : lv_has ls 3 [(0, .int p0), (1, .int p1), (2, .int p2)] := hl
  refine lv_iload_n hx hb dX8_in_0 rfl (lv_at hl 0 rfl) ?_
  refine lv_iload_n hx hb dX8_in_1 rfl (lv_at hl 1 rfl) ?_
  refine lv_icmp_lt (tgt := 14) hx hb dX8_in_2 (by decide) (fun c_1 => ?_) (fun c_1 => ?_)
  · skip
    have ic_1 := ci_lt (rfl : Int32.toInt p0 = _) (rfl : Int32.toInt p1 = _) c_1
    refine lv_iconst (v := 0) hx hb dX8_in_14 (by decide) ?_
    exact W.zret (v := 0) hx hb hr (show narrow .boolean (.int 0) = .int 0 from rfl) (fun t ht hW => ⟨0, rfl, ⟨Or.inl rfl, fun h => absurd h (by decide), fun _ => by omega⟩, ht⟩) (fun q h => by cases h) dX8_in_15
  · skip
    have ic_1 := ci_nlt (rfl : Int32.toInt p0 = _) (rfl : Int32.toInt p1 = _) c_1
    refine lv_iload_n hx hb dX8_in_5 rfl (lv_at hl 0 rfl) ?_
    refine lv_iload_n hx hb dX8_in_6 rfl (lv_at hl 2 rfl) ?_
    refine lv_icmp_gt (tgt := 14) hx hb dX8_in_7 (by decide) (fun c_2 => ?_) (fun c_2 => ?_)
    · skip
      have ic_2 := ci_lt (rfl : Int32.toInt p2 = _) (rfl : Int32.toInt p0 = _) c_2
      refine lv_iconst (v := 0) hx hb dX8_in_14 (by decide) ?_
      exact W.zret (v := 0) hx hb hr (show narrow .boolean (.int 0) = .int 0 from rfl) (fun t ht hW => ⟨0, rfl, ⟨Or.inl rfl, fun h => absurd h (by decide), fun _ => by omega⟩, ht⟩) (fun q h => by cases h) dX8_in_15
    · skip
      have ic_2 := ci_nlt (rfl : Int32.toInt p2 = _) (rfl : Int32.toInt p0 = _) c_2
      refine lv_iconst (v := 1) hx hb dX8_in_10 (by decide) ?_
      refine lv_goto (tgt := 15) hx hb dX8_in_11 (by decide) ?_
      exact W.zret (v := 1) hx hb hr (show narrow .boolean (.int 1) = .int 1 from rfl) (fun t ht hW => ⟨1, rfl, ⟨Or.inr rfl, fun _ => ⟨by omega, by omega⟩, fun h => absurd h (by decide)⟩, ht⟩) (fun q h => by cases h) dX8_in_15

theorem hnX8_cells_X8 : ∀ w ∈ wsX80, w ∈ wsX8_cells := fun _ h => List.mem_cons_of_mem _ (List.mem_append_right _ h)
set_option maxHeartbeats 4000000 in
set_option maxRecDepth 100000 in
theorem mX8_cells (l : Launch) (dC : Nat → ClassId) (dI : Nat → Nat → Nat) (cyI cyZ : ClassId) (m0 : Nat) (st : Nat) (im : Nat) (kq : Nat) (pw : Nat) (nx : Nat) (li : Nat) (il : Nat) (mv : Nat) (so : Nat) (la : Nat) (co : Nat) (d6 : Int32) (d11 : Int32) (d12 : Int32) (n : Nat) (fs : Nat → Int32) (hn3 : 3 ≤ n) (hn : n ≤ 10) (h0f : fs 0 = nI n) : Met l yX8_cells wsX8_cells ({ frames := 0, cells := 0, slots := 0, locals := 0 }) (bs_R dC dI cyI cyZ [.ref m0] [(m0, .inr (6, [.ref st, .ref im, .ref kq, .ref pw, .ref nx, .ref li, .int d6, .ref il, .ref mv, .ref so, .ref la, .int d11, .int d12, .ref co])), (st, .inl (cyI, 72, .inl fs))]) (vp_Si (fun r : Int32 => r = nI n)) 0 0 (fun _ => False) := by
  refine Met.ofW (cc := cX8_cells) (maxL := 1) (ret := (some .int)) (by decide) rfl ?_
  intro p e s m args below meth c s₁ B hml hv
  obtain ⟨rfl, hB, hP⟩ := hv
  have hK := hB.1
  have hN := hB.2
  have hx := B.exec
  have hb := B.bytes
  have hr := B.returns
  have hts := atoms_spec (ws := wsX8_cells) B.pre
  have hown : s.vm.findClass RX8 = some m.cls := findClass_of_methodNamed B.named
  have hlocks := B.notSynchronized
  have hP : va_P (dC, dI) vwCl [(m0, .inr (6, [.ref st, .ref im, .ref kq, .ref pw, .ref nx, .ref li, .int d6, .ref il, .ref mv, .ref so, .ref la, .int d11, .int d12, .ref co])), (st, .inl (cyI, 72, .inl fs))] s.heap := hP
  have hl := lv_entry ([.ref m0]) (n := 1) (Nat.le_of_ble_eq_true rfl)
  rw [lg_entry_eq]
  generalize (lg_sl ([.ref m0]) ++ List.replicate (1 - (lg_sl ([.ref m0])).length) Slot.unset).toArray = ls at hl ⊢
  have hl : lv_has ls 1 [(0, .ref m0)] := hl
  refine lv_aload_n hx hb dX8_cells_0 rfl (lv_at hl 0 rfl) ?_
  refine va_get (D := (dC, dI)) (ci := 6) (v := .ref st) (C := RX8) (T := TX8) (N := 14) hx hb hts hnX8_cells_X8 hown hK hP 0 rfl rfl 0 (by decide) (hts (.fieldLink RX8 7 "RingMeetsModel" "state" "[I") (by decide +kernel)) (fun _ h9 => h9) rfl dX8_cells_1 ?_
  refine lv_iconst (v := 0) hx hb dX8_cells_4 (by decide) ?_
  refine va_iald (D := (dC, dI)) hx hb hK hP 1 0 rfl rfl (show vp_in 0 72 from vp_in_nI (n := 0) (N := 72) (by decide) (by decide)) dX8_cells_5 ?_
  refine lv_topi (fun x_1 ex_1 => ?_)
  have ex_1 : x_1 = fs 0 := ex_1
  obtain rfl : (nI n) = x_1 := (ex_1.trans (h0f)).symm
  exact W.iret (v := (nI n)) hx hb hr (fun t ht hW => ⟨(nI n), rfl, rfl, ht⟩) (fun q h => by cases h) dX8_cells_6

set_option maxHeartbeats 4000000 in
set_option maxRecDepth 100000 in
theorem mX8_isCell (l : Launch) (dC : Nat → ClassId) (dI : Nat → Nat → Nat) (cyI cyZ : ClassId) (m0 : Nat) (st : Nat) (im : Nat) (kq : Nat) (pw : Nat) (nx : Nat) (li : Nat) (il : Nat) (mv : Nat) (so : Nat) (la : Nat) (co : Nat) (d6 : Int32) (d11 : Int32) (d12 : Int32) (n : Nat) (fs : Nat → Int32) (p1 : Int32) (hn3 : 3 ≤ n) (hn : n ≤ 10) (h0f : fs 0 = nI n) : Met l yX8_isCell wsX8_isCell ({ frames := 1, cells := 0, slots := 0, locals := 22 }) (bs_R dC dI cyI cyZ [.ref m0, .int p1] [(m0, .inr (6, [.ref st, .ref im, .ref kq, .ref pw, .ref nx, .ref li, .int d6, .ref il, .ref mv, .ref so, .ref la, .int d11, .int d12, .ref co])), (st, .inl (cyI, 72, .inl fs))]) (vp_Si (fun r : Int32 => (r = 0 ∨ r = 1) ∧ (r = 1 → ∃ j, j < n ∧ p1 = nI j))) 0 0 (fun _ => False) := by
  refine Met.ofW (cc := cX8_isCell) (maxL := 2) (ret := (some .boolean)) (by decide) rfl ?_
  intro p e s m args below meth c s₁ B hml hv
  obtain ⟨rfl, hB, hP⟩ := hv
  have hK := hB.1
  have hN := hB.2
  have hx := B.exec
  have hb := B.bytes
  have hr := B.returns
  have hts := atoms_spec (ws := wsX8_isCell) B.pre
  have hown : s.vm.findClass RX8 = some m.cls := findClass_of_methodNamed B.named
  have hlocks := B.notSynchronized
  have hP : va_P (dC, dI) vwCl [(m0, .inr (6, [.ref st, .ref im, .ref kq, .ref pw, .ref nx, .ref li, .int d6, .ref il, .ref mv, .ref so, .ref la, .int d11, .int d12, .ref co])), (st, .inl (cyI, 72, .inl fs))] s.heap := hP
  have hl := lv_entry ([.ref m0, .int p1]) (n := 2) (Nat.le_of_ble_eq_true rfl)
  rw [lg_entry_eq]
  generalize (lg_sl ([.ref m0, .int p1]) ++ List.replicate (2 - (lg_sl ([.ref m0, .int p1])).length) Slot.unset).toArray = ls at hl ⊢
  have hl : lv_has ls 2 [(0, .ref m0), (1, .int p1)] := hl
  refine lv_iload_n hx hb dX8_isCell_0 rfl (lv_at hl 1 rfl) ?_
  refine lv_iconst (v := 0) hx hb dX8_isCell_1 (by decide) ?_
  refine lv_aload_n hx hb dX8_isCell_2 rfl (lv_at hl 0 rfl) ?_
  refine vp_callSi (va_Run.run (va_runV (As := []) (rest := [.int 0, .int p1]) ⟨hx, hb, hml, hown, hts⟩ (mX8_cells l dC dI cyI cyZ m0 st im kq pw nx li il mv so la co d6 d11 d12 n fs hn3 hn h0f) (cwV 0 hts gX8_isCell_X8_cells rfl rfl rfl (by decide +kernel) ⟨Nat.le_of_ble_eq_true rfl, Nat.le_of_ble_eq_true rfl⟩) (bs_RV hB (hP.sub (ws' := [(m0, .inr (6, [.ref st, .ref im, .ref kq, .ref pw, .ref nx, .ref li, .int d6, .ref il, .ref mv, .ref so, .ref la, .int d11, .int d12, .ref co])), (st, .inl (cyI, 72, .inl fs))]) [0, 1] rfl) 0 rfl rfl) rfl rfl hl.1 rfl (lv_room (Nat.le_of_ble_eq_true rfl)) dX8_isCell_3 ⟨Nat.le_of_ble_eq_true rfl, Nat.le_of_ble_eq_true rfl⟩)) (fun r_1 hr_1 => ?_)
  obtain rfl : (nI n) = r_1 := Eq.symm hr_1
  refine lv_iconst (v := 1) hx hb dX8_isCell_6 (by decide) ?_
  refine lv_isub hx hb dX8_isCell_7 ?_
  refine lv_topi (fun x_2 ex_2 => ?_)
  obtain rfl : (nI (n - 1)) = x_2 := (ex_2.trans (nb_sub (a := n) (b := 1) (by omega))).symm
  refine vp_callSi (va_Run.run (va_runS (As := [.int p1, .int 0, .int (nI (n - 1))]) (rest := []) ⟨hx, hb, hml, hown, hts⟩ (mX8_in l dC dI cyI cyZ p1 0 (nI (n - 1)) 0 (((n - 1) : Nat) : Int) (by decide) (nI_toInt (by omega))) (va_cwS 3 hts gX8_isCell_X8_in rfl rfl rfl (by decide +kernel) ⟨Nat.le_of_ble_eq_true rfl, Nat.le_of_ble_eq_true rfl⟩) (bs_RS hB (hP.sub (ws' := []) [] rfl)) rfl rfl hl.1 rfl (lv_room (Nat.le_of_ble_eq_true rfl)) dX8_isCell_8 ⟨Nat.le_of_ble_eq_true rfl, Nat.le_of_ble_eq_true rfl⟩)) (fun r_3 hr_3 => ?_)
  exact W.zret (v := r_3) hx hb hr (show narrow .boolean (.int r_3) = .int r_3 from nb_nar hr_3.1) (fun t ht hW => ⟨r_3, rfl, ⟨hr_3.1, fun q => by have h9 := hr_3.2.1 q; exact nb_ofl (by omega) (by omega)⟩, ht⟩) (fun q h => by cases h) dX8_isCell_11

theorem hnX8_isStand_X8 : ∀ w ∈ wsX80, w ∈ wsX8_isStand := fun _ h => List.mem_cons_of_mem _ (List.mem_append_right _ h)
set_option maxHeartbeats 4000000 in
set_option maxRecDepth 100000 in
theorem mX8_isStand (l : Launch) (dC : Nat → ClassId) (dI : Nat → Nat → Nat) (cyI cyZ : ClassId) (m0 : Nat) (st : Nat) (im : Nat) (kq : Nat) (pw : Nat) (nx : Nat) (li : Nat) (il : Nat) (mv : Nat) (so : Nat) (la : Nat) (co : Nat) (d6 : Int32) (d11 : Int32) (d12 : Int32) (n : Nat) (fs : Nat → Int32) (wq : Nat → Nat) (p1 : Int32) (hn3 : 3 ≤ n) (hn : n ≤ 10) (h0f : fs 0 = nI n) (hwk : ∀ j, j < 10 → fs (1 + j) = nI (wq j)) (hws : mn_sum wq 10 ≤ 5) : Met l yX8_isStand wsX8_isStand ({ frames := 2, cells := 0, slots := 0, locals := 43 }) (bs_R dC dI cyI cyZ [.ref m0, .int p1] [(m0, .inr (6, [.ref st, .ref im, .ref kq, .ref pw, .ref nx, .ref li, .int d6, .ref il, .ref mv, .ref so, .ref la, .int d11, .int d12, .ref co])), (st, .inl (cyI, 72, .inl fs))]) (vp_Si (fun r : Int32 => (r = 0 ∨ r = 1) ∧ (r = 1 → ∃ j, j < n ∧ p1 = nI j ∧ 0 < wq j))) 0 0 (fun _ => False) := by
  refine Met.ofW (cc := cX8_isStand) (maxL := 2) (ret := (some .boolean)) (by decide) rfl ?_
  intro p e s m args below meth c s₁ B hml hv
  obtain ⟨rfl, hB, hP⟩ := hv
  have hK := hB.1
  have hN := hB.2
  have hx := B.exec
  have hb := B.bytes
  have hr := B.returns
  have hts := atoms_spec (ws := wsX8_isStand) B.pre
  have hown : s.vm.findClass RX8 = some m.cls := findClass_of_methodNamed B.named
  have hlocks := B.notSynchronized
  have hP : va_P (dC, dI) vwCl [(m0, .inr (6, [.ref st, .ref im, .ref kq, .ref pw, .ref nx, .ref li, .int d6, .ref il, .ref mv, .ref so, .ref la, .int d11, .int d12, .ref co])), (st, .inl (cyI, 72, .inl fs))] s.heap := hP
  have hl := lv_entry ([.ref m0, .int p1]) (n := 2) (Nat.le_of_ble_eq_true rfl)
  rw [lg_entry_eq]
  generalize (lg_sl ([.ref m0, .int p1]) ++ List.replicate (2 - (lg_sl ([.ref m0, .int p1])).length) Slot.unset).toArray = ls at hl ⊢
  have hl : lv_has ls 2 [(0, .ref m0), (1, .int p1)] := hl
  refine lv_aload_n hx hb dX8_isStand_0 rfl (lv_at hl 0 rfl) ?_
  refine lv_iload_n hx hb dX8_isStand_1 rfl (lv_at hl 1 rfl) ?_
  refine vp_callSi (va_Run.run (va_runV (As := [.int p1]) (rest := []) ⟨hx, hb, hml, hown, hts⟩ (mX8_isCell l dC dI cyI cyZ m0 st im kq pw nx li il mv so la co d6 d11 d12 n fs p1 hn3 hn h0f) (cwV 1 hts gX8_isStand_X8_isCell rfl rfl rfl (by decide +kernel) ⟨Nat.le_of_ble_eq_true rfl, Nat.le_of_ble_eq_true rfl⟩) (bs_RV hB (hP.sub (ws' := [(m0, .inr (6, [.ref st, .ref im, .ref kq, .ref pw, .ref nx, .ref li, .int d6, .ref il, .ref mv, .ref so, .ref la, .int d11, .int d12, .ref co])), (st, .inl (cyI, 72, .inl fs))]) [0, 1] rfl) 0 rfl rfl) rfl rfl hl.1 rfl (lv_room (Nat.le_of_ble_eq_true rfl)) dX8_isStand_2 ⟨Nat.le_of_ble_eq_true rfl, Nat.le_of_ble_eq_true rfl⟩)) (fun r_1 hr_1 => ?_)
  refine lv_if_eq (tgt := 23) hx hb dX8_isStand_5 (by decide) (fun c_2 => ?_) (fun c_2 => ?_)
  · skip
    have ic_2 := ci_eq (rfl : Int32.toInt r_1 = _) (show Int32.toInt 0 = 0 by decide) c_2
    refine lv_iconst (v := 0) hx hb dX8_isStand_23 (by decide) ?_
    exact W.zret (v := 0) hx hb hr (show narrow .boolean (.int 0) = .int 0 from rfl) (fun t ht hW => ⟨0, rfl, ⟨Or.inl rfl, fun h => absurd h (by decide)⟩, ht⟩) (fun q h => by cases h) dX8_isStand_24
  · skip
    have ic_2 := ci_ne (rfl : Int32.toInt r_1 = _) (show Int32.toInt 0 = 0 by decide) c_2
    obtain ⟨a9, la9, ea9⟩ := hr_1.2 (hr_1.1.resolve_left c_2)
    subst ea9
    have hwj := mn_sum_le wq (j := a9) (k := 10) (by omega)
    refine lv_aload_n hx hb dX8_isStand_8 rfl (lv_at hl 0 rfl) ?_
    refine va_get (D := (dC, dI)) (ci := 6) (v := .ref st) (C := RX8) (T := TX8) (N := 14) hx hb hts hnX8_isStand_X8 hown hK hP 0 rfl rfl 0 (by decide) (hts (.fieldLink RX8 7 "RingMeetsModel" "state" "[I") (by decide +kernel)) (fun _ h9 => h9) rfl dX8_isStand_9 ?_
    refine lv_iconst (v := 1) hx hb dX8_isStand_12 (by decide) ?_
    refine lv_iload_n hx hb dX8_isStand_13 rfl (lv_at hl 1 rfl) ?_
    refine lv_iadd hx hb dX8_isStand_14 ?_
    refine lv_topi (fun x_3 ex_3 => ?_)
    obtain rfl : (nI (1 + a9)) = x_3 := (ex_3.trans (nI_add 1 _)).symm
    refine va_iald (D := (dC, dI)) hx hb hK hP 1 0 rfl rfl (vp_in_nI (n := (1 + a9)) (N := 72) (by omega) (by omega)) dX8_isStand_15 ?_
    refine lv_topi (fun x_4 ex_4 => ?_)
    rw [nI_clamp (n := (1 + a9)) (by omega)] at ex_4
    obtain rfl : (nI (wq a9)) = x_4 := (ex_4.trans (hwk _ (by omega))).symm
    refine lv_if_le (tgt := 23) hx hb dX8_isStand_16 (by decide) (fun c_5 => ?_) (fun c_5 => ?_)
    · skip
      have ic_5 := ci_le (nI_toInt (n := (wq a9)) (by omega)) (show Int32.toInt 0 = 0 by decide) c_5
      refine lv_iconst (v := 0) hx hb dX8_isStand_23 (by decide) ?_
      exact W.zret (v := 0) hx hb hr (show narrow .boolean (.int 0) = .int 0 from rfl) (fun t ht hW => ⟨0, rfl, ⟨Or.inl rfl, fun h => absurd h (by decide)⟩, ht⟩) (fun q h => by cases h) dX8_isStand_24
    · skip
      have ic_5 := ci_nle (nI_toInt (n := (wq a9)) (by omega)) (show Int32.toInt 0 = 0 by decide) c_5
      refine lv_iconst (v := 1) hx hb dX8_isStand_19 (by decide) ?_
      refine lv_goto (tgt := 24) hx hb dX8_isStand_20 (by decide) ?_
      exact W.zret (v := 1) hx hb hr (show narrow .boolean (.int 1) = .int 1 from rfl) (fun t ht hW => ⟨1, rfl, ⟨Or.inr rfl, fun _ => ⟨a9, la9, rfl, by omega⟩⟩, ht⟩) (fun q h => by cases h) dX8_isStand_24

theorem hnX8_isRule_X8 : ∀ w ∈ wsX80, w ∈ wsX8_isRule := fun _ h => List.mem_cons_of_mem _ (List.mem_append_right _ h)
set_option maxHeartbeats 4000000 in
set_option maxRecDepth 100000 in
theorem mX8_isRule (l : Launch) (dC : Nat → ClassId) (dI : Nat → Nat → Nat) (cyI cyZ : ClassId) (m0 : Nat) (st : Nat) (im : Nat) (kq : Nat) (pw : Nat) (nx : Nat) (li : Nat) (il : Nat) (mv : Nat) (so : Nat) (la : Nat) (co : Nat) (d6 : Int32) (d11 : Int32) (d12 : Int32) (zz : Nat) (fs : Nat → Int32) (p1 : Int32) (hzf : fs 11 = nI zz) (hz10 : zz ≤ 10) : Met l yX8_isRule wsX8_isRule ({ frames := 1, cells := 0, slots := 0, locals := 22 }) (bs_R dC dI cyI cyZ [.ref m0, .int p1] [(m0, .inr (6, [.ref st, .ref im, .ref kq, .ref pw, .ref nx, .ref li, .int d6, .ref il, .ref mv, .ref so, .ref la, .int d11, .int d12, .ref co])), (st, .inl (cyI, 72, .inl fs))]) (vp_Si (fun r : Int32 => (r = 0 ∨ r = 1) ∧ (r = 1 → ∃ j, j < zz ∧ p1 = nI j) ∧ (r = 0 → ¬ (0 ≤ p1.toInt ∧ p1.toInt < zz)))) 0 0 (fun _ => False) := by
  refine Met.ofW (cc := cX8_isRule) (maxL := 2) (ret := (some .boolean)) (by decide) rfl ?_
  intro p e s m args below meth c s₁ B hml hv
  obtain ⟨rfl, hB, hP⟩ := hv
  have hK := hB.1
  have hN := hB.2
  have hx := B.exec
  have hb := B.bytes
  have hr := B.returns
  have hts := atoms_spec (ws := wsX8_isRule) B.pre
  have hown : s.vm.findClass RX8 = some m.cls := findClass_of_methodNamed B.named
  have hlocks := B.notSynchronized
  have hP : va_P (dC, dI) vwCl [(m0, .inr (6, [.ref st, .ref im, .ref kq, .ref pw, .ref nx, .ref li, .int d6, .ref il, .ref mv, .ref so, .ref la, .int d11, .int d12, .ref co])), (st, .inl (cyI, 72, .inl fs))] s.heap := hP
  have hl := lv_entry ([.ref m0, .int p1]) (n := 2) (Nat.le_of_ble_eq_true rfl)
  rw [lg_entry_eq]
  generalize (lg_sl ([.ref m0, .int p1]) ++ List.replicate (2 - (lg_sl ([.ref m0, .int p1])).length) Slot.unset).toArray = ls at hl ⊢
  have hl : lv_has ls 2 [(0, .ref m0), (1, .int p1)] := hl
  refine lv_iload_n hx hb dX8_isRule_0 rfl (lv_at hl 1 rfl) ?_
  refine lv_iconst (v := 0) hx hb dX8_isRule_1 (by decide) ?_
  refine lv_aload_n hx hb dX8_isRule_2 rfl (lv_at hl 0 rfl) ?_
  refine va_get (D := (dC, dI)) (ci := 6) (v := .ref st) (C := RX8) (T := TX8) (N := 14) hx hb hts hnX8_isRule_X8 hown hK hP 0 rfl rfl 0 (by decide) (hts (.fieldLink RX8 7 "RingMeetsModel" "state" "[I") (by decide +kernel)) (fun _ h9 => h9) rfl dX8_isRule_3 ?_
  refine lv_bipush (v := 11) hx hb dX8_isRule_6 (by decide) ?_
  refine va_iald (D := (dC, dI)) hx hb hK hP 1 0 rfl rfl (show vp_in 11 72 from vp_in_nI (n := 11) (N := 72) (by decide) (by decide)) dX8_isRule_8 ?_
  refine lv_topi (fun x_1 ex_1 => ?_)
  have ex_1 : x_1 = fs 11 := ex_1
  obtain rfl : (nI zz) = x_1 := (ex_1.trans (hzf)).symm
  refine lv_iconst (v := 1) hx hb dX8_isRule_9 (by decide) ?_
  refine lv_isub hx hb dX8_isRule_10 ?_
  refine lv_topi (fun x_2 ex_2 => ?_)
  refine vp_callSi (va_Run.run (va_runS (As := [.int p1, .int 0, .int x_2]) (rest := []) ⟨hx, hb, hml, hown, hts⟩ (mX8_in l dC dI cyI cyZ p1 0 x_2 0 ((zz : Int) - 1) (by decide) (by rw [ex_2]; exact mn_pm1 hz10)) (va_cwS 3 hts gX8_isRule_X8_in rfl rfl rfl (by decide +kernel) ⟨Nat.le_of_ble_eq_true rfl, Nat.le_of_ble_eq_true rfl⟩) (bs_RS hB (hP.sub (ws' := []) [] rfl)) rfl rfl hl.1 rfl (lv_room (Nat.le_of_ble_eq_true rfl)) dX8_isRule_11 ⟨Nat.le_of_ble_eq_true rfl, Nat.le_of_ble_eq_true rfl⟩)) (fun r_3 hr_3 => ?_)
  exact W.zret (v := r_3) hx hb hr (show narrow .boolean (.int r_3) = .int r_3 from nb_nar hr_3.1) (fun t ht hW => ⟨r_3, rfl, ⟨hr_3.1, fun q => (by have h9 := hr_3.2.1 q; exact nb_ofl (by omega) (by omega)), fun q => (by have h9 := hr_3.2.2 q; omega)⟩, ht⟩) (fun q h => by cases h) dX8_isRule_14

set_option maxHeartbeats 4000000 in
set_option maxRecDepth 100000 in
theorem mX8_isSchedule (l : Launch) (dC : Nat → ClassId) (dI : Nat → Nat → Nat) (cyI cyZ : ClassId) (p0 : Int32)  : Met l yX8_isSchedule wsX8_isSchedule ({ frames := 1, cells := 0, slots := 0, locals := 22 }) (bs_R dC dI cyI cyZ [.int p0] []) (vp_Si (fun r : Int32 => r = 0 ∨ r = 1)) 0 0 (fun _ => False) := by
  refine Met.ofW (cc := cX8_isSchedule) (maxL := 1) (ret := (some .boolean)) (by decide) rfl ?_
  intro p e s m args below meth c s₁ B hml hv
  obtain ⟨rfl, hB, hP⟩ := hv
  have hK := hB.1
  have hN := hB.2
  have hx := B.exec
  have hb := B.bytes
  have hr := B.returns
  have hts := atoms_spec (ws := wsX8_isSchedule) B.pre
  have hown : s.vm.findClass RX8 = some m.cls := findClass_of_methodNamed B.named
  have hlocks := B.notSynchronized
  have hP : va_P (dC, dI) vwCl [] s.heap := hP
  have hl := lv_entry ([.int p0]) (n := 1) (Nat.le_of_ble_eq_true rfl)
  rw [lg_entry_eq]
  generalize (lg_sl ([.int p0]) ++ List.replicate (1 - (lg_sl ([.int p0])).length) Slot.unset).toArray = ls at hl ⊢
  have hl : lv_has ls 1 [(0, .int p0)] := hl
  refine lv_iload_n hx hb dX8_isSchedule_0 rfl (lv_at hl 0 rfl) ?_
  refine lv_iconst (v := 0) hx hb dX8_isSchedule_1 (by decide) ?_
  refine lv_iconst (v := 2) hx hb dX8_isSchedule_2 (by decide) ?_
  refine vp_callSi (va_Run.run (va_runS (As := [.int p0, .int 0, .int 2]) (rest := []) ⟨hx, hb, hml, hown, hts⟩ (mX8_in l dC dI cyI cyZ p0 0 2 0 2 (by decide) (by decide)) (va_cwS 3 hts gX8_isSchedule_X8_in rfl rfl rfl (by decide +kernel) ⟨Nat.le_of_ble_eq_true rfl, Nat.le_of_ble_eq_true rfl⟩) (bs_RS hB (hP.sub (ws' := []) [] rfl)) rfl rfl hl.1 rfl (lv_room (Nat.le_of_ble_eq_true rfl)) dX8_isSchedule_3 ⟨Nat.le_of_ble_eq_true rfl, Nat.le_of_ble_eq_true rfl⟩)) (fun r_1 hr_1 => ?_)
  exact W.zret (v := r_1) hx hb hr (show narrow .boolean (.int r_1) = .int r_1 from nb_nar hr_1.1) (fun t ht hW => ⟨r_1, rfl, hr_1.1, ht⟩) (fun q h => by cases h) dX8_isSchedule_6

theorem hnX8_walkers_X8 : ∀ w ∈ wsX80, w ∈ wsX8_walkers := fun _ h => List.mem_cons_of_mem _ (List.mem_append_right _ h)
set_option maxHeartbeats 4000000 in
set_option maxRecDepth 100000 in
theorem mX8_walkers (l : Launch) (dC : Nat → ClassId) (dI : Nat → Nat → Nat) (cyI cyZ : ClassId) (m0 : Nat) (st : Nat) (im : Nat) (kq : Nat) (pw : Nat) (nx : Nat) (li : Nat) (il : Nat) (mv : Nat) (so : Nat) (la : Nat) (co : Nat) (d6 : Int32) (d11 : Int32) (d12 : Int32) (fs : Nat → Int32) (wq : Nat → Nat) (hwk : ∀ j, j < 10 → fs (1 + j) = nI (wq j)) (hws : mn_sum wq 10 ≤ 5) : Met l yX8_walkers wsX8_walkers ({ frames := 0, cells := 0, slots := 0, locals := 0 }) (bs_R dC dI cyI cyZ [.ref m0] [(m0, .inr (6, [.ref st, .ref im, .ref kq, .ref pw, .ref nx, .ref li, .int d6, .ref il, .ref mv, .ref so, .ref la, .int d11, .int d12, .ref co])), (st, .inl (cyI, 72, .inl fs))]) (vp_Si (fun r : Int32 => r = nI (mn_sum wq 10))) 0 0 (fun _ => False) := by
  refine Met.ofW (cc := cX8_walkers) (maxL := 3) (ret := (some .int)) (by decide) rfl ?_
  intro p e s m args below meth c s₁ B hml hv
  obtain ⟨rfl, hB, hP⟩ := hv
  have hK := hB.1
  have hN := hB.2
  have hx := B.exec
  have hb := B.bytes
  have hr := B.returns
  have hts := atoms_spec (ws := wsX8_walkers) B.pre
  have hown : s.vm.findClass RX8 = some m.cls := findClass_of_methodNamed B.named
  have hlocks := B.notSynchronized
  have hP : va_P (dC, dI) vwCl [(m0, .inr (6, [.ref st, .ref im, .ref kq, .ref pw, .ref nx, .ref li, .int d6, .ref il, .ref mv, .ref so, .ref la, .int d11, .int d12, .ref co])), (st, .inl (cyI, 72, .inl fs))] s.heap := hP
  have hl := lv_entry ([.ref m0]) (n := 3) (Nat.le_of_ble_eq_true rfl)
  rw [lg_entry_eq]
  generalize (lg_sl ([.ref m0]) ++ List.replicate (3 - (lg_sl ([.ref m0])).length) Slot.unset).toArray = ls at hl ⊢
  have hl : lv_has ls 3 [(0, .ref m0)] := hl
  refine lv_iconst (v := 0) hx hb dX8_walkers_0 (by decide) ?_
  refine lv_istore_n (lv' := [(1, .int 0), (0, .ref m0)]) hx hb dX8_walkers_1 rfl hl (by decide) rfl (fun ls hl => ?_)
  refine lv_iconst (v := 0) hx hb dX8_walkers_2 (by decide) ?_
  refine lv_istore_n (lv' := [(2, .int 0), (1, .int 0), (0, .ref m0)]) hx hb dX8_walkers_3 rfl hl (by decide) rfl (fun ls hl => ?_)
  have L4 : ∀ (n4 : Nat), ∀ (k : Nat), (0 ≤ k ∧ k ≤ 10) → (10 + 1 ≤ k + n4) → ∀ (ls : Array Slot), lv_has ls 3 [(0, .ref m0), (1, .int (nI (mn_sum wq k))), (2, .int (nI k))] → W p l e (headSpec wsX8_walkers ({ frames := 0, cells := 0, slots := 0, locals := 0 })).room s m ([.ref m0] : List Value).toArray below meth c s.heap [] 0 0 (MQ below (vp_Si (fun r : Int32 => r = nI (mn_sum wq 10))) ([.ref m0] : List Value).toArray s 0 0 (fun _ => False)) (F0 m 4 ls []) := by
    intro n4
    induction n4 with
    | zero =>
      intro k hk4 hn4 ls hl
      exfalso
      omega
    | succ n4 ih4 =>
      intro k hk4 hn4 ls hl
      refine lv_iload_n hx hb dX8_walkers_4 rfl (lv_at hl 2 rfl) ?_
      refine lv_bipush (v := 10) hx hb dX8_walkers_5 (by decide) ?_
      refine lv_icmp_ge (tgt := 27) hx hb dX8_walkers_7 (by decide) (fun c_1 => ?_) (fun c_1 => ?_)
      · skip
        have ic_1 := ci_le (show Int32.toInt 10 = 10 by decide) (nI_toInt (n := k) (by omega)) c_1
        refine lv_iload_n hx hb dX8_walkers_27 rfl (lv_at hl 1 rfl) ?_
        exact W.iret (v := (nI (mn_sum wq k))) hx hb hr (fun t ht hW => ⟨(nI (mn_sum wq k)), rfl, (by rw [show k = 10 by omega]), ht⟩) (fun q h => by cases h) dX8_walkers_28
      · skip
        have ic_1 := ci_nle (show Int32.toInt 10 = 10 by decide) (nI_toInt (n := k) (by omega)) c_1
        refine lv_iload_n hx hb dX8_walkers_10 rfl (lv_at hl 1 rfl) ?_
        refine lv_aload_n hx hb dX8_walkers_11 rfl (lv_at hl 0 rfl) ?_
        refine va_get (D := (dC, dI)) (ci := 6) (v := .ref st) (C := RX8) (T := TX8) (N := 14) hx hb hts hnX8_walkers_X8 hown hK hP 0 rfl rfl 0 (by decide) (hts (.fieldLink RX8 7 "RingMeetsModel" "state" "[I") (by decide +kernel)) (fun _ h9 => h9) rfl dX8_walkers_12 ?_
        refine lv_iconst (v := 1) hx hb dX8_walkers_15 (by decide) ?_
        refine lv_iload_n hx hb dX8_walkers_16 rfl (lv_at hl 2 rfl) ?_
        refine lv_iadd hx hb dX8_walkers_17 ?_
        refine lv_topi (fun x_2 ex_2 => ?_)
        obtain rfl : (nI (1 + k)) = x_2 := (ex_2.trans (nI_add 1 _)).symm
        refine va_iald (D := (dC, dI)) hx hb hK hP 1 0 rfl rfl (vp_in_nI (n := (1 + k)) (N := 72) (by omega) (by omega)) dX8_walkers_18 ?_
        refine lv_topi (fun x_3 ex_3 => ?_)
        rw [nI_clamp (n := (1 + k)) (by omega)] at ex_3
        obtain rfl : (nI (wq k)) = x_3 := (ex_3.trans (hwk _ (by omega))).symm
        refine lv_iadd hx hb dX8_walkers_19 ?_
        refine lv_topi (fun x_4 ex_4 => ?_)
        obtain rfl : (nI (mn_sum wq (k + 1))) = x_4 := (ex_4.trans (nI_add _ _)).symm
        refine lv_istore_n (lv' := [(1, .int (nI (mn_sum wq (k + 1)))), (0, .ref m0), (2, .int (nI k))]) hx hb dX8_walkers_20 rfl hl (by decide) rfl (fun ls hl => ?_)
        refine lv_iinc (v := (nI (k + 1))) (lv' := [(2, .int (nI (k + 1))), (1, .int (nI (mn_sum wq (k + 1)))), (0, .ref m0)]) hx hb dX8_walkers_21 hl (k := 2) rfl (nI_1 _) (by decide) rfl (fun ls hl => ?_)
        refine lv_goto (tgt := 4) hx hb dX8_walkers_24 (by decide) ?_
        exact ih4 (k + 1)  ⟨by omega, by omega⟩ (by omega)  _ (lv_sub hl [2, 1, 0] rfl)
  exact L4 (10 + 1) 0  ⟨by omega, by omega⟩ (by omega)  _ (lv_sub hl [2, 1, 0] rfl)

set_option maxHeartbeats 4000000 in
set_option maxRecDepth 100000 in
theorem mX8_size (l : Launch) (dC : Nat → ClassId) (dI : Nat → Nat → Nat) (cyI cyZ : ClassId) (p0 : Int32)  : Met l yX8_size wsX8_size ({ frames := 0, cells := 0, slots := 0, locals := 0 }) (bs_R dC dI cyI cyZ [.int p0] []) (vp_Si (fun r : Int32 => ∃ v : Nat, v ≤ 10 ∧ r = nI v)) 0 0 (fun _ => False) := by
  refine Met.ofW (cc := cX8_size) (maxL := 3) (ret := (some .int)) (by decide) rfl ?_
  intro p e s m args below meth c s₁ B hml hv
  obtain ⟨rfl, hB, hP⟩ := hv
  have hK := hB.1
  have hN := hB.2
  have hx := B.exec
  have hb := B.bytes
  have hr := B.returns
  have hts := atoms_spec (ws := wsX8_size) B.pre
  have hown : s.vm.findClass RX8 = some m.cls := findClass_of_methodNamed B.named
  have hlocks := B.notSynchronized
  have hP : va_P (dC, dI) vwCl [] s.heap := hP
  have hl := lv_entry ([.int p0]) (n := 3) (Nat.le_of_ble_eq_true rfl)
  rw [lg_entry_eq]
  generalize (lg_sl ([.int p0]) ++ List.replicate (3 - (lg_sl ([.int p0])).length) Slot.unset).toArray = ls at hl ⊢
  have hl : lv_has ls 3 [(0, .int p0)] := hl
  refine lv_iconst (v := 0) hx hb dX8_size_0 (by decide) ?_
  refine lv_istore_n (lv' := [(1, .int 0), (0, .int p0)]) hx hb dX8_size_1 rfl hl (by decide) rfl (fun ls hl => ?_)
  refine lv_iconst (v := 0) hx hb dX8_size_2 (by decide) ?_
  refine lv_istore_n (lv' := [(2, .int 0), (1, .int 0), (0, .int p0)]) hx hb dX8_size_3 rfl hl (by decide) rfl (fun ls hl => ?_)
  have L4 : ∀ (n4 : Nat), ∀ (k : Nat), (0 ≤ k ∧ k ≤ 10) → (10 + 1 ≤ k + n4) → ∀ (ls : Array Slot), lv_has ls 3 [(0, .int p0), (1, .int (nb_sz p0 k)), (2, .int (nI k))] → W p l e (headSpec wsX8_size ({ frames := 0, cells := 0, slots := 0, locals := 0 })).room s m ([.int p0] : List Value).toArray below meth c s.heap [] 0 0 (MQ below (vp_Si (fun r : Int32 => ∃ v : Nat, v ≤ 10 ∧ r = nI v)) ([.int p0] : List Value).toArray s 0 0 (fun _ => False)) (F0 m 4 ls []) := by
    intro n4
    induction n4 with
    | zero =>
      intro k hk4 hn4 ls hl
      exfalso
      omega
    | succ n4 ih4 =>
      intro k hk4 hn4 ls hl
      refine lv_iload_n hx hb dX8_size_4 rfl (lv_at hl 2 rfl) ?_
      refine lv_bipush (v := 10) hx hb dX8_size_5 (by decide) ?_
      refine lv_icmp_ge (tgt := 24) hx hb dX8_size_7 (by decide) (fun c_1 => ?_) (fun c_1 => ?_)
      · skip
        have ic_1 := ci_le (show Int32.toInt 10 = 10 by decide) (nI_toInt (n := k) (by omega)) c_1
        refine lv_iload_n hx hb dX8_size_24 rfl (lv_at hl 1 rfl) ?_
        exact W.iret (v := (nb_sz p0 k)) hx hb hr (fun t ht hW => ⟨(nb_sz p0 k), rfl, (by rw [show k = 10 by omega]; exact mn_sz p0 10 (by decide)), ht⟩) (fun q h => by cases h) dX8_size_25
      · skip
        have ic_1 := ci_nle (show Int32.toInt 10 = 10 by decide) (nI_toInt (n := k) (by omega)) c_1
        refine lv_iload_n hx hb dX8_size_10 rfl (lv_at hl 1 rfl) ?_
        refine lv_iload_n hx hb dX8_size_11 rfl (lv_at hl 0 rfl) ?_
        refine lv_iload_n hx hb dX8_size_12 rfl (lv_at hl 2 rfl) ?_
        refine lv_ishr hx hb dX8_size_13 ?_
        refine lv_topi (fun x_2 ex_2 => ?_)
        refine lv_iconst (v := 1) hx hb dX8_size_14 (by decide) ?_
        refine lv_iand hx hb dX8_size_15 ?_
        refine lv_topi (fun x_3 ex_3 => ?_)
        refine lv_iadd hx hb dX8_size_16 ?_
        refine lv_topi (fun x_4 ex_4 => ?_)
        obtain rfl : (nb_sz p0 (k + 1)) = x_4 := (ex_4.trans (by rw [ex_3, ex_2]; rfl)).symm
        refine lv_istore_n (lv' := [(1, .int (nb_sz p0 (k + 1))), (0, .int p0), (2, .int (nI k))]) hx hb dX8_size_17 rfl hl (by decide) rfl (fun ls hl => ?_)
        refine lv_iinc (v := (nI (k + 1))) (lv' := [(2, .int (nI (k + 1))), (1, .int (nb_sz p0 (k + 1))), (0, .int p0)]) hx hb dX8_size_18 hl (k := 2) rfl (nI_1 _) (by decide) rfl (fun ls hl => ?_)
        refine lv_goto (tgt := 4) hx hb dX8_size_21 (by decide) ?_
        exact ih4 (k + 1)  ⟨by omega, by omega⟩ (by omega)  _ (lv_sub hl [2, 1, 0] rfl)
  exact L4 (10 + 1) 0  ⟨by omega, by omega⟩ (by omega)  _ (lv_sub hl [2, 1, 0] rfl)

theorem hnX8_now_X8 : ∀ w ∈ wsX80, w ∈ wsX8_now := fun _ h => List.mem_cons_of_mem _ (List.mem_append_right _ h)
set_option maxHeartbeats 4000000 in
set_option maxRecDepth 100000 in
theorem mX8_now (l : Launch) (dC : Nat → ClassId) (dI : Nat → Nat → Nat) (cyI cyZ : ClassId) (m0 : Nat) (st : Nat) (im : Nat) (kq : Nat) (pw : Nat) (nx : Nat) (li : Nat) (il : Nat) (mv : Nat) (so : Nat) (la : Nat) (co : Nat) (d6 : Int32) (d11 : Int32) (d12 : Int32) (n : Nat) (fs : Nat → Int32) (wq : Nat → Nat) (fp : Nat → Int32) (hn3 : 3 ≤ n) (hn : n ≤ 10) (h0f : fs 0 = nI n) (hwk : ∀ j, j < 10 → fs (1 + j) = nI (wq j)) (hws : mn_sum wq 10 ≤ 5) (hp : ∀ j, j ≤ 10 → fp j = nI (3 ^ j)) : Met l yX8_now wsX8_now ({ frames := 1, cells := 0, slots := 0, locals := 20 }) (bs_R dC dI cyI cyZ [.ref m0] [(m0, .inr (6, [.ref st, .ref im, .ref kq, .ref pw, .ref nx, .ref li, .int d6, .ref il, .ref mv, .ref so, .ref la, .int d11, .int d12, .ref co])), (st, .inl (cyI, 72, .inl fs)), (pw, .inl (cyI, 11, .inl fp))]) (vp_Si (fun r : Int32 => r = nI (mn_code wq n))) 0 0 (fun _ => False) := by
  refine Met.ofW (cc := cX8_now) (maxL := 4) (ret := (some .int)) (by decide) rfl ?_
  intro p e s m args below meth c s₁ B hml hv
  obtain ⟨rfl, hB, hP⟩ := hv
  have hK := hB.1
  have hN := hB.2
  have hx := B.exec
  have hb := B.bytes
  have hr := B.returns
  have hts := atoms_spec (ws := wsX8_now) B.pre
  have hown : s.vm.findClass RX8 = some m.cls := findClass_of_methodNamed B.named
  have hlocks := B.notSynchronized
  have hP : va_P (dC, dI) vwCl [(m0, .inr (6, [.ref st, .ref im, .ref kq, .ref pw, .ref nx, .ref li, .int d6, .ref il, .ref mv, .ref so, .ref la, .int d11, .int d12, .ref co])), (st, .inl (cyI, 72, .inl fs)), (pw, .inl (cyI, 11, .inl fp))] s.heap := hP
  have hl := lv_entry ([.ref m0]) (n := 4) (Nat.le_of_ble_eq_true rfl)
  rw [lg_entry_eq]
  generalize (lg_sl ([.ref m0]) ++ List.replicate (4 - (lg_sl ([.ref m0])).length) Slot.unset).toArray = ls at hl ⊢
  have hl : lv_has ls 4 [(0, .ref m0)] := hl
  refine lv_iconst (v := 0) hx hb dX8_now_0 (by decide) ?_
  refine lv_istore_n (lv' := [(1, .int 0), (0, .ref m0)]) hx hb dX8_now_1 rfl hl (by decide) rfl (fun ls hl => ?_)
  refine lv_iconst (v := 0) hx hb dX8_now_2 (by decide) ?_
  refine lv_istore_n (lv' := [(2, .int 0), (1, .int 0), (0, .ref m0)]) hx hb dX8_now_3 rfl hl (by decide) rfl (fun ls hl => ?_)
  have L4 : ∀ (n4 : Nat), ∀ (k : Nat), (0 ≤ k ∧ k ≤ n) → (n + 1 ≤ k + n4) → ∀ (ls : Array Slot), lv_has ls 4 [(0, .ref m0), (1, .int (nI (mn_code wq k))), (2, .int (nI k))] → W p l e (headSpec wsX8_now ({ frames := 1, cells := 0, slots := 0, locals := 20 })).room s m ([.ref m0] : List Value).toArray below meth c s.heap [] 0 0 (MQ below (vp_Si (fun r : Int32 => r = nI (mn_code wq n))) ([.ref m0] : List Value).toArray s 0 0 (fun _ => False)) (F0 m 4 ls []) := by
    intro n4
    induction n4 with
    | zero =>
      intro k hk4 hn4 ls hl
      exfalso
      omega
    | succ n4 ih4 =>
      intro k hk4 hn4 ls hl
      refine lv_iload_n hx hb dX8_now_4 rfl (lv_at hl 2 rfl) ?_
      refine lv_aload_n hx hb dX8_now_5 rfl (lv_at hl 0 rfl) ?_
      refine vp_callSi (va_Run.run (va_runV (As := []) (rest := [.int (nI k)]) ⟨hx, hb, hml, hown, hts⟩ (mX8_cells l dC dI cyI cyZ m0 st im kq pw nx li il mv so la co d6 d11 d12 n fs hn3 hn h0f) (cwV 0 hts gX8_now_X8_cells rfl rfl rfl (by decide +kernel) ⟨Nat.le_of_ble_eq_true rfl, Nat.le_of_ble_eq_true rfl⟩) (bs_RV hB (hP.sub (ws' := [(m0, .inr (6, [.ref st, .ref im, .ref kq, .ref pw, .ref nx, .ref li, .int d6, .ref il, .ref mv, .ref so, .ref la, .int d11, .int d12, .ref co])), (st, .inl (cyI, 72, .inl fs))]) [0, 1] rfl) 0 rfl rfl) rfl rfl hl.1 rfl (lv_room (Nat.le_of_ble_eq_true rfl)) dX8_now_6 ⟨Nat.le_of_ble_eq_true rfl, Nat.le_of_ble_eq_true rfl⟩)) (fun r_1 hr_1 => ?_)
      obtain rfl : (nI n) = r_1 := Eq.symm hr_1
      refine lv_icmp_ge (tgt := 47) hx hb dX8_now_9 (by decide) (fun c_2 => ?_) (fun c_2 => ?_)
      · skip
        have ic_2 := ci_le (nI_toInt (n := n) (by omega)) (nI_toInt (n := k) (by omega)) c_2
        refine lv_iload_n hx hb dX8_now_47 rfl (lv_at hl 1 rfl) ?_
        exact W.iret (v := (nI (mn_code wq k))) hx hb hr (fun t ht hW => ⟨(nI (mn_code wq k)), rfl, (by rw [show k = n by omega]), ht⟩) (fun q h => by cases h) dX8_now_48
      · skip
        have ic_2 := ci_nle (nI_toInt (n := n) (by omega)) (nI_toInt (n := k) (by omega)) c_2
        have hwj := mn_sum_le wq (j := k) (k := 10) (by omega)
        refine lv_aload_n hx hb dX8_now_12 rfl (lv_at hl 0 rfl) ?_
        refine va_get (D := (dC, dI)) (ci := 6) (v := .ref st) (C := RX8) (T := TX8) (N := 14) hx hb hts hnX8_now_X8 hown hK hP 0 rfl rfl 0 (by decide) (hts (.fieldLink RX8 7 "RingMeetsModel" "state" "[I") (by decide +kernel)) (fun _ h9 => h9) rfl dX8_now_13 ?_
        refine lv_iconst (v := 1) hx hb dX8_now_16 (by decide) ?_
        refine lv_iload_n hx hb dX8_now_17 rfl (lv_at hl 2 rfl) ?_
        refine lv_iadd hx hb dX8_now_18 ?_
        refine lv_topi (fun x_3 ex_3 => ?_)
        obtain rfl : (nI (1 + k)) = x_3 := (ex_3.trans (nI_add 1 _)).symm
        refine va_iald (D := (dC, dI)) hx hb hK hP 1 0 rfl rfl (vp_in_nI (n := (1 + k)) (N := 72) (by omega) (by omega)) dX8_now_19 ?_
        refine lv_topi (fun x_4 ex_4 => ?_)
        rw [nI_clamp (n := (1 + k)) (by omega)] at ex_4
        obtain rfl : (nI (wq k)) = x_4 := (ex_4.trans (hwk _ (by omega))).symm
        refine lv_istore_n (lv' := [(3, .int (nI (wq k))), (0, .ref m0), (1, .int (nI (mn_code wq k))), (2, .int (nI k))]) hx hb dX8_now_20 rfl hl (by decide) rfl (fun ls hl => ?_)
        refine lv_iload_n hx hb dX8_now_21 rfl (lv_at hl 2 rfl) ?_
        refine lv_aload_n hx hb dX8_now_22 rfl (lv_at hl 1 rfl) ?_
        refine va_get (D := (dC, dI)) (ci := 6) (v := .ref pw) (C := RX8) (T := TX8) (N := 14) hx hb hts hnX8_now_X8 hown hK hP 0 rfl rfl 3 (by decide) (hts (.fieldLink RX8 20 "RingMeetsModel" "power" "[I") (by decide +kernel)) (fun _ h9 => h9) rfl dX8_now_23 ?_
        refine lv_iload_n hx hb dX8_now_26 rfl (lv_at hl 3 rfl) ?_
        refine va_iald (D := (dC, dI)) hx hb hK hP 2 0 rfl rfl (vp_in_nI (n := k) (N := 11) (by omega) (by omega)) dX8_now_27 ?_
        refine lv_topi (fun x_5 ex_5 => ?_)
        rw [nI_clamp (n := k) (by omega)] at ex_5
        obtain rfl : (nI (3 ^ k)) = x_5 := (ex_5.trans (hp _ (by omega))).symm
        refine lv_iload_n hx hb dX8_now_28 rfl (lv_at hl 0 rfl) ?_
        refine lv_iconst (v := 1) hx hb dX8_now_29 (by decide) ?_
        refine lv_icmp_le (tgt := 37) hx hb dX8_now_30 (by decide) (fun c_6 => ?_) (fun c_6 => ?_)
        · skip
          have ic_6 := ci_le (nI_toInt (n := (wq k)) (by omega)) (show Int32.toInt 1 = 1 by decide) c_6
          refine lv_iload_n hx hb dX8_now_37 rfl (lv_at hl 0 rfl) ?_
          refine lv_imul hx hb dX8_now_38 ?_
          refine lv_topi (fun x_7 ex_7 => ?_)
          obtain rfl : (nI (3 ^ k * wq k)) = x_7 := (ex_7.trans (nb_mul _ _)).symm
          refine lv_iadd hx hb dX8_now_39 ?_
          refine lv_topi (fun x_8 ex_8 => ?_)
          obtain rfl : (nI (mn_code wq (k + 1))) = x_8 := (ex_8.trans (by rw [nI_add]; exact congrArg nI (show mn_code wq k + 3 ^ k * wq k = mn_code wq k + 3 ^ k * min (wq k) 2 by rw [Nat.min_eq_left (by omega)]))).symm
          refine lv_istore_n (lv' := [(1, .int (nI (mn_code wq (k + 1)))), (3, .int (nI (wq k))), (0, .ref m0), (2, .int (nI k))]) hx hb dX8_now_40 rfl hl (by decide) rfl (fun ls hl => ?_)
          refine lv_iinc (v := (nI (k + 1))) (lv' := [(2, .int (nI (k + 1))), (1, .int (nI (mn_code wq (k + 1)))), (3, .int (nI (wq k))), (0, .ref m0)]) hx hb dX8_now_41 hl (k := 3) rfl (nI_1 _) (by decide) rfl (fun ls hl => ?_)
          refine lv_goto (tgt := 4) hx hb dX8_now_44 (by decide) ?_
          exact ih4 (k + 1)  ⟨by omega, by omega⟩ (by omega)  _ (lv_sub hl [3, 1, 0] rfl)
        · skip
          have ic_6 := ci_nle (nI_toInt (n := (wq k)) (by omega)) (show Int32.toInt 1 = 1 by decide) c_6
          refine lv_iconst (v := 2) hx hb dX8_now_33 (by decide) ?_
          refine lv_goto (tgt := 38) hx hb dX8_now_34 (by decide) ?_
          refine lv_imul hx hb dX8_now_38 ?_
          refine lv_topi (fun x_9 ex_9 => ?_)
          obtain rfl : (nI (3 ^ k * 2)) = x_9 := (ex_9.trans (nb_mul _ 2)).symm
          refine lv_iadd hx hb dX8_now_39 ?_
          refine lv_topi (fun x_10 ex_10 => ?_)
          obtain rfl : (nI (mn_code wq (k + 1))) = x_10 := (ex_10.trans (by rw [nI_add]; exact congrArg nI (show mn_code wq k + 3 ^ k * 2 = mn_code wq k + 3 ^ k * min (wq k) 2 by rw [Nat.min_eq_right (by omega)]))).symm
          refine lv_istore_n (lv' := [(1, .int (nI (mn_code wq (k + 1)))), (3, .int (nI (wq k))), (0, .ref m0), (2, .int (nI k))]) hx hb dX8_now_40 rfl hl (by decide) rfl (fun ls hl => ?_)
          refine lv_iinc (v := (nI (k + 1))) (lv' := [(2, .int (nI (k + 1))), (1, .int (nI (mn_code wq (k + 1)))), (3, .int (nI (wq k))), (0, .ref m0)]) hx hb dX8_now_41 hl (k := 3) rfl (nI_1 _) (by decide) rfl (fun ls hl => ?_)
          refine lv_goto (tgt := 4) hx hb dX8_now_44 (by decide) ?_
          exact ih4 (k + 1)  ⟨by omega, by omega⟩ (by omega)  _ (lv_sub hl [3, 1, 0] rfl)
  exact L4 (n + 1) 0  ⟨by omega, by omega⟩ (by omega)  _ (lv_sub hl [2, 1, 0] rfl)

theorem hnX8_standsOf_X8 : ∀ w ∈ wsX80, w ∈ wsX8_standsOf := fun _ h => List.mem_cons_of_mem _ (List.mem_append_right _ h)
set_option maxHeartbeats 4000000 in
set_option maxRecDepth 100000 in
theorem mX8_standsOf (l : Launch) (dC : Nat → ClassId) (dI : Nat → Nat → Nat) (cyI cyZ : ClassId) (m0 : Nat) (st : Nat) (im : Nat) (kq : Nat) (pw : Nat) (nx : Nat) (li : Nat) (il : Nat) (mv : Nat) (so : Nat) (la : Nat) (co : Nat) (d6 : Int32) (d11 : Int32) (d12 : Int32) (n : Nat) (fs : Nat → Int32) (fp : Nat → Int32) (p1 : Int32) (hn3 : 3 ≤ n) (hn : n ≤ 10) (h0f : fs 0 = nI n) (hp : ∀ j, j ≤ 10 → fp j = nI (3 ^ j)) : Met l yX8_standsOf wsX8_standsOf ({ frames := 1, cells := 0, slots := 0, locals := 20 }) (bs_R dC dI cyI cyZ [.ref m0, .int p1] [(m0, .inr (6, [.ref st, .ref im, .ref kq, .ref pw, .ref nx, .ref li, .int d6, .ref il, .ref mv, .ref so, .ref la, .int d11, .int d12, .ref co])), (st, .inl (cyI, 72, .inl fs)), (pw, .inl (cyI, 11, .inl fp))]) (vp_Si (fun r : Int32 => r = nb_st p1 n)) 0 0 (fun _ => False) := by
  refine Met.ofW (cc := cX8_standsOf) (maxL := 4) (ret := (some .int)) (by decide) rfl ?_
  intro p e s m args below meth c s₁ B hml hv
  obtain ⟨rfl, hB, hP⟩ := hv
  have hK := hB.1
  have hN := hB.2
  have hx := B.exec
  have hb := B.bytes
  have hr := B.returns
  have hts := atoms_spec (ws := wsX8_standsOf) B.pre
  have hown : s.vm.findClass RX8 = some m.cls := findClass_of_methodNamed B.named
  have hlocks := B.notSynchronized
  have hP : va_P (dC, dI) vwCl [(m0, .inr (6, [.ref st, .ref im, .ref kq, .ref pw, .ref nx, .ref li, .int d6, .ref il, .ref mv, .ref so, .ref la, .int d11, .int d12, .ref co])), (st, .inl (cyI, 72, .inl fs)), (pw, .inl (cyI, 11, .inl fp))] s.heap := hP
  have hl := lv_entry ([.ref m0, .int p1]) (n := 4) (Nat.le_of_ble_eq_true rfl)
  rw [lg_entry_eq]
  generalize (lg_sl ([.ref m0, .int p1]) ++ List.replicate (4 - (lg_sl ([.ref m0, .int p1])).length) Slot.unset).toArray = ls at hl ⊢
  have hl : lv_has ls 4 [(0, .ref m0), (1, .int p1)] := hl
  refine lv_iconst (v := 0) hx hb dX8_standsOf_0 (by decide) ?_
  refine lv_istore_n (lv' := [(2, .int 0), (0, .ref m0), (1, .int p1)]) hx hb dX8_standsOf_1 rfl hl (by decide) rfl (fun ls hl => ?_)
  refine lv_iconst (v := 0) hx hb dX8_standsOf_2 (by decide) ?_
  refine lv_istore_n (lv' := [(3, .int 0), (2, .int 0), (0, .ref m0), (1, .int p1)]) hx hb dX8_standsOf_3 rfl hl (by decide) rfl (fun ls hl => ?_)
  have L4 : ∀ (n4 : Nat), ∀ (k : Nat), (0 ≤ k ∧ k ≤ n) → (n + 1 ≤ k + n4) → ∀ (ls : Array Slot), lv_has ls 4 [(0, .ref m0), (1, .int p1), (2, .int (nb_st p1 k)), (3, .int (nI k))] → W p l e (headSpec wsX8_standsOf ({ frames := 1, cells := 0, slots := 0, locals := 20 })).room s m ([.ref m0, .int p1] : List Value).toArray below meth c s.heap [] 0 0 (MQ below (vp_Si (fun r : Int32 => r = nb_st p1 n)) ([.ref m0, .int p1] : List Value).toArray s 0 0 (fun _ => False)) (F0 m 4 ls []) := by
    intro n4
    induction n4 with
    | zero =>
      intro k hk4 hn4 ls hl
      exfalso
      omega
    | succ n4 ih4 =>
      intro k hk4 hn4 ls hl
      refine lv_iload_n hx hb dX8_standsOf_4 rfl (lv_at hl 3 rfl) ?_
      refine lv_aload_n hx hb dX8_standsOf_5 rfl (lv_at hl 0 rfl) ?_
      refine vp_callSi (va_Run.run (va_runV (As := []) (rest := [.int (nI k)]) ⟨hx, hb, hml, hown, hts⟩ (mX8_cells l dC dI cyI cyZ m0 st im kq pw nx li il mv so la co d6 d11 d12 n fs hn3 hn h0f) (cwV 0 hts gX8_standsOf_X8_cells rfl rfl rfl (by decide +kernel) ⟨Nat.le_of_ble_eq_true rfl, Nat.le_of_ble_eq_true rfl⟩) (bs_RV hB (hP.sub (ws' := [(m0, .inr (6, [.ref st, .ref im, .ref kq, .ref pw, .ref nx, .ref li, .int d6, .ref il, .ref mv, .ref so, .ref la, .int d11, .int d12, .ref co])), (st, .inl (cyI, 72, .inl fs))]) [0, 1] rfl) 0 rfl rfl) rfl rfl hl.1 rfl (lv_room (Nat.le_of_ble_eq_true rfl)) dX8_standsOf_6 ⟨Nat.le_of_ble_eq_true rfl, Nat.le_of_ble_eq_true rfl⟩)) (fun r_1 hr_1 => ?_)
      obtain rfl : (nI n) = r_1 := Eq.symm hr_1
      refine lv_icmp_ge (tgt := 41) hx hb dX8_standsOf_9 (by decide) (fun c_2 => ?_) (fun c_2 => ?_)
      · skip
        have ic_2 := ci_le (nI_toInt (n := n) (by omega)) (nI_toInt (n := k) (by omega)) c_2
        refine lv_iload_n hx hb dX8_standsOf_41 rfl (lv_at hl 2 rfl) ?_
        exact W.iret (v := (nb_st p1 k)) hx hb hr (fun t ht hW => ⟨(nb_st p1 k), rfl, (by rw [show k = n by omega]), ht⟩) (fun q h => by cases h) dX8_standsOf_42
      · skip
        have ic_2 := ci_nle (nI_toInt (n := n) (by omega)) (nI_toInt (n := k) (by omega)) c_2
        refine lv_iload_n hx hb dX8_standsOf_12 rfl (lv_at hl 2 rfl) ?_
        refine lv_iload_n hx hb dX8_standsOf_13 rfl (lv_at hl 1 rfl) ?_
        refine lv_aload_n hx hb dX8_standsOf_14 rfl (lv_at hl 0 rfl) ?_
        refine va_get (D := (dC, dI)) (ci := 6) (v := .ref pw) (C := RX8) (T := TX8) (N := 14) hx hb hts hnX8_standsOf_X8 hown hK hP 0 rfl rfl 3 (by decide) (hts (.fieldLink RX8 20 "RingMeetsModel" "power" "[I") (by decide +kernel)) (fun _ h9 => h9) rfl dX8_standsOf_15 ?_
        refine lv_iload_n hx hb dX8_standsOf_18 rfl (lv_at hl 3 rfl) ?_
        refine va_iald (D := (dC, dI)) hx hb hK hP 2 0 rfl rfl (vp_in_nI (n := k) (N := 11) (by omega) (by omega)) dX8_standsOf_19 ?_
        refine lv_topi (fun x_3 ex_3 => ?_)
        rw [nI_clamp (n := k) (by omega)] at ex_3
        obtain rfl : (nI (3 ^ k)) = x_3 := (ex_3.trans (hp _ (by omega))).symm
        refine lv_idiv hx hb dX8_standsOf_20 (nb_p3 (by omega)) ?_
        refine lv_topi (fun x_4 ex_4 => ?_)
        refine lv_iconst (v := 3) hx hb dX8_standsOf_21 (by decide) ?_
        refine lv_irem hx hb dX8_standsOf_22 (by decide) ?_
        refine lv_topi (fun x_5 ex_5 => ?_)
        refine lv_if_le (tgt := 32) hx hb dX8_standsOf_23 (by decide) (fun c_6 => ?_) (fun c_6 => ?_)
        · skip
          have ic_6 := ci_le (rfl : Int32.toInt x_5 = _) (show Int32.toInt 0 = 0 by decide) c_6
          refine lv_iconst (v := 0) hx hb dX8_standsOf_32 (by decide) ?_
          refine lv_ior hx hb dX8_standsOf_33 ?_
          refine lv_topi (fun x_7 ex_7 => ?_)
          obtain rfl : (nb_st p1 (k + 1)) = x_7 := (ex_7.trans (by rw [nb_st, show nb_dg p1 k = x_5 by rw [ex_5, ex_4]; rfl, if_pos c_6])).symm
          refine lv_istore_n (lv' := [(2, .int (nb_st p1 (k + 1))), (0, .ref m0), (1, .int p1), (3, .int (nI k))]) hx hb dX8_standsOf_34 rfl hl (by decide) rfl (fun ls hl => ?_)
          refine lv_iinc (v := (nI (k + 1))) (lv' := [(3, .int (nI (k + 1))), (2, .int (nb_st p1 (k + 1))), (0, .ref m0), (1, .int p1)]) hx hb dX8_standsOf_35 hl (k := 3) rfl (nI_1 _) (by decide) rfl (fun ls hl => ?_)
          refine lv_goto (tgt := 4) hx hb dX8_standsOf_38 (by decide) ?_
          exact ih4 (k + 1)  ⟨by omega, by omega⟩ (by omega)  _ (lv_sub hl [2, 3, 1, 0] rfl)
        · skip
          have ic_6 := ci_nle (rfl : Int32.toInt x_5 = _) (show Int32.toInt 0 = 0 by decide) c_6
          refine lv_iconst (v := 1) hx hb dX8_standsOf_26 (by decide) ?_
          refine lv_iload_n hx hb dX8_standsOf_27 rfl (lv_at hl 3 rfl) ?_
          refine lv_ishl hx hb dX8_standsOf_28 ?_
          refine lv_topi (fun x_8 ex_8 => ?_)
          refine lv_goto (tgt := 33) hx hb dX8_standsOf_29 (by decide) ?_
          refine lv_ior hx hb dX8_standsOf_33 ?_
          refine lv_topi (fun x_9 ex_9 => ?_)
          obtain rfl : (nb_st p1 (k + 1)) = x_9 := (ex_9.trans (by rw [nb_st, show nb_dg p1 k = x_5 by rw [ex_5, ex_4]; rfl, if_neg c_6, ex_8])).symm
          refine lv_istore_n (lv' := [(2, .int (nb_st p1 (k + 1))), (0, .ref m0), (1, .int p1), (3, .int (nI k))]) hx hb dX8_standsOf_34 rfl hl (by decide) rfl (fun ls hl => ?_)
          refine lv_iinc (v := (nI (k + 1))) (lv' := [(3, .int (nI (k + 1))), (2, .int (nb_st p1 (k + 1))), (0, .ref m0), (1, .int p1)]) hx hb dX8_standsOf_35 hl (k := 3) rfl (nI_1 _) (by decide) rfl (fun ls hl => ?_)
          refine lv_goto (tgt := 4) hx hb dX8_standsOf_38 (by decide) ?_
          exact ih4 (k + 1)  ⟨by omega, by omega⟩ (by omega)  _ (lv_sub hl [2, 3, 1, 0] rfl)
  exact L4 (n + 1) 0  ⟨by omega, by omega⟩ (by omega)  _ (lv_sub hl [2, 3, 1, 0] rfl)

set_option maxHeartbeats 4000000 in
set_option maxRecDepth 100000 in
theorem mX8_has (l : Launch) (dC : Nat → ClassId) (dI : Nat → Nat → Nat) (cyI cyZ : ClassId) (p0 : Int32) (p1 : Int32)  : Met l yX8_has wsX8_has ({ frames := 0, cells := 0, slots := 0, locals := 0 }) (bs_R dC dI cyI cyZ [.int p0, .int p1] []) (vp_Si (fun r : Int32 => (r = 0 ∨ r = 1) ∧ (r = 1 → (p0 >>> (p1 &&& 31)) &&& 1 = 1))) 0 0 (fun _ => False) := by
  refine Met.ofW (cc := cX8_has) (maxL := 2) (ret := (some .boolean)) (by decide) rfl ?_
  intro p e s m args below meth c s₁ B hml hv
  obtain ⟨rfl, hB, hP⟩ := hv
  have hK := hB.1
  have hN := hB.2
  have hx := B.exec
  have hb := B.bytes
  have hr := B.returns
  have hts := atoms_spec (ws := wsX8_has) B.pre
  have hown : s.vm.findClass RX8 = some m.cls := findClass_of_methodNamed B.named
  have hlocks := B.notSynchronized
  have hP : va_P (dC, dI) vwCl [] s.heap := hP
  have hl := lv_entry ([.int p0, .int p1]) (n := 2) (Nat.le_of_ble_eq_true rfl)
  rw [lg_entry_eq]
  generalize (lg_sl ([.int p0, .int p1]) ++ List.replicate (2 - (lg_sl ([.int p0, .int p1])).length) Slot.unset).toArray = ls at hl ⊢
  have hl : lv_has ls 2 [(0, .int p0), (1, .int p1)] := hl
  refine lv_iload_n hx hb dX8_has_0 rfl (lv_at hl 0 rfl) ?_
  refine lv_iload_n hx hb dX8_has_1 rfl (lv_at hl 1 rfl) ?_
  refine lv_ishr hx hb dX8_has_2 ?_
  refine lv_topi (fun x_1 ex_1 => ?_)
  refine lv_iconst (v := 1) hx hb dX8_has_3 (by decide) ?_
  refine lv_iand hx hb dX8_has_4 ?_
  refine lv_topi (fun x_2 ex_2 => ?_)
  refine lv_iconst (v := 1) hx hb dX8_has_5 (by decide) ?_
  refine lv_icmp_ne (tgt := 13) hx hb dX8_has_6 (by decide) (fun c_3 => ?_) (fun c_3 => ?_)
  · skip
    have ic_3 := ci_ne (rfl : Int32.toInt x_2 = _) (show Int32.toInt 1 = 1 by decide) c_3
    refine lv_iconst (v := 0) hx hb dX8_has_13 (by decide) ?_
    exact W.zret (v := 0) hx hb hr (show narrow .boolean (.int 0) = .int 0 from rfl) (fun t ht hW => ⟨0, rfl, ⟨Or.inl rfl, fun h => absurd h (by decide)⟩, ht⟩) (fun q h => by cases h) dX8_has_14
  · skip
    have ic_3 := ci_eq (rfl : Int32.toInt x_2 = _) (show Int32.toInt 1 = 1 by decide) c_3
    refine lv_iconst (v := 1) hx hb dX8_has_9 (by decide) ?_
    refine lv_goto (tgt := 14) hx hb dX8_has_10 (by decide) ?_
    exact W.zret (v := 1) hx hb hr (show narrow .boolean (.int 1) = .int 1 from rfl) (fun t ht hW => ⟨1, rfl, ⟨Or.inr rfl, fun _ => (by rw [← ex_1, ← ex_2]; exact c_3)⟩, ht⟩) (fun q h => by cases h) dX8_has_14

set_option maxHeartbeats 4000000 in
set_option maxRecDepth 100000 in
theorem mX8_beside (l : Launch) (dC : Nat → ClassId) (dI : Nat → Nat → Nat) (cyI cyZ : ClassId) (m0 : Nat) (st : Nat) (im : Nat) (kq : Nat) (pw : Nat) (nx : Nat) (li : Nat) (il : Nat) (mv : Nat) (so : Nat) (la : Nat) (co : Nat) (d6 : Int32) (d11 : Int32) (d12 : Int32) (n : Nat) (fs : Nat → Int32) (va : Nat) (w : Nat) (p2 : Int32) (hn3 : 3 ≤ n) (hn : n ≤ 10) (h0f : fs 0 = nI n) (ha9 : va < n) (hw9 : w ≤ 20 ∧ 10 ≤ va + n + w) (hp2 : p2 = nI w - 10) : Met l yX8_beside wsX8_beside ({ frames := 1, cells := 0, slots := 0, locals := 20 }) (bs_R dC dI cyI cyZ [.ref m0, .int (nI va), .int p2] [(m0, .inr (6, [.ref st, .ref im, .ref kq, .ref pw, .ref nx, .ref li, .int d6, .ref il, .ref mv, .ref so, .ref la, .int d11, .int d12, .ref co])), (st, .inl (cyI, 72, .inl fs))]) (vp_Si (fun r : Int32 => r = nI ((va + n + w - 10) % n))) 0 0 (fun _ => False) := by
  refine Met.ofW (cc := cX8_beside) (maxL := 3) (ret := (some .int)) (by decide) rfl ?_
  intro p e s m args below meth c s₁ B hml hv
  obtain ⟨rfl, hB, hP⟩ := hv
  have hK := hB.1
  have hN := hB.2
  have hx := B.exec
  have hb := B.bytes
  have hr := B.returns
  have hts := atoms_spec (ws := wsX8_beside) B.pre
  have hown : s.vm.findClass RX8 = some m.cls := findClass_of_methodNamed B.named
  have hlocks := B.notSynchronized
  have hP : va_P (dC, dI) vwCl [(m0, .inr (6, [.ref st, .ref im, .ref kq, .ref pw, .ref nx, .ref li, .int d6, .ref il, .ref mv, .ref so, .ref la, .int d11, .int d12, .ref co])), (st, .inl (cyI, 72, .inl fs))] s.heap := hP
  have hl := lv_entry ([.ref m0, .int (nI va), .int p2]) (n := 3) (Nat.le_of_ble_eq_true rfl)
  rw [lg_entry_eq]
  generalize (lg_sl ([.ref m0, .int (nI va), .int p2]) ++ List.replicate (3 - (lg_sl ([.ref m0, .int (nI va), .int p2])).length) Slot.unset).toArray = ls at hl ⊢
  have hl : lv_has ls 3 [(0, .ref m0), (1, .int (nI va)), (2, .int p2)] := hl
  refine lv_iload_n hx hb dX8_beside_0 rfl (lv_at hl 1 rfl) ?_
  refine lv_iload_n hx hb dX8_beside_1 rfl (lv_at hl 2 rfl) ?_
  refine lv_iadd hx hb dX8_beside_2 ?_
  refine lv_topi (fun x_1 ex_1 => ?_)
  refine lv_aload_n hx hb dX8_beside_3 rfl (lv_at hl 0 rfl) ?_
  refine vp_callSi (va_Run.run (va_runV (As := []) (rest := [.int x_1]) ⟨hx, hb, hml, hown, hts⟩ (mX8_cells l dC dI cyI cyZ m0 st im kq pw nx li il mv so la co d6 d11 d12 n fs hn3 hn h0f) (cwV 0 hts gX8_beside_X8_cells rfl rfl rfl (by decide +kernel) ⟨Nat.le_of_ble_eq_true rfl, Nat.le_of_ble_eq_true rfl⟩) (bs_RV hB (hP.sub (ws' := [(m0, .inr (6, [.ref st, .ref im, .ref kq, .ref pw, .ref nx, .ref li, .int d6, .ref il, .ref mv, .ref so, .ref la, .int d11, .int d12, .ref co])), (st, .inl (cyI, 72, .inl fs))]) [0, 1] rfl) 0 rfl rfl) rfl rfl hl.1 rfl (lv_room (Nat.le_of_ble_eq_true rfl)) dX8_beside_4 ⟨Nat.le_of_ble_eq_true rfl, Nat.le_of_ble_eq_true rfl⟩)) (fun r_2 hr_2 => ?_)
  obtain rfl : (nI n) = r_2 := Eq.symm hr_2
  refine lv_iadd hx hb dX8_beside_7 ?_
  refine lv_topi (fun x_3 ex_3 => ?_)
  refine lv_aload_n hx hb dX8_beside_8 rfl (lv_at hl 0 rfl) ?_
  refine vp_callSi (va_Run.run (va_runV (As := []) (rest := [.int x_3]) ⟨hx, hb, hml, hown, hts⟩ (mX8_cells l dC dI cyI cyZ m0 st im kq pw nx li il mv so la co d6 d11 d12 n fs hn3 hn h0f) (cwV 0 hts gX8_beside_X8_cells rfl rfl rfl (by decide +kernel) ⟨Nat.le_of_ble_eq_true rfl, Nat.le_of_ble_eq_true rfl⟩) (bs_RV hB (hP.sub (ws' := [(m0, .inr (6, [.ref st, .ref im, .ref kq, .ref pw, .ref nx, .ref li, .int d6, .ref il, .ref mv, .ref so, .ref la, .int d11, .int d12, .ref co])), (st, .inl (cyI, 72, .inl fs))]) [0, 1] rfl) 0 rfl rfl) rfl rfl hl.1 rfl (lv_room (Nat.le_of_ble_eq_true rfl)) dX8_beside_9 ⟨Nat.le_of_ble_eq_true rfl, Nat.le_of_ble_eq_true rfl⟩)) (fun r_4 hr_4 => ?_)
  obtain rfl : (nI n) = r_4 := Eq.symm hr_4
  refine lv_irem hx hb dX8_beside_12 (nI_ne0 (by omega) (by omega)) ?_
  refine lv_topi (fun x_5 ex_5 => ?_)
  exact W.iret (v := x_5) hx hb hr (fun t ht hW => ⟨x_5, rfl, (show x_5 = nI ((va + n + w - 10) % n) by rw [ex_5, ex_3, ex_1, hp2]; exact mn_bes ha9 hn hw9.1 hw9.2), ht⟩) (fun q h => by cases h) dX8_beside_13

set_option maxHeartbeats 4000000 in
set_option maxRecDepth 100000 in
theorem mX8_far (l : Launch) (dC : Nat → ClassId) (dI : Nat → Nat → Nat) (cyI cyZ : ClassId) (m0 : Nat) (st : Nat) (im : Nat) (kq : Nat) (pw : Nat) (nx : Nat) (li : Nat) (il : Nat) (mv : Nat) (so : Nat) (la : Nat) (co : Nat) (d6 : Int32) (d11 : Int32) (d12 : Int32) (n : Nat) (fs : Nat → Int32) (va : Nat) (w : Nat) (p1 : Int32) (p3 : Int32) (hn3 : 3 ≤ n) (hn : n ≤ 10) (h0f : fs 0 = nI n) (ha9 : va < n) (hw : w = 9 ∨ w = 11) (hbt : nb_bit p1 va) (hp3 : p3 = nI w - 10) : Met l yX8_far wsX8_far ({ frames := 2, cells := 0, slots := 0, locals := 42 }) (bs_R dC dI cyI cyZ [.ref m0, .int p1, .int (nI va), .int p3] [(m0, .inr (6, [.ref st, .ref im, .ref kq, .ref pw, .ref nx, .ref li, .int d6, .ref il, .ref mv, .ref so, .ref la, .int d11, .int d12, .ref co])), (st, .inl (cyI, 72, .inl fs))]) (vp_Si (fun r : Int32 => ∃ v : Nat, r = nI v ∧ 1 ≤ v ∧ v ≤ n ∧ nb_bit p1 (mn_tg w n va v))) 0 0 (fun _ => False) := by
  refine Met.ofW (cc := cX8_far) (maxL := 6) (ret := (some .int)) (by decide) rfl ?_
  intro p e s m args below meth c s₁ B hml hv
  obtain ⟨rfl, hB, hP⟩ := hv
  have hK := hB.1
  have hN := hB.2
  have hx := B.exec
  have hb := B.bytes
  have hr := B.returns
  have hts := atoms_spec (ws := wsX8_far) B.pre
  have hown : s.vm.findClass RX8 = some m.cls := findClass_of_methodNamed B.named
  have hlocks := B.notSynchronized
  have hP : va_P (dC, dI) vwCl [(m0, .inr (6, [.ref st, .ref im, .ref kq, .ref pw, .ref nx, .ref li, .int d6, .ref il, .ref mv, .ref so, .ref la, .int d11, .int d12, .ref co])), (st, .inl (cyI, 72, .inl fs))] s.heap := hP
  have hl := lv_entry ([.ref m0, .int p1, .int (nI va), .int p3]) (n := 6) (Nat.le_of_ble_eq_true rfl)
  rw [lg_entry_eq]
  generalize (lg_sl ([.ref m0, .int p1, .int (nI va), .int p3]) ++ List.replicate (6 - (lg_sl ([.ref m0, .int p1, .int (nI va), .int p3])).length) Slot.unset).toArray = ls at hl ⊢
  have hl : lv_has ls 6 [(0, .ref m0), (1, .int p1), (2, .int (nI va)), (3, .int p3)] := hl
  refine lv_iconst (v := 1) hx hb dX8_far_0 (by decide) ?_
  refine lv_istore (lv' := [(4, .int 1), (0, .ref m0), (1, .int p1), (2, .int (nI va)), (3, .int p3)]) hx hb dX8_far_1 hl (by decide) rfl (fun ls hl => ?_)
  refine lv_aload_n hx hb dX8_far_3 rfl (lv_at hl 1 rfl) ?_
  refine lv_iload_n hx hb dX8_far_4 rfl (lv_at hl 3 rfl) ?_
  refine lv_iload_n hx hb dX8_far_5 rfl (lv_at hl 4 rfl) ?_
  refine vp_callSi (va_Run.run (va_runV (As := [.int (nI va), .int p3]) (rest := []) ⟨hx, hb, hml, hown, hts⟩ (mX8_beside l dC dI cyI cyZ m0 st im kq pw nx li il mv so la co d6 d11 d12 n fs va w p3 hn3 hn h0f (by omega) (by omega) hp3) (cwV 2 hts gX8_far_X8_beside rfl rfl rfl (by decide +kernel) ⟨Nat.le_of_ble_eq_true rfl, Nat.le_of_ble_eq_true rfl⟩) (bs_RV hB (hP.sub (ws' := [(m0, .inr (6, [.ref st, .ref im, .ref kq, .ref pw, .ref nx, .ref li, .int d6, .ref il, .ref mv, .ref so, .ref la, .int d11, .int d12, .ref co])), (st, .inl (cyI, 72, .inl fs))]) [0, 1] rfl) 0 rfl rfl) rfl rfl hl.1 rfl (lv_room (Nat.le_of_ble_eq_true rfl)) dX8_far_6 ⟨Nat.le_of_ble_eq_true rfl, Nat.le_of_ble_eq_true rfl⟩)) (fun r_1 hr_1 => ?_)
  obtain rfl : (nI (mn_tg w n va 1)) = r_1 := Eq.symm (hr_1.trans (congrArg nI (mn_tg_1 hw ha9 hn)))
  refine lv_istore (lv' := [(5, .int (nI (mn_tg w n va 1))), (4, .int 1), (0, .ref m0), (1, .int p1), (2, .int (nI va)), (3, .int p3)]) hx hb dX8_far_9 hl (by decide) rfl (fun ls hl => ?_)
  have L11 : ∀ (n11 : Nat), ∀ (qv : Nat), (1 ≤ qv ∧ qv ≤ n) → (n + 1 ≤ qv + n11) → ∀ (ls : Array Slot), lv_has ls 6 [(0, .ref m0), (1, .int p1), (3, .int p3), (4, .int (nI qv)), (5, .int (nI (mn_tg w n va qv)))] → W p l e (headSpec wsX8_far ({ frames := 2, cells := 0, slots := 0, locals := 42 })).room s m ([.ref m0, .int p1, .int (nI va), .int p3] : List Value).toArray below meth c s.heap [] 0 0 (MQ below (vp_Si (fun r : Int32 => ∃ v : Nat, r = nI v ∧ 1 ≤ v ∧ v ≤ n ∧ nb_bit p1 (mn_tg w n va v))) ([.ref m0, .int p1, .int (nI va), .int p3] : List Value).toArray s 0 0 (fun _ => False)) (F0 m 11 ls []) := by
    intro n11
    induction n11 with
    | zero =>
      intro qv hq11 hn11 ls hl
      exfalso
      omega
    | succ n11 ih11 =>
      intro qv hq11 hn11 ls hl
      refine lv_iload_n hx hb dX8_far_11 rfl (lv_at hl 1 rfl) ?_
      refine lv_iload hx hb dX8_far_12 (lv_at hl 4 rfl) ?_
      refine lv_ishr hx hb dX8_far_14 ?_
      refine lv_topi (fun x_2 ex_2 => ?_)
      refine lv_iconst (v := 1) hx hb dX8_far_15 (by decide) ?_
      refine lv_iand hx hb dX8_far_16 ?_
      refine lv_topi (fun x_3 ex_3 => ?_)
      refine lv_if_ne (tgt := 35) hx hb dX8_far_17 (by decide) (fun c_4 => ?_) (fun c_4 => ?_)
      · skip
        have ic_4 := ci_ne (rfl : Int32.toInt x_3 = _) (show Int32.toInt 0 = 0 by decide) c_4
        refine lv_iload hx hb dX8_far_35 (lv_at hl 3 rfl) ?_
        exact W.iret (v := (nI qv)) hx hb hr (fun t ht hW => ⟨(nI qv), rfl, ⟨qv, rfl, by omega, by omega, mn_b1 (by rw [← ex_2, ← ex_3]; exact c_4)⟩, ht⟩) (fun q h => by cases h) dX8_far_37
      · skip
        have ic_4 := ci_eq (rfl : Int32.toInt x_3 = _) (show Int32.toInt 0 = 0 by decide) c_4
        have hnb : ¬ nb_bit p1 (mn_tg w n va qv) := mn_b0 (by rw [← ex_2, ← ex_3]; exact c_4)
        have hqn : qv < n := by rcases Nat.lt_or_ge qv n with q | q; exact q; exact absurd (by rw [show qv = n by omega, mn_tg_n hw ha9 hn]; exact hbt) hnb
        have htl := mn_tg_lt hw ha9 hn (show qv ≤ n by omega)
        refine lv_aload_n hx hb dX8_far_20 rfl (lv_at hl 0 rfl) ?_
        refine lv_iload hx hb dX8_far_21 (lv_at hl 4 rfl) ?_
        refine lv_iload_n hx hb dX8_far_23 rfl (lv_at hl 2 rfl) ?_
        refine vp_callSi (va_Run.run (va_runV (As := [.int (nI (mn_tg w n va qv)), .int p3]) (rest := []) ⟨hx, hb, hml, hown, hts⟩ (mX8_beside l dC dI cyI cyZ m0 st im kq pw nx li il mv so la co d6 d11 d12 n fs (mn_tg w n va qv) w p3 hn3 hn h0f (by omega) (by omega) hp3) (cwV 2 hts gX8_far_X8_beside rfl rfl rfl (by decide +kernel) ⟨Nat.le_of_ble_eq_true rfl, Nat.le_of_ble_eq_true rfl⟩) (bs_RV hB (hP.sub (ws' := [(m0, .inr (6, [.ref st, .ref im, .ref kq, .ref pw, .ref nx, .ref li, .int d6, .ref il, .ref mv, .ref so, .ref la, .int d11, .int d12, .ref co])), (st, .inl (cyI, 72, .inl fs))]) [0, 1] rfl) 0 rfl rfl) rfl rfl hl.1 rfl (lv_room (Nat.le_of_ble_eq_true rfl)) dX8_far_24 ⟨Nat.le_of_ble_eq_true rfl, Nat.le_of_ble_eq_true rfl⟩)) (fun r_5 hr_5 => ?_)
        obtain rfl : (nI (mn_tg w n va (qv + 1))) = r_5 := Eq.symm (hr_5.trans (congrArg nI (mn_tg_s hw ha9 hn (by omega))))
        refine lv_istore (lv' := [(5, .int (nI (mn_tg w n va (qv + 1)))), (0, .ref m0), (1, .int p1), (3, .int p3), (4, .int (nI qv))]) hx hb dX8_far_27 hl (by decide) rfl (fun ls hl => ?_)
        refine lv_iinc (v := (nI (qv + 1))) (lv' := [(4, .int (nI (qv + 1))), (5, .int (nI (mn_tg w n va (qv + 1)))), (0, .ref m0), (1, .int p1), (3, .int p3)]) hx hb dX8_far_29 hl (k := 4) rfl (nI_1 _) (by decide) rfl (fun ls hl => ?_)
        refine lv_goto (tgt := 11) hx hb dX8_far_32 (by decide) ?_
        exact ih11 (qv + 1) ⟨by omega, by omega⟩ (by omega) _ (lv_sub hl [2, 3, 4, 0, 1] rfl)
  exact L11 n 1 ⟨by omega, by omega⟩ (by omega) _ (lv_sub hl [2, 3, 5, 1, 0] rfl)
