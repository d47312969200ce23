def nb_dg (x : Int32) (k : Nat) : Int32 := x / nI (3 ^ k) - x / nI (3 ^ k) / 3 * 3
def nb_st (x : Int32) : Nat → Int32
  | 0 => 0
  | k + 1 => nb_st x k ||| (if nb_dg x k ≤ 0 then 0 else (1 : Int32) <<< (nI k &&& 31))
def nb_sz (x : Int32) : Nat → Int32
  | 0 => 0
  | k + 1 => nb_sz x k + ((x >>> (nI k &&& 31)) &&& 1)
def nb_h (x y : Int32) : Int32 := if (x >>> (y &&& 31)) &&& 1 = 1 then 1 else 0
set_option maxHeartbeats 4000000 in
set_option maxRecDepth 100000 in
theorem kX8_in (l : Launch) (dC : Nat → ClassId) (dI : Nat → Nat → Nat) (cyI cyZ : ClassId) (p0 p1 p2 : Int32) (lo hi : Int) (hlo : p1.toInt = lo) (hhi : p2.toInt = hi) : Met l yX8_in wsX8_in ({ frames := 0, cells := 0, slots := 0, locals := 0 }) (bs_R dC dI cyI cyZ [.int p0, .int p1, .int p2] []) (vp_Si (fun r : Int32 => (r = 0 ∨ r = 1) ∧ (r = 1 → lo ≤ p0.toInt ∧ p0.toInt ≤ hi) ∧ (r = 0 → ¬ (lo ≤ p0.toInt ∧ p0.toInt ≤ hi)))) 0 0 (fun _ => False) := by
  refine Met.ofW (cc := cX8_in) (maxL := 3) (ret := (some .boolean)) (by decide) rfl ?_
  intro p e s m args below meth c s₁ B hml hv
  obtain ⟨rfl, hB, hP⟩ := hv
  have hK := hB.1
  have hN := hB.2
  have hx := B.exec
  have hb := B.bytes
  have hr := B.returns
  have hts := atoms_spec (ws := wsX8_in) B.pre
  have hown : s.vm.findClass RX8 = some m.cls := findClass_of_methodNamed B.named
  have hlocks := B.notSynchronized
  have hP : va_P (dC, dI) vwCl [] s.heap := hP
  have hl := lv_entry ([.int p0, .int p1, .int p2]) (n := 3) (Nat.le_of_ble_eq_true rfl)
  rw [lg_entry_eq]
  generalize (lg_sl ([.int p0, .int p1, .int p2]) ++ List.replicate (3 - (lg_sl ([.int p0, .int p1, .int p2])).length) Slot.unset).toArray = ls at hl ⊢
  have hl : lv_has ls 3 [(0, .int p0), (1, .int p1), (2, .int p2)] := hl
  refine lv_iload_n hx hb dX8_in_0 rfl (lv_at hl 0 rfl) ?_
  refine lv_iload_n hx hb dX8_in_1 rfl (lv_at hl 1 rfl) ?_
  refine lv_icmp_lt (tgt := 14) hx hb dX8_in_2 (by decide) (fun c_1 => ?_) (fun c_1 => ?_)
  · skip
    have ic_1 := ci_lt (rfl : Int32.toInt p0 = _) (rfl : Int32.toInt p1 = _) c_1
    refine lv_iconst (v := 0) hx hb dX8_in_14 (by decide) ?_
    exact W.zret (v := 0) hx hb hr (show narrow .boolean (.int 0) = .int 0 from rfl) (fun t ht hW => ⟨0, rfl, ⟨Or.inl rfl, fun h => absurd h (by decide), fun _ => by omega⟩, ht⟩) (fun q h => by cases h) dX8_in_15
  · skip
    have ic_1 := ci_nlt (rfl : Int32.toInt p0 = _) (rfl : Int32.toInt p1 = _) c_1
    refine lv_iload_n hx hb dX8_in_5 rfl (lv_at hl 0 rfl) ?_
    refine lv_iload_n hx hb dX8_in_6 rfl (lv_at hl 2 rfl) ?_
    refine lv_icmp_gt (tgt := 14) hx hb dX8_in_7 (by decide) (fun c_2 => ?_) (fun c_2 => ?_)
    · skip
      have ic_2 := ci_lt (rfl : Int32.toInt p2 = _) (rfl : Int32.toInt p0 = _) c_2
      refine lv_iconst (v := 0) hx hb dX8_in_14 (by decide) ?_
      exact W.zret (v := 0) hx hb hr (show narrow .boolean (.int 0) = .int 0 from rfl) (fun t ht hW => ⟨0, rfl, ⟨Or.inl rfl, fun h => absurd h (by decide), fun _ => by omega⟩, ht⟩) (fun q h => by cases h) dX8_in_15
    · skip
      have ic_2 := ci_nlt (rfl : Int32.toInt p2 = _) (rfl : Int32.toInt p0 = _) c_2
      refine lv_iconst (v := 1) hx hb dX8_in_10 (by decide) ?_
      refine lv_goto (tgt := 15) hx hb dX8_in_11 (by decide) ?_
      exact W.zret (v := 1) hx hb hr (show narrow .boolean (.int 1) = .int 1 from rfl) (fun t ht hW => ⟨1, rfl, ⟨Or.inr rfl, fun _ => ⟨by omega, by omega⟩, fun h => absurd h (by decide)⟩, ht⟩) (fun q h => by cases h) dX8_in_15

theorem hnX8_cells_X8 : ∀ w ∈ wsX80, w ∈ wsX8_cells := fun _ h => List.mem_cons_of_mem _ (List.mem_append_right _ h)
set_option maxHeartbeats 4000000 in
set_option maxRecDepth 100000 in
theorem kX8_cells (l : Launch) (dC : Nat → ClassId) (dI : Nat → Nat → Nat) (cyI cyZ : ClassId) (h0 st im kp pw nx li il mv so la co : Nat) (d6 d11 d12 : Int32) (fs : Nat → Int32) (h8 : fs 0 = 8) : Met l yX8_cells wsX8_cells ({ frames := 0, cells := 0, slots := 0, locals := 0 }) (bs_R dC dI cyI cyZ [.ref h0] [(h0, .inr (6, [.ref st, .ref im, .ref kp, .ref pw, .ref nx, .ref li, .int d6, .ref il, .ref mv, .ref so, .ref la, .int d11, .int d12, .ref co])), (st, .inl (cyI, 72, .inl fs))]) (vp_Si (fun r : Int32 => r = 8)) 0 0 (fun _ => False) := by
  refine Met.ofW (cc := cX8_cells) (maxL := 1) (ret := (some .int)) (by decide) rfl ?_
  intro p e s m args below meth c s₁ B hml hv
  obtain ⟨rfl, hB, hP⟩ := hv
  have hK := hB.1
  have hN := hB.2
  have hx := B.exec
  have hb := B.bytes
  have hr := B.returns
  have hts := atoms_spec (ws := wsX8_cells) B.pre
  have hown : s.vm.findClass RX8 = some m.cls := findClass_of_methodNamed B.named
  have hlocks := B.notSynchronized
  have hP : va_P (dC, dI) vwCl [(h0, .inr (6, [.ref st, .ref im, .ref kp, .ref pw, .ref nx, .ref li, .int d6, .ref il, .ref mv, .ref so, .ref la, .int d11, .int d12, .ref co])), (st, .inl (cyI, 72, .inl fs))] s.heap := hP
  have hl := lv_entry ([.ref h0]) (n := 1) (Nat.le_of_ble_eq_true rfl)
  rw [lg_entry_eq]
  generalize (lg_sl ([.ref h0]) ++ List.replicate (1 - (lg_sl ([.ref h0])).length) Slot.unset).toArray = ls at hl ⊢
  have hl : lv_has ls 1 [(0, .ref h0)] := hl
  refine lv_aload_n hx hb dX8_cells_0 rfl (lv_at hl 0 rfl) ?_
  refine va_get (D := (dC, dI)) (ci := 6) (v := .ref st) (C := RX8) (T := TX8) (N := 14) hx hb hts hnX8_cells_X8 hown hK hP 0 rfl rfl 0 (by decide) (hts (.fieldLink RX8 7 "RingMeetsModel" "state" "[I") (by decide +kernel)) (fun _ h9 => h9) rfl dX8_cells_1 ?_
  refine lv_iconst (v := 0) hx hb dX8_cells_4 (by decide) ?_
  refine va_iald (D := (dC, dI)) hx hb hK hP 1 0 rfl rfl (show vp_in 0 72 from vp_in_nI (n := 0) (N := 72) (by decide) (by decide)) dX8_cells_5 ?_
  refine lv_topi (fun x_1 ex_1 => ?_)
  have ex_1 : x_1 = fs 0 := ex_1
  obtain rfl : 8 = x_1 := (ex_1.trans (h8)).symm
  exact W.iret (v := 8) hx hb hr (fun t ht hW => ⟨8, rfl, rfl, ht⟩) (fun q h => by cases h) dX8_cells_6

set_option maxHeartbeats 4000000 in
set_option maxRecDepth 100000 in
theorem kX8_isCell (l : Launch) (dC : Nat → ClassId) (dI : Nat → Nat → Nat) (cyI cyZ : ClassId) (h0 st im kp pw nx li il mv so la co : Nat) (d6 d11 d12 : Int32) (fs : Nat → Int32) (h8 : fs 0 = 8) (p1 : Int32) : Met l yX8_isCell wsX8_isCell ({ frames := 1, cells := 0, slots := 0, locals := 22 }) (bs_R dC dI cyI cyZ [.ref h0, .int p1] [(h0, .inr (6, [.ref st, .ref im, .ref kp, .ref pw, .ref nx, .ref li, .int d6, .ref il, .ref mv, .ref so, .ref la, .int d11, .int d12, .ref co])), (st, .inl (cyI, 72, .inl fs))]) (vp_Si (fun r : Int32 => (r = 0 ∨ r = 1) ∧ (r = 1 → 0 ≤ p1.toInt ∧ p1.toInt ≤ 7) ∧ (r = 0 → ¬ (0 ≤ p1.toInt ∧ p1.toInt ≤ 7)))) 0 0 (fun _ => False) := by
  refine Met.ofW (cc := cX8_isCell) (maxL := 2) (ret := (some .boolean)) (by decide) rfl ?_
  intro p e s m args below meth c s₁ B hml hv
  obtain ⟨rfl, hB, hP⟩ := hv
  have hK := hB.1
  have hN := hB.2
  have hx := B.exec
  have hb := B.bytes
  have hr := B.returns
  have hts := atoms_spec (ws := wsX8_isCell) B.pre
  have hown : s.vm.findClass RX8 = some m.cls := findClass_of_methodNamed B.named
  have hlocks := B.notSynchronized
  have hP : va_P (dC, dI) vwCl [(h0, .inr (6, [.ref st, .ref im, .ref kp, .ref pw, .ref nx, .ref li, .int d6, .ref il, .ref mv, .ref so, .ref la, .int d11, .int d12, .ref co])), (st, .inl (cyI, 72, .inl fs))] s.heap := hP
  have hl := lv_entry ([.ref h0, .int p1]) (n := 2) (Nat.le_of_ble_eq_true rfl)
  rw [lg_entry_eq]
  generalize (lg_sl ([.ref h0, .int p1]) ++ List.replicate (2 - (lg_sl ([.ref h0, .int p1])).length) Slot.unset).toArray = ls at hl ⊢
  have hl : lv_has ls 2 [(0, .ref h0), (1, .int p1)] := hl
  refine lv_iload_n hx hb dX8_isCell_0 rfl (lv_at hl 1 rfl) ?_
  refine lv_iconst (v := 0) hx hb dX8_isCell_1 (by decide) ?_
  refine lv_aload_n hx hb dX8_isCell_2 rfl (lv_at hl 0 rfl) ?_
  refine vp_callSi (va_Run.run (va_runV (As := []) (rest := [.int 0, .int p1]) ⟨hx, hb, hml, hown, hts⟩ (kX8_cells l dC dI cyI cyZ h0 st im kp pw nx li il mv so la co d6 d11 d12 fs h8) (cwV 0 hts gX8_isCell_X8_cells rfl rfl rfl (by decide +kernel) ⟨Nat.le_of_ble_eq_true rfl, Nat.le_of_ble_eq_true rfl⟩) (bs_RV hB (hP.sub (ws' := [(h0, .inr (6, [.ref st, .ref im, .ref kp, .ref pw, .ref nx, .ref li, .int d6, .ref il, .ref mv, .ref so, .ref la, .int d11, .int d12, .ref co])), (st, .inl (cyI, 72, .inl fs))]) [0, 1] rfl) 0 rfl rfl) rfl rfl hl.1 rfl (lv_room (Nat.le_of_ble_eq_true rfl)) dX8_isCell_3 ⟨Nat.le_of_ble_eq_true rfl, Nat.le_of_ble_eq_true rfl⟩)) (fun r_1 hr_1 => ?_)
  obtain rfl : r_1 = 8 := hr_1
  refine lv_iconst (v := 1) hx hb dX8_isCell_6 (by decide) ?_
  refine lv_isub hx hb dX8_isCell_7 ?_
  refine lv_topi (fun x_2 ex_2 => ?_)
  obtain rfl : 7 = x_2 := (ex_2.trans (by decide)).symm
  refine vp_callSi (va_Run.run (va_runS (As := [.int p1, .int 0, .int 7]) (rest := []) ⟨hx, hb, hml, hown, hts⟩ (kX8_in l dC dI cyI cyZ p1 0 7 0 7 (by decide) (by decide)) (va_cwS 3 hts gX8_isCell_X8_in rfl rfl rfl (by decide +kernel) ⟨Nat.le_of_ble_eq_true rfl, Nat.le_of_ble_eq_true rfl⟩) (bs_RS hB (hP.sub (ws' := []) [] rfl)) rfl rfl hl.1 rfl (lv_room (Nat.le_of_ble_eq_true rfl)) dX8_isCell_8 ⟨Nat.le_of_ble_eq_true rfl, Nat.le_of_ble_eq_true rfl⟩)) (fun r_3 hr_3 => ?_)
  exact W.zret (v := r_3) hx hb hr (show narrow .boolean (.int r_3) = .int r_3 from nb_nar hr_3.1) (fun t ht hW => ⟨r_3, rfl, hr_3, ht⟩) (fun q h => by cases h) dX8_isCell_11

theorem hnX8_isStand_X8 : ∀ w ∈ wsX80, w ∈ wsX8_isStand := fun _ h => List.mem_cons_of_mem _ (List.mem_append_right _ h)
set_option maxHeartbeats 4000000 in
set_option maxRecDepth 100000 in
theorem kX8_isStand (l : Launch) (dC : Nat → ClassId) (dI : Nat → Nat → Nat) (cyI cyZ : ClassId) (h0 st im kp pw nx li il mv so la co : Nat) (d6 d11 d12 : Int32) (fs : Nat → Int32) (h8 : fs 0 = 8) (hs : ∀ j, 1 ≤ j → fs j = 0) (p1 : Int32) : Met l yX8_isStand wsX8_isStand ({ frames := 2, cells := 0, slots := 0, locals := 43 }) (bs_R dC dI cyI cyZ [.ref h0, .int p1] [(h0, .inr (6, [.ref st, .ref im, .ref kp, .ref pw, .ref nx, .ref li, .int d6, .ref il, .ref mv, .ref so, .ref la, .int d11, .int d12, .ref co])), (st, .inl (cyI, 72, .inl fs))]) (vp_Si (fun r : Int32 => r = 0)) 0 0 (fun _ => False) := by
  refine Met.ofW (cc := cX8_isStand) (maxL := 2) (ret := (some .boolean)) (by decide) rfl ?_
  intro p e s m args below meth c s₁ B hml hv
  obtain ⟨rfl, hB, hP⟩ := hv
  have hK := hB.1
  have hN := hB.2
  have hx := B.exec
  have hb := B.bytes
  have hr := B.returns
  have hts := atoms_spec (ws := wsX8_isStand) B.pre
  have hown : s.vm.findClass RX8 = some m.cls := findClass_of_methodNamed B.named
  have hlocks := B.notSynchronized
  have hP : va_P (dC, dI) vwCl [(h0, .inr (6, [.ref st, .ref im, .ref kp, .ref pw, .ref nx, .ref li, .int d6, .ref il, .ref mv, .ref so, .ref la, .int d11, .int d12, .ref co])), (st, .inl (cyI, 72, .inl fs))] s.heap := hP
  have hl := lv_entry ([.ref h0, .int p1]) (n := 2) (Nat.le_of_ble_eq_true rfl)
  rw [lg_entry_eq]
  generalize (lg_sl ([.ref h0, .int p1]) ++ List.replicate (2 - (lg_sl ([.ref h0, .int p1])).length) Slot.unset).toArray = ls at hl ⊢
  have hl : lv_has ls 2 [(0, .ref h0), (1, .int p1)] := hl
  refine lv_aload_n hx hb dX8_isStand_0 rfl (lv_at hl 0 rfl) ?_
  refine lv_iload_n hx hb dX8_isStand_1 rfl (lv_at hl 1 rfl) ?_
  refine vp_callSi (va_Run.run (va_runV (As := [.int p1]) (rest := []) ⟨hx, hb, hml, hown, hts⟩ (kX8_isCell l dC dI cyI cyZ h0 st im kp pw nx li il mv so la co d6 d11 d12 fs h8 p1) (cwV 1 hts gX8_isStand_X8_isCell rfl rfl rfl (by decide +kernel) ⟨Nat.le_of_ble_eq_true rfl, Nat.le_of_ble_eq_true rfl⟩) (bs_RV hB (hP.sub (ws' := [(h0, .inr (6, [.ref st, .ref im, .ref kp, .ref pw, .ref nx, .ref li, .int d6, .ref il, .ref mv, .ref so, .ref la, .int d11, .int d12, .ref co])), (st, .inl (cyI, 72, .inl fs))]) [0, 1] rfl) 0 rfl rfl) rfl rfl hl.1 rfl (lv_room (Nat.le_of_ble_eq_true rfl)) dX8_isStand_2 ⟨Nat.le_of_ble_eq_true rfl, Nat.le_of_ble_eq_true rfl⟩)) (fun r_1 hr_1 => ?_)
  refine lv_if_eq (tgt := 23) hx hb dX8_isStand_5 (by decide) (fun c_2 => ?_) (fun c_2 => ?_)
  · skip
    have ic_2 := ci_eq (rfl : Int32.toInt r_1 = _) (show Int32.toInt 0 = 0 by decide) c_2
    refine lv_iconst (v := 0) hx hb dX8_isStand_23 (by decide) ?_
    exact W.zret (v := 0) hx hb hr (show narrow .boolean (.int 0) = .int 0 from rfl) (fun t ht hW => ⟨0, rfl, rfl, ht⟩) (fun q h => by cases h) dX8_isStand_24
  · skip
    have ic_2 := ci_ne (rfl : Int32.toInt r_1 = _) (show Int32.toInt 0 = 0 by decide) c_2
    have hs9 := hr_1.2.1 (hr_1.1.resolve_left c_2)
    obtain ⟨a_3, la_3, ea_3⟩ := nb_of (x := p1) (n := 7) (by omega) (by omega) (by decide)
    subst ea_3
    have ta_3 := nI_toInt (n := a_3) (by omega)
    refine lv_aload_n hx hb dX8_isStand_8 rfl (lv_at hl 0 rfl) ?_
    refine va_get (D := (dC, dI)) (ci := 6) (v := .ref st) (C := RX8) (T := TX8) (N := 14) hx hb hts hnX8_isStand_X8 hown hK hP 0 rfl rfl 0 (by decide) (hts (.fieldLink RX8 7 "RingMeetsModel" "state" "[I") (by decide +kernel)) (fun _ h9 => h9) rfl dX8_isStand_9 ?_
    refine lv_iconst (v := 1) hx hb dX8_isStand_12 (by decide) ?_
    refine lv_iload_n hx hb dX8_isStand_13 rfl (lv_at hl 1 rfl) ?_
    refine lv_iadd hx hb dX8_isStand_14 ?_
    refine lv_topi (fun x_4 ex_4 => ?_)
    obtain rfl : (nI (1 + a_3)) = x_4 := (ex_4.trans (nI_add 1 _)).symm
    refine va_iald (D := (dC, dI)) hx hb hK hP 1 0 rfl rfl (vp_in_nI (n := (1 + a_3)) (N := 72) (by omega) (by omega)) dX8_isStand_15 ?_
    refine lv_topi (fun x_5 ex_5 => ?_)
    rw [nI_clamp (n := (1 + a_3)) (by omega)] at ex_5
    obtain rfl : 0 = x_5 := (ex_5.trans (hs _ (by omega))).symm
    refine lv_if_le (tgt := 23) hx hb dX8_isStand_16 (by decide) (fun c_6 => ?_) (fun c_6 => ?_)
    · skip
      refine lv_iconst (v := 0) hx hb dX8_isStand_23 (by decide) ?_
      exact W.zret (v := 0) hx hb hr (show narrow .boolean (.int 0) = .int 0 from rfl) (fun t ht hW => ⟨0, rfl, rfl, ht⟩) (fun q h => by cases h) dX8_isStand_24
    · skip
      exact absurd c_6 (by decide)

theorem hnX8_isRule_X8 : ∀ w ∈ wsX80, w ∈ wsX8_isRule := fun _ h => List.mem_cons_of_mem _ (List.mem_append_right _ h)
set_option maxHeartbeats 4000000 in
set_option maxRecDepth 100000 in
theorem kX8_isRule (l : Launch) (dC : Nat → ClassId) (dI : Nat → Nat → Nat) (cyI cyZ : ClassId) (h0 st im kp pw nx li il mv so la co : Nat) (d6 d11 d12 : Int32) (fs : Nat → Int32) (h8 : fs 0 = 8) (hs : ∀ j, 1 ≤ j → fs j = 0) (p1 : Int32) : Met l yX8_isRule wsX8_isRule ({ frames := 1, cells := 0, slots := 0, locals := 22 }) (bs_R dC dI cyI cyZ [.ref h0, .int p1] [(h0, .inr (6, [.ref st, .ref im, .ref kp, .ref pw, .ref nx, .ref li, .int d6, .ref il, .ref mv, .ref so, .ref la, .int d11, .int d12, .ref co])), (st, .inl (cyI, 72, .inl fs))]) (vp_Si (fun r : Int32 => r = 0)) 0 0 (fun _ => False) := by
  refine Met.ofW (cc := cX8_isRule) (maxL := 2) (ret := (some .boolean)) (by decide) rfl ?_
  intro p e s m args below meth c s₁ B hml hv
  obtain ⟨rfl, hB, hP⟩ := hv
  have hK := hB.1
  have hN := hB.2
  have hx := B.exec
  have hb := B.bytes
  have hr := B.returns
  have hts := atoms_spec (ws := wsX8_isRule) B.pre
  have hown : s.vm.findClass RX8 = some m.cls := findClass_of_methodNamed B.named
  have hlocks := B.notSynchronized
  have hP : va_P (dC, dI) vwCl [(h0, .inr (6, [.ref st, .ref im, .ref kp, .ref pw, .ref nx, .ref li, .int d6, .ref il, .ref mv, .ref so, .ref la, .int d11, .int d12, .ref co])), (st, .inl (cyI, 72, .inl fs))] s.heap := hP
  have hl := lv_entry ([.ref h0, .int p1]) (n := 2) (Nat.le_of_ble_eq_true rfl)
  rw [lg_entry_eq]
  generalize (lg_sl ([.ref h0, .int p1]) ++ List.replicate (2 - (lg_sl ([.ref h0, .int p1])).length) Slot.unset).toArray = ls at hl ⊢
  have hl : lv_has ls 2 [(0, .ref h0), (1, .int p1)] := hl
  refine lv_iload_n hx hb dX8_isRule_0 rfl (lv_at hl 1 rfl) ?_
  refine lv_iconst (v := 0) hx hb dX8_isRule_1 (by decide) ?_
  refine lv_aload_n hx hb dX8_isRule_2 rfl (lv_at hl 0 rfl) ?_
  refine va_get (D := (dC, dI)) (ci := 6) (v := .ref st) (C := RX8) (T := TX8) (N := 14) hx hb hts hnX8_isRule_X8 hown hK hP 0 rfl rfl 0 (by decide) (hts (.fieldLink RX8 7 "RingMeetsModel" "state" "[I") (by decide +kernel)) (fun _ h9 => h9) rfl dX8_isRule_3 ?_
  refine lv_bipush (v := 11) hx hb dX8_isRule_6 (by decide) ?_
  refine va_iald (D := (dC, dI)) hx hb hK hP 1 0 rfl rfl (show vp_in 11 72 from vp_in_nI (n := 11) (N := 72) (by decide) (by decide)) dX8_isRule_8 ?_
  refine lv_topi (fun x_1 ex_1 => ?_)
  have ex_1 : x_1 = fs 11 := ex_1
  obtain rfl : 0 = x_1 := (ex_1.trans (hs _ (by omega))).symm
  refine lv_iconst (v := 1) hx hb dX8_isRule_9 (by decide) ?_
  refine lv_isub hx hb dX8_isRule_10 ?_
  refine lv_topi (fun x_2 ex_2 => ?_)
  obtain rfl : (-1) = x_2 := (ex_2.trans (by decide)).symm
  refine vp_callSi (va_Run.run (va_runS (As := [.int p1, .int 0, .int (-1)]) (rest := []) ⟨hx, hb, hml, hown, hts⟩ (kX8_in l dC dI cyI cyZ p1 0 (-1) 0 (-1) (by decide) (by decide)) (va_cwS 3 hts gX8_isRule_X8_in rfl rfl rfl (by decide +kernel) ⟨Nat.le_of_ble_eq_true rfl, Nat.le_of_ble_eq_true rfl⟩) (bs_RS hB (hP.sub (ws' := []) [] rfl)) rfl rfl hl.1 rfl (lv_room (Nat.le_of_ble_eq_true rfl)) dX8_isRule_11 ⟨Nat.le_of_ble_eq_true rfl, Nat.le_of_ble_eq_true rfl⟩)) (fun r_3 hr_3 => ?_)
  exact W.zret (v := r_3) hx hb hr (show narrow .boolean (.int r_3) = .int r_3 from nb_nar hr_3.1) (fun t ht hW => ⟨r_3, rfl, (hr_3.1.resolve_right (fun q => by have hq := hr_3.2.1 q; omega)), ht⟩) (fun q h => by cases h) dX8_isRule_14

set_option maxHeartbeats 4000000 in
set_option maxRecDepth 100000 in
theorem kX8_isSchedule (l : Launch) (dC : Nat → ClassId) (dI : Nat → Nat → Nat) (cyI cyZ : ClassId) (p0 : Int32) : Met l yX8_isSchedule wsX8_isSchedule ({ frames := 1, cells := 0, slots := 0, locals := 22 }) (bs_R dC dI cyI cyZ [.int p0] []) (vp_Si (fun r : Int32 => (r = 0 ∨ r = 1) ∧ (r = 1 → 0 ≤ p0.toInt ∧ p0.toInt ≤ 2) ∧ (r = 0 → ¬ (0 ≤ p0.toInt ∧ p0.toInt ≤ 2)))) 0 0 (fun _ => False) := by
  refine Met.ofW (cc := cX8_isSchedule) (maxL := 1) (ret := (some .boolean)) (by decide) rfl ?_
  intro p e s m args below meth c s₁ B hml hv
  obtain ⟨rfl, hB, hP⟩ := hv
  have hK := hB.1
  have hN := hB.2
  have hx := B.exec
  have hb := B.bytes
  have hr := B.returns
  have hts := atoms_spec (ws := wsX8_isSchedule) B.pre
  have hown : s.vm.findClass RX8 = some m.cls := findClass_of_methodNamed B.named
  have hlocks := B.notSynchronized
  have hP : va_P (dC, dI) vwCl [] s.heap := hP
  have hl := lv_entry ([.int p0]) (n := 1) (Nat.le_of_ble_eq_true rfl)
  rw [lg_entry_eq]
  generalize (lg_sl ([.int p0]) ++ List.replicate (1 - (lg_sl ([.int p0])).length) Slot.unset).toArray = ls at hl ⊢
  have hl : lv_has ls 1 [(0, .int p0)] := hl
  refine lv_iload_n hx hb dX8_isSchedule_0 rfl (lv_at hl 0 rfl) ?_
  refine lv_iconst (v := 0) hx hb dX8_isSchedule_1 (by decide) ?_
  refine lv_iconst (v := 2) hx hb dX8_isSchedule_2 (by decide) ?_
  refine vp_callSi (va_Run.run (va_runS (As := [.int p0, .int 0, .int 2]) (rest := []) ⟨hx, hb, hml, hown, hts⟩ (kX8_in l dC dI cyI cyZ p0 0 2 0 2 (by decide) (by decide)) (va_cwS 3 hts gX8_isSchedule_X8_in rfl rfl rfl (by decide +kernel) ⟨Nat.le_of_ble_eq_true rfl, Nat.le_of_ble_eq_true rfl⟩) (bs_RS hB (hP.sub (ws' := []) [] rfl)) rfl rfl hl.1 rfl (lv_room (Nat.le_of_ble_eq_true rfl)) dX8_isSchedule_3 ⟨Nat.le_of_ble_eq_true rfl, Nat.le_of_ble_eq_true rfl⟩)) (fun r_1 hr_1 => ?_)
  exact W.zret (v := r_1) hx hb hr (show narrow .boolean (.int r_1) = .int r_1 from nb_nar hr_1.1) (fun t ht hW => ⟨r_1, rfl, hr_1, ht⟩) (fun q h => by cases h) dX8_isSchedule_6

theorem hnX8_walkers_X8 : ∀ w ∈ wsX80, w ∈ wsX8_walkers := fun _ h => List.mem_cons_of_mem _ (List.mem_append_right _ h)
set_option maxHeartbeats 4000000 in
set_option maxRecDepth 100000 in
theorem kX8_walkers (l : Launch) (dC : Nat → ClassId) (dI : Nat → Nat → Nat) (cyI cyZ : ClassId) (h0 st im kp pw nx li il mv so la co : Nat) (d6 d11 d12 : Int32) (fs : Nat → Int32) (h8 : fs 0 = 8) (hs : ∀ j, 1 ≤ j → fs j = 0) : Met l yX8_walkers wsX8_walkers ({ frames := 0, cells := 0, slots := 0, locals := 0 }) (bs_R dC dI cyI cyZ [.ref h0] [(h0, .inr (6, [.ref st, .ref im, .ref kp, .ref pw, .ref nx, .ref li, .int d6, .ref il, .ref mv, .ref so, .ref la, .int d11, .int d12, .ref co])), (st, .inl (cyI, 72, .inl fs))]) (vp_Si (fun r : Int32 => r = 0)) 0 0 (fun _ => False) := by
  refine Met.ofW (cc := cX8_walkers) (maxL := 3) (ret := (some .int)) (by decide) rfl ?_
  intro p e s m args below meth c s₁ B hml hv
  obtain ⟨rfl, hB, hP⟩ := hv
  have hK := hB.1
  have hN := hB.2
  have hx := B.exec
  have hb := B.bytes
  have hr := B.returns
  have hts := atoms_spec (ws := wsX8_walkers) B.pre
  have hown : s.vm.findClass RX8 = some m.cls := findClass_of_methodNamed B.named
  have hlocks := B.notSynchronized
  have hP : va_P (dC, dI) vwCl [(h0, .inr (6, [.ref st, .ref im, .ref kp, .ref pw, .ref nx, .ref li, .int d6, .ref il, .ref mv, .ref so, .ref la, .int d11, .int d12, .ref co])), (st, .inl (cyI, 72, .inl fs))] s.heap := hP
  have hl := lv_entry ([.ref h0]) (n := 3) (Nat.le_of_ble_eq_true rfl)
  rw [lg_entry_eq]
  generalize (lg_sl ([.ref h0]) ++ List.replicate (3 - (lg_sl ([.ref h0])).length) Slot.unset).toArray = ls at hl ⊢
  have hl : lv_has ls 3 [(0, .ref h0)] := hl
  refine lv_iconst (v := 0) hx hb dX8_walkers_0 (by decide) ?_
  refine lv_istore_n (lv' := [(1, .int 0), (0, .ref h0)]) hx hb dX8_walkers_1 rfl hl (by decide) rfl (fun ls hl => ?_)
  refine lv_iconst (v := 0) hx hb dX8_walkers_2 (by decide) ?_
  refine lv_istore_n (lv' := [(2, .int 0), (1, .int 0), (0, .ref h0)]) hx hb dX8_walkers_3 rfl hl (by decide) rfl (fun ls hl => ?_)
  have L4 : ∀ (n4 : Nat), ∀ (k : Nat), (0 ≤ k ∧ k ≤ 10) → (11 ≤ k + n4) → ∀ (ls : Array Slot), lv_has ls 3 [(0, .ref h0), (1, .int 0), (2, .int (nI k))] → W p l e (headSpec wsX8_walkers ({ frames := 0, cells := 0, slots := 0, locals := 0 })).room s m ([.ref h0] : List Value).toArray below meth c s.heap [] 0 0 (MQ below (vp_Si (fun r : Int32 => r = 0)) ([.ref h0] : List Value).toArray s 0 0 (fun _ => False)) (F0 m 4 ls []) := by
    intro n4
    induction n4 with
    | zero =>
      intro k hk4 hn4 ls hl
      exfalso
      omega
    | succ n4 ih4 =>
      intro k hk4 hn4 ls hl
      refine lv_iload_n hx hb dX8_walkers_4 rfl (lv_at hl 2 rfl) ?_
      refine lv_bipush (v := 10) hx hb dX8_walkers_5 (by decide) ?_
      refine lv_icmp_ge (tgt := 27) hx hb dX8_walkers_7 (by decide) (fun c_1 => ?_) (fun c_1 => ?_)
      · skip
        have ic_1 := ci_le (show Int32.toInt 10 = 10 by decide) (nI_toInt (n := k) (by omega)) c_1
        refine lv_iload_n hx hb dX8_walkers_27 rfl (lv_at hl 1 rfl) ?_
        exact W.iret (v := 0) hx hb hr (fun t ht hW => ⟨0, rfl, rfl, ht⟩) (fun q h => by cases h) dX8_walkers_28
      · skip
        have ic_1 := ci_nle (show Int32.toInt 10 = 10 by decide) (nI_toInt (n := k) (by omega)) c_1
        refine lv_iload_n hx hb dX8_walkers_10 rfl (lv_at hl 1 rfl) ?_
        refine lv_aload_n hx hb dX8_walkers_11 rfl (lv_at hl 0 rfl) ?_
        refine va_get (D := (dC, dI)) (ci := 6) (v := .ref st) (C := RX8) (T := TX8) (N := 14) hx hb hts hnX8_walkers_X8 hown hK hP 0 rfl rfl 0 (by decide) (hts (.fieldLink RX8 7 "RingMeetsModel" "state" "[I") (by decide +kernel)) (fun _ h9 => h9) rfl dX8_walkers_12 ?_
        refine lv_iconst (v := 1) hx hb dX8_walkers_15 (by decide) ?_
        refine lv_iload_n hx hb dX8_walkers_16 rfl (lv_at hl 2 rfl) ?_
        refine lv_iadd hx hb dX8_walkers_17 ?_
        refine lv_topi (fun x_2 ex_2 => ?_)
        obtain rfl : (nI (1 + k)) = x_2 := (ex_2.trans (nI_add 1 _)).symm
        refine va_iald (D := (dC, dI)) hx hb hK hP 1 0 rfl rfl (vp_in_nI (n := (1 + k)) (N := 72) (by omega) (by omega)) dX8_walkers_18 ?_
        refine lv_topi (fun x_3 ex_3 => ?_)
        rw [nI_clamp (n := (1 + k)) (by omega)] at ex_3
        obtain rfl : 0 = x_3 := (ex_3.trans (hs _ (by omega))).symm
        refine lv_iadd hx hb dX8_walkers_19 ?_
        refine lv_topi (fun x_4 ex_4 => ?_)
        obtain rfl : 0 = x_4 := (ex_4.trans (by decide)).symm
        refine lv_istore_n (lv' := [(1, .int 0), (0, .ref h0), (2, .int (nI k))]) hx hb dX8_walkers_20 rfl hl (by decide) rfl (fun ls hl => ?_)
        refine lv_iinc (v := (nI (k + 1))) (lv' := [(2, .int (nI (k + 1))), (1, .int 0), (0, .ref h0)]) hx hb dX8_walkers_21 hl (k := 2) rfl (nI_1 _) (by decide) rfl (fun ls hl => ?_)
        refine lv_goto (tgt := 4) hx hb dX8_walkers_24 (by decide) ?_
        exact ih4 (k + 1)  ⟨by omega, by omega⟩ (by omega)  _ (lv_sub hl [2, 1, 0] rfl)
  exact L4 11 0  ⟨by omega, by omega⟩ (by omega)  _ (lv_sub hl [2, 1, 0] rfl)

set_option maxHeartbeats 4000000 in
set_option maxRecDepth 100000 in
theorem kX8_size (l : Launch) (dC : Nat → ClassId) (dI : Nat → Nat → Nat) (cyI cyZ : ClassId) (p0 : Int32) : Met l yX8_size wsX8_size ({ frames := 0, cells := 0, slots := 0, locals := 0 }) (bs_R dC dI cyI cyZ [.int p0] []) (vp_Si (fun r : Int32 => r = nb_sz p0 10)) 0 0 (fun _ => False) := by
  refine Met.ofW (cc := cX8_size) (maxL := 3) (ret := (some .int)) (by decide) rfl ?_
  intro p e s m args below meth c s₁ B hml hv
  obtain ⟨rfl, hB, hP⟩ := hv
  have hK := hB.1
  have hN := hB.2
  have hx := B.exec
  have hb := B.bytes
  have hr := B.returns
  have hts := atoms_spec (ws := wsX8_size) B.pre
  have hown : s.vm.findClass RX8 = some m.cls := findClass_of_methodNamed B.named
  have hlocks := B.notSynchronized
  have hP : va_P (dC, dI) vwCl [] s.heap := hP
  have hl := lv_entry ([.int p0]) (n := 3) (Nat.le_of_ble_eq_true rfl)
  rw [lg_entry_eq]
  generalize (lg_sl ([.int p0]) ++ List.replicate (3 - (lg_sl ([.int p0])).length) Slot.unset).toArray = ls at hl ⊢
  have hl : lv_has ls 3 [(0, .int p0)] := hl
  refine lv_iconst (v := 0) hx hb dX8_size_0 (by decide) ?_
  refine lv_istore_n (lv' := [(1, .int 0), (0, .int p0)]) hx hb dX8_size_1 rfl hl (by decide) rfl (fun ls hl => ?_)
  refine lv_iconst (v := 0) hx hb dX8_size_2 (by decide) ?_
  refine lv_istore_n (lv' := [(2, .int 0), (1, .int 0), (0, .int p0)]) hx hb dX8_size_3 rfl hl (by decide) rfl (fun ls hl => ?_)
  have L4 : ∀ (n4 : Nat), ∀ (k : Nat), (0 ≤ k ∧ k ≤ 10) → (11 ≤ k + n4) → ∀ (ls : Array Slot), lv_has ls 3 [(0, .int p0), (1, .int (nb_sz p0 k)), (2, .int (nI k))] → W p l e (headSpec wsX8_size ({ frames := 0, cells := 0, slots := 0, locals := 0 })).room s m ([.int p0] : List Value).toArray below meth c s.heap [] 0 0 (MQ below (vp_Si (fun r : Int32 => r = nb_sz p0 10)) ([.int p0] : List Value).toArray s 0 0 (fun _ => False)) (F0 m 4 ls []) := by
    intro n4
    induction n4 with
    | zero =>
      intro k hk4 hn4 ls hl
      exfalso
      omega
    | succ n4 ih4 =>
      intro k hk4 hn4 ls hl
      refine lv_iload_n hx hb dX8_size_4 rfl (lv_at hl 2 rfl) ?_
      refine lv_bipush (v := 10) hx hb dX8_size_5 (by decide) ?_
      refine lv_icmp_ge (tgt := 24) hx hb dX8_size_7 (by decide) (fun c_1 => ?_) (fun c_1 => ?_)
      · skip
        have ic_1 := ci_le (show Int32.toInt 10 = 10 by decide) (nI_toInt (n := k) (by omega)) c_1
        refine lv_iload_n hx hb dX8_size_24 rfl (lv_at hl 1 rfl) ?_
        exact W.iret (v := (nb_sz p0 k)) hx hb hr (fun t ht hW => ⟨(nb_sz p0 k), rfl, (show nb_sz p0 k = nb_sz p0 10 by rw [show k = 10 by omega]), ht⟩) (fun q h => by cases h) dX8_size_25
      · skip
        have ic_1 := ci_nle (show Int32.toInt 10 = 10 by decide) (nI_toInt (n := k) (by omega)) c_1
        refine lv_iload_n hx hb dX8_size_10 rfl (lv_at hl 1 rfl) ?_
        refine lv_iload_n hx hb dX8_size_11 rfl (lv_at hl 0 rfl) ?_
        refine lv_iload_n hx hb dX8_size_12 rfl (lv_at hl 2 rfl) ?_
        refine lv_ishr hx hb dX8_size_13 ?_
        refine lv_topi (fun x_2 ex_2 => ?_)
        refine lv_iconst (v := 1) hx hb dX8_size_14 (by decide) ?_
        refine lv_iand hx hb dX8_size_15 ?_
        refine lv_topi (fun x_3 ex_3 => ?_)
        refine lv_iadd hx hb dX8_size_16 ?_
        refine lv_topi (fun x_4 ex_4 => ?_)
        obtain rfl : (nb_sz p0 (k + 1)) = x_4 := (ex_4.trans (by rw [ex_3, ex_2]; rfl)).symm
        refine lv_istore_n (lv' := [(1, .int (nb_sz p0 (k + 1))), (0, .int p0), (2, .int (nI k))]) hx hb dX8_size_17 rfl hl (by decide) rfl (fun ls hl => ?_)
        refine lv_iinc (v := (nI (k + 1))) (lv' := [(2, .int (nI (k + 1))), (1, .int (nb_sz p0 (k + 1))), (0, .int p0)]) hx hb dX8_size_18 hl (k := 2) rfl (nI_1 _) (by decide) rfl (fun ls hl => ?_)
        refine lv_goto (tgt := 4) hx hb dX8_size_21 (by decide) ?_
        exact ih4 (k + 1)  ⟨by omega, by omega⟩ (by omega)  _ (lv_sub hl [2, 1, 0] rfl)
  exact L4 11 0  ⟨by omega, by omega⟩ (by omega)  _ (lv_sub hl [2, 1, 0] rfl)

theorem hnX8_now_X8 : ∀ w ∈ wsX80, w ∈ wsX8_now := fun _ h => List.mem_cons_of_mem _ (List.mem_append_right _ h)
set_option maxHeartbeats 4000000 in
set_option maxRecDepth 100000 in
theorem kX8_now (l : Launch) (dC : Nat → ClassId) (dI : Nat → Nat → Nat) (cyI cyZ : ClassId) (h0 st im kp pw nx li il mv so la co : Nat) (d6 d11 d12 : Int32) (fs : Nat → Int32) (h8 : fs 0 = 8) (hs : ∀ j, 1 ≤ j → fs j = 0) (fp : Nat → Int32) (hp : ∀ j, j ≤ 10 → fp j = nI (3 ^ j)) : Met l yX8_now wsX8_now ({ frames := 1, cells := 0, slots := 0, locals := 20 }) (bs_R dC dI cyI cyZ [.ref h0] [(h0, .inr (6, [.ref st, .ref im, .ref kp, .ref pw, .ref nx, .ref li, .int d6, .ref il, .ref mv, .ref so, .ref la, .int d11, .int d12, .ref co])), (st, .inl (cyI, 72, .inl fs)), (pw, .inl (cyI, 11, .inl fp))]) (vp_Si (fun r : Int32 => r = 0)) 0 0 (fun _ => False) := by
  refine Met.ofW (cc := cX8_now) (maxL := 4) (ret := (some .int)) (by decide) rfl ?_
  intro p e s m args below meth c s₁ B hml hv
  obtain ⟨rfl, hB, hP⟩ := hv
  have hK := hB.1
  have hN := hB.2
  have hx := B.exec
  have hb := B.bytes
  have hr := B.returns
  have hts := atoms_spec (ws := wsX8_now) B.pre
  have hown : s.vm.findClass RX8 = some m.cls := findClass_of_methodNamed B.named
  have hlocks := B.notSynchronized
  have hP : va_P (dC, dI) vwCl [(h0, .inr (6, [.ref st, .ref im, .ref kp, .ref pw, .ref nx, .ref li, .int d6, .ref il, .ref mv, .ref so, .ref la, .int d11, .int d12, .ref co])), (st, .inl (cyI, 72, .inl fs)), (pw, .inl (cyI, 11, .inl fp))] s.heap := hP
  have hl := lv_entry ([.ref h0]) (n := 4) (Nat.le_of_ble_eq_true rfl)
  rw [lg_entry_eq]
  generalize (lg_sl ([.ref h0]) ++ List.replicate (4 - (lg_sl ([.ref h0])).length) Slot.unset).toArray = ls at hl ⊢
  have hl : lv_has ls 4 [(0, .ref h0)] := hl
  refine lv_iconst (v := 0) hx hb dX8_now_0 (by decide) ?_
  refine lv_istore_n (lv' := [(1, .int 0), (0, .ref h0)]) hx hb dX8_now_1 rfl hl (by decide) rfl (fun ls hl => ?_)
  refine lv_iconst (v := 0) hx hb dX8_now_2 (by decide) ?_
  refine lv_istore_n (lv' := [(2, .int 0), (1, .int 0), (0, .ref h0)]) hx hb dX8_now_3 rfl hl (by decide) rfl (fun ls hl => ?_)
  have L4 : ∀ (n4 : Nat), ∀ (k : Nat), (0 ≤ k ∧ k ≤ 8) → (9 ≤ k + n4) → ∀ (ls : Array Slot), lv_has ls 4 [(0, .ref h0), (1, .int 0), (2, .int (nI k))] → W p l e (headSpec wsX8_now ({ frames := 1, cells := 0, slots := 0, locals := 20 })).room s m ([.ref h0] : List Value).toArray below meth c s.heap [] 0 0 (MQ below (vp_Si (fun r : Int32 => r = 0)) ([.ref h0] : List Value).toArray s 0 0 (fun _ => False)) (F0 m 4 ls []) := by
    intro n4
    induction n4 with
    | zero =>
      intro k hk4 hn4 ls hl
      exfalso
      omega
    | succ n4 ih4 =>
      intro k hk4 hn4 ls hl
      refine lv_iload_n hx hb dX8_now_4 rfl (lv_at hl 2 rfl) ?_
      refine lv_aload_n hx hb dX8_now_5 rfl (lv_at hl 0 rfl) ?_
      refine vp_callSi (va_Run.run (va_runV (As := []) (rest := [.int (nI k)]) ⟨hx, hb, hml, hown, hts⟩ (kX8_cells l dC dI cyI cyZ h0 st im kp pw nx li il mv so la co d6 d11 d12 fs h8) (cwV 0 hts gX8_now_X8_cells rfl rfl rfl (by decide +kernel) ⟨Nat.le_of_ble_eq_true rfl, Nat.le_of_ble_eq_true rfl⟩) (bs_RV hB (hP.sub (ws' := [(h0, .inr (6, [.ref st, .ref im, .ref kp, .ref pw, .ref nx, .ref li, .int d6, .ref il, .ref mv, .ref so, .ref la, .int d11, .int d12, .ref co])), (st, .inl (cyI, 72, .inl fs))]) [0, 1] rfl) 0 rfl rfl) rfl rfl hl.1 rfl (lv_room (Nat.le_of_ble_eq_true rfl)) dX8_now_6 ⟨Nat.le_of_ble_eq_true rfl, Nat.le_of_ble_eq_true rfl⟩)) (fun r_1 hr_1 => ?_)
      obtain rfl : r_1 = 8 := hr_1
      refine lv_icmp_ge (tgt := 47) hx hb dX8_now_9 (by decide) (fun c_2 => ?_) (fun c_2 => ?_)
      · skip
        have ic_2 := ci_le (show Int32.toInt 8 = 8 by decide) (nI_toInt (n := k) (by omega)) c_2
        refine lv_iload_n hx hb dX8_now_47 rfl (lv_at hl 1 rfl) ?_
        exact W.iret (v := 0) hx hb hr (fun t ht hW => ⟨0, rfl, rfl, ht⟩) (fun q h => by cases h) dX8_now_48
      · skip
        have ic_2 := ci_nle (show Int32.toInt 8 = 8 by decide) (nI_toInt (n := k) (by omega)) c_2
        refine lv_aload_n hx hb dX8_now_12 rfl (lv_at hl 0 rfl) ?_
        refine va_get (D := (dC, dI)) (ci := 6) (v := .ref st) (C := RX8) (T := TX8) (N := 14) hx hb hts hnX8_now_X8 hown hK hP 0 rfl rfl 0 (by decide) (hts (.fieldLink RX8 7 "RingMeetsModel" "state" "[I") (by decide +kernel)) (fun _ h9 => h9) rfl dX8_now_13 ?_
        refine lv_iconst (v := 1) hx hb dX8_now_16 (by decide) ?_
        refine lv_iload_n hx hb dX8_now_17 rfl (lv_at hl 2 rfl) ?_
        refine lv_iadd hx hb dX8_now_18 ?_
        refine lv_topi (fun x_3 ex_3 => ?_)
        obtain rfl : (nI (1 + k)) = x_3 := (ex_3.trans (nI_add 1 _)).symm
        refine va_iald (D := (dC, dI)) hx hb hK hP 1 0 rfl rfl (vp_in_nI (n := (1 + k)) (N := 72) (by omega) (by omega)) dX8_now_19 ?_
        refine lv_topi (fun x_4 ex_4 => ?_)
        rw [nI_clamp (n := (1 + k)) (by omega)] at ex_4
        obtain rfl : 0 = x_4 := (ex_4.trans (hs _ (by omega))).symm
        refine lv_istore_n (lv' := [(3, .int 0), (0, .ref h0), (1, .int 0), (2, .int (nI k))]) hx hb dX8_now_20 rfl hl (by decide) rfl (fun ls hl => ?_)
        refine lv_iload_n hx hb dX8_now_21 rfl (lv_at hl 2 rfl) ?_
        refine lv_aload_n hx hb dX8_now_22 rfl (lv_at hl 1 rfl) ?_
        refine va_get (D := (dC, dI)) (ci := 6) (v := .ref pw) (C := RX8) (T := TX8) (N := 14) hx hb hts hnX8_now_X8 hown hK hP 0 rfl rfl 3 (by decide) (hts (.fieldLink RX8 20 "RingMeetsModel" "power" "[I") (by decide +kernel)) (fun _ h9 => h9) rfl dX8_now_23 ?_
        refine lv_iload_n hx hb dX8_now_26 rfl (lv_at hl 3 rfl) ?_
        refine va_iald (D := (dC, dI)) hx hb hK hP 2 0 rfl rfl (vp_in_nI (n := k) (N := 11) (by omega) (by omega)) dX8_now_27 ?_
        refine lv_topi (fun x_5 ex_5 => ?_)
        rw [nI_clamp (n := k) (by omega)] at ex_5
        obtain rfl : (nI (3 ^ k)) = x_5 := (ex_5.trans (hp _ (by omega))).symm
        refine lv_iload_n hx hb dX8_now_28 rfl (lv_at hl 0 rfl) ?_
        refine lv_iconst (v := 1) hx hb dX8_now_29 (by decide) ?_
        refine lv_icmp_le (tgt := 37) hx hb dX8_now_30 (by decide) (fun c_6 => ?_) (fun c_6 => ?_)
        · skip
          refine lv_iload_n hx hb dX8_now_37 rfl (lv_at hl 0 rfl) ?_
          refine lv_imul hx hb dX8_now_38 ?_
          refine lv_topi (fun x_7 ex_7 => ?_)
          obtain rfl : 0 = x_7 := (ex_7.trans (Int32.mul_zero)).symm
          refine lv_iadd hx hb dX8_now_39 ?_
          refine lv_topi (fun x_8 ex_8 => ?_)
          obtain rfl : 0 = x_8 := (ex_8.trans (by decide)).symm
          refine lv_istore_n (lv' := [(1, .int 0), (3, .int 0), (0, .ref h0), (2, .int (nI k))]) hx hb dX8_now_40 rfl hl (by decide) rfl (fun ls hl => ?_)
          refine lv_iinc (v := (nI (k + 1))) (lv' := [(2, .int (nI (k + 1))), (1, .int 0), (3, .int 0), (0, .ref h0)]) hx hb dX8_now_41 hl (k := 3) rfl (nI_1 _) (by decide) rfl (fun ls hl => ?_)
          refine lv_goto (tgt := 4) hx hb dX8_now_44 (by decide) ?_
          exact ih4 (k + 1)  ⟨by omega, by omega⟩ (by omega)  _ (lv_sub hl [3, 1, 0] rfl)
        · skip
          exact absurd c_6 (by decide)
  exact L4 9 0  ⟨by omega, by omega⟩ (by omega)  _ (lv_sub hl [2, 1, 0] rfl)

theorem hnX8_standsOf_X8 : ∀ w ∈ wsX80, w ∈ wsX8_standsOf := fun _ h => List.mem_cons_of_mem _ (List.mem_append_right _ h)
set_option maxHeartbeats 4000000 in
set_option maxRecDepth 100000 in
theorem kX8_standsOf (l : Launch) (dC : Nat → ClassId) (dI : Nat → Nat → Nat) (cyI cyZ : ClassId) (h0 st im kp pw nx li il mv so la co : Nat) (d6 d11 d12 : Int32) (fs : Nat → Int32) (h8 : fs 0 = 8) (fp : Nat → Int32) (hp : ∀ j, j ≤ 10 → fp j = nI (3 ^ j)) (p1 : Int32) : Met l yX8_standsOf wsX8_standsOf ({ frames := 1, cells := 0, slots := 0, locals := 20 }) (bs_R dC dI cyI cyZ [.ref h0, .int p1] [(h0, .inr (6, [.ref st, .ref im, .ref kp, .ref pw, .ref nx, .ref li, .int d6, .ref il, .ref mv, .ref so, .ref la, .int d11, .int d12, .ref co])), (st, .inl (cyI, 72, .inl fs)), (pw, .inl (cyI, 11, .inl fp))]) (vp_Si (fun r : Int32 => r = nb_st p1 8)) 0 0 (fun _ => False) := by
  refine Met.ofW (cc := cX8_standsOf) (maxL := 4) (ret := (some .int)) (by decide) rfl ?_
  intro p e s m args below meth c s₁ B hml hv
  obtain ⟨rfl, hB, hP⟩ := hv
  have hK := hB.1
  have hN := hB.2
  have hx := B.exec
  have hb := B.bytes
  have hr := B.returns
  have hts := atoms_spec (ws := wsX8_standsOf) B.pre
  have hown : s.vm.findClass RX8 = some m.cls := findClass_of_methodNamed B.named
  have hlocks := B.notSynchronized
  have hP : va_P (dC, dI) vwCl [(h0, .inr (6, [.ref st, .ref im, .ref kp, .ref pw, .ref nx, .ref li, .int d6, .ref il, .ref mv, .ref so, .ref la, .int d11, .int d12, .ref co])), (st, .inl (cyI, 72, .inl fs)), (pw, .inl (cyI, 11, .inl fp))] s.heap := hP
  have hl := lv_entry ([.ref h0, .int p1]) (n := 4) (Nat.le_of_ble_eq_true rfl)
  rw [lg_entry_eq]
  generalize (lg_sl ([.ref h0, .int p1]) ++ List.replicate (4 - (lg_sl ([.ref h0, .int p1])).length) Slot.unset).toArray = ls at hl ⊢
  have hl : lv_has ls 4 [(0, .ref h0), (1, .int p1)] := hl
  refine lv_iconst (v := 0) hx hb dX8_standsOf_0 (by decide) ?_
  refine lv_istore_n (lv' := [(2, .int 0), (0, .ref h0), (1, .int p1)]) hx hb dX8_standsOf_1 rfl hl (by decide) rfl (fun ls hl => ?_)
  refine lv_iconst (v := 0) hx hb dX8_standsOf_2 (by decide) ?_
  refine lv_istore_n (lv' := [(3, .int 0), (2, .int 0), (0, .ref h0), (1, .int p1)]) hx hb dX8_standsOf_3 rfl hl (by decide) rfl (fun ls hl => ?_)
  have L4 : ∀ (n4 : Nat), ∀ (k : Nat), (0 ≤ k ∧ k ≤ 8) → (9 ≤ k + n4) → ∀ (ls : Array Slot), lv_has ls 4 [(0, .ref h0), (1, .int p1), (2, .int (nb_st p1 k)), (3, .int (nI k))] → W p l e (headSpec wsX8_standsOf ({ frames := 1, cells := 0, slots := 0, locals := 20 })).room s m ([.ref h0, .int p1] : List Value).toArray below meth c s.heap [] 0 0 (MQ below (vp_Si (fun r : Int32 => r = nb_st p1 8)) ([.ref h0, .int p1] : List Value).toArray s 0 0 (fun _ => False)) (F0 m 4 ls []) := by
    intro n4
    induction n4 with
    | zero =>
      intro k hk4 hn4 ls hl
      exfalso
      omega
    | succ n4 ih4 =>
      intro k hk4 hn4 ls hl
      refine lv_iload_n hx hb dX8_standsOf_4 rfl (lv_at hl 3 rfl) ?_
      refine lv_aload_n hx hb dX8_standsOf_5 rfl (lv_at hl 0 rfl) ?_
      refine vp_callSi (va_Run.run (va_runV (As := []) (rest := [.int (nI k)]) ⟨hx, hb, hml, hown, hts⟩ (kX8_cells l dC dI cyI cyZ h0 st im kp pw nx li il mv so la co d6 d11 d12 fs h8) (cwV 0 hts gX8_standsOf_X8_cells rfl rfl rfl (by decide +kernel) ⟨Nat.le_of_ble_eq_true rfl, Nat.le_of_ble_eq_true rfl⟩) (bs_RV hB (hP.sub (ws' := [(h0, .inr (6, [.ref st, .ref im, .ref kp, .ref pw, .ref nx, .ref li, .int d6, .ref il, .ref mv, .ref so, .ref la, .int d11, .int d12, .ref co])), (st, .inl (cyI, 72, .inl fs))]) [0, 1] rfl) 0 rfl rfl) rfl rfl hl.1 rfl (lv_room (Nat.le_of_ble_eq_true rfl)) dX8_standsOf_6 ⟨Nat.le_of_ble_eq_true rfl, Nat.le_of_ble_eq_true rfl⟩)) (fun r_1 hr_1 => ?_)
      obtain rfl : r_1 = 8 := hr_1
      refine lv_icmp_ge (tgt := 41) hx hb dX8_standsOf_9 (by decide) (fun c_2 => ?_) (fun c_2 => ?_)
      · skip
        have ic_2 := ci_le (show Int32.toInt 8 = 8 by decide) (nI_toInt (n := k) (by omega)) c_2
        refine lv_iload_n hx hb dX8_standsOf_41 rfl (lv_at hl 2 rfl) ?_
        exact W.iret (v := (nb_st p1 k)) hx hb hr (fun t ht hW => ⟨(nb_st p1 k), rfl, (show nb_st p1 k = nb_st p1 8 by rw [show k = 8 by omega]), ht⟩) (fun q h => by cases h) dX8_standsOf_42
      · skip
        have ic_2 := ci_nle (show Int32.toInt 8 = 8 by decide) (nI_toInt (n := k) (by omega)) c_2
        refine lv_iload_n hx hb dX8_standsOf_12 rfl (lv_at hl 2 rfl) ?_
        refine lv_iload_n hx hb dX8_standsOf_13 rfl (lv_at hl 1 rfl) ?_
        refine lv_aload_n hx hb dX8_standsOf_14 rfl (lv_at hl 0 rfl) ?_
        refine va_get (D := (dC, dI)) (ci := 6) (v := .ref pw) (C := RX8) (T := TX8) (N := 14) hx hb hts hnX8_standsOf_X8 hown hK hP 0 rfl rfl 3 (by decide) (hts (.fieldLink RX8 20 "RingMeetsModel" "power" "[I") (by decide +kernel)) (fun _ h9 => h9) rfl dX8_standsOf_15 ?_
        refine lv_iload_n hx hb dX8_standsOf_18 rfl (lv_at hl 3 rfl) ?_
        refine va_iald (D := (dC, dI)) hx hb hK hP 2 0 rfl rfl (vp_in_nI (n := k) (N := 11) (by omega) (by omega)) dX8_standsOf_19 ?_
        refine lv_topi (fun x_3 ex_3 => ?_)
        rw [nI_clamp (n := k) (by omega)] at ex_3
        obtain rfl : (nI (3 ^ k)) = x_3 := (ex_3.trans (hp _ (by omega))).symm
        refine lv_idiv hx hb dX8_standsOf_20 (nb_p3 (by omega)) ?_
        refine lv_topi (fun x_4 ex_4 => ?_)
        refine lv_iconst (v := 3) hx hb dX8_standsOf_21 (by decide) ?_
        refine lv_irem hx hb dX8_standsOf_22 (by decide) ?_
        refine lv_topi (fun x_5 ex_5 => ?_)
        refine lv_if_le (tgt := 32) hx hb dX8_standsOf_23 (by decide) (fun c_6 => ?_) (fun c_6 => ?_)
        · skip
          have ic_6 := ci_le (rfl : Int32.toInt x_5 = _) (show Int32.toInt 0 = 0 by decide) c_6
          refine lv_iconst (v := 0) hx hb dX8_standsOf_32 (by decide) ?_
          refine lv_ior hx hb dX8_standsOf_33 ?_
          refine lv_topi (fun x_7 ex_7 => ?_)
          obtain rfl : (nb_st p1 (k + 1)) = x_7 := (ex_7.trans (by rw [nb_st, show nb_dg p1 k = x_5 by rw [ex_5, ex_4]; rfl, if_pos c_6])).symm
          refine lv_istore_n (lv' := [(2, .int (nb_st p1 (k + 1))), (0, .ref h0), (1, .int p1), (3, .int (nI k))]) hx hb dX8_standsOf_34 rfl hl (by decide) rfl (fun ls hl => ?_)
          refine lv_iinc (v := (nI (k + 1))) (lv' := [(3, .int (nI (k + 1))), (2, .int (nb_st p1 (k + 1))), (0, .ref h0), (1, .int p1)]) hx hb dX8_standsOf_35 hl (k := 3) rfl (nI_1 _) (by decide) rfl (fun ls hl => ?_)
          refine lv_goto (tgt := 4) hx hb dX8_standsOf_38 (by decide) ?_
          exact ih4 (k + 1)  ⟨by omega, by omega⟩ (by omega)  _ (lv_sub hl [2, 3, 1, 0] rfl)
        · skip
          have ic_6 := ci_nle (rfl : Int32.toInt x_5 = _) (show Int32.toInt 0 = 0 by decide) c_6
          refine lv_iconst (v := 1) hx hb dX8_standsOf_26 (by decide) ?_
          refine lv_iload_n hx hb dX8_standsOf_27 rfl (lv_at hl 3 rfl) ?_
          refine lv_ishl hx hb dX8_standsOf_28 ?_
          refine lv_topi (fun x_8 ex_8 => ?_)
          refine lv_goto (tgt := 33) hx hb dX8_standsOf_29 (by decide) ?_
          refine lv_ior hx hb dX8_standsOf_33 ?_
          refine lv_topi (fun x_9 ex_9 => ?_)
          obtain rfl : (nb_st p1 (k + 1)) = x_9 := (ex_9.trans (by rw [nb_st, show nb_dg p1 k = x_5 by rw [ex_5, ex_4]; rfl, if_neg c_6, ex_8])).symm
          refine lv_istore_n (lv' := [(2, .int (nb_st p1 (k + 1))), (0, .ref h0), (1, .int p1), (3, .int (nI k))]) hx hb dX8_standsOf_34 rfl hl (by decide) rfl (fun ls hl => ?_)
          refine lv_iinc (v := (nI (k + 1))) (lv' := [(3, .int (nI (k + 1))), (2, .int (nb_st p1 (k + 1))), (0, .ref h0), (1, .int p1)]) hx hb dX8_standsOf_35 hl (k := 3) rfl (nI_1 _) (by decide) rfl (fun ls hl => ?_)
          refine lv_goto (tgt := 4) hx hb dX8_standsOf_38 (by decide) ?_
          exact ih4 (k + 1)  ⟨by omega, by omega⟩ (by omega)  _ (lv_sub hl [2, 3, 1, 0] rfl)
  exact L4 9 0  ⟨by omega, by omega⟩ (by omega)  _ (lv_sub hl [2, 3, 1, 0] rfl)

set_option maxHeartbeats 4000000 in
set_option maxRecDepth 100000 in
theorem kX8_has (l : Launch) (dC : Nat → ClassId) (dI : Nat → Nat → Nat) (cyI cyZ : ClassId) (p0 p1 : Int32) : Met l yX8_has wsX8_has ({ frames := 0, cells := 0, slots := 0, locals := 0 }) (bs_R dC dI cyI cyZ [.int p0, .int p1] []) (vp_Si (fun r : Int32 => (r = 0 ∨ r = 1) ∧ (p0 = 0 → r = 0) ∧ r = nb_h p0 p1)) 0 0 (fun _ => False) := by
  refine Met.ofW (cc := cX8_has) (maxL := 2) (ret := (some .boolean)) (by decide) rfl ?_
  intro p e s m args below meth c s₁ B hml hv
  obtain ⟨rfl, hB, hP⟩ := hv
  have hK := hB.1
  have hN := hB.2
  have hx := B.exec
  have hb := B.bytes
  have hr := B.returns
  have hts := atoms_spec (ws := wsX8_has) B.pre
  have hown : s.vm.findClass RX8 = some m.cls := findClass_of_methodNamed B.named
  have hlocks := B.notSynchronized
  have hP : va_P (dC, dI) vwCl [] s.heap := hP
  have hl := lv_entry ([.int p0, .int p1]) (n := 2) (Nat.le_of_ble_eq_true rfl)
  rw [lg_entry_eq]
  generalize (lg_sl ([.int p0, .int p1]) ++ List.replicate (2 - (lg_sl ([.int p0, .int p1])).length) Slot.unset).toArray = ls at hl ⊢
  have hl : lv_has ls 2 [(0, .int p0), (1, .int p1)] := hl
  refine lv_iload_n hx hb dX8_has_0 rfl (lv_at hl 0 rfl) ?_
  refine lv_iload_n hx hb dX8_has_1 rfl (lv_at hl 1 rfl) ?_
  refine lv_ishr hx hb dX8_has_2 ?_
  refine lv_topi (fun x_1 ex_1 => ?_)
  refine lv_iconst (v := 1) hx hb dX8_has_3 (by decide) ?_
  refine lv_iand hx hb dX8_has_4 ?_
  refine lv_topi (fun x_2 ex_2 => ?_)
  refine lv_iconst (v := 1) hx hb dX8_has_5 (by decide) ?_
  refine lv_icmp_ne (tgt := 13) hx hb dX8_has_6 (by decide) (fun c_3 => ?_) (fun c_3 => ?_)
  · skip
    have ic_3 := ci_ne (rfl : Int32.toInt x_2 = _) (show Int32.toInt 1 = 1 by decide) c_3
    refine lv_iconst (v := 0) hx hb dX8_has_13 (by decide) ?_
    exact W.zret (v := 0) hx hb hr (show narrow .boolean (.int 0) = .int 0 from rfl) (fun t ht hW => ⟨0, rfl, ⟨Or.inl rfl, fun _ => rfl, (show (0 : Int32) = nb_h p0 p1 by unfold nb_h; rw [if_neg (by rw [← ex_1, ← ex_2]; exact c_3)])⟩, ht⟩) (fun q h => by cases h) dX8_has_14
  · skip
    have ic_3 := ci_eq (rfl : Int32.toInt x_2 = _) (show Int32.toInt 1 = 1 by decide) c_3
    refine lv_iconst (v := 1) hx hb dX8_has_9 (by decide) ?_
    refine lv_goto (tgt := 14) hx hb dX8_has_10 (by decide) ?_
    exact W.zret (v := 1) hx hb hr (show narrow .boolean (.int 1) = .int 1 from rfl) (fun t ht hW => ⟨1, rfl, ⟨Or.inr rfl, fun h => absurd (show x_2 = 0 by rw [ex_2, ex_1, h, nb_shr0]; rfl) (by rw [c_3]; decide), (show (1 : Int32) = nb_h p0 p1 by unfold nb_h; rw [if_pos (by rw [← ex_1, ← ex_2]; exact c_3)])⟩, ht⟩) (fun q h => by cases h) dX8_has_14

set_option maxHeartbeats 4000000 in
set_option maxRecDepth 100000 in
theorem kX8_isTurned (l : Launch) (dC : Nat → ClassId) (dI : Nat → Nat → Nat) (cyI cyZ : ClassId) (h0 st im kp pw nx li il mv so la co : Nat) (d6 d11 d12 : Int32) (fs : Nat → Int32) (h8 : fs 0 = 8) : Met l yX8_isTurned wsX8_isTurned ({ frames := 1, cells := 0, slots := 0, locals := 21 }) (bs_R dC dI cyI cyZ [.ref h0, .int 0] [(h0, .inr (6, [.ref st, .ref im, .ref kp, .ref pw, .ref nx, .ref li, .int d6, .ref il, .ref mv, .ref so, .ref la, .int d11, .int d12, .ref co])), (st, .inl (cyI, 72, .inl fs))]) (vp_Si (fun r : Int32 => r = 0)) 0 0 (fun _ => False) := by
  refine Met.ofW (cc := cX8_isTurned) (maxL := 5) (ret := (some .boolean)) (by decide) rfl ?_
  intro p e s m args below meth c s₁ B hml hv
  obtain ⟨rfl, hB, hP⟩ := hv
  have hK := hB.1
  have hN := hB.2
  have hx := B.exec
  have hb := B.bytes
  have hr := B.returns
  have hts := atoms_spec (ws := wsX8_isTurned) B.pre
  have hown : s.vm.findClass RX8 = some m.cls := findClass_of_methodNamed B.named
  have hlocks := B.notSynchronized
  have hP : va_P (dC, dI) vwCl [(h0, .inr (6, [.ref st, .ref im, .ref kp, .ref pw, .ref nx, .ref li, .int d6, .ref il, .ref mv, .ref so, .ref la, .int d11, .int d12, .ref co])), (st, .inl (cyI, 72, .inl fs))] s.heap := hP
  have hl := lv_entry ([.ref h0, .int 0]) (n := 5) (Nat.le_of_ble_eq_true rfl)
  rw [lg_entry_eq]
  generalize (lg_sl ([.ref h0, .int 0]) ++ List.replicate (5 - (lg_sl ([.ref h0, .int 0])).length) Slot.unset).toArray = ls at hl ⊢
  have hl : lv_has ls 5 [(0, .ref h0), (1, .int 0)] := hl
  refine lv_iconst (v := 0) hx hb dX8_isTurned_0 (by decide) ?_
  refine lv_istore_n (lv' := [(2, .int 0), (0, .ref h0), (1, .int 0)]) hx hb dX8_isTurned_1 rfl hl (by decide) rfl (fun ls hl => ?_)
  refine lv_iconst (v := 0) hx hb dX8_isTurned_2 (by decide) ?_
  refine lv_istore_n (lv' := [(3, .int 0), (2, .int 0), (0, .ref h0), (1, .int 0)]) hx hb dX8_isTurned_3 rfl hl (by decide) rfl (fun ls hl => ?_)
  have L4 : ∀ (n4 : Nat), ∀ (k : Nat), (0 ≤ k ∧ k ≤ 8) → (9 ≤ k + n4) → ∀ (ls : Array Slot), lv_has ls 5 [(0, .ref h0), (1, .int 0), (2, .int 0), (3, .int (nI k))] → W p l e (headSpec wsX8_isTurned ({ frames := 1, cells := 0, slots := 0, locals := 21 })).room s m ([.ref h0, .int 0] : List Value).toArray below meth c s.heap [] 0 0 (MQ below (vp_Si (fun r : Int32 => r = 0)) ([.ref h0, .int 0] : List Value).toArray s 0 0 (fun _ => False)) (F0 m 4 ls []) := by
    intro n4
    induction n4 with
    | zero =>
      intro k hk4 hn4 ls hl
      exfalso
      omega
    | succ n4 ih4 =>
      intro k hk4 hn4 ls hl
      refine lv_iload_n hx hb dX8_isTurned_4 rfl (lv_at hl 3 rfl) ?_
      refine lv_aload_n hx hb dX8_isTurned_5 rfl (lv_at hl 0 rfl) ?_
      refine vp_callSi (va_Run.run (va_runV (As := []) (rest := [.int (nI k)]) ⟨hx, hb, hml, hown, hts⟩ (kX8_cells l dC dI cyI cyZ h0 st im kp pw nx li il mv so la co d6 d11 d12 fs h8) (cwV 0 hts gX8_isTurned_X8_cells rfl rfl rfl (by decide +kernel) ⟨Nat.le_of_ble_eq_true rfl, Nat.le_of_ble_eq_true rfl⟩) (bs_RV hB (hP.sub (ws' := [(h0, .inr (6, [.ref st, .ref im, .ref kp, .ref pw, .ref nx, .ref li, .int d6, .ref il, .ref mv, .ref so, .ref la, .int d11, .int d12, .ref co])), (st, .inl (cyI, 72, .inl fs))]) [0, 1] rfl) 0 rfl rfl) rfl rfl hl.1 rfl (lv_room (Nat.le_of_ble_eq_true rfl)) dX8_isTurned_6 ⟨Nat.le_of_ble_eq_true rfl, Nat.le_of_ble_eq_true rfl⟩)) (fun r_1 hr_1 => ?_)
      obtain rfl : r_1 = 8 := hr_1
      refine lv_icmp_ge (tgt := 73) hx hb dX8_isTurned_9 (by decide) (fun c_2 => ?_) (fun c_2 => ?_)
      · skip
        have ic_2 := ci_le (show Int32.toInt 8 = 8 by decide) (nI_toInt (n := k) (by omega)) c_2
        refine lv_iload_n hx hb dX8_isTurned_73 rfl (lv_at hl 2 rfl) ?_
        exact W.zret (v := 0) hx hb hr (show narrow .boolean (.int 0) = .int 0 from rfl) (fun t ht hW => ⟨0, rfl, rfl, ht⟩) (fun q h => by cases h) dX8_isTurned_74
      · skip
        have ic_2 := ci_nle (show Int32.toInt 8 = 8 by decide) (nI_toInt (n := k) (by omega)) c_2
        refine lv_iconst (v := 0) hx hb dX8_isTurned_12 (by decide) ?_
        refine lv_istore (lv' := [(4, .int 0), (0, .ref h0), (1, .int 0), (2, .int 0), (3, .int (nI k))]) hx hb dX8_isTurned_13 hl (by decide) rfl (fun ls hl => ?_)
        have L15 : ∀ (n15 : Nat), ∀ (j : Nat), (j ≤ k) → (k + 1 ≤ j + n15) → ∀ (ls : Array Slot), lv_has ls 5 [(0, .ref h0), (1, .int 0), (2, .int 0), (3, .int (nI k)), (4, .int (nI j))] → W p l e (headSpec wsX8_isTurned ({ frames := 1, cells := 0, slots := 0, locals := 21 })).room s m ([.ref h0, .int 0] : List Value).toArray below meth c s.heap [] 0 0 (MQ below (vp_Si (fun r : Int32 => r = 0)) ([.ref h0, .int 0] : List Value).toArray s 0 0 (fun _ => False)) (F0 m 15 ls []) := by
          intro n15
          induction n15 with
          | zero =>
            intro j hj9 hn9 ls hl
            exfalso
            omega
          | succ n15 ih15 =>
            intro j hj9 hn9 ls hl
            refine lv_iload hx hb dX8_isTurned_15 (lv_at hl 4 rfl) ?_
            refine lv_iload_n hx hb dX8_isTurned_17 rfl (lv_at hl 3 rfl) ?_
            refine lv_icmp_ge (tgt := 67) hx hb dX8_isTurned_18 (by decide) (fun c_3 => ?_) (fun c_3 => ?_)
            · skip
              have ic_3 := ci_le (nI_toInt (n := k) (by omega)) (nI_toInt (n := j) (by omega)) c_3
              refine lv_iinc (v := (nI (k + 1))) (lv' := [(3, .int (nI (k + 1))), (0, .ref h0), (1, .int 0), (2, .int 0), (4, .int (nI j))]) hx hb dX8_isTurned_67 hl (k := 3) rfl (nI_1 _) (by decide) rfl (fun ls hl => ?_)
              refine lv_goto (tgt := 4) hx hb dX8_isTurned_70 (by decide) ?_
              exact ih4 (k + 1)  ⟨by omega, by omega⟩ (by omega)  _ (lv_sub hl [1, 2, 3, 0] rfl)
            · skip
              have ic_3 := ci_nle (nI_toInt (n := k) (by omega)) (nI_toInt (n := j) (by omega)) c_3
              refine lv_iload_n hx hb dX8_isTurned_21 rfl (lv_at hl 2 rfl) ?_
              refine lv_if_ne (tgt := 55) hx hb dX8_isTurned_22 (by decide) (fun c_4 => ?_) (fun c_4 => ?_)
              · skip
                exact absurd c_4 (by decide)
              · skip
                refine lv_iload_n hx hb dX8_isTurned_25 rfl (lv_at hl 1 rfl) ?_
                refine lv_iload_n hx hb dX8_isTurned_26 rfl (lv_at hl 3 rfl) ?_
                refine vp_callSi (va_Run.run (va_runS (As := [.int 0, .int (nI k)]) (rest := []) ⟨hx, hb, hml, hown, hts⟩ (kX8_has l dC dI cyI cyZ 0 (nI k)) (va_cwS 2 hts gX8_isTurned_X8_has rfl rfl rfl (by decide +kernel) ⟨Nat.le_of_ble_eq_true rfl, Nat.le_of_ble_eq_true rfl⟩) (bs_RS hB (hP.sub (ws' := []) [] rfl)) rfl rfl hl.1 rfl (lv_room (Nat.le_of_ble_eq_true rfl)) dX8_isTurned_27 ⟨Nat.le_of_ble_eq_true rfl, Nat.le_of_ble_eq_true rfl⟩)) (fun r_5 hr_5 => ?_)
                obtain rfl : r_5 = 0 := hr_5.2.1 rfl
                refine lv_if_eq (tgt := 59) hx hb dX8_isTurned_30 (by decide) (fun c_6 => ?_) (fun c_6 => ?_)
                · skip
                  refine lv_iconst (v := 0) hx hb dX8_isTurned_59 (by decide) ?_
                  refine lv_istore_n (lv' := [(2, .int 0), (0, .ref h0), (1, .int 0), (3, .int (nI k)), (4, .int (nI j))]) hx hb dX8_isTurned_60 rfl hl (by decide) rfl (fun ls hl => ?_)
                  refine lv_iinc (v := (nI (j + 1))) (lv' := [(4, .int (nI (j + 1))), (2, .int 0), (0, .ref h0), (1, .int 0), (3, .int (nI k))]) hx hb dX8_isTurned_61 hl (k := 4) rfl (nI_1 _) (by decide) rfl (fun ls hl => ?_)
                  refine lv_goto (tgt := 15) hx hb dX8_isTurned_64 (by decide) ?_
                  exact ih15 (j + 1) (by omega) (by omega) _ (lv_sub hl [2, 3, 1, 4, 0] rfl)
                · skip
                  exact absurd c_6 (by decide)
        exact L15 (k + 1) 0 (by omega) (by omega) _ (lv_sub hl [1, 2, 3, 4, 0] rfl)
  exact L4 9 0  ⟨by omega, by omega⟩ (by omega)  _ (lv_sub hl [2, 3, 1, 0] rfl)

set_option maxHeartbeats 4000000 in
set_option maxRecDepth 100000 in
theorem kX8_isMirrored (l : Launch) (dC : Nat → ClassId) (dI : Nat → Nat → Nat) (cyI cyZ : ClassId) (h0 st im kp pw nx li il mv so la co : Nat) (d6 d11 d12 : Int32) (fs : Nat → Int32) (h8 : fs 0 = 8) : Met l yX8_isMirrored wsX8_isMirrored ({ frames := 1, cells := 0, slots := 0, locals := 21 }) (bs_R dC dI cyI cyZ [.ref h0, .int 0] [(h0, .inr (6, [.ref st, .ref im, .ref kp, .ref pw, .ref nx, .ref li, .int d6, .ref il, .ref mv, .ref so, .ref la, .int d11, .int d12, .ref co])), (st, .inl (cyI, 72, .inl fs))]) (vp_Si (fun r : Int32 => r = 0)) 0 0 (fun _ => False) := by
  refine Met.ofW (cc := cX8_isMirrored) (maxL := 5) (ret := (some .boolean)) (by decide) rfl ?_
  intro p e s m args below meth c s₁ B hml hv
  obtain ⟨rfl, hB, hP⟩ := hv
  have hK := hB.1
  have hN := hB.2
  have hx := B.exec
  have hb := B.bytes
  have hr := B.returns
  have hts := atoms_spec (ws := wsX8_isMirrored) B.pre
  have hown : s.vm.findClass RX8 = some m.cls := findClass_of_methodNamed B.named
  have hlocks := B.notSynchronized
  have hP : va_P (dC, dI) vwCl [(h0, .inr (6, [.ref st, .ref im, .ref kp, .ref pw, .ref nx, .ref li, .int d6, .ref il, .ref mv, .ref so, .ref la, .int d11, .int d12, .ref co])), (st, .inl (cyI, 72, .inl fs))] s.heap := hP
  have hl := lv_entry ([.ref h0, .int 0]) (n := 5) (Nat.le_of_ble_eq_true rfl)
  rw [lg_entry_eq]
  generalize (lg_sl ([.ref h0, .int 0]) ++ List.replicate (5 - (lg_sl ([.ref h0, .int 0])).length) Slot.unset).toArray = ls at hl ⊢
  have hl : lv_has ls 5 [(0, .ref h0), (1, .int 0)] := hl
  refine lv_iconst (v := 0) hx hb dX8_isMirrored_0 (by decide) ?_
  refine lv_istore_n (lv' := [(2, .int 0), (0, .ref h0), (1, .int 0)]) hx hb dX8_isMirrored_1 rfl hl (by decide) rfl (fun ls hl => ?_)
  refine lv_iconst (v := 0) hx hb dX8_isMirrored_2 (by decide) ?_
  refine lv_istore_n (lv' := [(3, .int 0), (2, .int 0), (0, .ref h0), (1, .int 0)]) hx hb dX8_isMirrored_3 rfl hl (by decide) rfl (fun ls hl => ?_)
  have L4 : ∀ (n4 : Nat), ∀ (k : Nat), (0 ≤ k ∧ k ≤ 8) → (9 ≤ k + n4) → ∀ (ls : Array Slot), lv_has ls 5 [(0, .ref h0), (1, .int 0), (2, .int 0), (3, .int (nI k))] → W p l e (headSpec wsX8_isMirrored ({ frames := 1, cells := 0, slots := 0, locals := 21 })).room s m ([.ref h0, .int 0] : List Value).toArray below meth c s.heap [] 0 0 (MQ below (vp_Si (fun r : Int32 => r = 0)) ([.ref h0, .int 0] : List Value).toArray s 0 0 (fun _ => False)) (F0 m 4 ls []) := by
    intro n4
    induction n4 with
    | zero =>
      intro k hk4 hn4 ls hl
      exfalso
      omega
    | succ n4 ih4 =>
      intro k hk4 hn4 ls hl
      refine lv_iload_n hx hb dX8_isMirrored_4 rfl (lv_at hl 3 rfl) ?_
      refine lv_aload_n hx hb dX8_isMirrored_5 rfl (lv_at hl 0 rfl) ?_
      refine vp_callSi (va_Run.run (va_runV (As := []) (rest := [.int (nI k)]) ⟨hx, hb, hml, hown, hts⟩ (kX8_cells l dC dI cyI cyZ h0 st im kp pw nx li il mv so la co d6 d11 d12 fs h8) (cwV 0 hts gX8_isMirrored_X8_cells rfl rfl rfl (by decide +kernel) ⟨Nat.le_of_ble_eq_true rfl, Nat.le_of_ble_eq_true rfl⟩) (bs_RV hB (hP.sub (ws' := [(h0, .inr (6, [.ref st, .ref im, .ref kp, .ref pw, .ref nx, .ref li, .int d6, .ref il, .ref mv, .ref so, .ref la, .int d11, .int d12, .ref co])), (st, .inl (cyI, 72, .inl fs))]) [0, 1] rfl) 0 rfl rfl) rfl rfl hl.1 rfl (lv_room (Nat.le_of_ble_eq_true rfl)) dX8_isMirrored_6 ⟨Nat.le_of_ble_eq_true rfl, Nat.le_of_ble_eq_true rfl⟩)) (fun r_1 hr_1 => ?_)
      obtain rfl : r_1 = 8 := hr_1
      refine lv_icmp_ge (tgt := 76) hx hb dX8_isMirrored_9 (by decide) (fun c_2 => ?_) (fun c_2 => ?_)
      · skip
        have ic_2 := ci_le (show Int32.toInt 8 = 8 by decide) (nI_toInt (n := k) (by omega)) c_2
        refine lv_iload_n hx hb dX8_isMirrored_76 rfl (lv_at hl 2 rfl) ?_
        exact W.zret (v := 0) hx hb hr (show narrow .boolean (.int 0) = .int 0 from rfl) (fun t ht hW => ⟨0, rfl, rfl, ht⟩) (fun q h => by cases h) dX8_isMirrored_77
      · skip
        have ic_2 := ci_nle (show Int32.toInt 8 = 8 by decide) (nI_toInt (n := k) (by omega)) c_2
        refine lv_iconst (v := 0) hx hb dX8_isMirrored_12 (by decide) ?_
        refine lv_istore (lv' := [(4, .int 0), (0, .ref h0), (1, .int 0), (2, .int 0), (3, .int (nI k))]) hx hb dX8_isMirrored_13 hl (by decide) rfl (fun ls hl => ?_)
        have L15 : ∀ (n15 : Nat), ∀ (j : Nat), (j ≤ 8) → (8 + 1 ≤ j + n15) → ∀ (ls : Array Slot), lv_has ls 5 [(0, .ref h0), (1, .int 0), (2, .int 0), (3, .int (nI k)), (4, .int (nI j))] → W p l e (headSpec wsX8_isMirrored ({ frames := 1, cells := 0, slots := 0, locals := 21 })).room s m ([.ref h0, .int 0] : List Value).toArray below meth c s.heap [] 0 0 (MQ below (vp_Si (fun r : Int32 => r = 0)) ([.ref h0, .int 0] : List Value).toArray s 0 0 (fun _ => False)) (F0 m 15 ls []) := by
          intro n15
          induction n15 with
          | zero =>
            intro j hj9 hn9 ls hl
            exfalso
            omega
          | succ n15 ih15 =>
            intro j hj9 hn9 ls hl
            refine lv_iload hx hb dX8_isMirrored_15 (lv_at hl 4 rfl) ?_
            refine lv_aload_n hx hb dX8_isMirrored_17 rfl (lv_at hl 0 rfl) ?_
            refine vp_callSi (va_Run.run (va_runV (As := []) (rest := [.int (nI j)]) ⟨hx, hb, hml, hown, hts⟩ (kX8_cells l dC dI cyI cyZ h0 st im kp pw nx li il mv so la co d6 d11 d12 fs h8) (cwV 0 hts gX8_isMirrored_X8_cells rfl rfl rfl (by decide +kernel) ⟨Nat.le_of_ble_eq_true rfl, Nat.le_of_ble_eq_true rfl⟩) (bs_RV hB (hP.sub (ws' := [(h0, .inr (6, [.ref st, .ref im, .ref kp, .ref pw, .ref nx, .ref li, .int d6, .ref il, .ref mv, .ref so, .ref la, .int d11, .int d12, .ref co])), (st, .inl (cyI, 72, .inl fs))]) [0, 1] rfl) 0 rfl rfl) rfl rfl hl.1 rfl (lv_room (Nat.le_of_ble_eq_true rfl)) dX8_isMirrored_18 ⟨Nat.le_of_ble_eq_true rfl, Nat.le_of_ble_eq_true rfl⟩)) (fun r_3 hr_3 => ?_)
            obtain rfl : r_3 = 8 := hr_3
            refine lv_icmp_ge (tgt := 70) hx hb dX8_isMirrored_21 (by decide) (fun c_4 => ?_) (fun c_4 => ?_)
            · skip
              have ic_4 := ci_le (show Int32.toInt 8 = 8 by decide) (nI_toInt (n := j) (by omega)) c_4
              refine lv_iinc (v := (nI (k + 1))) (lv' := [(3, .int (nI (k + 1))), (0, .ref h0), (1, .int 0), (2, .int 0), (4, .int (nI j))]) hx hb dX8_isMirrored_70 hl (k := 3) rfl (nI_1 _) (by decide) rfl (fun ls hl => ?_)
              refine lv_goto (tgt := 4) hx hb dX8_isMirrored_73 (by decide) ?_
              exact ih4 (k + 1)  ⟨by omega, by omega⟩ (by omega)  _ (lv_sub hl [1, 2, 3, 0] rfl)
            · skip
              have ic_4 := ci_nle (show Int32.toInt 8 = 8 by decide) (nI_toInt (n := j) (by omega)) c_4
              refine lv_iload_n hx hb dX8_isMirrored_24 rfl (lv_at hl 2 rfl) ?_
              refine lv_if_ne (tgt := 58) hx hb dX8_isMirrored_25 (by decide) (fun c_5 => ?_) (fun c_5 => ?_)
              · skip
                exact absurd c_5 (by decide)
              · skip
                refine lv_iload_n hx hb dX8_isMirrored_28 rfl (lv_at hl 1 rfl) ?_
                refine lv_iload_n hx hb dX8_isMirrored_29 rfl (lv_at hl 3 rfl) ?_
                refine vp_callSi (va_Run.run (va_runS (As := [.int 0, .int (nI k)]) (rest := []) ⟨hx, hb, hml, hown, hts⟩ (kX8_has l dC dI cyI cyZ 0 (nI k)) (va_cwS 2 hts gX8_isMirrored_X8_has rfl rfl rfl (by decide +kernel) ⟨Nat.le_of_ble_eq_true rfl, Nat.le_of_ble_eq_true rfl⟩) (bs_RS hB (hP.sub (ws' := []) [] rfl)) rfl rfl hl.1 rfl (lv_room (Nat.le_of_ble_eq_true rfl)) dX8_isMirrored_30 ⟨Nat.le_of_ble_eq_true rfl, Nat.le_of_ble_eq_true rfl⟩)) (fun r_6 hr_6 => ?_)
                obtain rfl : r_6 = 0 := hr_6.2.1 rfl
                refine lv_if_eq (tgt := 62) hx hb dX8_isMirrored_33 (by decide) (fun c_7 => ?_) (fun c_7 => ?_)
                · skip
                  refine lv_iconst (v := 0) hx hb dX8_isMirrored_62 (by decide) ?_
                  refine lv_istore_n (lv' := [(2, .int 0), (0, .ref h0), (1, .int 0), (3, .int (nI k)), (4, .int (nI j))]) hx hb dX8_isMirrored_63 rfl hl (by decide) rfl (fun ls hl => ?_)
                  refine lv_iinc (v := (nI (j + 1))) (lv' := [(4, .int (nI (j + 1))), (2, .int 0), (0, .ref h0), (1, .int 0), (3, .int (nI k))]) hx hb dX8_isMirrored_64 hl (k := 4) rfl (nI_1 _) (by decide) rfl (fun ls hl => ?_)
                  refine lv_goto (tgt := 15) hx hb dX8_isMirrored_67 (by decide) ?_
                  exact ih15 (j + 1) (by omega) (by omega) _ (lv_sub hl [2, 3, 1, 4, 0] rfl)
                · skip
                  exact absurd c_7 (by decide)
        exact L15 (8 + 1) 0 (by omega) (by omega) _ (lv_sub hl [1, 2, 3, 4, 0] rfl)
  exact L4 9 0  ⟨by omega, by omega⟩ (by omega)  _ (lv_sub hl [2, 3, 1, 0] rfl)

set_option maxHeartbeats 4000000 in
set_option maxRecDepth 100000 in
theorem kX8_even (l : Launch) (dC : Nat → ClassId) (dI : Nat → Nat → Nat) (cyI cyZ : ClassId) (h0 st im kp pw nx li il mv so la co : Nat) (d6 d11 d12 : Int32) (fs : Nat → Int32) (h8 : fs 0 = 8) : Met l yX8_even wsX8_even ({ frames := 1, cells := 0, slots := 0, locals := 21 }) (bs_R dC dI cyI cyZ [.ref h0, .int 0] [(h0, .inr (6, [.ref st, .ref im, .ref kp, .ref pw, .ref nx, .ref li, .int d6, .ref il, .ref mv, .ref so, .ref la, .int d11, .int d12, .ref co])), (st, .inl (cyI, 72, .inl fs))]) (vp_Si (fun r : Int32 => r = 0)) 0 0 (fun _ => False) := by
  refine Met.ofW (cc := cX8_even) (maxL := 4) (ret := (some .int)) (by decide) rfl ?_
  intro p e s m args below meth c s₁ B hml hv
  obtain ⟨rfl, hB, hP⟩ := hv
  have hK := hB.1
  have hN := hB.2
  have hx := B.exec
  have hb := B.bytes
  have hr := B.returns
  have hts := atoms_spec (ws := wsX8_even) B.pre
  have hown : s.vm.findClass RX8 = some m.cls := findClass_of_methodNamed B.named
  have hlocks := B.notSynchronized
  have hP : va_P (dC, dI) vwCl [(h0, .inr (6, [.ref st, .ref im, .ref kp, .ref pw, .ref nx, .ref li, .int d6, .ref il, .ref mv, .ref so, .ref la, .int d11, .int d12, .ref co])), (st, .inl (cyI, 72, .inl fs))] s.heap := hP
  have hl := lv_entry ([.ref h0, .int 0]) (n := 4) (Nat.le_of_ble_eq_true rfl)
  rw [lg_entry_eq]
  generalize (lg_sl ([.ref h0, .int 0]) ++ List.replicate (4 - (lg_sl ([.ref h0, .int 0])).length) Slot.unset).toArray = ls at hl ⊢
  have hl : lv_has ls 4 [(0, .ref h0), (1, .int 0)] := hl
  refine lv_iconst (v := 0) hx hb dX8_even_0 (by decide) ?_
  refine lv_istore_n (lv' := [(2, .int 0), (0, .ref h0), (1, .int 0)]) hx hb dX8_even_1 rfl hl (by decide) rfl (fun ls hl => ?_)
  refine lv_iconst (v := 0) hx hb dX8_even_2 (by decide) ?_
  refine lv_istore_n (lv' := [(3, .int 0), (2, .int 0), (0, .ref h0), (1, .int 0)]) hx hb dX8_even_3 rfl hl (by decide) rfl (fun ls hl => ?_)
  have L4 : ∀ (n4 : Nat), ∀ (k : Nat), (0 ≤ k ∧ k ≤ 8) → (9 ≤ k + n4) → ∀ (ls : Array Slot), lv_has ls 4 [(0, .ref h0), (1, .int 0), (2, .int 0), (3, .int (nI k))] → W p l e (headSpec wsX8_even ({ frames := 1, cells := 0, slots := 0, locals := 21 })).room s m ([.ref h0, .int 0] : List Value).toArray below meth c s.heap [] 0 0 (MQ below (vp_Si (fun r : Int32 => r = 0)) ([.ref h0, .int 0] : List Value).toArray s 0 0 (fun _ => False)) (F0 m 4 ls []) := by
    intro n4
    induction n4 with
    | zero =>
      intro k hk4 hn4 ls hl
      exfalso
      omega
    | succ n4 ih4 =>
      intro k hk4 hn4 ls hl
      refine lv_iload_n hx hb dX8_even_4 rfl (lv_at hl 3 rfl) ?_
      refine lv_aload_n hx hb dX8_even_5 rfl (lv_at hl 0 rfl) ?_
      refine vp_callSi (va_Run.run (va_runV (As := []) (rest := [.int (nI k)]) ⟨hx, hb, hml, hown, hts⟩ (kX8_cells l dC dI cyI cyZ h0 st im kp pw nx li il mv so la co d6 d11 d12 fs h8) (cwV 0 hts gX8_even_X8_cells rfl rfl rfl (by decide +kernel) ⟨Nat.le_of_ble_eq_true rfl, Nat.le_of_ble_eq_true rfl⟩) (bs_RV hB (hP.sub (ws' := [(h0, .inr (6, [.ref st, .ref im, .ref kp, .ref pw, .ref nx, .ref li, .int d6, .ref il, .ref mv, .ref so, .ref la, .int d11, .int d12, .ref co])), (st, .inl (cyI, 72, .inl fs))]) [0, 1] rfl) 0 rfl rfl) rfl rfl hl.1 rfl (lv_room (Nat.le_of_ble_eq_true rfl)) dX8_even_6 ⟨Nat.le_of_ble_eq_true rfl, Nat.le_of_ble_eq_true rfl⟩)) (fun r_1 hr_1 => ?_)
      obtain rfl : r_1 = 8 := hr_1
      refine lv_icmp_ge (tgt := 46) hx hb dX8_even_9 (by decide) (fun c_2 => ?_) (fun c_2 => ?_)
      · skip
        have ic_2 := ci_le (show Int32.toInt 8 = 8 by decide) (nI_toInt (n := k) (by omega)) c_2
        refine lv_iload_n hx hb dX8_even_46 rfl (lv_at hl 2 rfl) ?_
        exact W.iret (v := 0) hx hb hr (fun t ht hW => ⟨0, rfl, rfl, ht⟩) (fun q h => by cases h) dX8_even_47
      · skip
        have ic_2 := ci_nle (show Int32.toInt 8 = 8 by decide) (nI_toInt (n := k) (by omega)) c_2
        refine lv_iload_n hx hb dX8_even_12 rfl (lv_at hl 2 rfl) ?_
        refine lv_iload_n hx hb dX8_even_13 rfl (lv_at hl 1 rfl) ?_
        refine lv_iload_n hx hb dX8_even_14 rfl (lv_at hl 3 rfl) ?_
        refine vp_callSi (va_Run.run (va_runS (As := [.int 0, .int (nI k)]) (rest := [.int 0]) ⟨hx, hb, hml, hown, hts⟩ (kX8_has l dC dI cyI cyZ 0 (nI k)) (va_cwS 2 hts gX8_even_X8_has rfl rfl rfl (by decide +kernel) ⟨Nat.le_of_ble_eq_true rfl, Nat.le_of_ble_eq_true rfl⟩) (bs_RS hB (hP.sub (ws' := []) [] rfl)) rfl rfl hl.1 rfl (lv_room (Nat.le_of_ble_eq_true rfl)) dX8_even_15 ⟨Nat.le_of_ble_eq_true rfl, Nat.le_of_ble_eq_true rfl⟩)) (fun r_3 hr_3 => ?_)
        obtain rfl : r_3 = 0 := hr_3.2.1 rfl
        refine lv_if_eq (tgt := 37) hx hb dX8_even_18 (by decide) (fun c_4 => ?_) (fun c_4 => ?_)
        · skip
          refine lv_iconst (v := 0) hx hb dX8_even_37 (by decide) ?_
          refine lv_iadd hx hb dX8_even_38 ?_
          refine lv_topi (fun x_5 ex_5 => ?_)
          obtain rfl : 0 = x_5 := (ex_5.trans (by decide)).symm
          refine lv_istore_n (lv' := [(2, .int 0), (0, .ref h0), (1, .int 0), (3, .int (nI k))]) hx hb dX8_even_39 rfl hl (by decide) rfl (fun ls hl => ?_)
          refine lv_iinc (v := (nI (k + 1))) (lv' := [(3, .int (nI (k + 1))), (2, .int 0), (0, .ref h0), (1, .int 0)]) hx hb dX8_even_40 hl (k := 3) rfl (nI_1 _) (by decide) rfl (fun ls hl => ?_)
          refine lv_goto (tgt := 4) hx hb dX8_even_43 (by decide) ?_
          exact ih4 (k + 1)  ⟨by omega, by omega⟩ (by omega)  _ (lv_sub hl [2, 3, 1, 0] rfl)
        · skip
          exact absurd c_4 (by decide)
  exact L4 9 0  ⟨by omega, by omega⟩ (by omega)  _ (lv_sub hl [2, 3, 1, 0] rfl)

set_option maxHeartbeats 4000000 in
set_option maxRecDepth 100000 in
theorem kX8_views (l : Launch) (dC : Nat → ClassId) (dI : Nat → Nat → Nat) (cyI cyZ : ClassId) (h0 st im kp pw nx li il mv so la co : Nat) (d6 d11 d12 : Int32) (fs : Nat → Int32) (h8 : fs 0 = 8) : Met l yX8_views wsX8_views ({ frames := 1, cells := 0, slots := 0, locals := 21 }) (bs_R dC dI cyI cyZ [.ref h0, .int 0] [(h0, .inr (6, [.ref st, .ref im, .ref kp, .ref pw, .ref nx, .ref li, .int d6, .ref il, .ref mv, .ref so, .ref la, .int d11, .int d12, .ref co])), (st, .inl (cyI, 72, .inl fs))]) (vp_Si (fun r : Int32 => r = 0)) 0 0 (fun _ => False) := by
  refine Met.ofW (cc := cX8_views) (maxL := 6) (ret := (some .int)) (by decide) rfl ?_
  intro p e s m args below meth c s₁ B hml hv
  obtain ⟨rfl, hB, hP⟩ := hv
  have hK := hB.1
  have hN := hB.2
  have hx := B.exec
  have hb := B.bytes
  have hr := B.returns
  have hts := atoms_spec (ws := wsX8_views) B.pre
  have hown : s.vm.findClass RX8 = some m.cls := findClass_of_methodNamed B.named
  have hlocks := B.notSynchronized
  have hP : va_P (dC, dI) vwCl [(h0, .inr (6, [.ref st, .ref im, .ref kp, .ref pw, .ref nx, .ref li, .int d6, .ref il, .ref mv, .ref so, .ref la, .int d11, .int d12, .ref co])), (st, .inl (cyI, 72, .inl fs))] s.heap := hP
  have hl := lv_entry ([.ref h0, .int 0]) (n := 6) (Nat.le_of_ble_eq_true rfl)
  rw [lg_entry_eq]
  generalize (lg_sl ([.ref h0, .int 0]) ++ List.replicate (6 - (lg_sl ([.ref h0, .int 0])).length) Slot.unset).toArray = ls at hl ⊢
  have hl : lv_has ls 6 [(0, .ref h0), (1, .int 0)] := hl
  refine lv_iconst (v := 0) hx hb dX8_views_0 (by decide) ?_
  refine lv_istore_n (lv' := [(2, .int 0), (0, .ref h0), (1, .int 0)]) hx hb dX8_views_1 rfl hl (by decide) rfl (fun ls hl => ?_)
  refine lv_iconst (v := 0) hx hb dX8_views_2 (by decide) ?_
  refine lv_istore_n (lv' := [(3, .int 0), (2, .int 0), (0, .ref h0), (1, .int 0)]) hx hb dX8_views_3 rfl hl (by decide) rfl (fun ls hl => ?_)
  have L4 : ∀ (n4 : Nat), ∀ (k : Nat), (0 ≤ k ∧ k ≤ 8) → (9 ≤ k + n4) → ∀ (ls : Array Slot), lv_has ls 6 [(0, .ref h0), (1, .int 0), (2, .int 0), (3, .int (nI k))] → W p l e (headSpec wsX8_views ({ frames := 1, cells := 0, slots := 0, locals := 21 })).room s m ([.ref h0, .int 0] : List Value).toArray below meth c s.heap [] 0 0 (MQ below (vp_Si (fun r : Int32 => r = 0)) ([.ref h0, .int 0] : List Value).toArray s 0 0 (fun _ => False)) (F0 m 4 ls []) := by
    intro n4
    induction n4 with
    | zero =>
      intro k hk4 hn4 ls hl
      exfalso
      omega
    | succ n4 ih4 =>
      intro k hk4 hn4 ls hl
      refine lv_iload_n hx hb dX8_views_4 rfl (lv_at hl 3 rfl) ?_
      refine lv_aload_n hx hb dX8_views_5 rfl (lv_at hl 0 rfl) ?_
      refine vp_callSi (va_Run.run (va_runV (As := []) (rest := [.int (nI k)]) ⟨hx, hb, hml, hown, hts⟩ (kX8_cells l dC dI cyI cyZ h0 st im kp pw nx li il mv so la co d6 d11 d12 fs h8) (cwV 0 hts gX8_views_X8_cells rfl rfl rfl (by decide +kernel) ⟨Nat.le_of_ble_eq_true rfl, Nat.le_of_ble_eq_true rfl⟩) (bs_RV hB (hP.sub (ws' := [(h0, .inr (6, [.ref st, .ref im, .ref kp, .ref pw, .ref nx, .ref li, .int d6, .ref il, .ref mv, .ref so, .ref la, .int d11, .int d12, .ref co])), (st, .inl (cyI, 72, .inl fs))]) [0, 1] rfl) 0 rfl rfl) rfl rfl hl.1 rfl (lv_room (Nat.le_of_ble_eq_true rfl)) dX8_views_6 ⟨Nat.le_of_ble_eq_true rfl, Nat.le_of_ble_eq_true rfl⟩)) (fun r_1 hr_1 => ?_)
      obtain rfl : r_1 = 8 := hr_1
      refine lv_icmp_ge (tgt := 98) hx hb dX8_views_9 (by decide) (fun c_2 => ?_) (fun c_2 => ?_)
      · skip
        have ic_2 := ci_le (show Int32.toInt 8 = 8 by decide) (nI_toInt (n := k) (by omega)) c_2
        refine lv_iload_n hx hb dX8_views_98 rfl (lv_at hl 2 rfl) ?_
        exact W.iret (v := 0) hx hb hr (fun t ht hW => ⟨0, rfl, rfl, ht⟩) (fun q h => by cases h) dX8_views_99
      · skip
        have ic_2 := ci_nle (show Int32.toInt 8 = 8 by decide) (nI_toInt (n := k) (by omega)) c_2
        refine lv_iload_n hx hb dX8_views_12 rfl (lv_at hl 1 rfl) ?_
        refine lv_iload_n hx hb dX8_views_13 rfl (lv_at hl 3 rfl) ?_
        refine vp_callSi (va_Run.run (va_runS (As := [.int 0, .int (nI k)]) (rest := []) ⟨hx, hb, hml, hown, hts⟩ (kX8_has l dC dI cyI cyZ 0 (nI k)) (va_cwS 2 hts gX8_views_X8_has rfl rfl rfl (by decide +kernel) ⟨Nat.le_of_ble_eq_true rfl, Nat.le_of_ble_eq_true rfl⟩) (bs_RS hB (hP.sub (ws' := []) [] rfl)) rfl rfl hl.1 rfl (lv_room (Nat.le_of_ble_eq_true rfl)) dX8_views_14 ⟨Nat.le_of_ble_eq_true rfl, Nat.le_of_ble_eq_true rfl⟩)) (fun r_3 hr_3 => ?_)
        obtain rfl : r_3 = 0 := hr_3.2.1 rfl
        refine lv_istore (lv' := [(4, .int 0), (0, .ref h0), (1, .int 0), (2, .int 0), (3, .int (nI k))]) hx hb dX8_views_17 hl (by decide) rfl (fun ls hl => ?_)
        refine lv_iconst (v := 0) hx hb dX8_views_19 (by decide) ?_
        refine lv_istore (lv' := [(5, .int 0), (4, .int 0), (0, .ref h0), (1, .int 0), (2, .int 0), (3, .int (nI k))]) hx hb dX8_views_20 hl (by decide) rfl (fun ls hl => ?_)
        refine lv_iload hx hb dX8_views_22 (lv_at hl 0 rfl) ?_
        refine lv_iload_n hx hb dX8_views_24 rfl (lv_at hl 5 rfl) ?_
        refine lv_icmp_ge (tgt := 79) hx hb dX8_views_25 (by decide) (fun c_4 => ?_) (fun c_4 => ?_)
        · skip
          have ic_4 := ci_le (nI_toInt (n := k) (by omega)) (show Int32.toInt 0 = 0 by decide) c_4
          refine lv_iload_n hx hb dX8_views_79 rfl (lv_at hl 4 rfl) ?_
          refine lv_iload hx hb dX8_views_80 (lv_at hl 1 rfl) ?_
          refine lv_if_eq (tgt := 89) hx hb dX8_views_82 (by decide) (fun c_5 => ?_) (fun c_5 => ?_)
          · skip
            refine lv_iconst (v := 0) hx hb dX8_views_89 (by decide) ?_
            refine lv_iadd hx hb dX8_views_90 ?_
            refine lv_topi (fun x_6 ex_6 => ?_)
            obtain rfl : 0 = x_6 := (ex_6.trans (by decide)).symm
            refine lv_istore_n (lv' := [(2, .int 0), (5, .int 0), (4, .int 0), (0, .ref h0), (1, .int 0), (3, .int (nI k))]) hx hb dX8_views_91 rfl hl (by decide) rfl (fun ls hl => ?_)
            refine lv_iinc (v := (nI (k + 1))) (lv' := [(3, .int (nI (k + 1))), (2, .int 0), (5, .int 0), (4, .int 0), (0, .ref h0), (1, .int 0)]) hx hb dX8_views_92 hl (k := 5) rfl (nI_1 _) (by decide) rfl (fun ls hl => ?_)
            refine lv_goto (tgt := 4) hx hb dX8_views_95 (by decide) ?_
            exact ih4 (k + 1)  ⟨by omega, by omega⟩ (by omega)  _ (lv_sub hl [4, 5, 1, 0] rfl)
          · skip
            exact absurd c_5 (by decide)
        · skip
          have ic_4 := ci_nle (nI_toInt (n := k) (by omega)) (show Int32.toInt 0 = 0 by decide) c_4
          refine lv_iload hx hb dX8_views_28 (lv_at hl 1 rfl) ?_
          refine lv_if_eq (tgt := 79) hx hb dX8_views_30 (by decide) (fun c_7 => ?_) (fun c_7 => ?_)
          · skip
            refine lv_iload_n hx hb dX8_views_79 rfl (lv_at hl 4 rfl) ?_
            refine lv_iload hx hb dX8_views_80 (lv_at hl 1 rfl) ?_
            refine lv_if_eq (tgt := 89) hx hb dX8_views_82 (by decide) (fun c_8 => ?_) (fun c_8 => ?_)
            · skip
              refine lv_iconst (v := 0) hx hb dX8_views_89 (by decide) ?_
              refine lv_iadd hx hb dX8_views_90 ?_
              refine lv_topi (fun x_9 ex_9 => ?_)
              obtain rfl : 0 = x_9 := (ex_9.trans (by decide)).symm
              refine lv_istore_n (lv' := [(2, .int 0), (5, .int 0), (4, .int 0), (0, .ref h0), (1, .int 0), (3, .int (nI k))]) hx hb dX8_views_91 rfl hl (by decide) rfl (fun ls hl => ?_)
              refine lv_iinc (v := (nI (k + 1))) (lv' := [(3, .int (nI (k + 1))), (2, .int 0), (5, .int 0), (4, .int 0), (0, .ref h0), (1, .int 0)]) hx hb dX8_views_92 hl (k := 5) rfl (nI_1 _) (by decide) rfl (fun ls hl => ?_)
              refine lv_goto (tgt := 4) hx hb dX8_views_95 (by decide) ?_
              exact ih4 (k + 1)  ⟨by omega, by omega⟩ (by omega)  _ (lv_sub hl [4, 5, 1, 0] rfl)
            · skip
              exact absurd c_8 (by decide)
          · skip
            exact absurd c_7 (by decide)
  exact L4 9 0  ⟨by omega, by omega⟩ (by omega)  _ (lv_sub hl [2, 3, 1, 0] rfl)

set_option maxHeartbeats 4000000 in
set_option maxRecDepth 100000 in
theorem kX8_turnedBy (l : Launch) (dC : Nat → ClassId) (dI : Nat → Nat → Nat) (cyI cyZ : ClassId) (h0 st im kp pw nx li il mv so la co : Nat) (d6 d11 d12 : Int32) (fs : Nat → Int32) (h8 : fs 0 = 8) : Met l yX8_turnedBy wsX8_turnedBy ({ frames := 0, cells := 0, slots := 0, locals := 0 }) (bs_R dC dI cyI cyZ [.ref h0, .int 0] [(h0, .inr (6, [.ref st, .ref im, .ref kp, .ref pw, .ref nx, .ref li, .int d6, .ref il, .ref mv, .ref so, .ref la, .int d11, .int d12, .ref co])), (st, .inl (cyI, 72, .inl fs))]) (vp_Si (fun r : Int32 => r = -6)) 0 0 (fun _ => False) := by
  refine Met.ofW (cc := cX8_turnedBy) (maxL := 5) (ret := (some .int)) (by decide) rfl ?_
  intro p e s m args below meth c s₁ B hml hv
  obtain ⟨rfl, hB, hP⟩ := hv
  have hK := hB.1
  have hN := hB.2
  have hx := B.exec
  have hb := B.bytes
  have hr := B.returns
  have hts := atoms_spec (ws := wsX8_turnedBy) B.pre
  have hown : s.vm.findClass RX8 = some m.cls := findClass_of_methodNamed B.named
  have hlocks := B.notSynchronized
  have hP : va_P (dC, dI) vwCl [(h0, .inr (6, [.ref st, .ref im, .ref kp, .ref pw, .ref nx, .ref li, .int d6, .ref il, .ref mv, .ref so, .ref la, .int d11, .int d12, .ref co])), (st, .inl (cyI, 72, .inl fs))] s.heap := hP
  have hl := lv_entry ([.ref h0, .int 0]) (n := 5) (Nat.le_of_ble_eq_true rfl)
  rw [lg_entry_eq]
  generalize (lg_sl ([.ref h0, .int 0]) ++ List.replicate (5 - (lg_sl ([.ref h0, .int 0])).length) Slot.unset).toArray = ls at hl ⊢
  have hl : lv_has ls 5 [(0, .ref h0), (1, .int 0)] := hl
  refine lv_iload_n hx hb dX8_turnedBy_0 rfl (lv_at hl 1 rfl) ?_
  refine lv_if_ne (tgt := 7) hx hb dX8_turnedBy_1 (by decide) (fun c_1 => ?_) (fun c_1 => ?_)
  · skip
    exact absurd c_1 (by decide)
  · skip
    refine lv_bipush (v := (-6)) hx hb dX8_turnedBy_4 (by decide) ?_
    exact W.iret (v := (-6)) hx hb hr (fun t ht hW => ⟨(-6), rfl, rfl, ht⟩) (fun q h => by cases h) dX8_turnedBy_6

set_option maxHeartbeats 4000000 in
set_option maxRecDepth 100000 in
theorem kX8_shape (l : Launch) (dC : Nat → ClassId) (dI : Nat → Nat → Nat) (cyI cyZ : ClassId) (h0 st im kp pw nx li il mv so la co : Nat) (d6 d11 d12 : Int32) (fs : Nat → Int32) (h8 : fs 0 = 8) (hs : ∀ j, 1 ≤ j → fs j = 0) (fp : Nat → Int32) (hp : ∀ j, j ≤ 10 → fp j = nI (3 ^ j)) (p1 : Int32) : Met l yX8_shape wsX8_shape ({ frames := 2, cells := 0, slots := 0, locals := 46 }) (bs_R dC dI cyI cyZ [.ref h0, .int p1] [(h0, .inr (6, [.ref st, .ref im, .ref kp, .ref pw, .ref nx, .ref li, .int d6, .ref il, .ref mv, .ref so, .ref la, .int d11, .int d12, .ref co])), (st, .inl (cyI, 72, .inl fs)), (pw, .inl (cyI, 11, .inl fp))]) (vp_Si (fun r : Int32 => r = sp_shape p1)) 0 0 (fun _ => False) := by
  refine Met.ofW (cc := cX8_shape) (maxL := 3) (ret := (some .int)) (by decide) rfl ?_
  intro p e s m args below meth c s₁ B hml hv
  obtain ⟨rfl, hB, hP⟩ := hv
  have hK := hB.1
  have hN := hB.2
  have hx := B.exec
  have hb := B.bytes
  have hr := B.returns
  have hts := atoms_spec (ws := wsX8_shape) B.pre
  have hown : s.vm.findClass RX8 = some m.cls := findClass_of_methodNamed B.named
  have hlocks := B.notSynchronized
  have hP : va_P (dC, dI) vwCl [(h0, .inr (6, [.ref st, .ref im, .ref kp, .ref pw, .ref nx, .ref li, .int d6, .ref il, .ref mv, .ref so, .ref la, .int d11, .int d12, .ref co])), (st, .inl (cyI, 72, .inl fs)), (pw, .inl (cyI, 11, .inl fp))] s.heap := hP
  have hl := lv_entry ([.ref h0, .int p1]) (n := 3) (Nat.le_of_ble_eq_true rfl)
  rw [lg_entry_eq]
  generalize (lg_sl ([.ref h0, .int p1]) ++ List.replicate (3 - (lg_sl ([.ref h0, .int p1])).length) Slot.unset).toArray = ls at hl ⊢
  have hl : lv_has ls 3 [(0, .ref h0), (1, .int p1)] := hl
  refine lv_aload_n hx hb dX8_shape_0 rfl (lv_at hl 0 rfl) ?_
  refine lv_aload_n hx hb dX8_shape_1 rfl (lv_at hl 0 rfl) ?_
  refine vp_callSi (va_Run.run (va_runV (As := []) (rest := [.ref h0]) ⟨hx, hb, hml, hown, hts⟩ (kX8_now l dC dI cyI cyZ h0 st im kp pw nx li il mv so la co d6 d11 d12 fs h8 hs fp hp) (cwV 0 hts gX8_shape_X8_now rfl rfl rfl (by decide +kernel) ⟨Nat.le_of_ble_eq_true rfl, Nat.le_of_ble_eq_true rfl⟩) (bs_RV hB (hP.sub (ws' := [(h0, .inr (6, [.ref st, .ref im, .ref kp, .ref pw, .ref nx, .ref li, .int d6, .ref il, .ref mv, .ref so, .ref la, .int d11, .int d12, .ref co])), (st, .inl (cyI, 72, .inl fs)), (pw, .inl (cyI, 11, .inl fp))]) [0, 1, 2] rfl) 0 rfl rfl) rfl rfl hl.1 rfl (lv_room (Nat.le_of_ble_eq_true rfl)) dX8_shape_2 ⟨Nat.le_of_ble_eq_true rfl, Nat.le_of_ble_eq_true rfl⟩)) (fun r_1 hr_1 => ?_)
  obtain rfl : r_1 = 0 := hr_1
  refine vp_callSi (va_Run.run (va_runV (As := [.int 0]) (rest := []) ⟨hx, hb, hml, hown, hts⟩ (kX8_standsOf l dC dI cyI cyZ h0 st im kp pw nx li il mv so la co d6 d11 d12 fs h8 fp hp 0) (cwV 1 hts gX8_shape_X8_standsOf rfl rfl rfl (by decide +kernel) ⟨Nat.le_of_ble_eq_true rfl, Nat.le_of_ble_eq_true rfl⟩) (bs_RV hB (hP.sub (ws' := [(h0, .inr (6, [.ref st, .ref im, .ref kp, .ref pw, .ref nx, .ref li, .int d6, .ref il, .ref mv, .ref so, .ref la, .int d11, .int d12, .ref co])), (st, .inl (cyI, 72, .inl fs)), (pw, .inl (cyI, 11, .inl fp))]) [0, 1, 2] rfl) 0 rfl rfl) rfl rfl hl.1 rfl (lv_room (Nat.le_of_ble_eq_true rfl)) dX8_shape_5 ⟨Nat.le_of_ble_eq_true rfl, Nat.le_of_ble_eq_true rfl⟩)) (fun r_2 hr_2 => ?_)
  obtain rfl : r_2 = 0 := hr_2.trans (by decide)
  refine lv_istore_n (lv' := [(2, .int 0), (0, .ref h0), (1, .int p1)]) hx hb dX8_shape_8 rfl hl (by decide) rfl (fun ls hl => ?_)
  refine lv_iload_n hx hb dX8_shape_9 rfl (lv_at hl 2 rfl) ?_
  rcases nb_sw p1 5 5 rfl with w_3 | ⟨w_3k, w_3l, w_3⟩
  · skip
    refine lv_tableOut (tgt := 120) hx hb dX8_shape_10 w_3 (by decide) ?_
    refine lv_bipush (v := (-2)) hx hb dX8_shape_120 (by decide) ?_
    exact W.iret (v := (-2)) hx hb hr (fun t ht hW => ⟨(-2), rfl, (show (-2) = sp_shape p1 by have hw9 := w_3; unfold sp_shape; (repeat' split) <;> first | rfl | (exfalso; omega)), ht⟩) (fun q h => by cases h) dX8_shape_122
  · skip
    rcases (show w_3k = 0 ∨ w_3k = 1 ∨ w_3k = 2 ∨ w_3k = 3 ∨ w_3k = 4 ∨ w_3k = 5 by omega) with rfl | rfl | rfl | rfl | rfl | rfl
    · skip
      have ew_3 : p1 = 0 := w_3
      refine W.eq (g2 := F0 m 10 ls (.int 0 :: [])) (by rw [ew_3]) ?_
      refine lv_tableIn (off := 38) (tgt := 48) hx hb dX8_shape_10 (by decide) (by decide) (by decide) (by decide) ?_
      refine lv_aload_n hx hb dX8_shape_48 rfl (lv_at hl 1 rfl) ?_
      refine lv_iload_n hx hb dX8_shape_49 rfl (lv_at hl 0 rfl) ?_
      refine vp_callSi (va_Run.run (va_runV (As := [.int 0]) (rest := []) ⟨hx, hb, hml, hown, hts⟩ (kX8_isTurned l dC dI cyI cyZ h0 st im kp pw nx li il mv so la co d6 d11 d12 fs h8) (cwV 1 hts gX8_shape_X8_isTurned rfl rfl rfl (by decide +kernel) ⟨Nat.le_of_ble_eq_true rfl, Nat.le_of_ble_eq_true rfl⟩) (bs_RV hB (hP.sub (ws' := [(h0, .inr (6, [.ref st, .ref im, .ref kp, .ref pw, .ref nx, .ref li, .int d6, .ref il, .ref mv, .ref so, .ref la, .int d11, .int d12, .ref co])), (st, .inl (cyI, 72, .inl fs))]) [0, 1] rfl) 0 rfl rfl) rfl rfl hl.1 rfl (lv_room (Nat.le_of_ble_eq_true rfl)) dX8_shape_50 ⟨Nat.le_of_ble_eq_true rfl, Nat.le_of_ble_eq_true rfl⟩)) (fun r_4 hr_4 => ?_)
      obtain rfl : r_4 = 0 := hr_4
      refine lv_if_eq (tgt := 60) hx hb dX8_shape_53 (by decide) (fun c_5 => ?_) (fun c_5 => ?_)
      · skip
        refine lv_iconst (v := 0) hx hb dX8_shape_60 (by decide) ?_
        exact W.iret (v := 0) hx hb hr (fun t ht hW => ⟨0, rfl, (show 0 = sp_shape p1 by have hw9 := congrArg Int32.toInt ew_3; rw [show Int32.toInt 0 = 0 from by decide] at hw9;  unfold sp_shape; (repeat' split) <;> first | rfl | (exfalso; omega)), ht⟩) (fun q h => by cases h) dX8_shape_61
      · skip
        exact absurd c_5 (by decide)
    · skip
      have ew_3 : p1 = 1 := w_3
      refine W.eq (g2 := F0 m 10 ls (.int 1 :: [])) (by rw [ew_3]) ?_
      refine lv_tableIn (off := 52) (tgt := 62) hx hb dX8_shape_10 (by decide) (by decide) (by decide) (by decide) ?_
      refine lv_aload_n hx hb dX8_shape_62 rfl (lv_at hl 1 rfl) ?_
      refine lv_iload_n hx hb dX8_shape_63 rfl (lv_at hl 0 rfl) ?_
      refine vp_callSi (va_Run.run (va_runV (As := [.int 0]) (rest := []) ⟨hx, hb, hml, hown, hts⟩ (kX8_isMirrored l dC dI cyI cyZ h0 st im kp pw nx li il mv so la co d6 d11 d12 fs h8) (cwV 1 hts gX8_shape_X8_isMirrored rfl rfl rfl (by decide +kernel) ⟨Nat.le_of_ble_eq_true rfl, Nat.le_of_ble_eq_true rfl⟩) (bs_RV hB (hP.sub (ws' := [(h0, .inr (6, [.ref st, .ref im, .ref kp, .ref pw, .ref nx, .ref li, .int d6, .ref il, .ref mv, .ref so, .ref la, .int d11, .int d12, .ref co])), (st, .inl (cyI, 72, .inl fs))]) [0, 1] rfl) 0 rfl rfl) rfl rfl hl.1 rfl (lv_room (Nat.le_of_ble_eq_true rfl)) dX8_shape_64 ⟨Nat.le_of_ble_eq_true rfl, Nat.le_of_ble_eq_true rfl⟩)) (fun r_6 hr_6 => ?_)
      obtain rfl : r_6 = 0 := hr_6
      refine lv_if_eq (tgt := 74) hx hb dX8_shape_67 (by decide) (fun c_7 => ?_) (fun c_7 => ?_)
      · skip
        refine lv_iconst (v := 0) hx hb dX8_shape_74 (by decide) ?_
        exact W.iret (v := 0) hx hb hr (fun t ht hW => ⟨0, rfl, (show 0 = sp_shape p1 by have hw9 := congrArg Int32.toInt ew_3; rw [show Int32.toInt 1 = 1 from by decide] at hw9;  unfold sp_shape; (repeat' split) <;> first | rfl | (exfalso; omega)), ht⟩) (fun q h => by cases h) dX8_shape_75
      · skip
        exact absurd c_7 (by decide)
    · skip
      have ew_3 : p1 = 2 := w_3
      refine W.eq (g2 := F0 m 10 ls (.int 2 :: [])) (by rw [ew_3]) ?_
      refine lv_tableIn (off := 66) (tgt := 76) hx hb dX8_shape_10 (by decide) (by decide) (by decide) (by decide) ?_
      refine lv_iload_n hx hb dX8_shape_76 rfl (lv_at hl 0 rfl) ?_
      refine lv_if_eq (tgt := 100) hx hb dX8_shape_77 (by decide) (fun c_8 => ?_) (fun c_8 => ?_)
      · skip
        refine lv_iconst (v := 0) hx hb dX8_shape_100 (by decide) ?_
        exact W.iret (v := 0) hx hb hr (fun t ht hW => ⟨0, rfl, (show 0 = sp_shape p1 by have hw9 := congrArg Int32.toInt ew_3; rw [show Int32.toInt 2 = 2 from by decide] at hw9;  unfold sp_shape; (repeat' split) <;> first | rfl | (exfalso; omega)), ht⟩) (fun q h => by cases h) dX8_shape_101
      · skip
        exact absurd c_8 (by decide)
    · skip
      have ew_3 : p1 = 3 := w_3
      refine W.eq (g2 := F0 m 10 ls (.int 3 :: [])) (by rw [ew_3]) ?_
      refine lv_tableIn (off := 92) (tgt := 102) hx hb dX8_shape_10 (by decide) (by decide) (by decide) (by decide) ?_
      refine lv_aload_n hx hb dX8_shape_102 rfl (lv_at hl 1 rfl) ?_
      refine lv_iload_n hx hb dX8_shape_103 rfl (lv_at hl 0 rfl) ?_
      refine vp_callSi (va_Run.run (va_runV (As := [.int 0]) (rest := []) ⟨hx, hb, hml, hown, hts⟩ (kX8_even l dC dI cyI cyZ h0 st im kp pw nx li il mv so la co d6 d11 d12 fs h8) (cwV 1 hts gX8_shape_X8_even rfl rfl rfl (by decide +kernel) ⟨Nat.le_of_ble_eq_true rfl, Nat.le_of_ble_eq_true rfl⟩) (bs_RV hB (hP.sub (ws' := [(h0, .inr (6, [.ref st, .ref im, .ref kp, .ref pw, .ref nx, .ref li, .int d6, .ref il, .ref mv, .ref so, .ref la, .int d11, .int d12, .ref co])), (st, .inl (cyI, 72, .inl fs))]) [0, 1] rfl) 0 rfl rfl) rfl rfl hl.1 rfl (lv_room (Nat.le_of_ble_eq_true rfl)) dX8_shape_104 ⟨Nat.le_of_ble_eq_true rfl, Nat.le_of_ble_eq_true rfl⟩)) (fun r_9 hr_9 => ?_)
      obtain rfl : r_9 = 0 := hr_9
      exact W.iret (v := 0) hx hb hr (fun t ht hW => ⟨0, rfl, (show 0 = sp_shape p1 by have hw9 := congrArg Int32.toInt ew_3; rw [show Int32.toInt 3 = 3 from by decide] at hw9;  unfold sp_shape; (repeat' split) <;> first | rfl | (exfalso; omega)), ht⟩) (fun q h => by cases h) dX8_shape_107
    · skip
      have ew_3 : p1 = 4 := w_3
      refine W.eq (g2 := F0 m 10 ls (.int 4 :: [])) (by rw [ew_3]) ?_
      refine lv_tableIn (off := 98) (tgt := 108) hx hb dX8_shape_10 (by decide) (by decide) (by decide) (by decide) ?_
      refine lv_aload_n hx hb dX8_shape_108 rfl (lv_at hl 1 rfl) ?_
      refine lv_iload_n hx hb dX8_shape_109 rfl (lv_at hl 0 rfl) ?_
      refine vp_callSi (va_Run.run (va_runV (As := [.int 0]) (rest := []) ⟨hx, hb, hml, hown, hts⟩ (kX8_views l dC dI cyI cyZ h0 st im kp pw nx li il mv so la co d6 d11 d12 fs h8) (cwV 1 hts gX8_shape_X8_views rfl rfl rfl (by decide +kernel) ⟨Nat.le_of_ble_eq_true rfl, Nat.le_of_ble_eq_true rfl⟩) (bs_RV hB (hP.sub (ws' := [(h0, .inr (6, [.ref st, .ref im, .ref kp, .ref pw, .ref nx, .ref li, .int d6, .ref il, .ref mv, .ref so, .ref la, .int d11, .int d12, .ref co])), (st, .inl (cyI, 72, .inl fs))]) [0, 1] rfl) 0 rfl rfl) rfl rfl hl.1 rfl (lv_room (Nat.le_of_ble_eq_true rfl)) dX8_shape_110 ⟨Nat.le_of_ble_eq_true rfl, Nat.le_of_ble_eq_true rfl⟩)) (fun r_10 hr_10 => ?_)
      obtain rfl : r_10 = 0 := hr_10
      exact W.iret (v := 0) hx hb hr (fun t ht hW => ⟨0, rfl, (show 0 = sp_shape p1 by have hw9 := congrArg Int32.toInt ew_3; rw [show Int32.toInt 4 = 4 from by decide] at hw9;  unfold sp_shape; (repeat' split) <;> first | rfl | (exfalso; omega)), ht⟩) (fun q h => by cases h) dX8_shape_113
    · skip
      have ew_3 : p1 = 5 := w_3
      refine W.eq (g2 := F0 m 10 ls (.int 5 :: [])) (by rw [ew_3]) ?_
      refine lv_tableIn (off := 104) (tgt := 114) hx hb dX8_shape_10 (by decide) (by decide) (by decide) (by decide) ?_
      refine lv_aload_n hx hb dX8_shape_114 rfl (lv_at hl 1 rfl) ?_
      refine lv_iload_n hx hb dX8_shape_115 rfl (lv_at hl 0 rfl) ?_
      refine vp_callSi (va_Run.run (va_runV (As := [.int 0]) (rest := []) ⟨hx, hb, hml, hown, hts⟩ (kX8_turnedBy l dC dI cyI cyZ h0 st im kp pw nx li il mv so la co d6 d11 d12 fs h8) (cwV 1 hts gX8_shape_X8_turnedBy rfl rfl rfl (by decide +kernel) ⟨Nat.le_of_ble_eq_true rfl, Nat.le_of_ble_eq_true rfl⟩) (bs_RV hB (hP.sub (ws' := [(h0, .inr (6, [.ref st, .ref im, .ref kp, .ref pw, .ref nx, .ref li, .int d6, .ref il, .ref mv, .ref so, .ref la, .int d11, .int d12, .ref co])), (st, .inl (cyI, 72, .inl fs))]) [0, 1] rfl) 0 rfl rfl) rfl rfl hl.1 rfl (lv_room (Nat.le_of_ble_eq_true rfl)) dX8_shape_116 ⟨Nat.le_of_ble_eq_true rfl, Nat.le_of_ble_eq_true rfl⟩)) (fun r_11 hr_11 => ?_)
      obtain rfl : r_11 = (-6) := hr_11
      exact W.iret (v := (-6)) hx hb hr (fun t ht hW => ⟨(-6), rfl, (show (-6) = sp_shape p1 by have hw9 := congrArg Int32.toInt ew_3; rw [show Int32.toInt 5 = 5 from by decide] at hw9;  unfold sp_shape; (repeat' split) <;> first | rfl | (exfalso; omega)), ht⟩) (fun q h => by cases h) dX8_shape_119

set_option maxHeartbeats 4000000 in
set_option maxRecDepth 100000 in
theorem kX8_gap (l : Launch) (dC : Nat → ClassId) (dI : Nat → Nat → Nat) (cyI cyZ : ClassId) (h0 st im kp pw nx li il mv so la co : Nat) (d6 d11 d12 : Int32) (fs : Nat → Int32) (h8 : fs 0 = 8) (hs : ∀ j, 1 ≤ j → fs j = 0) (fp : Nat → Int32) (hp : ∀ j, j ≤ 10 → fp j = nI (3 ^ j)) (p1 p2 p3 : Int32) : Met l yX8_gap wsX8_gap ({ frames := 3, cells := 0, slots := 0, locals := 64 }) (bs_R dC dI cyI cyZ [.ref h0, .int p1, .int p2, .int p3] [(h0, .inr (6, [.ref st, .ref im, .ref kp, .ref pw, .ref nx, .ref li, .int d6, .ref il, .ref mv, .ref so, .ref la, .int d11, .int d12, .ref co])), (st, .inl (cyI, 72, .inl fs)), (pw, .inl (cyI, 11, .inl fp))]) (vp_Si (fun r : Int32 => r = -1)) 0 0 (fun _ => False) := by
  refine Met.ofW (cc := cX8_gap) (maxL := 7) (ret := (some .int)) (by decide) rfl ?_
  intro p e s m args below meth c s₁ B hml hv
  obtain ⟨rfl, hB, hP⟩ := hv
  have hK := hB.1
  have hN := hB.2
  have hx := B.exec
  have hb := B.bytes
  have hr := B.returns
  have hts := atoms_spec (ws := wsX8_gap) B.pre
  have hown : s.vm.findClass RX8 = some m.cls := findClass_of_methodNamed B.named
  have hlocks := B.notSynchronized
  have hP : va_P (dC, dI) vwCl [(h0, .inr (6, [.ref st, .ref im, .ref kp, .ref pw, .ref nx, .ref li, .int d6, .ref il, .ref mv, .ref so, .ref la, .int d11, .int d12, .ref co])), (st, .inl (cyI, 72, .inl fs)), (pw, .inl (cyI, 11, .inl fp))] s.heap := hP
  have hl := lv_entry ([.ref h0, .int p1, .int p2, .int p3]) (n := 7) (Nat.le_of_ble_eq_true rfl)
  rw [lg_entry_eq]
  generalize (lg_sl ([.ref h0, .int p1, .int p2, .int p3]) ++ List.replicate (7 - (lg_sl ([.ref h0, .int p1, .int p2, .int p3])).length) Slot.unset).toArray = ls at hl ⊢
  have hl : lv_has ls 7 [(0, .ref h0), (1, .int p1), (2, .int p2), (3, .int p3)] := hl
  refine lv_aload_n hx hb dX8_gap_0 rfl (lv_at hl 0 rfl) ?_
  refine lv_iload_n hx hb dX8_gap_1 rfl (lv_at hl 1 rfl) ?_
  refine vp_callSi (va_Run.run (va_runV (As := [.int p1]) (rest := []) ⟨hx, hb, hml, hown, hts⟩ (kX8_isStand l dC dI cyI cyZ h0 st im kp pw nx li il mv so la co d6 d11 d12 fs h8 hs p1) (cwV 1 hts gX8_gap_X8_isStand rfl rfl rfl (by decide +kernel) ⟨Nat.le_of_ble_eq_true rfl, Nat.le_of_ble_eq_true rfl⟩) (bs_RV hB (hP.sub (ws' := [(h0, .inr (6, [.ref st, .ref im, .ref kp, .ref pw, .ref nx, .ref li, .int d6, .ref il, .ref mv, .ref so, .ref la, .int d11, .int d12, .ref co])), (st, .inl (cyI, 72, .inl fs))]) [0, 1] rfl) 0 rfl rfl) rfl rfl hl.1 rfl (lv_room (Nat.le_of_ble_eq_true rfl)) dX8_gap_2 ⟨Nat.le_of_ble_eq_true rfl, Nat.le_of_ble_eq_true rfl⟩)) (fun r_1 hr_1 => ?_)
  obtain rfl : r_1 = 0 := hr_1
  refine lv_if_ne (tgt := 10) hx hb dX8_gap_5 (by decide) (fun c_2 => ?_) (fun c_2 => ?_)
  · skip
    exact absurd c_2 (by decide)
  · skip
    refine lv_iconst (v := (-1)) hx hb dX8_gap_8 (by decide) ?_
    exact W.iret (v := (-1)) hx hb hr (fun t ht hW => ⟨(-1), rfl, rfl, ht⟩) (fun q h => by cases h) dX8_gap_9

set_option maxHeartbeats 4000000 in
set_option maxRecDepth 100000 in
theorem kX8_does (l : Launch) (dC : Nat → ClassId) (dI : Nat → Nat → Nat) (cyI cyZ : ClassId) (h0 st im kp pw nx li il mv so la co : Nat) (d6 d11 d12 : Int32) (fs : Nat → Int32) (h8 : fs 0 = 8) (hs : ∀ j, 1 ≤ j → fs j = 0) (fp : Nat → Int32) (hp : ∀ j, j ≤ 10 → fp j = nI (3 ^ j)) (p1 p2 : Int32) : Met l yX8_does wsX8_does ({ frames := 3, cells := 0, slots := 0, locals := 64 }) (bs_R dC dI cyI cyZ [.ref h0, .int p1, .int p2] [(h0, .inr (6, [.ref st, .ref im, .ref kp, .ref pw, .ref nx, .ref li, .int d6, .ref il, .ref mv, .ref so, .ref la, .int d11, .int d12, .ref co])), (st, .inl (cyI, 72, .inl fs)), (pw, .inl (cyI, 11, .inl fp))]) (vp_Si (fun r : Int32 => r = -1)) 0 0 (fun _ => False) := by
  refine Met.ofW (cc := cX8_does) (maxL := 5) (ret := (some .int)) (by decide) rfl ?_
  intro p e s m args below meth c s₁ B hml hv
  obtain ⟨rfl, hB, hP⟩ := hv
  have hK := hB.1
  have hN := hB.2
  have hx := B.exec
  have hb := B.bytes
  have hr := B.returns
  have hts := atoms_spec (ws := wsX8_does) B.pre
  have hown : s.vm.findClass RX8 = some m.cls := findClass_of_methodNamed B.named
  have hlocks := B.notSynchronized
  have hP : va_P (dC, dI) vwCl [(h0, .inr (6, [.ref st, .ref im, .ref kp, .ref pw, .ref nx, .ref li, .int d6, .ref il, .ref mv, .ref so, .ref la, .int d11, .int d12, .ref co])), (st, .inl (cyI, 72, .inl fs)), (pw, .inl (cyI, 11, .inl fp))] s.heap := hP
  have hl := lv_entry ([.ref h0, .int p1, .int p2]) (n := 5) (Nat.le_of_ble_eq_true rfl)
  rw [lg_entry_eq]
  generalize (lg_sl ([.ref h0, .int p1, .int p2]) ++ List.replicate (5 - (lg_sl ([.ref h0, .int p1, .int p2])).length) Slot.unset).toArray = ls at hl ⊢
  have hl : lv_has ls 5 [(0, .ref h0), (1, .int p1), (2, .int p2)] := hl
  refine lv_aload_n hx hb dX8_does_0 rfl (lv_at hl 0 rfl) ?_
  refine lv_iload_n hx hb dX8_does_1 rfl (lv_at hl 1 rfl) ?_
  refine vp_callSi (va_Run.run (va_runV (As := [.int p1]) (rest := []) ⟨hx, hb, hml, hown, hts⟩ (kX8_isStand l dC dI cyI cyZ h0 st im kp pw nx li il mv so la co d6 d11 d12 fs h8 hs p1) (cwV 1 hts gX8_does_X8_isStand rfl rfl rfl (by decide +kernel) ⟨Nat.le_of_ble_eq_true rfl, Nat.le_of_ble_eq_true rfl⟩) (bs_RV hB (hP.sub (ws' := [(h0, .inr (6, [.ref st, .ref im, .ref kp, .ref pw, .ref nx, .ref li, .int d6, .ref il, .ref mv, .ref so, .ref la, .int d11, .int d12, .ref co])), (st, .inl (cyI, 72, .inl fs))]) [0, 1] rfl) 0 rfl rfl) rfl rfl hl.1 rfl (lv_room (Nat.le_of_ble_eq_true rfl)) dX8_does_2 ⟨Nat.le_of_ble_eq_true rfl, Nat.le_of_ble_eq_true rfl⟩)) (fun r_1 hr_1 => ?_)
  obtain rfl : r_1 = 0 := hr_1
  refine lv_if_ne (tgt := 10) hx hb dX8_does_5 (by decide) (fun c_2 => ?_) (fun c_2 => ?_)
  · skip
    exact absurd c_2 (by decide)
  · skip
    refine lv_iconst (v := (-1)) hx hb dX8_does_8 (by decide) ?_
    exact W.iret (v := (-1)) hx hb hr (fun t ht hW => ⟨(-1), rfl, rfl, ht⟩) (fun q h => by cases h) dX8_does_9

set_option maxHeartbeats 4000000 in
set_option maxRecDepth 100000 in
theorem kX8_whom (l : Launch) (dC : Nat → ClassId) (dI : Nat → Nat → Nat) (cyI cyZ : ClassId) (h0 st im kp pw nx li il mv so la co : Nat) (d6 d11 d12 : Int32) (fs : Nat → Int32) (h8 : fs 0 = 8) (hs : ∀ j, 1 ≤ j → fs j = 0) (fp : Nat → Int32) (hp : ∀ j, j ≤ 10 → fp j = nI (3 ^ j)) (p1 p2 : Int32) : Met l yX8_whom wsX8_whom ({ frames := 2, cells := 0, slots := 0, locals := 43 }) (bs_R dC dI cyI cyZ [.ref h0, .int p1, .int p2] [(h0, .inr (6, [.ref st, .ref im, .ref kp, .ref pw, .ref nx, .ref li, .int d6, .ref il, .ref mv, .ref so, .ref la, .int d11, .int d12, .ref co])), (st, .inl (cyI, 72, .inl fs)), (pw, .inl (cyI, 11, .inl fp))]) (vp_Si (fun r : Int32 => r = -1)) 0 0 (fun _ => False) := by
  refine Met.ofW (cc := cX8_whom) (maxL := 4) (ret := (some .int)) (by decide) rfl ?_
  intro p e s m args below meth c s₁ B hml hv
  obtain ⟨rfl, hB, hP⟩ := hv
  have hK := hB.1
  have hN := hB.2
  have hx := B.exec
  have hb := B.bytes
  have hr := B.returns
  have hts := atoms_spec (ws := wsX8_whom) B.pre
  have hown : s.vm.findClass RX8 = some m.cls := findClass_of_methodNamed B.named
  have hlocks := B.notSynchronized
  have hP : va_P (dC, dI) vwCl [(h0, .inr (6, [.ref st, .ref im, .ref kp, .ref pw, .ref nx, .ref li, .int d6, .ref il, .ref mv, .ref so, .ref la, .int d11, .int d12, .ref co])), (st, .inl (cyI, 72, .inl fs)), (pw, .inl (cyI, 11, .inl fp))] s.heap := hP
  have hl := lv_entry ([.ref h0, .int p1, .int p2]) (n := 4) (Nat.le_of_ble_eq_true rfl)
  rw [lg_entry_eq]
  generalize (lg_sl ([.ref h0, .int p1, .int p2]) ++ List.replicate (4 - (lg_sl ([.ref h0, .int p1, .int p2])).length) Slot.unset).toArray = ls at hl ⊢
  have hl : lv_has ls 4 [(0, .ref h0), (1, .int p1), (2, .int p2)] := hl
  refine lv_aload_n hx hb dX8_whom_0 rfl (lv_at hl 0 rfl) ?_
  refine lv_iload_n hx hb dX8_whom_1 rfl (lv_at hl 1 rfl) ?_
  refine vp_callSi (va_Run.run (va_runV (As := [.int p1]) (rest := []) ⟨hx, hb, hml, hown, hts⟩ (kX8_isRule l dC dI cyI cyZ h0 st im kp pw nx li il mv so la co d6 d11 d12 fs h8 hs p1) (cwV 1 hts gX8_whom_X8_isRule rfl rfl rfl (by decide +kernel) ⟨Nat.le_of_ble_eq_true rfl, Nat.le_of_ble_eq_true rfl⟩) (bs_RV hB (hP.sub (ws' := [(h0, .inr (6, [.ref st, .ref im, .ref kp, .ref pw, .ref nx, .ref li, .int d6, .ref il, .ref mv, .ref so, .ref la, .int d11, .int d12, .ref co])), (st, .inl (cyI, 72, .inl fs))]) [0, 1] rfl) 0 rfl rfl) rfl rfl hl.1 rfl (lv_room (Nat.le_of_ble_eq_true rfl)) dX8_whom_2 ⟨Nat.le_of_ble_eq_true rfl, Nat.le_of_ble_eq_true rfl⟩)) (fun r_1 hr_1 => ?_)
  obtain rfl : r_1 = 0 := hr_1
  refine lv_if_ne (tgt := 10) hx hb dX8_whom_5 (by decide) (fun c_2 => ?_) (fun c_2 => ?_)
  · skip
    exact absurd c_2 (by decide)
  · skip
    refine lv_iconst (v := (-1)) hx hb dX8_whom_8 (by decide) ?_
    exact W.iret (v := (-1)) hx hb hr (fun t ht hW => ⟨(-1), rfl, rfl, ht⟩) (fun q h => by cases h) dX8_whom_9

set_option maxHeartbeats 4000000 in
set_option maxRecDepth 100000 in
theorem kX8_drop (l : Launch) (dC : Nat → ClassId) (dI : Nat → Nat → Nat) (cyI cyZ : ClassId) (h0 st im kp pw nx li il mv so la co : Nat) (d6 d11 d12 : Int32) (fs : Nat → Int32) (h8 : fs 0 = 8) (hs : ∀ j, 1 ≤ j → fs j = 0) (fp : Nat → Int32) (hp : ∀ j, j ≤ 10 → fp j = nI (3 ^ j)) (p1 : Int32) : Met l yX8_drop wsX8_drop ({ frames := 2, cells := 0, slots := 0, locals := 43 }) (bs_R dC dI cyI cyZ [.ref h0, .int p1] [(h0, .inr (6, [.ref st, .ref im, .ref kp, .ref pw, .ref nx, .ref li, .int d6, .ref il, .ref mv, .ref so, .ref la, .int d11, .int d12, .ref co])), (st, .inl (cyI, 72, .inl fs)), (pw, .inl (cyI, 11, .inl fp))]) (vp_Si (fun r : Int32 => r = -1)) 0 0 (fun _ => False) := by
  refine Met.ofW (cc := cX8_drop) (maxL := 3) (ret := (some .int)) (by decide) rfl ?_
  intro p e s m args below meth c s₁ B hml hv
  obtain ⟨rfl, hB, hP⟩ := hv
  have hK := hB.1
  have hN := hB.2
  have hx := B.exec
  have hb := B.bytes
  have hr := B.returns
  have hts := atoms_spec (ws := wsX8_drop) B.pre
  have hown : s.vm.findClass RX8 = some m.cls := findClass_of_methodNamed B.named
  have hlocks := B.notSynchronized
  have hP : va_P (dC, dI) vwCl [(h0, .inr (6, [.ref st, .ref im, .ref kp, .ref pw, .ref nx, .ref li, .int d6, .ref il, .ref mv, .ref so, .ref la, .int d11, .int d12, .ref co])), (st, .inl (cyI, 72, .inl fs)), (pw, .inl (cyI, 11, .inl fp))] s.heap := hP
  have hl := lv_entry ([.ref h0, .int p1]) (n := 3) (Nat.le_of_ble_eq_true rfl)
  rw [lg_entry_eq]
  generalize (lg_sl ([.ref h0, .int p1]) ++ List.replicate (3 - (lg_sl ([.ref h0, .int p1])).length) Slot.unset).toArray = ls at hl ⊢
  have hl : lv_has ls 3 [(0, .ref h0), (1, .int p1)] := hl
  refine lv_aload_n hx hb dX8_drop_0 rfl (lv_at hl 0 rfl) ?_
  refine lv_iload_n hx hb dX8_drop_1 rfl (lv_at hl 1 rfl) ?_
  refine vp_callSi (va_Run.run (va_runV (As := [.int p1]) (rest := []) ⟨hx, hb, hml, hown, hts⟩ (kX8_isRule l dC dI cyI cyZ h0 st im kp pw nx li il mv so la co d6 d11 d12 fs h8 hs p1) (cwV 1 hts gX8_drop_X8_isRule rfl rfl rfl (by decide +kernel) ⟨Nat.le_of_ble_eq_true rfl, Nat.le_of_ble_eq_true rfl⟩) (bs_RV hB (hP.sub (ws' := [(h0, .inr (6, [.ref st, .ref im, .ref kp, .ref pw, .ref nx, .ref li, .int d6, .ref il, .ref mv, .ref so, .ref la, .int d11, .int d12, .ref co])), (st, .inl (cyI, 72, .inl fs))]) [0, 1] rfl) 0 rfl rfl) rfl rfl hl.1 rfl (lv_room (Nat.le_of_ble_eq_true rfl)) dX8_drop_2 ⟨Nat.le_of_ble_eq_true rfl, Nat.le_of_ble_eq_true rfl⟩)) (fun r_1 hr_1 => ?_)
  obtain rfl : r_1 = 0 := hr_1
  refine lv_if_ne (tgt := 10) hx hb dX8_drop_5 (by decide) (fun c_2 => ?_) (fun c_2 => ?_)
  · skip
    exact absurd c_2 (by decide)
  · skip
    refine lv_iconst (v := (-1)) hx hb dX8_drop_8 (by decide) ?_
    exact W.iret (v := (-1)) hx hb hr (fun t ht hW => ⟨(-1), rfl, rfl, ht⟩) (fun q h => by cases h) dX8_drop_9

set_option maxHeartbeats 4000000 in
set_option maxRecDepth 100000 in
theorem kX8_of (l : Launch) (dC : Nat → ClassId) (dI : Nat → Nat → Nat) (cyI cyZ : ClassId) (h0 st im kp pw nx li il mv so la co : Nat) (d6 d11 d12 : Int32) (fs : Nat → Int32) (h8 : fs 0 = 8) (hs : ∀ j, 1 ≤ j → fs j = 0) (fp : Nat → Int32) (hp : ∀ j, j ≤ 10 → fp j = nI (3 ^ j)) (p1 p2 : Int32) : Met l yX8_of wsX8_of ({ frames := 2, cells := 0, slots := 0, locals := 43 }) (bs_R dC dI cyI cyZ [.ref h0, .int p1, .int p2] [(h0, .inr (6, [.ref st, .ref im, .ref kp, .ref pw, .ref nx, .ref li, .int d6, .ref il, .ref mv, .ref so, .ref la, .int d11, .int d12, .ref co])), (st, .inl (cyI, 72, .inl fs)), (pw, .inl (cyI, 11, .inl fp))]) (vp_Si (fun r : Int32 => r = -1)) 0 0 (fun _ => False) := by
  refine Met.ofW (cc := cX8_of) (maxL := 3) (ret := (some .int)) (by decide) rfl ?_
  intro p e s m args below meth c s₁ B hml hv
  obtain ⟨rfl, hB, hP⟩ := hv
  have hK := hB.1
  have hN := hB.2
  have hx := B.exec
  have hb := B.bytes
  have hr := B.returns
  have hts := atoms_spec (ws := wsX8_of) B.pre
  have hown : s.vm.findClass RX8 = some m.cls := findClass_of_methodNamed B.named
  have hlocks := B.notSynchronized
  have hP : va_P (dC, dI) vwCl [(h0, .inr (6, [.ref st, .ref im, .ref kp, .ref pw, .ref nx, .ref li, .int d6, .ref il, .ref mv, .ref so, .ref la, .int d11, .int d12, .ref co])), (st, .inl (cyI, 72, .inl fs)), (pw, .inl (cyI, 11, .inl fp))] s.heap := hP
  have hl := lv_entry ([.ref h0, .int p1, .int p2]) (n := 3) (Nat.le_of_ble_eq_true rfl)
  rw [lg_entry_eq]
  generalize (lg_sl ([.ref h0, .int p1, .int p2]) ++ List.replicate (3 - (lg_sl ([.ref h0, .int p1, .int p2])).length) Slot.unset).toArray = ls at hl ⊢
  have hl : lv_has ls 3 [(0, .ref h0), (1, .int p1), (2, .int p2)] := hl
  refine lv_aload_n hx hb dX8_of_0 rfl (lv_at hl 0 rfl) ?_
  refine lv_iload_n hx hb dX8_of_1 rfl (lv_at hl 1 rfl) ?_
  refine vp_callSi (va_Run.run (va_runV (As := [.int p1]) (rest := []) ⟨hx, hb, hml, hown, hts⟩ (kX8_isRule l dC dI cyI cyZ h0 st im kp pw nx li il mv so la co d6 d11 d12 fs h8 hs p1) (cwV 1 hts gX8_of_X8_isRule rfl rfl rfl (by decide +kernel) ⟨Nat.le_of_ble_eq_true rfl, Nat.le_of_ble_eq_true rfl⟩) (bs_RV hB (hP.sub (ws' := [(h0, .inr (6, [.ref st, .ref im, .ref kp, .ref pw, .ref nx, .ref li, .int d6, .ref il, .ref mv, .ref so, .ref la, .int d11, .int d12, .ref co])), (st, .inl (cyI, 72, .inl fs))]) [0, 1] rfl) 0 rfl rfl) rfl rfl hl.1 rfl (lv_room (Nat.le_of_ble_eq_true rfl)) dX8_of_2 ⟨Nat.le_of_ble_eq_true rfl, Nat.le_of_ble_eq_true rfl⟩)) (fun r_1 hr_1 => ?_)
  obtain rfl : r_1 = 0 := hr_1
  refine lv_if_ne (tgt := 10) hx hb dX8_of_5 (by decide) (fun c_2 => ?_) (fun c_2 => ?_)
  · skip
    exact absurd c_2 (by decide)
  · skip
    refine lv_iconst (v := (-1)) hx hb dX8_of_8 (by decide) ?_
    exact W.iret (v := (-1)) hx hb hr (fun t ht hW => ⟨(-1), rfl, rfl, ht⟩) (fun q h => by cases h) dX8_of_9

set_option maxHeartbeats 4000000 in
set_option maxRecDepth 100000 in
theorem kX8_first (l : Launch) (dC : Nat → ClassId) (dI : Nat → Nat → Nat) (cyI cyZ : ClassId) (h0 st im kp pw nx li il mv so la co : Nat) (d6 d11 d12 : Int32) (fs : Nat → Int32) (h8 : fs 0 = 8) (hs : ∀ j, 1 ≤ j → fs j = 0) (fp : Nat → Int32) (hp : ∀ j, j ≤ 10 → fp j = nI (3 ^ j)) (p1 : Int32) : Met l yX8_first wsX8_first ({ frames := 2, cells := 0, slots := 0, locals := 43 }) (bs_R dC dI cyI cyZ [.ref h0, .int p1] [(h0, .inr (6, [.ref st, .ref im, .ref kp, .ref pw, .ref nx, .ref li, .int d6, .ref il, .ref mv, .ref so, .ref la, .int d11, .int d12, .ref co])), (st, .inl (cyI, 72, .inl fs)), (pw, .inl (cyI, 11, .inl fp))]) (vp_Si (fun r : Int32 => r = sp_sched p1)) 0 0 (fun _ => False) := by
  refine Met.ofW (cc := cX8_first) (maxL := 5) (ret := (some .int)) (by decide) rfl ?_
  intro p e s m args below meth c s₁ B hml hv
  obtain ⟨rfl, hB, hP⟩ := hv
  have hK := hB.1
  have hN := hB.2
  have hx := B.exec
  have hb := B.bytes
  have hr := B.returns
  have hts := atoms_spec (ws := wsX8_first) B.pre
  have hown : s.vm.findClass RX8 = some m.cls := findClass_of_methodNamed B.named
  have hlocks := B.notSynchronized
  have hP : va_P (dC, dI) vwCl [(h0, .inr (6, [.ref st, .ref im, .ref kp, .ref pw, .ref nx, .ref li, .int d6, .ref il, .ref mv, .ref so, .ref la, .int d11, .int d12, .ref co])), (st, .inl (cyI, 72, .inl fs)), (pw, .inl (cyI, 11, .inl fp))] s.heap := hP
  have hl := lv_entry ([.ref h0, .int p1]) (n := 5) (Nat.le_of_ble_eq_true rfl)
  rw [lg_entry_eq]
  generalize (lg_sl ([.ref h0, .int p1]) ++ List.replicate (5 - (lg_sl ([.ref h0, .int p1])).length) Slot.unset).toArray = ls at hl ⊢
  have hl : lv_has ls 5 [(0, .ref h0), (1, .int p1)] := hl
  refine lv_iload_n hx hb dX8_first_0 rfl (lv_at hl 1 rfl) ?_
  refine vp_callSi (va_Run.run (va_runS (As := [.int p1]) (rest := []) ⟨hx, hb, hml, hown, hts⟩ (kX8_isSchedule l dC dI cyI cyZ p1) (va_cwS 1 hts gX8_first_X8_isSchedule rfl rfl rfl (by decide +kernel) ⟨Nat.le_of_ble_eq_true rfl, Nat.le_of_ble_eq_true rfl⟩) (bs_RS hB (hP.sub (ws' := []) [] rfl)) rfl rfl hl.1 rfl (lv_room (Nat.le_of_ble_eq_true rfl)) dX8_first_1 ⟨Nat.le_of_ble_eq_true rfl, Nat.le_of_ble_eq_true rfl⟩)) (fun r_1 hr_1 => ?_)
  refine lv_if_ne (tgt := 10) hx hb dX8_first_4 (by decide) (fun c_2 => ?_) (fun c_2 => ?_)
  · skip
    have ic_2 := ci_ne (rfl : Int32.toInt r_1 = _) (show Int32.toInt 0 = 0 by decide) c_2
    have hs9 := hr_1.2.1 (hr_1.1.resolve_left c_2)
    refine lv_aload_n hx hb dX8_first_10 rfl (lv_at hl 0 rfl) ?_
    refine vp_callSi (va_Run.run (va_runV (As := []) (rest := []) ⟨hx, hb, hml, hown, hts⟩ (kX8_now l dC dI cyI cyZ h0 st im kp pw nx li il mv so la co d6 d11 d12 fs h8 hs fp hp) (cwV 0 hts gX8_first_X8_now rfl rfl rfl (by decide +kernel) ⟨Nat.le_of_ble_eq_true rfl, Nat.le_of_ble_eq_true rfl⟩) (bs_RV hB (hP.sub (ws' := [(h0, .inr (6, [.ref st, .ref im, .ref kp, .ref pw, .ref nx, .ref li, .int d6, .ref il, .ref mv, .ref so, .ref la, .int d11, .int d12, .ref co])), (st, .inl (cyI, 72, .inl fs)), (pw, .inl (cyI, 11, .inl fp))]) [0, 1, 2] rfl) 0 rfl rfl) rfl rfl hl.1 rfl (lv_room (Nat.le_of_ble_eq_true rfl)) dX8_first_11 ⟨Nat.le_of_ble_eq_true rfl, Nat.le_of_ble_eq_true rfl⟩)) (fun r_3 hr_3 => ?_)
    obtain rfl : r_3 = 0 := hr_3
    refine lv_istore_n (lv' := [(2, .int 0), (0, .ref h0), (1, .int p1)]) hx hb dX8_first_14 rfl hl (by decide) rfl (fun ls hl => ?_)
    refine lv_iload_n hx hb dX8_first_15 rfl (lv_at hl 0 rfl) ?_
    refine lv_if_ne (tgt := 22) hx hb dX8_first_16 (by decide) (fun c_4 => ?_) (fun c_4 => ?_)
    · skip
      exact absurd c_4 (by decide)
    · skip
      refine lv_bipush (v := (-3)) hx hb dX8_first_19 (by decide) ?_
      exact W.iret (v := (-3)) hx hb hr (fun t ht hW => ⟨(-3), rfl, (show (-3) = sp_sched p1 by unfold sp_sched; (repeat' split) <;> first | rfl | (exfalso; omega)), ht⟩) (fun q h => by cases h) dX8_first_21
  · skip
    have ic_2 := ci_eq (rfl : Int32.toInt r_1 = _) (show Int32.toInt 0 = 0 by decide) c_2
    have hs9 := hr_1.2.2 c_2
    refine lv_bipush (v := (-2)) hx hb dX8_first_7 (by decide) ?_
    exact W.iret (v := (-2)) hx hb hr (fun t ht hW => ⟨(-2), rfl, (show (-2) = sp_sched p1 by unfold sp_sched; (repeat' split) <;> first | rfl | (exfalso; omega)), ht⟩) (fun q h => by cases h) dX8_first_9

set_option maxHeartbeats 4000000 in
set_option maxRecDepth 100000 in
theorem kX8_blind (l : Launch) (dC : Nat → ClassId) (dI : Nat → Nat → Nat) (cyI cyZ : ClassId) (h0 st im kp pw nx li il mv so la co : Nat) (d6 d11 d12 : Int32) (fs : Nat → Int32) (h8 : fs 0 = 8) (hs : ∀ j, 1 ≤ j → fs j = 0) (fp : Nat → Int32) (hp : ∀ j, j ≤ 10 → fp j = nI (3 ^ j)) (p1 : Int32) : Met l yX8_blind wsX8_blind ({ frames := 2, cells := 0, slots := 0, locals := 43 }) (bs_R dC dI cyI cyZ [.ref h0, .int p1] [(h0, .inr (6, [.ref st, .ref im, .ref kp, .ref pw, .ref nx, .ref li, .int d6, .ref il, .ref mv, .ref so, .ref la, .int d11, .int d12, .ref co])), (st, .inl (cyI, 72, .inl fs)), (pw, .inl (cyI, 11, .inl fp))]) (vp_Si (fun r : Int32 => r = sp_sched p1)) 0 0 (fun _ => False) := by
  refine Met.ofW (cc := cX8_blind) (maxL := 3) (ret := (some .int)) (by decide) rfl ?_
  intro p e s m args below meth c s₁ B hml hv
  obtain ⟨rfl, hB, hP⟩ := hv
  have hK := hB.1
  have hN := hB.2
  have hx := B.exec
  have hb := B.bytes
  have hr := B.returns
  have hts := atoms_spec (ws := wsX8_blind) B.pre
  have hown : s.vm.findClass RX8 = some m.cls := findClass_of_methodNamed B.named
  have hlocks := B.notSynchronized
  have hP : va_P (dC, dI) vwCl [(h0, .inr (6, [.ref st, .ref im, .ref kp, .ref pw, .ref nx, .ref li, .int d6, .ref il, .ref mv, .ref so, .ref la, .int d11, .int d12, .ref co])), (st, .inl (cyI, 72, .inl fs)), (pw, .inl (cyI, 11, .inl fp))] s.heap := hP
  have hl := lv_entry ([.ref h0, .int p1]) (n := 3) (Nat.le_of_ble_eq_true rfl)
  rw [lg_entry_eq]
  generalize (lg_sl ([.ref h0, .int p1]) ++ List.replicate (3 - (lg_sl ([.ref h0, .int p1])).length) Slot.unset).toArray = ls at hl ⊢
  have hl : lv_has ls 3 [(0, .ref h0), (1, .int p1)] := hl
  refine lv_iload_n hx hb dX8_blind_0 rfl (lv_at hl 1 rfl) ?_
  refine vp_callSi (va_Run.run (va_runS (As := [.int p1]) (rest := []) ⟨hx, hb, hml, hown, hts⟩ (kX8_isSchedule l dC dI cyI cyZ p1) (va_cwS 1 hts gX8_blind_X8_isSchedule rfl rfl rfl (by decide +kernel) ⟨Nat.le_of_ble_eq_true rfl, Nat.le_of_ble_eq_true rfl⟩) (bs_RS hB (hP.sub (ws' := []) [] rfl)) rfl rfl hl.1 rfl (lv_room (Nat.le_of_ble_eq_true rfl)) dX8_blind_1 ⟨Nat.le_of_ble_eq_true rfl, Nat.le_of_ble_eq_true rfl⟩)) (fun r_1 hr_1 => ?_)
  refine lv_if_ne (tgt := 10) hx hb dX8_blind_4 (by decide) (fun c_2 => ?_) (fun c_2 => ?_)
  · skip
    have ic_2 := ci_ne (rfl : Int32.toInt r_1 = _) (show Int32.toInt 0 = 0 by decide) c_2
    have hs9 := hr_1.2.1 (hr_1.1.resolve_left c_2)
    refine lv_aload_n hx hb dX8_blind_10 rfl (lv_at hl 0 rfl) ?_
    refine vp_callSi (va_Run.run (va_runV (As := []) (rest := []) ⟨hx, hb, hml, hown, hts⟩ (kX8_now l dC dI cyI cyZ h0 st im kp pw nx li il mv so la co d6 d11 d12 fs h8 hs fp hp) (cwV 0 hts gX8_blind_X8_now rfl rfl rfl (by decide +kernel) ⟨Nat.le_of_ble_eq_true rfl, Nat.le_of_ble_eq_true rfl⟩) (bs_RV hB (hP.sub (ws' := [(h0, .inr (6, [.ref st, .ref im, .ref kp, .ref pw, .ref nx, .ref li, .int d6, .ref il, .ref mv, .ref so, .ref la, .int d11, .int d12, .ref co])), (st, .inl (cyI, 72, .inl fs)), (pw, .inl (cyI, 11, .inl fp))]) [0, 1, 2] rfl) 0 rfl rfl) rfl rfl hl.1 rfl (lv_room (Nat.le_of_ble_eq_true rfl)) dX8_blind_11 ⟨Nat.le_of_ble_eq_true rfl, Nat.le_of_ble_eq_true rfl⟩)) (fun r_3 hr_3 => ?_)
    obtain rfl : r_3 = 0 := hr_3
    refine lv_istore_n (lv' := [(2, .int 0), (0, .ref h0), (1, .int p1)]) hx hb dX8_blind_14 rfl hl (by decide) rfl (fun ls hl => ?_)
    refine lv_iload_n hx hb dX8_blind_15 rfl (lv_at hl 0 rfl) ?_
    refine lv_if_ne (tgt := 22) hx hb dX8_blind_16 (by decide) (fun c_4 => ?_) (fun c_4 => ?_)
    · skip
      exact absurd c_4 (by decide)
    · skip
      refine lv_bipush (v := (-3)) hx hb dX8_blind_19 (by decide) ?_
      exact W.iret (v := (-3)) hx hb hr (fun t ht hW => ⟨(-3), rfl, (show (-3) = sp_sched p1 by unfold sp_sched; (repeat' split) <;> first | rfl | (exfalso; omega)), ht⟩) (fun q h => by cases h) dX8_blind_21
  · skip
    have ic_2 := ci_eq (rfl : Int32.toInt r_1 = _) (show Int32.toInt 0 = 0 by decide) c_2
    have hs9 := hr_1.2.2 c_2
    refine lv_bipush (v := (-2)) hx hb dX8_blind_7 (by decide) ?_
    exact W.iret (v := (-2)) hx hb hr (fun t ht hW => ⟨(-2), rfl, (show (-2) = sp_sched p1 by unfold sp_sched; (repeat' split) <;> first | rfl | (exfalso; omega)), ht⟩) (fun q h => by cases h) dX8_blind_9

set_option maxHeartbeats 4000000 in
set_option maxRecDepth 100000 in
theorem kX8_used (l : Launch) (dC : Nat → ClassId) (dI : Nat → Nat → Nat) (cyI cyZ : ClassId) (h0 st im kp pw nx li il mv so la co : Nat) (d6 d11 d12 : Int32) (fs : Nat → Int32) (h8 : fs 0 = 8) (hs : ∀ j, 1 ≤ j → fs j = 0) (fp : Nat → Int32) (hp : ∀ j, j ≤ 10 → fp j = nI (3 ^ j)) (p1 : Int32) : Met l yX8_used wsX8_used ({ frames := 2, cells := 0, slots := 0, locals := 43 }) (bs_R dC dI cyI cyZ [.ref h0, .int p1] [(h0, .inr (6, [.ref st, .ref im, .ref kp, .ref pw, .ref nx, .ref li, .int d6, .ref il, .ref mv, .ref so, .ref la, .int d11, .int d12, .ref co])), (st, .inl (cyI, 72, .inl fs)), (pw, .inl (cyI, 11, .inl fp))]) (vp_Si (fun r : Int32 => r = sp_sched p1)) 0 0 (fun _ => False) := by
  refine Met.ofW (cc := cX8_used) (maxL := 2) (ret := (some .int)) (by decide) rfl ?_
  intro p e s m args below meth c s₁ B hml hv
  obtain ⟨rfl, hB, hP⟩ := hv
  have hK := hB.1
  have hN := hB.2
  have hx := B.exec
  have hb := B.bytes
  have hr := B.returns
  have hts := atoms_spec (ws := wsX8_used) B.pre
  have hown : s.vm.findClass RX8 = some m.cls := findClass_of_methodNamed B.named
  have hlocks := B.notSynchronized
  have hP : va_P (dC, dI) vwCl [(h0, .inr (6, [.ref st, .ref im, .ref kp, .ref pw, .ref nx, .ref li, .int d6, .ref il, .ref mv, .ref so, .ref la, .int d11, .int d12, .ref co])), (st, .inl (cyI, 72, .inl fs)), (pw, .inl (cyI, 11, .inl fp))] s.heap := hP
  have hl := lv_entry ([.ref h0, .int p1]) (n := 2) (Nat.le_of_ble_eq_true rfl)
  rw [lg_entry_eq]
  generalize (lg_sl ([.ref h0, .int p1]) ++ List.replicate (2 - (lg_sl ([.ref h0, .int p1])).length) Slot.unset).toArray = ls at hl ⊢
  have hl : lv_has ls 2 [(0, .ref h0), (1, .int p1)] := hl
  refine lv_iload_n hx hb dX8_used_0 rfl (lv_at hl 1 rfl) ?_
  refine vp_callSi (va_Run.run (va_runS (As := [.int p1]) (rest := []) ⟨hx, hb, hml, hown, hts⟩ (kX8_isSchedule l dC dI cyI cyZ p1) (va_cwS 1 hts gX8_used_X8_isSchedule rfl rfl rfl (by decide +kernel) ⟨Nat.le_of_ble_eq_true rfl, Nat.le_of_ble_eq_true rfl⟩) (bs_RS hB (hP.sub (ws' := []) [] rfl)) rfl rfl hl.1 rfl (lv_room (Nat.le_of_ble_eq_true rfl)) dX8_used_1 ⟨Nat.le_of_ble_eq_true rfl, Nat.le_of_ble_eq_true rfl⟩)) (fun r_1 hr_1 => ?_)
  refine lv_if_ne (tgt := 10) hx hb dX8_used_4 (by decide) (fun c_2 => ?_) (fun c_2 => ?_)
  · skip
    have ic_2 := ci_ne (rfl : Int32.toInt r_1 = _) (show Int32.toInt 0 = 0 by decide) c_2
    have hs9 := hr_1.2.1 (hr_1.1.resolve_left c_2)
    refine lv_aload_n hx hb dX8_used_10 rfl (lv_at hl 0 rfl) ?_
    refine vp_callSi (va_Run.run (va_runV (As := []) (rest := []) ⟨hx, hb, hml, hown, hts⟩ (kX8_now l dC dI cyI cyZ h0 st im kp pw nx li il mv so la co d6 d11 d12 fs h8 hs fp hp) (cwV 0 hts gX8_used_X8_now rfl rfl rfl (by decide +kernel) ⟨Nat.le_of_ble_eq_true rfl, Nat.le_of_ble_eq_true rfl⟩) (bs_RV hB (hP.sub (ws' := [(h0, .inr (6, [.ref st, .ref im, .ref kp, .ref pw, .ref nx, .ref li, .int d6, .ref il, .ref mv, .ref so, .ref la, .int d11, .int d12, .ref co])), (st, .inl (cyI, 72, .inl fs)), (pw, .inl (cyI, 11, .inl fp))]) [0, 1, 2] rfl) 0 rfl rfl) rfl rfl hl.1 rfl (lv_room (Nat.le_of_ble_eq_true rfl)) dX8_used_11 ⟨Nat.le_of_ble_eq_true rfl, Nat.le_of_ble_eq_true rfl⟩)) (fun r_3 hr_3 => ?_)
    obtain rfl : r_3 = 0 := hr_3
    refine lv_if_ne (tgt := 20) hx hb dX8_used_14 (by decide) (fun c_4 => ?_) (fun c_4 => ?_)
    · skip
      exact absurd c_4 (by decide)
    · skip
      refine lv_bipush (v := (-3)) hx hb dX8_used_17 (by decide) ?_
      exact W.iret (v := (-3)) hx hb hr (fun t ht hW => ⟨(-3), rfl, (show (-3) = sp_sched p1 by unfold sp_sched; (repeat' split) <;> first | rfl | (exfalso; omega)), ht⟩) (fun q h => by cases h) dX8_used_19
  · skip
    have ic_2 := ci_eq (rfl : Int32.toInt r_1 = _) (show Int32.toInt 0 = 0 by decide) c_2
    have hs9 := hr_1.2.2 c_2
    refine lv_bipush (v := (-2)) hx hb dX8_used_7 (by decide) ?_
    exact W.iret (v := (-2)) hx hb hr (fun t ht hW => ⟨(-2), rfl, (show (-2) = sp_sched p1 by unfold sp_sched; (repeat' split) <;> first | rfl | (exfalso; omega)), ht⟩) (fun q h => by cases h) dX8_used_9

set_option maxHeartbeats 4000000 in
set_option maxRecDepth 100000 in
theorem kX8_meets (l : Launch) (dC : Nat → ClassId) (dI : Nat → Nat → Nat) (cyI cyZ : ClassId) (h0 st im kp pw nx li il mv so la co : Nat) (d6 d11 d12 : Int32) (fs : Nat → Int32) (h8 : fs 0 = 8) (hs : ∀ j, 1 ≤ j → fs j = 0) (fp : Nat → Int32) (hp : ∀ j, j ≤ 10 → fp j = nI (3 ^ j)) (p1 p2 : Int32) : Met l yX8_meets wsX8_meets ({ frames := 2, cells := 0, slots := 0, locals := 43 }) (bs_R dC dI cyI cyZ [.ref h0, .int p1, .int p2] [(h0, .inr (6, [.ref st, .ref im, .ref kp, .ref pw, .ref nx, .ref li, .int d6, .ref il, .ref mv, .ref so, .ref la, .int d11, .int d12, .ref co])), (st, .inl (cyI, 72, .inl fs)), (pw, .inl (cyI, 11, .inl fp))]) (vp_Si (fun r : Int32 => r = sp_meets p1 p2)) 0 0 (fun _ => False) := by
  refine Met.ofW (cc := cX8_meets) (maxL := 4) (ret := (some .int)) (by decide) rfl ?_
  intro p e s m args below meth c s₁ B hml hv
  obtain ⟨rfl, hB, hP⟩ := hv
  have hK := hB.1
  have hN := hB.2
  have hx := B.exec
  have hb := B.bytes
  have hr := B.returns
  have hts := atoms_spec (ws := wsX8_meets) B.pre
  have hown : s.vm.findClass RX8 = some m.cls := findClass_of_methodNamed B.named
  have hlocks := B.notSynchronized
  have hP : va_P (dC, dI) vwCl [(h0, .inr (6, [.ref st, .ref im, .ref kp, .ref pw, .ref nx, .ref li, .int d6, .ref il, .ref mv, .ref so, .ref la, .int d11, .int d12, .ref co])), (st, .inl (cyI, 72, .inl fs)), (pw, .inl (cyI, 11, .inl fp))] s.heap := hP
  have hl := lv_entry ([.ref h0, .int p1, .int p2]) (n := 4) (Nat.le_of_ble_eq_true rfl)
  rw [lg_entry_eq]
  generalize (lg_sl ([.ref h0, .int p1, .int p2]) ++ List.replicate (4 - (lg_sl ([.ref h0, .int p1, .int p2])).length) Slot.unset).toArray = ls at hl ⊢
  have hl : lv_has ls 4 [(0, .ref h0), (1, .int p1), (2, .int p2)] := hl
  refine lv_iload_n hx hb dX8_meets_0 rfl (lv_at hl 1 rfl) ?_
  refine vp_callSi (va_Run.run (va_runS (As := [.int p1]) (rest := []) ⟨hx, hb, hml, hown, hts⟩ (kX8_isSchedule l dC dI cyI cyZ p1) (va_cwS 1 hts gX8_meets_X8_isSchedule rfl rfl rfl (by decide +kernel) ⟨Nat.le_of_ble_eq_true rfl, Nat.le_of_ble_eq_true rfl⟩) (bs_RS hB (hP.sub (ws' := []) [] rfl)) rfl rfl hl.1 rfl (lv_room (Nat.le_of_ble_eq_true rfl)) dX8_meets_1 ⟨Nat.le_of_ble_eq_true rfl, Nat.le_of_ble_eq_true rfl⟩)) (fun r_1 hr_1 => ?_)
  refine lv_if_eq (tgt := 16) hx hb dX8_meets_4 (by decide) (fun c_2 => ?_) (fun c_2 => ?_)
  · skip
    have ic_2 := ci_eq (rfl : Int32.toInt r_1 = _) (show Int32.toInt 0 = 0 by decide) c_2
    have hs9 := hr_1.2.2 c_2
    refine lv_bipush (v := (-2)) hx hb dX8_meets_16 (by decide) ?_
    exact W.iret (v := (-2)) hx hb hr (fun t ht hW => ⟨(-2), rfl, (show (-2) = sp_meets p1 p2 by unfold sp_meets; (repeat' split) <;> first | rfl | (exfalso; omega)), ht⟩) (fun q h => by cases h) dX8_meets_18
  · skip
    have ic_2 := ci_ne (rfl : Int32.toInt r_1 = _) (show Int32.toInt 0 = 0 by decide) c_2
    have hs8 := hr_1.2.1 (hr_1.1.resolve_left c_2)
    refine lv_iload_n hx hb dX8_meets_7 rfl (lv_at hl 2 rfl) ?_
    refine lv_iconst (v := 0) hx hb dX8_meets_8 (by decide) ?_
    refine lv_iconst (v := 4) hx hb dX8_meets_9 (by decide) ?_
    refine vp_callSi (va_Run.run (va_runS (As := [.int p2, .int 0, .int 4]) (rest := []) ⟨hx, hb, hml, hown, hts⟩ (kX8_in l dC dI cyI cyZ p2 0 4 0 4 (by decide) (by decide)) (va_cwS 3 hts gX8_meets_X8_in rfl rfl rfl (by decide +kernel) ⟨Nat.le_of_ble_eq_true rfl, Nat.le_of_ble_eq_true rfl⟩) (bs_RS hB (hP.sub (ws' := []) [] rfl)) rfl rfl hl.1 rfl (lv_room (Nat.le_of_ble_eq_true rfl)) dX8_meets_10 ⟨Nat.le_of_ble_eq_true rfl, Nat.le_of_ble_eq_true rfl⟩)) (fun r_3 hr_3 => ?_)
    refine lv_if_ne (tgt := 19) hx hb dX8_meets_13 (by decide) (fun c_4 => ?_) (fun c_4 => ?_)
    · skip
      have ic_4 := ci_ne (rfl : Int32.toInt r_3 = _) (show Int32.toInt 0 = 0 by decide) c_4
      have hs9 := hr_3.2.1 (hr_3.1.resolve_left c_4)
      refine lv_aload_n hx hb dX8_meets_19 rfl (lv_at hl 0 rfl) ?_
      refine vp_callSi (va_Run.run (va_runV (As := []) (rest := []) ⟨hx, hb, hml, hown, hts⟩ (kX8_now l dC dI cyI cyZ h0 st im kp pw nx li il mv so la co d6 d11 d12 fs h8 hs fp hp) (cwV 0 hts gX8_meets_X8_now rfl rfl rfl (by decide +kernel) ⟨Nat.le_of_ble_eq_true rfl, Nat.le_of_ble_eq_true rfl⟩) (bs_RV hB (hP.sub (ws' := [(h0, .inr (6, [.ref st, .ref im, .ref kp, .ref pw, .ref nx, .ref li, .int d6, .ref il, .ref mv, .ref so, .ref la, .int d11, .int d12, .ref co])), (st, .inl (cyI, 72, .inl fs)), (pw, .inl (cyI, 11, .inl fp))]) [0, 1, 2] rfl) 0 rfl rfl) rfl rfl hl.1 rfl (lv_room (Nat.le_of_ble_eq_true rfl)) dX8_meets_20 ⟨Nat.le_of_ble_eq_true rfl, Nat.le_of_ble_eq_true rfl⟩)) (fun r_5 hr_5 => ?_)
      obtain rfl : r_5 = 0 := hr_5
      refine lv_istore_n (lv' := [(3, .int 0), (0, .ref h0), (1, .int p1), (2, .int p2)]) hx hb dX8_meets_23 rfl hl (by decide) rfl (fun ls hl => ?_)
      refine lv_iload_n hx hb dX8_meets_24 rfl (lv_at hl 0 rfl) ?_
      refine lv_if_ne (tgt := 31) hx hb dX8_meets_25 (by decide) (fun c_6 => ?_) (fun c_6 => ?_)
      · skip
        exact absurd c_6 (by decide)
      · skip
        refine lv_bipush (v := (-3)) hx hb dX8_meets_28 (by decide) ?_
        exact W.iret (v := (-3)) hx hb hr (fun t ht hW => ⟨(-3), rfl, (show (-3) = sp_meets p1 p2 by unfold sp_meets; (repeat' split) <;> first | rfl | (exfalso; omega)), ht⟩) (fun q h => by cases h) dX8_meets_30
    · skip
      have ic_4 := ci_eq (rfl : Int32.toInt r_3 = _) (show Int32.toInt 0 = 0 by decide) c_4
      have hs9 := hr_3.2.2 c_4
      refine lv_bipush (v := (-2)) hx hb dX8_meets_16 (by decide) ?_
      exact W.iret (v := (-2)) hx hb hr (fun t ht hW => ⟨(-2), rfl, (show (-2) = sp_meets p1 p2 by unfold sp_meets; (repeat' split) <;> first | rfl | (exfalso; omega)), ht⟩) (fun q h => by cases h) dX8_meets_18

theorem hnX8_restore_X8 : ∀ w ∈ wsX80, w ∈ wsX8_restore := fun _ h => List.mem_cons_of_mem _ (List.mem_append_right _ h)
set_option maxHeartbeats 4000000 in
set_option maxRecDepth 100000 in
theorem kX8_restore (l : Launch) (dC : Nat → ClassId) (dI : Nat → Nat → Nat) (cyI cyZ : ClassId) (h0 st im kp pw nx li il mv so la co : Nat) (d6 d11 d12 : Int32) (fs : Nat → Int32) (h8 : fs 0 = 8) (hs : ∀ j, 1 ≤ j → fs j = 0) (fp : Nat → Int32) (hp : ∀ j, j ≤ 10 → fp j = nI (3 ^ j)) (fk : Nat → Int32) (hk0 : ∀ j, fk j = 0) (p1 : Int32) : Met l yX8_restore wsX8_restore ({ frames := 1, cells := 0, slots := 0, locals := 22 }) (bs_R dC dI cyI cyZ [.ref h0, .int p1] [(h0, .inr (6, [.ref st, .ref im, .ref kp, .ref pw, .ref nx, .ref li, .int d6, .ref il, .ref mv, .ref so, .ref la, .int d11, .int d12, .ref co])), (st, .inl (cyI, 72, .inl fs)), (pw, .inl (cyI, 11, .inl fp)), (kp, .inl (cyZ, 2, .inl fk))]) (vp_Si (fun r : Int32 => r = sp_restore p1)) 0 0 (fun _ => False) := by
  refine Met.ofW (cc := cX8_restore) (maxL := 3) (ret := (some .int)) (by decide) rfl ?_
  intro p e s m args below meth c s₁ B hml hv
  obtain ⟨rfl, hB, hP⟩ := hv
  have hK := hB.1
  have hN := hB.2
  have hx := B.exec
  have hb := B.bytes
  have hr := B.returns
  have hts := atoms_spec (ws := wsX8_restore) B.pre
  have hown : s.vm.findClass RX8 = some m.cls := findClass_of_methodNamed B.named
  have hlocks := B.notSynchronized
  have hP : va_P (dC, dI) vwCl [(h0, .inr (6, [.ref st, .ref im, .ref kp, .ref pw, .ref nx, .ref li, .int d6, .ref il, .ref mv, .ref so, .ref la, .int d11, .int d12, .ref co])), (st, .inl (cyI, 72, .inl fs)), (pw, .inl (cyI, 11, .inl fp)), (kp, .inl (cyZ, 2, .inl fk))] s.heap := hP
  have hl := lv_entry ([.ref h0, .int p1]) (n := 3) (Nat.le_of_ble_eq_true rfl)
  rw [lg_entry_eq]
  generalize (lg_sl ([.ref h0, .int p1]) ++ List.replicate (3 - (lg_sl ([.ref h0, .int p1])).length) Slot.unset).toArray = ls at hl ⊢
  have hl : lv_has ls 3 [(0, .ref h0), (1, .int p1)] := hl
  refine lv_iload_n hx hb dX8_restore_0 rfl (lv_at hl 1 rfl) ?_
  refine lv_iconst (v := 0) hx hb dX8_restore_1 (by decide) ?_
  refine lv_iconst (v := 1) hx hb dX8_restore_2 (by decide) ?_
  refine vp_callSi (va_Run.run (va_runS (As := [.int p1, .int 0, .int 1]) (rest := []) ⟨hx, hb, hml, hown, hts⟩ (kX8_in l dC dI cyI cyZ p1 0 1 0 1 (by decide) (by decide)) (va_cwS 3 hts gX8_restore_X8_in rfl rfl rfl (by decide +kernel) ⟨Nat.le_of_ble_eq_true rfl, Nat.le_of_ble_eq_true rfl⟩) (bs_RS hB (hP.sub (ws' := []) [] rfl)) rfl rfl hl.1 rfl (lv_room (Nat.le_of_ble_eq_true rfl)) dX8_restore_3 ⟨Nat.le_of_ble_eq_true rfl, Nat.le_of_ble_eq_true rfl⟩)) (fun r_1 hr_1 => ?_)
  refine lv_if_ne (tgt := 12) hx hb dX8_restore_6 (by decide) (fun c_2 => ?_) (fun c_2 => ?_)
  · skip
    have ic_2 := ci_ne (rfl : Int32.toInt r_1 = _) (show Int32.toInt 0 = 0 by decide) c_2
    have hs9 := hr_1.2.1 (hr_1.1.resolve_left c_2)
    rcases nb_01 (x := p1) (by omega) (by omega) with e9 | e9
    · skip
      subst e9
      refine lv_aload_n hx hb dX8_restore_12 rfl (lv_at hl 0 rfl) ?_
      refine va_get (D := (dC, dI)) (ci := 6) (v := .ref kp) (C := RX8) (T := TX8) (N := 14) hx hb hts hnX8_restore_X8 hown hK hP 0 rfl rfl 2 (by decide) (hts (.fieldLink RX8 16 "RingMeetsModel" "isKept" "[Z") (by decide +kernel)) (fun _ h9 => h9) rfl dX8_restore_13 ?_
      refine lv_iload_n hx hb dX8_restore_16 rfl (lv_at hl 1 rfl) ?_
      refine va_zald (D := (dC, dI)) hx hb hK hP 3 1 rfl rfl (show vp_in 0 2 from vp_in_nI (n := 0) (N := 2) (by decide) (by decide)) dX8_restore_17 ?_
      refine lv_topi (fun x_3 ex_3 => ?_)
      have ex_3 : x_3 = fk 0 := ex_3
      obtain rfl : 0 = x_3 := (ex_3.trans (hk0 _)).symm
      refine lv_if_ne (tgt := 24) hx hb dX8_restore_18 (by decide) (fun c_4 => ?_) (fun c_4 => ?_)
      · skip
        exact absurd c_4 (by decide)
      · skip
        refine lv_bipush (v := (-3)) hx hb dX8_restore_21 (by decide) ?_
        exact W.iret (v := (-3)) hx hb hr (fun t ht hW => ⟨(-3), rfl, (show (-3) = sp_restore _ by unfold sp_restore; (repeat' split) <;> first | rfl | (exfalso; omega) | (rename_i h8; exact absurd h8 (by decide))), ht⟩) (fun q h => by cases h) dX8_restore_23
    · skip
      subst e9
      refine lv_aload_n hx hb dX8_restore_12 rfl (lv_at hl 0 rfl) ?_
      refine va_get (D := (dC, dI)) (ci := 6) (v := .ref kp) (C := RX8) (T := TX8) (N := 14) hx hb hts hnX8_restore_X8 hown hK hP 0 rfl rfl 2 (by decide) (hts (.fieldLink RX8 16 "RingMeetsModel" "isKept" "[Z") (by decide +kernel)) (fun _ h9 => h9) rfl dX8_restore_13 ?_
      refine lv_iload_n hx hb dX8_restore_16 rfl (lv_at hl 1 rfl) ?_
      refine va_zald (D := (dC, dI)) hx hb hK hP 3 1 rfl rfl (show vp_in 1 2 from vp_in_nI (n := 1) (N := 2) (by decide) (by decide)) dX8_restore_17 ?_
      refine lv_topi (fun x_5 ex_5 => ?_)
      have ex_5 : x_5 = fk 1 := ex_5
      obtain rfl : 0 = x_5 := (ex_5.trans (hk0 _)).symm
      refine lv_if_ne (tgt := 24) hx hb dX8_restore_18 (by decide) (fun c_6 => ?_) (fun c_6 => ?_)
      · skip
        exact absurd c_6 (by decide)
      · skip
        refine lv_bipush (v := (-3)) hx hb dX8_restore_21 (by decide) ?_
        exact W.iret (v := (-3)) hx hb hr (fun t ht hW => ⟨(-3), rfl, (show (-3) = sp_restore _ by unfold sp_restore; (repeat' split) <;> first | rfl | (exfalso; omega) | (rename_i h8; exact absurd h8 (by decide))), ht⟩) (fun q h => by cases h) dX8_restore_23
  · skip
    have ic_2 := ci_eq (rfl : Int32.toInt r_1 = _) (show Int32.toInt 0 = 0 by decide) c_2
    have hs9 := hr_1.2.2 c_2
    refine lv_bipush (v := (-2)) hx hb dX8_restore_9 (by decide) ?_
    exact W.iret (v := (-2)) hx hb hr (fun t ht hW => ⟨(-2), rfl, (show (-2) = sp_restore _ by unfold sp_restore; (repeat' split) <;> first | rfl | (exfalso; omega) | (rename_i h8; exact absurd h8 (by decide))), ht⟩) (fun q h => by cases h) dX8_restore_11

theorem hnX8_towers_X8 : ∀ w ∈ wsX80, w ∈ wsX8_towers := fun _ h => List.mem_cons_of_mem _ (List.mem_append_right _ h)
set_option maxHeartbeats 4000000 in
set_option maxRecDepth 100000 in
theorem kX8_towers (l : Launch) (dC : Nat → ClassId) (dI : Nat → Nat → Nat) (cyI cyZ : ClassId) (h0 st im kp pw nx li il mv so la co : Nat) (d6 d11 d12 : Int32) (fs : Nat → Int32) (h8 : fs 0 = 8) (hs : ∀ j, 1 ≤ j → fs j = 0) : Met l yX8_towers wsX8_towers ({ frames := 1, cells := 0, slots := 0, locals := 20 }) (bs_R dC dI cyI cyZ [.ref h0] [(h0, .inr (6, [.ref st, .ref im, .ref kp, .ref pw, .ref nx, .ref li, .int d6, .ref il, .ref mv, .ref so, .ref la, .int d11, .int d12, .ref co])), (st, .inl (cyI, 72, .inl fs))]) (vp_Si (fun r : Int32 => r = 0)) 0 0 (fun _ => False) := by
  refine Met.ofW (cc := cX8_towers) (maxL := 3) (ret := (some .int)) (by decide) rfl ?_
  intro p e s m args below meth c s₁ B hml hv
  obtain ⟨rfl, hB, hP⟩ := hv
  have hK := hB.1
  have hN := hB.2
  have hx := B.exec
  have hb := B.bytes
  have hr := B.returns
  have hts := atoms_spec (ws := wsX8_towers) B.pre
  have hown : s.vm.findClass RX8 = some m.cls := findClass_of_methodNamed B.named
  have hlocks := B.notSynchronized
  have hP : va_P (dC, dI) vwCl [(h0, .inr (6, [.ref st, .ref im, .ref kp, .ref pw, .ref nx, .ref li, .int d6, .ref il, .ref mv, .ref so, .ref la, .int d11, .int d12, .ref co])), (st, .inl (cyI, 72, .inl fs))] s.heap := hP
  have hl := lv_entry ([.ref h0]) (n := 3) (Nat.le_of_ble_eq_true rfl)
  rw [lg_entry_eq]
  generalize (lg_sl ([.ref h0]) ++ List.replicate (3 - (lg_sl ([.ref h0])).length) Slot.unset).toArray = ls at hl ⊢
  have hl : lv_has ls 3 [(0, .ref h0)] := hl
  refine lv_iconst (v := 0) hx hb dX8_towers_0 (by decide) ?_
  refine lv_istore_n (lv' := [(1, .int 0), (0, .ref h0)]) hx hb dX8_towers_1 rfl hl (by decide) rfl (fun ls hl => ?_)
  refine lv_iconst (v := 0) hx hb dX8_towers_2 (by decide) ?_
  refine lv_istore_n (lv' := [(2, .int 0), (1, .int 0), (0, .ref h0)]) hx hb dX8_towers_3 rfl hl (by decide) rfl (fun ls hl => ?_)
  have L4 : ∀ (n4 : Nat), ∀ (k : Nat), (0 ≤ k ∧ k ≤ 8) → (9 ≤ k + n4) → ∀ (ls : Array Slot), lv_has ls 3 [(0, .ref h0), (1, .int 0), (2, .int (nI k))] → W p l e (headSpec wsX8_towers ({ frames := 1, cells := 0, slots := 0, locals := 20 })).room s m ([.ref h0] : List Value).toArray below meth c s.heap [] 0 0 (MQ below (vp_Si (fun r : Int32 => r = 0)) ([.ref h0] : List Value).toArray s 0 0 (fun _ => False)) (F0 m 4 ls []) := by
    intro n4
    induction n4 with
    | zero =>
      intro k hk4 hn4 ls hl
      exfalso
      omega
    | succ n4 ih4 =>
      intro k hk4 hn4 ls hl
      refine lv_iload_n hx hb dX8_towers_4 rfl (lv_at hl 2 rfl) ?_
      refine lv_aload_n hx hb dX8_towers_5 rfl (lv_at hl 0 rfl) ?_
      refine vp_callSi (va_Run.run (va_runV (As := []) (rest := [.int (nI k)]) ⟨hx, hb, hml, hown, hts⟩ (kX8_cells l dC dI cyI cyZ h0 st im kp pw nx li il mv so la co d6 d11 d12 fs h8) (cwV 0 hts gX8_towers_X8_cells rfl rfl rfl (by decide +kernel) ⟨Nat.le_of_ble_eq_true rfl, Nat.le_of_ble_eq_true rfl⟩) (bs_RV hB (hP.sub (ws' := [(h0, .inr (6, [.ref st, .ref im, .ref kp, .ref pw, .ref nx, .ref li, .int d6, .ref il, .ref mv, .ref so, .ref la, .int d11, .int d12, .ref co])), (st, .inl (cyI, 72, .inl fs))]) [0, 1] rfl) 0 rfl rfl) rfl rfl hl.1 rfl (lv_room (Nat.le_of_ble_eq_true rfl)) dX8_towers_6 ⟨Nat.le_of_ble_eq_true rfl, Nat.le_of_ble_eq_true rfl⟩)) (fun r_1 hr_1 => ?_)
      obtain rfl : r_1 = 8 := hr_1
      refine lv_icmp_ge (tgt := 40) hx hb dX8_towers_9 (by decide) (fun c_2 => ?_) (fun c_2 => ?_)
      · skip
        have ic_2 := ci_le (show Int32.toInt 8 = 8 by decide) (nI_toInt (n := k) (by omega)) c_2
        refine lv_iload_n hx hb dX8_towers_40 rfl (lv_at hl 1 rfl) ?_
        exact W.iret (v := 0) hx hb hr (fun t ht hW => ⟨0, rfl, rfl, ht⟩) (fun q h => by cases h) dX8_towers_41
      · skip
        have ic_2 := ci_nle (show Int32.toInt 8 = 8 by decide) (nI_toInt (n := k) (by omega)) c_2
        refine lv_iload_n hx hb dX8_towers_12 rfl (lv_at hl 1 rfl) ?_
        refine lv_aload_n hx hb dX8_towers_13 rfl (lv_at hl 0 rfl) ?_
        refine va_get (D := (dC, dI)) (ci := 6) (v := .ref st) (C := RX8) (T := TX8) (N := 14) hx hb hts hnX8_towers_X8 hown hK hP 0 rfl rfl 0 (by decide) (hts (.fieldLink RX8 7 "RingMeetsModel" "state" "[I") (by decide +kernel)) (fun _ h9 => h9) rfl dX8_towers_14 ?_
        refine lv_iconst (v := 1) hx hb dX8_towers_17 (by decide) ?_
        refine lv_iload_n hx hb dX8_towers_18 rfl (lv_at hl 2 rfl) ?_
        refine lv_iadd hx hb dX8_towers_19 ?_
        refine lv_topi (fun x_3 ex_3 => ?_)
        obtain rfl : (nI (1 + k)) = x_3 := (ex_3.trans (nI_add 1 _)).symm
        refine va_iald (D := (dC, dI)) hx hb hK hP 1 0 rfl rfl (vp_in_nI (n := (1 + k)) (N := 72) (by omega) (by omega)) dX8_towers_20 ?_
        refine lv_topi (fun x_4 ex_4 => ?_)
        rw [nI_clamp (n := (1 + k)) (by omega)] at ex_4
        obtain rfl : 0 = x_4 := (ex_4.trans (hs _ (by omega))).symm
        refine lv_iconst (v := 1) hx hb dX8_towers_21 (by decide) ?_
        refine lv_icmp_le (tgt := 31) hx hb dX8_towers_22 (by decide) (fun c_5 => ?_) (fun c_5 => ?_)
        · skip
          refine lv_iconst (v := 0) hx hb dX8_towers_31 (by decide) ?_
          refine lv_ior hx hb dX8_towers_32 ?_
          refine lv_topi (fun x_6 ex_6 => ?_)
          obtain rfl : 0 = x_6 := (ex_6.trans (by decide)).symm
          refine lv_istore_n (lv' := [(1, .int 0), (0, .ref h0), (2, .int (nI k))]) hx hb dX8_towers_33 rfl hl (by decide) rfl (fun ls hl => ?_)
          refine lv_iinc (v := (nI (k + 1))) (lv' := [(2, .int (nI (k + 1))), (1, .int 0), (0, .ref h0)]) hx hb dX8_towers_34 hl (k := 2) rfl (nI_1 _) (by decide) rfl (fun ls hl => ?_)
          refine lv_goto (tgt := 4) hx hb dX8_towers_37 (by decide) ?_
          exact ih4 (k + 1)  ⟨by omega, by omega⟩ (by omega)  _ (lv_sub hl [2, 1, 0] rfl)
        · skip
          exact absurd c_5 (by decide)
  exact L4 9 0  ⟨by omega, by omega⟩ (by omega)  _ (lv_sub hl [2, 1, 0] rfl)

theorem hnX8_count_X8 : ∀ w ∈ wsX80, w ∈ wsX8_count := fun _ h => List.mem_cons_of_mem _ (List.mem_append_right _ h)
set_option maxHeartbeats 4000000 in
set_option maxRecDepth 100000 in
theorem kX8_count (l : Launch) (dC : Nat → ClassId) (dI : Nat → Nat → Nat) (cyI cyZ : ClassId) (h0 st im kp pw nx li il mv so la co : Nat) (d6 d11 d12 : Int32) (fs : Nat → Int32) (h8 : fs 0 = 8) (hs : ∀ j, 1 ≤ j → fs j = 0) (fp : Nat → Int32) (hp : ∀ j, j ≤ 10 → fp j = nI (3 ^ j)) (fk : Nat → Int32) (hk0 : ∀ j, fk j = 0) (p1 : Int32) : Met l yX8_count wsX8_count ({ frames := 2, cells := 0, slots := 0, locals := 43 }) (bs_R dC dI cyI cyZ [.ref h0, .int p1] [(h0, .inr (6, [.ref st, .ref im, .ref kp, .ref pw, .ref nx, .ref li, .int d6, .ref il, .ref mv, .ref so, .ref la, .int d11, .int d12, .ref co])), (st, .inl (cyI, 72, .inl fs)), (pw, .inl (cyI, 11, .inl fp)), (kp, .inl (cyZ, 2, .inl fk))]) (vp_Si (fun r : Int32 => r = sp_count p1)) 0 0 (fun _ => False) := by
  refine Met.ofW (cc := cX8_count) (maxL := 2) (ret := (some .int)) (by decide) rfl ?_
  intro p e s m args below meth c s₁ B hml hv
  obtain ⟨rfl, hB, hP⟩ := hv
  have hK := hB.1
  have hN := hB.2
  have hx := B.exec
  have hb := B.bytes
  have hr := B.returns
  have hts := atoms_spec (ws := wsX8_count) B.pre
  have hown : s.vm.findClass RX8 = some m.cls := findClass_of_methodNamed B.named
  have hlocks := B.notSynchronized
  have hP : va_P (dC, dI) vwCl [(h0, .inr (6, [.ref st, .ref im, .ref kp, .ref pw, .ref nx, .ref li, .int d6, .ref il, .ref mv, .ref so, .ref la, .int d11, .int d12, .ref co])), (st, .inl (cyI, 72, .inl fs)), (pw, .inl (cyI, 11, .inl fp)), (kp, .inl (cyZ, 2, .inl fk))] s.heap := hP
  have hl := lv_entry ([.ref h0, .int p1]) (n := 2) (Nat.le_of_ble_eq_true rfl)
  rw [lg_entry_eq]
  generalize (lg_sl ([.ref h0, .int p1]) ++ List.replicate (2 - (lg_sl ([.ref h0, .int p1])).length) Slot.unset).toArray = ls at hl ⊢
  have hl : lv_has ls 2 [(0, .ref h0), (1, .int p1)] := hl
  refine lv_iload_n hx hb dX8_count_0 rfl (lv_at hl 1 rfl) ?_
  refine lv_bipush (v := 10) hx hb dX8_count_1 (by decide) ?_
  refine lv_bipush (v := 19) hx hb dX8_count_3 (by decide) ?_
  refine vp_callSi (va_Run.run (va_runS (As := [.int p1, .int 10, .int 19]) (rest := []) ⟨hx, hb, hml, hown, hts⟩ (kX8_in l dC dI cyI cyZ p1 10 19 10 19 (by decide) (by decide)) (va_cwS 3 hts gX8_count_X8_in rfl rfl rfl (by decide +kernel) ⟨Nat.le_of_ble_eq_true rfl, Nat.le_of_ble_eq_true rfl⟩) (bs_RS hB (hP.sub (ws' := []) [] rfl)) rfl rfl hl.1 rfl (lv_room (Nat.le_of_ble_eq_true rfl)) dX8_count_5 ⟨Nat.le_of_ble_eq_true rfl, Nat.le_of_ble_eq_true rfl⟩)) (fun r_1 hr_1 => ?_)
  refine lv_if_eq (tgt := 23) hx hb dX8_count_8 (by decide) (fun c_2 => ?_) (fun c_2 => ?_)
  · skip
    have ic_2 := ci_eq (rfl : Int32.toInt r_1 = _) (show Int32.toInt 0 = 0 by decide) c_2
    have hs9 := hr_1.2.2 c_2
    refine lv_iload_n hx hb dX8_count_23 rfl (lv_at hl 1 rfl) ?_
    rcases nb_sw p1 5 5 rfl with w_3 | ⟨w_3k, w_3l, w_3⟩
    · skip
      refine lv_tableOut (tgt := 126) hx hb dX8_count_24 w_3 (by decide) ?_
      refine lv_bipush (v := (-2)) hx hb dX8_count_126 (by decide) ?_
      exact W.iret (v := (-2)) hx hb hr (fun t ht hW => ⟨(-2), rfl, (show (-2) = sp_count p1 by have hw9 := w_3; unfold sp_count; (repeat' split) <;> first | rfl | (exfalso; omega)), ht⟩) (fun q h => by cases h) dX8_count_128
    · skip
      rcases (show w_3k = 0 ∨ w_3k = 1 ∨ w_3k = 2 ∨ w_3k = 3 ∨ w_3k = 4 ∨ w_3k = 5 by omega) with rfl | rfl | rfl | rfl | rfl | rfl
      · skip
        have ew_3 : p1 = 0 := w_3
        refine W.eq (g2 := F0 m 24 ls (.int 0 :: [])) (by rw [ew_3]) ?_
        refine lv_tableIn (off := 40) (tgt := 64) hx hb dX8_count_24 (by decide) (by decide) (by decide) (by decide) ?_
        refine lv_aload_n hx hb dX8_count_64 rfl (lv_at hl 0 rfl) ?_
        refine vp_callSi (va_Run.run (va_runV (As := []) (rest := []) ⟨hx, hb, hml, hown, hts⟩ (kX8_cells l dC dI cyI cyZ h0 st im kp pw nx li il mv so la co d6 d11 d12 fs h8) (cwV 0 hts gX8_count_X8_cells rfl rfl rfl (by decide +kernel) ⟨Nat.le_of_ble_eq_true rfl, Nat.le_of_ble_eq_true rfl⟩) (bs_RV hB (hP.sub (ws' := [(h0, .inr (6, [.ref st, .ref im, .ref kp, .ref pw, .ref nx, .ref li, .int d6, .ref il, .ref mv, .ref so, .ref la, .int d11, .int d12, .ref co])), (st, .inl (cyI, 72, .inl fs))]) [0, 1] rfl) 0 rfl rfl) rfl rfl hl.1 rfl (lv_room (Nat.le_of_ble_eq_true rfl)) dX8_count_65 ⟨Nat.le_of_ble_eq_true rfl, Nat.le_of_ble_eq_true rfl⟩)) (fun r_4 hr_4 => ?_)
        obtain rfl : r_4 = 8 := hr_4
        exact W.iret (v := 8) hx hb hr (fun t ht hW => ⟨8, rfl, (show 8 = sp_count p1 by have hw9 := congrArg Int32.toInt ew_3; rw [show Int32.toInt 0 = 0 from by decide] at hw9;  unfold sp_count; (repeat' split) <;> first | rfl | (exfalso; omega)), ht⟩) (fun q h => by cases h) dX8_count_68
      · skip
        have ew_3 : p1 = 1 := w_3
        refine W.eq (g2 := F0 m 24 ls (.int 1 :: [])) (by rw [ew_3]) ?_
        refine lv_tableIn (off := 45) (tgt := 69) hx hb dX8_count_24 (by decide) (by decide) (by decide) (by decide) ?_
        refine lv_aload_n hx hb dX8_count_69 rfl (lv_at hl 0 rfl) ?_
        refine vp_callSi (va_Run.run (va_runV (As := []) (rest := []) ⟨hx, hb, hml, hown, hts⟩ (kX8_walkers l dC dI cyI cyZ h0 st im kp pw nx li il mv so la co d6 d11 d12 fs h8 hs ) (cwV 0 hts gX8_count_X8_walkers rfl rfl rfl (by decide +kernel) ⟨Nat.le_of_ble_eq_true rfl, Nat.le_of_ble_eq_true rfl⟩) (bs_RV hB (hP.sub (ws' := [(h0, .inr (6, [.ref st, .ref im, .ref kp, .ref pw, .ref nx, .ref li, .int d6, .ref il, .ref mv, .ref so, .ref la, .int d11, .int d12, .ref co])), (st, .inl (cyI, 72, .inl fs))]) [0, 1] rfl) 0 rfl rfl) rfl rfl hl.1 rfl (lv_room (Nat.le_of_ble_eq_true rfl)) dX8_count_70 ⟨Nat.le_of_ble_eq_true rfl, Nat.le_of_ble_eq_true rfl⟩)) (fun r_5 hr_5 => ?_)
        obtain rfl : r_5 = 0 := hr_5
        exact W.iret (v := 0) hx hb hr (fun t ht hW => ⟨0, rfl, (show 0 = sp_count p1 by have hw9 := congrArg Int32.toInt ew_3; rw [show Int32.toInt 1 = 1 from by decide] at hw9;  unfold sp_count; (repeat' split) <;> first | rfl | (exfalso; omega)), ht⟩) (fun q h => by cases h) dX8_count_73
      · skip
        have ew_3 : p1 = 2 := w_3
        refine W.eq (g2 := F0 m 24 ls (.int 2 :: [])) (by rw [ew_3]) ?_
        refine lv_tableIn (off := 50) (tgt := 74) hx hb dX8_count_24 (by decide) (by decide) (by decide) (by decide) ?_
        refine lv_aload_n hx hb dX8_count_74 rfl (lv_at hl 0 rfl) ?_
        refine lv_aload_n hx hb dX8_count_75 rfl (lv_at hl 0 rfl) ?_
        refine vp_callSi (va_Run.run (va_runV (As := []) (rest := [.ref h0]) ⟨hx, hb, hml, hown, hts⟩ (kX8_now l dC dI cyI cyZ h0 st im kp pw nx li il mv so la co d6 d11 d12 fs h8 hs fp hp) (cwV 0 hts gX8_count_X8_now rfl rfl rfl (by decide +kernel) ⟨Nat.le_of_ble_eq_true rfl, Nat.le_of_ble_eq_true rfl⟩) (bs_RV hB (hP.sub (ws' := [(h0, .inr (6, [.ref st, .ref im, .ref kp, .ref pw, .ref nx, .ref li, .int d6, .ref il, .ref mv, .ref so, .ref la, .int d11, .int d12, .ref co])), (st, .inl (cyI, 72, .inl fs)), (pw, .inl (cyI, 11, .inl fp))]) [0, 1, 2] rfl) 0 rfl rfl) rfl rfl hl.1 rfl (lv_room (Nat.le_of_ble_eq_true rfl)) dX8_count_76 ⟨Nat.le_of_ble_eq_true rfl, Nat.le_of_ble_eq_true rfl⟩)) (fun r_6 hr_6 => ?_)
        obtain rfl : r_6 = 0 := hr_6
        refine vp_callSi (va_Run.run (va_runV (As := [.int 0]) (rest := []) ⟨hx, hb, hml, hown, hts⟩ (kX8_standsOf l dC dI cyI cyZ h0 st im kp pw nx li il mv so la co d6 d11 d12 fs h8 fp hp 0) (cwV 1 hts gX8_count_X8_standsOf rfl rfl rfl (by decide +kernel) ⟨Nat.le_of_ble_eq_true rfl, Nat.le_of_ble_eq_true rfl⟩) (bs_RV hB (hP.sub (ws' := [(h0, .inr (6, [.ref st, .ref im, .ref kp, .ref pw, .ref nx, .ref li, .int d6, .ref il, .ref mv, .ref so, .ref la, .int d11, .int d12, .ref co])), (st, .inl (cyI, 72, .inl fs)), (pw, .inl (cyI, 11, .inl fp))]) [0, 1, 2] rfl) 0 rfl rfl) rfl rfl hl.1 rfl (lv_room (Nat.le_of_ble_eq_true rfl)) dX8_count_79 ⟨Nat.le_of_ble_eq_true rfl, Nat.le_of_ble_eq_true rfl⟩)) (fun r_7 hr_7 => ?_)
        obtain rfl : r_7 = 0 := hr_7.trans (by decide)
        exact W.iret (v := 0) hx hb hr (fun t ht hW => ⟨0, rfl, (show 0 = sp_count p1 by have hw9 := congrArg Int32.toInt ew_3; rw [show Int32.toInt 2 = 2 from by decide] at hw9;  unfold sp_count; (repeat' split) <;> first | rfl | (exfalso; omega)), ht⟩) (fun q h => by cases h) dX8_count_82
      · skip
        have ew_3 : p1 = 3 := w_3
        refine W.eq (g2 := F0 m 24 ls (.int 3 :: [])) (by rw [ew_3]) ?_
        refine lv_tableIn (off := 59) (tgt := 83) hx hb dX8_count_24 (by decide) (by decide) (by decide) (by decide) ?_
        refine lv_aload_n hx hb dX8_count_83 rfl (lv_at hl 0 rfl) ?_
        refine vp_callSi (va_Run.run (va_runV (As := []) (rest := []) ⟨hx, hb, hml, hown, hts⟩ (kX8_towers l dC dI cyI cyZ h0 st im kp pw nx li il mv so la co d6 d11 d12 fs h8 hs ) (cwV 0 hts gX8_count_X8_towers rfl rfl rfl (by decide +kernel) ⟨Nat.le_of_ble_eq_true rfl, Nat.le_of_ble_eq_true rfl⟩) (bs_RV hB (hP.sub (ws' := [(h0, .inr (6, [.ref st, .ref im, .ref kp, .ref pw, .ref nx, .ref li, .int d6, .ref il, .ref mv, .ref so, .ref la, .int d11, .int d12, .ref co])), (st, .inl (cyI, 72, .inl fs))]) [0, 1] rfl) 0 rfl rfl) rfl rfl hl.1 rfl (lv_room (Nat.le_of_ble_eq_true rfl)) dX8_count_84 ⟨Nat.le_of_ble_eq_true rfl, Nat.le_of_ble_eq_true rfl⟩)) (fun r_8 hr_8 => ?_)
        obtain rfl : r_8 = 0 := hr_8
        exact W.iret (v := 0) hx hb hr (fun t ht hW => ⟨0, rfl, (show 0 = sp_count p1 by have hw9 := congrArg Int32.toInt ew_3; rw [show Int32.toInt 3 = 3 from by decide] at hw9;  unfold sp_count; (repeat' split) <;> first | rfl | (exfalso; omega)), ht⟩) (fun q h => by cases h) dX8_count_87
      · skip
        have ew_3 : p1 = 4 := w_3
        refine W.eq (g2 := F0 m 24 ls (.int 4 :: [])) (by rw [ew_3]) ?_
        refine lv_tableIn (off := 64) (tgt := 88) hx hb dX8_count_24 (by decide) (by decide) (by decide) (by decide) ?_
        refine lv_aload_n hx hb dX8_count_88 rfl (lv_at hl 0 rfl) ?_
        refine va_get (D := (dC, dI)) (ci := 6) (v := .ref st) (C := RX8) (T := TX8) (N := 14) hx hb hts hnX8_count_X8 hown hK hP 0 rfl rfl 0 (by decide) (hts (.fieldLink RX8 7 "RingMeetsModel" "state" "[I") (by decide +kernel)) (fun _ h9 => h9) rfl dX8_count_89 ?_
        refine lv_bipush (v := 11) hx hb dX8_count_92 (by decide) ?_
        refine va_iald (D := (dC, dI)) hx hb hK hP 1 0 rfl rfl (show vp_in 11 72 from vp_in_nI (n := 11) (N := 72) (by decide) (by decide)) dX8_count_94 ?_
        refine lv_topi (fun x_9 ex_9 => ?_)
        have ex_9 : x_9 = fs 11 := ex_9
        obtain rfl : 0 = x_9 := (ex_9.trans (hs _ (by omega))).symm
        exact W.iret (v := 0) hx hb hr (fun t ht hW => ⟨0, rfl, (show 0 = sp_count p1 by have hw9 := congrArg Int32.toInt ew_3; rw [show Int32.toInt 4 = 4 from by decide] at hw9;  unfold sp_count; (repeat' split) <;> first | rfl | (exfalso; omega)), ht⟩) (fun q h => by cases h) dX8_count_95
      · skip
        have ew_3 : p1 = 5 := w_3
        refine W.eq (g2 := F0 m 24 ls (.int 5 :: [])) (by rw [ew_3]) ?_
        refine lv_tableIn (off := 72) (tgt := 96) hx hb dX8_count_24 (by decide) (by decide) (by decide) (by decide) ?_
        refine lv_aload_n hx hb dX8_count_96 rfl (lv_at hl 0 rfl) ?_
        refine va_get (D := (dC, dI)) (ci := 6) (v := .ref kp) (C := RX8) (T := TX8) (N := 14) hx hb hts hnX8_count_X8 hown hK hP 0 rfl rfl 2 (by decide) (hts (.fieldLink RX8 16 "RingMeetsModel" "isKept" "[Z") (by decide +kernel)) (fun _ h9 => h9) rfl dX8_count_97 ?_
        refine lv_iconst (v := 0) hx hb dX8_count_100 (by decide) ?_
        refine va_zald (D := (dC, dI)) hx hb hK hP 3 1 rfl rfl (show vp_in 0 2 from vp_in_nI (n := 0) (N := 2) (by decide) (by decide)) dX8_count_101 ?_
        refine lv_topi (fun x_10 ex_10 => ?_)
        have ex_10 : x_10 = fk 0 := ex_10
        obtain rfl : 0 = x_10 := (ex_10.trans (hk0 _)).symm
        refine lv_if_eq (tgt := 109) hx hb dX8_count_102 (by decide) (fun c_11 => ?_) (fun c_11 => ?_)
        · skip
          refine lv_iconst (v := 0) hx hb dX8_count_109 (by decide) ?_
          refine lv_aload_n hx hb dX8_count_110 rfl (lv_at hl 0 rfl) ?_
          refine va_get (D := (dC, dI)) (ci := 6) (v := .ref kp) (C := RX8) (T := TX8) (N := 14) hx hb hts hnX8_count_X8 hown hK hP 0 rfl rfl 2 (by decide) (hts (.fieldLink RX8 16 "RingMeetsModel" "isKept" "[Z") (by decide +kernel)) (fun _ h9 => h9) rfl dX8_count_111 ?_
          refine lv_iconst (v := 1) hx hb dX8_count_114 (by decide) ?_
          refine va_zald (D := (dC, dI)) hx hb hK hP 3 1 rfl rfl (show vp_in 1 2 from vp_in_nI (n := 1) (N := 2) (by decide) (by decide)) dX8_count_115 ?_
          refine lv_topi (fun x_12 ex_12 => ?_)
          have ex_12 : x_12 = fk 1 := ex_12
          obtain rfl : 0 = x_12 := (ex_12.trans (hk0 _)).symm
          refine lv_if_eq (tgt := 123) hx hb dX8_count_116 (by decide) (fun c_13 => ?_) (fun c_13 => ?_)
          · skip
            refine lv_iconst (v := 0) hx hb dX8_count_123 (by decide) ?_
            refine lv_iadd hx hb dX8_count_124 ?_
            refine lv_topi (fun x_14 ex_14 => ?_)
            obtain rfl : 0 = x_14 := (ex_14.trans (by decide)).symm
            exact W.iret (v := 0) hx hb hr (fun t ht hW => ⟨0, rfl, (show 0 = sp_count p1 by have hw9 := congrArg Int32.toInt ew_3; rw [show Int32.toInt 5 = 5 from by decide] at hw9;  unfold sp_count; (repeat' split) <;> first | rfl | (exfalso; omega)), ht⟩) (fun q h => by cases h) dX8_count_125
          · skip
            exact absurd c_13 (by decide)
        · skip
          exact absurd c_11 (by decide)
  · skip
    have ic_2 := ci_ne (rfl : Int32.toInt r_1 = _) (show Int32.toInt 0 = 0 by decide) c_2
    have hs9 := hr_1.2.1 (hr_1.1.resolve_left c_2)
    obtain ⟨a_15, la_15, ea_15⟩ := nb_of (x := p1) (n := 19) (by omega) (by omega) (by decide)
    subst ea_15
    have ta_15 := nI_toInt (n := a_15) (by omega)
    refine lv_aload_n hx hb dX8_count_11 rfl (lv_at hl 0 rfl) ?_
    refine va_get (D := (dC, dI)) (ci := 6) (v := .ref st) (C := RX8) (T := TX8) (N := 14) hx hb hts hnX8_count_X8 hown hK hP 0 rfl rfl 0 (by decide) (hts (.fieldLink RX8 7 "RingMeetsModel" "state" "[I") (by decide +kernel)) (fun _ h9 => h9) rfl dX8_count_12 ?_
    refine lv_iconst (v := 1) hx hb dX8_count_15 (by decide) ?_
    refine lv_iload_n hx hb dX8_count_16 rfl (lv_at hl 1 rfl) ?_
    refine lv_iadd hx hb dX8_count_17 ?_
    refine lv_topi (fun x_16 ex_16 => ?_)
    obtain rfl : (nI (1 + a_15)) = x_16 := (ex_16.trans (nI_add 1 _)).symm
    refine lv_bipush (v := 10) hx hb dX8_count_18 (by decide) ?_
    refine lv_isub hx hb dX8_count_20 ?_
    refine lv_topi (fun x_17 ex_17 => ?_)
    obtain rfl : (nI ((1 + a_15) - 10)) = x_17 := (ex_17.trans (nb_sub (a := (1 + a_15)) (b := 10) (by omega))).symm
    refine va_iald (D := (dC, dI)) hx hb hK hP 1 0 rfl rfl (vp_in_nI (n := ((1 + a_15) - 10)) (N := 72) (by omega) (by omega)) dX8_count_21 ?_
    refine lv_topi (fun x_18 ex_18 => ?_)
    rw [nI_clamp (n := ((1 + a_15) - 10)) (by omega)] at ex_18
    obtain rfl : 0 = x_18 := (ex_18.trans (hs _ (by omega))).symm
    exact W.iret (v := 0) hx hb hr (fun t ht hW => ⟨0, rfl, (show 0 = sp_count _ by unfold sp_count; rw [if_pos (by omega)]), ht⟩) (fun q h => by cases h) dX8_count_22

theorem hnX8_ring_X8 : ∀ w ∈ wsX80, w ∈ wsX8_ring := fun _ h => List.mem_cons_of_mem _ (List.mem_append_right _ h)
set_option maxHeartbeats 4000000 in
set_option maxRecDepth 100000 in
theorem kX8_ring (l : Launch) (dC : Nat → ClassId) (dI : Nat → Nat → Nat) (cyI cyZ : ClassId) (h0 st im kp pw nx li il mv so la co : Nat) (d6 d11 d12 : Int32) (fs : Nat → Int32) (h8 : fs 0 = 8) (hs : ∀ j, 1 ≤ j → fs j = 0) (fp : Nat → Int32) (hp : ∀ j, j ≤ 10 → fp j = nI (3 ^ j)) (p1 : Int32) (sz : Nat) : Met l yX8_ring wsX8_ring ({ frames := 1, cells := 0, slots := 0, locals := 22 }) (bs_W dC dI cyI cyZ [.ref h0, .int p1] [(h0, .inr (6, [.ref st, .ref im, .ref kp, .ref pw, .ref nx, .ref li, .int d6, .ref il, .ref mv, .ref so, .ref la, .int d11, .int d12, .ref co])), (st, .inl (cyI, 72, .inl fs)), (pw, .inl (cyI, 11, .inl fp))] sz) (va_Qi (S := Unit) (fun (r : Int32) (_ : Unit) => r = sp_ring p1) (fun _ _ => True) (va_A [(h0, .inr (6, [.ref st, .ref im, .ref kp, .ref pw, .ref nx, .ref li, .int d6, .ref il, .ref mv, .ref so, .ref la, .int d11, .int d12, .ref co])), (st, .inl (cyI, 72, .inl fs)), (pw, .inl (cyI, 11, .inl fp))] sz)) 0 0 (va_A [(h0, .inr (6, [.ref st, .ref im, .ref kp, .ref pw, .ref nx, .ref li, .int d6, .ref il, .ref mv, .ref so, .ref la, .int d11, .int d12, .ref co])), (st, .inl (cyI, 72, .inl fs)), (pw, .inl (cyI, 11, .inl fp))] sz) := by
  refine Met.ofW (cc := cX8_ring) (maxL := 4) (ret := (some .int)) (by decide) rfl ?_
  intro p e s m args below meth c s₁ B hml hv
  obtain ⟨rfl, hsz, hB, hP, hD0⟩ := hv
  have hK := hB.1
  have hN := hB.2
  have hx := B.exec
  have hb := B.bytes
  have hr := B.returns
  have hts := atoms_spec (ws := wsX8_ring) B.pre
  have hown : s.vm.findClass RX8 = some m.cls := findClass_of_methodNamed B.named
  have hlocks := B.notSynchronized
  subst hsz
  have hD := hD0.self (sz := s.heap.size)
  generalize hAe : va_A [(h0, .inr (6, [.ref st, .ref im, .ref kp, .ref pw, .ref nx, .ref li, .int d6, .ref il, .ref mv, .ref so, .ref la, .int d11, .int d12, .ref co])), (st, .inl (cyI, 72, .inl fs)), (pw, .inl (cyI, 11, .inl fp))] s.heap.size = A at hD ⊢
  have hA : ∀ q : Nat, s.heap.size ≤ q → A q := fun q h => by rw [← hAe]; exact Or.inr h
  have hS : va_S A s.heap s.heap [] := va_S.rf
  have hP : va_P (dC, dI) vwCl [(h0, .inr (6, [.ref st, .ref im, .ref kp, .ref pw, .ref nx, .ref li, .int d6, .ref il, .ref mv, .ref so, .ref la, .int d11, .int d12, .ref co])), (st, .inl (cyI, 72, .inl fs)), (pw, .inl (cyI, 11, .inl fp))] s.heap := hP
  have hl := lv_entry ([.ref h0, .int p1]) (n := 4) (Nat.le_of_ble_eq_true rfl)
  rw [lg_entry_eq]
  generalize (lg_sl ([.ref h0, .int p1]) ++ List.replicate (4 - (lg_sl ([.ref h0, .int p1])).length) Slot.unset).toArray = ls at hl ⊢
  have hl : lv_has ls 4 [(0, .ref h0), (1, .int p1)] := hl
  refine lv_iload_n hx hb dX8_ring_0 rfl (lv_at hl 1 rfl) ?_
  refine lv_iconst (v := 3) hx hb dX8_ring_1 (by decide) ?_
  refine lv_bipush (v := 10) hx hb dX8_ring_2 (by decide) ?_
  refine vp_callSi (va_Run.run (va_runS (As := [.int p1, .int 3, .int 10]) (rest := []) ⟨hx, hb, hml, hown, hts⟩ (kX8_in l dC dI cyI cyZ p1 3 10 3 10 (by decide) (by decide)) (va_cwS 3 hts gX8_ring_X8_in rfl rfl rfl (by decide +kernel) ⟨Nat.le_of_ble_eq_true rfl, Nat.le_of_ble_eq_true rfl⟩) (bs_RS hB (hP.sub (ws' := []) [] rfl)) rfl rfl hl.1 rfl (lv_room (Nat.le_of_ble_eq_true rfl)) dX8_ring_4 ⟨Nat.le_of_ble_eq_true rfl, Nat.le_of_ble_eq_true rfl⟩)) (fun r_1 hr_1 => ?_)
  refine lv_if_ne (tgt := 13) hx hb dX8_ring_7 (by decide) (fun c_2 => ?_) (fun c_2 => ?_)
  · skip
    have ic_2 := ci_ne (rfl : Int32.toInt r_1 = _) (show Int32.toInt 0 = 0 by decide) c_2
    have hs9 := hr_1.2.1 (hr_1.1.resolve_left c_2)
    refine lv_aload_n hx hb dX8_ring_13 rfl (lv_at hl 0 rfl) ?_
    refine vp_callSi (va_Run.run (va_runV (As := []) (rest := []) ⟨hx, hb, hml, hown, hts⟩ (kX8_cells l dC dI cyI cyZ h0 st im kp pw nx li il mv so la co d6 d11 d12 fs h8) (cwV 0 hts gX8_ring_X8_cells rfl rfl rfl (by decide +kernel) ⟨Nat.le_of_ble_eq_true rfl, Nat.le_of_ble_eq_true rfl⟩) (bs_RV hB (hP.sub (ws' := [(h0, .inr (6, [.ref st, .ref im, .ref kp, .ref pw, .ref nx, .ref li, .int d6, .ref il, .ref mv, .ref so, .ref la, .int d11, .int d12, .ref co])), (st, .inl (cyI, 72, .inl fs))]) [0, 1] rfl) 0 rfl rfl) rfl rfl hl.1 rfl (lv_room (Nat.le_of_ble_eq_true rfl)) dX8_ring_14 ⟨Nat.le_of_ble_eq_true rfl, Nat.le_of_ble_eq_true rfl⟩)) (fun r_3 hr_3 => ?_)
    obtain rfl : r_3 = 8 := hr_3
    refine lv_istore_n (lv' := [(2, .int 8), (0, .ref h0), (1, .int p1)]) hx hb dX8_ring_17 rfl hl (by decide) rfl (fun ls hl => ?_)
    refine lv_aload_n hx hb dX8_ring_18 rfl (lv_at hl 1 rfl) ?_
    refine va_get (D := (dC, dI)) (ci := 6) (v := .ref st) (C := RX8) (T := TX8) (N := 14) hx hb hts hnX8_ring_X8 hown hK hP 0 rfl rfl 0 (by decide) (hts (.fieldLink RX8 7 "RingMeetsModel" "state" "[I") (by decide +kernel)) (fun _ h9 => h9) rfl dX8_ring_19 ?_
    refine lv_iconst (v := 0) hx hb dX8_ring_22 (by decide) ?_
    refine lv_iload_n hx hb dX8_ring_23 rfl (lv_at hl 2 rfl) ?_
    refine va_iast (D := (dC, dI)) hx hb hK hP hD hS 1 0 rfl rfl (show vp_in 0 72 from vp_in_nI (n := 0) (N := 72) (by decide) (by decide)) dX8_ring_24 (fun H locs hP hD hS => ?_)
    obtain ⟨g_4, eg_4⟩ : ∃ y : Nat → Int32, y = upd fs (Int32.toNatClampNeg 0) p1 := ⟨_, rfl⟩
    have hP : va_P (dC, dI) vwCl [(h0, .inr (6, [.ref st, .ref im, .ref kp, .ref pw, .ref nx, .ref li, .int d6, .ref il, .ref mv, .ref so, .ref la, .int d11, .int d12, .ref co])), (st, .inl (cyI, 72, .inl g_4)), (pw, .inl (cyI, 11, .inl fp))] H := by rw [eg_4]; exact hP
    have hD : va_D A [(h0, .inr (6, [.ref st, .ref im, .ref kp, .ref pw, .ref nx, .ref li, .int d6, .ref il, .ref mv, .ref so, .ref la, .int d11, .int d12, .ref co])), (st, .inl (cyI, 72, .inl g_4)), (pw, .inl (cyI, 11, .inl fp))] := by rw [eg_4]; exact hD
    have eg_4 : g_4 = upd fs 0 p1 := eg_4
    refine lv_iconst (v := 0) hx hb dX8_ring_25 (by decide) ?_
    refine lv_istore_n (lv' := [(3, .int 0), (2, .int 8), (0, .ref h0), (1, .int p1)]) hx hb dX8_ring_26 rfl hl (by decide) rfl (fun ls hl => ?_)
    have L27 : ∀ (n27 : Nat), ∀ (k : Nat) (fs : Nat → Int32), (0 ≤ k ∧ k ≤ 10) → (11 ≤ k + n27) → ∀ (H : Heap) (locs : List Loc), va_P (dC, dI) vwCl [(h0, .inr (6, [.ref st, .ref im, .ref kp, .ref pw, .ref nx, .ref li, .int d6, .ref il, .ref mv, .ref so, .ref la, .int d11, .int d12, .ref co])), (st, .inl (cyI, 72, .inl fs)), (pw, .inl (cyI, 11, .inl fp))] H → va_D A [(h0, .inr (6, [.ref st, .ref im, .ref kp, .ref pw, .ref nx, .ref li, .int d6, .ref il, .ref mv, .ref so, .ref la, .int d11, .int d12, .ref co])), (st, .inl (cyI, 72, .inl fs)), (pw, .inl (cyI, 11, .inl fp))] → va_S A s.heap H locs → ∀ (ls : Array Slot), lv_has ls 4 [(0, .ref h0), (2, .int 8), (3, .int (nI k))] → W p l e (headSpec wsX8_ring ({ frames := 1, cells := 0, slots := 0, locals := 22 })).room s m ([.ref h0, .int p1] : List Value).toArray below meth c H locs 0 0 (MQ below (va_Qi (S := Unit) (fun (r : Int32) (_ : Unit) => r = sp_ring p1) (fun _ _ => True) A) ([.ref h0, .int p1] : List Value).toArray s 0 0 A) (F0 m 27 ls []) := by
      intro n27
      induction n27 with
      | zero =>
        intro k fs hk27 hn27 H locs hP hD hS ls hl
        exfalso
        omega
      | succ n27 ih27 =>
        intro k fs hk27 hn27 H locs hP hD hS ls hl
        refine lv_iload_n hx hb dX8_ring_27 rfl (lv_at hl 2 rfl) ?_
        refine lv_bipush (v := 10) hx hb dX8_ring_28 (by decide) ?_
        refine lv_icmp_ge (tgt := 48) hx hb dX8_ring_30 (by decide) (fun c_5 => ?_) (fun c_5 => ?_)
        · skip
          have ic_5 := ci_le (show Int32.toInt 10 = 10 by decide) (nI_toInt (n := k) (by omega)) c_5
          refine lv_iload_n hx hb dX8_ring_48 rfl (lv_at hl 1 rfl) ?_
          exact W.iret (v := 8) hx hb hr (fun t ht hW => ⟨⟨8, (), rfl, (show 8 = sp_ring p1 by unfold sp_ring; (repeat' split) <;> first | rfl | (exfalso; omega)), trivial⟩, hS.F ht⟩) hS.2.2 dX8_ring_49
        · skip
          have ic_5 := ci_nle (show Int32.toInt 10 = 10 by decide) (nI_toInt (n := k) (by omega)) c_5
          refine lv_aload_n hx hb dX8_ring_33 rfl (lv_at hl 0 rfl) ?_
          refine va_get (D := (dC, dI)) (ci := 6) (v := .ref st) (C := RX8) (T := TX8) (N := 14) hx hb hts hnX8_ring_X8 hown hK hP 0 rfl rfl 0 (by decide) (hts (.fieldLink RX8 7 "RingMeetsModel" "state" "[I") (by decide +kernel)) (fun _ h9 => h9) rfl dX8_ring_34 ?_
          refine lv_iconst (v := 1) hx hb dX8_ring_37 (by decide) ?_
          refine lv_iload_n hx hb dX8_ring_38 rfl (lv_at hl 2 rfl) ?_
          refine lv_iadd hx hb dX8_ring_39 ?_
          refine lv_topi (fun x_6 ex_6 => ?_)
          obtain rfl : (nI (1 + k)) = x_6 := (ex_6.trans (nI_add 1 _)).symm
          refine lv_iconst (v := 0) hx hb dX8_ring_40 (by decide) ?_
          refine va_iast (D := (dC, dI)) hx hb hK hP hD hS 1 0 rfl rfl (vp_in_nI (n := (1 + k)) (N := 72) (by omega) (by omega)) dX8_ring_41 (fun H locs hP hD hS => ?_)
          obtain ⟨g_7, eg_7⟩ : ∃ y : Nat → Int32, y = upd fs (Int32.toNatClampNeg (nI (1 + k))) 0 := ⟨_, rfl⟩
          have hP : va_P (dC, dI) vwCl [(h0, .inr (6, [.ref st, .ref im, .ref kp, .ref pw, .ref nx, .ref li, .int d6, .ref il, .ref mv, .ref so, .ref la, .int d11, .int d12, .ref co])), (st, .inl (cyI, 72, .inl g_7)), (pw, .inl (cyI, 11, .inl fp))] H := by rw [eg_7]; exact hP
          have hD : va_D A [(h0, .inr (6, [.ref st, .ref im, .ref kp, .ref pw, .ref nx, .ref li, .int d6, .ref il, .ref mv, .ref so, .ref la, .int d11, .int d12, .ref co])), (st, .inl (cyI, 72, .inl g_7)), (pw, .inl (cyI, 11, .inl fp))] := by rw [eg_7]; exact hD
          rw [nI_clamp (n := (1 + k)) (by omega)] at eg_7
          refine lv_iinc (v := (nI (k + 1))) (lv' := [(3, .int (nI (k + 1))), (0, .ref h0), (2, .int 8)]) hx hb dX8_ring_42 hl (k := 2) rfl (nI_1 _) (by decide) rfl (fun ls hl => ?_)
          refine lv_goto (tgt := 27) hx hb dX8_ring_45 (by decide) ?_
          exact ih27 (k + 1) g_7 ⟨by omega, by omega⟩ (by omega)  _ _ (hP.sub [0, 1, 2] rfl) (hD.sub [0, 1, 2] (by decide) rfl) hS _ (lv_sub hl [1, 2, 0] rfl)
    exact L27 11 0 g_4 ⟨by omega, by omega⟩ (by omega)  _ _ (hP.sub [0, 1, 2] rfl) (hD.sub [0, 1, 2] (by decide) rfl) hS _ (lv_sub hl [2, 1, 0] rfl)
  · skip
    have ic_2 := ci_eq (rfl : Int32.toInt r_1 = _) (show Int32.toInt 0 = 0 by decide) c_2
    have hs9 := hr_1.2.2 c_2
    refine lv_bipush (v := (-2)) hx hb dX8_ring_10 (by decide) ?_
    exact W.iret (v := (-2)) hx hb hr (fun t ht hW => ⟨⟨(-2), (), rfl, (show (-2) = sp_ring p1 by unfold sp_ring; (repeat' split) <;> first | rfl | (exfalso; omega)), trivial⟩, hS.F ht⟩) hS.2.2 dX8_ring_12

theorem hnX8_stand_X8 : ∀ w ∈ wsX80, w ∈ wsX8_stand := fun _ h => List.mem_cons_of_mem _ (List.mem_append_right _ h)
set_option maxHeartbeats 4000000 in
set_option maxRecDepth 100000 in
theorem kX8_stand (l : Launch) (dC : Nat → ClassId) (dI : Nat → Nat → Nat) (cyI cyZ : ClassId) (h0 st im kp pw nx li il mv so la co : Nat) (d6 d11 d12 : Int32) (fs : Nat → Int32) (h8 : fs 0 = 8) (hs : ∀ j, 1 ≤ j → fs j = 0) (fp : Nat → Int32) (hp : ∀ j, j ≤ 10 → fp j = nI (3 ^ j)) (p1 p2 : Int32) (sz : Nat) : Met l yX8_stand wsX8_stand ({ frames := 2, cells := 0, slots := 0, locals := 43 }) (bs_W dC dI cyI cyZ [.ref h0, .int p1, .int p2] [(h0, .inr (6, [.ref st, .ref im, .ref kp, .ref pw, .ref nx, .ref li, .int d6, .ref il, .ref mv, .ref so, .ref la, .int d11, .int d12, .ref co])), (st, .inl (cyI, 72, .inl fs)), (pw, .inl (cyI, 11, .inl fp))] sz) (va_Qi (S := Unit) (fun (r : Int32) (_ : Unit) => r = sp_stand p1 p2) (fun _ _ => True) (va_A [(h0, .inr (6, [.ref st, .ref im, .ref kp, .ref pw, .ref nx, .ref li, .int d6, .ref il, .ref mv, .ref so, .ref la, .int d11, .int d12, .ref co])), (st, .inl (cyI, 72, .inl fs)), (pw, .inl (cyI, 11, .inl fp))] sz)) 0 0 (va_A [(h0, .inr (6, [.ref st, .ref im, .ref kp, .ref pw, .ref nx, .ref li, .int d6, .ref il, .ref mv, .ref so, .ref la, .int d11, .int d12, .ref co])), (st, .inl (cyI, 72, .inl fs)), (pw, .inl (cyI, 11, .inl fp))] sz) := by
  refine Met.ofW (cc := cX8_stand) (maxL := 4) (ret := (some .int)) (by decide) rfl ?_
  intro p e s m args below meth c s₁ B hml hv
  obtain ⟨rfl, hsz, hB, hP, hD0⟩ := hv
  have hK := hB.1
  have hN := hB.2
  have hx := B.exec
  have hb := B.bytes
  have hr := B.returns
  have hts := atoms_spec (ws := wsX8_stand) B.pre
  have hown : s.vm.findClass RX8 = some m.cls := findClass_of_methodNamed B.named
  have hlocks := B.notSynchronized
  subst hsz
  have hD := hD0.self (sz := s.heap.size)
  generalize hAe : va_A [(h0, .inr (6, [.ref st, .ref im, .ref kp, .ref pw, .ref nx, .ref li, .int d6, .ref il, .ref mv, .ref so, .ref la, .int d11, .int d12, .ref co])), (st, .inl (cyI, 72, .inl fs)), (pw, .inl (cyI, 11, .inl fp))] s.heap.size = A at hD ⊢
  have hA : ∀ q : Nat, s.heap.size ≤ q → A q := fun q h => by rw [← hAe]; exact Or.inr h
  have hS : va_S A s.heap s.heap [] := va_S.rf
  have hP : va_P (dC, dI) vwCl [(h0, .inr (6, [.ref st, .ref im, .ref kp, .ref pw, .ref nx, .ref li, .int d6, .ref il, .ref mv, .ref so, .ref la, .int d11, .int d12, .ref co])), (st, .inl (cyI, 72, .inl fs)), (pw, .inl (cyI, 11, .inl fp))] s.heap := hP
  have hl := lv_entry ([.ref h0, .int p1, .int p2]) (n := 4) (Nat.le_of_ble_eq_true rfl)
  rw [lg_entry_eq]
  generalize (lg_sl ([.ref h0, .int p1, .int p2]) ++ List.replicate (4 - (lg_sl ([.ref h0, .int p1, .int p2])).length) Slot.unset).toArray = ls at hl ⊢
  have hl : lv_has ls 4 [(0, .ref h0), (1, .int p1), (2, .int p2)] := hl
  refine lv_aload_n hx hb dX8_stand_0 rfl (lv_at hl 0 rfl) ?_
  refine lv_iload_n hx hb dX8_stand_1 rfl (lv_at hl 1 rfl) ?_
  refine vp_callSi (va_Run.run (va_runV (As := [.int p1]) (rest := []) ⟨hx, hb, hml, hown, hts⟩ (kX8_isCell l dC dI cyI cyZ h0 st im kp pw nx li il mv so la co d6 d11 d12 fs h8 p1) (cwV 1 hts gX8_stand_X8_isCell rfl rfl rfl (by decide +kernel) ⟨Nat.le_of_ble_eq_true rfl, Nat.le_of_ble_eq_true rfl⟩) (bs_RV hB (hP.sub (ws' := [(h0, .inr (6, [.ref st, .ref im, .ref kp, .ref pw, .ref nx, .ref li, .int d6, .ref il, .ref mv, .ref so, .ref la, .int d11, .int d12, .ref co])), (st, .inl (cyI, 72, .inl fs))]) [0, 1] rfl) 0 rfl rfl) rfl rfl hl.1 rfl (lv_room (Nat.le_of_ble_eq_true rfl)) dX8_stand_2 ⟨Nat.le_of_ble_eq_true rfl, Nat.le_of_ble_eq_true rfl⟩)) (fun r_1 hr_1 => ?_)
  refine lv_if_ne (tgt := 10) hx hb dX8_stand_5 (by decide) (fun c_2 => ?_) (fun c_2 => ?_)
  · skip
    have ic_2 := ci_ne (rfl : Int32.toInt r_1 = _) (show Int32.toInt 0 = 0 by decide) c_2
    have hs8 := hr_1.2.1 (hr_1.1.resolve_left c_2)
    refine lv_iload_n hx hb dX8_stand_10 rfl (lv_at hl 2 rfl) ?_
    refine lv_iconst (v := 0) hx hb dX8_stand_11 (by decide) ?_
    refine lv_iconst (v := 5) hx hb dX8_stand_12 (by decide) ?_
    refine vp_callSi (va_Run.run (va_runS (As := [.int p2, .int 0, .int 5]) (rest := []) ⟨hx, hb, hml, hown, hts⟩ (kX8_in l dC dI cyI cyZ p2 0 5 0 5 (by decide) (by decide)) (va_cwS 3 hts gX8_stand_X8_in rfl rfl rfl (by decide +kernel) ⟨Nat.le_of_ble_eq_true rfl, Nat.le_of_ble_eq_true rfl⟩) (bs_RS hB (hP.sub (ws' := []) [] rfl)) rfl rfl hl.1 rfl (lv_room (Nat.le_of_ble_eq_true rfl)) dX8_stand_13 ⟨Nat.le_of_ble_eq_true rfl, Nat.le_of_ble_eq_true rfl⟩)) (fun r_3 hr_3 => ?_)
    refine lv_if_ne (tgt := 22) hx hb dX8_stand_16 (by decide) (fun c_4 => ?_) (fun c_4 => ?_)
    · skip
      have ic_4 := ci_ne (rfl : Int32.toInt r_3 = _) (show Int32.toInt 0 = 0 by decide) c_4
      have hs9 := hr_3.2.1 (hr_3.1.resolve_left c_4)
      obtain ⟨a_5, la_5, ea_5⟩ := nb_of (x := p1) (n := 7) (by omega) (by omega) (by decide)
      subst ea_5
      have ta_5 := nI_toInt (n := a_5) (by omega)
      refine lv_aload_n hx hb dX8_stand_22 rfl (lv_at hl 0 rfl) ?_
      refine va_get (D := (dC, dI)) (ci := 6) (v := .ref st) (C := RX8) (T := TX8) (N := 14) hx hb hts hnX8_stand_X8 hown hK hP 0 rfl rfl 0 (by decide) (hts (.fieldLink RX8 7 "RingMeetsModel" "state" "[I") (by decide +kernel)) (fun _ h9 => h9) rfl dX8_stand_23 ?_
      refine lv_iconst (v := 1) hx hb dX8_stand_26 (by decide) ?_
      refine lv_iload_n hx hb dX8_stand_27 rfl (lv_at hl 1 rfl) ?_
      refine lv_iadd hx hb dX8_stand_28 ?_
      refine lv_topi (fun x_6 ex_6 => ?_)
      obtain rfl : (nI (1 + a_5)) = x_6 := (ex_6.trans (nI_add 1 _)).symm
      refine va_iald (D := (dC, dI)) hx hb hK hP 1 0 rfl rfl (vp_in_nI (n := (1 + a_5)) (N := 72) (by omega) (by omega)) dX8_stand_29 ?_
      refine lv_topi (fun x_7 ex_7 => ?_)
      rw [nI_clamp (n := (1 + a_5)) (by omega)] at ex_7
      obtain rfl : 0 = x_7 := (ex_7.trans (hs _ (by omega))).symm
      refine lv_istore_n (lv' := [(3, .int 0), (0, .ref h0), (1, .int (nI a_5)), (2, .int p2)]) hx hb dX8_stand_30 rfl hl (by decide) rfl (fun ls hl => ?_)
      refine lv_aload_n hx hb dX8_stand_31 rfl (lv_at hl 1 rfl) ?_
      refine vp_callSi (va_Run.run (va_runV (As := []) (rest := []) ⟨hx, hb, hml, hown, hts⟩ (kX8_walkers l dC dI cyI cyZ h0 st im kp pw nx li il mv so la co d6 d11 d12 fs h8 hs ) (cwV 0 hts gX8_stand_X8_walkers rfl rfl rfl (by decide +kernel) ⟨Nat.le_of_ble_eq_true rfl, Nat.le_of_ble_eq_true rfl⟩) (bs_RV hB (hP.sub (ws' := [(h0, .inr (6, [.ref st, .ref im, .ref kp, .ref pw, .ref nx, .ref li, .int d6, .ref il, .ref mv, .ref so, .ref la, .int d11, .int d12, .ref co])), (st, .inl (cyI, 72, .inl fs))]) [0, 1] rfl) 0 rfl rfl) rfl rfl hl.1 rfl (lv_room (Nat.le_of_ble_eq_true rfl)) dX8_stand_32 ⟨Nat.le_of_ble_eq_true rfl, Nat.le_of_ble_eq_true rfl⟩)) (fun r_8 hr_8 => ?_)
      obtain rfl : r_8 = 0 := hr_8
      refine lv_iload_n hx hb dX8_stand_35 rfl (lv_at hl 0 rfl) ?_
      refine lv_isub hx hb dX8_stand_36 ?_
      refine lv_topi (fun x_9 ex_9 => ?_)
      obtain rfl : 0 = x_9 := (ex_9.trans (by decide)).symm
      refine lv_iload_n hx hb dX8_stand_37 rfl (lv_at hl 3 rfl) ?_
      refine lv_iadd hx hb dX8_stand_38 ?_
      refine lv_topi (fun x_10 ex_10 => ?_)
      obtain rfl : p2 = x_10 := (ex_10.trans (Int32.zero_add _)).symm
      refine lv_iconst (v := 5) hx hb dX8_stand_39 (by decide) ?_
      refine lv_icmp_le (tgt := 46) hx hb dX8_stand_40 (by decide) (fun c_11 => ?_) (fun c_11 => ?_)
      · skip
        have ic_11 := ci_le (rfl : Int32.toInt p2 = _) (show Int32.toInt 5 = 5 by decide) c_11
        refine lv_aload_n hx hb dX8_stand_46 rfl (lv_at hl 1 rfl) ?_
        refine va_get (D := (dC, dI)) (ci := 6) (v := .ref st) (C := RX8) (T := TX8) (N := 14) hx hb hts hnX8_stand_X8 hown hK hP 0 rfl rfl 0 (by decide) (hts (.fieldLink RX8 7 "RingMeetsModel" "state" "[I") (by decide +kernel)) (fun _ h9 => h9) rfl dX8_stand_47 ?_
        refine lv_iconst (v := 1) hx hb dX8_stand_50 (by decide) ?_
        refine lv_iload_n hx hb dX8_stand_51 rfl (lv_at hl 2 rfl) ?_
        refine lv_iadd hx hb dX8_stand_52 ?_
        refine lv_topi (fun x_12 ex_12 => ?_)
        obtain rfl : (nI (1 + a_5)) = x_12 := (ex_12.trans (nI_add 1 _)).symm
        refine lv_iload_n hx hb dX8_stand_53 rfl (lv_at hl 3 rfl) ?_
        refine va_iast (D := (dC, dI)) hx hb hK hP hD hS 1 0 rfl rfl (vp_in_nI (n := (1 + a_5)) (N := 72) (by omega) (by omega)) dX8_stand_54 (fun H locs hP hD hS => ?_)
        obtain ⟨g_13, eg_13⟩ : ∃ y : Nat → Int32, y = upd fs (Int32.toNatClampNeg (nI (1 + a_5))) p2 := ⟨_, rfl⟩
        have hP : va_P (dC, dI) vwCl [(h0, .inr (6, [.ref st, .ref im, .ref kp, .ref pw, .ref nx, .ref li, .int d6, .ref il, .ref mv, .ref so, .ref la, .int d11, .int d12, .ref co])), (st, .inl (cyI, 72, .inl g_13)), (pw, .inl (cyI, 11, .inl fp))] H := by rw [eg_13]; exact hP
        have hD : va_D A [(h0, .inr (6, [.ref st, .ref im, .ref kp, .ref pw, .ref nx, .ref li, .int d6, .ref il, .ref mv, .ref so, .ref la, .int d11, .int d12, .ref co])), (st, .inl (cyI, 72, .inl g_13)), (pw, .inl (cyI, 11, .inl fp))] := by rw [eg_13]; exact hD
        rw [nI_clamp (n := (1 + a_5)) (by omega)] at eg_13
        refine lv_iload_n hx hb dX8_stand_55 rfl (lv_at hl 0 rfl) ?_
        exact W.iret (v := 0) hx hb hr (fun t ht hW => ⟨⟨0, (), rfl, (show 0 = sp_stand _ p2 by unfold sp_stand; (repeat' split) <;> first | rfl | (exfalso; omega)), trivial⟩, hS.F ht⟩) hS.2.2 dX8_stand_56
      · skip
        have ic_11 := ci_nle (rfl : Int32.toInt p2 = _) (show Int32.toInt 5 = 5 by decide) c_11
        exfalso; omega
    · skip
      have ic_4 := ci_eq (rfl : Int32.toInt r_3 = _) (show Int32.toInt 0 = 0 by decide) c_4
      have hs9 := hr_3.2.2 c_4
      refine lv_bipush (v := (-2)) hx hb dX8_stand_19 (by decide) ?_
      exact W.iret (v := (-2)) hx hb hr (fun t ht hW => ⟨⟨(-2), (), rfl, (show (-2) = sp_stand _ p2 by unfold sp_stand; (repeat' split) <;> first | rfl | (exfalso; omega)), trivial⟩, hS.F ht⟩) hS.2.2 dX8_stand_21
  · skip
    have ic_2 := ci_eq (rfl : Int32.toInt r_1 = _) (show Int32.toInt 0 = 0 by decide) c_2
    have hs9 := hr_1.2.2 c_2
    refine lv_iconst (v := (-1)) hx hb dX8_stand_8 (by decide) ?_
    exact W.iret (v := (-1)) hx hb hr (fun t ht hW => ⟨⟨(-1), (), rfl, (show (-1) = sp_stand _ p2 by unfold sp_stand; (repeat' split) <;> first | rfl | (exfalso; omega)), trivial⟩, hS.F ht⟩) hS.2.2 dX8_stand_9

theorem hnX8_rule_X8 : ∀ w ∈ wsX80, w ∈ wsX8_rule := fun _ h => List.mem_cons_of_mem _ (List.mem_append_right _ h)
set_option maxHeartbeats 4000000 in
set_option maxRecDepth 100000 in
theorem kX8_rule (l : Launch) (dC : Nat → ClassId) (dI : Nat → Nat → Nat) (cyI cyZ : ClassId) (h0 st im kp pw nx li il mv so la co : Nat) (d6 d11 d12 : Int32) (fs : Nat → Int32) (h8 : fs 0 = 8) (hs : ∀ j, 1 ≤ j → fs j = 0) (fp : Nat → Int32) (hp : ∀ j, j ≤ 10 → fp j = nI (3 ^ j)) (p1 p2 p3 p4 p5 : Int32) (sz : Nat) : Met l yX8_rule wsX8_rule ({ frames := 1, cells := 0, slots := 0, locals := 22 }) (bs_W dC dI cyI cyZ [.ref h0, .int p1, .int p2, .int p3, .int p4, .int p5] [(h0, .inr (6, [.ref st, .ref im, .ref kp, .ref pw, .ref nx, .ref li, .int d6, .ref il, .ref mv, .ref so, .ref la, .int d11, .int d12, .ref co])), (st, .inl (cyI, 72, .inl fs)), (pw, .inl (cyI, 11, .inl fp))] sz) (va_Qi (S := Unit) (fun (r : Int32) (_ : Unit) => r = sp_rule p1 p2 p3 p4 p5) (fun _ _ => True) (va_A [(h0, .inr (6, [.ref st, .ref im, .ref kp, .ref pw, .ref nx, .ref li, .int d6, .ref il, .ref mv, .ref so, .ref la, .int d11, .int d12, .ref co])), (st, .inl (cyI, 72, .inl fs)), (pw, .inl (cyI, 11, .inl fp))] sz)) 0 0 (va_A [(h0, .inr (6, [.ref st, .ref im, .ref kp, .ref pw, .ref nx, .ref li, .int d6, .ref il, .ref mv, .ref so, .ref la, .int d11, .int d12, .ref co])), (st, .inl (cyI, 72, .inl fs)), (pw, .inl (cyI, 11, .inl fp))] sz) := by
  refine Met.ofW (cc := cX8_rule) (maxL := 7) (ret := (some .int)) (by decide) rfl ?_
  intro p e s m args below meth c s₁ B hml hv
  obtain ⟨rfl, hsz, hB, hP, hD0⟩ := hv
  have hK := hB.1
  have hN := hB.2
  have hx := B.exec
  have hb := B.bytes
  have hr := B.returns
  have hts := atoms_spec (ws := wsX8_rule) B.pre
  have hown : s.vm.findClass RX8 = some m.cls := findClass_of_methodNamed B.named
  have hlocks := B.notSynchronized
  subst hsz
  have hD := hD0.self (sz := s.heap.size)
  generalize hAe : va_A [(h0, .inr (6, [.ref st, .ref im, .ref kp, .ref pw, .ref nx, .ref li, .int d6, .ref il, .ref mv, .ref so, .ref la, .int d11, .int d12, .ref co])), (st, .inl (cyI, 72, .inl fs)), (pw, .inl (cyI, 11, .inl fp))] s.heap.size = A at hD ⊢
  have hA : ∀ q : Nat, s.heap.size ≤ q → A q := fun q h => by rw [← hAe]; exact Or.inr h
  have hS : va_S A s.heap s.heap [] := va_S.rf
  have hP : va_P (dC, dI) vwCl [(h0, .inr (6, [.ref st, .ref im, .ref kp, .ref pw, .ref nx, .ref li, .int d6, .ref il, .ref mv, .ref so, .ref la, .int d11, .int d12, .ref co])), (st, .inl (cyI, 72, .inl fs)), (pw, .inl (cyI, 11, .inl fp))] s.heap := hP
  have hl := lv_entry ([.ref h0, .int p1, .int p2, .int p3, .int p4, .int p5]) (n := 7) (Nat.le_of_ble_eq_true rfl)
  rw [lg_entry_eq]
  generalize (lg_sl ([.ref h0, .int p1, .int p2, .int p3, .int p4, .int p5]) ++ List.replicate (7 - (lg_sl ([.ref h0, .int p1, .int p2, .int p3, .int p4, .int p5])).length) Slot.unset).toArray = ls at hl ⊢
  have hl : lv_has ls 7 [(0, .ref h0), (1, .int p1), (2, .int p2), (3, .int p3), (4, .int p4), (5, .int p5)] := hl
  refine lv_iload_n hx hb dX8_rule_0 rfl (lv_at hl 1 rfl) ?_
  refine lv_iconst (v := 0) hx hb dX8_rule_1 (by decide) ?_
  refine lv_iconst (v := 5) hx hb dX8_rule_2 (by decide) ?_
  refine vp_callSi (va_Run.run (va_runS (As := [.int p1, .int 0, .int 5]) (rest := []) ⟨hx, hb, hml, hown, hts⟩ (kX8_in l dC dI cyI cyZ p1 0 5 0 5 (by decide) (by decide)) (va_cwS 3 hts gX8_rule_X8_in rfl rfl rfl (by decide +kernel) ⟨Nat.le_of_ble_eq_true rfl, Nat.le_of_ble_eq_true rfl⟩) (bs_RS hB (hP.sub (ws' := []) [] rfl)) rfl rfl hl.1 rfl (lv_room (Nat.le_of_ble_eq_true rfl)) dX8_rule_3 ⟨Nat.le_of_ble_eq_true rfl, Nat.le_of_ble_eq_true rfl⟩)) (fun r_1 hr_1 => ?_)
  refine lv_if_eq (tgt := 48) hx hb dX8_rule_6 (by decide) (fun c_2 => ?_) (fun c_2 => ?_)
  · skip
    have ic_2 := ci_eq (rfl : Int32.toInt r_1 = _) (show Int32.toInt 0 = 0 by decide) c_2
    have hr9 := hr_1.2.2 c_2
    refine lv_bipush (v := (-2)) hx hb dX8_rule_48 (by decide) ?_
    exact W.iret (v := (-2)) hx hb hr (fun t ht hW => ⟨⟨(-2), (), rfl, (show (-2) = sp_rule p1 p2 p3 p4 p5 by unfold sp_rule; (repeat' split) <;> first | rfl | (exfalso; omega)), trivial⟩, hS.F ht⟩) hS.2.2 dX8_rule_50
  · skip
    have ic_2 := ci_ne (rfl : Int32.toInt r_1 = _) (show Int32.toInt 0 = 0 by decide) c_2
    have hr0 := hr_1.2.1 (hr_1.1.resolve_left c_2)
    refine lv_iload_n hx hb dX8_rule_9 rfl (lv_at hl 2 rfl) ?_
    refine lv_iconst (v := 0) hx hb dX8_rule_10 (by decide) ?_
    refine lv_iconst (v := 4) hx hb dX8_rule_11 (by decide) ?_
    refine vp_callSi (va_Run.run (va_runS (As := [.int p2, .int 0, .int 4]) (rest := []) ⟨hx, hb, hml, hown, hts⟩ (kX8_in l dC dI cyI cyZ p2 0 4 0 4 (by decide) (by decide)) (va_cwS 3 hts gX8_rule_X8_in rfl rfl rfl (by decide +kernel) ⟨Nat.le_of_ble_eq_true rfl, Nat.le_of_ble_eq_true rfl⟩) (bs_RS hB (hP.sub (ws' := []) [] rfl)) rfl rfl hl.1 rfl (lv_room (Nat.le_of_ble_eq_true rfl)) dX8_rule_12 ⟨Nat.le_of_ble_eq_true rfl, Nat.le_of_ble_eq_true rfl⟩)) (fun r_3 hr_3 => ?_)
    refine lv_if_eq (tgt := 48) hx hb dX8_rule_15 (by decide) (fun c_4 => ?_) (fun c_4 => ?_)
    · skip
      have ic_4 := ci_eq (rfl : Int32.toInt r_3 = _) (show Int32.toInt 0 = 0 by decide) c_4
      have hr9 := hr_3.2.2 c_4
      refine lv_bipush (v := (-2)) hx hb dX8_rule_48 (by decide) ?_
      exact W.iret (v := (-2)) hx hb hr (fun t ht hW => ⟨⟨(-2), (), rfl, (show (-2) = sp_rule p1 p2 p3 p4 p5 by unfold sp_rule; (repeat' split) <;> first | rfl | (exfalso; omega)), trivial⟩, hS.F ht⟩) hS.2.2 dX8_rule_50
    · skip
      have ic_4 := ci_ne (rfl : Int32.toInt r_3 = _) (show Int32.toInt 0 = 0 by decide) c_4
      have hr1 := hr_3.2.1 (hr_3.1.resolve_left c_4)
      refine lv_iload_n hx hb dX8_rule_18 rfl (lv_at hl 3 rfl) ?_
      refine lv_iconst (v := 0) hx hb dX8_rule_19 (by decide) ?_
      refine lv_iconst (v := 2) hx hb dX8_rule_20 (by decide) ?_
      refine vp_callSi (va_Run.run (va_runS (As := [.int p3, .int 0, .int 2]) (rest := []) ⟨hx, hb, hml, hown, hts⟩ (kX8_in l dC dI cyI cyZ p3 0 2 0 2 (by decide) (by decide)) (va_cwS 3 hts gX8_rule_X8_in rfl rfl rfl (by decide +kernel) ⟨Nat.le_of_ble_eq_true rfl, Nat.le_of_ble_eq_true rfl⟩) (bs_RS hB (hP.sub (ws' := []) [] rfl)) rfl rfl hl.1 rfl (lv_room (Nat.le_of_ble_eq_true rfl)) dX8_rule_21 ⟨Nat.le_of_ble_eq_true rfl, Nat.le_of_ble_eq_true rfl⟩)) (fun r_5 hr_5 => ?_)
      refine lv_if_eq (tgt := 48) hx hb dX8_rule_24 (by decide) (fun c_6 => ?_) (fun c_6 => ?_)
      · skip
        have ic_6 := ci_eq (rfl : Int32.toInt r_5 = _) (show Int32.toInt 0 = 0 by decide) c_6
        have hr9 := hr_5.2.2 c_6
        refine lv_bipush (v := (-2)) hx hb dX8_rule_48 (by decide) ?_
        exact W.iret (v := (-2)) hx hb hr (fun t ht hW => ⟨⟨(-2), (), rfl, (show (-2) = sp_rule p1 p2 p3 p4 p5 by unfold sp_rule; (repeat' split) <;> first | rfl | (exfalso; omega)), trivial⟩, hS.F ht⟩) hS.2.2 dX8_rule_50
      · skip
        have ic_6 := ci_ne (rfl : Int32.toInt r_5 = _) (show Int32.toInt 0 = 0 by decide) c_6
        have hr2 := hr_5.2.1 (hr_5.1.resolve_left c_6)
        refine lv_iload hx hb dX8_rule_27 (lv_at hl 4 rfl) ?_
        refine lv_iconst (v := 1) hx hb dX8_rule_29 (by decide) ?_
        refine lv_bipush (v := 10) hx hb dX8_rule_30 (by decide) ?_
        refine vp_callSi (va_Run.run (va_runS (As := [.int p4, .int 1, .int 10]) (rest := []) ⟨hx, hb, hml, hown, hts⟩ (kX8_in l dC dI cyI cyZ p4 1 10 1 10 (by decide) (by decide)) (va_cwS 3 hts gX8_rule_X8_in rfl rfl rfl (by decide +kernel) ⟨Nat.le_of_ble_eq_true rfl, Nat.le_of_ble_eq_true rfl⟩) (bs_RS hB (hP.sub (ws' := []) [] rfl)) rfl rfl hl.1 rfl (lv_room (Nat.le_of_ble_eq_true rfl)) dX8_rule_32 ⟨Nat.le_of_ble_eq_true rfl, Nat.le_of_ble_eq_true rfl⟩)) (fun r_7 hr_7 => ?_)
        refine lv_if_eq (tgt := 48) hx hb dX8_rule_35 (by decide) (fun c_8 => ?_) (fun c_8 => ?_)
        · skip
          have ic_8 := ci_eq (rfl : Int32.toInt r_7 = _) (show Int32.toInt 0 = 0 by decide) c_8
          have hr9 := hr_7.2.2 c_8
          refine lv_bipush (v := (-2)) hx hb dX8_rule_48 (by decide) ?_
          exact W.iret (v := (-2)) hx hb hr (fun t ht hW => ⟨⟨(-2), (), rfl, (show (-2) = sp_rule p1 p2 p3 p4 p5 by unfold sp_rule; (repeat' split) <;> first | rfl | (exfalso; omega)), trivial⟩, hS.F ht⟩) hS.2.2 dX8_rule_50
        · skip
          have ic_8 := ci_ne (rfl : Int32.toInt r_7 = _) (show Int32.toInt 0 = 0 by decide) c_8
          have hr3 := hr_7.2.1 (hr_7.1.resolve_left c_8)
          refine lv_iload hx hb dX8_rule_38 (lv_at hl 5 rfl) ?_
          refine lv_iconst (v := 0) hx hb dX8_rule_40 (by decide) ?_
          refine lv_iconst (v := 2) hx hb dX8_rule_41 (by decide) ?_
          refine vp_callSi (va_Run.run (va_runS (As := [.int p5, .int 0, .int 2]) (rest := []) ⟨hx, hb, hml, hown, hts⟩ (kX8_in l dC dI cyI cyZ p5 0 2 0 2 (by decide) (by decide)) (va_cwS 3 hts gX8_rule_X8_in rfl rfl rfl (by decide +kernel) ⟨Nat.le_of_ble_eq_true rfl, Nat.le_of_ble_eq_true rfl⟩) (bs_RS hB (hP.sub (ws' := []) [] rfl)) rfl rfl hl.1 rfl (lv_room (Nat.le_of_ble_eq_true rfl)) dX8_rule_42 ⟨Nat.le_of_ble_eq_true rfl, Nat.le_of_ble_eq_true rfl⟩)) (fun r_9 hr_9 => ?_)
          refine lv_if_ne (tgt := 51) hx hb dX8_rule_45 (by decide) (fun c_10 => ?_) (fun c_10 => ?_)
          · skip
            have ic_10 := ci_ne (rfl : Int32.toInt r_9 = _) (show Int32.toInt 0 = 0 by decide) c_10
            have hr4 := hr_9.2.1 (hr_9.1.resolve_left c_10)
            refine lv_aload_n hx hb dX8_rule_51 rfl (lv_at hl 0 rfl) ?_
            refine va_get (D := (dC, dI)) (ci := 6) (v := .ref st) (C := RX8) (T := TX8) (N := 14) hx hb hts hnX8_rule_X8 hown hK hP 0 rfl rfl 0 (by decide) (hts (.fieldLink RX8 7 "RingMeetsModel" "state" "[I") (by decide +kernel)) (fun _ h9 => h9) rfl dX8_rule_52 ?_
            refine lv_bipush (v := 11) hx hb dX8_rule_55 (by decide) ?_
            refine va_iald (D := (dC, dI)) hx hb hK hP 1 0 rfl rfl (show vp_in 11 72 from vp_in_nI (n := 11) (N := 72) (by decide) (by decide)) dX8_rule_57 ?_
            refine lv_topi (fun x_11 ex_11 => ?_)
            have ex_11 : x_11 = fs 11 := ex_11
            obtain rfl : 0 = x_11 := (ex_11.trans (hs _ (by omega))).symm
            refine lv_bipush (v := 10) hx hb dX8_rule_58 (by decide) ?_
            refine lv_icmp_ne (tgt := 66) hx hb dX8_rule_60 (by decide) (fun c_12 => ?_) (fun c_12 => ?_)
            · skip
              refine lv_bipush (v := 12) hx hb dX8_rule_66 (by decide) ?_
              refine lv_bipush (v := 6) hx hb dX8_rule_68 (by decide) ?_
              refine lv_aload_n hx hb dX8_rule_70 rfl (lv_at hl 0 rfl) ?_
              refine va_get (D := (dC, dI)) (ci := 6) (v := .ref st) (C := RX8) (T := TX8) (N := 14) hx hb hts hnX8_rule_X8 hown hK hP 0 rfl rfl 0 (by decide) (hts (.fieldLink RX8 7 "RingMeetsModel" "state" "[I") (by decide +kernel)) (fun _ h9 => h9) rfl dX8_rule_71 ?_
              refine lv_bipush (v := 11) hx hb dX8_rule_74 (by decide) ?_
              refine va_iald (D := (dC, dI)) hx hb hK hP 1 0 rfl rfl (show vp_in 11 72 from vp_in_nI (n := 11) (N := 72) (by decide) (by decide)) dX8_rule_76 ?_
              refine lv_topi (fun x_13 ex_13 => ?_)
              have ex_13 : x_13 = fs 11 := ex_13
              obtain rfl : 0 = x_13 := (ex_13.trans (hs _ (by omega))).symm
              refine lv_imul hx hb dX8_rule_77 ?_
              refine lv_topi (fun x_14 ex_14 => ?_)
              obtain rfl : 0 = x_14 := (ex_14.trans (by decide)).symm
              refine lv_iadd hx hb dX8_rule_78 ?_
              refine lv_topi (fun x_15 ex_15 => ?_)
              obtain rfl : 12 = x_15 := (ex_15.trans (by decide)).symm
              refine lv_istore (lv' := [(6, .int 12), (0, .ref h0), (1, .int p1), (2, .int p2), (3, .int p3), (4, .int p4), (5, .int p5)]) hx hb dX8_rule_79 hl (by decide) rfl (fun ls hl => ?_)
              refine lv_aload_n hx hb dX8_rule_81 rfl (lv_at hl 1 rfl) ?_
              refine va_get (D := (dC, dI)) (ci := 6) (v := .ref st) (C := RX8) (T := TX8) (N := 14) hx hb hts hnX8_rule_X8 hown hK hP 0 rfl rfl 0 (by decide) (hts (.fieldLink RX8 7 "RingMeetsModel" "state" "[I") (by decide +kernel)) (fun _ h9 => h9) rfl dX8_rule_82 ?_
              refine lv_iload hx hb dX8_rule_85 (lv_at hl 0 rfl) ?_
              refine lv_iload_n hx hb dX8_rule_87 rfl (lv_at hl 2 rfl) ?_
              refine va_iast (D := (dC, dI)) hx hb hK hP hD hS 1 0 rfl rfl (show vp_in 12 72 from vp_in_nI (n := 12) (N := 72) (by decide) (by decide)) dX8_rule_88 (fun H locs hP hD hS => ?_)
              obtain ⟨g_16, eg_16⟩ : ∃ y : Nat → Int32, y = upd fs (Int32.toNatClampNeg 12) p1 := ⟨_, rfl⟩
              have hP : va_P (dC, dI) vwCl [(h0, .inr (6, [.ref st, .ref im, .ref kp, .ref pw, .ref nx, .ref li, .int d6, .ref il, .ref mv, .ref so, .ref la, .int d11, .int d12, .ref co])), (st, .inl (cyI, 72, .inl g_16)), (pw, .inl (cyI, 11, .inl fp))] H := by rw [eg_16]; exact hP
              have hD : va_D A [(h0, .inr (6, [.ref st, .ref im, .ref kp, .ref pw, .ref nx, .ref li, .int d6, .ref il, .ref mv, .ref so, .ref la, .int d11, .int d12, .ref co])), (st, .inl (cyI, 72, .inl g_16)), (pw, .inl (cyI, 11, .inl fp))] := by rw [eg_16]; exact hD
              have eg_16 : g_16 = upd fs 12 p1 := eg_16
              refine lv_aload_n hx hb dX8_rule_89 rfl (lv_at hl 1 rfl) ?_
              refine va_get (D := (dC, dI)) (ci := 6) (v := .ref st) (C := RX8) (T := TX8) (N := 14) hx hb hts hnX8_rule_X8 hown hK hP 0 rfl rfl 0 (by decide) (hts (.fieldLink RX8 7 "RingMeetsModel" "state" "[I") (by decide +kernel)) (fun _ h9 => h9) rfl dX8_rule_90 ?_
              refine lv_iload hx hb dX8_rule_93 (lv_at hl 0 rfl) ?_
              refine lv_iconst (v := 1) hx hb dX8_rule_95 (by decide) ?_
              refine lv_iadd hx hb dX8_rule_96 ?_
              refine lv_topi (fun x_17 ex_17 => ?_)
              obtain rfl : 13 = x_17 := (ex_17.trans (by decide)).symm
              refine lv_iload_n hx hb dX8_rule_97 rfl (lv_at hl 3 rfl) ?_
              refine va_iast (D := (dC, dI)) hx hb hK hP hD hS 1 0 rfl rfl (show vp_in 13 72 from vp_in_nI (n := 13) (N := 72) (by decide) (by decide)) dX8_rule_98 (fun H locs hP hD hS => ?_)
              obtain ⟨g_18, eg_18⟩ : ∃ y : Nat → Int32, y = upd g_16 (Int32.toNatClampNeg 13) p2 := ⟨_, rfl⟩
              have hP : va_P (dC, dI) vwCl [(h0, .inr (6, [.ref st, .ref im, .ref kp, .ref pw, .ref nx, .ref li, .int d6, .ref il, .ref mv, .ref so, .ref la, .int d11, .int d12, .ref co])), (st, .inl (cyI, 72, .inl g_18)), (pw, .inl (cyI, 11, .inl fp))] H := by rw [eg_18]; exact hP
              have hD : va_D A [(h0, .inr (6, [.ref st, .ref im, .ref kp, .ref pw, .ref nx, .ref li, .int d6, .ref il, .ref mv, .ref so, .ref la, .int d11, .int d12, .ref co])), (st, .inl (cyI, 72, .inl g_18)), (pw, .inl (cyI, 11, .inl fp))] := by rw [eg_18]; exact hD
              have eg_18 : g_18 = upd g_16 13 p2 := eg_18
              refine lv_aload_n hx hb dX8_rule_99 rfl (lv_at hl 1 rfl) ?_
              refine va_get (D := (dC, dI)) (ci := 6) (v := .ref st) (C := RX8) (T := TX8) (N := 14) hx hb hts hnX8_rule_X8 hown hK hP 0 rfl rfl 0 (by decide) (hts (.fieldLink RX8 7 "RingMeetsModel" "state" "[I") (by decide +kernel)) (fun _ h9 => h9) rfl dX8_rule_100 ?_
              refine lv_iload hx hb dX8_rule_103 (lv_at hl 0 rfl) ?_
              refine lv_iconst (v := 2) hx hb dX8_rule_105 (by decide) ?_
              refine lv_iadd hx hb dX8_rule_106 ?_
              refine lv_topi (fun x_19 ex_19 => ?_)
              obtain rfl : 14 = x_19 := (ex_19.trans (by decide)).symm
              refine lv_iload_n hx hb dX8_rule_107 rfl (lv_at hl 4 rfl) ?_
              refine va_iast (D := (dC, dI)) hx hb hK hP hD hS 1 0 rfl rfl (show vp_in 14 72 from vp_in_nI (n := 14) (N := 72) (by decide) (by decide)) dX8_rule_108 (fun H locs hP hD hS => ?_)
              obtain ⟨g_20, eg_20⟩ : ∃ y : Nat → Int32, y = upd g_18 (Int32.toNatClampNeg 14) p3 := ⟨_, rfl⟩
              have hP : va_P (dC, dI) vwCl [(h0, .inr (6, [.ref st, .ref im, .ref kp, .ref pw, .ref nx, .ref li, .int d6, .ref il, .ref mv, .ref so, .ref la, .int d11, .int d12, .ref co])), (st, .inl (cyI, 72, .inl g_20)), (pw, .inl (cyI, 11, .inl fp))] H := by rw [eg_20]; exact hP
              have hD : va_D A [(h0, .inr (6, [.ref st, .ref im, .ref kp, .ref pw, .ref nx, .ref li, .int d6, .ref il, .ref mv, .ref so, .ref la, .int d11, .int d12, .ref co])), (st, .inl (cyI, 72, .inl g_20)), (pw, .inl (cyI, 11, .inl fp))] := by rw [eg_20]; exact hD
              have eg_20 : g_20 = upd g_18 14 p3 := eg_20
              refine lv_aload_n hx hb dX8_rule_109 rfl (lv_at hl 1 rfl) ?_
              refine va_get (D := (dC, dI)) (ci := 6) (v := .ref st) (C := RX8) (T := TX8) (N := 14) hx hb hts hnX8_rule_X8 hown hK hP 0 rfl rfl 0 (by decide) (hts (.fieldLink RX8 7 "RingMeetsModel" "state" "[I") (by decide +kernel)) (fun _ h9 => h9) rfl dX8_rule_110 ?_
              refine lv_iload hx hb dX8_rule_113 (lv_at hl 0 rfl) ?_
              refine lv_iconst (v := 3) hx hb dX8_rule_115 (by decide) ?_
              refine lv_iadd hx hb dX8_rule_116 ?_
              refine lv_topi (fun x_21 ex_21 => ?_)
              obtain rfl : 15 = x_21 := (ex_21.trans (by decide)).symm
              refine lv_iload hx hb dX8_rule_117 (lv_at hl 5 rfl) ?_
              refine va_iast (D := (dC, dI)) hx hb hK hP hD hS 1 0 rfl rfl (show vp_in 15 72 from vp_in_nI (n := 15) (N := 72) (by decide) (by decide)) dX8_rule_119 (fun H locs hP hD hS => ?_)
              obtain ⟨g_22, eg_22⟩ : ∃ y : Nat → Int32, y = upd g_20 (Int32.toNatClampNeg 15) p4 := ⟨_, rfl⟩
              have hP : va_P (dC, dI) vwCl [(h0, .inr (6, [.ref st, .ref im, .ref kp, .ref pw, .ref nx, .ref li, .int d6, .ref il, .ref mv, .ref so, .ref la, .int d11, .int d12, .ref co])), (st, .inl (cyI, 72, .inl g_22)), (pw, .inl (cyI, 11, .inl fp))] H := by rw [eg_22]; exact hP
              have hD : va_D A [(h0, .inr (6, [.ref st, .ref im, .ref kp, .ref pw, .ref nx, .ref li, .int d6, .ref il, .ref mv, .ref so, .ref la, .int d11, .int d12, .ref co])), (st, .inl (cyI, 72, .inl g_22)), (pw, .inl (cyI, 11, .inl fp))] := by rw [eg_22]; exact hD
              have eg_22 : g_22 = upd g_20 15 p4 := eg_22
              refine lv_aload_n hx hb dX8_rule_120 rfl (lv_at hl 1 rfl) ?_
              refine va_get (D := (dC, dI)) (ci := 6) (v := .ref st) (C := RX8) (T := TX8) (N := 14) hx hb hts hnX8_rule_X8 hown hK hP 0 rfl rfl 0 (by decide) (hts (.fieldLink RX8 7 "RingMeetsModel" "state" "[I") (by decide +kernel)) (fun _ h9 => h9) rfl dX8_rule_121 ?_
              refine lv_iload hx hb dX8_rule_124 (lv_at hl 0 rfl) ?_
              refine lv_iconst (v := 4) hx hb dX8_rule_126 (by decide) ?_
              refine lv_iadd hx hb dX8_rule_127 ?_
              refine lv_topi (fun x_23 ex_23 => ?_)
              obtain rfl : 16 = x_23 := (ex_23.trans (by decide)).symm
              refine lv_iload hx hb dX8_rule_128 (lv_at hl 6 rfl) ?_
              refine va_iast (D := (dC, dI)) hx hb hK hP hD hS 1 0 rfl rfl (show vp_in 16 72 from vp_in_nI (n := 16) (N := 72) (by decide) (by decide)) dX8_rule_130 (fun H locs hP hD hS => ?_)
              obtain ⟨g_24, eg_24⟩ : ∃ y : Nat → Int32, y = upd g_22 (Int32.toNatClampNeg 16) p5 := ⟨_, rfl⟩
              have hP : va_P (dC, dI) vwCl [(h0, .inr (6, [.ref st, .ref im, .ref kp, .ref pw, .ref nx, .ref li, .int d6, .ref il, .ref mv, .ref so, .ref la, .int d11, .int d12, .ref co])), (st, .inl (cyI, 72, .inl g_24)), (pw, .inl (cyI, 11, .inl fp))] H := by rw [eg_24]; exact hP
              have hD : va_D A [(h0, .inr (6, [.ref st, .ref im, .ref kp, .ref pw, .ref nx, .ref li, .int d6, .ref il, .ref mv, .ref so, .ref la, .int d11, .int d12, .ref co])), (st, .inl (cyI, 72, .inl g_24)), (pw, .inl (cyI, 11, .inl fp))] := by rw [eg_24]; exact hD
              have eg_24 : g_24 = upd g_22 16 p5 := eg_24
              refine lv_aload_n hx hb dX8_rule_131 rfl (lv_at hl 1 rfl) ?_
              refine va_get (D := (dC, dI)) (ci := 6) (v := .ref st) (C := RX8) (T := TX8) (N := 14) hx hb hts hnX8_rule_X8 hown hK hP 0 rfl rfl 0 (by decide) (hts (.fieldLink RX8 7 "RingMeetsModel" "state" "[I") (by decide +kernel)) (fun _ h9 => h9) rfl dX8_rule_132 ?_
              refine lv_iload hx hb dX8_rule_135 (lv_at hl 0 rfl) ?_
              refine lv_iconst (v := 5) hx hb dX8_rule_137 (by decide) ?_
              refine lv_iadd hx hb dX8_rule_138 ?_
              refine lv_topi (fun x_25 ex_25 => ?_)
              obtain rfl : 17 = x_25 := (ex_25.trans (by decide)).symm
              refine lv_iconst (v := 2) hx hb dX8_rule_139 (by decide) ?_
              refine va_iast (D := (dC, dI)) hx hb hK hP hD hS 1 0 rfl rfl (show vp_in 17 72 from vp_in_nI (n := 17) (N := 72) (by decide) (by decide)) dX8_rule_140 (fun H locs hP hD hS => ?_)
              obtain ⟨g_26, eg_26⟩ : ∃ y : Nat → Int32, y = upd g_24 (Int32.toNatClampNeg 17) 2 := ⟨_, rfl⟩
              have hP : va_P (dC, dI) vwCl [(h0, .inr (6, [.ref st, .ref im, .ref kp, .ref pw, .ref nx, .ref li, .int d6, .ref il, .ref mv, .ref so, .ref la, .int d11, .int d12, .ref co])), (st, .inl (cyI, 72, .inl g_26)), (pw, .inl (cyI, 11, .inl fp))] H := by rw [eg_26]; exact hP
              have hD : va_D A [(h0, .inr (6, [.ref st, .ref im, .ref kp, .ref pw, .ref nx, .ref li, .int d6, .ref il, .ref mv, .ref so, .ref la, .int d11, .int d12, .ref co])), (st, .inl (cyI, 72, .inl g_26)), (pw, .inl (cyI, 11, .inl fp))] := by rw [eg_26]; exact hD
              have eg_26 : g_26 = upd g_24 17 2 := eg_26
              refine lv_aload_n hx hb dX8_rule_141 rfl (lv_at hl 1 rfl) ?_
              refine va_get (D := (dC, dI)) (ci := 6) (v := .ref st) (C := RX8) (T := TX8) (N := 14) hx hb hts hnX8_rule_X8 hown hK hP 0 rfl rfl 0 (by decide) (hts (.fieldLink RX8 7 "RingMeetsModel" "state" "[I") (by decide +kernel)) (fun _ h9 => h9) rfl dX8_rule_142 ?_
              refine lv_bipush (v := 11) hx hb dX8_rule_145 (by decide) ?_
              refine lv_dup2_11 hx hb dX8_rule_147 rfl rfl ?_
              refine va_iald (D := (dC, dI)) hx hb hK hP 1 0 rfl rfl (show vp_in 11 72 from vp_in_nI (n := 11) (N := 72) (by decide) (by decide)) dX8_rule_148 ?_
              refine lv_topi (fun x_27 ex_27 => ?_)
              have ex_27 : x_27 = g_26 11 := ex_27
              obtain rfl : 0 = x_27 := (ex_27.trans (by rw [eg_26]; exact (by rw [eg_24]; exact (by rw [eg_22]; exact (by rw [eg_20]; exact (by rw [eg_18]; exact (by rw [eg_16]; exact (hs _ (by omega))))))))).symm
              refine lv_iconst (v := 1) hx hb dX8_rule_149 (by decide) ?_
              refine lv_iadd hx hb dX8_rule_150 ?_
              refine lv_topi (fun x_28 ex_28 => ?_)
              obtain rfl : 1 = x_28 := (ex_28.trans (by decide)).symm
              refine va_iast (D := (dC, dI)) hx hb hK hP hD hS 1 0 rfl rfl (show vp_in 11 72 from vp_in_nI (n := 11) (N := 72) (by decide) (by decide)) dX8_rule_151 (fun H locs hP hD hS => ?_)
              obtain ⟨g_29, eg_29⟩ : ∃ y : Nat → Int32, y = upd g_26 (Int32.toNatClampNeg 11) 1 := ⟨_, rfl⟩
              have hP : va_P (dC, dI) vwCl [(h0, .inr (6, [.ref st, .ref im, .ref kp, .ref pw, .ref nx, .ref li, .int d6, .ref il, .ref mv, .ref so, .ref la, .int d11, .int d12, .ref co])), (st, .inl (cyI, 72, .inl g_29)), (pw, .inl (cyI, 11, .inl fp))] H := by rw [eg_29]; exact hP
              have hD : va_D A [(h0, .inr (6, [.ref st, .ref im, .ref kp, .ref pw, .ref nx, .ref li, .int d6, .ref il, .ref mv, .ref so, .ref la, .int d11, .int d12, .ref co])), (st, .inl (cyI, 72, .inl g_29)), (pw, .inl (cyI, 11, .inl fp))] := by rw [eg_29]; exact hD
              have eg_29 : g_29 = upd g_26 11 1 := eg_29
              refine lv_aload_n hx hb dX8_rule_152 rfl (lv_at hl 1 rfl) ?_
              refine va_get (D := (dC, dI)) (ci := 6) (v := .ref st) (C := RX8) (T := TX8) (N := 14) hx hb hts hnX8_rule_X8 hown hK hP 0 rfl rfl 0 (by decide) (hts (.fieldLink RX8 7 "RingMeetsModel" "state" "[I") (by decide +kernel)) (fun _ h9 => h9) rfl dX8_rule_153 ?_
              refine lv_bipush (v := 11) hx hb dX8_rule_156 (by decide) ?_
              refine va_iald (D := (dC, dI)) hx hb hK hP 1 0 rfl rfl (show vp_in 11 72 from vp_in_nI (n := 11) (N := 72) (by decide) (by decide)) dX8_rule_158 ?_
              refine lv_topi (fun x_30 ex_30 => ?_)
              have ex_30 : x_30 = g_29 11 := ex_30
              obtain rfl : 1 = x_30 := (ex_30.trans (by rw [eg_29]; rfl)).symm
              refine lv_iconst (v := 1) hx hb dX8_rule_159 (by decide) ?_
              refine lv_isub hx hb dX8_rule_160 ?_
              refine lv_topi (fun x_31 ex_31 => ?_)
              obtain rfl : 0 = x_31 := (ex_31.trans (by decide)).symm
              exact W.iret (v := 0) hx hb hr (fun t ht hW => ⟨⟨0, (), rfl, (show 0 = sp_rule p1 p2 p3 p4 p5 by unfold sp_rule; (repeat' split) <;> first | rfl | (exfalso; omega)), trivial⟩, hS.F ht⟩) hS.2.2 dX8_rule_161
            · skip
              exact absurd c_12 (by decide)
          · skip
            have ic_10 := ci_eq (rfl : Int32.toInt r_9 = _) (show Int32.toInt 0 = 0 by decide) c_10
            have hr9 := hr_9.2.2 c_10
            refine lv_bipush (v := (-2)) hx hb dX8_rule_48 (by decide) ?_
            exact W.iret (v := (-2)) hx hb hr (fun t ht hW => ⟨⟨(-2), (), rfl, (show (-2) = sp_rule p1 p2 p3 p4 p5 by unfold sp_rule; (repeat' split) <;> first | rfl | (exfalso; omega)), trivial⟩, hS.F ht⟩) hS.2.2 dX8_rule_50

theorem hnX8_image_X8 : ∀ w ∈ wsX80, w ∈ wsX8_image := fun _ h => List.mem_cons_of_mem _ (List.mem_append_right _ h)
set_option maxHeartbeats 4000000 in
set_option maxRecDepth 100000 in
theorem kX8_image (l : Launch) (dC : Nat → ClassId) (dI : Nat → Nat → Nat) (cyI cyZ : ClassId) (h0 st im kp pw nx li il mv so la co : Nat) (d6 d11 d12 : Int32) (fs fi fk : Nat → Int32) (p1 : Int32) (sz : Nat) : Met l yX8_image wsX8_image ({ frames := 1, cells := 0, slots := 0, locals := 22 }) (bs_W dC dI cyI cyZ [.ref h0, .int p1] [(h0, .inr (6, [.ref st, .ref im, .ref kp, .ref pw, .ref nx, .ref li, .int d6, .ref il, .ref mv, .ref so, .ref la, .int d11, .int d12, .ref co])), (st, .inl (cyI, 72, .inl fs)), (im, .inl (cyI, 144, .inl fi)), (kp, .inl (cyZ, 2, .inl fk))] sz) (va_Qi (S := Unit) (fun (r : Int32) (_ : Unit) => r = sp_image p1) (fun _ _ => True) (va_A [(h0, .inr (6, [.ref st, .ref im, .ref kp, .ref pw, .ref nx, .ref li, .int d6, .ref il, .ref mv, .ref so, .ref la, .int d11, .int d12, .ref co])), (st, .inl (cyI, 72, .inl fs)), (im, .inl (cyI, 144, .inl fi)), (kp, .inl (cyZ, 2, .inl fk))] sz)) 0 0 (va_A [(h0, .inr (6, [.ref st, .ref im, .ref kp, .ref pw, .ref nx, .ref li, .int d6, .ref il, .ref mv, .ref so, .ref la, .int d11, .int d12, .ref co])), (st, .inl (cyI, 72, .inl fs)), (im, .inl (cyI, 144, .inl fi)), (kp, .inl (cyZ, 2, .inl fk))] sz) := by
  refine Met.ofW (cc := cX8_image) (maxL := 3) (ret := (some .int)) (by decide) rfl ?_
  intro p e s m args below meth c s₁ B hml hv
  obtain ⟨rfl, hsz, hB, hP, hD0⟩ := hv
  have hK := hB.1
  have hN := hB.2
  have hx := B.exec
  have hb := B.bytes
  have hr := B.returns
  have hts := atoms_spec (ws := wsX8_image) B.pre
  have hown : s.vm.findClass RX8 = some m.cls := findClass_of_methodNamed B.named
  have hlocks := B.notSynchronized
  subst hsz
  have hD := hD0.self (sz := s.heap.size)
  generalize hAe : va_A [(h0, .inr (6, [.ref st, .ref im, .ref kp, .ref pw, .ref nx, .ref li, .int d6, .ref il, .ref mv, .ref so, .ref la, .int d11, .int d12, .ref co])), (st, .inl (cyI, 72, .inl fs)), (im, .inl (cyI, 144, .inl fi)), (kp, .inl (cyZ, 2, .inl fk))] s.heap.size = A at hD ⊢
  have hA : ∀ q : Nat, s.heap.size ≤ q → A q := fun q h => by rw [← hAe]; exact Or.inr h
  have hS : va_S A s.heap s.heap [] := va_S.rf
  have hP : va_P (dC, dI) vwCl [(h0, .inr (6, [.ref st, .ref im, .ref kp, .ref pw, .ref nx, .ref li, .int d6, .ref il, .ref mv, .ref so, .ref la, .int d11, .int d12, .ref co])), (st, .inl (cyI, 72, .inl fs)), (im, .inl (cyI, 144, .inl fi)), (kp, .inl (cyZ, 2, .inl fk))] s.heap := hP
  have hl := lv_entry ([.ref h0, .int p1]) (n := 3) (Nat.le_of_ble_eq_true rfl)
  rw [lg_entry_eq]
  generalize (lg_sl ([.ref h0, .int p1]) ++ List.replicate (3 - (lg_sl ([.ref h0, .int p1])).length) Slot.unset).toArray = ls at hl ⊢
  have hl : lv_has ls 3 [(0, .ref h0), (1, .int p1)] := hl
  refine lv_iload_n hx hb dX8_image_0 rfl (lv_at hl 1 rfl) ?_
  refine lv_iconst (v := 0) hx hb dX8_image_1 (by decide) ?_
  refine lv_iconst (v := 1) hx hb dX8_image_2 (by decide) ?_
  refine vp_callSi (va_Run.run (va_runS (As := [.int p1, .int 0, .int 1]) (rest := []) ⟨hx, hb, hml, hown, hts⟩ (kX8_in l dC dI cyI cyZ p1 0 1 0 1 (by decide) (by decide)) (va_cwS 3 hts gX8_image_X8_in rfl rfl rfl (by decide +kernel) ⟨Nat.le_of_ble_eq_true rfl, Nat.le_of_ble_eq_true rfl⟩) (bs_RS hB (hP.sub (ws' := []) [] rfl)) rfl rfl hl.1 rfl (lv_room (Nat.le_of_ble_eq_true rfl)) dX8_image_3 ⟨Nat.le_of_ble_eq_true rfl, Nat.le_of_ble_eq_true rfl⟩)) (fun r_1 hr_1 => ?_)
  refine lv_if_ne (tgt := 12) hx hb dX8_image_6 (by decide) (fun c_2 => ?_) (fun c_2 => ?_)
  · skip
    have ic_2 := ci_ne (rfl : Int32.toInt r_1 = _) (show Int32.toInt 0 = 0 by decide) c_2
    have hs9 := hr_1.2.1 (hr_1.1.resolve_left c_2)
    rcases nb_01 (x := p1) (by omega) (by omega) with e9 | e9
    · skip
      subst e9
      refine lv_iconst (v := 0) hx hb dX8_image_12 (by decide) ?_
      refine lv_istore_n (lv' := [(2, .int 0), (0, .ref h0), (1, .int 0)]) hx hb dX8_image_13 rfl hl (by decide) rfl (fun ls hl => ?_)
      have L14 : ∀ (n14 : Nat), ∀ (k : Nat) (fi : Nat → Int32), (0 ≤ k ∧ k ≤ 72) → (73 ≤ k + n14) → ∀ (H : Heap) (locs : List Loc), va_P (dC, dI) vwCl [(h0, .inr (6, [.ref st, .ref im, .ref kp, .ref pw, .ref nx, .ref li, .int d6, .ref il, .ref mv, .ref so, .ref la, .int d11, .int d12, .ref co])), (st, .inl (cyI, 72, .inl fs)), (im, .inl (cyI, 144, .inl fi)), (kp, .inl (cyZ, 2, .inl fk))] H → va_D A [(h0, .inr (6, [.ref st, .ref im, .ref kp, .ref pw, .ref nx, .ref li, .int d6, .ref il, .ref mv, .ref so, .ref la, .int d11, .int d12, .ref co])), (st, .inl (cyI, 72, .inl fs)), (im, .inl (cyI, 144, .inl fi)), (kp, .inl (cyZ, 2, .inl fk))] → va_S A s.heap H locs → ∀ (ls : Array Slot), lv_has ls 3 [(0, .ref h0), (1, .int 0), (2, .int (nI k))] → W p l e (headSpec wsX8_image ({ frames := 1, cells := 0, slots := 0, locals := 22 })).room s m ([.ref h0, .int 0] : List Value).toArray below meth c H locs 0 0 (MQ below (va_Qi (S := Unit) (fun (r : Int32) (_ : Unit) => r = sp_image 0) (fun _ _ => True) A) ([.ref h0, .int 0] : List Value).toArray s 0 0 A) (F0 m 14 ls []) := by
        intro n14
        induction n14 with
        | zero =>
          intro k fi hk14 hn14 H locs hP hD hS ls hl
          exfalso
          omega
        | succ n14 ih14 =>
          intro k fi hk14 hn14 H locs hP hD hS ls hl
          refine lv_iload_n hx hb dX8_image_14 rfl (lv_at hl 2 rfl) ?_
          refine lv_bipush (v := 72) hx hb dX8_image_15 (by decide) ?_
          refine lv_icmp_ge (tgt := 43) hx hb dX8_image_17 (by decide) (fun c_3 => ?_) (fun c_3 => ?_)
          · skip
            have ic_3 := ci_le (show Int32.toInt 72 = 72 by decide) (nI_toInt (n := k) (by omega)) c_3
            refine lv_aload_n hx hb dX8_image_43 rfl (lv_at hl 0 rfl) ?_
            refine va_get (D := (dC, dI)) (ci := 6) (v := .ref kp) (C := RX8) (T := TX8) (N := 14) hx hb hts hnX8_image_X8 hown hK hP 0 rfl rfl 2 (by decide) (hts (.fieldLink RX8 16 "RingMeetsModel" "isKept" "[Z") (by decide +kernel)) (fun _ h9 => h9) rfl dX8_image_44 ?_
            refine lv_iload_n hx hb dX8_image_47 rfl (lv_at hl 1 rfl) ?_
            refine lv_iconst (v := 1) hx hb dX8_image_48 (by decide) ?_
            refine va_zast (D := (dC, dI)) hx hb hK hP hD hS 3 1 rfl rfl (show vp_in 0 2 from vp_in_nI (n := 0) (N := 2) (by decide) (by decide)) dX8_image_49 (fun H locs hP hD hS => ?_)
            obtain ⟨g_4, eg_4⟩ : ∃ y : Nat → Int32, y = upd fk (Int32.toNatClampNeg 0) (vp_nar .boolean 1) := ⟨_, rfl⟩
            have hP : va_P (dC, dI) vwCl [(h0, .inr (6, [.ref st, .ref im, .ref kp, .ref pw, .ref nx, .ref li, .int d6, .ref il, .ref mv, .ref so, .ref la, .int d11, .int d12, .ref co])), (st, .inl (cyI, 72, .inl fs)), (im, .inl (cyI, 144, .inl fi)), (kp, .inl (cyZ, 2, .inl g_4))] H := by rw [eg_4]; exact hP
            have hD : va_D A [(h0, .inr (6, [.ref st, .ref im, .ref kp, .ref pw, .ref nx, .ref li, .int d6, .ref il, .ref mv, .ref so, .ref la, .int d11, .int d12, .ref co])), (st, .inl (cyI, 72, .inl fs)), (im, .inl (cyI, 144, .inl fi)), (kp, .inl (cyZ, 2, .inl g_4))] := by rw [eg_4]; exact hD
            have eg_4 : g_4 = upd fk 0 (vp_nar .boolean 1) := eg_4
            have eg_4 : g_4 = upd fk 0 1 := eg_4
            refine lv_iconst (v := 1) hx hb dX8_image_50 (by decide) ?_
            exact W.iret (v := 1) hx hb hr (fun t ht hW => ⟨⟨1, (), rfl, (show 1 = sp_image _ by unfold sp_image; (repeat' split) <;> first | rfl | (exfalso; omega) | (rename_i h8; exact absurd h8 (by decide))), trivial⟩, hS.F ht⟩) hS.2.2 dX8_image_51
          · skip
            have ic_3 := ci_nle (show Int32.toInt 72 = 72 by decide) (nI_toInt (n := k) (by omega)) c_3
            refine lv_aload_n hx hb dX8_image_20 rfl (lv_at hl 0 rfl) ?_
            refine va_get (D := (dC, dI)) (ci := 6) (v := .ref im) (C := RX8) (T := TX8) (N := 14) hx hb hts hnX8_image_X8 hown hK hP 0 rfl rfl 1 (by decide) (hts (.fieldLink RX8 13 "RingMeetsModel" "images" "[I") (by decide +kernel)) (fun _ h9 => h9) rfl dX8_image_21 ?_
            refine lv_bipush (v := 72) hx hb dX8_image_24 (by decide) ?_
            refine lv_iload_n hx hb dX8_image_26 rfl (lv_at hl 1 rfl) ?_
            refine lv_imul hx hb dX8_image_27 ?_
            refine lv_topi (fun x_5 ex_5 => ?_)
            obtain rfl : 0 = x_5 := (ex_5.trans (by decide)).symm
            refine lv_iload_n hx hb dX8_image_28 rfl (lv_at hl 2 rfl) ?_
            refine lv_iadd hx hb dX8_image_29 ?_
            refine lv_topi (fun x_6 ex_6 => ?_)
            obtain rfl : (nI k) = x_6 := (ex_6.trans (Int32.zero_add _)).symm
            refine lv_aload_n hx hb dX8_image_30 rfl (lv_at hl 0 rfl) ?_
            refine va_get (D := (dC, dI)) (ci := 6) (v := .ref st) (C := RX8) (T := TX8) (N := 14) hx hb hts hnX8_image_X8 hown hK hP 0 rfl rfl 0 (by decide) (hts (.fieldLink RX8 7 "RingMeetsModel" "state" "[I") (by decide +kernel)) (fun _ h9 => h9) rfl dX8_image_31 ?_
            refine lv_iload_n hx hb dX8_image_34 rfl (lv_at hl 2 rfl) ?_
            refine va_iald (D := (dC, dI)) hx hb hK hP 1 0 rfl rfl (vp_in_nI (n := k) (N := 72) (by omega) (by omega)) dX8_image_35 ?_
            refine lv_topi (fun x_7 ex_7 => ?_)
            rw [nI_clamp (n := k) (by omega)] at ex_7
            refine va_iast (D := (dC, dI)) hx hb hK hP hD hS 2 0 rfl rfl (vp_in_nI (n := k) (N := 144) (by omega) (by omega)) dX8_image_36 (fun H locs hP hD hS => ?_)
            obtain ⟨g_8, eg_8⟩ : ∃ y : Nat → Int32, y = upd fi (Int32.toNatClampNeg (nI k)) x_7 := ⟨_, rfl⟩
            have hP : va_P (dC, dI) vwCl [(h0, .inr (6, [.ref st, .ref im, .ref kp, .ref pw, .ref nx, .ref li, .int d6, .ref il, .ref mv, .ref so, .ref la, .int d11, .int d12, .ref co])), (st, .inl (cyI, 72, .inl fs)), (im, .inl (cyI, 144, .inl g_8)), (kp, .inl (cyZ, 2, .inl fk))] H := by rw [eg_8]; exact hP
            have hD : va_D A [(h0, .inr (6, [.ref st, .ref im, .ref kp, .ref pw, .ref nx, .ref li, .int d6, .ref il, .ref mv, .ref so, .ref la, .int d11, .int d12, .ref co])), (st, .inl (cyI, 72, .inl fs)), (im, .inl (cyI, 144, .inl g_8)), (kp, .inl (cyZ, 2, .inl fk))] := by rw [eg_8]; exact hD
            rw [nI_clamp (n := k) (by omega)] at eg_8
            refine lv_iinc (v := (nI (k + 1))) (lv' := [(2, .int (nI (k + 1))), (0, .ref h0), (1, .int 0)]) hx hb dX8_image_37 hl (k := 2) rfl (nI_1 _) (by decide) rfl (fun ls hl => ?_)
            refine lv_goto (tgt := 14) hx hb dX8_image_40 (by decide) ?_
            exact ih14 (k + 1) g_8 ⟨by omega, by omega⟩ (by omega)  _ _ (hP.sub [0, 1, 2, 3] rfl) (hD.sub [0, 1, 2, 3] (by decide) rfl) hS _ (lv_sub hl [1, 2, 0] rfl)
      exact L14 73 0 fi ⟨by omega, by omega⟩ (by omega)  _ _ (hP.sub [0, 1, 2, 3] rfl) (hD.sub [0, 1, 2, 3] (by decide) rfl) hS _ (lv_sub hl [1, 2, 0] rfl)
    · skip
      subst e9
      refine lv_iconst (v := 0) hx hb dX8_image_12 (by decide) ?_
      refine lv_istore_n (lv' := [(2, .int 0), (0, .ref h0), (1, .int 1)]) hx hb dX8_image_13 rfl hl (by decide) rfl (fun ls hl => ?_)
      have L14 : ∀ (n14 : Nat), ∀ (k : Nat) (fi : Nat → Int32), (0 ≤ k ∧ k ≤ 72) → (73 ≤ k + n14) → ∀ (H : Heap) (locs : List Loc), va_P (dC, dI) vwCl [(h0, .inr (6, [.ref st, .ref im, .ref kp, .ref pw, .ref nx, .ref li, .int d6, .ref il, .ref mv, .ref so, .ref la, .int d11, .int d12, .ref co])), (st, .inl (cyI, 72, .inl fs)), (im, .inl (cyI, 144, .inl fi)), (kp, .inl (cyZ, 2, .inl fk))] H → va_D A [(h0, .inr (6, [.ref st, .ref im, .ref kp, .ref pw, .ref nx, .ref li, .int d6, .ref il, .ref mv, .ref so, .ref la, .int d11, .int d12, .ref co])), (st, .inl (cyI, 72, .inl fs)), (im, .inl (cyI, 144, .inl fi)), (kp, .inl (cyZ, 2, .inl fk))] → va_S A s.heap H locs → ∀ (ls : Array Slot), lv_has ls 3 [(0, .ref h0), (1, .int 1), (2, .int (nI k))] → W p l e (headSpec wsX8_image ({ frames := 1, cells := 0, slots := 0, locals := 22 })).room s m ([.ref h0, .int 1] : List Value).toArray below meth c H locs 0 0 (MQ below (va_Qi (S := Unit) (fun (r : Int32) (_ : Unit) => r = sp_image 1) (fun _ _ => True) A) ([.ref h0, .int 1] : List Value).toArray s 0 0 A) (F0 m 14 ls []) := by
        intro n14
        induction n14 with
        | zero =>
          intro k fi hk14 hn14 H locs hP hD hS ls hl
          exfalso
          omega
        | succ n14 ih14 =>
          intro k fi hk14 hn14 H locs hP hD hS ls hl
          refine lv_iload_n hx hb dX8_image_14 rfl (lv_at hl 2 rfl) ?_
          refine lv_bipush (v := 72) hx hb dX8_image_15 (by decide) ?_
          refine lv_icmp_ge (tgt := 43) hx hb dX8_image_17 (by decide) (fun c_9 => ?_) (fun c_9 => ?_)
          · skip
            have ic_9 := ci_le (show Int32.toInt 72 = 72 by decide) (nI_toInt (n := k) (by omega)) c_9
            refine lv_aload_n hx hb dX8_image_43 rfl (lv_at hl 0 rfl) ?_
            refine va_get (D := (dC, dI)) (ci := 6) (v := .ref kp) (C := RX8) (T := TX8) (N := 14) hx hb hts hnX8_image_X8 hown hK hP 0 rfl rfl 2 (by decide) (hts (.fieldLink RX8 16 "RingMeetsModel" "isKept" "[Z") (by decide +kernel)) (fun _ h9 => h9) rfl dX8_image_44 ?_
            refine lv_iload_n hx hb dX8_image_47 rfl (lv_at hl 1 rfl) ?_
            refine lv_iconst (v := 1) hx hb dX8_image_48 (by decide) ?_
            refine va_zast (D := (dC, dI)) hx hb hK hP hD hS 3 1 rfl rfl (show vp_in 1 2 from vp_in_nI (n := 1) (N := 2) (by decide) (by decide)) dX8_image_49 (fun H locs hP hD hS => ?_)
            obtain ⟨g_10, eg_10⟩ : ∃ y : Nat → Int32, y = upd fk (Int32.toNatClampNeg 1) (vp_nar .boolean 1) := ⟨_, rfl⟩
            have hP : va_P (dC, dI) vwCl [(h0, .inr (6, [.ref st, .ref im, .ref kp, .ref pw, .ref nx, .ref li, .int d6, .ref il, .ref mv, .ref so, .ref la, .int d11, .int d12, .ref co])), (st, .inl (cyI, 72, .inl fs)), (im, .inl (cyI, 144, .inl fi)), (kp, .inl (cyZ, 2, .inl g_10))] H := by rw [eg_10]; exact hP
            have hD : va_D A [(h0, .inr (6, [.ref st, .ref im, .ref kp, .ref pw, .ref nx, .ref li, .int d6, .ref il, .ref mv, .ref so, .ref la, .int d11, .int d12, .ref co])), (st, .inl (cyI, 72, .inl fs)), (im, .inl (cyI, 144, .inl fi)), (kp, .inl (cyZ, 2, .inl g_10))] := by rw [eg_10]; exact hD
            have eg_10 : g_10 = upd fk 1 (vp_nar .boolean 1) := eg_10
            have eg_10 : g_10 = upd fk 1 1 := eg_10
            refine lv_iconst (v := 1) hx hb dX8_image_50 (by decide) ?_
            exact W.iret (v := 1) hx hb hr (fun t ht hW => ⟨⟨1, (), rfl, (show 1 = sp_image _ by unfold sp_image; (repeat' split) <;> first | rfl | (exfalso; omega) | (rename_i h8; exact absurd h8 (by decide))), trivial⟩, hS.F ht⟩) hS.2.2 dX8_image_51
          · skip
            have ic_9 := ci_nle (show Int32.toInt 72 = 72 by decide) (nI_toInt (n := k) (by omega)) c_9
            refine lv_aload_n hx hb dX8_image_20 rfl (lv_at hl 0 rfl) ?_
            refine va_get (D := (dC, dI)) (ci := 6) (v := .ref im) (C := RX8) (T := TX8) (N := 14) hx hb hts hnX8_image_X8 hown hK hP 0 rfl rfl 1 (by decide) (hts (.fieldLink RX8 13 "RingMeetsModel" "images" "[I") (by decide +kernel)) (fun _ h9 => h9) rfl dX8_image_21 ?_
            refine lv_bipush (v := 72) hx hb dX8_image_24 (by decide) ?_
            refine lv_iload_n hx hb dX8_image_26 rfl (lv_at hl 1 rfl) ?_
            refine lv_imul hx hb dX8_image_27 ?_
            refine lv_topi (fun x_11 ex_11 => ?_)
            obtain rfl : 72 = x_11 := (ex_11.trans (by decide)).symm
            refine lv_iload_n hx hb dX8_image_28 rfl (lv_at hl 2 rfl) ?_
            refine lv_iadd hx hb dX8_image_29 ?_
            refine lv_topi (fun x_12 ex_12 => ?_)
            obtain rfl : (nI (72 + k)) = x_12 := (ex_12.trans (nI_add 72 _)).symm
            refine lv_aload_n hx hb dX8_image_30 rfl (lv_at hl 0 rfl) ?_
            refine va_get (D := (dC, dI)) (ci := 6) (v := .ref st) (C := RX8) (T := TX8) (N := 14) hx hb hts hnX8_image_X8 hown hK hP 0 rfl rfl 0 (by decide) (hts (.fieldLink RX8 7 "RingMeetsModel" "state" "[I") (by decide +kernel)) (fun _ h9 => h9) rfl dX8_image_31 ?_
            refine lv_iload_n hx hb dX8_image_34 rfl (lv_at hl 2 rfl) ?_
            refine va_iald (D := (dC, dI)) hx hb hK hP 1 0 rfl rfl (vp_in_nI (n := k) (N := 72) (by omega) (by omega)) dX8_image_35 ?_
            refine lv_topi (fun x_13 ex_13 => ?_)
            rw [nI_clamp (n := k) (by omega)] at ex_13
            refine va_iast (D := (dC, dI)) hx hb hK hP hD hS 2 0 rfl rfl (vp_in_nI (n := (72 + k)) (N := 144) (by omega) (by omega)) dX8_image_36 (fun H locs hP hD hS => ?_)
            obtain ⟨g_14, eg_14⟩ : ∃ y : Nat → Int32, y = upd fi (Int32.toNatClampNeg (nI (72 + k))) x_13 := ⟨_, rfl⟩
            have hP : va_P (dC, dI) vwCl [(h0, .inr (6, [.ref st, .ref im, .ref kp, .ref pw, .ref nx, .ref li, .int d6, .ref il, .ref mv, .ref so, .ref la, .int d11, .int d12, .ref co])), (st, .inl (cyI, 72, .inl fs)), (im, .inl (cyI, 144, .inl g_14)), (kp, .inl (cyZ, 2, .inl fk))] H := by rw [eg_14]; exact hP
            have hD : va_D A [(h0, .inr (6, [.ref st, .ref im, .ref kp, .ref pw, .ref nx, .ref li, .int d6, .ref il, .ref mv, .ref so, .ref la, .int d11, .int d12, .ref co])), (st, .inl (cyI, 72, .inl fs)), (im, .inl (cyI, 144, .inl g_14)), (kp, .inl (cyZ, 2, .inl fk))] := by rw [eg_14]; exact hD
            rw [nI_clamp (n := (72 + k)) (by omega)] at eg_14
            refine lv_iinc (v := (nI (k + 1))) (lv' := [(2, .int (nI (k + 1))), (0, .ref h0), (1, .int 1)]) hx hb dX8_image_37 hl (k := 2) rfl (nI_1 _) (by decide) rfl (fun ls hl => ?_)
            refine lv_goto (tgt := 14) hx hb dX8_image_40 (by decide) ?_
            exact ih14 (k + 1) g_14 ⟨by omega, by omega⟩ (by omega)  _ _ (hP.sub [0, 1, 2, 3] rfl) (hD.sub [0, 1, 2, 3] (by decide) rfl) hS _ (lv_sub hl [1, 2, 0] rfl)
      exact L14 73 0 fi ⟨by omega, by omega⟩ (by omega)  _ _ (hP.sub [0, 1, 2, 3] rfl) (hD.sub [0, 1, 2, 3] (by decide) rfl) hS _ (lv_sub hl [1, 2, 0] rfl)
  · skip
    have ic_2 := ci_eq (rfl : Int32.toInt r_1 = _) (show Int32.toInt 0 = 0 by decide) c_2
    have hs9 := hr_1.2.2 c_2
    refine lv_bipush (v := (-2)) hx hb dX8_image_9 (by decide) ?_
    exact W.iret (v := (-2)) hx hb hr (fun t ht hW => ⟨⟨(-2), (), rfl, (show (-2) = sp_image _ by unfold sp_image; (repeat' split) <;> first | rfl | (exfalso; omega) | (rename_i h8; exact absurd h8 (by decide))), trivial⟩, hS.F ht⟩) hS.2.2 dX8_image_11

theorem hnX8_step_X8 : ∀ w ∈ wsX80, w ∈ wsX8_step := fun _ h => List.mem_cons_of_mem _ (List.mem_append_right _ h)
set_option maxHeartbeats 4000000 in
set_option maxRecDepth 100000 in
theorem kX8_step (l : Launch) (dC : Nat → ClassId) (dI : Nat → Nat → Nat) (cyI cyZ : ClassId) (h0 st im kp pw nx li il mv so la co : Nat) (d6 d11 d12 : Int32) (fs : Nat → Int32) (h8 : fs 0 = 8) (hs : ∀ j, 1 ≤ j → fs j = 0) (fp : Nat → Int32) (hp : ∀ j, j ≤ 10 → fp j = nI (3 ^ j)) (z : Nat → Int32) (hz : ∀ j, z j = 0) (p1 : Int32) (sz : Nat) : Met l yX8_step wsX8_step ({ frames := 2, cells := 0, slots := 0, locals := 43 }) (bs_W dC dI cyI cyZ [.ref h0, .int p1] [(h0, .inr (6, [.ref st, .ref im, .ref kp, .ref pw, .ref nx, .ref li, .int d6, .ref il, .ref mv, .ref so, .ref la, .int d11, .int d12, .ref co])), (st, .inl (cyI, 72, .inl fs)), (pw, .inl (cyI, 11, .inl fp)), (nx, .inl (cyI, 10, .inl z))] sz) (va_Qi (S := Unit) (fun (r : Int32) (_ : Unit) => r = sp_step p1) (fun _ _ => True) (va_A [(h0, .inr (6, [.ref st, .ref im, .ref kp, .ref pw, .ref nx, .ref li, .int d6, .ref il, .ref mv, .ref so, .ref la, .int d11, .int d12, .ref co])), (st, .inl (cyI, 72, .inl fs)), (pw, .inl (cyI, 11, .inl fp)), (nx, .inl (cyI, 10, .inl z))] sz)) 0 0 (va_A [(h0, .inr (6, [.ref st, .ref im, .ref kp, .ref pw, .ref nx, .ref li, .int d6, .ref il, .ref mv, .ref so, .ref la, .int d11, .int d12, .ref co])), (st, .inl (cyI, 72, .inl fs)), (pw, .inl (cyI, 11, .inl fp)), (nx, .inl (cyI, 10, .inl z))] sz) := by
  refine Met.ofW (cc := cX8_step) (maxL := 5) (ret := (some .int)) (by decide) rfl ?_
  intro p e s m args below meth c s₁ B hml hv
  obtain ⟨rfl, hsz, hB, hP, hD0⟩ := hv
  have hK := hB.1
  have hN := hB.2
  have hx := B.exec
  have hb := B.bytes
  have hr := B.returns
  have hts := atoms_spec (ws := wsX8_step) B.pre
  have hown : s.vm.findClass RX8 = some m.cls := findClass_of_methodNamed B.named
  have hlocks := B.notSynchronized
  subst hsz
  have hD := hD0.self (sz := s.heap.size)
  generalize hAe : va_A [(h0, .inr (6, [.ref st, .ref im, .ref kp, .ref pw, .ref nx, .ref li, .int d6, .ref il, .ref mv, .ref so, .ref la, .int d11, .int d12, .ref co])), (st, .inl (cyI, 72, .inl fs)), (pw, .inl (cyI, 11, .inl fp)), (nx, .inl (cyI, 10, .inl z))] s.heap.size = A at hD ⊢
  have hA : ∀ q : Nat, s.heap.size ≤ q → A q := fun q h => by rw [← hAe]; exact Or.inr h
  have hS : va_S A s.heap s.heap [] := va_S.rf
  have hP : va_P (dC, dI) vwCl [(h0, .inr (6, [.ref st, .ref im, .ref kp, .ref pw, .ref nx, .ref li, .int d6, .ref il, .ref mv, .ref so, .ref la, .int d11, .int d12, .ref co])), (st, .inl (cyI, 72, .inl fs)), (pw, .inl (cyI, 11, .inl fp)), (nx, .inl (cyI, 10, .inl z))] s.heap := hP
  have hl := lv_entry ([.ref h0, .int p1]) (n := 5) (Nat.le_of_ble_eq_true rfl)
  rw [lg_entry_eq]
  generalize (lg_sl ([.ref h0, .int p1]) ++ List.replicate (5 - (lg_sl ([.ref h0, .int p1])).length) Slot.unset).toArray = ls at hl ⊢
  have hl : lv_has ls 5 [(0, .ref h0), (1, .int p1)] := hl
  refine lv_aload_n hx hb dX8_step_0 rfl (lv_at hl 0 rfl) ?_
  refine lv_aload_n hx hb dX8_step_1 rfl (lv_at hl 0 rfl) ?_
  refine vp_callSi (va_Run.run (va_runV (As := []) (rest := [.ref h0]) ⟨hx, hb, hml, hown, hts⟩ (kX8_now l dC dI cyI cyZ h0 st im kp pw nx li il mv so la co d6 d11 d12 fs h8 hs fp hp) (cwV 0 hts gX8_step_X8_now rfl rfl rfl (by decide +kernel) ⟨Nat.le_of_ble_eq_true rfl, Nat.le_of_ble_eq_true rfl⟩) (bs_RV hB (hP.sub (ws' := [(h0, .inr (6, [.ref st, .ref im, .ref kp, .ref pw, .ref nx, .ref li, .int d6, .ref il, .ref mv, .ref so, .ref la, .int d11, .int d12, .ref co])), (st, .inl (cyI, 72, .inl fs)), (pw, .inl (cyI, 11, .inl fp))]) [0, 1, 2] rfl) 0 rfl rfl) rfl rfl hl.1 rfl (lv_room (Nat.le_of_ble_eq_true rfl)) dX8_step_2 ⟨Nat.le_of_ble_eq_true rfl, Nat.le_of_ble_eq_true rfl⟩)) (fun r_1 hr_1 => ?_)
  obtain rfl : r_1 = 0 := hr_1
  refine vp_callSi (va_Run.run (va_runV (As := [.int 0]) (rest := []) ⟨hx, hb, hml, hown, hts⟩ (kX8_standsOf l dC dI cyI cyZ h0 st im kp pw nx li il mv so la co d6 d11 d12 fs h8 fp hp 0) (cwV 1 hts gX8_step_X8_standsOf rfl rfl rfl (by decide +kernel) ⟨Nat.le_of_ble_eq_true rfl, Nat.le_of_ble_eq_true rfl⟩) (bs_RV hB (hP.sub (ws' := [(h0, .inr (6, [.ref st, .ref im, .ref kp, .ref pw, .ref nx, .ref li, .int d6, .ref il, .ref mv, .ref so, .ref la, .int d11, .int d12, .ref co])), (st, .inl (cyI, 72, .inl fs)), (pw, .inl (cyI, 11, .inl fp))]) [0, 1, 2] rfl) 0 rfl rfl) rfl rfl hl.1 rfl (lv_room (Nat.le_of_ble_eq_true rfl)) dX8_step_5 ⟨Nat.le_of_ble_eq_true rfl, Nat.le_of_ble_eq_true rfl⟩)) (fun r_2 hr_2 => ?_)
  obtain rfl : r_2 = 0 := hr_2.trans (by decide)
  refine lv_istore_n (lv' := [(2, .int 0), (0, .ref h0), (1, .int p1)]) hx hb dX8_step_8 rfl hl (by decide) rfl (fun ls hl => ?_)
  refine lv_iload_n hx hb dX8_step_9 rfl (lv_at hl 2 rfl) ?_
  refine lv_if_lt (tgt := 21) hx hb dX8_step_10 (by decide) (fun c_3 => ?_) (fun c_3 => ?_)
  · skip
    have ic_3 := ci_lt (rfl : Int32.toInt p1 = _) (show Int32.toInt 0 = 0 by decide) c_3
    refine lv_bipush (v := (-2)) hx hb dX8_step_21 (by decide) ?_
    exact W.iret (v := (-2)) hx hb hr (fun t ht hW => ⟨⟨(-2), (), rfl, (show (-2 : Int32) = sp_step p1 by unfold sp_step; rw [if_neg (fun q => absurd c_3 (by rw [q]; decide))]), trivial⟩, hS.F ht⟩) hS.2.2 dX8_step_23
  · skip
    have ic_3 := ci_nlt (rfl : Int32.toInt p1 = _) (show Int32.toInt 0 = 0 by decide) c_3
    refine lv_iload_n hx hb dX8_step_13 rfl (lv_at hl 2 rfl) ?_
    refine lv_iload_n hx hb dX8_step_14 rfl (lv_at hl 0 rfl) ?_
    refine lv_iconst (v := (-1)) hx hb dX8_step_15 (by decide) ?_
    refine lv_ixor hx hb dX8_step_16 ?_
    refine lv_topi (fun x_4 ex_4 => ?_)
    obtain rfl : (-1) = x_4 := (ex_4.trans (by decide)).symm
    refine lv_iand hx hb dX8_step_17 ?_
    refine lv_topi (fun x_5 ex_5 => ?_)
    obtain rfl : p1 = x_5 := (ex_5.trans (nb_andm1 _)).symm
    refine lv_if_eq (tgt := 24) hx hb dX8_step_18 (by decide) (fun c_6 => ?_) (fun c_6 => ?_)
    · skip
      have ic_6 := ci_eq (rfl : Int32.toInt p1 = _) (show Int32.toInt 0 = 0 by decide) c_6
      subst c_6
      refine lv_iconst (v := 0) hx hb dX8_step_24 (by decide) ?_
      refine lv_istore_n (lv' := [(3, .int 0), (2, .int 0), (0, .ref h0), (1, .int 0)]) hx hb dX8_step_25 rfl hl (by decide) rfl (fun ls hl => ?_)
      have L26 : ∀ (n26 : Nat), ∀ (k : Nat) (z : Nat → Int32), (0 ≤ k ∧ k ≤ 10) → (11 ≤ k + n26) → (∀ j, z j = 0) → ∀ (H : Heap) (locs : List Loc), va_P (dC, dI) vwCl [(h0, .inr (6, [.ref st, .ref im, .ref kp, .ref pw, .ref nx, .ref li, .int d6, .ref il, .ref mv, .ref so, .ref la, .int d11, .int d12, .ref co])), (st, .inl (cyI, 72, .inl fs)), (pw, .inl (cyI, 11, .inl fp)), (nx, .inl (cyI, 10, .inl z))] H → va_D A [(h0, .inr (6, [.ref st, .ref im, .ref kp, .ref pw, .ref nx, .ref li, .int d6, .ref il, .ref mv, .ref so, .ref la, .int d11, .int d12, .ref co])), (st, .inl (cyI, 72, .inl fs)), (pw, .inl (cyI, 11, .inl fp)), (nx, .inl (cyI, 10, .inl z))] → va_S A s.heap H locs → ∀ (ls : Array Slot), lv_has ls 5 [(0, .ref h0), (1, .int 0), (2, .int 0), (3, .int (nI k))] → W p l e (headSpec wsX8_step ({ frames := 2, cells := 0, slots := 0, locals := 43 })).room s m ([.ref h0, .int 0] : List Value).toArray below meth c H locs 0 0 (MQ below (va_Qi (S := Unit) (fun (r : Int32) (_ : Unit) => r = sp_step 0) (fun _ _ => True) A) ([.ref h0, .int 0] : List Value).toArray s 0 0 A) (F0 m 26 ls []) := by
        intro n26
        induction n26 with
        | zero =>
          intro k z hk26 hn26 hz H locs hP hD hS ls hl
          exfalso
          omega
        | succ n26 ih26 =>
          intro k z hk26 hn26 hz H locs hP hD hS ls hl
          refine lv_iload_n hx hb dX8_step_26 rfl (lv_at hl 3 rfl) ?_
          refine lv_bipush (v := 10) hx hb dX8_step_27 (by decide) ?_
          refine lv_icmp_ge (tgt := 45) hx hb dX8_step_29 (by decide) (fun c_7 => ?_) (fun c_7 => ?_)
          · skip
            have ic_7 := ci_le (show Int32.toInt 10 = 10 by decide) (nI_toInt (n := k) (by omega)) c_7
            refine lv_iconst (v := 0) hx hb dX8_step_45 (by decide) ?_
            refine lv_istore_n (lv' := [(3, .int 0), (0, .ref h0), (1, .int 0), (2, .int 0)]) hx hb dX8_step_46 rfl hl (by decide) rfl (fun ls hl => ?_)
            have L47 : ∀ (n47 : Nat), ∀ (k : Nat), (0 ≤ k ∧ k ≤ 8) → (9 ≤ k + n47) → ∀ (H : Heap) (locs : List Loc), va_P (dC, dI) vwCl [(h0, .inr (6, [.ref st, .ref im, .ref kp, .ref pw, .ref nx, .ref li, .int d6, .ref il, .ref mv, .ref so, .ref la, .int d11, .int d12, .ref co])), (st, .inl (cyI, 72, .inl fs)), (pw, .inl (cyI, 11, .inl fp)), (nx, .inl (cyI, 10, .inl z))] H → va_D A [(h0, .inr (6, [.ref st, .ref im, .ref kp, .ref pw, .ref nx, .ref li, .int d6, .ref il, .ref mv, .ref so, .ref la, .int d11, .int d12, .ref co])), (st, .inl (cyI, 72, .inl fs)), (pw, .inl (cyI, 11, .inl fp)), (nx, .inl (cyI, 10, .inl z))] → va_S A s.heap H locs → ∀ (ls : Array Slot), lv_has ls 5 [(0, .ref h0), (1, .int 0), (2, .int 0), (3, .int (nI k))] → W p l e (headSpec wsX8_step ({ frames := 2, cells := 0, slots := 0, locals := 43 })).room s m ([.ref h0, .int 0] : List Value).toArray below meth c H locs 0 0 (MQ below (va_Qi (S := Unit) (fun (r : Int32) (_ : Unit) => r = sp_step 0) (fun _ _ => True) A) ([.ref h0, .int 0] : List Value).toArray s 0 0 A) (F0 m 47 ls []) := by
              intro n47
              induction n47 with
              | zero =>
                intro k hk47 hn47 H locs hP hD hS ls hl
                exfalso
                omega
              | succ n47 ih47 =>
                intro k hk47 hn47 H locs hP hD hS ls hl
                refine lv_iload_n hx hb dX8_step_47 rfl (lv_at hl 3 rfl) ?_
                refine lv_aload_n hx hb dX8_step_48 rfl (lv_at hl 0 rfl) ?_
                refine vp_callSi (va_Run.run (va_runV (As := []) (rest := [.int (nI k)]) ⟨hx, hb, hml, hown, hts⟩ (kX8_cells l dC dI cyI cyZ h0 st im kp pw nx li il mv so la co d6 d11 d12 fs h8) (cwV 0 hts gX8_step_X8_cells rfl rfl rfl (by decide +kernel) ⟨Nat.le_of_ble_eq_true rfl, Nat.le_of_ble_eq_true rfl⟩) (bs_RV hB (hP.sub (ws' := [(h0, .inr (6, [.ref st, .ref im, .ref kp, .ref pw, .ref nx, .ref li, .int d6, .ref il, .ref mv, .ref so, .ref la, .int d11, .int d12, .ref co])), (st, .inl (cyI, 72, .inl fs))]) [0, 1] rfl) 0 rfl rfl) rfl rfl hl.1 rfl (lv_room (Nat.le_of_ble_eq_true rfl)) dX8_step_49 ⟨Nat.le_of_ble_eq_true rfl, Nat.le_of_ble_eq_true rfl⟩)) (fun r_8 hr_8 => ?_)
                obtain rfl : r_8 = 8 := hr_8
                refine lv_icmp_ge (tgt := 134) hx hb dX8_step_52 (by decide) (fun c_9 => ?_) (fun c_9 => ?_)
                · skip
                  have ic_9 := ci_le (show Int32.toInt 8 = 8 by decide) (nI_toInt (n := k) (by omega)) c_9
                  refine lv_iconst (v := 0) hx hb dX8_step_134 (by decide) ?_
                  refine lv_istore_n (lv' := [(3, .int 0), (0, .ref h0), (1, .int 0), (2, .int 0)]) hx hb dX8_step_135 rfl hl (by decide) rfl (fun ls hl => ?_)
                  have L136 : ∀ (n136 : Nat), ∀ (k : Nat) (fs : Nat → Int32), (0 ≤ k ∧ k ≤ 10) → (11 ≤ k + n136) → (fs 0 = 8) → (∀ j, 1 ≤ j → fs j = 0) → ∀ (H : Heap) (locs : List Loc), va_P (dC, dI) vwCl [(h0, .inr (6, [.ref st, .ref im, .ref kp, .ref pw, .ref nx, .ref li, .int d6, .ref il, .ref mv, .ref so, .ref la, .int d11, .int d12, .ref co])), (st, .inl (cyI, 72, .inl fs)), (pw, .inl (cyI, 11, .inl fp)), (nx, .inl (cyI, 10, .inl z))] H → va_D A [(h0, .inr (6, [.ref st, .ref im, .ref kp, .ref pw, .ref nx, .ref li, .int d6, .ref il, .ref mv, .ref so, .ref la, .int d11, .int d12, .ref co])), (st, .inl (cyI, 72, .inl fs)), (pw, .inl (cyI, 11, .inl fp)), (nx, .inl (cyI, 10, .inl z))] → va_S A s.heap H locs → ∀ (ls : Array Slot), lv_has ls 5 [(0, .ref h0), (3, .int (nI k))] → W p l e (headSpec wsX8_step ({ frames := 2, cells := 0, slots := 0, locals := 43 })).room s m ([.ref h0, .int 0] : List Value).toArray below meth c H locs 0 0 (MQ below (va_Qi (S := Unit) (fun (r : Int32) (_ : Unit) => r = sp_step 0) (fun _ _ => True) A) ([.ref h0, .int 0] : List Value).toArray s 0 0 A) (F0 m 136 ls []) := by
                    intro n136
                    induction n136 with
                    | zero =>
                      intro k fs hk136 hn136 h8 hs H locs hP hD hS ls hl
                      exfalso
                      omega
                    | succ n136 ih136 =>
                      intro k fs hk136 hn136 h8 hs H locs hP hD hS ls hl
                      refine lv_iload_n hx hb dX8_step_136 rfl (lv_at hl 1 rfl) ?_
                      refine lv_bipush (v := 10) hx hb dX8_step_137 (by decide) ?_
                      refine lv_icmp_ge (tgt := 162) hx hb dX8_step_139 (by decide) (fun c_10 => ?_) (fun c_10 => ?_)
                      · skip
                        have ic_10 := ci_le (show Int32.toInt 10 = 10 by decide) (nI_toInt (n := k) (by omega)) c_10
                        refine lv_aload_n hx hb dX8_step_162 rfl (lv_at hl 0 rfl) ?_
                        refine lv_aload_n hx hb dX8_step_163 rfl (lv_at hl 0 rfl) ?_
                        refine vp_callSi (va_Run.run (va_runV (As := []) (rest := [.ref h0]) ⟨hx, hb, hml, hown, hts⟩ (kX8_now l dC dI cyI cyZ h0 st im kp pw nx li il mv so la co d6 d11 d12 fs h8 hs fp hp) (cwV 0 hts gX8_step_X8_now rfl rfl rfl (by decide +kernel) ⟨Nat.le_of_ble_eq_true rfl, Nat.le_of_ble_eq_true rfl⟩) (bs_RV hB (hP.sub (ws' := [(h0, .inr (6, [.ref st, .ref im, .ref kp, .ref pw, .ref nx, .ref li, .int d6, .ref il, .ref mv, .ref so, .ref la, .int d11, .int d12, .ref co])), (st, .inl (cyI, 72, .inl fs)), (pw, .inl (cyI, 11, .inl fp))]) [0, 1, 2] rfl) 0 rfl rfl) rfl rfl hl.1 rfl (lv_room (Nat.le_of_ble_eq_true rfl)) dX8_step_164 ⟨Nat.le_of_ble_eq_true rfl, Nat.le_of_ble_eq_true rfl⟩)) (fun r_11 hr_11 => ?_)
                        obtain rfl : r_11 = 0 := hr_11
                        refine vp_callSi (va_Run.run (va_runV (As := [.int 0]) (rest := []) ⟨hx, hb, hml, hown, hts⟩ (kX8_standsOf l dC dI cyI cyZ h0 st im kp pw nx li il mv so la co d6 d11 d12 fs h8 fp hp 0) (cwV 1 hts gX8_step_X8_standsOf rfl rfl rfl (by decide +kernel) ⟨Nat.le_of_ble_eq_true rfl, Nat.le_of_ble_eq_true rfl⟩) (bs_RV hB (hP.sub (ws' := [(h0, .inr (6, [.ref st, .ref im, .ref kp, .ref pw, .ref nx, .ref li, .int d6, .ref il, .ref mv, .ref so, .ref la, .int d11, .int d12, .ref co])), (st, .inl (cyI, 72, .inl fs)), (pw, .inl (cyI, 11, .inl fp))]) [0, 1, 2] rfl) 0 rfl rfl) rfl rfl hl.1 rfl (lv_room (Nat.le_of_ble_eq_true rfl)) dX8_step_167 ⟨Nat.le_of_ble_eq_true rfl, Nat.le_of_ble_eq_true rfl⟩)) (fun r_12 hr_12 => ?_)
                        obtain rfl : r_12 = 0 := hr_12.trans (by decide)
                        refine vp_callSi (va_Run.run (va_runS (As := [.int 0]) (rest := []) ⟨hx, hb, hml, hown, hts⟩ (kX8_size l dC dI cyI cyZ 0) (va_cwS 1 hts gX8_step_X8_size rfl rfl rfl (by decide +kernel) ⟨Nat.le_of_ble_eq_true rfl, Nat.le_of_ble_eq_true rfl⟩) (bs_RS hB (hP.sub (ws' := []) [] rfl)) rfl rfl hl.1 rfl (lv_room (Nat.le_of_ble_eq_true rfl)) dX8_step_170 ⟨Nat.le_of_ble_eq_true rfl, Nat.le_of_ble_eq_true rfl⟩)) (fun r_13 hr_13 => ?_)
                        obtain rfl : r_13 = 0 := hr_13.trans (by decide)
                        exact W.iret (v := 0) hx hb hr (fun t ht hW => ⟨⟨0, (), rfl, rfl, trivial⟩, hS.F ht⟩) hS.2.2 dX8_step_173
                      · skip
                        have ic_10 := ci_nle (show Int32.toInt 10 = 10 by decide) (nI_toInt (n := k) (by omega)) c_10
                        refine lv_aload_n hx hb dX8_step_142 rfl (lv_at hl 0 rfl) ?_
                        refine va_get (D := (dC, dI)) (ci := 6) (v := .ref st) (C := RX8) (T := TX8) (N := 14) hx hb hts hnX8_step_X8 hown hK hP 0 rfl rfl 0 (by decide) (hts (.fieldLink RX8 7 "RingMeetsModel" "state" "[I") (by decide +kernel)) (fun _ h9 => h9) rfl dX8_step_143 ?_
                        refine lv_iconst (v := 1) hx hb dX8_step_146 (by decide) ?_
                        refine lv_iload_n hx hb dX8_step_147 rfl (lv_at hl 1 rfl) ?_
                        refine lv_iadd hx hb dX8_step_148 ?_
                        refine lv_topi (fun x_14 ex_14 => ?_)
                        obtain rfl : (nI (1 + k)) = x_14 := (ex_14.trans (nI_add 1 _)).symm
                        refine lv_aload_n hx hb dX8_step_149 rfl (lv_at hl 0 rfl) ?_
                        refine va_get (D := (dC, dI)) (ci := 6) (v := .ref nx) (C := RX8) (T := TX8) (N := 14) hx hb hts hnX8_step_X8 hown hK hP 0 rfl rfl 4 (by decide) (hts (.fieldLink RX8 23 "RingMeetsModel" "next" "[I") (by decide +kernel)) (fun _ h9 => h9) rfl dX8_step_150 ?_
                        refine lv_iload_n hx hb dX8_step_153 rfl (lv_at hl 1 rfl) ?_
                        refine va_iald (D := (dC, dI)) hx hb hK hP 3 0 rfl rfl (vp_in_nI (n := k) (N := 10) (by omega) (by omega)) dX8_step_154 ?_
                        refine lv_topi (fun x_15 ex_15 => ?_)
                        rw [nI_clamp (n := k) (by omega)] at ex_15
                        obtain rfl : 0 = x_15 := (ex_15.trans (hz _)).symm
                        refine va_iast (D := (dC, dI)) hx hb hK hP hD hS 1 0 rfl rfl (vp_in_nI (n := (1 + k)) (N := 72) (by omega) (by omega)) dX8_step_155 (fun H locs hP hD hS => ?_)
                        obtain ⟨g_16, eg_16⟩ : ∃ y : Nat → Int32, y = upd fs (Int32.toNatClampNeg (nI (1 + k))) 0 := ⟨_, rfl⟩
                        have hP : va_P (dC, dI) vwCl [(h0, .inr (6, [.ref st, .ref im, .ref kp, .ref pw, .ref nx, .ref li, .int d6, .ref il, .ref mv, .ref so, .ref la, .int d11, .int d12, .ref co])), (st, .inl (cyI, 72, .inl g_16)), (pw, .inl (cyI, 11, .inl fp)), (nx, .inl (cyI, 10, .inl z))] H := by rw [eg_16]; exact hP
                        have hD : va_D A [(h0, .inr (6, [.ref st, .ref im, .ref kp, .ref pw, .ref nx, .ref li, .int d6, .ref il, .ref mv, .ref so, .ref la, .int d11, .int d12, .ref co])), (st, .inl (cyI, 72, .inl g_16)), (pw, .inl (cyI, 11, .inl fp)), (nx, .inl (cyI, 10, .inl z))] := by rw [eg_16]; exact hD
                        rw [nI_clamp (n := (1 + k)) (by omega)] at eg_16
                        refine lv_iinc (v := (nI (k + 1))) (lv' := [(3, .int (nI (k + 1))), (0, .ref h0)]) hx hb dX8_step_156 hl (k := 1) rfl (nI_1 _) (by decide) rfl (fun ls hl => ?_)
                        refine lv_goto (tgt := 136) hx hb dX8_step_159 (by decide) ?_
                        exact ih136 (k + 1) g_16 ⟨by omega, by omega⟩ (by omega) (by rw [eg_16]; unfold upd; rw [if_neg (by omega)]; exact h8) (fun j hj => by rw [eg_16]; unfold upd; split; rfl; exact hs j hj) _ _ (hP.sub [0, 1, 2, 3] rfl) (hD.sub [0, 1, 2, 3] (by decide) rfl) hS _ (lv_sub hl [1, 0] rfl)
                  exact L136 11 0 fs ⟨by omega, by omega⟩ (by omega) h8 hs _ _ (hP.sub [0, 1, 2, 3] rfl) (hD.sub [0, 1, 2, 3] (by decide) rfl) hS _ (lv_sub hl [1, 0] rfl)
                · skip
                  have ic_9 := ci_nle (show Int32.toInt 8 = 8 by decide) (nI_toInt (n := k) (by omega)) c_9
                  refine lv_iload_n hx hb dX8_step_55 rfl (lv_at hl 2 rfl) ?_
                  refine lv_iload_n hx hb dX8_step_56 rfl (lv_at hl 3 rfl) ?_
                  refine vp_callSi (va_Run.run (va_runS (As := [.int 0, .int (nI k)]) (rest := []) ⟨hx, hb, hml, hown, hts⟩ (kX8_has l dC dI cyI cyZ 0 (nI k)) (va_cwS 2 hts gX8_step_X8_has rfl rfl rfl (by decide +kernel) ⟨Nat.le_of_ble_eq_true rfl, Nat.le_of_ble_eq_true rfl⟩) (bs_RS hB (hP.sub (ws' := []) [] rfl)) rfl rfl hl.1 rfl (lv_room (Nat.le_of_ble_eq_true rfl)) dX8_step_57 ⟨Nat.le_of_ble_eq_true rfl, Nat.le_of_ble_eq_true rfl⟩)) (fun r_17 hr_17 => ?_)
                  obtain rfl : r_17 = 0 := hr_17.2.1 rfl
                  refine lv_if_eq (tgt := 128) hx hb dX8_step_60 (by decide) (fun c_18 => ?_) (fun c_18 => ?_)
                  · skip
                    refine lv_iinc (v := (nI (k + 1))) (lv' := [(3, .int (nI (k + 1))), (0, .ref h0), (1, .int 0), (2, .int 0)]) hx hb dX8_step_128 hl (k := 3) rfl (nI_1 _) (by decide) rfl (fun ls hl => ?_)
                    refine lv_goto (tgt := 47) hx hb dX8_step_131 (by decide) ?_
                    exact ih47 (k + 1)  ⟨by omega, by omega⟩ (by omega)  _ _ (hP.sub [0, 1, 2, 3] rfl) (hD.sub [0, 1, 2, 3] (by decide) rfl) hS _ (lv_sub hl [1, 2, 3, 0] rfl)
                  · skip
                    exact absurd c_18 (by decide)
            exact L47 9 0  ⟨by omega, by omega⟩ (by omega)  _ _ (hP.sub [0, 1, 2, 3] rfl) (hD.sub [0, 1, 2, 3] (by decide) rfl) hS _ (lv_sub hl [1, 2, 3, 0] rfl)
          · skip
            have ic_7 := ci_nle (show Int32.toInt 10 = 10 by decide) (nI_toInt (n := k) (by omega)) c_7
            refine lv_aload_n hx hb dX8_step_32 rfl (lv_at hl 0 rfl) ?_
            refine va_get (D := (dC, dI)) (ci := 6) (v := .ref nx) (C := RX8) (T := TX8) (N := 14) hx hb hts hnX8_step_X8 hown hK hP 0 rfl rfl 4 (by decide) (hts (.fieldLink RX8 23 "RingMeetsModel" "next" "[I") (by decide +kernel)) (fun _ h9 => h9) rfl dX8_step_33 ?_
            refine lv_iload_n hx hb dX8_step_36 rfl (lv_at hl 3 rfl) ?_
            refine lv_iconst (v := 0) hx hb dX8_step_37 (by decide) ?_
            refine va_iast (D := (dC, dI)) hx hb hK hP hD hS 3 0 rfl rfl (vp_in_nI (n := k) (N := 10) (by omega) (by omega)) dX8_step_38 (fun H locs hP hD hS => ?_)
            obtain ⟨g_19, eg_19⟩ : ∃ y : Nat → Int32, y = upd z (Int32.toNatClampNeg (nI k)) 0 := ⟨_, rfl⟩
            have hP : va_P (dC, dI) vwCl [(h0, .inr (6, [.ref st, .ref im, .ref kp, .ref pw, .ref nx, .ref li, .int d6, .ref il, .ref mv, .ref so, .ref la, .int d11, .int d12, .ref co])), (st, .inl (cyI, 72, .inl fs)), (pw, .inl (cyI, 11, .inl fp)), (nx, .inl (cyI, 10, .inl g_19))] H := by rw [eg_19]; exact hP
            have hD : va_D A [(h0, .inr (6, [.ref st, .ref im, .ref kp, .ref pw, .ref nx, .ref li, .int d6, .ref il, .ref mv, .ref so, .ref la, .int d11, .int d12, .ref co])), (st, .inl (cyI, 72, .inl fs)), (pw, .inl (cyI, 11, .inl fp)), (nx, .inl (cyI, 10, .inl g_19))] := by rw [eg_19]; exact hD
            rw [nI_clamp (n := k) (by omega)] at eg_19
            refine lv_iinc (v := (nI (k + 1))) (lv' := [(3, .int (nI (k + 1))), (0, .ref h0), (1, .int 0), (2, .int 0)]) hx hb dX8_step_39 hl (k := 3) rfl (nI_1 _) (by decide) rfl (fun ls hl => ?_)
            refine lv_goto (tgt := 26) hx hb dX8_step_42 (by decide) ?_
            exact ih26 (k + 1) g_19 ⟨by omega, by omega⟩ (by omega) (fun j => by rw [eg_19]; unfold upd; split; rfl; exact hz j) _ _ (hP.sub [0, 1, 2, 3] rfl) (hD.sub [0, 1, 2, 3] (by decide) rfl) hS _ (lv_sub hl [1, 2, 3, 0] rfl)
      exact L26 11 0 z ⟨by omega, by omega⟩ (by omega) hz _ _ (hP.sub [0, 1, 2, 3] rfl) (hD.sub [0, 1, 2, 3] (by decide) rfl) hS _ (lv_sub hl [2, 3, 1, 0] rfl)
    · skip
      have ic_6 := ci_ne (rfl : Int32.toInt p1 = _) (show Int32.toInt 0 = 0 by decide) c_6
      refine lv_bipush (v := (-2)) hx hb dX8_step_21 (by decide) ?_
      exact W.iret (v := (-2)) hx hb hr (fun t ht hW => ⟨⟨(-2), (), rfl, (show (-2 : Int32) = sp_step p1 by unfold sp_step; rw [if_neg (fun q => absurd c_6 (by rw [q]; decide))]), trivial⟩, hS.F ht⟩) hS.2.2 dX8_step_23

theorem hnX8_init_X8 : ∀ w ∈ wsX80, w ∈ wsX8_init := fun _ h => List.mem_cons_of_mem _ (List.mem_append_right _ h)
set_option maxHeartbeats 4000000 in
set_option maxRecDepth 100000 in
theorem kX8_init (l : Launch) (dC : Nat → ClassId) (dI : Nat → Nat → Nat) (cyI cyZ : ClassId) (h0 : Nat) (sz : Nat) : Met l yX8_init wsX8_init ({ frames := 1, cells := 11, slots := 295494, locals := 20 }) (bs_W dC dI cyI cyZ [.ref h0] [(h0, .inr (6, [.null, .null, .null, .null, .null, .null, .int 0, .null, .null, .null, .null, .int 0, .int 0, .null]))] sz) (va_Qv (S := (Nat × Nat × Nat × Nat × Nat × Nat × Nat × Nat × Nat × Nat × Nat) × (Nat → Int32) × (Nat → Int32)) (fun q : (Nat × Nat × Nat × Nat × Nat × Nat × Nat × Nat × Nat × Nat × Nat) × (Nat → Int32) × (Nat → Int32) => q.2.1 0 = 8 ∧ (∀ j, 1 ≤ j → q.2.1 j = 0) ∧ (∀ j, j ≤ 10 → q.2.2 j = nI (3 ^ j))) (fun q t => bs_E dC dI (va_A [(h0, .inr (6, [.null, .null, .null, .null, .null, .null, .int 0, .null, .null, .null, .null, .int 0, .int 0, .null]))] sz) [(h0, .inr (6, [.ref q.1.1, .ref q.1.2.1, .ref q.1.2.2.1, .ref q.1.2.2.2.1, .ref q.1.2.2.2.2.1, .ref q.1.2.2.2.2.2.1, .int 0, .ref q.1.2.2.2.2.2.2.1, .ref q.1.2.2.2.2.2.2.2.1, .ref q.1.2.2.2.2.2.2.2.2.1, .ref q.1.2.2.2.2.2.2.2.2.2.1, .int 0, .int 0, .ref q.1.2.2.2.2.2.2.2.2.2.2])), (q.1.1, .inl (cyI, 72, .inl q.2.1)), (q.1.2.1, .inl (cyI, 144, .inl (fun _ => (0 : Int32)))), (q.1.2.2.1, .inl (cyZ, 2, .inl (fun _ => (0 : Int32)))), (q.1.2.2.2.1, .inl (cyI, 11, .inl q.2.2)), (q.1.2.2.2.2.1, .inl (cyI, 10, .inl (fun _ => (0 : Int32)))), (q.1.2.2.2.2.2.1, .inl (cyI, 59049, .inl (fun _ => (0 : Int32)))), (q.1.2.2.2.2.2.2.1, .inl (cyZ, 59049, .inl (fun _ => (0 : Int32)))), (q.1.2.2.2.2.2.2.2.1, .inl (cyI, 59049, .inl (fun _ => (0 : Int32)))), (q.1.2.2.2.2.2.2.2.2.1, .inl (cyI, 59049, .inl (fun _ => (0 : Int32)))), (q.1.2.2.2.2.2.2.2.2.2.1, .inl (cyI, 59049, .inl (fun _ => (0 : Int32)))), (q.1.2.2.2.2.2.2.2.2.2.2, .inl (cyI, 10, .inl (fun _ => (0 : Int32))))] t) (va_A [(h0, .inr (6, [.null, .null, .null, .null, .null, .null, .int 0, .null, .null, .null, .null, .int 0, .int 0, .null]))] sz)) 11 295494 (va_A [(h0, .inr (6, [.null, .null, .null, .null, .null, .null, .int 0, .null, .null, .null, .null, .int 0, .int 0, .null]))] sz) := by
  refine Met.ofW (cc := cX8_init) (maxL := 2) (ret := none) (by decide) rfl ?_
  intro p e s m args below meth c s₁ B hml hv
  obtain ⟨rfl, hsz, hB, hP, hD0⟩ := hv
  have hK := hB.1
  have hN := hB.2
  have hx := B.exec
  have hb := B.bytes
  have hr := B.returns
  have hts := atoms_spec (ws := wsX8_init) B.pre
  have hown : s.vm.findClass RX8 = some m.cls := findClass_of_methodNamed B.named
  have hlocks := B.notSynchronized
  have hin : meth.name = "<init>" := (name_of_methodNamed B.named B.method).1
  subst hsz
  have hD := hD0.self (sz := s.heap.size)
  generalize hAe : va_A [(h0, .inr (6, [.null, .null, .null, .null, .null, .null, .int 0, .null, .null, .null, .null, .int 0, .int 0, .null]))] s.heap.size = A at hD ⊢
  have hA : ∀ q : Nat, s.heap.size ≤ q → A q := fun q h => by rw [← hAe]; exact Or.inr h
  have hS : va_S A s.heap s.heap [] := va_S.rf
  have hP : va_P (dC, dI) vwCl [(h0, .inr (6, [.null, .null, .null, .null, .null, .null, .int 0, .null, .null, .null, .null, .int 0, .int 0, .null]))] s.heap := hP
  have hl := lv_entry ([.ref h0]) (n := 2) (Nat.le_of_ble_eq_true rfl)
  rw [lg_entry_eq]
  generalize (lg_sl ([.ref h0]) ++ List.replicate (2 - (lg_sl ([.ref h0])).length) Slot.unset).toArray = ls at hl ⊢
  have hl : lv_has ls 2 [(0, .ref h0)] := hl
  refine lv_aload_n hx hb dX8_init_0 rfl (lv_at hl 0 rfl) ?_
  refine W.objInit hx hb hown (hts (.methodLink RX8 1 objectInit) (by decide +kernel)) (hts (.instanceMethod objectInit) (by decide +kernel)) (hts (.code objectInit ⟨#[0xb1]⟩ 1 none) (by decide +kernel)) rfl (by rw [hml]; exact hl.1) rfl dX8_init_1 (Nat.le_of_ble_eq_true rfl) (Nat.le_of_ble_eq_true rfl) ?_
  refine W.eq (g2 := F0 m 4 ls []) rfl ?_
  refine lv_aload_n hx hb dX8_init_4 rfl (lv_at hl 0 rfl) ?_
  refine lv_bipush (v := 72) hx hb dX8_init_5 (by decide) ?_
  refine bs_newI (n := 72) hx hb (hts (.arrayClass .int) (by decide +kernel)) hB hP hD hS hA 72 (by decide) (by decide) (Nat.le_of_ble_eq_true rfl) (Nat.le_of_ble_eq_true rfl) (Nat.le_of_ble_eq_true rfl) dX8_init_7 (fun q_1 H hP hD hS => ?_)
  refine W.widen (k := 1) (n := 72) (Nat.le_of_ble_eq_true rfl) (Nat.le_of_ble_eq_true rfl) ?_
  have hP : va_P (dC, dI) vwCl [(h0, .inr (6, [.null, .null, .null, .null, .null, .null, .int 0, .null, .null, .null, .null, .int 0, .int 0, .null])), (q_1, .inl (cyI, 72, .inl (fun _ => (0 : Int32))))] _ := hP
  have hD : va_D A [(h0, .inr (6, [.null, .null, .null, .null, .null, .null, .int 0, .null, .null, .null, .null, .int 0, .int 0, .null])), (q_1, .inl (cyI, 72, .inl (fun _ => (0 : Int32))))] := hD
  refine va_putF (D := (dC, dI)) (ci := 6) (v := .ref q_1) (ty := (.array .int)) (C := RX8) (T := TX8) (N := 14) hx hb hts hnX8_init_X8 tyX8 tyX8_ok nmX8 hown hK hP hD hS 0 rfl rfl 0 (by decide) (hts (.fieldLink RX8 7 "RingMeetsModel" "state" "[I") (by decide +kernel)) (fun _ h9 => h9) rfl hin rfl (by decide +kernel) rfl rfl (Nat.le_of_ble_eq_true rfl) dX8_init_9 (fun H locs hP hD hS => ?_)
  have hP : va_P (dC, dI) vwCl [(h0, .inr (6, [.ref q_1, .null, .null, .null, .null, .null, .int 0, .null, .null, .null, .null, .int 0, .int 0, .null])), (q_1, .inl (cyI, 72, .inl (fun _ => (0 : Int32))))] _ := hP
  have hD : va_D A [(h0, .inr (6, [.ref q_1, .null, .null, .null, .null, .null, .int 0, .null, .null, .null, .null, .int 0, .int 0, .null])), (q_1, .inl (cyI, 72, .inl (fun _ => (0 : Int32))))] := hD
  refine lv_aload_n hx hb dX8_init_12 rfl (lv_at hl 0 rfl) ?_
  refine lv_sipush (v := 144) hx hb dX8_init_13 (by decide) ?_
  refine bs_newI (n := 144) hx hb (hts (.arrayClass .int) (by decide +kernel)) hB hP hD hS hA 144 (by decide) (by decide) (Nat.le_of_ble_eq_true rfl) (Nat.le_of_ble_eq_true rfl) (Nat.le_of_ble_eq_true rfl) dX8_init_16 (fun q_2 H hP hD hS => ?_)
  refine W.widen (k := 2) (n := 216) (Nat.le_of_ble_eq_true rfl) (Nat.le_of_ble_eq_true rfl) ?_
  have hP : va_P (dC, dI) vwCl [(h0, .inr (6, [.ref q_1, .null, .null, .null, .null, .null, .int 0, .null, .null, .null, .null, .int 0, .int 0, .null])), (q_1, .inl (cyI, 72, .inl (fun _ => (0 : Int32)))), (q_2, .inl (cyI, 144, .inl (fun _ => (0 : Int32))))] _ := hP
  have hD : va_D A [(h0, .inr (6, [.ref q_1, .null, .null, .null, .null, .null, .int 0, .null, .null, .null, .null, .int 0, .int 0, .null])), (q_1, .inl (cyI, 72, .inl (fun _ => (0 : Int32)))), (q_2, .inl (cyI, 144, .inl (fun _ => (0 : Int32))))] := hD
  refine va_putF (D := (dC, dI)) (ci := 6) (v := .ref q_2) (ty := (.array .int)) (C := RX8) (T := TX8) (N := 14) hx hb hts hnX8_init_X8 tyX8 tyX8_ok nmX8 hown hK hP hD hS 0 rfl rfl 1 (by decide) (hts (.fieldLink RX8 13 "RingMeetsModel" "images" "[I") (by decide +kernel)) (fun _ h9 => h9) rfl hin rfl (by decide +kernel) rfl rfl (Nat.le_of_ble_eq_true rfl) dX8_init_18 (fun H locs hP hD hS => ?_)
  have hP : va_P (dC, dI) vwCl [(h0, .inr (6, [.ref q_1, .ref q_2, .null, .null, .null, .null, .int 0, .null, .null, .null, .null, .int 0, .int 0, .null])), (q_1, .inl (cyI, 72, .inl (fun _ => (0 : Int32)))), (q_2, .inl (cyI, 144, .inl (fun _ => (0 : Int32))))] _ := hP
  have hD : va_D A [(h0, .inr (6, [.ref q_1, .ref q_2, .null, .null, .null, .null, .int 0, .null, .null, .null, .null, .int 0, .int 0, .null])), (q_1, .inl (cyI, 72, .inl (fun _ => (0 : Int32)))), (q_2, .inl (cyI, 144, .inl (fun _ => (0 : Int32))))] := hD
  refine lv_aload_n hx hb dX8_init_21 rfl (lv_at hl 0 rfl) ?_
  refine lv_iconst (v := 2) hx hb dX8_init_22 (by decide) ?_
  refine bs_newZ (n := 2) hx hb (hts (.arrayClass .boolean) (by decide +kernel)) hB hP hD hS hA 2 (by decide) (by decide) (Nat.le_of_ble_eq_true rfl) (Nat.le_of_ble_eq_true rfl) (Nat.le_of_ble_eq_true rfl) dX8_init_23 (fun q_3 H hP hD hS => ?_)
  refine W.widen (k := 3) (n := 218) (Nat.le_of_ble_eq_true rfl) (Nat.le_of_ble_eq_true rfl) ?_
  have hP : va_P (dC, dI) vwCl [(h0, .inr (6, [.ref q_1, .ref q_2, .null, .null, .null, .null, .int 0, .null, .null, .null, .null, .int 0, .int 0, .null])), (q_1, .inl (cyI, 72, .inl (fun _ => (0 : Int32)))), (q_2, .inl (cyI, 144, .inl (fun _ => (0 : Int32)))), (q_3, .inl (cyZ, 2, .inl (fun _ => (0 : Int32))))] _ := hP
  have hD : va_D A [(h0, .inr (6, [.ref q_1, .ref q_2, .null, .null, .null, .null, .int 0, .null, .null, .null, .null, .int 0, .int 0, .null])), (q_1, .inl (cyI, 72, .inl (fun _ => (0 : Int32)))), (q_2, .inl (cyI, 144, .inl (fun _ => (0 : Int32)))), (q_3, .inl (cyZ, 2, .inl (fun _ => (0 : Int32))))] := hD
  refine va_putF (D := (dC, dI)) (ci := 6) (v := .ref q_3) (ty := (.array .boolean)) (C := RX8) (T := TX8) (N := 14) hx hb hts hnX8_init_X8 tyX8 tyX8_ok nmX8 hown hK hP hD hS 0 rfl rfl 2 (by decide) (hts (.fieldLink RX8 16 "RingMeetsModel" "isKept" "[Z") (by decide +kernel)) (fun _ h9 => h9) rfl hin rfl (by decide +kernel) rfl rfl (Nat.le_of_ble_eq_true rfl) dX8_init_25 (fun H locs hP hD hS => ?_)
  have hP : va_P (dC, dI) vwCl [(h0, .inr (6, [.ref q_1, .ref q_2, .ref q_3, .null, .null, .null, .int 0, .null, .null, .null, .null, .int 0, .int 0, .null])), (q_1, .inl (cyI, 72, .inl (fun _ => (0 : Int32)))), (q_2, .inl (cyI, 144, .inl (fun _ => (0 : Int32)))), (q_3, .inl (cyZ, 2, .inl (fun _ => (0 : Int32))))] _ := hP
  have hD : va_D A [(h0, .inr (6, [.ref q_1, .ref q_2, .ref q_3, .null, .null, .null, .int 0, .null, .null, .null, .null, .int 0, .int 0, .null])), (q_1, .inl (cyI, 72, .inl (fun _ => (0 : Int32)))), (q_2, .inl (cyI, 144, .inl (fun _ => (0 : Int32)))), (q_3, .inl (cyZ, 2, .inl (fun _ => (0 : Int32))))] := hD
  refine lv_aload_n hx hb dX8_init_28 rfl (lv_at hl 0 rfl) ?_
  refine lv_bipush (v := 11) hx hb dX8_init_29 (by decide) ?_
  refine bs_newI (n := 11) hx hb (hts (.arrayClass .int) (by decide +kernel)) hB hP hD hS hA 11 (by decide) (by decide) (Nat.le_of_ble_eq_true rfl) (Nat.le_of_ble_eq_true rfl) (Nat.le_of_ble_eq_true rfl) dX8_init_31 (fun q_4 H hP hD hS => ?_)
  refine W.widen (k := 4) (n := 229) (Nat.le_of_ble_eq_true rfl) (Nat.le_of_ble_eq_true rfl) ?_
  have hP : va_P (dC, dI) vwCl [(h0, .inr (6, [.ref q_1, .ref q_2, .ref q_3, .null, .null, .null, .int 0, .null, .null, .null, .null, .int 0, .int 0, .null])), (q_1, .inl (cyI, 72, .inl (fun _ => (0 : Int32)))), (q_2, .inl (cyI, 144, .inl (fun _ => (0 : Int32)))), (q_3, .inl (cyZ, 2, .inl (fun _ => (0 : Int32)))), (q_4, .inl (cyI, 11, .inl (fun _ => (0 : Int32))))] _ := hP
  have hD : va_D A [(h0, .inr (6, [.ref q_1, .ref q_2, .ref q_3, .null, .null, .null, .int 0, .null, .null, .null, .null, .int 0, .int 0, .null])), (q_1, .inl (cyI, 72, .inl (fun _ => (0 : Int32)))), (q_2, .inl (cyI, 144, .inl (fun _ => (0 : Int32)))), (q_3, .inl (cyZ, 2, .inl (fun _ => (0 : Int32)))), (q_4, .inl (cyI, 11, .inl (fun _ => (0 : Int32))))] := hD
  refine va_putF (D := (dC, dI)) (ci := 6) (v := .ref q_4) (ty := (.array .int)) (C := RX8) (T := TX8) (N := 14) hx hb hts hnX8_init_X8 tyX8 tyX8_ok nmX8 hown hK hP hD hS 0 rfl rfl 3 (by decide) (hts (.fieldLink RX8 20 "RingMeetsModel" "power" "[I") (by decide +kernel)) (fun _ h9 => h9) rfl hin rfl (by decide +kernel) rfl rfl (Nat.le_of_ble_eq_true rfl) dX8_init_33 (fun H locs hP hD hS => ?_)
  have hP : va_P (dC, dI) vwCl [(h0, .inr (6, [.ref q_1, .ref q_2, .ref q_3, .ref q_4, .null, .null, .int 0, .null, .null, .null, .null, .int 0, .int 0, .null])), (q_1, .inl (cyI, 72, .inl (fun _ => (0 : Int32)))), (q_2, .inl (cyI, 144, .inl (fun _ => (0 : Int32)))), (q_3, .inl (cyZ, 2, .inl (fun _ => (0 : Int32)))), (q_4, .inl (cyI, 11, .inl (fun _ => (0 : Int32))))] _ := hP
  have hD : va_D A [(h0, .inr (6, [.ref q_1, .ref q_2, .ref q_3, .ref q_4, .null, .null, .int 0, .null, .null, .null, .null, .int 0, .int 0, .null])), (q_1, .inl (cyI, 72, .inl (fun _ => (0 : Int32)))), (q_2, .inl (cyI, 144, .inl (fun _ => (0 : Int32)))), (q_3, .inl (cyZ, 2, .inl (fun _ => (0 : Int32)))), (q_4, .inl (cyI, 11, .inl (fun _ => (0 : Int32))))] := hD
  refine lv_aload_n hx hb dX8_init_36 rfl (lv_at hl 0 rfl) ?_
  refine lv_bipush (v := 10) hx hb dX8_init_37 (by decide) ?_
  refine bs_newI (n := 10) hx hb (hts (.arrayClass .int) (by decide +kernel)) hB hP hD hS hA 10 (by decide) (by decide) (Nat.le_of_ble_eq_true rfl) (Nat.le_of_ble_eq_true rfl) (Nat.le_of_ble_eq_true rfl) dX8_init_39 (fun q_5 H hP hD hS => ?_)
  refine W.widen (k := 5) (n := 239) (Nat.le_of_ble_eq_true rfl) (Nat.le_of_ble_eq_true rfl) ?_
  have hP : va_P (dC, dI) vwCl [(h0, .inr (6, [.ref q_1, .ref q_2, .ref q_3, .ref q_4, .null, .null, .int 0, .null, .null, .null, .null, .int 0, .int 0, .null])), (q_1, .inl (cyI, 72, .inl (fun _ => (0 : Int32)))), (q_2, .inl (cyI, 144, .inl (fun _ => (0 : Int32)))), (q_3, .inl (cyZ, 2, .inl (fun _ => (0 : Int32)))), (q_4, .inl (cyI, 11, .inl (fun _ => (0 : Int32)))), (q_5, .inl (cyI, 10, .inl (fun _ => (0 : Int32))))] _ := hP
  have hD : va_D A [(h0, .inr (6, [.ref q_1, .ref q_2, .ref q_3, .ref q_4, .null, .null, .int 0, .null, .null, .null, .null, .int 0, .int 0, .null])), (q_1, .inl (cyI, 72, .inl (fun _ => (0 : Int32)))), (q_2, .inl (cyI, 144, .inl (fun _ => (0 : Int32)))), (q_3, .inl (cyZ, 2, .inl (fun _ => (0 : Int32)))), (q_4, .inl (cyI, 11, .inl (fun _ => (0 : Int32)))), (q_5, .inl (cyI, 10, .inl (fun _ => (0 : Int32))))] := hD
  refine va_putF (D := (dC, dI)) (ci := 6) (v := .ref q_5) (ty := (.array .int)) (C := RX8) (T := TX8) (N := 14) hx hb hts hnX8_init_X8 tyX8 tyX8_ok nmX8 hown hK hP hD hS 0 rfl rfl 4 (by decide) (hts (.fieldLink RX8 23 "RingMeetsModel" "next" "[I") (by decide +kernel)) (fun _ h9 => h9) rfl hin rfl (by decide +kernel) rfl rfl (Nat.le_of_ble_eq_true rfl) dX8_init_41 (fun H locs hP hD hS => ?_)
  have hP : va_P (dC, dI) vwCl [(h0, .inr (6, [.ref q_1, .ref q_2, .ref q_3, .ref q_4, .ref q_5, .null, .int 0, .null, .null, .null, .null, .int 0, .int 0, .null])), (q_1, .inl (cyI, 72, .inl (fun _ => (0 : Int32)))), (q_2, .inl (cyI, 144, .inl (fun _ => (0 : Int32)))), (q_3, .inl (cyZ, 2, .inl (fun _ => (0 : Int32)))), (q_4, .inl (cyI, 11, .inl (fun _ => (0 : Int32)))), (q_5, .inl (cyI, 10, .inl (fun _ => (0 : Int32))))] _ := hP
  have hD : va_D A [(h0, .inr (6, [.ref q_1, .ref q_2, .ref q_3, .ref q_4, .ref q_5, .null, .int 0, .null, .null, .null, .null, .int 0, .int 0, .null])), (q_1, .inl (cyI, 72, .inl (fun _ => (0 : Int32)))), (q_2, .inl (cyI, 144, .inl (fun _ => (0 : Int32)))), (q_3, .inl (cyZ, 2, .inl (fun _ => (0 : Int32)))), (q_4, .inl (cyI, 11, .inl (fun _ => (0 : Int32)))), (q_5, .inl (cyI, 10, .inl (fun _ => (0 : Int32))))] := hD
  refine lv_aload_n hx hb dX8_init_44 rfl (lv_at hl 0 rfl) ?_
  refine lv_ldc (v := 59049) hx hb hown (hts (.constant RX8 26 (59049)) (by decide +kernel)) dX8_init_45 ?_
  refine bs_newI (n := 59049) hx hb (hts (.arrayClass .int) (by decide +kernel)) hB hP hD hS hA 59049 (by decide) (by decide) (Nat.le_of_ble_eq_true rfl) (Nat.le_of_ble_eq_true rfl) (Nat.le_of_ble_eq_true rfl) dX8_init_47 (fun q_6 H hP hD hS => ?_)
  refine W.widen (k := 6) (n := 59288) (Nat.le_of_ble_eq_true rfl) (Nat.le_of_ble_eq_true rfl) ?_
  have hP : va_P (dC, dI) vwCl [(h0, .inr (6, [.ref q_1, .ref q_2, .ref q_3, .ref q_4, .ref q_5, .null, .int 0, .null, .null, .null, .null, .int 0, .int 0, .null])), (q_1, .inl (cyI, 72, .inl (fun _ => (0 : Int32)))), (q_2, .inl (cyI, 144, .inl (fun _ => (0 : Int32)))), (q_3, .inl (cyZ, 2, .inl (fun _ => (0 : Int32)))), (q_4, .inl (cyI, 11, .inl (fun _ => (0 : Int32)))), (q_5, .inl (cyI, 10, .inl (fun _ => (0 : Int32)))), (q_6, .inl (cyI, 59049, .inl (fun _ => (0 : Int32))))] _ := hP
  have hD : va_D A [(h0, .inr (6, [.ref q_1, .ref q_2, .ref q_3, .ref q_4, .ref q_5, .null, .int 0, .null, .null, .null, .null, .int 0, .int 0, .null])), (q_1, .inl (cyI, 72, .inl (fun _ => (0 : Int32)))), (q_2, .inl (cyI, 144, .inl (fun _ => (0 : Int32)))), (q_3, .inl (cyZ, 2, .inl (fun _ => (0 : Int32)))), (q_4, .inl (cyI, 11, .inl (fun _ => (0 : Int32)))), (q_5, .inl (cyI, 10, .inl (fun _ => (0 : Int32)))), (q_6, .inl (cyI, 59049, .inl (fun _ => (0 : Int32))))] := hD
  refine va_putF (D := (dC, dI)) (ci := 6) (v := .ref q_6) (ty := (.array .int)) (C := RX8) (T := TX8) (N := 14) hx hb hts hnX8_init_X8 tyX8 tyX8_ok nmX8 hown hK hP hD hS 0 rfl rfl 5 (by decide) (hts (.fieldLink RX8 27 "RingMeetsModel" "list" "[I") (by decide +kernel)) (fun _ h9 => h9) rfl hin rfl (by decide +kernel) rfl rfl (Nat.le_of_ble_eq_true rfl) dX8_init_49 (fun H locs hP hD hS => ?_)
  have hP : va_P (dC, dI) vwCl [(h0, .inr (6, [.ref q_1, .ref q_2, .ref q_3, .ref q_4, .ref q_5, .ref q_6, .int 0, .null, .null, .null, .null, .int 0, .int 0, .null])), (q_1, .inl (cyI, 72, .inl (fun _ => (0 : Int32)))), (q_2, .inl (cyI, 144, .inl (fun _ => (0 : Int32)))), (q_3, .inl (cyZ, 2, .inl (fun _ => (0 : Int32)))), (q_4, .inl (cyI, 11, .inl (fun _ => (0 : Int32)))), (q_5, .inl (cyI, 10, .inl (fun _ => (0 : Int32)))), (q_6, .inl (cyI, 59049, .inl (fun _ => (0 : Int32))))] _ := hP
  have hD : va_D A [(h0, .inr (6, [.ref q_1, .ref q_2, .ref q_3, .ref q_4, .ref q_5, .ref q_6, .int 0, .null, .null, .null, .null, .int 0, .int 0, .null])), (q_1, .inl (cyI, 72, .inl (fun _ => (0 : Int32)))), (q_2, .inl (cyI, 144, .inl (fun _ => (0 : Int32)))), (q_3, .inl (cyZ, 2, .inl (fun _ => (0 : Int32)))), (q_4, .inl (cyI, 11, .inl (fun _ => (0 : Int32)))), (q_5, .inl (cyI, 10, .inl (fun _ => (0 : Int32)))), (q_6, .inl (cyI, 59049, .inl (fun _ => (0 : Int32))))] := hD
  refine lv_aload_n hx hb dX8_init_52 rfl (lv_at hl 0 rfl) ?_
  refine lv_ldc (v := 59049) hx hb hown (hts (.constant RX8 26 (59049)) (by decide +kernel)) dX8_init_53 ?_
  refine bs_newZ (n := 59049) hx hb (hts (.arrayClass .boolean) (by decide +kernel)) hB hP hD hS hA 59049 (by decide) (by decide) (Nat.le_of_ble_eq_true rfl) (Nat.le_of_ble_eq_true rfl) (Nat.le_of_ble_eq_true rfl) dX8_init_55 (fun q_7 H hP hD hS => ?_)
  refine W.widen (k := 7) (n := 118337) (Nat.le_of_ble_eq_true rfl) (Nat.le_of_ble_eq_true rfl) ?_
  have hP : va_P (dC, dI) vwCl [(h0, .inr (6, [.ref q_1, .ref q_2, .ref q_3, .ref q_4, .ref q_5, .ref q_6, .int 0, .null, .null, .null, .null, .int 0, .int 0, .null])), (q_1, .inl (cyI, 72, .inl (fun _ => (0 : Int32)))), (q_2, .inl (cyI, 144, .inl (fun _ => (0 : Int32)))), (q_3, .inl (cyZ, 2, .inl (fun _ => (0 : Int32)))), (q_4, .inl (cyI, 11, .inl (fun _ => (0 : Int32)))), (q_5, .inl (cyI, 10, .inl (fun _ => (0 : Int32)))), (q_6, .inl (cyI, 59049, .inl (fun _ => (0 : Int32)))), (q_7, .inl (cyZ, 59049, .inl (fun _ => (0 : Int32))))] _ := hP
  have hD : va_D A [(h0, .inr (6, [.ref q_1, .ref q_2, .ref q_3, .ref q_4, .ref q_5, .ref q_6, .int 0, .null, .null, .null, .null, .int 0, .int 0, .null])), (q_1, .inl (cyI, 72, .inl (fun _ => (0 : Int32)))), (q_2, .inl (cyI, 144, .inl (fun _ => (0 : Int32)))), (q_3, .inl (cyZ, 2, .inl (fun _ => (0 : Int32)))), (q_4, .inl (cyI, 11, .inl (fun _ => (0 : Int32)))), (q_5, .inl (cyI, 10, .inl (fun _ => (0 : Int32)))), (q_6, .inl (cyI, 59049, .inl (fun _ => (0 : Int32)))), (q_7, .inl (cyZ, 59049, .inl (fun _ => (0 : Int32))))] := hD
  refine va_putF (D := (dC, dI)) (ci := 6) (v := .ref q_7) (ty := (.array .boolean)) (C := RX8) (T := TX8) (N := 14) hx hb hts hnX8_init_X8 tyX8 tyX8_ok nmX8 hown hK hP hD hS 0 rfl rfl 7 (by decide) (hts (.fieldLink RX8 30 "RingMeetsModel" "isListed" "[Z") (by decide +kernel)) (fun _ h9 => h9) rfl hin rfl (by decide +kernel) rfl rfl (Nat.le_of_ble_eq_true rfl) dX8_init_57 (fun H locs hP hD hS => ?_)
  have hP : va_P (dC, dI) vwCl [(h0, .inr (6, [.ref q_1, .ref q_2, .ref q_3, .ref q_4, .ref q_5, .ref q_6, .int 0, .ref q_7, .null, .null, .null, .int 0, .int 0, .null])), (q_1, .inl (cyI, 72, .inl (fun _ => (0 : Int32)))), (q_2, .inl (cyI, 144, .inl (fun _ => (0 : Int32)))), (q_3, .inl (cyZ, 2, .inl (fun _ => (0 : Int32)))), (q_4, .inl (cyI, 11, .inl (fun _ => (0 : Int32)))), (q_5, .inl (cyI, 10, .inl (fun _ => (0 : Int32)))), (q_6, .inl (cyI, 59049, .inl (fun _ => (0 : Int32)))), (q_7, .inl (cyZ, 59049, .inl (fun _ => (0 : Int32))))] _ := hP
  have hD : va_D A [(h0, .inr (6, [.ref q_1, .ref q_2, .ref q_3, .ref q_4, .ref q_5, .ref q_6, .int 0, .ref q_7, .null, .null, .null, .int 0, .int 0, .null])), (q_1, .inl (cyI, 72, .inl (fun _ => (0 : Int32)))), (q_2, .inl (cyI, 144, .inl (fun _ => (0 : Int32)))), (q_3, .inl (cyZ, 2, .inl (fun _ => (0 : Int32)))), (q_4, .inl (cyI, 11, .inl (fun _ => (0 : Int32)))), (q_5, .inl (cyI, 10, .inl (fun _ => (0 : Int32)))), (q_6, .inl (cyI, 59049, .inl (fun _ => (0 : Int32)))), (q_7, .inl (cyZ, 59049, .inl (fun _ => (0 : Int32))))] := hD
  refine lv_aload_n hx hb dX8_init_60 rfl (lv_at hl 0 rfl) ?_
  refine lv_ldc (v := 59049) hx hb hown (hts (.constant RX8 26 (59049)) (by decide +kernel)) dX8_init_61 ?_
  refine bs_newI (n := 59049) hx hb (hts (.arrayClass .int) (by decide +kernel)) hB hP hD hS hA 59049 (by decide) (by decide) (Nat.le_of_ble_eq_true rfl) (Nat.le_of_ble_eq_true rfl) (Nat.le_of_ble_eq_true rfl) dX8_init_63 (fun q_8 H hP hD hS => ?_)
  refine W.widen (k := 8) (n := 177386) (Nat.le_of_ble_eq_true rfl) (Nat.le_of_ble_eq_true rfl) ?_
  have hP : va_P (dC, dI) vwCl [(h0, .inr (6, [.ref q_1, .ref q_2, .ref q_3, .ref q_4, .ref q_5, .ref q_6, .int 0, .ref q_7, .null, .null, .null, .int 0, .int 0, .null])), (q_1, .inl (cyI, 72, .inl (fun _ => (0 : Int32)))), (q_2, .inl (cyI, 144, .inl (fun _ => (0 : Int32)))), (q_3, .inl (cyZ, 2, .inl (fun _ => (0 : Int32)))), (q_4, .inl (cyI, 11, .inl (fun _ => (0 : Int32)))), (q_5, .inl (cyI, 10, .inl (fun _ => (0 : Int32)))), (q_6, .inl (cyI, 59049, .inl (fun _ => (0 : Int32)))), (q_7, .inl (cyZ, 59049, .inl (fun _ => (0 : Int32)))), (q_8, .inl (cyI, 59049, .inl (fun _ => (0 : Int32))))] _ := hP
  have hD : va_D A [(h0, .inr (6, [.ref q_1, .ref q_2, .ref q_3, .ref q_4, .ref q_5, .ref q_6, .int 0, .ref q_7, .null, .null, .null, .int 0, .int 0, .null])), (q_1, .inl (cyI, 72, .inl (fun _ => (0 : Int32)))), (q_2, .inl (cyI, 144, .inl (fun _ => (0 : Int32)))), (q_3, .inl (cyZ, 2, .inl (fun _ => (0 : Int32)))), (q_4, .inl (cyI, 11, .inl (fun _ => (0 : Int32)))), (q_5, .inl (cyI, 10, .inl (fun _ => (0 : Int32)))), (q_6, .inl (cyI, 59049, .inl (fun _ => (0 : Int32)))), (q_7, .inl (cyZ, 59049, .inl (fun _ => (0 : Int32)))), (q_8, .inl (cyI, 59049, .inl (fun _ => (0 : Int32))))] := hD
  refine va_putF (D := (dC, dI)) (ci := 6) (v := .ref q_8) (ty := (.array .int)) (C := RX8) (T := TX8) (N := 14) hx hb hts hnX8_init_X8 tyX8 tyX8_ok nmX8 hown hK hP hD hS 0 rfl rfl 8 (by decide) (hts (.fieldLink RX8 33 "RingMeetsModel" "moves" "[I") (by decide +kernel)) (fun _ h9 => h9) rfl hin rfl (by decide +kernel) rfl rfl (Nat.le_of_ble_eq_true rfl) dX8_init_65 (fun H locs hP hD hS => ?_)
  have hP : va_P (dC, dI) vwCl [(h0, .inr (6, [.ref q_1, .ref q_2, .ref q_3, .ref q_4, .ref q_5, .ref q_6, .int 0, .ref q_7, .ref q_8, .null, .null, .int 0, .int 0, .null])), (q_1, .inl (cyI, 72, .inl (fun _ => (0 : Int32)))), (q_2, .inl (cyI, 144, .inl (fun _ => (0 : Int32)))), (q_3, .inl (cyZ, 2, .inl (fun _ => (0 : Int32)))), (q_4, .inl (cyI, 11, .inl (fun _ => (0 : Int32)))), (q_5, .inl (cyI, 10, .inl (fun _ => (0 : Int32)))), (q_6, .inl (cyI, 59049, .inl (fun _ => (0 : Int32)))), (q_7, .inl (cyZ, 59049, .inl (fun _ => (0 : Int32)))), (q_8, .inl (cyI, 59049, .inl (fun _ => (0 : Int32))))] _ := hP
  have hD : va_D A [(h0, .inr (6, [.ref q_1, .ref q_2, .ref q_3, .ref q_4, .ref q_5, .ref q_6, .int 0, .ref q_7, .ref q_8, .null, .null, .int 0, .int 0, .null])), (q_1, .inl (cyI, 72, .inl (fun _ => (0 : Int32)))), (q_2, .inl (cyI, 144, .inl (fun _ => (0 : Int32)))), (q_3, .inl (cyZ, 2, .inl (fun _ => (0 : Int32)))), (q_4, .inl (cyI, 11, .inl (fun _ => (0 : Int32)))), (q_5, .inl (cyI, 10, .inl (fun _ => (0 : Int32)))), (q_6, .inl (cyI, 59049, .inl (fun _ => (0 : Int32)))), (q_7, .inl (cyZ, 59049, .inl (fun _ => (0 : Int32)))), (q_8, .inl (cyI, 59049, .inl (fun _ => (0 : Int32))))] := hD
  refine lv_aload_n hx hb dX8_init_68 rfl (lv_at hl 0 rfl) ?_
  refine lv_ldc (v := 59049) hx hb hown (hts (.constant RX8 26 (59049)) (by decide +kernel)) dX8_init_69 ?_
  refine bs_newI (n := 59049) hx hb (hts (.arrayClass .int) (by decide +kernel)) hB hP hD hS hA 59049 (by decide) (by decide) (Nat.le_of_ble_eq_true rfl) (Nat.le_of_ble_eq_true rfl) (Nat.le_of_ble_eq_true rfl) dX8_init_71 (fun q_9 H hP hD hS => ?_)
  refine W.widen (k := 9) (n := 236435) (Nat.le_of_ble_eq_true rfl) (Nat.le_of_ble_eq_true rfl) ?_
  have hP : va_P (dC, dI) vwCl [(h0, .inr (6, [.ref q_1, .ref q_2, .ref q_3, .ref q_4, .ref q_5, .ref q_6, .int 0, .ref q_7, .ref q_8, .null, .null, .int 0, .int 0, .null])), (q_1, .inl (cyI, 72, .inl (fun _ => (0 : Int32)))), (q_2, .inl (cyI, 144, .inl (fun _ => (0 : Int32)))), (q_3, .inl (cyZ, 2, .inl (fun _ => (0 : Int32)))), (q_4, .inl (cyI, 11, .inl (fun _ => (0 : Int32)))), (q_5, .inl (cyI, 10, .inl (fun _ => (0 : Int32)))), (q_6, .inl (cyI, 59049, .inl (fun _ => (0 : Int32)))), (q_7, .inl (cyZ, 59049, .inl (fun _ => (0 : Int32)))), (q_8, .inl (cyI, 59049, .inl (fun _ => (0 : Int32)))), (q_9, .inl (cyI, 59049, .inl (fun _ => (0 : Int32))))] _ := hP
  have hD : va_D A [(h0, .inr (6, [.ref q_1, .ref q_2, .ref q_3, .ref q_4, .ref q_5, .ref q_6, .int 0, .ref q_7, .ref q_8, .null, .null, .int 0, .int 0, .null])), (q_1, .inl (cyI, 72, .inl (fun _ => (0 : Int32)))), (q_2, .inl (cyI, 144, .inl (fun _ => (0 : Int32)))), (q_3, .inl (cyZ, 2, .inl (fun _ => (0 : Int32)))), (q_4, .inl (cyI, 11, .inl (fun _ => (0 : Int32)))), (q_5, .inl (cyI, 10, .inl (fun _ => (0 : Int32)))), (q_6, .inl (cyI, 59049, .inl (fun _ => (0 : Int32)))), (q_7, .inl (cyZ, 59049, .inl (fun _ => (0 : Int32)))), (q_8, .inl (cyI, 59049, .inl (fun _ => (0 : Int32)))), (q_9, .inl (cyI, 59049, .inl (fun _ => (0 : Int32))))] := hD
  refine va_putF (D := (dC, dI)) (ci := 6) (v := .ref q_9) (ty := (.array .int)) (C := RX8) (T := TX8) (N := 14) hx hb hts hnX8_init_X8 tyX8 tyX8_ok nmX8 hown hK hP hD hS 0 rfl rfl 9 (by decide) (hts (.fieldLink RX8 36 "RingMeetsModel" "soon" "[I") (by decide +kernel)) (fun _ h9 => h9) rfl hin rfl (by decide +kernel) rfl rfl (Nat.le_of_ble_eq_true rfl) dX8_init_73 (fun H locs hP hD hS => ?_)
  have hP : va_P (dC, dI) vwCl [(h0, .inr (6, [.ref q_1, .ref q_2, .ref q_3, .ref q_4, .ref q_5, .ref q_6, .int 0, .ref q_7, .ref q_8, .ref q_9, .null, .int 0, .int 0, .null])), (q_1, .inl (cyI, 72, .inl (fun _ => (0 : Int32)))), (q_2, .inl (cyI, 144, .inl (fun _ => (0 : Int32)))), (q_3, .inl (cyZ, 2, .inl (fun _ => (0 : Int32)))), (q_4, .inl (cyI, 11, .inl (fun _ => (0 : Int32)))), (q_5, .inl (cyI, 10, .inl (fun _ => (0 : Int32)))), (q_6, .inl (cyI, 59049, .inl (fun _ => (0 : Int32)))), (q_7, .inl (cyZ, 59049, .inl (fun _ => (0 : Int32)))), (q_8, .inl (cyI, 59049, .inl (fun _ => (0 : Int32)))), (q_9, .inl (cyI, 59049, .inl (fun _ => (0 : Int32))))] _ := hP
  have hD : va_D A [(h0, .inr (6, [.ref q_1, .ref q_2, .ref q_3, .ref q_4, .ref q_5, .ref q_6, .int 0, .ref q_7, .ref q_8, .ref q_9, .null, .int 0, .int 0, .null])), (q_1, .inl (cyI, 72, .inl (fun _ => (0 : Int32)))), (q_2, .inl (cyI, 144, .inl (fun _ => (0 : Int32)))), (q_3, .inl (cyZ, 2, .inl (fun _ => (0 : Int32)))), (q_4, .inl (cyI, 11, .inl (fun _ => (0 : Int32)))), (q_5, .inl (cyI, 10, .inl (fun _ => (0 : Int32)))), (q_6, .inl (cyI, 59049, .inl (fun _ => (0 : Int32)))), (q_7, .inl (cyZ, 59049, .inl (fun _ => (0 : Int32)))), (q_8, .inl (cyI, 59049, .inl (fun _ => (0 : Int32)))), (q_9, .inl (cyI, 59049, .inl (fun _ => (0 : Int32))))] := hD
  refine lv_aload_n hx hb dX8_init_76 rfl (lv_at hl 0 rfl) ?_
  refine lv_ldc (v := 59049) hx hb hown (hts (.constant RX8 26 (59049)) (by decide +kernel)) dX8_init_77 ?_
  refine bs_newI (n := 59049) hx hb (hts (.arrayClass .int) (by decide +kernel)) hB hP hD hS hA 59049 (by decide) (by decide) (Nat.le_of_ble_eq_true rfl) (Nat.le_of_ble_eq_true rfl) (Nat.le_of_ble_eq_true rfl) dX8_init_79 (fun q_10 H hP hD hS => ?_)
  refine W.widen (k := 10) (n := 295484) (Nat.le_of_ble_eq_true rfl) (Nat.le_of_ble_eq_true rfl) ?_
  have hP : va_P (dC, dI) vwCl [(h0, .inr (6, [.ref q_1, .ref q_2, .ref q_3, .ref q_4, .ref q_5, .ref q_6, .int 0, .ref q_7, .ref q_8, .ref q_9, .null, .int 0, .int 0, .null])), (q_1, .inl (cyI, 72, .inl (fun _ => (0 : Int32)))), (q_2, .inl (cyI, 144, .inl (fun _ => (0 : Int32)))), (q_3, .inl (cyZ, 2, .inl (fun _ => (0 : Int32)))), (q_4, .inl (cyI, 11, .inl (fun _ => (0 : Int32)))), (q_5, .inl (cyI, 10, .inl (fun _ => (0 : Int32)))), (q_6, .inl (cyI, 59049, .inl (fun _ => (0 : Int32)))), (q_7, .inl (cyZ, 59049, .inl (fun _ => (0 : Int32)))), (q_8, .inl (cyI, 59049, .inl (fun _ => (0 : Int32)))), (q_9, .inl (cyI, 59049, .inl (fun _ => (0 : Int32)))), (q_10, .inl (cyI, 59049, .inl (fun _ => (0 : Int32))))] _ := hP
  have hD : va_D A [(h0, .inr (6, [.ref q_1, .ref q_2, .ref q_3, .ref q_4, .ref q_5, .ref q_6, .int 0, .ref q_7, .ref q_8, .ref q_9, .null, .int 0, .int 0, .null])), (q_1, .inl (cyI, 72, .inl (fun _ => (0 : Int32)))), (q_2, .inl (cyI, 144, .inl (fun _ => (0 : Int32)))), (q_3, .inl (cyZ, 2, .inl (fun _ => (0 : Int32)))), (q_4, .inl (cyI, 11, .inl (fun _ => (0 : Int32)))), (q_5, .inl (cyI, 10, .inl (fun _ => (0 : Int32)))), (q_6, .inl (cyI, 59049, .inl (fun _ => (0 : Int32)))), (q_7, .inl (cyZ, 59049, .inl (fun _ => (0 : Int32)))), (q_8, .inl (cyI, 59049, .inl (fun _ => (0 : Int32)))), (q_9, .inl (cyI, 59049, .inl (fun _ => (0 : Int32)))), (q_10, .inl (cyI, 59049, .inl (fun _ => (0 : Int32))))] := hD
  refine va_putF (D := (dC, dI)) (ci := 6) (v := .ref q_10) (ty := (.array .int)) (C := RX8) (T := TX8) (N := 14) hx hb hts hnX8_init_X8 tyX8 tyX8_ok nmX8 hown hK hP hD hS 0 rfl rfl 10 (by decide) (hts (.fieldLink RX8 39 "RingMeetsModel" "late" "[I") (by decide +kernel)) (fun _ h9 => h9) rfl hin rfl (by decide +kernel) rfl rfl (Nat.le_of_ble_eq_true rfl) dX8_init_81 (fun H locs hP hD hS => ?_)
  have hP : va_P (dC, dI) vwCl [(h0, .inr (6, [.ref q_1, .ref q_2, .ref q_3, .ref q_4, .ref q_5, .ref q_6, .int 0, .ref q_7, .ref q_8, .ref q_9, .ref q_10, .int 0, .int 0, .null])), (q_1, .inl (cyI, 72, .inl (fun _ => (0 : Int32)))), (q_2, .inl (cyI, 144, .inl (fun _ => (0 : Int32)))), (q_3, .inl (cyZ, 2, .inl (fun _ => (0 : Int32)))), (q_4, .inl (cyI, 11, .inl (fun _ => (0 : Int32)))), (q_5, .inl (cyI, 10, .inl (fun _ => (0 : Int32)))), (q_6, .inl (cyI, 59049, .inl (fun _ => (0 : Int32)))), (q_7, .inl (cyZ, 59049, .inl (fun _ => (0 : Int32)))), (q_8, .inl (cyI, 59049, .inl (fun _ => (0 : Int32)))), (q_9, .inl (cyI, 59049, .inl (fun _ => (0 : Int32)))), (q_10, .inl (cyI, 59049, .inl (fun _ => (0 : Int32))))] _ := hP
  have hD : va_D A [(h0, .inr (6, [.ref q_1, .ref q_2, .ref q_3, .ref q_4, .ref q_5, .ref q_6, .int 0, .ref q_7, .ref q_8, .ref q_9, .ref q_10, .int 0, .int 0, .null])), (q_1, .inl (cyI, 72, .inl (fun _ => (0 : Int32)))), (q_2, .inl (cyI, 144, .inl (fun _ => (0 : Int32)))), (q_3, .inl (cyZ, 2, .inl (fun _ => (0 : Int32)))), (q_4, .inl (cyI, 11, .inl (fun _ => (0 : Int32)))), (q_5, .inl (cyI, 10, .inl (fun _ => (0 : Int32)))), (q_6, .inl (cyI, 59049, .inl (fun _ => (0 : Int32)))), (q_7, .inl (cyZ, 59049, .inl (fun _ => (0 : Int32)))), (q_8, .inl (cyI, 59049, .inl (fun _ => (0 : Int32)))), (q_9, .inl (cyI, 59049, .inl (fun _ => (0 : Int32)))), (q_10, .inl (cyI, 59049, .inl (fun _ => (0 : Int32))))] := hD
  refine lv_aload_n hx hb dX8_init_84 rfl (lv_at hl 0 rfl) ?_
  refine lv_bipush (v := 10) hx hb dX8_init_85 (by decide) ?_
  refine bs_newI (n := 10) hx hb (hts (.arrayClass .int) (by decide +kernel)) hB hP hD hS hA 10 (by decide) (by decide) (Nat.le_of_ble_eq_true rfl) (Nat.le_of_ble_eq_true rfl) (Nat.le_of_ble_eq_true rfl) dX8_init_87 (fun q_11 H hP hD hS => ?_)
  refine W.widen (k := 11) (n := 295494) (Nat.le_of_ble_eq_true rfl) (Nat.le_of_ble_eq_true rfl) ?_
  have hP : va_P (dC, dI) vwCl [(h0, .inr (6, [.ref q_1, .ref q_2, .ref q_3, .ref q_4, .ref q_5, .ref q_6, .int 0, .ref q_7, .ref q_8, .ref q_9, .ref q_10, .int 0, .int 0, .null])), (q_1, .inl (cyI, 72, .inl (fun _ => (0 : Int32)))), (q_2, .inl (cyI, 144, .inl (fun _ => (0 : Int32)))), (q_3, .inl (cyZ, 2, .inl (fun _ => (0 : Int32)))), (q_4, .inl (cyI, 11, .inl (fun _ => (0 : Int32)))), (q_5, .inl (cyI, 10, .inl (fun _ => (0 : Int32)))), (q_6, .inl (cyI, 59049, .inl (fun _ => (0 : Int32)))), (q_7, .inl (cyZ, 59049, .inl (fun _ => (0 : Int32)))), (q_8, .inl (cyI, 59049, .inl (fun _ => (0 : Int32)))), (q_9, .inl (cyI, 59049, .inl (fun _ => (0 : Int32)))), (q_10, .inl (cyI, 59049, .inl (fun _ => (0 : Int32)))), (q_11, .inl (cyI, 10, .inl (fun _ => (0 : Int32))))] _ := hP
  have hD : va_D A [(h0, .inr (6, [.ref q_1, .ref q_2, .ref q_3, .ref q_4, .ref q_5, .ref q_6, .int 0, .ref q_7, .ref q_8, .ref q_9, .ref q_10, .int 0, .int 0, .null])), (q_1, .inl (cyI, 72, .inl (fun _ => (0 : Int32)))), (q_2, .inl (cyI, 144, .inl (fun _ => (0 : Int32)))), (q_3, .inl (cyZ, 2, .inl (fun _ => (0 : Int32)))), (q_4, .inl (cyI, 11, .inl (fun _ => (0 : Int32)))), (q_5, .inl (cyI, 10, .inl (fun _ => (0 : Int32)))), (q_6, .inl (cyI, 59049, .inl (fun _ => (0 : Int32)))), (q_7, .inl (cyZ, 59049, .inl (fun _ => (0 : Int32)))), (q_8, .inl (cyI, 59049, .inl (fun _ => (0 : Int32)))), (q_9, .inl (cyI, 59049, .inl (fun _ => (0 : Int32)))), (q_10, .inl (cyI, 59049, .inl (fun _ => (0 : Int32)))), (q_11, .inl (cyI, 10, .inl (fun _ => (0 : Int32))))] := hD
  refine va_putF (D := (dC, dI)) (ci := 6) (v := .ref q_11) (ty := (.array .int)) (C := RX8) (T := TX8) (N := 14) hx hb hts hnX8_init_X8 tyX8 tyX8_ok nmX8 hown hK hP hD hS 0 rfl rfl 13 (by decide) (hts (.fieldLink RX8 42 "RingMeetsModel" "come" "[I") (by decide +kernel)) (fun _ h9 => h9) rfl hin rfl (by decide +kernel) rfl rfl (Nat.le_of_ble_eq_true rfl) dX8_init_89 (fun H locs hP hD hS => ?_)
  have hP : va_P (dC, dI) vwCl [(h0, .inr (6, [.ref q_1, .ref q_2, .ref q_3, .ref q_4, .ref q_5, .ref q_6, .int 0, .ref q_7, .ref q_8, .ref q_9, .ref q_10, .int 0, .int 0, .ref q_11])), (q_1, .inl (cyI, 72, .inl (fun _ => (0 : Int32)))), (q_2, .inl (cyI, 144, .inl (fun _ => (0 : Int32)))), (q_3, .inl (cyZ, 2, .inl (fun _ => (0 : Int32)))), (q_4, .inl (cyI, 11, .inl (fun _ => (0 : Int32)))), (q_5, .inl (cyI, 10, .inl (fun _ => (0 : Int32)))), (q_6, .inl (cyI, 59049, .inl (fun _ => (0 : Int32)))), (q_7, .inl (cyZ, 59049, .inl (fun _ => (0 : Int32)))), (q_8, .inl (cyI, 59049, .inl (fun _ => (0 : Int32)))), (q_9, .inl (cyI, 59049, .inl (fun _ => (0 : Int32)))), (q_10, .inl (cyI, 59049, .inl (fun _ => (0 : Int32)))), (q_11, .inl (cyI, 10, .inl (fun _ => (0 : Int32))))] _ := hP
  have hD : va_D A [(h0, .inr (6, [.ref q_1, .ref q_2, .ref q_3, .ref q_4, .ref q_5, .ref q_6, .int 0, .ref q_7, .ref q_8, .ref q_9, .ref q_10, .int 0, .int 0, .ref q_11])), (q_1, .inl (cyI, 72, .inl (fun _ => (0 : Int32)))), (q_2, .inl (cyI, 144, .inl (fun _ => (0 : Int32)))), (q_3, .inl (cyZ, 2, .inl (fun _ => (0 : Int32)))), (q_4, .inl (cyI, 11, .inl (fun _ => (0 : Int32)))), (q_5, .inl (cyI, 10, .inl (fun _ => (0 : Int32)))), (q_6, .inl (cyI, 59049, .inl (fun _ => (0 : Int32)))), (q_7, .inl (cyZ, 59049, .inl (fun _ => (0 : Int32)))), (q_8, .inl (cyI, 59049, .inl (fun _ => (0 : Int32)))), (q_9, .inl (cyI, 59049, .inl (fun _ => (0 : Int32)))), (q_10, .inl (cyI, 59049, .inl (fun _ => (0 : Int32)))), (q_11, .inl (cyI, 10, .inl (fun _ => (0 : Int32))))] := hD
  refine lv_aload_n hx hb dX8_init_92 rfl (lv_at hl 0 rfl) ?_
  refine va_get (D := (dC, dI)) (ci := 6) (v := .ref q_1) (C := RX8) (T := TX8) (N := 14) hx hb hts hnX8_init_X8 hown hK hP 0 rfl rfl 0 (by decide) (hts (.fieldLink RX8 7 "RingMeetsModel" "state" "[I") (by decide +kernel)) (fun _ h9 => h9) rfl dX8_init_93 ?_
  refine lv_iconst (v := 0) hx hb dX8_init_96 (by decide) ?_
  refine lv_bipush (v := 8) hx hb dX8_init_97 (by decide) ?_
  refine va_iast (D := (dC, dI)) hx hb hK hP hD hS 1 0 rfl rfl (show vp_in 0 72 from vp_in_nI (n := 0) (N := 72) (by decide) (by decide)) dX8_init_99 (fun H locs hP hD hS => ?_)
  obtain ⟨g_12, eg_12⟩ : ∃ y : Nat → Int32, y = upd (fun _ => (0 : Int32)) (Int32.toNatClampNeg 0) 8 := ⟨_, rfl⟩
  have hP : va_P (dC, dI) vwCl [(h0, .inr (6, [.ref q_1, .ref q_2, .ref q_3, .ref q_4, .ref q_5, .ref q_6, .int 0, .ref q_7, .ref q_8, .ref q_9, .ref q_10, .int 0, .int 0, .ref q_11])), (q_1, .inl (cyI, 72, .inl g_12)), (q_2, .inl (cyI, 144, .inl (fun _ => (0 : Int32)))), (q_3, .inl (cyZ, 2, .inl (fun _ => (0 : Int32)))), (q_4, .inl (cyI, 11, .inl (fun _ => (0 : Int32)))), (q_5, .inl (cyI, 10, .inl (fun _ => (0 : Int32)))), (q_6, .inl (cyI, 59049, .inl (fun _ => (0 : Int32)))), (q_7, .inl (cyZ, 59049, .inl (fun _ => (0 : Int32)))), (q_8, .inl (cyI, 59049, .inl (fun _ => (0 : Int32)))), (q_9, .inl (cyI, 59049, .inl (fun _ => (0 : Int32)))), (q_10, .inl (cyI, 59049, .inl (fun _ => (0 : Int32)))), (q_11, .inl (cyI, 10, .inl (fun _ => (0 : Int32))))] H := by rw [eg_12]; exact hP
  have hD : va_D A [(h0, .inr (6, [.ref q_1, .ref q_2, .ref q_3, .ref q_4, .ref q_5, .ref q_6, .int 0, .ref q_7, .ref q_8, .ref q_9, .ref q_10, .int 0, .int 0, .ref q_11])), (q_1, .inl (cyI, 72, .inl g_12)), (q_2, .inl (cyI, 144, .inl (fun _ => (0 : Int32)))), (q_3, .inl (cyZ, 2, .inl (fun _ => (0 : Int32)))), (q_4, .inl (cyI, 11, .inl (fun _ => (0 : Int32)))), (q_5, .inl (cyI, 10, .inl (fun _ => (0 : Int32)))), (q_6, .inl (cyI, 59049, .inl (fun _ => (0 : Int32)))), (q_7, .inl (cyZ, 59049, .inl (fun _ => (0 : Int32)))), (q_8, .inl (cyI, 59049, .inl (fun _ => (0 : Int32)))), (q_9, .inl (cyI, 59049, .inl (fun _ => (0 : Int32)))), (q_10, .inl (cyI, 59049, .inl (fun _ => (0 : Int32)))), (q_11, .inl (cyI, 10, .inl (fun _ => (0 : Int32))))] := by rw [eg_12]; exact hD
  have eg_12 : g_12 = upd (fun _ => (0 : Int32)) 0 8 := eg_12
  refine lv_aload_n hx hb dX8_init_100 rfl (lv_at hl 0 rfl) ?_
  refine va_get (D := (dC, dI)) (ci := 6) (v := .ref q_4) (C := RX8) (T := TX8) (N := 14) hx hb hts hnX8_init_X8 hown hK hP 0 rfl rfl 3 (by decide) (hts (.fieldLink RX8 20 "RingMeetsModel" "power" "[I") (by decide +kernel)) (fun _ h9 => h9) rfl dX8_init_101 ?_
  refine lv_iconst (v := 0) hx hb dX8_init_104 (by decide) ?_
  refine lv_iconst (v := 1) hx hb dX8_init_105 (by decide) ?_
  refine va_iast (D := (dC, dI)) hx hb hK hP hD hS 4 0 rfl rfl (show vp_in 0 11 from vp_in_nI (n := 0) (N := 11) (by decide) (by decide)) dX8_init_106 (fun H locs hP hD hS => ?_)
  obtain ⟨g_13, eg_13⟩ : ∃ y : Nat → Int32, y = upd (fun _ => (0 : Int32)) (Int32.toNatClampNeg 0) 1 := ⟨_, rfl⟩
  have hP : va_P (dC, dI) vwCl [(h0, .inr (6, [.ref q_1, .ref q_2, .ref q_3, .ref q_4, .ref q_5, .ref q_6, .int 0, .ref q_7, .ref q_8, .ref q_9, .ref q_10, .int 0, .int 0, .ref q_11])), (q_1, .inl (cyI, 72, .inl g_12)), (q_2, .inl (cyI, 144, .inl (fun _ => (0 : Int32)))), (q_3, .inl (cyZ, 2, .inl (fun _ => (0 : Int32)))), (q_4, .inl (cyI, 11, .inl g_13)), (q_5, .inl (cyI, 10, .inl (fun _ => (0 : Int32)))), (q_6, .inl (cyI, 59049, .inl (fun _ => (0 : Int32)))), (q_7, .inl (cyZ, 59049, .inl (fun _ => (0 : Int32)))), (q_8, .inl (cyI, 59049, .inl (fun _ => (0 : Int32)))), (q_9, .inl (cyI, 59049, .inl (fun _ => (0 : Int32)))), (q_10, .inl (cyI, 59049, .inl (fun _ => (0 : Int32)))), (q_11, .inl (cyI, 10, .inl (fun _ => (0 : Int32))))] H := by rw [eg_13]; exact hP
  have hD : va_D A [(h0, .inr (6, [.ref q_1, .ref q_2, .ref q_3, .ref q_4, .ref q_5, .ref q_6, .int 0, .ref q_7, .ref q_8, .ref q_9, .ref q_10, .int 0, .int 0, .ref q_11])), (q_1, .inl (cyI, 72, .inl g_12)), (q_2, .inl (cyI, 144, .inl (fun _ => (0 : Int32)))), (q_3, .inl (cyZ, 2, .inl (fun _ => (0 : Int32)))), (q_4, .inl (cyI, 11, .inl g_13)), (q_5, .inl (cyI, 10, .inl (fun _ => (0 : Int32)))), (q_6, .inl (cyI, 59049, .inl (fun _ => (0 : Int32)))), (q_7, .inl (cyZ, 59049, .inl (fun _ => (0 : Int32)))), (q_8, .inl (cyI, 59049, .inl (fun _ => (0 : Int32)))), (q_9, .inl (cyI, 59049, .inl (fun _ => (0 : Int32)))), (q_10, .inl (cyI, 59049, .inl (fun _ => (0 : Int32)))), (q_11, .inl (cyI, 10, .inl (fun _ => (0 : Int32))))] := by rw [eg_13]; exact hD
  have eg_13 : g_13 = upd (fun _ => (0 : Int32)) 0 1 := eg_13
  refine lv_iconst (v := 1) hx hb dX8_init_107 (by decide) ?_
  refine lv_istore_n (lv' := [(1, .int 1), (0, .ref h0)]) hx hb dX8_init_108 rfl hl (by decide) rfl (fun ls hl => ?_)
  have L109 : ∀ (n109 : Nat), ∀ (k : Nat) (fp : Nat → Int32), (1 ≤ k ∧ k ≤ 11) → (12 ≤ k + n109) → (∀ j, j < k → fp j = nI (3 ^ j)) → ∀ (H : Heap) (locs : List Loc), va_P (dC, dI) vwCl [(h0, .inr (6, [.ref q_1, .ref q_2, .ref q_3, .ref q_4, .ref q_5, .ref q_6, .int 0, .ref q_7, .ref q_8, .ref q_9, .ref q_10, .int 0, .int 0, .ref q_11])), (q_1, .inl (cyI, 72, .inl g_12)), (q_2, .inl (cyI, 144, .inl (fun _ => (0 : Int32)))), (q_3, .inl (cyZ, 2, .inl (fun _ => (0 : Int32)))), (q_4, .inl (cyI, 11, .inl fp)), (q_5, .inl (cyI, 10, .inl (fun _ => (0 : Int32)))), (q_6, .inl (cyI, 59049, .inl (fun _ => (0 : Int32)))), (q_7, .inl (cyZ, 59049, .inl (fun _ => (0 : Int32)))), (q_8, .inl (cyI, 59049, .inl (fun _ => (0 : Int32)))), (q_9, .inl (cyI, 59049, .inl (fun _ => (0 : Int32)))), (q_10, .inl (cyI, 59049, .inl (fun _ => (0 : Int32)))), (q_11, .inl (cyI, 10, .inl (fun _ => (0 : Int32))))] H → va_D A [(h0, .inr (6, [.ref q_1, .ref q_2, .ref q_3, .ref q_4, .ref q_5, .ref q_6, .int 0, .ref q_7, .ref q_8, .ref q_9, .ref q_10, .int 0, .int 0, .ref q_11])), (q_1, .inl (cyI, 72, .inl g_12)), (q_2, .inl (cyI, 144, .inl (fun _ => (0 : Int32)))), (q_3, .inl (cyZ, 2, .inl (fun _ => (0 : Int32)))), (q_4, .inl (cyI, 11, .inl fp)), (q_5, .inl (cyI, 10, .inl (fun _ => (0 : Int32)))), (q_6, .inl (cyI, 59049, .inl (fun _ => (0 : Int32)))), (q_7, .inl (cyZ, 59049, .inl (fun _ => (0 : Int32)))), (q_8, .inl (cyI, 59049, .inl (fun _ => (0 : Int32)))), (q_9, .inl (cyI, 59049, .inl (fun _ => (0 : Int32)))), (q_10, .inl (cyI, 59049, .inl (fun _ => (0 : Int32)))), (q_11, .inl (cyI, 10, .inl (fun _ => (0 : Int32))))] → va_S A s.heap H locs → ∀ (ls : Array Slot), lv_has ls 2 [(0, .ref h0), (1, .int (nI k))] → W p l e (headSpec wsX8_init ({ frames := 1, cells := 11, slots := 295494, locals := 20 })).room s m ([.ref h0] : List Value).toArray below meth c H locs 11 295494 (MQ below (va_Qv (S := (Nat × Nat × Nat × Nat × Nat × Nat × Nat × Nat × Nat × Nat × Nat) × (Nat → Int32) × (Nat → Int32)) (fun q : (Nat × Nat × Nat × Nat × Nat × Nat × Nat × Nat × Nat × Nat × Nat) × (Nat → Int32) × (Nat → Int32) => q.2.1 0 = 8 ∧ (∀ j, 1 ≤ j → q.2.1 j = 0) ∧ (∀ j, j ≤ 10 → q.2.2 j = nI (3 ^ j))) (fun q t => bs_E dC dI A [(h0, .inr (6, [.ref q.1.1, .ref q.1.2.1, .ref q.1.2.2.1, .ref q.1.2.2.2.1, .ref q.1.2.2.2.2.1, .ref q.1.2.2.2.2.2.1, .int 0, .ref q.1.2.2.2.2.2.2.1, .ref q.1.2.2.2.2.2.2.2.1, .ref q.1.2.2.2.2.2.2.2.2.1, .ref q.1.2.2.2.2.2.2.2.2.2.1, .int 0, .int 0, .ref q.1.2.2.2.2.2.2.2.2.2.2])), (q.1.1, .inl (cyI, 72, .inl q.2.1)), (q.1.2.1, .inl (cyI, 144, .inl (fun _ => (0 : Int32)))), (q.1.2.2.1, .inl (cyZ, 2, .inl (fun _ => (0 : Int32)))), (q.1.2.2.2.1, .inl (cyI, 11, .inl q.2.2)), (q.1.2.2.2.2.1, .inl (cyI, 10, .inl (fun _ => (0 : Int32)))), (q.1.2.2.2.2.2.1, .inl (cyI, 59049, .inl (fun _ => (0 : Int32)))), (q.1.2.2.2.2.2.2.1, .inl (cyZ, 59049, .inl (fun _ => (0 : Int32)))), (q.1.2.2.2.2.2.2.2.1, .inl (cyI, 59049, .inl (fun _ => (0 : Int32)))), (q.1.2.2.2.2.2.2.2.2.1, .inl (cyI, 59049, .inl (fun _ => (0 : Int32)))), (q.1.2.2.2.2.2.2.2.2.2.1, .inl (cyI, 59049, .inl (fun _ => (0 : Int32)))), (q.1.2.2.2.2.2.2.2.2.2.2, .inl (cyI, 10, .inl (fun _ => (0 : Int32))))] t) A) ([.ref h0] : List Value).toArray s 11 295494 A) (F0 m 109 ls []) := by
    intro n109
    induction n109 with
    | zero =>
      intro k fp hk109 hn109 hp H locs hP hD hS ls hl
      exfalso
      omega
    | succ n109 ih109 =>
      intro k fp hk109 hn109 hp H locs hP hD hS ls hl
      refine lv_iload_n hx hb dX8_init_109 rfl (lv_at hl 1 rfl) ?_
      refine lv_bipush (v := 11) hx hb dX8_init_110 (by decide) ?_
      refine lv_icmp_ge (tgt := 137) hx hb dX8_init_112 (by decide) (fun c_14 => ?_) (fun c_14 => ?_)
      · skip
        have ic_14 := ci_le (show Int32.toInt 11 = 11 by decide) (nI_toInt (n := k) (by omega)) c_14
        exact W.vret hx hb hr (fun t ht hW => ⟨⟨((q_1, q_2, q_3, q_4, q_5, q_6, q_7, q_8, q_9, q_10, q_11), g_12, fp), rfl, ⟨(show g_12 0 = 8 by rw [eg_12]; rfl), (fun j hj => (show g_12 j = 0 by rw [eg_12]; unfold upd; rw [if_neg (by omega)])), (fun j hj => hp j (by omega))⟩, ⟨by rw [ht]; exact hP.sub (ws' := [(h0, .inr (6, [.ref q_1, .ref q_2, .ref q_3, .ref q_4, .ref q_5, .ref q_6, .int 0, .ref q_7, .ref q_8, .ref q_9, .ref q_10, .int 0, .int 0, .ref q_11])), (q_1, .inl (cyI, 72, .inl g_12)), (q_2, .inl (cyI, 144, .inl (fun _ => (0 : Int32)))), (q_3, .inl (cyZ, 2, .inl (fun _ => (0 : Int32)))), (q_4, .inl (cyI, 11, .inl fp)), (q_5, .inl (cyI, 10, .inl (fun _ => (0 : Int32)))), (q_6, .inl (cyI, 59049, .inl (fun _ => (0 : Int32)))), (q_7, .inl (cyZ, 59049, .inl (fun _ => (0 : Int32)))), (q_8, .inl (cyI, 59049, .inl (fun _ => (0 : Int32)))), (q_9, .inl (cyI, 59049, .inl (fun _ => (0 : Int32)))), (q_10, .inl (cyI, 59049, .inl (fun _ => (0 : Int32)))), (q_11, .inl (cyI, 10, .inl (fun _ => (0 : Int32))))]) [0, 1, 2, 3, 4, 5, 6, 7, 8, 9, 10, 11] rfl, hD.sub (ws' := [(h0, .inr (6, [.ref q_1, .ref q_2, .ref q_3, .ref q_4, .ref q_5, .ref q_6, .int 0, .ref q_7, .ref q_8, .ref q_9, .ref q_10, .int 0, .int 0, .ref q_11])), (q_1, .inl (cyI, 72, .inl g_12)), (q_2, .inl (cyI, 144, .inl (fun _ => (0 : Int32)))), (q_3, .inl (cyZ, 2, .inl (fun _ => (0 : Int32)))), (q_4, .inl (cyI, 11, .inl fp)), (q_5, .inl (cyI, 10, .inl (fun _ => (0 : Int32)))), (q_6, .inl (cyI, 59049, .inl (fun _ => (0 : Int32)))), (q_7, .inl (cyZ, 59049, .inl (fun _ => (0 : Int32)))), (q_8, .inl (cyI, 59049, .inl (fun _ => (0 : Int32)))), (q_9, .inl (cyI, 59049, .inl (fun _ => (0 : Int32)))), (q_10, .inl (cyI, 59049, .inl (fun _ => (0 : Int32)))), (q_11, .inl (cyI, 10, .inl (fun _ => (0 : Int32))))]) [0, 1, 2, 3, 4, 5, 6, 7, 8, 9, 10, 11] (by decide) rfl⟩⟩, hS.F ht⟩) hS.2.2 dX8_init_137
      · skip
        have ic_14 := ci_nle (show Int32.toInt 11 = 11 by decide) (nI_toInt (n := k) (by omega)) c_14
        refine lv_aload_n hx hb dX8_init_115 rfl (lv_at hl 0 rfl) ?_
        refine va_get (D := (dC, dI)) (ci := 6) (v := .ref q_4) (C := RX8) (T := TX8) (N := 14) hx hb hts hnX8_init_X8 hown hK hP 0 rfl rfl 3 (by decide) (hts (.fieldLink RX8 20 "RingMeetsModel" "power" "[I") (by decide +kernel)) (fun _ h9 => h9) rfl dX8_init_116 ?_
        refine lv_iload_n hx hb dX8_init_119 rfl (lv_at hl 1 rfl) ?_
        refine lv_iconst (v := 3) hx hb dX8_init_120 (by decide) ?_
        refine lv_aload_n hx hb dX8_init_121 rfl (lv_at hl 0 rfl) ?_
        refine va_get (D := (dC, dI)) (ci := 6) (v := .ref q_4) (C := RX8) (T := TX8) (N := 14) hx hb hts hnX8_init_X8 hown hK hP 0 rfl rfl 3 (by decide) (hts (.fieldLink RX8 20 "RingMeetsModel" "power" "[I") (by decide +kernel)) (fun _ h9 => h9) rfl dX8_init_122 ?_
        refine lv_iload_n hx hb dX8_init_125 rfl (lv_at hl 1 rfl) ?_
        refine lv_iconst (v := 1) hx hb dX8_init_126 (by decide) ?_
        refine lv_isub hx hb dX8_init_127 ?_
        refine lv_topi (fun x_15 ex_15 => ?_)
        obtain rfl : (nI (k - 1)) = x_15 := (ex_15.trans (nb_sub (a := k) (b := 1) (by omega))).symm
        refine va_iald (D := (dC, dI)) hx hb hK hP 4 0 rfl rfl (vp_in_nI (n := (k - 1)) (N := 11) (by omega) (by omega)) dX8_init_128 ?_
        refine lv_topi (fun x_16 ex_16 => ?_)
        rw [nI_clamp (n := (k - 1)) (by omega)] at ex_16
        obtain rfl : (nI (3 ^ (k - 1))) = x_16 := (ex_16.trans (hp _ (by omega))).symm
        refine lv_imul hx hb dX8_init_129 ?_
        refine lv_topi (fun x_17 ex_17 => ?_)
        obtain rfl : (nI (3 ^ k)) = x_17 := (ex_17.trans (nb_p3s (by omega))).symm
        refine va_iast (D := (dC, dI)) hx hb hK hP hD hS 4 0 rfl rfl (vp_in_nI (n := k) (N := 11) (by omega) (by omega)) dX8_init_130 (fun H locs hP hD hS => ?_)
        obtain ⟨g_18, eg_18⟩ : ∃ y : Nat → Int32, y = upd fp (Int32.toNatClampNeg (nI k)) (nI (3 ^ k)) := ⟨_, rfl⟩
        have hP : va_P (dC, dI) vwCl [(h0, .inr (6, [.ref q_1, .ref q_2, .ref q_3, .ref q_4, .ref q_5, .ref q_6, .int 0, .ref q_7, .ref q_8, .ref q_9, .ref q_10, .int 0, .int 0, .ref q_11])), (q_1, .inl (cyI, 72, .inl g_12)), (q_2, .inl (cyI, 144, .inl (fun _ => (0 : Int32)))), (q_3, .inl (cyZ, 2, .inl (fun _ => (0 : Int32)))), (q_4, .inl (cyI, 11, .inl g_18)), (q_5, .inl (cyI, 10, .inl (fun _ => (0 : Int32)))), (q_6, .inl (cyI, 59049, .inl (fun _ => (0 : Int32)))), (q_7, .inl (cyZ, 59049, .inl (fun _ => (0 : Int32)))), (q_8, .inl (cyI, 59049, .inl (fun _ => (0 : Int32)))), (q_9, .inl (cyI, 59049, .inl (fun _ => (0 : Int32)))), (q_10, .inl (cyI, 59049, .inl (fun _ => (0 : Int32)))), (q_11, .inl (cyI, 10, .inl (fun _ => (0 : Int32))))] H := by rw [eg_18]; exact hP
        have hD : va_D A [(h0, .inr (6, [.ref q_1, .ref q_2, .ref q_3, .ref q_4, .ref q_5, .ref q_6, .int 0, .ref q_7, .ref q_8, .ref q_9, .ref q_10, .int 0, .int 0, .ref q_11])), (q_1, .inl (cyI, 72, .inl g_12)), (q_2, .inl (cyI, 144, .inl (fun _ => (0 : Int32)))), (q_3, .inl (cyZ, 2, .inl (fun _ => (0 : Int32)))), (q_4, .inl (cyI, 11, .inl g_18)), (q_5, .inl (cyI, 10, .inl (fun _ => (0 : Int32)))), (q_6, .inl (cyI, 59049, .inl (fun _ => (0 : Int32)))), (q_7, .inl (cyZ, 59049, .inl (fun _ => (0 : Int32)))), (q_8, .inl (cyI, 59049, .inl (fun _ => (0 : Int32)))), (q_9, .inl (cyI, 59049, .inl (fun _ => (0 : Int32)))), (q_10, .inl (cyI, 59049, .inl (fun _ => (0 : Int32)))), (q_11, .inl (cyI, 10, .inl (fun _ => (0 : Int32))))] := by rw [eg_18]; exact hD
        rw [nI_clamp (n := k) (by omega)] at eg_18
        refine lv_iinc (v := (nI (k + 1))) (lv' := [(1, .int (nI (k + 1))), (0, .ref h0)]) hx hb dX8_init_131 hl (k := 1) rfl (nI_1 _) (by decide) rfl (fun ls hl => ?_)
        refine lv_goto (tgt := 109) hx hb dX8_init_134 (by decide) ?_
        exact ih109 (k + 1) g_18 ⟨by omega, by omega⟩ (by omega) (fun j hj => by rw [eg_18]; unfold upd; split; (rename_i q; rw [q]); exact hp j (by omega)) _ _ (hP.sub [0, 1, 2, 3, 4, 5, 6, 7, 8, 9, 10, 11] rfl) (hD.sub [0, 1, 2, 3, 4, 5, 6, 7, 8, 9, 10, 11] (by decide) rfl) hS _ (lv_sub hl [1, 0] rfl)
  exact L109 12 1 g_13 ⟨by omega, by omega⟩ (by omega) (fun j hj => by rw [eg_13]; rw [show j = 0 by omega]; rfl) _ _ (hP.sub [0, 1, 2, 3, 4, 5, 6, 7, 8, 9, 10, 11] rfl) (hD.sub [0, 1, 2, 3, 4, 5, 6, 7, 8, 9, 10, 11] (by decide) rfl) hS _ (lv_sub hl [1, 0] rfl)
