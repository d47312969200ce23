set_option maxHeartbeats 4000000 in
set_option maxRecDepth 100000 in
theorem kX8_beside (l : Launch) (dC : Nat → ClassId) (dI : Nat → Nat → Nat) (cyI cyZ : ClassId) (h0 st im kp pw nx li il mv so la co : Nat) (d6 d11 d12 : Int32) (fs : Nat → Int32) (h8 : fs 0 = 8) (va w : Nat) (ha9 : va < 8) (hw9 : w ≤ 16) (p2 : Int32) (hp2 : p2 = nI w - 8) : Met l yX8_beside wsX8_beside ({ frames := 1, cells := 0, slots := 0, locals := 20 }) (bs_R dC dI cyI cyZ [.ref h0, .int (nI va), .int p2] [(h0, .inr (6, [.ref st, .ref im, .ref kp, .ref pw, .ref nx, .ref li, .int d6, .ref il, .ref mv, .ref so, .ref la, .int d11, .int d12, .ref co])), (st, .inl (cyI, 72, .inl fs))]) (vp_Si (fun r : Int32 => r = nI ((va + w) % 8))) 0 0 (fun _ => False) := by
  refine Met.ofW (cc := cX8_beside) (maxL := 3) (ret := (some .int)) (by decide) rfl ?_
  intro p e s m args below meth c s₁ B hml hv
  obtain ⟨rfl, hB, hP⟩ := hv
  have hK := hB.1
  have hN := hB.2
  have hx := B.exec
  have hb := B.bytes
  have hr := B.returns
  have hts := atoms_spec (ws := wsX8_beside) B.pre
  have hown : s.vm.findClass RX8 = some m.cls := findClass_of_methodNamed B.named
  have hlocks := B.notSynchronized
  have hP : va_P (dC, dI) vwCl [(h0, .inr (6, [.ref st, .ref im, .ref kp, .ref pw, .ref nx, .ref li, .int d6, .ref il, .ref mv, .ref so, .ref la, .int d11, .int d12, .ref co])), (st, .inl (cyI, 72, .inl fs))] s.heap := hP
  have hl := lv_entry ([.ref h0, .int (nI va), .int p2]) (n := 3) (Nat.le_of_ble_eq_true rfl)
  rw [lg_entry_eq]
  generalize (lg_sl ([.ref h0, .int (nI va), .int p2]) ++ List.replicate (3 - (lg_sl ([.ref h0, .int (nI va), .int p2])).length) Slot.unset).toArray = ls at hl ⊢
  have hl : lv_has ls 3 [(0, .ref h0), (1, .int (nI va)), (2, .int p2)] := hl
  refine lv_iload_n hx hb dX8_beside_0 rfl (lv_at hl 1 rfl) ?_
  refine lv_iload_n hx hb dX8_beside_1 rfl (lv_at hl 2 rfl) ?_
  refine lv_iadd hx hb dX8_beside_2 ?_
  refine lv_topi (fun x_1 ex_1 => ?_)
  refine lv_aload_n hx hb dX8_beside_3 rfl (lv_at hl 0 rfl) ?_
  refine vp_callSi (va_Run.run (va_runV (As := []) (rest := [.int x_1]) ⟨hx, hb, hml, hown, hts⟩ (kX8_cells l dC dI cyI cyZ h0 st im kp pw nx li il mv so la co d6 d11 d12 fs h8) (cwV 0 hts gX8_beside_X8_cells rfl rfl rfl (by decide +kernel) ⟨Nat.le_of_ble_eq_true rfl, Nat.le_of_ble_eq_true rfl⟩) (bs_RV hB (hP.sub (ws' := [(h0, .inr (6, [.ref st, .ref im, .ref kp, .ref pw, .ref nx, .ref li, .int d6, .ref il, .ref mv, .ref so, .ref la, .int d11, .int d12, .ref co])), (st, .inl (cyI, 72, .inl fs))]) [0, 1] rfl) 0 rfl rfl) rfl rfl hl.1 rfl (lv_room (Nat.le_of_ble_eq_true rfl)) dX8_beside_4 ⟨Nat.le_of_ble_eq_true rfl, Nat.le_of_ble_eq_true rfl⟩)) (fun r_2 hr_2 => ?_)
  obtain rfl : r_2 = 8 := hr_2
  refine lv_iadd hx hb dX8_beside_7 ?_
  refine lv_topi (fun x_3 ex_3 => ?_)
  refine lv_aload_n hx hb dX8_beside_8 rfl (lv_at hl 0 rfl) ?_
  refine vp_callSi (va_Run.run (va_runV (As := []) (rest := [.int x_3]) ⟨hx, hb, hml, hown, hts⟩ (kX8_cells l dC dI cyI cyZ h0 st im kp pw nx li il mv so la co d6 d11 d12 fs h8) (cwV 0 hts gX8_beside_X8_cells rfl rfl rfl (by decide +kernel) ⟨Nat.le_of_ble_eq_true rfl, Nat.le_of_ble_eq_true rfl⟩) (bs_RV hB (hP.sub (ws' := [(h0, .inr (6, [.ref st, .ref im, .ref kp, .ref pw, .ref nx, .ref li, .int d6, .ref il, .ref mv, .ref so, .ref la, .int d11, .int d12, .ref co])), (st, .inl (cyI, 72, .inl fs))]) [0, 1] rfl) 0 rfl rfl) rfl rfl hl.1 rfl (lv_room (Nat.le_of_ble_eq_true rfl)) dX8_beside_9 ⟨Nat.le_of_ble_eq_true rfl, Nat.le_of_ble_eq_true rfl⟩)) (fun r_4 hr_4 => ?_)
  obtain rfl : r_4 = 8 := hr_4
  refine lv_irem hx hb dX8_beside_12 (by decide) ?_
  refine lv_topi (fun x_5 ex_5 => ?_)
  exact W.iret (v := x_5) hx hb hr (fun t ht hW => ⟨x_5, rfl, (show x_5 = nI ((va + w) % 8) by rw [ex_5, ex_3, ex_1, hp2]; exact nb_bes ha9 hw9), ht⟩) (fun q h => by cases h) dX8_beside_13

set_option maxHeartbeats 4000000 in
set_option maxRecDepth 100000 in
theorem kX8_far (l : Launch) (dC : Nat → ClassId) (dI : Nat → Nat → Nat) (cyI cyZ : ClassId) (h0 st im kp pw nx li il mv so la co : Nat) (d6 d11 d12 : Int32) (fs : Nat → Int32) (h8 : fs 0 = 8) (x w : Nat) (hx9 : x < 256) (hx0 : 0 < x) (hw : w = 7 ∨ w = 9) (va : Nat) (ha9 : va < 8) (p3 : Int32) (hp3 : p3 = nI w - 8) : Met l yX8_far wsX8_far ({ frames := 2, cells := 0, slots := 0, locals := 42 }) (bs_R dC dI cyI cyZ [.ref h0, .int (nI x), .int (nI va), .int p3] [(h0, .inr (6, [.ref st, .ref im, .ref kp, .ref pw, .ref nx, .ref li, .int d6, .ref il, .ref mv, .ref so, .ref la, .int d11, .int d12, .ref co])), (st, .inl (cyI, 72, .inl fs))]) (vp_Si (fun r : Int32 => ∃ v : Nat, r = nI v ∧ 1 ≤ v ∧ v ≤ 8)) 0 0 (fun _ => False) := by
  refine Met.ofW (cc := cX8_far) (maxL := 6) (ret := (some .int)) (by decide) rfl ?_
  intro p e s m args below meth c s₁ B hml hv
  obtain ⟨rfl, hB, hP⟩ := hv
  have hK := hB.1
  have hN := hB.2
  have hx := B.exec
  have hb := B.bytes
  have hr := B.returns
  have hts := atoms_spec (ws := wsX8_far) B.pre
  have hown : s.vm.findClass RX8 = some m.cls := findClass_of_methodNamed B.named
  have hlocks := B.notSynchronized
  have hP : va_P (dC, dI) vwCl [(h0, .inr (6, [.ref st, .ref im, .ref kp, .ref pw, .ref nx, .ref li, .int d6, .ref il, .ref mv, .ref so, .ref la, .int d11, .int d12, .ref co])), (st, .inl (cyI, 72, .inl fs))] s.heap := hP
  have hl := lv_entry ([.ref h0, .int (nI x), .int (nI va), .int p3]) (n := 6) (Nat.le_of_ble_eq_true rfl)
  rw [lg_entry_eq]
  generalize (lg_sl ([.ref h0, .int (nI x), .int (nI va), .int p3]) ++ List.replicate (6 - (lg_sl ([.ref h0, .int (nI x), .int (nI va), .int p3])).length) Slot.unset).toArray = ls at hl ⊢
  have hl : lv_has ls 6 [(0, .ref h0), (1, .int (nI x)), (2, .int (nI va)), (3, .int p3)] := hl
  refine lv_iconst (v := 1) hx hb dX8_far_0 (by decide) ?_
  refine lv_istore (lv' := [(4, .int 1), (0, .ref h0), (1, .int (nI x)), (2, .int (nI va)), (3, .int p3)]) hx hb dX8_far_1 hl (by decide) rfl (fun ls hl => ?_)
  refine lv_aload_n hx hb dX8_far_3 rfl (lv_at hl 1 rfl) ?_
  refine lv_iload_n hx hb dX8_far_4 rfl (lv_at hl 3 rfl) ?_
  refine lv_iload_n hx hb dX8_far_5 rfl (lv_at hl 4 rfl) ?_
  refine vp_callSi (va_Run.run (va_runV (As := [.int (nI va), .int p3]) (rest := []) ⟨hx, hb, hml, hown, hts⟩ (kX8_beside l dC dI cyI cyZ h0 st im kp pw nx li il mv so la co d6 d11 d12 fs h8 va w (by omega) (by omega) p3 hp3) (cwV 2 hts gX8_far_X8_beside rfl rfl rfl (by decide +kernel) ⟨Nat.le_of_ble_eq_true rfl, Nat.le_of_ble_eq_true rfl⟩) (bs_RV hB (hP.sub (ws' := [(h0, .inr (6, [.ref st, .ref im, .ref kp, .ref pw, .ref nx, .ref li, .int d6, .ref il, .ref mv, .ref so, .ref la, .int d11, .int d12, .ref co])), (st, .inl (cyI, 72, .inl fs))]) [0, 1] rfl) 0 rfl rfl) rfl rfl hl.1 rfl (lv_room (Nat.le_of_ble_eq_true rfl)) dX8_far_6 ⟨Nat.le_of_ble_eq_true rfl, Nat.le_of_ble_eq_true rfl⟩)) (fun r_1 hr_1 => ?_)
  obtain rfl : (nI ((va + w) % 8)) = r_1 := Eq.symm hr_1
  refine lv_istore (lv' := [(5, .int (nI ((va + w) % 8))), (4, .int 1), (0, .ref h0), (1, .int (nI x)), (2, .int (nI va)), (3, .int p3)]) hx hb dX8_far_9 hl (by decide) rfl (fun ls hl => ?_)
  have L11 : ∀ (n11 : Nat), ∀ (vb qv : Nat), (vb < 8) → (1 ≤ qv ∧ qv + nb_ds x w 8 vb ≤ 8) → (nb_ds x w 8 vb < n11) → ∀ (ls : Array Slot), lv_has ls 6 [(0, .ref h0), (1, .int (nI x)), (3, .int p3), (4, .int (nI qv)), (5, .int (nI vb))] → W p l e (headSpec wsX8_far ({ frames := 2, cells := 0, slots := 0, locals := 42 })).room s m ([.ref h0, .int (nI x), .int (nI va), .int p3] : List Value).toArray below meth c s.heap [] 0 0 (MQ below (vp_Si (fun r : Int32 => ∃ v : Nat, r = nI v ∧ 1 ≤ v ∧ v ≤ 8)) ([.ref h0, .int (nI x), .int (nI va), .int p3] : List Value).toArray s 0 0 (fun _ => False)) (F0 m 11 ls []) := by
    intro n11
    induction n11 with
    | zero =>
      intro vb qv hb9 hq9 hn11 ls hl
      exfalso
      omega
    | succ n11 ih11 =>
      intro vb qv hb9 hq9 hn11 ls hl
      refine lv_iload_n hx hb dX8_far_11 rfl (lv_at hl 1 rfl) ?_
      refine lv_iload hx hb dX8_far_12 (lv_at hl 4 rfl) ?_
      refine lv_ishr hx hb dX8_far_14 ?_
      refine lv_topi (fun x_2 ex_2 => ?_)
      refine lv_iconst (v := 1) hx hb dX8_far_15 (by decide) ?_
      refine lv_iand hx hb dX8_far_16 ?_
      refine lv_topi (fun x_3 ex_3 => ?_)
      refine lv_if_ne (tgt := 35) hx hb dX8_far_17 (by decide) (fun c_4 => ?_) (fun c_4 => ?_)
      · skip
        have ic_4 := ci_ne (rfl : Int32.toInt x_3 = _) (show Int32.toInt 0 = 0 by decide) c_4
        refine lv_iload hx hb dX8_far_35 (lv_at hl 3 rfl) ?_
        exact W.iret (v := (nI qv)) hx hb hr (fun t ht hW => ⟨(nI qv), rfl, ⟨qv, rfl, by omega, by omega⟩, ht⟩) (fun q h => by cases h) dX8_far_37
      · skip
        have ic_4 := ci_eq (rfl : Int32.toInt x_3 = _) (show Int32.toInt 0 = 0 by decide) c_4
        have hds := nb_dse hx9 hx0 hb9 hw (by rw [← ex_2, ← ex_3]; exact c_4)
        refine lv_aload_n hx hb dX8_far_20 rfl (lv_at hl 0 rfl) ?_
        refine lv_iload hx hb dX8_far_21 (lv_at hl 4 rfl) ?_
        refine lv_iload_n hx hb dX8_far_23 rfl (lv_at hl 2 rfl) ?_
        refine vp_callSi (va_Run.run (va_runV (As := [.int (nI vb), .int p3]) (rest := []) ⟨hx, hb, hml, hown, hts⟩ (kX8_beside l dC dI cyI cyZ h0 st im kp pw nx li il mv so la co d6 d11 d12 fs h8 vb w (by omega) (by omega) p3 hp3) (cwV 2 hts gX8_far_X8_beside rfl rfl rfl (by decide +kernel) ⟨Nat.le_of_ble_eq_true rfl, Nat.le_of_ble_eq_true rfl⟩) (bs_RV hB (hP.sub (ws' := [(h0, .inr (6, [.ref st, .ref im, .ref kp, .ref pw, .ref nx, .ref li, .int d6, .ref il, .ref mv, .ref so, .ref la, .int d11, .int d12, .ref co])), (st, .inl (cyI, 72, .inl fs))]) [0, 1] rfl) 0 rfl rfl) rfl rfl hl.1 rfl (lv_room (Nat.le_of_ble_eq_true rfl)) dX8_far_24 ⟨Nat.le_of_ble_eq_true rfl, Nat.le_of_ble_eq_true rfl⟩)) (fun r_5 hr_5 => ?_)
        obtain rfl : (nI ((vb + w) % 8)) = r_5 := Eq.symm hr_5
        refine lv_istore (lv' := [(5, .int (nI ((vb + w) % 8))), (0, .ref h0), (1, .int (nI x)), (3, .int p3), (4, .int (nI qv))]) hx hb dX8_far_27 hl (by decide) rfl (fun ls hl => ?_)
        refine lv_iinc (v := (nI (qv + 1))) (lv' := [(4, .int (nI (qv + 1))), (5, .int (nI ((vb + w) % 8))), (0, .ref h0), (1, .int (nI x)), (3, .int p3)]) hx hb dX8_far_29 hl (k := 4) rfl (nI_1 _) (by decide) rfl (fun ls hl => ?_)
        refine lv_goto (tgt := 11) hx hb dX8_far_32 (by decide) ?_
        exact ih11 ((vb + w) % 8) (qv + 1) (by omega) ⟨by omega, by omega⟩ (by omega) _ (lv_sub hl [2, 3, 4, 0, 1] rfl)
  exact L11 9 ((va + w) % 8) 1 (by omega) ⟨by omega, by have h9 := nb_dsb hx9 hx0 (show (va + w) % 8 < 8 by omega) hw; omega⟩ (by have h9 := nb_dsb hx9 hx0 (show (va + w) % 8 < 8 by omega) hw; omega) _ (lv_sub hl [2, 3, 5, 1, 0] rfl)

set_option maxHeartbeats 4000000 in
set_option maxRecDepth 100000 in
theorem kX8_gapAt (l : Launch) (dC : Nat → ClassId) (dI : Nat → Nat → Nat) (cyI cyZ : ClassId) (h0 st im kp pw nx li il mv so la co : Nat) (d6 d11 d12 : Int32) (fs : Nat → Int32) (h8 : fs 0 = 8) (x w : Nat) (hx9 : x < 256) (hx0 : 0 < x) (hw : w = 7 ∨ w = 9) (va : Nat) (ha9 : va < 8) (p3 : Int32) (hp3 : p3 = nI w - 8) (pl : Nat) (hpl : pl ≤ 8) : Met l yX8_gapAt wsX8_gapAt ({ frames := 3, cells := 0, slots := 0, locals := 67 }) (bs_R dC dI cyI cyZ [.ref h0, .int (nI x), .int (nI va), .int p3, .int (nI pl)] [(h0, .inr (6, [.ref st, .ref im, .ref kp, .ref pw, .ref nx, .ref li, .int d6, .ref il, .ref mv, .ref so, .ref la, .int d11, .int d12, .ref co])), (st, .inl (cyI, 72, .inl fs))]) (vp_Si (fun _ : Int32 => True)) 0 0 (fun _ => False) := by
  refine Met.ofW (cc := cX8_gapAt) (maxL := 7) (ret := (some .int)) (by decide) rfl ?_
  intro p e s m args below meth c s₁ B hml hv
  obtain ⟨rfl, hB, hP⟩ := hv
  have hK := hB.1
  have hN := hB.2
  have hx := B.exec
  have hb := B.bytes
  have hr := B.returns
  have hts := atoms_spec (ws := wsX8_gapAt) B.pre
  have hown : s.vm.findClass RX8 = some m.cls := findClass_of_methodNamed B.named
  have hlocks := B.notSynchronized
  have hP : va_P (dC, dI) vwCl [(h0, .inr (6, [.ref st, .ref im, .ref kp, .ref pw, .ref nx, .ref li, .int d6, .ref il, .ref mv, .ref so, .ref la, .int d11, .int d12, .ref co])), (st, .inl (cyI, 72, .inl fs))] s.heap := hP
  have hl := lv_entry ([.ref h0, .int (nI x), .int (nI va), .int p3, .int (nI pl)]) (n := 7) (Nat.le_of_ble_eq_true rfl)
  rw [lg_entry_eq]
  generalize (lg_sl ([.ref h0, .int (nI x), .int (nI va), .int p3, .int (nI pl)]) ++ List.replicate (7 - (lg_sl ([.ref h0, .int (nI x), .int (nI va), .int p3, .int (nI pl)])).length) Slot.unset).toArray = ls at hl ⊢
  have hl : lv_has ls 7 [(0, .ref h0), (1, .int (nI x)), (2, .int (nI va)), (3, .int p3), (4, .int (nI pl))] := hl
  refine lv_iload_n hx hb dX8_gapAt_0 rfl (lv_at hl 2 rfl) ?_
  refine lv_istore (lv' := [(5, .int (nI va)), (0, .ref h0), (1, .int (nI x)), (2, .int (nI va)), (3, .int p3), (4, .int (nI pl))]) hx hb dX8_gapAt_1 hl (by decide) rfl (fun ls hl => ?_)
  refine lv_iconst (v := 0) hx hb dX8_gapAt_3 (by decide) ?_
  refine lv_istore (lv' := [(6, .int 0), (5, .int (nI va)), (0, .ref h0), (1, .int (nI x)), (2, .int (nI va)), (3, .int p3), (4, .int (nI pl))]) hx hb dX8_gapAt_4 hl (by decide) rfl (fun ls hl => ?_)
  have L6 : ∀ (n6 : Nat), ∀ (k vb : Nat), (k ≤ pl) → (pl + 1 ≤ k + n6) → (vb < 8) → ∀ (ls : Array Slot), lv_has ls 7 [(0, .ref h0), (1, .int (nI x)), (3, .int p3), (4, .int (nI pl)), (5, .int (nI vb)), (6, .int (nI k))] → W p l e (headSpec wsX8_gapAt ({ frames := 3, cells := 0, slots := 0, locals := 67 })).room s m ([.ref h0, .int (nI x), .int (nI va), .int p3, .int (nI pl)] : List Value).toArray below meth c s.heap [] 0 0 (MQ below (vp_Si (fun _ : Int32 => True)) ([.ref h0, .int (nI x), .int (nI va), .int p3, .int (nI pl)] : List Value).toArray s 0 0 (fun _ => False)) (F0 m 6 ls []) := by
    intro n6
    induction n6 with
    | zero =>
      intro k vb hk6 hn6 hb9 ls hl
      exfalso
      omega
    | succ n6 ih6 =>
      intro k vb hk6 hn6 hb9 ls hl
      refine lv_iload hx hb dX8_gapAt_6 (lv_at hl 5 rfl) ?_
      refine lv_iload hx hb dX8_gapAt_8 (lv_at hl 3 rfl) ?_
      refine lv_icmp_ge (tgt := 37) hx hb dX8_gapAt_10 (by decide) (fun c_1 => ?_) (fun c_1 => ?_)
      · skip
        have ic_1 := ci_le (nI_toInt (n := pl) (by omega)) (nI_toInt (n := k) (by omega)) c_1
        refine lv_aload_n hx hb dX8_gapAt_37 rfl (lv_at hl 0 rfl) ?_
        refine lv_iload_n hx hb dX8_gapAt_38 rfl (lv_at hl 1 rfl) ?_
        refine lv_iload hx hb dX8_gapAt_39 (lv_at hl 4 rfl) ?_
        refine lv_iload_n hx hb dX8_gapAt_41 rfl (lv_at hl 2 rfl) ?_
        refine vp_callSi (va_Run.run (va_runV (As := [.int (nI x), .int (nI vb), .int p3]) (rest := []) ⟨hx, hb, hml, hown, hts⟩ (kX8_far l dC dI cyI cyZ h0 st im kp pw nx li il mv so la co d6 d11 d12 fs h8 x w hx9 hx0 hw vb (by omega) p3 hp3) (cwV 3 hts gX8_gapAt_X8_far rfl rfl rfl (by decide +kernel) ⟨Nat.le_of_ble_eq_true rfl, Nat.le_of_ble_eq_true rfl⟩) (bs_RV hB (hP.sub (ws' := [(h0, .inr (6, [.ref st, .ref im, .ref kp, .ref pw, .ref nx, .ref li, .int d6, .ref il, .ref mv, .ref so, .ref la, .int d11, .int d12, .ref co])), (st, .inl (cyI, 72, .inl fs))]) [0, 1] rfl) 0 rfl rfl) rfl rfl hl.1 rfl (lv_room (Nat.le_of_ble_eq_true rfl)) dX8_gapAt_42 ⟨Nat.le_of_ble_eq_true rfl, Nat.le_of_ble_eq_true rfl⟩)) (fun r_2 hr_2 => ?_)
        obtain ⟨v_3, ev_3, lv_3, uv_3⟩ := hr_2
        obtain rfl : nI v_3 = r_2 := Eq.symm ev_3
        exact W.iret (v := (nI v_3)) hx hb hr (fun t ht hW => ⟨(nI v_3), rfl, trivial, ht⟩) (fun q h => by cases h) dX8_gapAt_45
      · skip
        have ic_1 := ci_nle (nI_toInt (n := pl) (by omega)) (nI_toInt (n := k) (by omega)) c_1
        refine lv_aload_n hx hb dX8_gapAt_13 rfl (lv_at hl 0 rfl) ?_
        refine lv_iload hx hb dX8_gapAt_14 (lv_at hl 4 rfl) ?_
        refine lv_iload_n hx hb dX8_gapAt_16 rfl (lv_at hl 2 rfl) ?_
        refine lv_aload_n hx hb dX8_gapAt_17 rfl (lv_at hl 0 rfl) ?_
        refine lv_iload_n hx hb dX8_gapAt_18 rfl (lv_at hl 1 rfl) ?_
        refine lv_iload hx hb dX8_gapAt_19 (lv_at hl 4 rfl) ?_
        refine lv_iload_n hx hb dX8_gapAt_21 rfl (lv_at hl 2 rfl) ?_
        refine vp_callSi (va_Run.run (va_runV (As := [.int (nI x), .int (nI vb), .int p3]) (rest := [.int p3, .int (nI vb), .ref h0]) ⟨hx, hb, hml, hown, hts⟩ (kX8_far l dC dI cyI cyZ h0 st im kp pw nx li il mv so la co d6 d11 d12 fs h8 x w hx9 hx0 hw vb (by omega) p3 hp3) (cwV 3 hts gX8_gapAt_X8_far rfl rfl rfl (by decide +kernel) ⟨Nat.le_of_ble_eq_true rfl, Nat.le_of_ble_eq_true rfl⟩) (bs_RV hB (hP.sub (ws' := [(h0, .inr (6, [.ref st, .ref im, .ref kp, .ref pw, .ref nx, .ref li, .int d6, .ref il, .ref mv, .ref so, .ref la, .int d11, .int d12, .ref co])), (st, .inl (cyI, 72, .inl fs))]) [0, 1] rfl) 0 rfl rfl) rfl rfl hl.1 rfl (lv_room (Nat.le_of_ble_eq_true rfl)) dX8_gapAt_22 ⟨Nat.le_of_ble_eq_true rfl, Nat.le_of_ble_eq_true rfl⟩)) (fun r_4 hr_4 => ?_)
        obtain ⟨v_5, ev_5, lv_5, uv_5⟩ := hr_4
        obtain rfl : nI v_5 = r_4 := Eq.symm ev_5
        refine lv_imul hx hb dX8_gapAt_25 ?_
        refine lv_topi (fun x_6 ex_6 => ?_)
        obtain ⟨w_7, lw_7, ew_7⟩ := nb_wf (v := v_5) hw hp3 (by omega)
        refine vp_callSi (va_Run.run (va_runV (As := [.int (nI vb), .int x_6]) (rest := []) ⟨hx, hb, hml, hown, hts⟩ (kX8_beside l dC dI cyI cyZ h0 st im kp pw nx li il mv so la co d6 d11 d12 fs h8 vb w_7 (by omega) lw_7 x_6 (ex_6.trans ew_7)) (cwV 2 hts gX8_gapAt_X8_beside rfl rfl rfl (by decide +kernel) ⟨Nat.le_of_ble_eq_true rfl, Nat.le_of_ble_eq_true rfl⟩) (bs_RV hB (hP.sub (ws' := [(h0, .inr (6, [.ref st, .ref im, .ref kp, .ref pw, .ref nx, .ref li, .int d6, .ref il, .ref mv, .ref so, .ref la, .int d11, .int d12, .ref co])), (st, .inl (cyI, 72, .inl fs))]) [0, 1] rfl) 0 rfl rfl) rfl rfl hl.1 rfl (lv_room (Nat.le_of_ble_eq_true rfl)) dX8_gapAt_26 ⟨Nat.le_of_ble_eq_true rfl, Nat.le_of_ble_eq_true rfl⟩)) (fun r_8 hr_8 => ?_)
        obtain rfl : (nI ((vb + w_7) % 8)) = r_8 := Eq.symm hr_8
        refine lv_istore (lv' := [(5, .int (nI ((vb + w_7) % 8))), (0, .ref h0), (1, .int (nI x)), (3, .int p3), (4, .int (nI pl)), (6, .int (nI k))]) hx hb dX8_gapAt_29 hl (by decide) rfl (fun ls hl => ?_)
        refine lv_iinc (v := (nI (k + 1))) (lv' := [(6, .int (nI (k + 1))), (5, .int (nI ((vb + w_7) % 8))), (0, .ref h0), (1, .int (nI x)), (3, .int p3), (4, .int (nI pl))]) hx hb dX8_gapAt_31 hl (k := 5) rfl (nI_1 _) (by decide) rfl (fun ls hl => ?_)
        refine lv_goto (tgt := 6) hx hb dX8_gapAt_34 (by decide) ?_
        exact ih6 (k + 1) (((vb + w_7) % 8)) (by omega) (by omega) (by omega) _ (lv_sub hl [2, 3, 4, 5, 1, 0] rfl)
  exact L6 (pl + 1) 0 va (by omega) (by omega) ha9 _ (lv_sub hl [2, 3, 5, 6, 1, 0] rfl)

set_option maxHeartbeats 4000000 in
set_option maxRecDepth 100000 in
theorem kX8_held (l : Launch) (dC : Nat → ClassId) (dI : Nat → Nat → Nat) (cyI cyZ : ClassId) (h0 st im kp pw nx li il mv so la co : Nat) (d6 d11 d12 : Int32) (fs : Nat → Int32) (h8 : fs 0 = 8) (x w : Nat) (hx9 : x < 256) (hx0 : 0 < x) (hw : w = 7 ∨ w = 9) (w2 : Nat) (hw2 : w2 = 7 ∨ w2 = 9) (va vb : Nat) (ha9 : va < 8) (hb9 : vb < 8) (p3 p5 : Int32) (hp3 : p3 = nI w - 8) (hp5 : p5 = nI w2 - 8) : Met l yX8_held wsX8_held ({ frames := 4, cells := 0, slots := 0, locals := 93 }) (bs_R dC dI cyI cyZ [.ref h0, .int (nI x), .int (nI va), .int p3, .int (nI vb), .int p5] [(h0, .inr (6, [.ref st, .ref im, .ref kp, .ref pw, .ref nx, .ref li, .int d6, .ref il, .ref mv, .ref so, .ref la, .int d11, .int d12, .ref co])), (st, .inl (cyI, 72, .inl fs))]) (vp_Si (fun _ : Int32 => True)) 0 0 (fun _ => False) := by
  refine Met.ofW (cc := cX8_held) (maxL := 9) (ret := (some .int)) (by decide) rfl ?_
  intro p e s m args below meth c s₁ B hml hv
  obtain ⟨rfl, hB, hP⟩ := hv
  have hK := hB.1
  have hN := hB.2
  have hx := B.exec
  have hb := B.bytes
  have hr := B.returns
  have hts := atoms_spec (ws := wsX8_held) B.pre
  have hown : s.vm.findClass RX8 = some m.cls := findClass_of_methodNamed B.named
  have hlocks := B.notSynchronized
  have hP : va_P (dC, dI) vwCl [(h0, .inr (6, [.ref st, .ref im, .ref kp, .ref pw, .ref nx, .ref li, .int d6, .ref il, .ref mv, .ref so, .ref la, .int d11, .int d12, .ref co])), (st, .inl (cyI, 72, .inl fs))] s.heap := hP
  have hl := lv_entry ([.ref h0, .int (nI x), .int (nI va), .int p3, .int (nI vb), .int p5]) (n := 9) (Nat.le_of_ble_eq_true rfl)
  rw [lg_entry_eq]
  generalize (lg_sl ([.ref h0, .int (nI x), .int (nI va), .int p3, .int (nI vb), .int p5]) ++ List.replicate (9 - (lg_sl ([.ref h0, .int (nI x), .int (nI va), .int p3, .int (nI vb), .int p5])).length) Slot.unset).toArray = ls at hl ⊢
  have hl : lv_has ls 9 [(0, .ref h0), (1, .int (nI x)), (2, .int (nI va)), (3, .int p3), (4, .int (nI vb)), (5, .int p5)] := hl
  have hpn := nb_sz3 hx9
  refine lv_iload_n hx hb dX8_held_0 rfl (lv_at hl 1 rfl) ?_
  refine vp_callSi (va_Run.run (va_runS (As := [.int (nI x)]) (rest := []) ⟨hx, hb, hml, hown, hts⟩ (kX8_size l dC dI cyI cyZ (nI x)) (va_cwS 1 hts gX8_held_X8_size rfl rfl rfl (by decide +kernel) ⟨Nat.le_of_ble_eq_true rfl, Nat.le_of_ble_eq_true rfl⟩) (bs_RS hB (hP.sub (ws' := []) [] rfl)) rfl rfl hl.1 rfl (lv_room (Nat.le_of_ble_eq_true rfl)) dX8_held_1 ⟨Nat.le_of_ble_eq_true rfl, Nat.le_of_ble_eq_true rfl⟩)) (fun r_1 hr_1 => ?_)
  obtain rfl : nI (nb_pn x) = r_1 := Eq.symm (hr_1.trans (nb_sz2 hx9))
  refine lv_istore (lv' := [(6, .int (nI (nb_pn x))), (0, .ref h0), (1, .int (nI x)), (2, .int (nI va)), (3, .int p3), (4, .int (nI vb)), (5, .int p5)]) hx hb dX8_held_4 hl (by decide) rfl (fun ls hl => ?_)
  refine lv_iconst (v := 0) hx hb dX8_held_6 (by decide) ?_
  refine lv_istore (lv' := [(7, .int 0), (6, .int (nI (nb_pn x))), (0, .ref h0), (1, .int (nI x)), (2, .int (nI va)), (3, .int p3), (4, .int (nI vb)), (5, .int p5)]) hx hb dX8_held_7 hl (by decide) rfl (fun ls hl => ?_)
  have L9 : ∀ (n9 : Nat), ∀ (k : Nat), (k ≤ nb_pn x) → (nb_pn x + 1 ≤ k + n9) → ∀ (ls : Array Slot), lv_has ls 9 [(0, .ref h0), (1, .int (nI x)), (2, .int (nI va)), (3, .int p3), (4, .int (nI vb)), (5, .int p5), (6, .int (nI (nb_pn x))), (7, .int (nI k))] → W p l e (headSpec wsX8_held ({ frames := 4, cells := 0, slots := 0, locals := 93 })).room s m ([.ref h0, .int (nI x), .int (nI va), .int p3, .int (nI vb), .int p5] : List Value).toArray below meth c s.heap [] 0 0 (MQ below (vp_Si (fun _ : Int32 => True)) ([.ref h0, .int (nI x), .int (nI va), .int p3, .int (nI vb), .int p5] : List Value).toArray s 0 0 (fun _ => False)) (F0 m 9 ls []) := by
    intro n9
    induction n9 with
    | zero =>
      intro k hk9 hn9 ls hl
      exfalso
      omega
    | succ n9 ih9 =>
      intro k hk9 hn9 ls hl
      refine lv_iload hx hb dX8_held_9 (lv_at hl 7 rfl) ?_
      refine lv_iload hx hb dX8_held_11 (lv_at hl 6 rfl) ?_
      refine lv_icmp_ge (tgt := 53) hx hb dX8_held_13 (by decide) (fun c_2 => ?_) (fun c_2 => ?_)
      · skip
        have ic_2 := ci_le (nI_toInt (n := (nb_pn x)) (by omega)) (nI_toInt (n := k) (by omega)) c_2
        refine lv_iconst (v := 0) hx hb dX8_held_53 (by decide) ?_
        exact W.iret (v := 0) hx hb hr (fun t ht hW => ⟨0, rfl, trivial, ht⟩) (fun q h => by cases h) dX8_held_54
      · skip
        have ic_2 := ci_nle (nI_toInt (n := (nb_pn x)) (by omega)) (nI_toInt (n := k) (by omega)) c_2
        refine lv_aload_n hx hb dX8_held_16 rfl (lv_at hl 0 rfl) ?_
        refine lv_iload_n hx hb dX8_held_17 rfl (lv_at hl 1 rfl) ?_
        refine lv_iload_n hx hb dX8_held_18 rfl (lv_at hl 2 rfl) ?_
        refine lv_iload_n hx hb dX8_held_19 rfl (lv_at hl 3 rfl) ?_
        refine lv_iload hx hb dX8_held_20 (lv_at hl 7 rfl) ?_
        refine vp_callSi (va_Run.run (va_runV (As := [.int (nI x), .int (nI va), .int p3, .int (nI k)]) (rest := []) ⟨hx, hb, hml, hown, hts⟩ (kX8_gapAt l dC dI cyI cyZ h0 st im kp pw nx li il mv so la co d6 d11 d12 fs h8 x w hx9 hx0 hw va (by omega) p3 hp3 k (by omega)) (cwV 4 hts gX8_held_X8_gapAt rfl rfl rfl (by decide +kernel) ⟨Nat.le_of_ble_eq_true rfl, Nat.le_of_ble_eq_true rfl⟩) (bs_RV hB (hP.sub (ws' := [(h0, .inr (6, [.ref st, .ref im, .ref kp, .ref pw, .ref nx, .ref li, .int d6, .ref il, .ref mv, .ref so, .ref la, .int d11, .int d12, .ref co])), (st, .inl (cyI, 72, .inl fs))]) [0, 1] rfl) 0 rfl rfl) rfl rfl hl.1 rfl (lv_room (Nat.le_of_ble_eq_true rfl)) dX8_held_22 ⟨Nat.le_of_ble_eq_true rfl, Nat.le_of_ble_eq_true rfl⟩)) (fun r_3 hr_3 => ?_)
        refine lv_aload_n hx hb dX8_held_25 rfl (lv_at hl 0 rfl) ?_
        refine lv_iload_n hx hb dX8_held_26 rfl (lv_at hl 1 rfl) ?_
        refine lv_iload hx hb dX8_held_27 (lv_at hl 4 rfl) ?_
        refine lv_iload hx hb dX8_held_29 (lv_at hl 5 rfl) ?_
        refine lv_iload hx hb dX8_held_31 (lv_at hl 7 rfl) ?_
        refine vp_callSi (va_Run.run (va_runV (As := [.int (nI x), .int (nI vb), .int p5, .int (nI k)]) (rest := [.int r_3]) ⟨hx, hb, hml, hown, hts⟩ (kX8_gapAt l dC dI cyI cyZ h0 st im kp pw nx li il mv so la co d6 d11 d12 fs h8 x w2 hx9 hx0 hw2 vb (by omega) p5 hp5 k (by omega)) (cwV 4 hts gX8_held_X8_gapAt rfl rfl rfl (by decide +kernel) ⟨Nat.le_of_ble_eq_true rfl, Nat.le_of_ble_eq_true rfl⟩) (bs_RV hB (hP.sub (ws' := [(h0, .inr (6, [.ref st, .ref im, .ref kp, .ref pw, .ref nx, .ref li, .int d6, .ref il, .ref mv, .ref so, .ref la, .int d11, .int d12, .ref co])), (st, .inl (cyI, 72, .inl fs))]) [0, 1] rfl) 0 rfl rfl) rfl rfl hl.1 rfl (lv_room (Nat.le_of_ble_eq_true rfl)) dX8_held_33 ⟨Nat.le_of_ble_eq_true rfl, Nat.le_of_ble_eq_true rfl⟩)) (fun r_4 hr_4 => ?_)
        refine lv_isub hx hb dX8_held_36 ?_
        refine lv_topi (fun x_5 ex_5 => ?_)
        refine lv_istore (lv' := [(8, .int x_5), (0, .ref h0), (1, .int (nI x)), (2, .int (nI va)), (3, .int p3), (4, .int (nI vb)), (5, .int p5), (6, .int (nI (nb_pn x))), (7, .int (nI k))]) hx hb dX8_held_37 hl (by decide) rfl (fun ls hl => ?_)
        refine lv_iload hx hb dX8_held_39 (lv_at hl 0 rfl) ?_
        refine lv_if_eq (tgt := 47) hx hb dX8_held_41 (by decide) (fun c_6 => ?_) (fun c_6 => ?_)
        · skip
          have ic_6 := ci_eq (rfl : Int32.toInt x_5 = _) (show Int32.toInt 0 = 0 by decide) c_6
          refine lv_iinc (v := (nI (k + 1))) (lv' := [(7, .int (nI (k + 1))), (8, .int x_5), (0, .ref h0), (1, .int (nI x)), (2, .int (nI va)), (3, .int p3), (4, .int (nI vb)), (5, .int p5), (6, .int (nI (nb_pn x)))]) hx hb dX8_held_47 hl (k := 8) rfl (nI_1 _) (by decide) rfl (fun ls hl => ?_)
          refine lv_goto (tgt := 9) hx hb dX8_held_50 (by decide) ?_
          exact ih9 (k + 1) (by omega) (by omega) _ (lv_sub hl [2, 3, 4, 5, 6, 7, 8, 0] rfl)
        · skip
          have ic_6 := ci_ne (rfl : Int32.toInt x_5 = _) (show Int32.toInt 0 = 0 by decide) c_6
          refine lv_iload hx hb dX8_held_44 (lv_at hl 0 rfl) ?_
          exact W.iret (v := x_5) hx hb hr (fun t ht hW => ⟨x_5, rfl, trivial, ht⟩) (fun q h => by cases h) dX8_held_46
  exact L9 (nb_pn x + 1) 0 (by omega) (by omega) _ (lv_sub hl [2, 3, 4, 5, 6, 7, 1, 0] rfl)

set_option maxHeartbeats 4000000 in
set_option maxRecDepth 100000 in
theorem kX8_viewWay (l : Launch) (dC : Nat → ClassId) (dI : Nat → Nat → Nat) (cyI cyZ : ClassId) (h0 st im kp pw nx li il mv so la co : Nat) (d6 d11 d12 : Int32) (fs : Nat → Int32) (h8 : fs 0 = 8) (x : Nat) (hx9 : x < 256) (hx0 : 0 < x) (va : Nat) (ha9 : va < 8) : Met l yX8_viewWay wsX8_viewWay ({ frames := 5, cells := 0, slots := 0, locals := 121 }) (bs_R dC dI cyI cyZ [.ref h0, .int (nI x), .int (nI va)] [(h0, .inr (6, [.ref st, .ref im, .ref kp, .ref pw, .ref nx, .ref li, .int d6, .ref il, .ref mv, .ref so, .ref la, .int d11, .int d12, .ref co])), (st, .inl (cyI, 72, .inl fs))]) (vp_Si (fun _ : Int32 => True)) 0 0 (fun _ => False) := by
  refine Met.ofW (cc := cX8_viewWay) (maxL := 3) (ret := (some .int)) (by decide) rfl ?_
  intro p e s m args below meth c s₁ B hml hv
  obtain ⟨rfl, hB, hP⟩ := hv
  have hK := hB.1
  have hN := hB.2
  have hx := B.exec
  have hb := B.bytes
  have hr := B.returns
  have hts := atoms_spec (ws := wsX8_viewWay) B.pre
  have hown : s.vm.findClass RX8 = some m.cls := findClass_of_methodNamed B.named
  have hlocks := B.notSynchronized
  have hP : va_P (dC, dI) vwCl [(h0, .inr (6, [.ref st, .ref im, .ref kp, .ref pw, .ref nx, .ref li, .int d6, .ref il, .ref mv, .ref so, .ref la, .int d11, .int d12, .ref co])), (st, .inl (cyI, 72, .inl fs))] s.heap := hP
  have hl := lv_entry ([.ref h0, .int (nI x), .int (nI va)]) (n := 3) (Nat.le_of_ble_eq_true rfl)
  rw [lg_entry_eq]
  generalize (lg_sl ([.ref h0, .int (nI x), .int (nI va)]) ++ List.replicate (3 - (lg_sl ([.ref h0, .int (nI x), .int (nI va)])).length) Slot.unset).toArray = ls at hl ⊢
  have hl : lv_has ls 3 [(0, .ref h0), (1, .int (nI x)), (2, .int (nI va))] := hl
  refine lv_aload_n hx hb dX8_viewWay_0 rfl (lv_at hl 0 rfl) ?_
  refine lv_iload_n hx hb dX8_viewWay_1 rfl (lv_at hl 1 rfl) ?_
  refine lv_iload_n hx hb dX8_viewWay_2 rfl (lv_at hl 2 rfl) ?_
  refine lv_iconst (v := 1) hx hb dX8_viewWay_3 (by decide) ?_
  refine lv_iload_n hx hb dX8_viewWay_4 rfl (lv_at hl 2 rfl) ?_
  refine lv_iconst (v := (-1)) hx hb dX8_viewWay_5 (by decide) ?_
  refine vp_callSi (va_Run.run (va_runV (As := [.int (nI x), .int (nI va), .int 1, .int (nI va), .int (-1)]) (rest := []) ⟨hx, hb, hml, hown, hts⟩ (kX8_held l dC dI cyI cyZ h0 st im kp pw nx li il mv so la co d6 d11 d12 fs h8 x 9 hx9 hx0 (Or.inr rfl) 7 (Or.inl rfl) va va ha9 ha9 1 (-1) (by decide) (by decide)) (cwV 5 hts gX8_viewWay_X8_held rfl rfl rfl (by decide +kernel) ⟨Nat.le_of_ble_eq_true rfl, Nat.le_of_ble_eq_true rfl⟩) (bs_RV hB (hP.sub (ws' := [(h0, .inr (6, [.ref st, .ref im, .ref kp, .ref pw, .ref nx, .ref li, .int d6, .ref il, .ref mv, .ref so, .ref la, .int d11, .int d12, .ref co])), (st, .inl (cyI, 72, .inl fs))]) [0, 1] rfl) 0 rfl rfl) rfl rfl hl.1 rfl (lv_room (Nat.le_of_ble_eq_true rfl)) dX8_viewWay_6 ⟨Nat.le_of_ble_eq_true rfl, Nat.le_of_ble_eq_true rfl⟩)) (fun r_1 hr_1 => ?_)
  refine lv_if_gt (tgt := 16) hx hb dX8_viewWay_9 (by decide) (fun c_2 => ?_) (fun c_2 => ?_)
  · skip
    have ic_2 := ci_lt (show Int32.toInt 0 = 0 by decide) (rfl : Int32.toInt r_1 = _) c_2
    refine lv_iconst (v := (-1)) hx hb dX8_viewWay_16 (by decide) ?_
    exact W.iret (v := (-1)) hx hb hr (fun t ht hW => ⟨(-1), rfl, trivial, ht⟩) (fun q h => by cases h) dX8_viewWay_17
  · skip
    have ic_2 := ci_nlt (show Int32.toInt 0 = 0 by decide) (rfl : Int32.toInt r_1 = _) c_2
    refine lv_iconst (v := 1) hx hb dX8_viewWay_12 (by decide) ?_
    refine lv_goto (tgt := 17) hx hb dX8_viewWay_13 (by decide) ?_
    exact W.iret (v := 1) hx hb hr (fun t ht hW => ⟨1, rfl, trivial, ht⟩) (fun q h => by cases h) dX8_viewWay_17

theorem hnX8_ruleOf_X8 : ∀ w ∈ wsX80, w ∈ wsX8_ruleOf := fun _ h => List.mem_cons_of_mem _ (List.mem_append_right _ h)
set_option maxHeartbeats 4000000 in
set_option maxRecDepth 100000 in
theorem kX8_ruleOf (l : Launch) (dC : Nat → ClassId) (dI : Nat → Nat → Nat) (cyI cyZ : ClassId) (h0 st im kp pw nx li il mv so la co : Nat) (d6 d11 d12 : Int32) (fs : Nat → Int32) (h8 : fs 0 = 8) (hs : ∀ j, 1 ≤ j → fs j = 0) (p1 p2 p3 : Int32) : Met l yX8_ruleOf wsX8_ruleOf ({ frames := 0, cells := 0, slots := 0, locals := 0 }) (bs_R dC dI cyI cyZ [.ref h0, .int p1, .int p2, .int p3] [(h0, .inr (6, [.ref st, .ref im, .ref kp, .ref pw, .ref nx, .ref li, .int d6, .ref il, .ref mv, .ref so, .ref la, .int d11, .int d12, .ref co])), (st, .inl (cyI, 72, .inl fs))]) (vp_Si (fun r : Int32 => r = -6)) 0 0 (fun _ => False) := by
  refine Met.ofW (cc := cX8_ruleOf) (maxL := 5) (ret := (some .int)) (by decide) rfl ?_
  intro p e s m args below meth c s₁ B hml hv
  obtain ⟨rfl, hB, hP⟩ := hv
  have hK := hB.1
  have hN := hB.2
  have hx := B.exec
  have hb := B.bytes
  have hr := B.returns
  have hts := atoms_spec (ws := wsX8_ruleOf) B.pre
  have hown : s.vm.findClass RX8 = some m.cls := findClass_of_methodNamed B.named
  have hlocks := B.notSynchronized
  have hP : va_P (dC, dI) vwCl [(h0, .inr (6, [.ref st, .ref im, .ref kp, .ref pw, .ref nx, .ref li, .int d6, .ref il, .ref mv, .ref so, .ref la, .int d11, .int d12, .ref co])), (st, .inl (cyI, 72, .inl fs))] s.heap := hP
  have hl := lv_entry ([.ref h0, .int p1, .int p2, .int p3]) (n := 5) (Nat.le_of_ble_eq_true rfl)
  rw [lg_entry_eq]
  generalize (lg_sl ([.ref h0, .int p1, .int p2, .int p3]) ++ List.replicate (5 - (lg_sl ([.ref h0, .int p1, .int p2, .int p3])).length) Slot.unset).toArray = ls at hl ⊢
  have hl : lv_has ls 5 [(0, .ref h0), (1, .int p1), (2, .int p2), (3, .int p3)] := hl
  refine lv_iconst (v := 0) hx hb dX8_ruleOf_0 (by decide) ?_
  refine lv_istore (lv' := [(4, .int 0), (0, .ref h0), (1, .int p1), (2, .int p2), (3, .int p3)]) hx hb dX8_ruleOf_1 hl (by decide) rfl (fun ls hl => ?_)
  refine lv_iload hx hb dX8_ruleOf_3 (lv_at hl 0 rfl) ?_
  refine lv_aload_n hx hb dX8_ruleOf_5 rfl (lv_at hl 1 rfl) ?_
  refine va_get (D := (dC, dI)) (ci := 6) (v := .ref st) (C := RX8) (T := TX8) (N := 14) hx hb hts hnX8_ruleOf_X8 hown hK hP 0 rfl rfl 0 (by decide) (hts (.fieldLink RX8 7 "RingMeetsModel" "state" "[I") (by decide +kernel)) (fun _ h9 => h9) rfl dX8_ruleOf_6 ?_
  refine lv_bipush (v := 11) hx hb dX8_ruleOf_9 (by decide) ?_
  refine va_iald (D := (dC, dI)) hx hb hK hP 1 0 rfl rfl (show vp_in 11 72 from vp_in_nI (n := 11) (N := 72) (by decide) (by decide)) dX8_ruleOf_11 ?_
  refine lv_topi (fun x_1 ex_1 => ?_)
  have ex_1 : x_1 = fs 11 := ex_1
  obtain rfl : 0 = x_1 := (ex_1.trans (hs _ (by omega))).symm
  refine lv_icmp_ge (tgt := 36) hx hb dX8_ruleOf_12 (by decide) (fun c_2 => ?_) (fun c_2 => ?_)
  · skip
    refine lv_bipush (v := (-6)) hx hb dX8_ruleOf_36 (by decide) ?_
    exact W.iret (v := (-6)) hx hb hr (fun t ht hW => ⟨(-6), rfl, rfl, ht⟩) (fun q h => by cases h) dX8_ruleOf_38
  · skip
    exact absurd c_2 (by decide)

set_option maxHeartbeats 4000000 in
set_option maxRecDepth 100000 in
theorem kX8_doneBy (l : Launch) (dC : Nat → ClassId) (dI : Nat → Nat → Nat) (cyI cyZ : ClassId) (h0 st im kp pw nx li il mv so la co : Nat) (d6 d11 d12 : Int32) : Met l yX8_doneBy wsX8_doneBy ({ frames := 0, cells := 0, slots := 0, locals := 0 }) (bs_R dC dI cyI cyZ [.ref h0, .int (-6)] [(h0, .inr (6, [.ref st, .ref im, .ref kp, .ref pw, .ref nx, .ref li, .int d6, .ref il, .ref mv, .ref so, .ref la, .int d11, .int d12, .ref co]))]) (vp_Si (fun r : Int32 => r = 0)) 0 0 (fun _ => False) := by
  refine Met.ofW (cc := cX8_doneBy) (maxL := 2) (ret := (some .int)) (by decide) rfl ?_
  intro p e s m args below meth c s₁ B hml hv
  obtain ⟨rfl, hB, hP⟩ := hv
  have hK := hB.1
  have hN := hB.2
  have hx := B.exec
  have hb := B.bytes
  have hr := B.returns
  have hts := atoms_spec (ws := wsX8_doneBy) B.pre
  have hown : s.vm.findClass RX8 = some m.cls := findClass_of_methodNamed B.named
  have hlocks := B.notSynchronized
  have hP : va_P (dC, dI) vwCl [(h0, .inr (6, [.ref st, .ref im, .ref kp, .ref pw, .ref nx, .ref li, .int d6, .ref il, .ref mv, .ref so, .ref la, .int d11, .int d12, .ref co]))] s.heap := hP
  have hl := lv_entry ([.ref h0, .int (-6)]) (n := 2) (Nat.le_of_ble_eq_true rfl)
  rw [lg_entry_eq]
  generalize (lg_sl ([.ref h0, .int (-6)]) ++ List.replicate (2 - (lg_sl ([.ref h0, .int (-6)])).length) Slot.unset).toArray = ls at hl ⊢
  have hl : lv_has ls 2 [(0, .ref h0), (1, .int (-6))] := hl
  refine lv_iload_n hx hb dX8_doneBy_0 rfl (lv_at hl 1 rfl) ?_
  refine lv_if_ge (tgt := 8) hx hb dX8_doneBy_1 (by decide) (fun c_1 => ?_) (fun c_1 => ?_)
  · skip
    exact absurd c_1 (by decide)
  · skip
    refine lv_iconst (v := 0) hx hb dX8_doneBy_4 (by decide) ?_
    refine lv_goto (tgt := 22) hx hb dX8_doneBy_5 (by decide) ?_
    exact W.iret (v := 0) hx hb hr (fun t ht hW => ⟨0, rfl, rfl, ht⟩) (fun q h => by cases h) dX8_doneBy_22

set_option maxHeartbeats 4000000 in
set_option maxRecDepth 100000 in
theorem kX8_behind (l : Launch) (dC : Nat → ClassId) (dI : Nat → Nat → Nat) (cyI cyZ : ClassId) (h0 st im kp pw nx li il mv so la co : Nat) (d6 d11 d12 : Int32) (fs : Nat → Int32) (h8 : fs 0 = 8) (x : Nat) (hx9 : x < 256) (hx0 : 0 < x) (va : Nat) (ha9 : va < 8) : Met l yX8_behind wsX8_behind ({ frames := 6, cells := 0, slots := 0, locals := 143 }) (bs_R dC dI cyI cyZ [.ref h0, .int (nI x), .int (nI va), .int 0] [(h0, .inr (6, [.ref st, .ref im, .ref kp, .ref pw, .ref nx, .ref li, .int d6, .ref il, .ref mv, .ref so, .ref la, .int d11, .int d12, .ref co])), (st, .inl (cyI, 72, .inl fs))]) (vp_Si (fun r : Int32 => r = nI va)) 0 0 (fun _ => False) := by
  refine Met.ofW (cc := cX8_behind) (maxL := 5) (ret := (some .int)) (by decide) rfl ?_
  intro p e s m args below meth c s₁ B hml hv
  obtain ⟨rfl, hB, hP⟩ := hv
  have hK := hB.1
  have hN := hB.2
  have hx := B.exec
  have hb := B.bytes
  have hr := B.returns
  have hts := atoms_spec (ws := wsX8_behind) B.pre
  have hown : s.vm.findClass RX8 = some m.cls := findClass_of_methodNamed B.named
  have hlocks := B.notSynchronized
  have hP : va_P (dC, dI) vwCl [(h0, .inr (6, [.ref st, .ref im, .ref kp, .ref pw, .ref nx, .ref li, .int d6, .ref il, .ref mv, .ref so, .ref la, .int d11, .int d12, .ref co])), (st, .inl (cyI, 72, .inl fs))] s.heap := hP
  have hl := lv_entry ([.ref h0, .int (nI x), .int (nI va), .int 0]) (n := 5) (Nat.le_of_ble_eq_true rfl)
  rw [lg_entry_eq]
  generalize (lg_sl ([.ref h0, .int (nI x), .int (nI va), .int 0]) ++ List.replicate (5 - (lg_sl ([.ref h0, .int (nI x), .int (nI va), .int 0])).length) Slot.unset).toArray = ls at hl ⊢
  have hl : lv_has ls 5 [(0, .ref h0), (1, .int (nI x)), (2, .int (nI va)), (3, .int 0)] := hl
  refine lv_aload_n hx hb dX8_behind_0 rfl (lv_at hl 0 rfl) ?_
  refine lv_iload_n hx hb dX8_behind_1 rfl (lv_at hl 1 rfl) ?_
  refine lv_iload_n hx hb dX8_behind_2 rfl (lv_at hl 2 rfl) ?_
  refine vp_callSi (va_Run.run (va_runV (As := [.int (nI x), .int (nI va)]) (rest := []) ⟨hx, hb, hml, hown, hts⟩ (kX8_viewWay l dC dI cyI cyZ h0 st im kp pw nx li il mv so la co d6 d11 d12 fs h8 x hx9 hx0 va ha9) (cwV 2 hts gX8_behind_X8_viewWay rfl rfl rfl (by decide +kernel) ⟨Nat.le_of_ble_eq_true rfl, Nat.le_of_ble_eq_true rfl⟩) (bs_RV hB (hP.sub (ws' := [(h0, .inr (6, [.ref st, .ref im, .ref kp, .ref pw, .ref nx, .ref li, .int d6, .ref il, .ref mv, .ref so, .ref la, .int d11, .int d12, .ref co])), (st, .inl (cyI, 72, .inl fs))]) [0, 1] rfl) 0 rfl rfl) rfl rfl hl.1 rfl (lv_room (Nat.le_of_ble_eq_true rfl)) dX8_behind_3 ⟨Nat.le_of_ble_eq_true rfl, Nat.le_of_ble_eq_true rfl⟩)) (fun r_1 hr_1 => ?_)
  refine lv_istore (lv' := [(4, .int r_1), (0, .ref h0), (1, .int (nI x)), (2, .int (nI va)), (3, .int 0)]) hx hb dX8_behind_6 hl (by decide) rfl (fun ls hl => ?_)
  refine lv_iload_n hx hb dX8_behind_8 rfl (lv_at hl 4 rfl) ?_
  refine lv_if_ne (tgt := 16) hx hb dX8_behind_9 (by decide) (fun c_2 => ?_) (fun c_2 => ?_)
  · skip
    exact absurd c_2 (by decide)
  · skip
    refine lv_iload_n hx hb dX8_behind_12 rfl (lv_at hl 3 rfl) ?_
    refine lv_goto (tgt := 34) hx hb dX8_behind_13 (by decide) ?_
    exact W.iret (v := (nI va)) hx hb hr (fun t ht hW => ⟨(nI va), rfl, rfl, ht⟩) (fun q h => by cases h) dX8_behind_34

theorem hnX8_note_X8 : ∀ w ∈ wsX80, w ∈ wsX8_note := fun _ h => List.mem_cons_of_mem _ (List.mem_append_right _ h)
set_option maxHeartbeats 4000000 in
set_option maxRecDepth 100000 in
theorem kX8_note (l : Launch) (dC : Nat → ClassId) (dI : Nat → Nat → Nat) (cyI cyZ : ClassId) (h0 st im kp pw nx li il mv so la co : Nat) (fs : Nat → Int32) (h8 : fs 0 = 8) (hs : ∀ j, 1 ≤ j → fs j = 0) (fp : Nat → Int32) (hp : ∀ j, j ≤ 10 → fp j = nI (3 ^ j)) (x : Nat) (hx9 : x < 256) (hx0 : 0 < x) (L : Nat) (hL : L ≤ 256) (lf ilf mf : Nat → Int32) (hmf : ∀ j, mf j = 0) (sz : Nat) : Met l yX8_note wsX8_note ({ frames := 7, cells := 0, slots := 0, locals := 167 }) (bs_W dC dI cyI cyZ [.ref h0, .int (nI (nb_cd x))] [(h0, .inr (6, [.ref st, .ref im, .ref kp, .ref pw, .ref nx, .ref li, .int (nI L), .ref il, .ref mv, .ref so, .ref la, .int 0, .int 0, .ref co])), (st, .inl (cyI, 72, .inl fs)), (pw, .inl (cyI, 11, .inl fp)), (li, .inl (cyI, 59049, .inl lf)), (il, .inl (cyZ, 59049, .inl ilf)), (mv, .inl (cyI, 59049, .inl mf))] sz) (va_Qv (S := Nat × (Nat → Int32) × (Nat → Int32) × (Nat → Int32)) (fun q : Nat × (Nat → Int32) × (Nat → Int32) × (Nat → Int32) => (∀ j, q.2.2.2 j = 0) ∧ nb_nt x L lf ilf q.1 q.2.1 q.2.2.1) (fun q t => bs_E dC dI (va_A [(h0, .inr (6, [.ref st, .ref im, .ref kp, .ref pw, .ref nx, .ref li, .int (nI L), .ref il, .ref mv, .ref so, .ref la, .int 0, .int 0, .ref co])), (st, .inl (cyI, 72, .inl fs)), (pw, .inl (cyI, 11, .inl fp)), (li, .inl (cyI, 59049, .inl lf)), (il, .inl (cyZ, 59049, .inl ilf)), (mv, .inl (cyI, 59049, .inl mf))] sz) [(h0, .inr (6, [.ref st, .ref im, .ref kp, .ref pw, .ref nx, .ref li, .int (nI q.1), .ref il, .ref mv, .ref so, .ref la, .int 0, .int 0, .ref co])), (st, .inl (cyI, 72, .inl fs)), (pw, .inl (cyI, 11, .inl fp)), (li, .inl (cyI, 59049, .inl q.2.1)), (il, .inl (cyZ, 59049, .inl q.2.2.1)), (mv, .inl (cyI, 59049, .inl q.2.2.2))] t) (va_A [(h0, .inr (6, [.ref st, .ref im, .ref kp, .ref pw, .ref nx, .ref li, .int (nI L), .ref il, .ref mv, .ref so, .ref la, .int 0, .int 0, .ref co])), (st, .inl (cyI, 72, .inl fs)), (pw, .inl (cyI, 11, .inl fp)), (li, .inl (cyI, 59049, .inl lf)), (il, .inl (cyZ, 59049, .inl ilf)), (mv, .inl (cyI, 59049, .inl mf))] sz)) 0 0 (va_A [(h0, .inr (6, [.ref st, .ref im, .ref kp, .ref pw, .ref nx, .ref li, .int (nI L), .ref il, .ref mv, .ref so, .ref la, .int 0, .int 0, .ref co])), (st, .inl (cyI, 72, .inl fs)), (pw, .inl (cyI, 11, .inl fp)), (li, .inl (cyI, 59049, .inl lf)), (il, .inl (cyZ, 59049, .inl ilf)), (mv, .inl (cyI, 59049, .inl mf))] sz) := by
  refine Met.ofW (cc := cX8_note) (maxL := 7) (ret := none) (by decide) rfl ?_
  intro p e s m args below meth c s₁ B hml hv
  obtain ⟨rfl, hsz, hB, hP, hD0⟩ := hv
  have hK := hB.1
  have hN := hB.2
  have hx := B.exec
  have hb := B.bytes
  have hr := B.returns
  have hts := atoms_spec (ws := wsX8_note) B.pre
  have hown : s.vm.findClass RX8 = some m.cls := findClass_of_methodNamed B.named
  have hlocks := B.notSynchronized
  subst hsz
  have hD := hD0.self (sz := s.heap.size)
  generalize hAe : va_A [(h0, .inr (6, [.ref st, .ref im, .ref kp, .ref pw, .ref nx, .ref li, .int (nI L), .ref il, .ref mv, .ref so, .ref la, .int 0, .int 0, .ref co])), (st, .inl (cyI, 72, .inl fs)), (pw, .inl (cyI, 11, .inl fp)), (li, .inl (cyI, 59049, .inl lf)), (il, .inl (cyZ, 59049, .inl ilf)), (mv, .inl (cyI, 59049, .inl mf))] s.heap.size = A at hD ⊢
  have hA : ∀ q : Nat, s.heap.size ≤ q → A q := fun q h => by rw [← hAe]; exact Or.inr h
  have hS : va_S A s.heap s.heap [] := va_S.rf
  have hP : va_P (dC, dI) vwCl [(h0, .inr (6, [.ref st, .ref im, .ref kp, .ref pw, .ref nx, .ref li, .int (nI L), .ref il, .ref mv, .ref so, .ref la, .int 0, .int 0, .ref co])), (st, .inl (cyI, 72, .inl fs)), (pw, .inl (cyI, 11, .inl fp)), (li, .inl (cyI, 59049, .inl lf)), (il, .inl (cyZ, 59049, .inl ilf)), (mv, .inl (cyI, 59049, .inl mf))] s.heap := hP
  have hl := lv_entry ([.ref h0, .int (nI (nb_cd x))]) (n := 7) (Nat.le_of_ble_eq_true rfl)
  rw [lg_entry_eq]
  generalize (lg_sl ([.ref h0, .int (nI (nb_cd x))]) ++ List.replicate (7 - (lg_sl ([.ref h0, .int (nI (nb_cd x))])).length) Slot.unset).toArray = ls at hl ⊢
  have hl : lv_has ls 7 [(0, .ref h0), (1, .int (nI (nb_cd x)))] := hl
  have hcl := nb_cd2 hx9
  refine lv_aload_n hx hb dX8_note_0 rfl (lv_at hl 0 rfl) ?_
  refine va_get (D := (dC, dI)) (ci := 6) (v := .ref il) (C := RX8) (T := TX8) (N := 14) hx hb hts hnX8_note_X8 hown hK hP 0 rfl rfl 7 (by decide) (hts (.fieldLink RX8 30 "RingMeetsModel" "isListed" "[Z") (by decide +kernel)) (fun _ h9 => h9) rfl dX8_note_1 ?_
  refine lv_iload_n hx hb dX8_note_4 rfl (lv_at hl 1 rfl) ?_
  refine va_zald (D := (dC, dI)) hx hb hK hP 4 1 rfl rfl (vp_in_nI (n := (nb_cd x)) (N := 59049) (by omega) (by omega)) dX8_note_5 ?_
  refine lv_topi (fun x_1 ex_1 => ?_)
  rw [nI_clamp (n := (nb_cd x)) (by omega)] at ex_1
  refine lv_if_eq (tgt := 10) hx hb dX8_note_6 (by decide) (fun c_2 => ?_) (fun c_2 => ?_)
  · skip
    have ic_2 := ci_eq (rfl : Int32.toInt x_1 = _) (show Int32.toInt 0 = 0 by decide) c_2
    refine lv_aload_n hx hb dX8_note_10 rfl (lv_at hl 0 rfl) ?_
    refine va_get (D := (dC, dI)) (ci := 6) (v := .ref il) (C := RX8) (T := TX8) (N := 14) hx hb hts hnX8_note_X8 hown hK hP 0 rfl rfl 7 (by decide) (hts (.fieldLink RX8 30 "RingMeetsModel" "isListed" "[Z") (by decide +kernel)) (fun _ h9 => h9) rfl dX8_note_11 ?_
    refine lv_iload_n hx hb dX8_note_14 rfl (lv_at hl 1 rfl) ?_
    refine lv_iconst (v := 1) hx hb dX8_note_15 (by decide) ?_
    refine va_zast (D := (dC, dI)) hx hb hK hP hD hS 4 1 rfl rfl (vp_in_nI (n := (nb_cd x)) (N := 59049) (by omega) (by omega)) dX8_note_16 (fun H locs hP hD hS => ?_)
    obtain ⟨g_3, eg_3⟩ : ∃ y : Nat → Int32, y = upd ilf (Int32.toNatClampNeg (nI (nb_cd x))) (vp_nar .boolean 1) := ⟨_, rfl⟩
    have hP : va_P (dC, dI) vwCl [(h0, .inr (6, [.ref st, .ref im, .ref kp, .ref pw, .ref nx, .ref li, .int (nI L), .ref il, .ref mv, .ref so, .ref la, .int 0, .int 0, .ref co])), (st, .inl (cyI, 72, .inl fs)), (pw, .inl (cyI, 11, .inl fp)), (li, .inl (cyI, 59049, .inl lf)), (il, .inl (cyZ, 59049, .inl g_3)), (mv, .inl (cyI, 59049, .inl mf))] H := by rw [eg_3]; exact hP
    have hD : va_D A [(h0, .inr (6, [.ref st, .ref im, .ref kp, .ref pw, .ref nx, .ref li, .int (nI L), .ref il, .ref mv, .ref so, .ref la, .int 0, .int 0, .ref co])), (st, .inl (cyI, 72, .inl fs)), (pw, .inl (cyI, 11, .inl fp)), (li, .inl (cyI, 59049, .inl lf)), (il, .inl (cyZ, 59049, .inl g_3)), (mv, .inl (cyI, 59049, .inl mf))] := by rw [eg_3]; exact hD
    rw [nI_clamp (n := (nb_cd x)) (by omega)] at eg_3
    have eg_3 : g_3 = upd ilf (nb_cd x) 1 := eg_3
    refine lv_aload_n hx hb dX8_note_17 rfl (lv_at hl 0 rfl) ?_
    refine va_get (D := (dC, dI)) (ci := 6) (v := .ref li) (C := RX8) (T := TX8) (N := 14) hx hb hts hnX8_note_X8 hown hK hP 0 rfl rfl 5 (by decide) (hts (.fieldLink RX8 27 "RingMeetsModel" "list" "[I") (by decide +kernel)) (fun _ h9 => h9) rfl dX8_note_18 ?_
    refine lv_aload_n hx hb dX8_note_21 rfl (lv_at hl 0 rfl) ?_
    refine va_get (D := (dC, dI)) (ci := 6) (v := .int (nI L)) (C := RX8) (T := TX8) (N := 14) hx hb hts hnX8_note_X8 hown hK hP 0 rfl rfl 6 (by decide) (hts (.fieldLink RX8 128 "RingMeetsModel" "listed" "I") (by decide +kernel)) (fun _ h9 => h9) rfl dX8_note_22 ?_
    refine lv_iload_n hx hb dX8_note_25 rfl (lv_at hl 1 rfl) ?_
    refine va_iast (D := (dC, dI)) hx hb hK hP hD hS 3 0 rfl rfl (vp_in_nI (n := L) (N := 59049) (by omega) (by omega)) dX8_note_26 (fun H locs hP hD hS => ?_)
    obtain ⟨g_4, eg_4⟩ : ∃ y : Nat → Int32, y = upd lf (Int32.toNatClampNeg (nI L)) (nI (nb_cd x)) := ⟨_, rfl⟩
    have hP : va_P (dC, dI) vwCl [(h0, .inr (6, [.ref st, .ref im, .ref kp, .ref pw, .ref nx, .ref li, .int (nI L), .ref il, .ref mv, .ref so, .ref la, .int 0, .int 0, .ref co])), (st, .inl (cyI, 72, .inl fs)), (pw, .inl (cyI, 11, .inl fp)), (li, .inl (cyI, 59049, .inl g_4)), (il, .inl (cyZ, 59049, .inl g_3)), (mv, .inl (cyI, 59049, .inl mf))] H := by rw [eg_4]; exact hP
    have hD : va_D A [(h0, .inr (6, [.ref st, .ref im, .ref kp, .ref pw, .ref nx, .ref li, .int (nI L), .ref il, .ref mv, .ref so, .ref la, .int 0, .int 0, .ref co])), (st, .inl (cyI, 72, .inl fs)), (pw, .inl (cyI, 11, .inl fp)), (li, .inl (cyI, 59049, .inl g_4)), (il, .inl (cyZ, 59049, .inl g_3)), (mv, .inl (cyI, 59049, .inl mf))] := by rw [eg_4]; exact hD
    rw [nI_clamp (n := L) (by omega)] at eg_4
    refine lv_aload_n hx hb dX8_note_27 rfl (lv_at hl 0 rfl) ?_
    refine lv_dup hx hb dX8_note_28 rfl ?_
    refine va_get (D := (dC, dI)) (ci := 6) (v := .int (nI L)) (C := RX8) (T := TX8) (N := 14) hx hb hts hnX8_note_X8 hown hK hP 0 rfl rfl 6 (by decide) (hts (.fieldLink RX8 128 "RingMeetsModel" "listed" "I") (by decide +kernel)) (fun _ h9 => h9) rfl dX8_note_29 ?_
    refine lv_iconst (v := 1) hx hb dX8_note_32 (by decide) ?_
    refine lv_iadd hx hb dX8_note_33 ?_
    refine lv_topi (fun x_5 ex_5 => ?_)
    obtain rfl : (nI (L + 1)) = x_5 := (ex_5.trans (nI_1 _)).symm
    refine va_put (D := (dC, dI)) (ci := 6) (v := .int (nI (L + 1))) (ty := .int) (C := RX8) (T := TX8) (N := 14) hx hb hts hnX8_note_X8 tyX8 tyX8_ok nmX8 hown hK hP hD hS 0 rfl rfl 6 (by decide) (hts (.fieldLink RX8 128 "RingMeetsModel" "listed" "I") (by decide +kernel)) (fun _ h9 => h9) rfl (by decide +kernel) rfl rfl (Nat.le_of_ble_eq_true rfl) dX8_note_34 (fun H locs hP hD hS => ?_)
    have hP : va_P (dC, dI) vwCl [(h0, .inr (6, [.ref st, .ref im, .ref kp, .ref pw, .ref nx, .ref li, .int (nI (L + 1)), .ref il, .ref mv, .ref so, .ref la, .int 0, .int 0, .ref co])), (st, .inl (cyI, 72, .inl fs)), (pw, .inl (cyI, 11, .inl fp)), (li, .inl (cyI, 59049, .inl g_4)), (il, .inl (cyZ, 59049, .inl g_3)), (mv, .inl (cyI, 59049, .inl mf))] _ := hP
    have hD : va_D A [(h0, .inr (6, [.ref st, .ref im, .ref kp, .ref pw, .ref nx, .ref li, .int (nI (L + 1)), .ref il, .ref mv, .ref so, .ref la, .int 0, .int 0, .ref co])), (st, .inl (cyI, 72, .inl fs)), (pw, .inl (cyI, 11, .inl fp)), (li, .inl (cyI, 59049, .inl g_4)), (il, .inl (cyZ, 59049, .inl g_3)), (mv, .inl (cyI, 59049, .inl mf))] := hD
    refine lv_aload_n hx hb dX8_note_37 rfl (lv_at hl 0 rfl) ?_
    refine lv_iload_n hx hb dX8_note_38 rfl (lv_at hl 1 rfl) ?_
    refine vp_callSi (va_Run.run (va_runV (As := [.int (nI (nb_cd x))]) (rest := []) ⟨hx, hb, hml, hown, hts⟩ (kX8_standsOf l dC dI cyI cyZ h0 st im kp pw nx li il mv so la co (nI (L + 1)) 0 0 fs h8 fp hp (nI (nb_cd x))) (cwV 1 hts gX8_note_X8_standsOf rfl rfl rfl (by decide +kernel) ⟨Nat.le_of_ble_eq_true rfl, Nat.le_of_ble_eq_true rfl⟩) (bs_RV hB (hP.sub (ws' := [(h0, .inr (6, [.ref st, .ref im, .ref kp, .ref pw, .ref nx, .ref li, .int (nI (L + 1)), .ref il, .ref mv, .ref so, .ref la, .int 0, .int 0, .ref co])), (st, .inl (cyI, 72, .inl fs)), (pw, .inl (cyI, 11, .inl fp))]) [0, 1, 2] rfl) 0 rfl rfl) rfl rfl hl.1 rfl (lv_room (Nat.le_of_ble_eq_true rfl)) dX8_note_39 ⟨Nat.le_of_ble_eq_true rfl, Nat.le_of_ble_eq_true rfl⟩)) (fun r_6 hr_6 => ?_)
    obtain rfl : nI x = r_6 := Eq.symm (hr_6.trans (nb_cd3 hx9))
    refine lv_istore_n (lv' := [(2, .int (nI x)), (0, .ref h0), (1, .int (nI (nb_cd x)))]) hx hb dX8_note_42 rfl hl (by decide) rfl (fun ls hl => ?_)
    refine lv_iconst (v := 0) hx hb dX8_note_43 (by decide) ?_
    refine lv_istore_n (lv' := [(3, .int 0), (2, .int (nI x)), (0, .ref h0), (1, .int (nI (nb_cd x)))]) hx hb dX8_note_44 rfl hl (by decide) rfl (fun ls hl => ?_)
    refine lv_iconst (v := 0) hx hb dX8_note_45 (by decide) ?_
    refine lv_istore (lv' := [(4, .int 0), (3, .int 0), (2, .int (nI x)), (0, .ref h0), (1, .int (nI (nb_cd x)))]) hx hb dX8_note_46 hl (by decide) rfl (fun ls hl => ?_)
    have L48 : ∀ (n48 : Nat), ∀ (k : Nat), (0 ≤ k ∧ k ≤ 8) → (9 ≤ k + n48) → ∀ (H : Heap) (locs : List Loc), va_P (dC, dI) vwCl [(h0, .inr (6, [.ref st, .ref im, .ref kp, .ref pw, .ref nx, .ref li, .int (nI (L + 1)), .ref il, .ref mv, .ref so, .ref la, .int 0, .int 0, .ref co])), (st, .inl (cyI, 72, .inl fs)), (pw, .inl (cyI, 11, .inl fp)), (li, .inl (cyI, 59049, .inl g_4)), (il, .inl (cyZ, 59049, .inl g_3)), (mv, .inl (cyI, 59049, .inl mf))] H → va_D A [(h0, .inr (6, [.ref st, .ref im, .ref kp, .ref pw, .ref nx, .ref li, .int (nI (L + 1)), .ref il, .ref mv, .ref so, .ref la, .int 0, .int 0, .ref co])), (st, .inl (cyI, 72, .inl fs)), (pw, .inl (cyI, 11, .inl fp)), (li, .inl (cyI, 59049, .inl g_4)), (il, .inl (cyZ, 59049, .inl g_3)), (mv, .inl (cyI, 59049, .inl mf))] → va_S A s.heap H locs → ∀ (ls : Array Slot), lv_has ls 7 [(0, .ref h0), (1, .int (nI (nb_cd x))), (2, .int (nI x)), (3, .int 0), (4, .int (nI k))] → W p l e (headSpec wsX8_note ({ frames := 7, cells := 0, slots := 0, locals := 167 })).room s m ([.ref h0, .int (nI (nb_cd x))] : List Value).toArray below meth c H locs 0 0 (MQ below (va_Qv (S := Nat × (Nat → Int32) × (Nat → Int32) × (Nat → Int32)) (fun q : Nat × (Nat → Int32) × (Nat → Int32) × (Nat → Int32) => (∀ j, q.2.2.2 j = 0) ∧ nb_nt x L lf ilf q.1 q.2.1 q.2.2.1) (fun q t => bs_E dC dI A [(h0, .inr (6, [.ref st, .ref im, .ref kp, .ref pw, .ref nx, .ref li, .int (nI q.1), .ref il, .ref mv, .ref so, .ref la, .int 0, .int 0, .ref co])), (st, .inl (cyI, 72, .inl fs)), (pw, .inl (cyI, 11, .inl fp)), (li, .inl (cyI, 59049, .inl q.2.1)), (il, .inl (cyZ, 59049, .inl q.2.2.1)), (mv, .inl (cyI, 59049, .inl q.2.2.2))] t) A) ([.ref h0, .int (nI (nb_cd x))] : List Value).toArray s 0 0 A) (F0 m 48 ls []) := by
      intro n48
      induction n48 with
      | zero =>
        intro k hk48 hn48 H locs hP hD hS ls hl
        exfalso
        omega
      | succ n48 ih48 =>
        intro k hk48 hn48 H locs hP hD hS ls hl
        refine lv_iload hx hb dX8_note_48 (lv_at hl 4 rfl) ?_
        refine lv_aload_n hx hb dX8_note_50 rfl (lv_at hl 0 rfl) ?_
        refine vp_callSi (va_Run.run (va_runV (As := []) (rest := [.int (nI k)]) ⟨hx, hb, hml, hown, hts⟩ (kX8_cells l dC dI cyI cyZ h0 st im kp pw nx li il mv so la co (nI (L + 1)) 0 0 fs h8) (cwV 0 hts gX8_note_X8_cells rfl rfl rfl (by decide +kernel) ⟨Nat.le_of_ble_eq_true rfl, Nat.le_of_ble_eq_true rfl⟩) (bs_RV hB (hP.sub (ws' := [(h0, .inr (6, [.ref st, .ref im, .ref kp, .ref pw, .ref nx, .ref li, .int (nI (L + 1)), .ref il, .ref mv, .ref so, .ref la, .int 0, .int 0, .ref co])), (st, .inl (cyI, 72, .inl fs))]) [0, 1] rfl) 0 rfl rfl) rfl rfl hl.1 rfl (lv_room (Nat.le_of_ble_eq_true rfl)) dX8_note_51 ⟨Nat.le_of_ble_eq_true rfl, Nat.le_of_ble_eq_true rfl⟩)) (fun r_7 hr_7 => ?_)
        obtain rfl : r_7 = 8 := hr_7
        refine lv_icmp_ge (tgt := 192) hx hb dX8_note_54 (by decide) (fun c_8 => ?_) (fun c_8 => ?_)
        · skip
          have ic_8 := ci_le (show Int32.toInt 8 = 8 by decide) (nI_toInt (n := k) (by omega)) c_8
          refine lv_aload_n hx hb dX8_note_192 rfl (lv_at hl 0 rfl) ?_
          refine va_get (D := (dC, dI)) (ci := 6) (v := .ref mv) (C := RX8) (T := TX8) (N := 14) hx hb hts hnX8_note_X8 hown hK hP 0 rfl rfl 8 (by decide) (hts (.fieldLink RX8 33 "RingMeetsModel" "moves" "[I") (by decide +kernel)) (fun _ h9 => h9) rfl dX8_note_193 ?_
          refine lv_iload_n hx hb dX8_note_196 rfl (lv_at hl 1 rfl) ?_
          refine lv_iload_n hx hb dX8_note_197 rfl (lv_at hl 2 rfl) ?_
          refine vp_callSi (va_Run.run (va_runS (As := [.int (nI x)]) (rest := [.int (nI (nb_cd x)), .ref mv]) ⟨hx, hb, hml, hown, hts⟩ (kX8_size l dC dI cyI cyZ (nI x)) (va_cwS 1 hts gX8_note_X8_size rfl rfl rfl (by decide +kernel) ⟨Nat.le_of_ble_eq_true rfl, Nat.le_of_ble_eq_true rfl⟩) (bs_RS hB (hP.sub (ws' := []) [] rfl)) rfl rfl hl.1 rfl (lv_room (Nat.le_of_ble_eq_true rfl)) dX8_note_198 ⟨Nat.le_of_ble_eq_true rfl, Nat.le_of_ble_eq_true rfl⟩)) (fun r_9 hr_9 => ?_)
          refine lv_iconst (v := 2) hx hb dX8_note_201 (by decide) ?_
          refine lv_icmp_ge (tgt := 209) hx hb dX8_note_202 (by decide) (fun c_10 => ?_) (fun c_10 => ?_)
          · skip
            have ic_10 := ci_le (show Int32.toInt 2 = 2 by decide) (rfl : Int32.toInt r_9 = _) c_10
            refine lv_iload_n hx hb dX8_note_209 rfl (lv_at hl 3 rfl) ?_
            refine va_iast (D := (dC, dI)) hx hb hK hP hD hS 5 0 rfl rfl (vp_in_nI (n := (nb_cd x)) (N := 59049) (by omega) (by omega)) dX8_note_210 (fun H locs hP hD hS => ?_)
            obtain ⟨g_11, eg_11⟩ : ∃ y : Nat → Int32, y = upd mf (Int32.toNatClampNeg (nI (nb_cd x))) 0 := ⟨_, rfl⟩
            have hP : va_P (dC, dI) vwCl [(h0, .inr (6, [.ref st, .ref im, .ref kp, .ref pw, .ref nx, .ref li, .int (nI (L + 1)), .ref il, .ref mv, .ref so, .ref la, .int 0, .int 0, .ref co])), (st, .inl (cyI, 72, .inl fs)), (pw, .inl (cyI, 11, .inl fp)), (li, .inl (cyI, 59049, .inl g_4)), (il, .inl (cyZ, 59049, .inl g_3)), (mv, .inl (cyI, 59049, .inl g_11))] H := by rw [eg_11]; exact hP
            have hD : va_D A [(h0, .inr (6, [.ref st, .ref im, .ref kp, .ref pw, .ref nx, .ref li, .int (nI (L + 1)), .ref il, .ref mv, .ref so, .ref la, .int 0, .int 0, .ref co])), (st, .inl (cyI, 72, .inl fs)), (pw, .inl (cyI, 11, .inl fp)), (li, .inl (cyI, 59049, .inl g_4)), (il, .inl (cyZ, 59049, .inl g_3)), (mv, .inl (cyI, 59049, .inl g_11))] := by rw [eg_11]; exact hD
            rw [nI_clamp (n := (nb_cd x)) (by omega)] at eg_11
            exact W.vret hx hb hr (fun t ht hW => ⟨⟨((L + 1), g_4, g_3, g_11), rfl, ⟨(fun j => (show g_11 j = 0 by rw [eg_11]; unfold upd; split; rfl; exact hmf j)), Or.inr ⟨rfl, eg_4, eg_3⟩⟩, ⟨by rw [ht]; exact hP.sub (ws' := [(h0, .inr (6, [.ref st, .ref im, .ref kp, .ref pw, .ref nx, .ref li, .int (nI (L + 1)), .ref il, .ref mv, .ref so, .ref la, .int 0, .int 0, .ref co])), (st, .inl (cyI, 72, .inl fs)), (pw, .inl (cyI, 11, .inl fp)), (li, .inl (cyI, 59049, .inl g_4)), (il, .inl (cyZ, 59049, .inl g_3)), (mv, .inl (cyI, 59049, .inl g_11))]) [0, 1, 2, 3, 4, 5] rfl, hD.sub (ws' := [(h0, .inr (6, [.ref st, .ref im, .ref kp, .ref pw, .ref nx, .ref li, .int (nI (L + 1)), .ref il, .ref mv, .ref so, .ref la, .int 0, .int 0, .ref co])), (st, .inl (cyI, 72, .inl fs)), (pw, .inl (cyI, 11, .inl fp)), (li, .inl (cyI, 59049, .inl g_4)), (il, .inl (cyZ, 59049, .inl g_3)), (mv, .inl (cyI, 59049, .inl g_11))]) [0, 1, 2, 3, 4, 5] (by decide) rfl⟩⟩, hS.F ht⟩) hS.2.2 dX8_note_211
          · skip
            have ic_10 := ci_nle (show Int32.toInt 2 = 2 by decide) (rfl : Int32.toInt r_9 = _) c_10
            refine lv_iconst (v := 0) hx hb dX8_note_205 (by decide) ?_
            refine lv_goto (tgt := 210) hx hb dX8_note_206 (by decide) ?_
            refine va_iast (D := (dC, dI)) hx hb hK hP hD hS 5 0 rfl rfl (vp_in_nI (n := (nb_cd x)) (N := 59049) (by omega) (by omega)) dX8_note_210 (fun H locs hP hD hS => ?_)
            obtain ⟨g_12, eg_12⟩ : ∃ y : Nat → Int32, y = upd mf (Int32.toNatClampNeg (nI (nb_cd x))) 0 := ⟨_, rfl⟩
            have hP : va_P (dC, dI) vwCl [(h0, .inr (6, [.ref st, .ref im, .ref kp, .ref pw, .ref nx, .ref li, .int (nI (L + 1)), .ref il, .ref mv, .ref so, .ref la, .int 0, .int 0, .ref co])), (st, .inl (cyI, 72, .inl fs)), (pw, .inl (cyI, 11, .inl fp)), (li, .inl (cyI, 59049, .inl g_4)), (il, .inl (cyZ, 59049, .inl g_3)), (mv, .inl (cyI, 59049, .inl g_12))] H := by rw [eg_12]; exact hP
            have hD : va_D A [(h0, .inr (6, [.ref st, .ref im, .ref kp, .ref pw, .ref nx, .ref li, .int (nI (L + 1)), .ref il, .ref mv, .ref so, .ref la, .int 0, .int 0, .ref co])), (st, .inl (cyI, 72, .inl fs)), (pw, .inl (cyI, 11, .inl fp)), (li, .inl (cyI, 59049, .inl g_4)), (il, .inl (cyZ, 59049, .inl g_3)), (mv, .inl (cyI, 59049, .inl g_12))] := by rw [eg_12]; exact hD
            rw [nI_clamp (n := (nb_cd x)) (by omega)] at eg_12
            exact W.vret hx hb hr (fun t ht hW => ⟨⟨((L + 1), g_4, g_3, g_12), rfl, ⟨(fun j => (show g_12 j = 0 by rw [eg_12]; unfold upd; split; rfl; exact hmf j)), Or.inr ⟨rfl, eg_4, eg_3⟩⟩, ⟨by rw [ht]; exact hP.sub (ws' := [(h0, .inr (6, [.ref st, .ref im, .ref kp, .ref pw, .ref nx, .ref li, .int (nI (L + 1)), .ref il, .ref mv, .ref so, .ref la, .int 0, .int 0, .ref co])), (st, .inl (cyI, 72, .inl fs)), (pw, .inl (cyI, 11, .inl fp)), (li, .inl (cyI, 59049, .inl g_4)), (il, .inl (cyZ, 59049, .inl g_3)), (mv, .inl (cyI, 59049, .inl g_12))]) [0, 1, 2, 3, 4, 5] rfl, hD.sub (ws' := [(h0, .inr (6, [.ref st, .ref im, .ref kp, .ref pw, .ref nx, .ref li, .int (nI (L + 1)), .ref il, .ref mv, .ref so, .ref la, .int 0, .int 0, .ref co])), (st, .inl (cyI, 72, .inl fs)), (pw, .inl (cyI, 11, .inl fp)), (li, .inl (cyI, 59049, .inl g_4)), (il, .inl (cyZ, 59049, .inl g_3)), (mv, .inl (cyI, 59049, .inl g_12))]) [0, 1, 2, 3, 4, 5] (by decide) rfl⟩⟩, hS.F ht⟩) hS.2.2 dX8_note_211
        · skip
          have ic_8 := ci_nle (show Int32.toInt 8 = 8 by decide) (nI_toInt (n := k) (by omega)) c_8
          refine lv_iload_n hx hb dX8_note_57 rfl (lv_at hl 2 rfl) ?_
          refine lv_iload hx hb dX8_note_58 (lv_at hl 4 rfl) ?_
          refine vp_callSi (va_Run.run (va_runS (As := [.int (nI x), .int (nI k)]) (rest := []) ⟨hx, hb, hml, hown, hts⟩ (kX8_has l dC dI cyI cyZ (nI x) (nI k)) (va_cwS 2 hts gX8_note_X8_has rfl rfl rfl (by decide +kernel) ⟨Nat.le_of_ble_eq_true rfl, Nat.le_of_ble_eq_true rfl⟩) (bs_RS hB (hP.sub (ws' := []) [] rfl)) rfl rfl hl.1 rfl (lv_room (Nat.le_of_ble_eq_true rfl)) dX8_note_60 ⟨Nat.le_of_ble_eq_true rfl, Nat.le_of_ble_eq_true rfl⟩)) (fun r_13 hr_13 => ?_)
          refine lv_if_eq (tgt := 186) hx hb dX8_note_63 (by decide) (fun c_14 => ?_) (fun c_14 => ?_)
          · skip
            have ic_14 := ci_eq (rfl : Int32.toInt r_13 = _) (show Int32.toInt 0 = 0 by decide) c_14
            refine lv_iinc (v := (nI (k + 1))) (lv' := [(4, .int (nI (k + 1))), (0, .ref h0), (1, .int (nI (nb_cd x))), (2, .int (nI x)), (3, .int 0)]) hx hb dX8_note_186 hl (k := 4) rfl (nI_1 _) (by decide) rfl (fun ls hl => ?_)
            refine lv_goto (tgt := 48) hx hb dX8_note_189 (by decide) ?_
            exact ih48 (k + 1)  ⟨by omega, by omega⟩ (by omega)  _ _ (hP.sub [0, 1, 2, 3, 4, 5] rfl) (hD.sub [0, 1, 2, 3, 4, 5] (by decide) rfl) hS _ (lv_sub hl [1, 2, 3, 4, 0] rfl)
          · skip
            have ic_14 := ci_ne (rfl : Int32.toInt r_13 = _) (show Int32.toInt 0 = 0 by decide) c_14
            refine lv_aload_n hx hb dX8_note_66 rfl (lv_at hl 0 rfl) ?_
            refine lv_iload_n hx hb dX8_note_67 rfl (lv_at hl 2 rfl) ?_
            refine lv_iload hx hb dX8_note_68 (lv_at hl 4 rfl) ?_
            refine lv_aload_n hx hb dX8_note_70 rfl (lv_at hl 0 rfl) ?_
            refine va_get (D := (dC, dI)) (ci := 6) (v := .int 0) (C := RX8) (T := TX8) (N := 14) hx hb hts hnX8_note_X8 hown hK hP 0 rfl rfl 12 (by decide) (hts (.fieldLink RX8 132 "RingMeetsModel" "isBlind" "Z") (by decide +kernel)) (fun _ h9 => h9) rfl dX8_note_71 ?_
            refine lv_if_ne (tgt := 96) hx hb dX8_note_74 (by decide) (fun c_15 => ?_) (fun c_15 => ?_)
            · skip
              exact absurd c_15 (by decide)
            · skip
              refine lv_iload_n hx hb dX8_note_77 rfl (lv_at hl 1 rfl) ?_
              refine lv_aload_n hx hb dX8_note_78 rfl (lv_at hl 0 rfl) ?_
              refine va_get (D := (dC, dI)) (ci := 6) (v := .ref pw) (C := RX8) (T := TX8) (N := 14) hx hb hts hnX8_note_X8 hown hK hP 0 rfl rfl 3 (by decide) (hts (.fieldLink RX8 20 "RingMeetsModel" "power" "[I") (by decide +kernel)) (fun _ h9 => h9) rfl dX8_note_79 ?_
              refine lv_iload hx hb dX8_note_82 (lv_at hl 4 rfl) ?_
              refine va_iald (D := (dC, dI)) hx hb hK hP 2 0 rfl rfl (vp_in_nI (n := k) (N := 11) (by omega) (by omega)) dX8_note_84 ?_
              refine lv_topi (fun x_16 ex_16 => ?_)
              rw [nI_clamp (n := k) (by omega)] at ex_16
              obtain rfl : (nI (3 ^ k)) = x_16 := (ex_16.trans (hp _ (by omega))).symm
              refine lv_idiv hx hb dX8_note_85 (nb_p3 (by omega)) ?_
              refine lv_topi (fun x_17 ex_17 => ?_)
              refine lv_iconst (v := 3) hx hb dX8_note_86 (by decide) ?_
              refine lv_irem hx hb dX8_note_87 (by decide) ?_
              refine lv_topi (fun x_18 ex_18 => ?_)
              refine lv_iconst (v := 2) hx hb dX8_note_88 (by decide) ?_
              refine lv_icmp_ne (tgt := 96) hx hb dX8_note_89 (by decide) (fun c_19 => ?_) (fun c_19 => ?_)
              · skip
                have ic_19 := ci_ne (rfl : Int32.toInt x_18 = _) (show Int32.toInt 2 = 2 by decide) c_19
                refine lv_iconst (v := 0) hx hb dX8_note_96 (by decide) ?_
                refine vp_callSi (va_Run.run (va_runV (As := [.int (nI x), .int (nI k), .int 0]) (rest := []) ⟨hx, hb, hml, hown, hts⟩ (kX8_ruleOf l dC dI cyI cyZ h0 st im kp pw nx li il mv so la co (nI (L + 1)) 0 0 fs h8 hs (nI x) (nI k) 0) (cwV 3 hts gX8_note_X8_ruleOf rfl rfl rfl (by decide +kernel) ⟨Nat.le_of_ble_eq_true rfl, Nat.le_of_ble_eq_true rfl⟩) (bs_RV hB (hP.sub (ws' := [(h0, .inr (6, [.ref st, .ref im, .ref kp, .ref pw, .ref nx, .ref li, .int (nI (L + 1)), .ref il, .ref mv, .ref so, .ref la, .int 0, .int 0, .ref co])), (st, .inl (cyI, 72, .inl fs))]) [0, 1] rfl) 0 rfl rfl) rfl rfl hl.1 rfl (lv_room (Nat.le_of_ble_eq_true rfl)) dX8_note_97 ⟨Nat.le_of_ble_eq_true rfl, Nat.le_of_ble_eq_true rfl⟩)) (fun r_20 hr_20 => ?_)
                obtain rfl : (-6) = r_20 := Eq.symm hr_20
                refine lv_istore (lv' := [(5, .int (-6)), (0, .ref h0), (1, .int (nI (nb_cd x))), (2, .int (nI x)), (3, .int 0), (4, .int (nI k))]) hx hb dX8_note_100 hl (by decide) rfl (fun ls hl => ?_)
                refine lv_aload_n hx hb dX8_note_102 rfl (lv_at hl 1 rfl) ?_
                refine lv_iload_n hx hb dX8_note_103 rfl (lv_at hl 3 rfl) ?_
                refine lv_iload hx hb dX8_note_104 (lv_at hl 5 rfl) ?_
                refine lv_aload_n hx hb dX8_note_106 rfl (lv_at hl 1 rfl) ?_
                refine lv_iload hx hb dX8_note_107 (lv_at hl 0 rfl) ?_
                refine vp_callSi (va_Run.run (va_runV (As := [.int (-6)]) (rest := [.int (nI k), .int (nI x), .ref h0]) ⟨hx, hb, hml, hown, hts⟩ (kX8_doneBy l dC dI cyI cyZ h0 st im kp pw nx li il mv so la co (nI (L + 1)) 0 0) (cwV 1 hts gX8_note_X8_doneBy rfl rfl rfl (by decide +kernel) ⟨Nat.le_of_ble_eq_true rfl, Nat.le_of_ble_eq_true rfl⟩) (bs_RV hB (hP.sub (ws' := [(h0, .inr (6, [.ref st, .ref im, .ref kp, .ref pw, .ref nx, .ref li, .int (nI (L + 1)), .ref il, .ref mv, .ref so, .ref la, .int 0, .int 0, .ref co]))]) [0] rfl) 0 rfl rfl) rfl rfl hl.1 rfl (lv_room (Nat.le_of_ble_eq_true rfl)) dX8_note_109 ⟨Nat.le_of_ble_eq_true rfl, Nat.le_of_ble_eq_true rfl⟩)) (fun r_21 hr_21 => ?_)
                obtain rfl : r_21 = 0 := hr_21
                refine vp_callSi (va_Run.run (va_runV (As := [.int (nI x), .int (nI k), .int 0]) (rest := []) ⟨hx, hb, hml, hown, hts⟩ (kX8_behind l dC dI cyI cyZ h0 st im kp pw nx li il mv so la co (nI (L + 1)) 0 0 fs h8 x hx9 hx0 k (by omega)) (cwV 3 hts gX8_note_X8_behind rfl rfl rfl (by decide +kernel) ⟨Nat.le_of_ble_eq_true rfl, Nat.le_of_ble_eq_true rfl⟩) (bs_RV hB (hP.sub (ws' := [(h0, .inr (6, [.ref st, .ref im, .ref kp, .ref pw, .ref nx, .ref li, .int (nI (L + 1)), .ref il, .ref mv, .ref so, .ref la, .int 0, .int 0, .ref co])), (st, .inl (cyI, 72, .inl fs))]) [0, 1] rfl) 0 rfl rfl) rfl rfl hl.1 rfl (lv_room (Nat.le_of_ble_eq_true rfl)) dX8_note_112 ⟨Nat.le_of_ble_eq_true rfl, Nat.le_of_ble_eq_true rfl⟩)) (fun r_22 hr_22 => ?_)
                obtain rfl : (nI k) = r_22 := Eq.symm hr_22
                refine lv_istore (lv' := [(6, .int (nI k)), (5, .int (-6)), (0, .ref h0), (1, .int (nI (nb_cd x))), (2, .int (nI x)), (3, .int 0), (4, .int (nI k))]) hx hb dX8_note_115 hl (by decide) rfl (fun ls hl => ?_)
                refine lv_iload_n hx hb dX8_note_117 rfl (lv_at hl 5 rfl) ?_
                refine lv_aload_n hx hb dX8_note_118 rfl (lv_at hl 2 rfl) ?_
                refine va_get (D := (dC, dI)) (ci := 6) (v := .ref pw) (C := RX8) (T := TX8) (N := 14) hx hb hts hnX8_note_X8 hown hK hP 0 rfl rfl 3 (by decide) (hts (.fieldLink RX8 20 "RingMeetsModel" "power" "[I") (by decide +kernel)) (fun _ h9 => h9) rfl dX8_note_119 ?_
                refine lv_iload hx hb dX8_note_122 (lv_at hl 6 rfl) ?_
                refine va_iald (D := (dC, dI)) hx hb hK hP 2 0 rfl rfl (vp_in_nI (n := k) (N := 11) (by omega) (by omega)) dX8_note_124 ?_
                refine lv_topi (fun x_23 ex_23 => ?_)
                rw [nI_clamp (n := k) (by omega)] at ex_23
                obtain rfl : (nI (3 ^ k)) = x_23 := (ex_23.trans (hp _ (by omega))).symm
                refine lv_iload hx hb dX8_note_125 (lv_at hl 0 rfl) ?_
                refine lv_iload hx hb dX8_note_127 (lv_at hl 6 rfl) ?_
                refine lv_icmp_ne (tgt := 136) hx hb dX8_note_129 (by decide) (fun c_24 => ?_) (fun c_24 => ?_)
                · skip
                  exact absurd rfl c_24
                · skip
                  refine lv_iconst (v := 0) hx hb dX8_note_132 (by decide) ?_
                  refine lv_goto (tgt := 153) hx hb dX8_note_133 (by decide) ?_
                  refine lv_imul hx hb dX8_note_153 ?_
                  refine lv_topi (fun x_25 ex_25 => ?_)
                  obtain rfl : 0 = x_25 := (ex_25.trans (Int32.mul_zero)).symm
                  refine lv_iadd hx hb dX8_note_154 ?_
                  refine lv_topi (fun x_26 ex_26 => ?_)
                  obtain rfl : 0 = x_26 := (ex_26.trans (by decide)).symm
                  refine lv_istore_n (lv' := [(3, .int 0), (6, .int (nI k)), (5, .int (-6)), (0, .ref h0), (1, .int (nI (nb_cd x))), (2, .int (nI x)), (4, .int (nI k))]) hx hb dX8_note_155 rfl hl (by decide) rfl (fun ls hl => ?_)
                  refine lv_aload_n hx hb dX8_note_156 rfl (lv_at hl 3 rfl) ?_
                  refine lv_dup hx hb dX8_note_157 rfl ?_
                  refine va_get (D := (dC, dI)) (ci := 6) (v := .int 0) (C := RX8) (T := TX8) (N := 14) hx hb hts hnX8_note_X8 hown hK hP 0 rfl rfl 11 (by decide) (hts (.fieldLink RX8 136 "RingMeetsModel" "usedRules" "I") (by decide +kernel)) (fun _ h9 => h9) rfl dX8_note_158 ?_
                  refine lv_iload hx hb dX8_note_161 (lv_at hl 2 rfl) ?_
                  refine lv_if_lt (tgt := 181) hx hb dX8_note_163 (by decide) (fun c_27 => ?_) (fun c_27 => ?_)
                  · skip
                    refine lv_iconst (v := 0) hx hb dX8_note_181 (by decide) ?_
                    refine lv_ior hx hb dX8_note_182 ?_
                    refine lv_topi (fun x_28 ex_28 => ?_)
                    obtain rfl : 0 = x_28 := (ex_28.trans (by decide)).symm
                    refine va_put (D := (dC, dI)) (ci := 6) (v := .int 0) (ty := .int) (C := RX8) (T := TX8) (N := 14) hx hb hts hnX8_note_X8 tyX8 tyX8_ok nmX8 hown hK hP hD hS 0 rfl rfl 11 (by decide) (hts (.fieldLink RX8 136 "RingMeetsModel" "usedRules" "I") (by decide +kernel)) (fun _ h9 => h9) rfl (by decide +kernel) rfl rfl (Nat.le_of_ble_eq_true rfl) dX8_note_183 (fun H locs hP hD hS => ?_)
                    have hP : va_P (dC, dI) vwCl [(h0, .inr (6, [.ref st, .ref im, .ref kp, .ref pw, .ref nx, .ref li, .int (nI (L + 1)), .ref il, .ref mv, .ref so, .ref la, .int 0, .int 0, .ref co])), (st, .inl (cyI, 72, .inl fs)), (pw, .inl (cyI, 11, .inl fp)), (li, .inl (cyI, 59049, .inl g_4)), (il, .inl (cyZ, 59049, .inl g_3)), (mv, .inl (cyI, 59049, .inl mf))] _ := hP
                    have hD : va_D A [(h0, .inr (6, [.ref st, .ref im, .ref kp, .ref pw, .ref nx, .ref li, .int (nI (L + 1)), .ref il, .ref mv, .ref so, .ref la, .int 0, .int 0, .ref co])), (st, .inl (cyI, 72, .inl fs)), (pw, .inl (cyI, 11, .inl fp)), (li, .inl (cyI, 59049, .inl g_4)), (il, .inl (cyZ, 59049, .inl g_3)), (mv, .inl (cyI, 59049, .inl mf))] := hD
                    refine lv_iinc (v := (nI (k + 1))) (lv' := [(4, .int (nI (k + 1))), (3, .int 0), (6, .int (nI k)), (5, .int (-6)), (0, .ref h0), (1, .int (nI (nb_cd x))), (2, .int (nI x))]) hx hb dX8_note_186 hl (k := 6) rfl (nI_1 _) (by decide) rfl (fun ls hl => ?_)
                    refine lv_goto (tgt := 48) hx hb dX8_note_189 (by decide) ?_
                    exact ih48 (k + 1)  ⟨by omega, by omega⟩ (by omega)  _ _ (hP.sub [0, 1, 2, 3, 4, 5] rfl) (hD.sub [0, 1, 2, 3, 4, 5] (by decide) rfl) hS _ (lv_sub hl [4, 5, 6, 1, 0] rfl)
                  · skip
                    exact absurd c_27 (by decide)
              · skip
                have ic_19 := ci_eq (rfl : Int32.toInt x_18 = _) (show Int32.toInt 2 = 2 by decide) c_19
                refine lv_iconst (v := 1) hx hb dX8_note_92 (by decide) ?_
                refine lv_goto (tgt := 97) hx hb dX8_note_93 (by decide) ?_
                refine vp_callSi (va_Run.run (va_runV (As := [.int (nI x), .int (nI k), .int 1]) (rest := []) ⟨hx, hb, hml, hown, hts⟩ (kX8_ruleOf l dC dI cyI cyZ h0 st im kp pw nx li il mv so la co (nI (L + 1)) 0 0 fs h8 hs (nI x) (nI k) 1) (cwV 3 hts gX8_note_X8_ruleOf rfl rfl rfl (by decide +kernel) ⟨Nat.le_of_ble_eq_true rfl, Nat.le_of_ble_eq_true rfl⟩) (bs_RV hB (hP.sub (ws' := [(h0, .inr (6, [.ref st, .ref im, .ref kp, .ref pw, .ref nx, .ref li, .int (nI (L + 1)), .ref il, .ref mv, .ref so, .ref la, .int 0, .int 0, .ref co])), (st, .inl (cyI, 72, .inl fs))]) [0, 1] rfl) 0 rfl rfl) rfl rfl hl.1 rfl (lv_room (Nat.le_of_ble_eq_true rfl)) dX8_note_97 ⟨Nat.le_of_ble_eq_true rfl, Nat.le_of_ble_eq_true rfl⟩)) (fun r_29 hr_29 => ?_)
                obtain rfl : (-6) = r_29 := Eq.symm hr_29
                refine lv_istore (lv' := [(5, .int (-6)), (0, .ref h0), (1, .int (nI (nb_cd x))), (2, .int (nI x)), (3, .int 0), (4, .int (nI k))]) hx hb dX8_note_100 hl (by decide) rfl (fun ls hl => ?_)
                refine lv_aload_n hx hb dX8_note_102 rfl (lv_at hl 1 rfl) ?_
                refine lv_iload_n hx hb dX8_note_103 rfl (lv_at hl 3 rfl) ?_
                refine lv_iload hx hb dX8_note_104 (lv_at hl 5 rfl) ?_
                refine lv_aload_n hx hb dX8_note_106 rfl (lv_at hl 1 rfl) ?_
                refine lv_iload hx hb dX8_note_107 (lv_at hl 0 rfl) ?_
                refine vp_callSi (va_Run.run (va_runV (As := [.int (-6)]) (rest := [.int (nI k), .int (nI x), .ref h0]) ⟨hx, hb, hml, hown, hts⟩ (kX8_doneBy l dC dI cyI cyZ h0 st im kp pw nx li il mv so la co (nI (L + 1)) 0 0) (cwV 1 hts gX8_note_X8_doneBy rfl rfl rfl (by decide +kernel) ⟨Nat.le_of_ble_eq_true rfl, Nat.le_of_ble_eq_true rfl⟩) (bs_RV hB (hP.sub (ws' := [(h0, .inr (6, [.ref st, .ref im, .ref kp, .ref pw, .ref nx, .ref li, .int (nI (L + 1)), .ref il, .ref mv, .ref so, .ref la, .int 0, .int 0, .ref co]))]) [0] rfl) 0 rfl rfl) rfl rfl hl.1 rfl (lv_room (Nat.le_of_ble_eq_true rfl)) dX8_note_109 ⟨Nat.le_of_ble_eq_true rfl, Nat.le_of_ble_eq_true rfl⟩)) (fun r_30 hr_30 => ?_)
                obtain rfl : r_30 = 0 := hr_30
                refine vp_callSi (va_Run.run (va_runV (As := [.int (nI x), .int (nI k), .int 0]) (rest := []) ⟨hx, hb, hml, hown, hts⟩ (kX8_behind l dC dI cyI cyZ h0 st im kp pw nx li il mv so la co (nI (L + 1)) 0 0 fs h8 x hx9 hx0 k (by omega)) (cwV 3 hts gX8_note_X8_behind rfl rfl rfl (by decide +kernel) ⟨Nat.le_of_ble_eq_true rfl, Nat.le_of_ble_eq_true rfl⟩) (bs_RV hB (hP.sub (ws' := [(h0, .inr (6, [.ref st, .ref im, .ref kp, .ref pw, .ref nx, .ref li, .int (nI (L + 1)), .ref il, .ref mv, .ref so, .ref la, .int 0, .int 0, .ref co])), (st, .inl (cyI, 72, .inl fs))]) [0, 1] rfl) 0 rfl rfl) rfl rfl hl.1 rfl (lv_room (Nat.le_of_ble_eq_true rfl)) dX8_note_112 ⟨Nat.le_of_ble_eq_true rfl, Nat.le_of_ble_eq_true rfl⟩)) (fun r_31 hr_31 => ?_)
                obtain rfl : (nI k) = r_31 := Eq.symm hr_31
                refine lv_istore (lv' := [(6, .int (nI k)), (5, .int (-6)), (0, .ref h0), (1, .int (nI (nb_cd x))), (2, .int (nI x)), (3, .int 0), (4, .int (nI k))]) hx hb dX8_note_115 hl (by decide) rfl (fun ls hl => ?_)
                refine lv_iload_n hx hb dX8_note_117 rfl (lv_at hl 5 rfl) ?_
                refine lv_aload_n hx hb dX8_note_118 rfl (lv_at hl 2 rfl) ?_
                refine va_get (D := (dC, dI)) (ci := 6) (v := .ref pw) (C := RX8) (T := TX8) (N := 14) hx hb hts hnX8_note_X8 hown hK hP 0 rfl rfl 3 (by decide) (hts (.fieldLink RX8 20 "RingMeetsModel" "power" "[I") (by decide +kernel)) (fun _ h9 => h9) rfl dX8_note_119 ?_
                refine lv_iload hx hb dX8_note_122 (lv_at hl 6 rfl) ?_
                refine va_iald (D := (dC, dI)) hx hb hK hP 2 0 rfl rfl (vp_in_nI (n := k) (N := 11) (by omega) (by omega)) dX8_note_124 ?_
                refine lv_topi (fun x_32 ex_32 => ?_)
                rw [nI_clamp (n := k) (by omega)] at ex_32
                obtain rfl : (nI (3 ^ k)) = x_32 := (ex_32.trans (hp _ (by omega))).symm
                refine lv_iload hx hb dX8_note_125 (lv_at hl 0 rfl) ?_
                refine lv_iload hx hb dX8_note_127 (lv_at hl 6 rfl) ?_
                refine lv_icmp_ne (tgt := 136) hx hb dX8_note_129 (by decide) (fun c_33 => ?_) (fun c_33 => ?_)
                · skip
                  exact absurd rfl c_33
                · skip
                  refine lv_iconst (v := 0) hx hb dX8_note_132 (by decide) ?_
                  refine lv_goto (tgt := 153) hx hb dX8_note_133 (by decide) ?_
                  refine lv_imul hx hb dX8_note_153 ?_
                  refine lv_topi (fun x_34 ex_34 => ?_)
                  obtain rfl : 0 = x_34 := (ex_34.trans (Int32.mul_zero)).symm
                  refine lv_iadd hx hb dX8_note_154 ?_
                  refine lv_topi (fun x_35 ex_35 => ?_)
                  obtain rfl : 0 = x_35 := (ex_35.trans (by decide)).symm
                  refine lv_istore_n (lv' := [(3, .int 0), (6, .int (nI k)), (5, .int (-6)), (0, .ref h0), (1, .int (nI (nb_cd x))), (2, .int (nI x)), (4, .int (nI k))]) hx hb dX8_note_155 rfl hl (by decide) rfl (fun ls hl => ?_)
                  refine lv_aload_n hx hb dX8_note_156 rfl (lv_at hl 3 rfl) ?_
                  refine lv_dup hx hb dX8_note_157 rfl ?_
                  refine va_get (D := (dC, dI)) (ci := 6) (v := .int 0) (C := RX8) (T := TX8) (N := 14) hx hb hts hnX8_note_X8 hown hK hP 0 rfl rfl 11 (by decide) (hts (.fieldLink RX8 136 "RingMeetsModel" "usedRules" "I") (by decide +kernel)) (fun _ h9 => h9) rfl dX8_note_158 ?_
                  refine lv_iload hx hb dX8_note_161 (lv_at hl 2 rfl) ?_
                  refine lv_if_lt (tgt := 181) hx hb dX8_note_163 (by decide) (fun c_36 => ?_) (fun c_36 => ?_)
                  · skip
                    refine lv_iconst (v := 0) hx hb dX8_note_181 (by decide) ?_
                    refine lv_ior hx hb dX8_note_182 ?_
                    refine lv_topi (fun x_37 ex_37 => ?_)
                    obtain rfl : 0 = x_37 := (ex_37.trans (by decide)).symm
                    refine va_put (D := (dC, dI)) (ci := 6) (v := .int 0) (ty := .int) (C := RX8) (T := TX8) (N := 14) hx hb hts hnX8_note_X8 tyX8 tyX8_ok nmX8 hown hK hP hD hS 0 rfl rfl 11 (by decide) (hts (.fieldLink RX8 136 "RingMeetsModel" "usedRules" "I") (by decide +kernel)) (fun _ h9 => h9) rfl (by decide +kernel) rfl rfl (Nat.le_of_ble_eq_true rfl) dX8_note_183 (fun H locs hP hD hS => ?_)
                    have hP : va_P (dC, dI) vwCl [(h0, .inr (6, [.ref st, .ref im, .ref kp, .ref pw, .ref nx, .ref li, .int (nI (L + 1)), .ref il, .ref mv, .ref so, .ref la, .int 0, .int 0, .ref co])), (st, .inl (cyI, 72, .inl fs)), (pw, .inl (cyI, 11, .inl fp)), (li, .inl (cyI, 59049, .inl g_4)), (il, .inl (cyZ, 59049, .inl g_3)), (mv, .inl (cyI, 59049, .inl mf))] _ := hP
                    have hD : va_D A [(h0, .inr (6, [.ref st, .ref im, .ref kp, .ref pw, .ref nx, .ref li, .int (nI (L + 1)), .ref il, .ref mv, .ref so, .ref la, .int 0, .int 0, .ref co])), (st, .inl (cyI, 72, .inl fs)), (pw, .inl (cyI, 11, .inl fp)), (li, .inl (cyI, 59049, .inl g_4)), (il, .inl (cyZ, 59049, .inl g_3)), (mv, .inl (cyI, 59049, .inl mf))] := hD
                    refine lv_iinc (v := (nI (k + 1))) (lv' := [(4, .int (nI (k + 1))), (3, .int 0), (6, .int (nI k)), (5, .int (-6)), (0, .ref h0), (1, .int (nI (nb_cd x))), (2, .int (nI x))]) hx hb dX8_note_186 hl (k := 6) rfl (nI_1 _) (by decide) rfl (fun ls hl => ?_)
                    refine lv_goto (tgt := 48) hx hb dX8_note_189 (by decide) ?_
                    exact ih48 (k + 1)  ⟨by omega, by omega⟩ (by omega)  _ _ (hP.sub [0, 1, 2, 3, 4, 5] rfl) (hD.sub [0, 1, 2, 3, 4, 5] (by decide) rfl) hS _ (lv_sub hl [4, 5, 6, 1, 0] rfl)
                  · skip
                    exact absurd c_36 (by decide)
    exact L48 9 0  ⟨by omega, by omega⟩ (by omega)  _ _ (hP.sub [0, 1, 2, 3, 4, 5] rfl) (hD.sub [0, 1, 2, 3, 4, 5] (by decide) rfl) hS _ (lv_sub hl [3, 4, 2, 1, 0] rfl)
  · skip
    have ic_2 := ci_ne (rfl : Int32.toInt x_1 = _) (show Int32.toInt 0 = 0 by decide) c_2
    exact W.vret hx hb hr (fun t ht hW => ⟨⟨(L, lf, ilf, mf), rfl, ⟨hmf, Or.inl ⟨rfl, rfl, rfl, fun q => c_2 (ex_1.trans q)⟩⟩, ⟨by rw [ht]; exact hP.sub (ws' := [(h0, .inr (6, [.ref st, .ref im, .ref kp, .ref pw, .ref nx, .ref li, .int (nI L), .ref il, .ref mv, .ref so, .ref la, .int 0, .int 0, .ref co])), (st, .inl (cyI, 72, .inl fs)), (pw, .inl (cyI, 11, .inl fp)), (li, .inl (cyI, 59049, .inl lf)), (il, .inl (cyZ, 59049, .inl ilf)), (mv, .inl (cyI, 59049, .inl mf))]) [0, 1, 2, 3, 4, 5] rfl, hD.sub (ws' := [(h0, .inr (6, [.ref st, .ref im, .ref kp, .ref pw, .ref nx, .ref li, .int (nI L), .ref il, .ref mv, .ref so, .ref la, .int 0, .int 0, .ref co])), (st, .inl (cyI, 72, .inl fs)), (pw, .inl (cyI, 11, .inl fp)), (li, .inl (cyI, 59049, .inl lf)), (il, .inl (cyZ, 59049, .inl ilf)), (mv, .inl (cyI, 59049, .inl mf))]) [0, 1, 2, 3, 4, 5] (by decide) rfl⟩⟩, hS.F ht⟩) hS.2.2 dX8_note_9

theorem hnX8_movers_X8 : ∀ w ∈ wsX80, w ∈ wsX8_movers := fun _ h => List.mem_cons_of_mem _ (List.mem_append_right _ h)
set_option maxHeartbeats 4000000 in
set_option maxRecDepth 100000 in
theorem kX8_movers (l : Launch) (dC : Nat → ClassId) (dI : Nat → Nat → Nat) (cyI cyZ : ClassId) (h0 st im kp pw nx li il mv so la co : Nat) (d6 d11 d12 : Int32) (fs : Nat → Int32) (h8 : fs 0 = 8) (fp : Nat → Int32) (hp : ∀ j, j ≤ 10 → fp j = nI (3 ^ j)) (mf : Nat → Int32) (hmf : ∀ j, mf j = 0) (cv : Nat) (hcv : cv < 59049) : Met l yX8_movers wsX8_movers ({ frames := 2, cells := 0, slots := 0, locals := 43 }) (bs_R dC dI cyI cyZ [.ref h0, .int (nI cv)] [(h0, .inr (6, [.ref st, .ref im, .ref kp, .ref pw, .ref nx, .ref li, .int d6, .ref il, .ref mv, .ref so, .ref la, .int d11, .int d12, .ref co])), (st, .inl (cyI, 72, .inl fs)), (pw, .inl (cyI, 11, .inl fp)), (mv, .inl (cyI, 59049, .inl mf))]) (vp_Si (fun r : Int32 => r = 0)) 0 0 (fun _ => False) := by
  refine Met.ofW (cc := cX8_movers) (maxL := 2) (ret := (some .int)) (by decide) rfl ?_
  intro p e s m args below meth c s₁ B hml hv
  obtain ⟨rfl, hB, hP⟩ := hv
  have hK := hB.1
  have hN := hB.2
  have hx := B.exec
  have hb := B.bytes
  have hr := B.returns
  have hts := atoms_spec (ws := wsX8_movers) B.pre
  have hown : s.vm.findClass RX8 = some m.cls := findClass_of_methodNamed B.named
  have hlocks := B.notSynchronized
  have hP : va_P (dC, dI) vwCl [(h0, .inr (6, [.ref st, .ref im, .ref kp, .ref pw, .ref nx, .ref li, .int d6, .ref il, .ref mv, .ref so, .ref la, .int d11, .int d12, .ref co])), (st, .inl (cyI, 72, .inl fs)), (pw, .inl (cyI, 11, .inl fp)), (mv, .inl (cyI, 59049, .inl mf))] s.heap := hP
  have hl := lv_entry ([.ref h0, .int (nI cv)]) (n := 2) (Nat.le_of_ble_eq_true rfl)
  rw [lg_entry_eq]
  generalize (lg_sl ([.ref h0, .int (nI cv)]) ++ List.replicate (2 - (lg_sl ([.ref h0, .int (nI cv)])).length) Slot.unset).toArray = ls at hl ⊢
  have hl : lv_has ls 2 [(0, .ref h0), (1, .int (nI cv))] := hl
  refine lv_aload_n hx hb dX8_movers_0 rfl (lv_at hl 0 rfl) ?_
  refine lv_aload_n hx hb dX8_movers_1 rfl (lv_at hl 0 rfl) ?_
  refine va_get (D := (dC, dI)) (ci := 6) (v := .ref mv) (C := RX8) (T := TX8) (N := 14) hx hb hts hnX8_movers_X8 hown hK hP 0 rfl rfl 8 (by decide) (hts (.fieldLink RX8 33 "RingMeetsModel" "moves" "[I") (by decide +kernel)) (fun _ h9 => h9) rfl dX8_movers_2 ?_
  refine lv_iload_n hx hb dX8_movers_5 rfl (lv_at hl 1 rfl) ?_
  refine va_iald (D := (dC, dI)) hx hb hK hP 3 0 rfl rfl (vp_in_nI (n := cv) (N := 59049) (by omega) (by omega)) dX8_movers_6 ?_
  refine lv_topi (fun x_1 ex_1 => ?_)
  rw [nI_clamp (n := cv) (by omega)] at ex_1
  obtain rfl : 0 = x_1 := (ex_1.trans (hmf _)).symm
  refine vp_callSi (va_Run.run (va_runV (As := [.int 0]) (rest := []) ⟨hx, hb, hml, hown, hts⟩ (kX8_standsOf l dC dI cyI cyZ h0 st im kp pw nx li il mv so la co d6 d11 d12 fs h8 fp hp 0) (cwV 1 hts gX8_movers_X8_standsOf rfl rfl rfl (by decide +kernel) ⟨Nat.le_of_ble_eq_true rfl, Nat.le_of_ble_eq_true rfl⟩) (bs_RV hB (hP.sub (ws' := [(h0, .inr (6, [.ref st, .ref im, .ref kp, .ref pw, .ref nx, .ref li, .int d6, .ref il, .ref mv, .ref so, .ref la, .int d11, .int d12, .ref co])), (st, .inl (cyI, 72, .inl fs)), (pw, .inl (cyI, 11, .inl fp))]) [0, 1, 2] rfl) 0 rfl rfl) rfl rfl hl.1 rfl (lv_room (Nat.le_of_ble_eq_true rfl)) dX8_movers_7 ⟨Nat.le_of_ble_eq_true rfl, Nat.le_of_ble_eq_true rfl⟩)) (fun r_2 hr_2 => ?_)
  obtain rfl : r_2 = 0 := hr_2.trans (by decide)
  exact W.iret (v := 0) hx hb hr (fun t ht hW => ⟨0, rfl, rfl, ht⟩) (fun q h => by cases h) dX8_movers_10

set_option maxHeartbeats 4000000 in
set_option maxRecDepth 100000 in
theorem kX8_isMet (l : Launch) (dC : Nat → ClassId) (dI : Nat → Nat → Nat) (cyI cyZ : ClassId) (h0 st im kp pw nx li il mv so la co : Nat) (d6 d11 d12 : Int32) (fs : Nat → Int32) (h8 : fs 0 = 8) (fp : Nat → Int32) (hp : ∀ j, j ≤ 10 → fp j = nI (3 ^ j)) (x : Nat) (hx9 : x < 256) (nn : Int32) (hsn : nb_sz (nI x) 10 = nn) : Met l yX8_isMet wsX8_isMet ({ frames := 2, cells := 0, slots := 0, locals := 43 }) (bs_R dC dI cyI cyZ [.ref h0, .int (nI (nb_cd x))] [(h0, .inr (6, [.ref st, .ref im, .ref kp, .ref pw, .ref nx, .ref li, .int d6, .ref il, .ref mv, .ref so, .ref la, .int d11, .int d12, .ref co])), (st, .inl (cyI, 72, .inl fs)), (pw, .inl (cyI, 11, .inl fp))]) (vp_Si (fun r : Int32 => r = if nn = 1 then 1 else 0)) 0 0 (fun _ => False) := by
  refine Met.ofW (cc := cX8_isMet) (maxL := 2) (ret := (some .boolean)) (by decide) rfl ?_
  intro p e s m args below meth c s₁ B hml hv
  obtain ⟨rfl, hB, hP⟩ := hv
  have hK := hB.1
  have hN := hB.2
  have hx := B.exec
  have hb := B.bytes
  have hr := B.returns
  have hts := atoms_spec (ws := wsX8_isMet) B.pre
  have hown : s.vm.findClass RX8 = some m.cls := findClass_of_methodNamed B.named
  have hlocks := B.notSynchronized
  have hP : va_P (dC, dI) vwCl [(h0, .inr (6, [.ref st, .ref im, .ref kp, .ref pw, .ref nx, .ref li, .int d6, .ref il, .ref mv, .ref so, .ref la, .int d11, .int d12, .ref co])), (st, .inl (cyI, 72, .inl fs)), (pw, .inl (cyI, 11, .inl fp))] s.heap := hP
  have hl := lv_entry ([.ref h0, .int (nI (nb_cd x))]) (n := 2) (Nat.le_of_ble_eq_true rfl)
  rw [lg_entry_eq]
  generalize (lg_sl ([.ref h0, .int (nI (nb_cd x))]) ++ List.replicate (2 - (lg_sl ([.ref h0, .int (nI (nb_cd x))])).length) Slot.unset).toArray = ls at hl ⊢
  have hl : lv_has ls 2 [(0, .ref h0), (1, .int (nI (nb_cd x)))] := hl
  refine lv_aload_n hx hb dX8_isMet_0 rfl (lv_at hl 0 rfl) ?_
  refine lv_iload_n hx hb dX8_isMet_1 rfl (lv_at hl 1 rfl) ?_
  refine vp_callSi (va_Run.run (va_runV (As := [.int (nI (nb_cd x))]) (rest := []) ⟨hx, hb, hml, hown, hts⟩ (kX8_standsOf l dC dI cyI cyZ h0 st im kp pw nx li il mv so la co d6 d11 d12 fs h8 fp hp (nI (nb_cd x))) (cwV 1 hts gX8_isMet_X8_standsOf rfl rfl rfl (by decide +kernel) ⟨Nat.le_of_ble_eq_true rfl, Nat.le_of_ble_eq_true rfl⟩) (bs_RV hB (hP.sub (ws' := [(h0, .inr (6, [.ref st, .ref im, .ref kp, .ref pw, .ref nx, .ref li, .int d6, .ref il, .ref mv, .ref so, .ref la, .int d11, .int d12, .ref co])), (st, .inl (cyI, 72, .inl fs)), (pw, .inl (cyI, 11, .inl fp))]) [0, 1, 2] rfl) 0 rfl rfl) rfl rfl hl.1 rfl (lv_room (Nat.le_of_ble_eq_true rfl)) dX8_isMet_2 ⟨Nat.le_of_ble_eq_true rfl, Nat.le_of_ble_eq_true rfl⟩)) (fun r_1 hr_1 => ?_)
  obtain rfl : nI x = r_1 := Eq.symm (hr_1.trans (nb_cd3 hx9))
  refine vp_callSi (va_Run.run (va_runS (As := [.int (nI x)]) (rest := []) ⟨hx, hb, hml, hown, hts⟩ (kX8_size l dC dI cyI cyZ (nI x)) (va_cwS 1 hts gX8_isMet_X8_size rfl rfl rfl (by decide +kernel) ⟨Nat.le_of_ble_eq_true rfl, Nat.le_of_ble_eq_true rfl⟩) (bs_RS hB (hP.sub (ws' := []) [] rfl)) rfl rfl hl.1 rfl (lv_room (Nat.le_of_ble_eq_true rfl)) dX8_isMet_5 ⟨Nat.le_of_ble_eq_true rfl, Nat.le_of_ble_eq_true rfl⟩)) (fun r_2 hr_2 => ?_)
  refine lv_iconst (v := 1) hx hb dX8_isMet_8 (by decide) ?_
  refine lv_icmp_ne (tgt := 16) hx hb dX8_isMet_9 (by decide) (fun c_3 => ?_) (fun c_3 => ?_)
  · skip
    have ic_3 := ci_ne (rfl : Int32.toInt r_2 = _) (show Int32.toInt 1 = 1 by decide) c_3
    refine lv_iconst (v := 0) hx hb dX8_isMet_16 (by decide) ?_
    exact W.zret (v := 0) hx hb hr (show narrow .boolean (.int 0) = .int 0 from rfl) (fun t ht hW => ⟨0, rfl, (show (0 : Int32) = if nn = 1 then 1 else 0 by rw [if_neg (by rw [← hsn, ← hr_2]; exact c_3)]), ht⟩) (fun q h => by cases h) dX8_isMet_17
  · skip
    have ic_3 := ci_eq (rfl : Int32.toInt r_2 = _) (show Int32.toInt 1 = 1 by decide) c_3
    refine lv_iconst (v := 1) hx hb dX8_isMet_12 (by decide) ?_
    refine lv_goto (tgt := 17) hx hb dX8_isMet_13 (by decide) ?_
    exact W.zret (v := 1) hx hb hr (show narrow .boolean (.int 1) = .int 1 from rfl) (fun t ht hW => ⟨1, rfl, (show (1 : Int32) = if nn = 1 then 1 else 0 by rw [if_pos (by rw [← hsn, ← hr_2]; exact c_3)]), ht⟩) (fun q h => by cases h) dX8_isMet_17

theorem hnX8_begin_X8 : ∀ w ∈ wsX80, w ∈ wsX8_begin := fun _ h => List.mem_cons_of_mem _ (List.mem_append_right _ h)
set_option maxHeartbeats 4000000 in
set_option maxRecDepth 100000 in
theorem kX8_begin (l : Launch) (dC : Nat → ClassId) (dI : Nat → Nat → Nat) (cyI cyZ : ClassId) (h0 st im kp pw nx li il mv so la co : Nat) (d6 d11 d12 : Int32) (ilf : Nat → Int32) (sz : Nat) : Met l yX8_begin wsX8_begin ({ frames := 0, cells := 0, slots := 0, locals := 0 }) (bs_W dC dI cyI cyZ [.ref h0, .int 0] [(h0, .inr (6, [.ref st, .ref im, .ref kp, .ref pw, .ref nx, .ref li, .int d6, .ref il, .ref mv, .ref so, .ref la, .int d11, .int d12, .ref co])), (il, .inl (cyZ, 59049, .inl ilf))] sz) (va_Qv (S := Nat → Int32) (fun q : Nat → Int32 => ∀ j, j < 59049 → q j = 0) (fun q t => bs_E dC dI (va_A [(h0, .inr (6, [.ref st, .ref im, .ref kp, .ref pw, .ref nx, .ref li, .int d6, .ref il, .ref mv, .ref so, .ref la, .int d11, .int d12, .ref co])), (il, .inl (cyZ, 59049, .inl ilf))] sz) [(h0, .inr (6, [.ref st, .ref im, .ref kp, .ref pw, .ref nx, .ref li, .int 0, .ref il, .ref mv, .ref so, .ref la, .int 0, .int 0, .ref co])), (il, .inl (cyZ, 59049, .inl q))] t) (va_A [(h0, .inr (6, [.ref st, .ref im, .ref kp, .ref pw, .ref nx, .ref li, .int d6, .ref il, .ref mv, .ref so, .ref la, .int d11, .int d12, .ref co])), (il, .inl (cyZ, 59049, .inl ilf))] sz)) 0 0 (va_A [(h0, .inr (6, [.ref st, .ref im, .ref kp, .ref pw, .ref nx, .ref li, .int d6, .ref il, .ref mv, .ref so, .ref la, .int d11, .int d12, .ref co])), (il, .inl (cyZ, 59049, .inl ilf))] sz) := by
  refine Met.ofW (cc := cX8_begin) (maxL := 3) (ret := none) (by decide) rfl ?_
  intro p e s m args below meth c s₁ B hml hv
  obtain ⟨rfl, hsz, hB, hP, hD0⟩ := hv
  have hK := hB.1
  have hN := hB.2
  have hx := B.exec
  have hb := B.bytes
  have hr := B.returns
  have hts := atoms_spec (ws := wsX8_begin) B.pre
  have hown : s.vm.findClass RX8 = some m.cls := findClass_of_methodNamed B.named
  have hlocks := B.notSynchronized
  subst hsz
  have hD := hD0.self (sz := s.heap.size)
  generalize hAe : va_A [(h0, .inr (6, [.ref st, .ref im, .ref kp, .ref pw, .ref nx, .ref li, .int d6, .ref il, .ref mv, .ref so, .ref la, .int d11, .int d12, .ref co])), (il, .inl (cyZ, 59049, .inl ilf))] s.heap.size = A at hD ⊢
  have hA : ∀ q : Nat, s.heap.size ≤ q → A q := fun q h => by rw [← hAe]; exact Or.inr h
  have hS : va_S A s.heap s.heap [] := va_S.rf
  have hP : va_P (dC, dI) vwCl [(h0, .inr (6, [.ref st, .ref im, .ref kp, .ref pw, .ref nx, .ref li, .int d6, .ref il, .ref mv, .ref so, .ref la, .int d11, .int d12, .ref co])), (il, .inl (cyZ, 59049, .inl ilf))] s.heap := hP
  have hl := lv_entry ([.ref h0, .int 0]) (n := 3) (Nat.le_of_ble_eq_true rfl)
  rw [lg_entry_eq]
  generalize (lg_sl ([.ref h0, .int 0]) ++ List.replicate (3 - (lg_sl ([.ref h0, .int 0])).length) Slot.unset).toArray = ls at hl ⊢
  have hl : lv_has ls 3 [(0, .ref h0), (1, .int 0)] := hl
  refine lv_iconst (v := 0) hx hb dX8_begin_0 (by decide) ?_
  refine lv_istore_n (lv' := [(2, .int 0), (0, .ref h0), (1, .int 0)]) hx hb dX8_begin_1 rfl hl (by decide) rfl (fun ls hl => ?_)
  have L2 : ∀ (n2 : Nat), ∀ (k : Nat) (ilf : Nat → Int32), (0 ≤ k ∧ k ≤ 59049) → (59050 ≤ k + n2) → (∀ j, j < k → ilf j = 0) → ∀ (H : Heap) (locs : List Loc), va_P (dC, dI) vwCl [(h0, .inr (6, [.ref st, .ref im, .ref kp, .ref pw, .ref nx, .ref li, .int d6, .ref il, .ref mv, .ref so, .ref la, .int d11, .int d12, .ref co])), (il, .inl (cyZ, 59049, .inl ilf))] H → va_D A [(h0, .inr (6, [.ref st, .ref im, .ref kp, .ref pw, .ref nx, .ref li, .int d6, .ref il, .ref mv, .ref so, .ref la, .int d11, .int d12, .ref co])), (il, .inl (cyZ, 59049, .inl ilf))] → va_S A s.heap H locs → ∀ (ls : Array Slot), lv_has ls 3 [(0, .ref h0), (1, .int 0), (2, .int (nI k))] → W p l e (headSpec wsX8_begin ({ frames := 0, cells := 0, slots := 0, locals := 0 })).room s m ([.ref h0, .int 0] : List Value).toArray below meth c H locs 0 0 (MQ below (va_Qv (S := Nat → Int32) (fun q : Nat → Int32 => ∀ j, j < 59049 → q j = 0) (fun q t => bs_E dC dI A [(h0, .inr (6, [.ref st, .ref im, .ref kp, .ref pw, .ref nx, .ref li, .int 0, .ref il, .ref mv, .ref so, .ref la, .int 0, .int 0, .ref co])), (il, .inl (cyZ, 59049, .inl q))] t) A) ([.ref h0, .int 0] : List Value).toArray s 0 0 A) (F0 m 2 ls []) := by
    intro n2
    induction n2 with
    | zero =>
      intro k ilf hk2 hn2 hil H locs hP hD hS ls hl
      exfalso
      omega
    | succ n2 ih2 =>
      intro k ilf hk2 hn2 hil H locs hP hD hS ls hl
      refine lv_iload_n hx hb dX8_begin_2 rfl (lv_at hl 2 rfl) ?_
      refine lv_ldc (v := 59049) hx hb hown (hts (.constant RX8 26 (59049)) (by decide +kernel)) dX8_begin_3 ?_
      refine lv_icmp_ge (tgt := 21) hx hb dX8_begin_5 (by decide) (fun c_1 => ?_) (fun c_1 => ?_)
      · skip
        have ic_1 := ci_le (show Int32.toInt 59049 = 59049 by decide) (nI_toInt (n := k) (by omega)) c_1
        refine lv_aload_n hx hb dX8_begin_21 rfl (lv_at hl 0 rfl) ?_
        refine lv_iconst (v := 0) hx hb dX8_begin_22 (by decide) ?_
        refine va_put (D := (dC, dI)) (ci := 6) (v := .int 0) (ty := .int) (C := RX8) (T := TX8) (N := 14) hx hb hts hnX8_begin_X8 tyX8 tyX8_ok nmX8 hown hK hP hD hS 0 rfl rfl 6 (by decide) (hts (.fieldLink RX8 128 "RingMeetsModel" "listed" "I") (by decide +kernel)) (fun _ h9 => h9) rfl (by decide +kernel) rfl rfl (Nat.le_of_ble_eq_true rfl) dX8_begin_23 (fun H locs hP hD hS => ?_)
        have hP : va_P (dC, dI) vwCl [(h0, .inr (6, [.ref st, .ref im, .ref kp, .ref pw, .ref nx, .ref li, .int 0, .ref il, .ref mv, .ref so, .ref la, .int d11, .int d12, .ref co])), (il, .inl (cyZ, 59049, .inl ilf))] _ := hP
        have hD : va_D A [(h0, .inr (6, [.ref st, .ref im, .ref kp, .ref pw, .ref nx, .ref li, .int 0, .ref il, .ref mv, .ref so, .ref la, .int d11, .int d12, .ref co])), (il, .inl (cyZ, 59049, .inl ilf))] := hD
        refine lv_aload_n hx hb dX8_begin_26 rfl (lv_at hl 0 rfl) ?_
        refine lv_iconst (v := 0) hx hb dX8_begin_27 (by decide) ?_
        refine va_put (D := (dC, dI)) (ci := 6) (v := .int 0) (ty := .int) (C := RX8) (T := TX8) (N := 14) hx hb hts hnX8_begin_X8 tyX8 tyX8_ok nmX8 hown hK hP hD hS 0 rfl rfl 11 (by decide) (hts (.fieldLink RX8 136 "RingMeetsModel" "usedRules" "I") (by decide +kernel)) (fun _ h9 => h9) rfl (by decide +kernel) rfl rfl (Nat.le_of_ble_eq_true rfl) dX8_begin_28 (fun H locs hP hD hS => ?_)
        have hP : va_P (dC, dI) vwCl [(h0, .inr (6, [.ref st, .ref im, .ref kp, .ref pw, .ref nx, .ref li, .int 0, .ref il, .ref mv, .ref so, .ref la, .int 0, .int d12, .ref co])), (il, .inl (cyZ, 59049, .inl ilf))] _ := hP
        have hD : va_D A [(h0, .inr (6, [.ref st, .ref im, .ref kp, .ref pw, .ref nx, .ref li, .int 0, .ref il, .ref mv, .ref so, .ref la, .int 0, .int d12, .ref co])), (il, .inl (cyZ, 59049, .inl ilf))] := hD
        refine lv_aload_n hx hb dX8_begin_31 rfl (lv_at hl 0 rfl) ?_
        refine lv_iload_n hx hb dX8_begin_32 rfl (lv_at hl 1 rfl) ?_
        refine va_put (D := (dC, dI)) (ci := 6) (v := .int 0) (ty := .boolean) (C := RX8) (T := TX8) (N := 14) hx hb hts hnX8_begin_X8 tyX8 tyX8_ok nmX8 hown hK hP hD hS 0 rfl rfl 12 (by decide) (hts (.fieldLink RX8 132 "RingMeetsModel" "isBlind" "Z") (by decide +kernel)) (fun _ h9 => h9) rfl (by decide +kernel) rfl rfl (Nat.le_of_ble_eq_true rfl) dX8_begin_33 (fun H locs hP hD hS => ?_)
        have hP : va_P (dC, dI) vwCl [(h0, .inr (6, [.ref st, .ref im, .ref kp, .ref pw, .ref nx, .ref li, .int 0, .ref il, .ref mv, .ref so, .ref la, .int 0, .int 0, .ref co])), (il, .inl (cyZ, 59049, .inl ilf))] _ := hP
        have hD : va_D A [(h0, .inr (6, [.ref st, .ref im, .ref kp, .ref pw, .ref nx, .ref li, .int 0, .ref il, .ref mv, .ref so, .ref la, .int 0, .int 0, .ref co])), (il, .inl (cyZ, 59049, .inl ilf))] := hD
        exact W.vret hx hb hr (fun t ht hW => ⟨⟨ilf, rfl, (fun j hj => hil j (by omega)), ⟨by rw [ht]; exact hP.sub (ws' := [(h0, .inr (6, [.ref st, .ref im, .ref kp, .ref pw, .ref nx, .ref li, .int 0, .ref il, .ref mv, .ref so, .ref la, .int 0, .int 0, .ref co])), (il, .inl (cyZ, 59049, .inl ilf))]) [0, 1] rfl, hD.sub (ws' := [(h0, .inr (6, [.ref st, .ref im, .ref kp, .ref pw, .ref nx, .ref li, .int 0, .ref il, .ref mv, .ref so, .ref la, .int 0, .int 0, .ref co])), (il, .inl (cyZ, 59049, .inl ilf))]) [0, 1] (by decide) rfl⟩⟩, hS.F ht⟩) hS.2.2 dX8_begin_36
      · skip
        have ic_1 := ci_nle (show Int32.toInt 59049 = 59049 by decide) (nI_toInt (n := k) (by omega)) c_1
        refine lv_aload_n hx hb dX8_begin_8 rfl (lv_at hl 0 rfl) ?_
        refine va_get (D := (dC, dI)) (ci := 6) (v := .ref il) (C := RX8) (T := TX8) (N := 14) hx hb hts hnX8_begin_X8 hown hK hP 0 rfl rfl 7 (by decide) (hts (.fieldLink RX8 30 "RingMeetsModel" "isListed" "[Z") (by decide +kernel)) (fun _ h9 => h9) rfl dX8_begin_9 ?_
        refine lv_iload_n hx hb dX8_begin_12 rfl (lv_at hl 2 rfl) ?_
        refine lv_iconst (v := 0) hx hb dX8_begin_13 (by decide) ?_
        refine va_zast (D := (dC, dI)) hx hb hK hP hD hS 1 1 rfl rfl (vp_in_nI (n := k) (N := 59049) (by omega) (by omega)) dX8_begin_14 (fun H locs hP hD hS => ?_)
        obtain ⟨g_2, eg_2⟩ : ∃ y : Nat → Int32, y = upd ilf (Int32.toNatClampNeg (nI k)) (vp_nar .boolean 0) := ⟨_, rfl⟩
        have hP : va_P (dC, dI) vwCl [(h0, .inr (6, [.ref st, .ref im, .ref kp, .ref pw, .ref nx, .ref li, .int d6, .ref il, .ref mv, .ref so, .ref la, .int d11, .int d12, .ref co])), (il, .inl (cyZ, 59049, .inl g_2))] H := by rw [eg_2]; exact hP
        have hD : va_D A [(h0, .inr (6, [.ref st, .ref im, .ref kp, .ref pw, .ref nx, .ref li, .int d6, .ref il, .ref mv, .ref so, .ref la, .int d11, .int d12, .ref co])), (il, .inl (cyZ, 59049, .inl g_2))] := by rw [eg_2]; exact hD
        rw [nI_clamp (n := k) (by omega)] at eg_2
        have eg_2 : g_2 = upd ilf k 0 := eg_2
        refine lv_iinc (v := (nI (k + 1))) (lv' := [(2, .int (nI (k + 1))), (0, .ref h0), (1, .int 0)]) hx hb dX8_begin_15 hl (k := 2) rfl (nI_1 _) (by decide) rfl (fun ls hl => ?_)
        refine lv_goto (tgt := 2) hx hb dX8_begin_18 (by decide) ?_
        exact ih2 (k + 1) g_2 ⟨by omega, by omega⟩ (by omega) (fun j hj => by rw [eg_2]; unfold upd; split; rfl; exact hil j (by omega)) _ _ (hP.sub [0, 1] rfl) (hD.sub [0, 1] (by decide) rfl) hS _ (lv_sub hl [1, 2, 0] rfl)
  exact L2 59050 0 ilf ⟨by omega, by omega⟩ (by omega) (fun j hj => by omega) _ _ (hP.sub [0, 1] rfl) (hD.sub [0, 1] (by decide) rfl) hS _ (lv_sub hl [1, 2, 0] rfl)

theorem hnX8_look_X8 : ∀ w ∈ wsX80, w ∈ wsX8_look := fun _ h => List.mem_cons_of_mem _ (List.mem_append_right _ h)
set_option maxHeartbeats 4000000 in
set_option maxRecDepth 100000 in
theorem kX8_look (l : Launch) (dC : Nat → ClassId) (dI : Nat → Nat → Nat) (cyI cyZ : ClassId) (h0 st im kp pw nx li il mv so la co : Nat) (d6 d11 d12 : Int32) (fs : Nat → Int32) (h8 : fs 0 = 8) (fp : Nat → Int32) (hp : ∀ j, j ≤ 10 → fp j = nI (3 ^ j)) (mf fso fla : Nat → Int32) (hmf : ∀ j, mf j = 0) (cv : Nat) (hcv : cv < 59049) (p2 p3 : Int32) (sz : Nat) : Met l yX8_look wsX8_look ({ frames := 3, cells := 0, slots := 0, locals := 64 }) (bs_W dC dI cyI cyZ [.ref h0, .int (nI cv), .int p2, .int p3] [(h0, .inr (6, [.ref st, .ref im, .ref kp, .ref pw, .ref nx, .ref li, .int d6, .ref il, .ref mv, .ref so, .ref la, .int d11, .int d12, .ref co])), (st, .inl (cyI, 72, .inl fs)), (pw, .inl (cyI, 11, .inl fp)), (mv, .inl (cyI, 59049, .inl mf)), (so, .inl (cyI, 59049, .inl fso)), (la, .inl (cyI, 59049, .inl fla))] sz) (va_Qi (S := (Nat → Int32) × (Nat → Int32)) (fun (r : Int32) (q : (Nat → Int32) × (Nat → Int32)) => r = 0 ∧ (∀ j, q.1 j = fso j) ∧ (∀ j, q.2 j = fla j)) (fun q t => bs_E dC dI (va_A [(h0, .inr (6, [.ref st, .ref im, .ref kp, .ref pw, .ref nx, .ref li, .int d6, .ref il, .ref mv, .ref so, .ref la, .int d11, .int d12, .ref co])), (st, .inl (cyI, 72, .inl fs)), (pw, .inl (cyI, 11, .inl fp)), (mv, .inl (cyI, 59049, .inl mf)), (so, .inl (cyI, 59049, .inl fso)), (la, .inl (cyI, 59049, .inl fla))] sz) [(h0, .inr (6, [.ref st, .ref im, .ref kp, .ref pw, .ref nx, .ref li, .int d6, .ref il, .ref mv, .ref so, .ref la, .int d11, .int d12, .ref co])), (st, .inl (cyI, 72, .inl fs)), (pw, .inl (cyI, 11, .inl fp)), (mv, .inl (cyI, 59049, .inl mf)), (so, .inl (cyI, 59049, .inl q.1)), (la, .inl (cyI, 59049, .inl q.2))] t) (va_A [(h0, .inr (6, [.ref st, .ref im, .ref kp, .ref pw, .ref nx, .ref li, .int d6, .ref il, .ref mv, .ref so, .ref la, .int d11, .int d12, .ref co])), (st, .inl (cyI, 72, .inl fs)), (pw, .inl (cyI, 11, .inl fp)), (mv, .inl (cyI, 59049, .inl mf)), (so, .inl (cyI, 59049, .inl fso)), (la, .inl (cyI, 59049, .inl fla))] sz)) 0 0 (va_A [(h0, .inr (6, [.ref st, .ref im, .ref kp, .ref pw, .ref nx, .ref li, .int d6, .ref il, .ref mv, .ref so, .ref la, .int d11, .int d12, .ref co])), (st, .inl (cyI, 72, .inl fs)), (pw, .inl (cyI, 11, .inl fp)), (mv, .inl (cyI, 59049, .inl mf)), (so, .inl (cyI, 59049, .inl fso)), (la, .inl (cyI, 59049, .inl fla))] sz) := by
  refine Met.ofW (cc := cX8_look) (maxL := 9) (ret := (some .boolean)) (by decide) rfl ?_
  intro p e s m args below meth c s₁ B hml hv
  obtain ⟨rfl, hsz, hB, hP, hD0⟩ := hv
  have hK := hB.1
  have hN := hB.2
  have hx := B.exec
  have hb := B.bytes
  have hr := B.returns
  have hts := atoms_spec (ws := wsX8_look) B.pre
  have hown : s.vm.findClass RX8 = some m.cls := findClass_of_methodNamed B.named
  have hlocks := B.notSynchronized
  subst hsz
  have hD := hD0.self (sz := s.heap.size)
  generalize hAe : va_A [(h0, .inr (6, [.ref st, .ref im, .ref kp, .ref pw, .ref nx, .ref li, .int d6, .ref il, .ref mv, .ref so, .ref la, .int d11, .int d12, .ref co])), (st, .inl (cyI, 72, .inl fs)), (pw, .inl (cyI, 11, .inl fp)), (mv, .inl (cyI, 59049, .inl mf)), (so, .inl (cyI, 59049, .inl fso)), (la, .inl (cyI, 59049, .inl fla))] s.heap.size = A at hD ⊢
  have hA : ∀ q : Nat, s.heap.size ≤ q → A q := fun q h => by rw [← hAe]; exact Or.inr h
  have hS : va_S A s.heap s.heap [] := va_S.rf
  have hP : va_P (dC, dI) vwCl [(h0, .inr (6, [.ref st, .ref im, .ref kp, .ref pw, .ref nx, .ref li, .int d6, .ref il, .ref mv, .ref so, .ref la, .int d11, .int d12, .ref co])), (st, .inl (cyI, 72, .inl fs)), (pw, .inl (cyI, 11, .inl fp)), (mv, .inl (cyI, 59049, .inl mf)), (so, .inl (cyI, 59049, .inl fso)), (la, .inl (cyI, 59049, .inl fla))] s.heap := hP
  have hl := lv_entry ([.ref h0, .int (nI cv), .int p2, .int p3]) (n := 9) (Nat.le_of_ble_eq_true rfl)
  rw [lg_entry_eq]
  generalize (lg_sl ([.ref h0, .int (nI cv), .int p2, .int p3]) ++ List.replicate (9 - (lg_sl ([.ref h0, .int (nI cv), .int p2, .int p3])).length) Slot.unset).toArray = ls at hl ⊢
  have hl : lv_has ls 9 [(0, .ref h0), (1, .int (nI cv)), (2, .int p2), (3, .int p3)] := hl
  refine lv_aload_n hx hb dX8_look_0 rfl (lv_at hl 0 rfl) ?_
  refine lv_iload_n hx hb dX8_look_1 rfl (lv_at hl 1 rfl) ?_
  refine vp_callSi (va_Run.run (va_runV (As := [.int (nI cv)]) (rest := []) ⟨hx, hb, hml, hown, hts⟩ (kX8_movers l dC dI cyI cyZ h0 st im kp pw nx li il mv so la co d6 d11 d12 fs h8 fp hp mf hmf cv (by omega)) (cwV 1 hts gX8_look_X8_movers rfl rfl rfl (by decide +kernel) ⟨Nat.le_of_ble_eq_true rfl, Nat.le_of_ble_eq_true rfl⟩) (bs_RV hB (hP.sub (ws' := [(h0, .inr (6, [.ref st, .ref im, .ref kp, .ref pw, .ref nx, .ref li, .int d6, .ref il, .ref mv, .ref so, .ref la, .int d11, .int d12, .ref co])), (st, .inl (cyI, 72, .inl fs)), (pw, .inl (cyI, 11, .inl fp)), (mv, .inl (cyI, 59049, .inl mf))]) [0, 1, 2, 3] rfl) 0 rfl rfl) rfl rfl hl.1 rfl (lv_room (Nat.le_of_ble_eq_true rfl)) dX8_look_2 ⟨Nat.le_of_ble_eq_true rfl, Nat.le_of_ble_eq_true rfl⟩)) (fun r_1 hr_1 => ?_)
  obtain rfl : r_1 = 0 := hr_1
  refine lv_istore (lv' := [(4, .int 0), (0, .ref h0), (1, .int (nI cv)), (2, .int p2), (3, .int p3)]) hx hb dX8_look_5 hl (by decide) rfl (fun ls hl => ?_)
  refine lv_iconst (v := 0) hx hb dX8_look_7 (by decide) ?_
  refine lv_istore (lv' := [(5, .int 0), (4, .int 0), (0, .ref h0), (1, .int (nI cv)), (2, .int p2), (3, .int p3)]) hx hb dX8_look_8 hl (by decide) rfl (fun ls hl => ?_)
  refine lv_iload hx hb dX8_look_10 (lv_at hl 1 rfl) ?_
  refine lv_if_eq (tgt := 19) hx hb dX8_look_12 (by decide) (fun c_2 => ?_) (fun c_2 => ?_)
  · skip
    refine lv_iconst (v := 0) hx hb dX8_look_19 (by decide) ?_
    refine lv_istore (lv' := [(6, .int 0), (5, .int 0), (4, .int 0), (0, .ref h0), (1, .int (nI cv)), (2, .int p2), (3, .int p3)]) hx hb dX8_look_20 hl (by decide) rfl (fun ls hl => ?_)
    refine lv_iload hx hb dX8_look_22 (lv_at hl 2 rfl) ?_
    refine lv_ineg hx hb dX8_look_24 ?_
    refine lv_topi (fun x_3 ex_3 => ?_)
    obtain rfl : 0 = x_3 := (ex_3.trans (by decide)).symm
    refine lv_iload hx hb dX8_look_25 (lv_at hl 2 rfl) ?_
    refine lv_iand hx hb dX8_look_27 ?_
    refine lv_topi (fun x_4 ex_4 => ?_)
    obtain rfl : 0 = x_4 := (ex_4.trans (by decide)).symm
    refine lv_istore (lv' := [(7, .int 0), (6, .int 0), (5, .int 0), (4, .int 0), (0, .ref h0), (1, .int (nI cv)), (2, .int p2), (3, .int p3)]) hx hb dX8_look_28 hl (by decide) rfl (fun ls hl => ?_)
    refine lv_iload hx hb dX8_look_30 (lv_at hl 0 rfl) ?_
    refine lv_if_eq (tgt := 122) hx hb dX8_look_32 (by decide) (fun c_5 => ?_) (fun c_5 => ?_)
    · skip
      refine lv_aload_n hx hb dX8_look_122 rfl (lv_at hl 4 rfl) ?_
      refine va_get (D := (dC, dI)) (ci := 6) (v := .ref so) (C := RX8) (T := TX8) (N := 14) hx hb hts hnX8_look_X8 hown hK hP 0 rfl rfl 9 (by decide) (hts (.fieldLink RX8 36 "RingMeetsModel" "soon" "[I") (by decide +kernel)) (fun _ h9 => h9) rfl dX8_look_123 ?_
      refine lv_iload_n hx hb dX8_look_126 rfl (lv_at hl 5 rfl) ?_
      refine va_iald (D := (dC, dI)) hx hb hK hP 4 0 rfl rfl (vp_in_nI (n := cv) (N := 59049) (by omega) (by omega)) dX8_look_127 ?_
      refine lv_topi (fun x_6 ex_6 => ?_)
      rw [nI_clamp (n := cv) (by omega)] at ex_6
      refine lv_if_ge (tgt := 140) hx hb dX8_look_128 (by decide) (fun c_7 => ?_) (fun c_7 => ?_)
      · skip
        have ic_7 := ci_le (show Int32.toInt 0 = 0 by decide) (rfl : Int32.toInt x_6 = _) c_7
        refine lv_iconst (v := 0) hx hb dX8_look_140 (by decide) ?_
        refine lv_istore (lv' := [(7, .int 0), (6, .int 0), (5, .int 0), (4, .int 0), (0, .ref h0), (1, .int (nI cv)), (2, .int p2), (3, .int p3)]) hx hb dX8_look_141 hl (by decide) rfl (fun ls hl => ?_)
        refine lv_aload_n hx hb dX8_look_143 rfl (lv_at hl 4 rfl) ?_
        refine va_get (D := (dC, dI)) (ci := 6) (v := .ref la) (C := RX8) (T := TX8) (N := 14) hx hb hts hnX8_look_X8 hown hK hP 0 rfl rfl 10 (by decide) (hts (.fieldLink RX8 39 "RingMeetsModel" "late" "[I") (by decide +kernel)) (fun _ h9 => h9) rfl dX8_look_144 ?_
        refine lv_iload_n hx hb dX8_look_147 rfl (lv_at hl 5 rfl) ?_
        refine va_iald (D := (dC, dI)) hx hb hK hP 5 0 rfl rfl (vp_in_nI (n := cv) (N := 59049) (by omega) (by omega)) dX8_look_148 ?_
        refine lv_topi (fun x_8 ex_8 => ?_)
        rw [nI_clamp (n := cv) (by omega)] at ex_8
        refine lv_if_ge (tgt := 161) hx hb dX8_look_149 (by decide) (fun c_9 => ?_) (fun c_9 => ?_)
        · skip
          have ic_9 := ci_le (show Int32.toInt 0 = 0 by decide) (rfl : Int32.toInt x_8 = _) c_9
          refine lv_iconst (v := 0) hx hb dX8_look_161 (by decide) ?_
          refine lv_istore (lv' := [(8, .int 0), (7, .int 0), (6, .int 0), (5, .int 0), (4, .int 0), (0, .ref h0), (1, .int (nI cv)), (2, .int p2), (3, .int p3)]) hx hb dX8_look_162 hl (by decide) rfl (fun ls hl => ?_)
          refine lv_aload_n hx hb dX8_look_164 rfl (lv_at hl 5 rfl) ?_
          refine va_get (D := (dC, dI)) (ci := 6) (v := .ref so) (C := RX8) (T := TX8) (N := 14) hx hb hts hnX8_look_X8 hown hK hP 0 rfl rfl 9 (by decide) (hts (.fieldLink RX8 36 "RingMeetsModel" "soon" "[I") (by decide +kernel)) (fun _ h9 => h9) rfl dX8_look_165 ?_
          refine lv_iload_n hx hb dX8_look_168 rfl (lv_at hl 6 rfl) ?_
          refine lv_iload hx hb dX8_look_169 (lv_at hl 1 rfl) ?_
          refine lv_if_eq (tgt := 178) hx hb dX8_look_171 (by decide) (fun c_10 => ?_) (fun c_10 => ?_)
          · skip
            refine lv_aload_n hx hb dX8_look_178 rfl (lv_at hl 5 rfl) ?_
            refine va_get (D := (dC, dI)) (ci := 6) (v := .ref so) (C := RX8) (T := TX8) (N := 14) hx hb hts hnX8_look_X8 hown hK hP 0 rfl rfl 9 (by decide) (hts (.fieldLink RX8 36 "RingMeetsModel" "soon" "[I") (by decide +kernel)) (fun _ h9 => h9) rfl dX8_look_179 ?_
            refine lv_iload_n hx hb dX8_look_182 rfl (lv_at hl 6 rfl) ?_
            refine va_iald (D := (dC, dI)) hx hb hK hP 4 0 rfl rfl (vp_in_nI (n := cv) (N := 59049) (by omega) (by omega)) dX8_look_183 ?_
            refine lv_topi (fun x_11 ex_11 => ?_)
            rw [nI_clamp (n := cv) (by omega)] at ex_11
            refine va_iast (D := (dC, dI)) hx hb hK hP hD hS 4 0 rfl rfl (vp_in_nI (n := cv) (N := 59049) (by omega) (by omega)) dX8_look_184 (fun H locs hP hD hS => ?_)
            obtain ⟨g_12, eg_12⟩ : ∃ y : Nat → Int32, y = upd fso (Int32.toNatClampNeg (nI cv)) x_11 := ⟨_, rfl⟩
            have hP : va_P (dC, dI) vwCl [(h0, .inr (6, [.ref st, .ref im, .ref kp, .ref pw, .ref nx, .ref li, .int d6, .ref il, .ref mv, .ref so, .ref la, .int d11, .int d12, .ref co])), (st, .inl (cyI, 72, .inl fs)), (pw, .inl (cyI, 11, .inl fp)), (mv, .inl (cyI, 59049, .inl mf)), (so, .inl (cyI, 59049, .inl g_12)), (la, .inl (cyI, 59049, .inl fla))] H := by rw [eg_12]; exact hP
            have hD : va_D A [(h0, .inr (6, [.ref st, .ref im, .ref kp, .ref pw, .ref nx, .ref li, .int d6, .ref il, .ref mv, .ref so, .ref la, .int d11, .int d12, .ref co])), (st, .inl (cyI, 72, .inl fs)), (pw, .inl (cyI, 11, .inl fp)), (mv, .inl (cyI, 59049, .inl mf)), (so, .inl (cyI, 59049, .inl g_12)), (la, .inl (cyI, 59049, .inl fla))] := by rw [eg_12]; exact hD
            rw [nI_clamp (n := cv) (by omega)] at eg_12
            refine lv_aload_n hx hb dX8_look_185 rfl (lv_at hl 5 rfl) ?_
            refine va_get (D := (dC, dI)) (ci := 6) (v := .ref la) (C := RX8) (T := TX8) (N := 14) hx hb hts hnX8_look_X8 hown hK hP 0 rfl rfl 10 (by decide) (hts (.fieldLink RX8 39 "RingMeetsModel" "late" "[I") (by decide +kernel)) (fun _ h9 => h9) rfl dX8_look_186 ?_
            refine lv_iload_n hx hb dX8_look_189 rfl (lv_at hl 6 rfl) ?_
            refine lv_iload hx hb dX8_look_190 (lv_at hl 0 rfl) ?_
            refine lv_if_eq (tgt := 199) hx hb dX8_look_192 (by decide) (fun c_13 => ?_) (fun c_13 => ?_)
            · skip
              refine lv_aload_n hx hb dX8_look_199 rfl (lv_at hl 5 rfl) ?_
              refine va_get (D := (dC, dI)) (ci := 6) (v := .ref la) (C := RX8) (T := TX8) (N := 14) hx hb hts hnX8_look_X8 hown hK hP 0 rfl rfl 10 (by decide) (hts (.fieldLink RX8 39 "RingMeetsModel" "late" "[I") (by decide +kernel)) (fun _ h9 => h9) rfl dX8_look_200 ?_
              refine lv_iload_n hx hb dX8_look_203 rfl (lv_at hl 6 rfl) ?_
              refine va_iald (D := (dC, dI)) hx hb hK hP 5 0 rfl rfl (vp_in_nI (n := cv) (N := 59049) (by omega) (by omega)) dX8_look_204 ?_
              refine lv_topi (fun x_14 ex_14 => ?_)
              rw [nI_clamp (n := cv) (by omega)] at ex_14
              refine va_iast (D := (dC, dI)) hx hb hK hP hD hS 5 0 rfl rfl (vp_in_nI (n := cv) (N := 59049) (by omega) (by omega)) dX8_look_205 (fun H locs hP hD hS => ?_)
              obtain ⟨g_15, eg_15⟩ : ∃ y : Nat → Int32, y = upd fla (Int32.toNatClampNeg (nI cv)) x_14 := ⟨_, rfl⟩
              have hP : va_P (dC, dI) vwCl [(h0, .inr (6, [.ref st, .ref im, .ref kp, .ref pw, .ref nx, .ref li, .int d6, .ref il, .ref mv, .ref so, .ref la, .int d11, .int d12, .ref co])), (st, .inl (cyI, 72, .inl fs)), (pw, .inl (cyI, 11, .inl fp)), (mv, .inl (cyI, 59049, .inl mf)), (so, .inl (cyI, 59049, .inl g_12)), (la, .inl (cyI, 59049, .inl g_15))] H := by rw [eg_15]; exact hP
              have hD : va_D A [(h0, .inr (6, [.ref st, .ref im, .ref kp, .ref pw, .ref nx, .ref li, .int d6, .ref il, .ref mv, .ref so, .ref la, .int d11, .int d12, .ref co])), (st, .inl (cyI, 72, .inl fs)), (pw, .inl (cyI, 11, .inl fp)), (mv, .inl (cyI, 59049, .inl mf)), (so, .inl (cyI, 59049, .inl g_12)), (la, .inl (cyI, 59049, .inl g_15))] := by rw [eg_15]; exact hD
              rw [nI_clamp (n := cv) (by omega)] at eg_15
              refine lv_iload hx hb dX8_look_206 (lv_at hl 1 rfl) ?_
              refine lv_if_ne (tgt := 216) hx hb dX8_look_208 (by decide) (fun c_16 => ?_) (fun c_16 => ?_)
              · skip
                exact absurd c_16 (by decide)
              · skip
                refine lv_iload hx hb dX8_look_211 (lv_at hl 0 rfl) ?_
                refine lv_if_eq (tgt := 220) hx hb dX8_look_213 (by decide) (fun c_17 => ?_) (fun c_17 => ?_)
                · skip
                  refine lv_iconst (v := 0) hx hb dX8_look_220 (by decide) ?_
                  exact W.zret (v := 0) hx hb hr (show narrow .boolean (.int 0) = .int 0 from rfl) (fun t ht hW => ⟨⟨0, (g_12, g_15), rfl, ⟨rfl, (fun q => (show g_12 q = fso q by rw [eg_12]; unfold upd; split; (rename_i z; rw [z]; exact ex_11); rfl)), (fun q => (show g_15 q = fla q by rw [eg_15]; unfold upd; split; (rename_i z; rw [z]; exact ex_14); rfl))⟩, ⟨by rw [ht]; exact hP.sub (ws' := [(h0, .inr (6, [.ref st, .ref im, .ref kp, .ref pw, .ref nx, .ref li, .int d6, .ref il, .ref mv, .ref so, .ref la, .int d11, .int d12, .ref co])), (st, .inl (cyI, 72, .inl fs)), (pw, .inl (cyI, 11, .inl fp)), (mv, .inl (cyI, 59049, .inl mf)), (so, .inl (cyI, 59049, .inl g_12)), (la, .inl (cyI, 59049, .inl g_15))]) [0, 1, 2, 3, 4, 5] rfl, hD.sub (ws' := [(h0, .inr (6, [.ref st, .ref im, .ref kp, .ref pw, .ref nx, .ref li, .int d6, .ref il, .ref mv, .ref so, .ref la, .int d11, .int d12, .ref co])), (st, .inl (cyI, 72, .inl fs)), (pw, .inl (cyI, 11, .inl fp)), (mv, .inl (cyI, 59049, .inl mf)), (so, .inl (cyI, 59049, .inl g_12)), (la, .inl (cyI, 59049, .inl g_15))]) [0, 1, 2, 3, 4, 5] (by decide) rfl⟩⟩, hS.F ht⟩) hS.2.2 dX8_look_221
                · skip
                  exact absurd c_17 (by decide)
            · skip
              exact absurd c_13 (by decide)
          · skip
            exact absurd c_10 (by decide)
        · skip
          have ic_9 := ci_nle (show Int32.toInt 0 = 0 by decide) (rfl : Int32.toInt x_8 = _) c_9
          refine lv_iload hx hb dX8_look_152 (lv_at hl 1 rfl) ?_
          refine lv_if_eq (tgt := 161) hx hb dX8_look_154 (by decide) (fun c_18 => ?_) (fun c_18 => ?_)
          · skip
            refine lv_iconst (v := 0) hx hb dX8_look_161 (by decide) ?_
            refine lv_istore (lv' := [(8, .int 0), (7, .int 0), (6, .int 0), (5, .int 0), (4, .int 0), (0, .ref h0), (1, .int (nI cv)), (2, .int p2), (3, .int p3)]) hx hb dX8_look_162 hl (by decide) rfl (fun ls hl => ?_)
            refine lv_aload_n hx hb dX8_look_164 rfl (lv_at hl 5 rfl) ?_
            refine va_get (D := (dC, dI)) (ci := 6) (v := .ref so) (C := RX8) (T := TX8) (N := 14) hx hb hts hnX8_look_X8 hown hK hP 0 rfl rfl 9 (by decide) (hts (.fieldLink RX8 36 "RingMeetsModel" "soon" "[I") (by decide +kernel)) (fun _ h9 => h9) rfl dX8_look_165 ?_
            refine lv_iload_n hx hb dX8_look_168 rfl (lv_at hl 6 rfl) ?_
            refine lv_iload hx hb dX8_look_169 (lv_at hl 1 rfl) ?_
            refine lv_if_eq (tgt := 178) hx hb dX8_look_171 (by decide) (fun c_19 => ?_) (fun c_19 => ?_)
            · skip
              refine lv_aload_n hx hb dX8_look_178 rfl (lv_at hl 5 rfl) ?_
              refine va_get (D := (dC, dI)) (ci := 6) (v := .ref so) (C := RX8) (T := TX8) (N := 14) hx hb hts hnX8_look_X8 hown hK hP 0 rfl rfl 9 (by decide) (hts (.fieldLink RX8 36 "RingMeetsModel" "soon" "[I") (by decide +kernel)) (fun _ h9 => h9) rfl dX8_look_179 ?_
              refine lv_iload_n hx hb dX8_look_182 rfl (lv_at hl 6 rfl) ?_
              refine va_iald (D := (dC, dI)) hx hb hK hP 4 0 rfl rfl (vp_in_nI (n := cv) (N := 59049) (by omega) (by omega)) dX8_look_183 ?_
              refine lv_topi (fun x_20 ex_20 => ?_)
              rw [nI_clamp (n := cv) (by omega)] at ex_20
              refine va_iast (D := (dC, dI)) hx hb hK hP hD hS 4 0 rfl rfl (vp_in_nI (n := cv) (N := 59049) (by omega) (by omega)) dX8_look_184 (fun H locs hP hD hS => ?_)
              obtain ⟨g_21, eg_21⟩ : ∃ y : Nat → Int32, y = upd fso (Int32.toNatClampNeg (nI cv)) x_20 := ⟨_, rfl⟩
              have hP : va_P (dC, dI) vwCl [(h0, .inr (6, [.ref st, .ref im, .ref kp, .ref pw, .ref nx, .ref li, .int d6, .ref il, .ref mv, .ref so, .ref la, .int d11, .int d12, .ref co])), (st, .inl (cyI, 72, .inl fs)), (pw, .inl (cyI, 11, .inl fp)), (mv, .inl (cyI, 59049, .inl mf)), (so, .inl (cyI, 59049, .inl g_21)), (la, .inl (cyI, 59049, .inl fla))] H := by rw [eg_21]; exact hP
              have hD : va_D A [(h0, .inr (6, [.ref st, .ref im, .ref kp, .ref pw, .ref nx, .ref li, .int d6, .ref il, .ref mv, .ref so, .ref la, .int d11, .int d12, .ref co])), (st, .inl (cyI, 72, .inl fs)), (pw, .inl (cyI, 11, .inl fp)), (mv, .inl (cyI, 59049, .inl mf)), (so, .inl (cyI, 59049, .inl g_21)), (la, .inl (cyI, 59049, .inl fla))] := by rw [eg_21]; exact hD
              rw [nI_clamp (n := cv) (by omega)] at eg_21
              refine lv_aload_n hx hb dX8_look_185 rfl (lv_at hl 5 rfl) ?_
              refine va_get (D := (dC, dI)) (ci := 6) (v := .ref la) (C := RX8) (T := TX8) (N := 14) hx hb hts hnX8_look_X8 hown hK hP 0 rfl rfl 10 (by decide) (hts (.fieldLink RX8 39 "RingMeetsModel" "late" "[I") (by decide +kernel)) (fun _ h9 => h9) rfl dX8_look_186 ?_
              refine lv_iload_n hx hb dX8_look_189 rfl (lv_at hl 6 rfl) ?_
              refine lv_iload hx hb dX8_look_190 (lv_at hl 0 rfl) ?_
              refine lv_if_eq (tgt := 199) hx hb dX8_look_192 (by decide) (fun c_22 => ?_) (fun c_22 => ?_)
              · skip
                refine lv_aload_n hx hb dX8_look_199 rfl (lv_at hl 5 rfl) ?_
                refine va_get (D := (dC, dI)) (ci := 6) (v := .ref la) (C := RX8) (T := TX8) (N := 14) hx hb hts hnX8_look_X8 hown hK hP 0 rfl rfl 10 (by decide) (hts (.fieldLink RX8 39 "RingMeetsModel" "late" "[I") (by decide +kernel)) (fun _ h9 => h9) rfl dX8_look_200 ?_
                refine lv_iload_n hx hb dX8_look_203 rfl (lv_at hl 6 rfl) ?_
                refine va_iald (D := (dC, dI)) hx hb hK hP 5 0 rfl rfl (vp_in_nI (n := cv) (N := 59049) (by omega) (by omega)) dX8_look_204 ?_
                refine lv_topi (fun x_23 ex_23 => ?_)
                rw [nI_clamp (n := cv) (by omega)] at ex_23
                refine va_iast (D := (dC, dI)) hx hb hK hP hD hS 5 0 rfl rfl (vp_in_nI (n := cv) (N := 59049) (by omega) (by omega)) dX8_look_205 (fun H locs hP hD hS => ?_)
                obtain ⟨g_24, eg_24⟩ : ∃ y : Nat → Int32, y = upd fla (Int32.toNatClampNeg (nI cv)) x_23 := ⟨_, rfl⟩
                have hP : va_P (dC, dI) vwCl [(h0, .inr (6, [.ref st, .ref im, .ref kp, .ref pw, .ref nx, .ref li, .int d6, .ref il, .ref mv, .ref so, .ref la, .int d11, .int d12, .ref co])), (st, .inl (cyI, 72, .inl fs)), (pw, .inl (cyI, 11, .inl fp)), (mv, .inl (cyI, 59049, .inl mf)), (so, .inl (cyI, 59049, .inl g_21)), (la, .inl (cyI, 59049, .inl g_24))] H := by rw [eg_24]; exact hP
                have hD : va_D A [(h0, .inr (6, [.ref st, .ref im, .ref kp, .ref pw, .ref nx, .ref li, .int d6, .ref il, .ref mv, .ref so, .ref la, .int d11, .int d12, .ref co])), (st, .inl (cyI, 72, .inl fs)), (pw, .inl (cyI, 11, .inl fp)), (mv, .inl (cyI, 59049, .inl mf)), (so, .inl (cyI, 59049, .inl g_21)), (la, .inl (cyI, 59049, .inl g_24))] := by rw [eg_24]; exact hD
                rw [nI_clamp (n := cv) (by omega)] at eg_24
                refine lv_iload hx hb dX8_look_206 (lv_at hl 1 rfl) ?_
                refine lv_if_ne (tgt := 216) hx hb dX8_look_208 (by decide) (fun c_25 => ?_) (fun c_25 => ?_)
                · skip
                  exact absurd c_25 (by decide)
                · skip
                  refine lv_iload hx hb dX8_look_211 (lv_at hl 0 rfl) ?_
                  refine lv_if_eq (tgt := 220) hx hb dX8_look_213 (by decide) (fun c_26 => ?_) (fun c_26 => ?_)
                  · skip
                    refine lv_iconst (v := 0) hx hb dX8_look_220 (by decide) ?_
                    exact W.zret (v := 0) hx hb hr (show narrow .boolean (.int 0) = .int 0 from rfl) (fun t ht hW => ⟨⟨0, (g_21, g_24), rfl, ⟨rfl, (fun q => (show g_21 q = fso q by rw [eg_21]; unfold upd; split; (rename_i z; rw [z]; exact ex_20); rfl)), (fun q => (show g_24 q = fla q by rw [eg_24]; unfold upd; split; (rename_i z; rw [z]; exact ex_23); rfl))⟩, ⟨by rw [ht]; exact hP.sub (ws' := [(h0, .inr (6, [.ref st, .ref im, .ref kp, .ref pw, .ref nx, .ref li, .int d6, .ref il, .ref mv, .ref so, .ref la, .int d11, .int d12, .ref co])), (st, .inl (cyI, 72, .inl fs)), (pw, .inl (cyI, 11, .inl fp)), (mv, .inl (cyI, 59049, .inl mf)), (so, .inl (cyI, 59049, .inl g_21)), (la, .inl (cyI, 59049, .inl g_24))]) [0, 1, 2, 3, 4, 5] rfl, hD.sub (ws' := [(h0, .inr (6, [.ref st, .ref im, .ref kp, .ref pw, .ref nx, .ref li, .int d6, .ref il, .ref mv, .ref so, .ref la, .int d11, .int d12, .ref co])), (st, .inl (cyI, 72, .inl fs)), (pw, .inl (cyI, 11, .inl fp)), (mv, .inl (cyI, 59049, .inl mf)), (so, .inl (cyI, 59049, .inl g_21)), (la, .inl (cyI, 59049, .inl g_24))]) [0, 1, 2, 3, 4, 5] (by decide) rfl⟩⟩, hS.F ht⟩) hS.2.2 dX8_look_221
                  · skip
                    exact absurd c_26 (by decide)
              · skip
                exact absurd c_22 (by decide)
            · skip
              exact absurd c_19 (by decide)
          · skip
            exact absurd c_18 (by decide)
      · skip
        have ic_7 := ci_nle (show Int32.toInt 0 = 0 by decide) (rfl : Int32.toInt x_6 = _) c_7
        refine lv_iload hx hb dX8_look_131 (lv_at hl 2 rfl) ?_
        refine lv_if_eq (tgt := 140) hx hb dX8_look_133 (by decide) (fun c_27 => ?_) (fun c_27 => ?_)
        · skip
          refine lv_iconst (v := 0) hx hb dX8_look_140 (by decide) ?_
          refine lv_istore (lv' := [(7, .int 0), (6, .int 0), (5, .int 0), (4, .int 0), (0, .ref h0), (1, .int (nI cv)), (2, .int p2), (3, .int p3)]) hx hb dX8_look_141 hl (by decide) rfl (fun ls hl => ?_)
          refine lv_aload_n hx hb dX8_look_143 rfl (lv_at hl 4 rfl) ?_
          refine va_get (D := (dC, dI)) (ci := 6) (v := .ref la) (C := RX8) (T := TX8) (N := 14) hx hb hts hnX8_look_X8 hown hK hP 0 rfl rfl 10 (by decide) (hts (.fieldLink RX8 39 "RingMeetsModel" "late" "[I") (by decide +kernel)) (fun _ h9 => h9) rfl dX8_look_144 ?_
          refine lv_iload_n hx hb dX8_look_147 rfl (lv_at hl 5 rfl) ?_
          refine va_iald (D := (dC, dI)) hx hb hK hP 5 0 rfl rfl (vp_in_nI (n := cv) (N := 59049) (by omega) (by omega)) dX8_look_148 ?_
          refine lv_topi (fun x_28 ex_28 => ?_)
          rw [nI_clamp (n := cv) (by omega)] at ex_28
          refine lv_if_ge (tgt := 161) hx hb dX8_look_149 (by decide) (fun c_29 => ?_) (fun c_29 => ?_)
          · skip
            have ic_29 := ci_le (show Int32.toInt 0 = 0 by decide) (rfl : Int32.toInt x_28 = _) c_29
            refine lv_iconst (v := 0) hx hb dX8_look_161 (by decide) ?_
            refine lv_istore (lv' := [(8, .int 0), (7, .int 0), (6, .int 0), (5, .int 0), (4, .int 0), (0, .ref h0), (1, .int (nI cv)), (2, .int p2), (3, .int p3)]) hx hb dX8_look_162 hl (by decide) rfl (fun ls hl => ?_)
            refine lv_aload_n hx hb dX8_look_164 rfl (lv_at hl 5 rfl) ?_
            refine va_get (D := (dC, dI)) (ci := 6) (v := .ref so) (C := RX8) (T := TX8) (N := 14) hx hb hts hnX8_look_X8 hown hK hP 0 rfl rfl 9 (by decide) (hts (.fieldLink RX8 36 "RingMeetsModel" "soon" "[I") (by decide +kernel)) (fun _ h9 => h9) rfl dX8_look_165 ?_
            refine lv_iload_n hx hb dX8_look_168 rfl (lv_at hl 6 rfl) ?_
            refine lv_iload hx hb dX8_look_169 (lv_at hl 1 rfl) ?_
            refine lv_if_eq (tgt := 178) hx hb dX8_look_171 (by decide) (fun c_30 => ?_) (fun c_30 => ?_)
            · skip
              refine lv_aload_n hx hb dX8_look_178 rfl (lv_at hl 5 rfl) ?_
              refine va_get (D := (dC, dI)) (ci := 6) (v := .ref so) (C := RX8) (T := TX8) (N := 14) hx hb hts hnX8_look_X8 hown hK hP 0 rfl rfl 9 (by decide) (hts (.fieldLink RX8 36 "RingMeetsModel" "soon" "[I") (by decide +kernel)) (fun _ h9 => h9) rfl dX8_look_179 ?_
              refine lv_iload_n hx hb dX8_look_182 rfl (lv_at hl 6 rfl) ?_
              refine va_iald (D := (dC, dI)) hx hb hK hP 4 0 rfl rfl (vp_in_nI (n := cv) (N := 59049) (by omega) (by omega)) dX8_look_183 ?_
              refine lv_topi (fun x_31 ex_31 => ?_)
              rw [nI_clamp (n := cv) (by omega)] at ex_31
              refine va_iast (D := (dC, dI)) hx hb hK hP hD hS 4 0 rfl rfl (vp_in_nI (n := cv) (N := 59049) (by omega) (by omega)) dX8_look_184 (fun H locs hP hD hS => ?_)
              obtain ⟨g_32, eg_32⟩ : ∃ y : Nat → Int32, y = upd fso (Int32.toNatClampNeg (nI cv)) x_31 := ⟨_, rfl⟩
              have hP : va_P (dC, dI) vwCl [(h0, .inr (6, [.ref st, .ref im, .ref kp, .ref pw, .ref nx, .ref li, .int d6, .ref il, .ref mv, .ref so, .ref la, .int d11, .int d12, .ref co])), (st, .inl (cyI, 72, .inl fs)), (pw, .inl (cyI, 11, .inl fp)), (mv, .inl (cyI, 59049, .inl mf)), (so, .inl (cyI, 59049, .inl g_32)), (la, .inl (cyI, 59049, .inl fla))] H := by rw [eg_32]; exact hP
              have hD : va_D A [(h0, .inr (6, [.ref st, .ref im, .ref kp, .ref pw, .ref nx, .ref li, .int d6, .ref il, .ref mv, .ref so, .ref la, .int d11, .int d12, .ref co])), (st, .inl (cyI, 72, .inl fs)), (pw, .inl (cyI, 11, .inl fp)), (mv, .inl (cyI, 59049, .inl mf)), (so, .inl (cyI, 59049, .inl g_32)), (la, .inl (cyI, 59049, .inl fla))] := by rw [eg_32]; exact hD
              rw [nI_clamp (n := cv) (by omega)] at eg_32
              refine lv_aload_n hx hb dX8_look_185 rfl (lv_at hl 5 rfl) ?_
              refine va_get (D := (dC, dI)) (ci := 6) (v := .ref la) (C := RX8) (T := TX8) (N := 14) hx hb hts hnX8_look_X8 hown hK hP 0 rfl rfl 10 (by decide) (hts (.fieldLink RX8 39 "RingMeetsModel" "late" "[I") (by decide +kernel)) (fun _ h9 => h9) rfl dX8_look_186 ?_
              refine lv_iload_n hx hb dX8_look_189 rfl (lv_at hl 6 rfl) ?_
              refine lv_iload hx hb dX8_look_190 (lv_at hl 0 rfl) ?_
              refine lv_if_eq (tgt := 199) hx hb dX8_look_192 (by decide) (fun c_33 => ?_) (fun c_33 => ?_)
              · skip
                refine lv_aload_n hx hb dX8_look_199 rfl (lv_at hl 5 rfl) ?_
                refine va_get (D := (dC, dI)) (ci := 6) (v := .ref la) (C := RX8) (T := TX8) (N := 14) hx hb hts hnX8_look_X8 hown hK hP 0 rfl rfl 10 (by decide) (hts (.fieldLink RX8 39 "RingMeetsModel" "late" "[I") (by decide +kernel)) (fun _ h9 => h9) rfl dX8_look_200 ?_
                refine lv_iload_n hx hb dX8_look_203 rfl (lv_at hl 6 rfl) ?_
                refine va_iald (D := (dC, dI)) hx hb hK hP 5 0 rfl rfl (vp_in_nI (n := cv) (N := 59049) (by omega) (by omega)) dX8_look_204 ?_
                refine lv_topi (fun x_34 ex_34 => ?_)
                rw [nI_clamp (n := cv) (by omega)] at ex_34
                refine va_iast (D := (dC, dI)) hx hb hK hP hD hS 5 0 rfl rfl (vp_in_nI (n := cv) (N := 59049) (by omega) (by omega)) dX8_look_205 (fun H locs hP hD hS => ?_)
                obtain ⟨g_35, eg_35⟩ : ∃ y : Nat → Int32, y = upd fla (Int32.toNatClampNeg (nI cv)) x_34 := ⟨_, rfl⟩
                have hP : va_P (dC, dI) vwCl [(h0, .inr (6, [.ref st, .ref im, .ref kp, .ref pw, .ref nx, .ref li, .int d6, .ref il, .ref mv, .ref so, .ref la, .int d11, .int d12, .ref co])), (st, .inl (cyI, 72, .inl fs)), (pw, .inl (cyI, 11, .inl fp)), (mv, .inl (cyI, 59049, .inl mf)), (so, .inl (cyI, 59049, .inl g_32)), (la, .inl (cyI, 59049, .inl g_35))] H := by rw [eg_35]; exact hP
                have hD : va_D A [(h0, .inr (6, [.ref st, .ref im, .ref kp, .ref pw, .ref nx, .ref li, .int d6, .ref il, .ref mv, .ref so, .ref la, .int d11, .int d12, .ref co])), (st, .inl (cyI, 72, .inl fs)), (pw, .inl (cyI, 11, .inl fp)), (mv, .inl (cyI, 59049, .inl mf)), (so, .inl (cyI, 59049, .inl g_32)), (la, .inl (cyI, 59049, .inl g_35))] := by rw [eg_35]; exact hD
                rw [nI_clamp (n := cv) (by omega)] at eg_35
                refine lv_iload hx hb dX8_look_206 (lv_at hl 1 rfl) ?_
                refine lv_if_ne (tgt := 216) hx hb dX8_look_208 (by decide) (fun c_36 => ?_) (fun c_36 => ?_)
                · skip
                  exact absurd c_36 (by decide)
                · skip
                  refine lv_iload hx hb dX8_look_211 (lv_at hl 0 rfl) ?_
                  refine lv_if_eq (tgt := 220) hx hb dX8_look_213 (by decide) (fun c_37 => ?_) (fun c_37 => ?_)
                  · skip
                    refine lv_iconst (v := 0) hx hb dX8_look_220 (by decide) ?_
                    exact W.zret (v := 0) hx hb hr (show narrow .boolean (.int 0) = .int 0 from rfl) (fun t ht hW => ⟨⟨0, (g_32, g_35), rfl, ⟨rfl, (fun q => (show g_32 q = fso q by rw [eg_32]; unfold upd; split; (rename_i z; rw [z]; exact ex_31); rfl)), (fun q => (show g_35 q = fla q by rw [eg_35]; unfold upd; split; (rename_i z; rw [z]; exact ex_34); rfl))⟩, ⟨by rw [ht]; exact hP.sub (ws' := [(h0, .inr (6, [.ref st, .ref im, .ref kp, .ref pw, .ref nx, .ref li, .int d6, .ref il, .ref mv, .ref so, .ref la, .int d11, .int d12, .ref co])), (st, .inl (cyI, 72, .inl fs)), (pw, .inl (cyI, 11, .inl fp)), (mv, .inl (cyI, 59049, .inl mf)), (so, .inl (cyI, 59049, .inl g_32)), (la, .inl (cyI, 59049, .inl g_35))]) [0, 1, 2, 3, 4, 5] rfl, hD.sub (ws' := [(h0, .inr (6, [.ref st, .ref im, .ref kp, .ref pw, .ref nx, .ref li, .int d6, .ref il, .ref mv, .ref so, .ref la, .int d11, .int d12, .ref co])), (st, .inl (cyI, 72, .inl fs)), (pw, .inl (cyI, 11, .inl fp)), (mv, .inl (cyI, 59049, .inl mf)), (so, .inl (cyI, 59049, .inl g_32)), (la, .inl (cyI, 59049, .inl g_35))]) [0, 1, 2, 3, 4, 5] (by decide) rfl⟩⟩, hS.F ht⟩) hS.2.2 dX8_look_221
                  · skip
                    exact absurd c_37 (by decide)
              · skip
                exact absurd c_33 (by decide)
            · skip
              exact absurd c_30 (by decide)
          · skip
            have ic_29 := ci_nle (show Int32.toInt 0 = 0 by decide) (rfl : Int32.toInt x_28 = _) c_29
            refine lv_iload hx hb dX8_look_152 (lv_at hl 1 rfl) ?_
            refine lv_if_eq (tgt := 161) hx hb dX8_look_154 (by decide) (fun c_38 => ?_) (fun c_38 => ?_)
            · skip
              refine lv_iconst (v := 0) hx hb dX8_look_161 (by decide) ?_
              refine lv_istore (lv' := [(8, .int 0), (7, .int 0), (6, .int 0), (5, .int 0), (4, .int 0), (0, .ref h0), (1, .int (nI cv)), (2, .int p2), (3, .int p3)]) hx hb dX8_look_162 hl (by decide) rfl (fun ls hl => ?_)
              refine lv_aload_n hx hb dX8_look_164 rfl (lv_at hl 5 rfl) ?_
              refine va_get (D := (dC, dI)) (ci := 6) (v := .ref so) (C := RX8) (T := TX8) (N := 14) hx hb hts hnX8_look_X8 hown hK hP 0 rfl rfl 9 (by decide) (hts (.fieldLink RX8 36 "RingMeetsModel" "soon" "[I") (by decide +kernel)) (fun _ h9 => h9) rfl dX8_look_165 ?_
              refine lv_iload_n hx hb dX8_look_168 rfl (lv_at hl 6 rfl) ?_
              refine lv_iload hx hb dX8_look_169 (lv_at hl 1 rfl) ?_
              refine lv_if_eq (tgt := 178) hx hb dX8_look_171 (by decide) (fun c_39 => ?_) (fun c_39 => ?_)
              · skip
                refine lv_aload_n hx hb dX8_look_178 rfl (lv_at hl 5 rfl) ?_
                refine va_get (D := (dC, dI)) (ci := 6) (v := .ref so) (C := RX8) (T := TX8) (N := 14) hx hb hts hnX8_look_X8 hown hK hP 0 rfl rfl 9 (by decide) (hts (.fieldLink RX8 36 "RingMeetsModel" "soon" "[I") (by decide +kernel)) (fun _ h9 => h9) rfl dX8_look_179 ?_
                refine lv_iload_n hx hb dX8_look_182 rfl (lv_at hl 6 rfl) ?_
                refine va_iald (D := (dC, dI)) hx hb hK hP 4 0 rfl rfl (vp_in_nI (n := cv) (N := 59049) (by omega) (by omega)) dX8_look_183 ?_
                refine lv_topi (fun x_40 ex_40 => ?_)
                rw [nI_clamp (n := cv) (by omega)] at ex_40
                refine va_iast (D := (dC, dI)) hx hb hK hP hD hS 4 0 rfl rfl (vp_in_nI (n := cv) (N := 59049) (by omega) (by omega)) dX8_look_184 (fun H locs hP hD hS => ?_)
                obtain ⟨g_41, eg_41⟩ : ∃ y : Nat → Int32, y = upd fso (Int32.toNatClampNeg (nI cv)) x_40 := ⟨_, rfl⟩
                have hP : va_P (dC, dI) vwCl [(h0, .inr (6, [.ref st, .ref im, .ref kp, .ref pw, .ref nx, .ref li, .int d6, .ref il, .ref mv, .ref so, .ref la, .int d11, .int d12, .ref co])), (st, .inl (cyI, 72, .inl fs)), (pw, .inl (cyI, 11, .inl fp)), (mv, .inl (cyI, 59049, .inl mf)), (so, .inl (cyI, 59049, .inl g_41)), (la, .inl (cyI, 59049, .inl fla))] H := by rw [eg_41]; exact hP
                have hD : va_D A [(h0, .inr (6, [.ref st, .ref im, .ref kp, .ref pw, .ref nx, .ref li, .int d6, .ref il, .ref mv, .ref so, .ref la, .int d11, .int d12, .ref co])), (st, .inl (cyI, 72, .inl fs)), (pw, .inl (cyI, 11, .inl fp)), (mv, .inl (cyI, 59049, .inl mf)), (so, .inl (cyI, 59049, .inl g_41)), (la, .inl (cyI, 59049, .inl fla))] := by rw [eg_41]; exact hD
                rw [nI_clamp (n := cv) (by omega)] at eg_41
                refine lv_aload_n hx hb dX8_look_185 rfl (lv_at hl 5 rfl) ?_
                refine va_get (D := (dC, dI)) (ci := 6) (v := .ref la) (C := RX8) (T := TX8) (N := 14) hx hb hts hnX8_look_X8 hown hK hP 0 rfl rfl 10 (by decide) (hts (.fieldLink RX8 39 "RingMeetsModel" "late" "[I") (by decide +kernel)) (fun _ h9 => h9) rfl dX8_look_186 ?_
                refine lv_iload_n hx hb dX8_look_189 rfl (lv_at hl 6 rfl) ?_
                refine lv_iload hx hb dX8_look_190 (lv_at hl 0 rfl) ?_
                refine lv_if_eq (tgt := 199) hx hb dX8_look_192 (by decide) (fun c_42 => ?_) (fun c_42 => ?_)
                · skip
                  refine lv_aload_n hx hb dX8_look_199 rfl (lv_at hl 5 rfl) ?_
                  refine va_get (D := (dC, dI)) (ci := 6) (v := .ref la) (C := RX8) (T := TX8) (N := 14) hx hb hts hnX8_look_X8 hown hK hP 0 rfl rfl 10 (by decide) (hts (.fieldLink RX8 39 "RingMeetsModel" "late" "[I") (by decide +kernel)) (fun _ h9 => h9) rfl dX8_look_200 ?_
                  refine lv_iload_n hx hb dX8_look_203 rfl (lv_at hl 6 rfl) ?_
                  refine va_iald (D := (dC, dI)) hx hb hK hP 5 0 rfl rfl (vp_in_nI (n := cv) (N := 59049) (by omega) (by omega)) dX8_look_204 ?_
                  refine lv_topi (fun x_43 ex_43 => ?_)
                  rw [nI_clamp (n := cv) (by omega)] at ex_43
                  refine va_iast (D := (dC, dI)) hx hb hK hP hD hS 5 0 rfl rfl (vp_in_nI (n := cv) (N := 59049) (by omega) (by omega)) dX8_look_205 (fun H locs hP hD hS => ?_)
                  obtain ⟨g_44, eg_44⟩ : ∃ y : Nat → Int32, y = upd fla (Int32.toNatClampNeg (nI cv)) x_43 := ⟨_, rfl⟩
                  have hP : va_P (dC, dI) vwCl [(h0, .inr (6, [.ref st, .ref im, .ref kp, .ref pw, .ref nx, .ref li, .int d6, .ref il, .ref mv, .ref so, .ref la, .int d11, .int d12, .ref co])), (st, .inl (cyI, 72, .inl fs)), (pw, .inl (cyI, 11, .inl fp)), (mv, .inl (cyI, 59049, .inl mf)), (so, .inl (cyI, 59049, .inl g_41)), (la, .inl (cyI, 59049, .inl g_44))] H := by rw [eg_44]; exact hP
                  have hD : va_D A [(h0, .inr (6, [.ref st, .ref im, .ref kp, .ref pw, .ref nx, .ref li, .int d6, .ref il, .ref mv, .ref so, .ref la, .int d11, .int d12, .ref co])), (st, .inl (cyI, 72, .inl fs)), (pw, .inl (cyI, 11, .inl fp)), (mv, .inl (cyI, 59049, .inl mf)), (so, .inl (cyI, 59049, .inl g_41)), (la, .inl (cyI, 59049, .inl g_44))] := by rw [eg_44]; exact hD
                  rw [nI_clamp (n := cv) (by omega)] at eg_44
                  refine lv_iload hx hb dX8_look_206 (lv_at hl 1 rfl) ?_
                  refine lv_if_ne (tgt := 216) hx hb dX8_look_208 (by decide) (fun c_45 => ?_) (fun c_45 => ?_)
                  · skip
                    exact absurd c_45 (by decide)
                  · skip
                    refine lv_iload hx hb dX8_look_211 (lv_at hl 0 rfl) ?_
                    refine lv_if_eq (tgt := 220) hx hb dX8_look_213 (by decide) (fun c_46 => ?_) (fun c_46 => ?_)
                    · skip
                      refine lv_iconst (v := 0) hx hb dX8_look_220 (by decide) ?_
                      exact W.zret (v := 0) hx hb hr (show narrow .boolean (.int 0) = .int 0 from rfl) (fun t ht hW => ⟨⟨0, (g_41, g_44), rfl, ⟨rfl, (fun q => (show g_41 q = fso q by rw [eg_41]; unfold upd; split; (rename_i z; rw [z]; exact ex_40); rfl)), (fun q => (show g_44 q = fla q by rw [eg_44]; unfold upd; split; (rename_i z; rw [z]; exact ex_43); rfl))⟩, ⟨by rw [ht]; exact hP.sub (ws' := [(h0, .inr (6, [.ref st, .ref im, .ref kp, .ref pw, .ref nx, .ref li, .int d6, .ref il, .ref mv, .ref so, .ref la, .int d11, .int d12, .ref co])), (st, .inl (cyI, 72, .inl fs)), (pw, .inl (cyI, 11, .inl fp)), (mv, .inl (cyI, 59049, .inl mf)), (so, .inl (cyI, 59049, .inl g_41)), (la, .inl (cyI, 59049, .inl g_44))]) [0, 1, 2, 3, 4, 5] rfl, hD.sub (ws' := [(h0, .inr (6, [.ref st, .ref im, .ref kp, .ref pw, .ref nx, .ref li, .int d6, .ref il, .ref mv, .ref so, .ref la, .int d11, .int d12, .ref co])), (st, .inl (cyI, 72, .inl fs)), (pw, .inl (cyI, 11, .inl fp)), (mv, .inl (cyI, 59049, .inl mf)), (so, .inl (cyI, 59049, .inl g_41)), (la, .inl (cyI, 59049, .inl g_44))]) [0, 1, 2, 3, 4, 5] (by decide) rfl⟩⟩, hS.F ht⟩) hS.2.2 dX8_look_221
                    · skip
                      exact absurd c_46 (by decide)
                · skip
                  exact absurd c_42 (by decide)
              · skip
                exact absurd c_39 (by decide)
            · skip
              exact absurd c_38 (by decide)
        · skip
          exact absurd c_27 (by decide)
    · skip
      exact absurd c_5 (by decide)
  · skip
    exact absurd c_2 (by decide)

theorem hnX8_layRound_X8 : ∀ w ∈ wsX80, w ∈ wsX8_layRound := fun _ h => List.mem_cons_of_mem _ (List.mem_append_right _ h)
set_option maxHeartbeats 4000000 in
set_option maxRecDepth 100000 in
theorem kX8_layRound (l : Launch) (dC : Nat → ClassId) (dI : Nat → Nat → Nat) (cyI cyZ : ClassId) (h0 st im kp pw nx li il mv so la co : Nat) (d11 d12 : Int32) (fs : Nat → Int32) (h8 : fs 0 = 8) (fp : Nat → Int32) (hp : ∀ j, j ≤ 10 → fp j = nI (3 ^ j)) (mf fso fla : Nat → Int32) (hmf : ∀ j, mf j = 0) (nn : Int32) (L : Nat) (hL : L ≤ 256) (lf : Nat → Int32) (hlf : ∀ j, j < L → ∃ x, 0 < x ∧ x < 256 ∧ nb_sz (nI x) 10 = nn ∧ lf j = nI (nb_cd x)) (hso : nb_T nn L lf fso) (hla : nb_T nn L lf fla) (p1 p2 : Int32) (sz : Nat) : Met l yX8_layRound wsX8_layRound ({ frames := 4, cells := 0, slots := 0, locals := 92 }) (bs_W dC dI cyI cyZ [.ref h0, .int p1, .int p2] [(h0, .inr (6, [.ref st, .ref im, .ref kp, .ref pw, .ref nx, .ref li, .int (nI L), .ref il, .ref mv, .ref so, .ref la, .int d11, .int d12, .ref co])), (st, .inl (cyI, 72, .inl fs)), (pw, .inl (cyI, 11, .inl fp)), (li, .inl (cyI, 59049, .inl lf)), (mv, .inl (cyI, 59049, .inl mf)), (so, .inl (cyI, 59049, .inl fso)), (la, .inl (cyI, 59049, .inl fla))] sz) (va_Qi (S := (Nat → Int32) × (Nat → Int32)) (fun (r : Int32) (q : (Nat → Int32) × (Nat → Int32)) => r = 0 ∧ nb_T nn L lf q.1 ∧ nb_T nn L lf q.2) (fun q t => bs_E dC dI (va_A [(h0, .inr (6, [.ref st, .ref im, .ref kp, .ref pw, .ref nx, .ref li, .int (nI L), .ref il, .ref mv, .ref so, .ref la, .int d11, .int d12, .ref co])), (st, .inl (cyI, 72, .inl fs)), (pw, .inl (cyI, 11, .inl fp)), (li, .inl (cyI, 59049, .inl lf)), (mv, .inl (cyI, 59049, .inl mf)), (so, .inl (cyI, 59049, .inl fso)), (la, .inl (cyI, 59049, .inl fla))] sz) [(h0, .inr (6, [.ref st, .ref im, .ref kp, .ref pw, .ref nx, .ref li, .int (nI L), .ref il, .ref mv, .ref so, .ref la, .int d11, .int d12, .ref co])), (st, .inl (cyI, 72, .inl fs)), (pw, .inl (cyI, 11, .inl fp)), (li, .inl (cyI, 59049, .inl lf)), (mv, .inl (cyI, 59049, .inl mf)), (so, .inl (cyI, 59049, .inl q.1)), (la, .inl (cyI, 59049, .inl q.2))] t) (va_A [(h0, .inr (6, [.ref st, .ref im, .ref kp, .ref pw, .ref nx, .ref li, .int (nI L), .ref il, .ref mv, .ref so, .ref la, .int d11, .int d12, .ref co])), (st, .inl (cyI, 72, .inl fs)), (pw, .inl (cyI, 11, .inl fp)), (li, .inl (cyI, 59049, .inl lf)), (mv, .inl (cyI, 59049, .inl mf)), (so, .inl (cyI, 59049, .inl fso)), (la, .inl (cyI, 59049, .inl fla))] sz)) 0 0 (va_A [(h0, .inr (6, [.ref st, .ref im, .ref kp, .ref pw, .ref nx, .ref li, .int (nI L), .ref il, .ref mv, .ref so, .ref la, .int d11, .int d12, .ref co])), (st, .inl (cyI, 72, .inl fs)), (pw, .inl (cyI, 11, .inl fp)), (li, .inl (cyI, 59049, .inl lf)), (mv, .inl (cyI, 59049, .inl mf)), (so, .inl (cyI, 59049, .inl fso)), (la, .inl (cyI, 59049, .inl fla))] sz) := by
  refine Met.ofW (cc := cX8_layRound) (maxL := 6) (ret := (some .boolean)) (by decide) rfl ?_
  intro p e s m args below meth c s₁ B hml hv
  obtain ⟨rfl, hsz, hB, hP, hD0⟩ := hv
  have hK := hB.1
  have hN := hB.2
  have hx := B.exec
  have hb := B.bytes
  have hr := B.returns
  have hts := atoms_spec (ws := wsX8_layRound) B.pre
  have hown : s.vm.findClass RX8 = some m.cls := findClass_of_methodNamed B.named
  have hlocks := B.notSynchronized
  subst hsz
  have hD := hD0.self (sz := s.heap.size)
  generalize hAe : va_A [(h0, .inr (6, [.ref st, .ref im, .ref kp, .ref pw, .ref nx, .ref li, .int (nI L), .ref il, .ref mv, .ref so, .ref la, .int d11, .int d12, .ref co])), (st, .inl (cyI, 72, .inl fs)), (pw, .inl (cyI, 11, .inl fp)), (li, .inl (cyI, 59049, .inl lf)), (mv, .inl (cyI, 59049, .inl mf)), (so, .inl (cyI, 59049, .inl fso)), (la, .inl (cyI, 59049, .inl fla))] s.heap.size = A at hD ⊢
  have hA : ∀ q : Nat, s.heap.size ≤ q → A q := fun q h => by rw [← hAe]; exact Or.inr h
  have hS : va_S A s.heap s.heap [] := va_S.rf
  have hP : va_P (dC, dI) vwCl [(h0, .inr (6, [.ref st, .ref im, .ref kp, .ref pw, .ref nx, .ref li, .int (nI L), .ref il, .ref mv, .ref so, .ref la, .int d11, .int d12, .ref co])), (st, .inl (cyI, 72, .inl fs)), (pw, .inl (cyI, 11, .inl fp)), (li, .inl (cyI, 59049, .inl lf)), (mv, .inl (cyI, 59049, .inl mf)), (so, .inl (cyI, 59049, .inl fso)), (la, .inl (cyI, 59049, .inl fla))] s.heap := hP
  have hl := lv_entry ([.ref h0, .int p1, .int p2]) (n := 6) (Nat.le_of_ble_eq_true rfl)
  rw [lg_entry_eq]
  generalize (lg_sl ([.ref h0, .int p1, .int p2]) ++ List.replicate (6 - (lg_sl ([.ref h0, .int p1, .int p2])).length) Slot.unset).toArray = ls at hl ⊢
  have hl : lv_has ls 6 [(0, .ref h0), (1, .int p1), (2, .int p2)] := hl
  refine lv_iconst (v := 0) hx hb dX8_layRound_0 (by decide) ?_
  refine lv_istore_n (lv' := [(3, .int 0), (0, .ref h0), (1, .int p1), (2, .int p2)]) hx hb dX8_layRound_1 rfl hl (by decide) rfl (fun ls hl => ?_)
  refine lv_iconst (v := 0) hx hb dX8_layRound_2 (by decide) ?_
  refine lv_istore (lv' := [(4, .int 0), (3, .int 0), (0, .ref h0), (1, .int p1), (2, .int p2)]) hx hb dX8_layRound_3 hl (by decide) rfl (fun ls hl => ?_)
  have L5 : ∀ (n5 : Nat), ∀ (k : Nat) (fso fla : Nat → Int32), (k ≤ L) → (L + 1 ≤ k + n5) → (nb_T nn L lf fso) → (nb_T nn L lf fla) → ∀ (H : Heap) (locs : List Loc), va_P (dC, dI) vwCl [(h0, .inr (6, [.ref st, .ref im, .ref kp, .ref pw, .ref nx, .ref li, .int (nI L), .ref il, .ref mv, .ref so, .ref la, .int d11, .int d12, .ref co])), (st, .inl (cyI, 72, .inl fs)), (pw, .inl (cyI, 11, .inl fp)), (li, .inl (cyI, 59049, .inl lf)), (mv, .inl (cyI, 59049, .inl mf)), (so, .inl (cyI, 59049, .inl fso)), (la, .inl (cyI, 59049, .inl fla))] H → va_D A [(h0, .inr (6, [.ref st, .ref im, .ref kp, .ref pw, .ref nx, .ref li, .int (nI L), .ref il, .ref mv, .ref so, .ref la, .int d11, .int d12, .ref co])), (st, .inl (cyI, 72, .inl fs)), (pw, .inl (cyI, 11, .inl fp)), (li, .inl (cyI, 59049, .inl lf)), (mv, .inl (cyI, 59049, .inl mf)), (so, .inl (cyI, 59049, .inl fso)), (la, .inl (cyI, 59049, .inl fla))] → va_S A s.heap H locs → ∀ (ls : Array Slot), lv_has ls 6 [(0, .ref h0), (1, .int p1), (2, .int p2), (3, .int 0), (4, .int (nI k))] → W p l e (headSpec wsX8_layRound ({ frames := 4, cells := 0, slots := 0, locals := 92 })).room s m ([.ref h0, .int p1, .int p2] : List Value).toArray below meth c H locs 0 0 (MQ below (va_Qi (S := (Nat → Int32) × (Nat → Int32)) (fun (r : Int32) (q : (Nat → Int32) × (Nat → Int32)) => r = 0 ∧ nb_T nn L lf q.1 ∧ nb_T nn L lf q.2) (fun q t => bs_E dC dI A [(h0, .inr (6, [.ref st, .ref im, .ref kp, .ref pw, .ref nx, .ref li, .int (nI L), .ref il, .ref mv, .ref so, .ref la, .int d11, .int d12, .ref co])), (st, .inl (cyI, 72, .inl fs)), (pw, .inl (cyI, 11, .inl fp)), (li, .inl (cyI, 59049, .inl lf)), (mv, .inl (cyI, 59049, .inl mf)), (so, .inl (cyI, 59049, .inl q.1)), (la, .inl (cyI, 59049, .inl q.2))] t) A) ([.ref h0, .int p1, .int p2] : List Value).toArray s 0 0 A) (F0 m 5 ls []) := by
    intro n5
    induction n5 with
    | zero =>
      intro k fso fla hk5 hn5 hso hla H locs hP hD hS ls hl
      exfalso
      omega
    | succ n5 ih5 =>
      intro k fso fla hk5 hn5 hso hla H locs hP hD hS ls hl
      refine lv_iload hx hb dX8_layRound_5 (lv_at hl 4 rfl) ?_
      refine lv_aload_n hx hb dX8_layRound_7 rfl (lv_at hl 0 rfl) ?_
      refine va_get (D := (dC, dI)) (ci := 6) (v := .int (nI L)) (C := RX8) (T := TX8) (N := 14) hx hb hts hnX8_layRound_X8 hown hK hP 0 rfl rfl 6 (by decide) (hts (.fieldLink RX8 128 "RingMeetsModel" "listed" "I") (by decide +kernel)) (fun _ h9 => h9) rfl dX8_layRound_8 ?_
      refine lv_icmp_ge (tgt := 70) hx hb dX8_layRound_11 (by decide) (fun c_1 => ?_) (fun c_1 => ?_)
      · skip
        have ic_1 := ci_le (nI_toInt (n := L) (by omega)) (nI_toInt (n := k) (by omega)) c_1
        refine lv_iload_n hx hb dX8_layRound_70 rfl (lv_at hl 3 rfl) ?_
        exact W.zret (v := 0) hx hb hr (show narrow .boolean (.int 0) = .int 0 from rfl) (fun t ht hW => ⟨⟨0, (fso, fla), rfl, ⟨rfl, hso, hla⟩, ⟨by rw [ht]; exact hP.sub (ws' := [(h0, .inr (6, [.ref st, .ref im, .ref kp, .ref pw, .ref nx, .ref li, .int (nI L), .ref il, .ref mv, .ref so, .ref la, .int d11, .int d12, .ref co])), (st, .inl (cyI, 72, .inl fs)), (pw, .inl (cyI, 11, .inl fp)), (li, .inl (cyI, 59049, .inl lf)), (mv, .inl (cyI, 59049, .inl mf)), (so, .inl (cyI, 59049, .inl fso)), (la, .inl (cyI, 59049, .inl fla))]) [0, 1, 2, 3, 4, 5, 6] rfl, hD.sub (ws' := [(h0, .inr (6, [.ref st, .ref im, .ref kp, .ref pw, .ref nx, .ref li, .int (nI L), .ref il, .ref mv, .ref so, .ref la, .int d11, .int d12, .ref co])), (st, .inl (cyI, 72, .inl fs)), (pw, .inl (cyI, 11, .inl fp)), (li, .inl (cyI, 59049, .inl lf)), (mv, .inl (cyI, 59049, .inl mf)), (so, .inl (cyI, 59049, .inl fso)), (la, .inl (cyI, 59049, .inl fla))]) [0, 1, 2, 3, 4, 5, 6] (by decide) rfl⟩⟩, hS.F ht⟩) hS.2.2 dX8_layRound_71
      · skip
        have ic_1 := ci_nle (nI_toInt (n := L) (by omega)) (nI_toInt (n := k) (by omega)) c_1
        obtain ⟨x, hx0, hx9, hsn, hlx⟩ := hlf k (by omega)
        have hcl := nb_cd2 hx9
        refine lv_aload_n hx hb dX8_layRound_14 rfl (lv_at hl 0 rfl) ?_
        refine va_get (D := (dC, dI)) (ci := 6) (v := .ref li) (C := RX8) (T := TX8) (N := 14) hx hb hts hnX8_layRound_X8 hown hK hP 0 rfl rfl 5 (by decide) (hts (.fieldLink RX8 27 "RingMeetsModel" "list" "[I") (by decide +kernel)) (fun _ h9 => h9) rfl dX8_layRound_15 ?_
        refine lv_iload hx hb dX8_layRound_18 (lv_at hl 4 rfl) ?_
        refine va_iald (D := (dC, dI)) hx hb hK hP 3 0 rfl rfl (vp_in_nI (n := k) (N := 59049) (by omega) (by omega)) dX8_layRound_20 ?_
        refine lv_topi (fun x_2 ex_2 => ?_)
        rw [nI_clamp (n := k) (by omega)] at ex_2
        obtain rfl : (nI (nb_cd x)) = x_2 := (ex_2.trans (hlx)).symm
        refine lv_istore (lv' := [(5, .int (nI (nb_cd x))), (0, .ref h0), (1, .int p1), (2, .int p2), (3, .int 0), (4, .int (nI k))]) hx hb dX8_layRound_21 hl (by decide) rfl (fun ls hl => ?_)
        refine lv_aload_n hx hb dX8_layRound_23 rfl (lv_at hl 1 rfl) ?_
        refine va_get (D := (dC, dI)) (ci := 6) (v := .ref so) (C := RX8) (T := TX8) (N := 14) hx hb hts hnX8_layRound_X8 hown hK hP 0 rfl rfl 9 (by decide) (hts (.fieldLink RX8 36 "RingMeetsModel" "soon" "[I") (by decide +kernel)) (fun _ h9 => h9) rfl dX8_layRound_24 ?_
        refine lv_iload hx hb dX8_layRound_27 (lv_at hl 0 rfl) ?_
        refine va_iald (D := (dC, dI)) hx hb hK hP 5 0 rfl rfl (vp_in_nI (n := (nb_cd x)) (N := 59049) (by omega) (by omega)) dX8_layRound_29 ?_
        refine lv_topi (fun x_3 ex_3 => ?_)
        rw [nI_clamp (n := (nb_cd x)) (by omega)] at ex_3
        obtain rfl : (sp_tk nn) = x_3 := (ex_3.trans (hso k (by omega) _ hcl hlx)).symm
        refine lv_if_lt (tgt := 43) hx hb dX8_layRound_30 (by decide) (fun c_4 => ?_) (fun c_4 => ?_)
        · skip
          have ic_4 := ci_lt (rfl : Int32.toInt (sp_tk nn) = _) (show Int32.toInt 0 = 0 by decide) c_4
          refine lv_aload_n hx hb dX8_layRound_43 rfl (lv_at hl 1 rfl) ?_
          refine lv_iload hx hb dX8_layRound_44 (lv_at hl 0 rfl) ?_
          refine lv_iload_n hx hb dX8_layRound_46 rfl (lv_at hl 2 rfl) ?_
          refine lv_iload_n hx hb dX8_layRound_47 rfl (lv_at hl 3 rfl) ?_
          have f_5 := va_free (wc := [(h0, .inr (6, [.ref st, .ref im, .ref kp, .ref pw, .ref nx, .ref li, .int (nI L), .ref il, .ref mv, .ref so, .ref la, .int d11, .int d12, .ref co])), (st, .inl (cyI, 72, .inl fs)), (pw, .inl (cyI, 11, .inl fp)), (mv, .inl (cyI, 59049, .inl mf)), (so, .inl (cyI, 59049, .inl fso)), (la, .inl (cyI, 59049, .inl fla))]) hD hS hA [0, 1, 2, 4, 5, 6] rfl
          refine va_calli (va_runV (As := [.int (nI (nb_cd x)), .int p1, .int p2]) (rest := []) ⟨hx, hb, hml, hown, hts⟩ (kX8_look l dC dI cyI cyZ h0 st im kp pw nx li il mv so la co (nI L) d11 d12 fs h8 fp hp mf fso fla hmf (nb_cd x) (by omega) p1 p2 _) (cwV 3 hts gX8_layRound_X8_look rfl rfl rfl (by decide +kernel) ⟨Nat.le_of_ble_eq_true rfl, Nat.le_of_ble_eq_true rfl⟩) (bs_WV hB (hP.sub (ws' := [(h0, .inr (6, [.ref st, .ref im, .ref kp, .ref pw, .ref nx, .ref li, .int (nI L), .ref il, .ref mv, .ref so, .ref la, .int d11, .int d12, .ref co])), (st, .inl (cyI, 72, .inl fs)), (pw, .inl (cyI, 11, .inl fp)), (mv, .inl (cyI, 59049, .inl mf)), (so, .inl (cyI, 59049, .inl fso)), (la, .inl (cyI, 59049, .inl fla))]) [0, 1, 2, 4, 5, 6] rfl) (hD.sub (ws' := [(h0, .inr (6, [.ref st, .ref im, .ref kp, .ref pw, .ref nx, .ref li, .int (nI L), .ref il, .ref mv, .ref so, .ref la, .int d11, .int d12, .ref co])), (st, .inl (cyI, 72, .inl fs)), (pw, .inl (cyI, 11, .inl fp)), (mv, .inl (cyI, 59049, .inl mf)), (so, .inl (cyI, 59049, .inl fso)), (la, .inl (cyI, 59049, .inl fla))]) [0, 1, 2, 4, 5, 6] (by decide) rfl) 0 rfl rfl) rfl rfl hl.1 rfl (lv_room (Nat.le_of_ble_eq_true rfl)) dX8_layRound_48 ⟨Nat.le_of_ble_eq_true rfl, Nat.le_of_ble_eq_true rfl⟩) hS (fun q _ h => f_5 q h) f_5 (fun rh_6 uh_6 t H1 locs ht hvm h_6 hB1 hz1 hk1 hS => ?_)
          obtain ⟨g_7, g_8⟩ := uh_6
          obtain ⟨hP1, hD1⟩ := hB1
          rw [ht] at hP1
          obtain ⟨hP, hD⟩ := va_join (wr := [(li, .inl (cyI, 59049, .inl lf))]) (w1 := [(h0, .inr (6, [.ref st, .ref im, .ref kp, .ref pw, .ref nx, .ref li, .int (nI L), .ref il, .ref mv, .ref so, .ref la, .int d11, .int d12, .ref co])), (st, .inl (cyI, 72, .inl fs)), (pw, .inl (cyI, 11, .inl fp)), (mv, .inl (cyI, 59049, .inl mf)), (so, .inl (cyI, 59049, .inl g_7)), (la, .inl (cyI, 59049, .inl g_8))]) hP hD [0, 1, 2, 4, 5, 6] [3] rfl rfl (by decide) (by decide) hk1 f_5 hP1 hD1
          generalize H1 = H at hP hS ⊢
          have hP : va_P (dC, dI) vwCl [(li, .inl (cyI, 59049, .inl lf)), (h0, .inr (6, [.ref st, .ref im, .ref kp, .ref pw, .ref nx, .ref li, .int (nI L), .ref il, .ref mv, .ref so, .ref la, .int d11, .int d12, .ref co])), (st, .inl (cyI, 72, .inl fs)), (pw, .inl (cyI, 11, .inl fp)), (mv, .inl (cyI, 59049, .inl mf)), (so, .inl (cyI, 59049, .inl g_7)), (la, .inl (cyI, 59049, .inl g_8))] _ := hP
          have hD : va_D A [(li, .inl (cyI, 59049, .inl lf)), (h0, .inr (6, [.ref st, .ref im, .ref kp, .ref pw, .ref nx, .ref li, .int (nI L), .ref il, .ref mv, .ref so, .ref la, .int d11, .int d12, .ref co])), (st, .inl (cyI, 72, .inl fs)), (pw, .inl (cyI, 11, .inl fp)), (mv, .inl (cyI, 59049, .inl mf)), (so, .inl (cyI, 59049, .inl g_7)), (la, .inl (cyI, 59049, .inl g_8))] := hD
          obtain ⟨zh_6, sh_6, th_6⟩ := h_6
          obtain rfl : 0 = rh_6 := Eq.symm zh_6
          refine lv_if_ne (tgt := 58) hx hb dX8_layRound_51 (by decide) (fun c_9 => ?_) (fun c_9 => ?_)
          · skip
            exact absurd c_9 (by decide)
          · skip
            refine lv_iload_n hx hb dX8_layRound_54 rfl (lv_at hl 4 rfl) ?_
            refine lv_if_eq (tgt := 62) hx hb dX8_layRound_55 (by decide) (fun c_10 => ?_) (fun c_10 => ?_)
            · skip
              refine lv_iconst (v := 0) hx hb dX8_layRound_62 (by decide) ?_
              refine lv_istore_n (lv' := [(3, .int 0), (5, .int (nI (nb_cd x))), (0, .ref h0), (1, .int p1), (2, .int p2), (4, .int (nI k))]) hx hb dX8_layRound_63 rfl hl (by decide) rfl (fun ls hl => ?_)
              refine lv_iinc (v := (nI (k + 1))) (lv' := [(4, .int (nI (k + 1))), (3, .int 0), (5, .int (nI (nb_cd x))), (0, .ref h0), (1, .int p1), (2, .int p2)]) hx hb dX8_layRound_64 hl (k := 5) rfl (nI_1 _) (by decide) rfl (fun ls hl => ?_)
              refine lv_goto (tgt := 5) hx hb dX8_layRound_67 (by decide) ?_
              exact ih5 (k + 1) g_7 g_8 (by omega) (by omega) (nb_T_c hso sh_6) (nb_T_c hla th_6) _ _ (hP.sub [1, 2, 3, 0, 4, 5, 6] rfl) (hD.sub [1, 2, 3, 0, 4, 5, 6] (by decide) rfl) hS _ (lv_sub hl [3, 4, 5, 1, 0] rfl)
            · skip
              exact absurd c_10 (by decide)
        · skip
          have ic_4 := ci_nlt (rfl : Int32.toInt (sp_tk nn) = _) (show Int32.toInt 0 = 0 by decide) c_4
          refine lv_aload_n hx hb dX8_layRound_33 rfl (lv_at hl 1 rfl) ?_
          refine va_get (D := (dC, dI)) (ci := 6) (v := .ref la) (C := RX8) (T := TX8) (N := 14) hx hb hts hnX8_layRound_X8 hown hK hP 0 rfl rfl 10 (by decide) (hts (.fieldLink RX8 39 "RingMeetsModel" "late" "[I") (by decide +kernel)) (fun _ h9 => h9) rfl dX8_layRound_34 ?_
          refine lv_iload hx hb dX8_layRound_37 (lv_at hl 0 rfl) ?_
          refine va_iald (D := (dC, dI)) hx hb hK hP 6 0 rfl rfl (vp_in_nI (n := (nb_cd x)) (N := 59049) (by omega) (by omega)) dX8_layRound_39 ?_
          refine lv_topi (fun x_11 ex_11 => ?_)
          rw [nI_clamp (n := (nb_cd x)) (by omega)] at ex_11
          obtain rfl : (sp_tk nn) = x_11 := (ex_11.trans (hla k (by omega) _ hcl hlx)).symm
          refine lv_if_ge (tgt := 64) hx hb dX8_layRound_40 (by decide) (fun c_12 => ?_) (fun c_12 => ?_)
          · skip
            have ic_12 := ci_le (show Int32.toInt 0 = 0 by decide) (rfl : Int32.toInt (sp_tk nn) = _) c_12
            refine lv_iinc (v := (nI (k + 1))) (lv' := [(4, .int (nI (k + 1))), (5, .int (nI (nb_cd x))), (0, .ref h0), (1, .int p1), (2, .int p2), (3, .int 0)]) hx hb dX8_layRound_64 hl (k := 5) rfl (nI_1 _) (by decide) rfl (fun ls hl => ?_)
            refine lv_goto (tgt := 5) hx hb dX8_layRound_67 (by decide) ?_
            exact ih5 (k + 1) fso fla (by omega) (by omega) hso hla _ _ (hP.sub [0, 1, 2, 3, 4, 5, 6] rfl) (hD.sub [0, 1, 2, 3, 4, 5, 6] (by decide) rfl) hS _ (lv_sub hl [2, 3, 4, 5, 0] rfl)
          · skip
            have ic_12 := ci_nle (show Int32.toInt 0 = 0 by decide) (rfl : Int32.toInt (sp_tk nn) = _) c_12
            exfalso; omega
  exact L5 (L + 1) 0 fso fla (by omega) (by omega) hso hla _ _ (hP.sub [0, 1, 2, 3, 4, 5, 6] rfl) (hD.sub [0, 1, 2, 3, 4, 5, 6] (by decide) rfl) hS _ (lv_sub hl [2, 3, 4, 1, 0] rfl)

theorem hnX8_listAll_X8 : ∀ w ∈ wsX80, w ∈ wsX8_listAll := fun _ h => List.mem_cons_of_mem _ (List.mem_append_right _ h)
set_option maxHeartbeats 4000000 in
set_option maxRecDepth 100000 in
theorem kX8_listAll (l : Launch) (dC : Nat → ClassId) (dI : Nat → Nat → Nat) (cyI cyZ : ClassId) (h0 st im kp pw nx li il mv so la co : Nat) (d11 d12 : Int32) (fs : Nat → Int32) (h8 : fs 0 = 8) (fp : Nat → Int32) (hp : ∀ j, j ≤ 10 → fp j = nI (3 ^ j)) (mf fso fla : Nat → Int32) (hmf : ∀ j, mf j = 0) (nn : Int32) (L : Nat) (hL : L ≤ 256) (lf : Nat → Int32) (hlf : ∀ j, j < L → ∃ x, 0 < x ∧ x < 256 ∧ nb_sz (nI x) 10 = nn ∧ lf j = nI (nb_cd x)) (p1 : Int32) (sz : Nat) : Met l yX8_listAll wsX8_listAll ({ frames := 5, cells := 0, slots := 0, locals := 117 }) (bs_W dC dI cyI cyZ [.ref h0, .int p1] [(h0, .inr (6, [.ref st, .ref im, .ref kp, .ref pw, .ref nx, .ref li, .int (nI L), .ref il, .ref mv, .ref so, .ref la, .int d11, .int d12, .ref co])), (st, .inl (cyI, 72, .inl fs)), (pw, .inl (cyI, 11, .inl fp)), (li, .inl (cyI, 59049, .inl lf)), (mv, .inl (cyI, 59049, .inl mf)), (so, .inl (cyI, 59049, .inl fso)), (la, .inl (cyI, 59049, .inl fla))] sz) (va_Qv (S := (Nat → Int32) × (Nat → Int32)) (fun q : (Nat → Int32) × (Nat → Int32) => nb_T nn L lf q.1 ∧ nb_T nn L lf q.2) (fun q t => bs_E dC dI (va_A [(h0, .inr (6, [.ref st, .ref im, .ref kp, .ref pw, .ref nx, .ref li, .int (nI L), .ref il, .ref mv, .ref so, .ref la, .int d11, .int d12, .ref co])), (st, .inl (cyI, 72, .inl fs)), (pw, .inl (cyI, 11, .inl fp)), (li, .inl (cyI, 59049, .inl lf)), (mv, .inl (cyI, 59049, .inl mf)), (so, .inl (cyI, 59049, .inl fso)), (la, .inl (cyI, 59049, .inl fla))] sz) [(h0, .inr (6, [.ref st, .ref im, .ref kp, .ref pw, .ref nx, .ref li, .int (nI L), .ref il, .ref mv, .ref so, .ref la, .int d11, .int d12, .ref co])), (st, .inl (cyI, 72, .inl fs)), (pw, .inl (cyI, 11, .inl fp)), (li, .inl (cyI, 59049, .inl lf)), (mv, .inl (cyI, 59049, .inl mf)), (so, .inl (cyI, 59049, .inl q.1)), (la, .inl (cyI, 59049, .inl q.2))] t) (va_A [(h0, .inr (6, [.ref st, .ref im, .ref kp, .ref pw, .ref nx, .ref li, .int (nI L), .ref il, .ref mv, .ref so, .ref la, .int d11, .int d12, .ref co])), (st, .inl (cyI, 72, .inl fs)), (pw, .inl (cyI, 11, .inl fp)), (li, .inl (cyI, 59049, .inl lf)), (mv, .inl (cyI, 59049, .inl mf)), (so, .inl (cyI, 59049, .inl fso)), (la, .inl (cyI, 59049, .inl fla))] sz)) 0 0 (va_A [(h0, .inr (6, [.ref st, .ref im, .ref kp, .ref pw, .ref nx, .ref li, .int (nI L), .ref il, .ref mv, .ref so, .ref la, .int d11, .int d12, .ref co])), (st, .inl (cyI, 72, .inl fs)), (pw, .inl (cyI, 11, .inl fp)), (li, .inl (cyI, 59049, .inl lf)), (mv, .inl (cyI, 59049, .inl mf)), (so, .inl (cyI, 59049, .inl fso)), (la, .inl (cyI, 59049, .inl fla))] sz) := by
  refine Met.ofW (cc := cX8_listAll) (maxL := 6) (ret := none) (by decide) rfl ?_
  intro p e s m args below meth c s₁ B hml hv
  obtain ⟨rfl, hsz, hB, hP, hD0⟩ := hv
  have hK := hB.1
  have hN := hB.2
  have hx := B.exec
  have hb := B.bytes
  have hr := B.returns
  have hts := atoms_spec (ws := wsX8_listAll) B.pre
  have hown : s.vm.findClass RX8 = some m.cls := findClass_of_methodNamed B.named
  have hlocks := B.notSynchronized
  subst hsz
  have hD := hD0.self (sz := s.heap.size)
  generalize hAe : va_A [(h0, .inr (6, [.ref st, .ref im, .ref kp, .ref pw, .ref nx, .ref li, .int (nI L), .ref il, .ref mv, .ref so, .ref la, .int d11, .int d12, .ref co])), (st, .inl (cyI, 72, .inl fs)), (pw, .inl (cyI, 11, .inl fp)), (li, .inl (cyI, 59049, .inl lf)), (mv, .inl (cyI, 59049, .inl mf)), (so, .inl (cyI, 59049, .inl fso)), (la, .inl (cyI, 59049, .inl fla))] s.heap.size = A at hD ⊢
  have hA : ∀ q : Nat, s.heap.size ≤ q → A q := fun q h => by rw [← hAe]; exact Or.inr h
  have hS : va_S A s.heap s.heap [] := va_S.rf
  have hP : va_P (dC, dI) vwCl [(h0, .inr (6, [.ref st, .ref im, .ref kp, .ref pw, .ref nx, .ref li, .int (nI L), .ref il, .ref mv, .ref so, .ref la, .int d11, .int d12, .ref co])), (st, .inl (cyI, 72, .inl fs)), (pw, .inl (cyI, 11, .inl fp)), (li, .inl (cyI, 59049, .inl lf)), (mv, .inl (cyI, 59049, .inl mf)), (so, .inl (cyI, 59049, .inl fso)), (la, .inl (cyI, 59049, .inl fla))] s.heap := hP
  have hl := lv_entry ([.ref h0, .int p1]) (n := 6) (Nat.le_of_ble_eq_true rfl)
  rw [lg_entry_eq]
  generalize (lg_sl ([.ref h0, .int p1]) ++ List.replicate (6 - (lg_sl ([.ref h0, .int p1])).length) Slot.unset).toArray = ls at hl ⊢
  have hl : lv_has ls 6 [(0, .ref h0), (1, .int p1)] := hl
  refine lv_iconst (v := 0) hx hb dX8_listAll_0 (by decide) ?_
  refine lv_istore_n (lv' := [(2, .int 0), (0, .ref h0), (1, .int p1)]) hx hb dX8_listAll_1 rfl hl (by decide) rfl (fun ls hl => ?_)
  have L2 : ∀ (n2 : Nat), ∀ (k : Nat) (fso fla : Nat → Int32), (k ≤ L) → (L + 1 ≤ k + n2) → (nb_T nn k lf fso) → (nb_T nn k lf fla) → ∀ (H : Heap) (locs : List Loc), va_P (dC, dI) vwCl [(h0, .inr (6, [.ref st, .ref im, .ref kp, .ref pw, .ref nx, .ref li, .int (nI L), .ref il, .ref mv, .ref so, .ref la, .int d11, .int d12, .ref co])), (st, .inl (cyI, 72, .inl fs)), (pw, .inl (cyI, 11, .inl fp)), (li, .inl (cyI, 59049, .inl lf)), (mv, .inl (cyI, 59049, .inl mf)), (so, .inl (cyI, 59049, .inl fso)), (la, .inl (cyI, 59049, .inl fla))] H → va_D A [(h0, .inr (6, [.ref st, .ref im, .ref kp, .ref pw, .ref nx, .ref li, .int (nI L), .ref il, .ref mv, .ref so, .ref la, .int d11, .int d12, .ref co])), (st, .inl (cyI, 72, .inl fs)), (pw, .inl (cyI, 11, .inl fp)), (li, .inl (cyI, 59049, .inl lf)), (mv, .inl (cyI, 59049, .inl mf)), (so, .inl (cyI, 59049, .inl fso)), (la, .inl (cyI, 59049, .inl fla))] → va_S A s.heap H locs → ∀ (ls : Array Slot), lv_has ls 6 [(0, .ref h0), (1, .int p1), (2, .int (nI k))] → W p l e (headSpec wsX8_listAll ({ frames := 5, cells := 0, slots := 0, locals := 117 })).room s m ([.ref h0, .int p1] : List Value).toArray below meth c H locs 0 0 (MQ below (va_Qv (S := (Nat → Int32) × (Nat → Int32)) (fun q : (Nat → Int32) × (Nat → Int32) => nb_T nn L lf q.1 ∧ nb_T nn L lf q.2) (fun q t => bs_E dC dI A [(h0, .inr (6, [.ref st, .ref im, .ref kp, .ref pw, .ref nx, .ref li, .int (nI L), .ref il, .ref mv, .ref so, .ref la, .int d11, .int d12, .ref co])), (st, .inl (cyI, 72, .inl fs)), (pw, .inl (cyI, 11, .inl fp)), (li, .inl (cyI, 59049, .inl lf)), (mv, .inl (cyI, 59049, .inl mf)), (so, .inl (cyI, 59049, .inl q.1)), (la, .inl (cyI, 59049, .inl q.2))] t) A) ([.ref h0, .int p1] : List Value).toArray s 0 0 A) (F0 m 2 ls []) := by
    intro n2
    induction n2 with
    | zero =>
      intro k fso fla hk2 hn2 hso hla H locs hP hD hS ls hl
      exfalso
      omega
    | succ n2 ih2 =>
      intro k fso fla hk2 hn2 hso hla H locs hP hD hS ls hl
      refine lv_iload_n hx hb dX8_listAll_2 rfl (lv_at hl 2 rfl) ?_
      refine lv_aload_n hx hb dX8_listAll_3 rfl (lv_at hl 0 rfl) ?_
      refine va_get (D := (dC, dI)) (ci := 6) (v := .int (nI L)) (C := RX8) (T := TX8) (N := 14) hx hb hts hnX8_listAll_X8 hown hK hP 0 rfl rfl 6 (by decide) (hts (.fieldLink RX8 128 "RingMeetsModel" "listed" "I") (by decide +kernel)) (fun _ h9 => h9) rfl dX8_listAll_4 ?_
      refine lv_icmp_ge (tgt := 110) hx hb dX8_listAll_7 (by decide) (fun c_1 => ?_) (fun c_1 => ?_)
      · skip
        have ic_1 := ci_le (nI_toInt (n := L) (by omega)) (nI_toInt (n := k) (by omega)) c_1
        have hsoL : nb_T nn L lf fso := by have h9 := hso; rw [show k = L by omega] at h9; exact h9
        have hlaL : nb_T nn L lf fla := by have h9 := hla; rw [show k = L by omega] at h9; exact h9
        refine lv_iconst (v := 1) hx hb dX8_listAll_110 (by decide) ?_
        refine lv_istore_n (lv' := [(2, .int 1), (0, .ref h0), (1, .int p1)]) hx hb dX8_listAll_111 rfl hl (by decide) rfl (fun ls hl => ?_)
        refine lv_iconst (v := 1) hx hb dX8_listAll_112 (by decide) ?_
        refine lv_istore_n (lv' := [(3, .int 1), (2, .int 1), (0, .ref h0), (1, .int p1)]) hx hb dX8_listAll_113 rfl hl (by decide) rfl (fun ls hl => ?_)
        refine lv_iload_n hx hb dX8_listAll_114 rfl (lv_at hl 1 rfl) ?_
        refine lv_if_eq (tgt := 131) hx hb dX8_listAll_115 (by decide) (fun c_2 => ?_) (fun c_2 => ?_)
        · skip
          exact absurd c_2 (by decide)
        · skip
          refine lv_aload_n hx hb dX8_listAll_118 rfl (lv_at hl 2 rfl) ?_
          refine lv_iload_n hx hb dX8_listAll_119 rfl (lv_at hl 3 rfl) ?_
          refine lv_iload_n hx hb dX8_listAll_120 rfl (lv_at hl 0 rfl) ?_
          have f_3 := va_free (wc := [(h0, .inr (6, [.ref st, .ref im, .ref kp, .ref pw, .ref nx, .ref li, .int (nI L), .ref il, .ref mv, .ref so, .ref la, .int d11, .int d12, .ref co])), (st, .inl (cyI, 72, .inl fs)), (pw, .inl (cyI, 11, .inl fp)), (li, .inl (cyI, 59049, .inl lf)), (mv, .inl (cyI, 59049, .inl mf)), (so, .inl (cyI, 59049, .inl fso)), (la, .inl (cyI, 59049, .inl fla))]) hD hS hA [0, 1, 2, 3, 4, 5, 6] rfl
          refine va_calli (va_runV (As := [.int p1, .int 1]) (rest := []) ⟨hx, hb, hml, hown, hts⟩ (kX8_layRound l dC dI cyI cyZ h0 st im kp pw nx li il mv so la co d11 d12 fs h8 fp hp mf fso fla hmf nn L hL lf hlf hsoL hlaL p1 1 _) (cwV 2 hts gX8_listAll_X8_layRound rfl rfl rfl (by decide +kernel) ⟨Nat.le_of_ble_eq_true rfl, Nat.le_of_ble_eq_true rfl⟩) (bs_WV hB (hP.sub (ws' := [(h0, .inr (6, [.ref st, .ref im, .ref kp, .ref pw, .ref nx, .ref li, .int (nI L), .ref il, .ref mv, .ref so, .ref la, .int d11, .int d12, .ref co])), (st, .inl (cyI, 72, .inl fs)), (pw, .inl (cyI, 11, .inl fp)), (li, .inl (cyI, 59049, .inl lf)), (mv, .inl (cyI, 59049, .inl mf)), (so, .inl (cyI, 59049, .inl fso)), (la, .inl (cyI, 59049, .inl fla))]) [0, 1, 2, 3, 4, 5, 6] rfl) (hD.sub (ws' := [(h0, .inr (6, [.ref st, .ref im, .ref kp, .ref pw, .ref nx, .ref li, .int (nI L), .ref il, .ref mv, .ref so, .ref la, .int d11, .int d12, .ref co])), (st, .inl (cyI, 72, .inl fs)), (pw, .inl (cyI, 11, .inl fp)), (li, .inl (cyI, 59049, .inl lf)), (mv, .inl (cyI, 59049, .inl mf)), (so, .inl (cyI, 59049, .inl fso)), (la, .inl (cyI, 59049, .inl fla))]) [0, 1, 2, 3, 4, 5, 6] (by decide) rfl) 0 rfl rfl) rfl rfl hl.1 rfl (lv_room (Nat.le_of_ble_eq_true rfl)) dX8_listAll_121 ⟨Nat.le_of_ble_eq_true rfl, Nat.le_of_ble_eq_true rfl⟩) hS (fun q _ h => f_3 q h) f_3 (fun rh_4 uh_4 t H1 locs ht hvm h_4 hB1 hz1 hk1 hS => ?_)
          obtain ⟨g_5, g_6⟩ := uh_4
          obtain ⟨hP1, hD1⟩ := hB1
          rw [ht] at hP1
          obtain ⟨hP, hD⟩ := va_join (wr := []) (w1 := [(h0, .inr (6, [.ref st, .ref im, .ref kp, .ref pw, .ref nx, .ref li, .int (nI L), .ref il, .ref mv, .ref so, .ref la, .int d11, .int d12, .ref co])), (st, .inl (cyI, 72, .inl fs)), (pw, .inl (cyI, 11, .inl fp)), (li, .inl (cyI, 59049, .inl lf)), (mv, .inl (cyI, 59049, .inl mf)), (so, .inl (cyI, 59049, .inl g_5)), (la, .inl (cyI, 59049, .inl g_6))]) hP hD [0, 1, 2, 3, 4, 5, 6] [] rfl rfl (by decide) (by decide) hk1 f_3 hP1 hD1
          generalize H1 = H at hP hS ⊢
          have hP : va_P (dC, dI) vwCl [(h0, .inr (6, [.ref st, .ref im, .ref kp, .ref pw, .ref nx, .ref li, .int (nI L), .ref il, .ref mv, .ref so, .ref la, .int d11, .int d12, .ref co])), (st, .inl (cyI, 72, .inl fs)), (pw, .inl (cyI, 11, .inl fp)), (li, .inl (cyI, 59049, .inl lf)), (mv, .inl (cyI, 59049, .inl mf)), (so, .inl (cyI, 59049, .inl g_5)), (la, .inl (cyI, 59049, .inl g_6))] _ := hP
          have hD : va_D A [(h0, .inr (6, [.ref st, .ref im, .ref kp, .ref pw, .ref nx, .ref li, .int (nI L), .ref il, .ref mv, .ref so, .ref la, .int d11, .int d12, .ref co])), (st, .inl (cyI, 72, .inl fs)), (pw, .inl (cyI, 11, .inl fp)), (li, .inl (cyI, 59049, .inl lf)), (mv, .inl (cyI, 59049, .inl mf)), (so, .inl (cyI, 59049, .inl g_5)), (la, .inl (cyI, 59049, .inl g_6))] := hD
          obtain ⟨zh_4, sh_4, th_4⟩ := h_4
          obtain rfl : 0 = rh_4 := Eq.symm zh_4
          refine lv_istore_n (lv' := [(2, .int 0), (3, .int 1), (0, .ref h0), (1, .int p1)]) hx hb dX8_listAll_124 rfl hl (by decide) rfl (fun ls hl => ?_)
          refine lv_iinc (v := 2) (lv' := [(3, .int 2), (2, .int 0), (0, .ref h0), (1, .int p1)]) hx hb dX8_listAll_125 hl (k := 1) rfl (by decide) (by decide) rfl (fun ls hl => ?_)
          refine lv_goto (tgt := 114) hx hb dX8_listAll_128 (by decide) ?_
          refine lv_iload_n hx hb dX8_listAll_114 rfl (lv_at hl 1 rfl) ?_
          refine lv_if_eq (tgt := 131) hx hb dX8_listAll_115 (by decide) (fun c_7 => ?_) (fun c_7 => ?_)
          · skip
            exact W.vret hx hb hr (fun t ht hW => ⟨⟨(g_5, g_6), rfl, ⟨sh_4, th_4⟩, ⟨by rw [ht]; exact hP.sub (ws' := [(h0, .inr (6, [.ref st, .ref im, .ref kp, .ref pw, .ref nx, .ref li, .int (nI L), .ref il, .ref mv, .ref so, .ref la, .int d11, .int d12, .ref co])), (st, .inl (cyI, 72, .inl fs)), (pw, .inl (cyI, 11, .inl fp)), (li, .inl (cyI, 59049, .inl lf)), (mv, .inl (cyI, 59049, .inl mf)), (so, .inl (cyI, 59049, .inl g_5)), (la, .inl (cyI, 59049, .inl g_6))]) [0, 1, 2, 3, 4, 5, 6] rfl, hD.sub (ws' := [(h0, .inr (6, [.ref st, .ref im, .ref kp, .ref pw, .ref nx, .ref li, .int (nI L), .ref il, .ref mv, .ref so, .ref la, .int d11, .int d12, .ref co])), (st, .inl (cyI, 72, .inl fs)), (pw, .inl (cyI, 11, .inl fp)), (li, .inl (cyI, 59049, .inl lf)), (mv, .inl (cyI, 59049, .inl mf)), (so, .inl (cyI, 59049, .inl g_5)), (la, .inl (cyI, 59049, .inl g_6))]) [0, 1, 2, 3, 4, 5, 6] (by decide) rfl⟩⟩, hS.F ht⟩) hS.2.2 dX8_listAll_131
          · skip
            exact absurd c_7 (by decide)
      · skip
        have ic_1 := ci_nle (nI_toInt (n := L) (by omega)) (nI_toInt (n := k) (by omega)) c_1
        obtain ⟨x, hx0, hx9, hsn, hlx⟩ := hlf k (by omega)
        have hcl := nb_cd2 hx9
        refine lv_aload_n hx hb dX8_listAll_10 rfl (lv_at hl 0 rfl) ?_
        refine va_get (D := (dC, dI)) (ci := 6) (v := .ref li) (C := RX8) (T := TX8) (N := 14) hx hb hts hnX8_listAll_X8 hown hK hP 0 rfl rfl 5 (by decide) (hts (.fieldLink RX8 27 "RingMeetsModel" "list" "[I") (by decide +kernel)) (fun _ h9 => h9) rfl dX8_listAll_11 ?_
        refine lv_iload_n hx hb dX8_listAll_14 rfl (lv_at hl 2 rfl) ?_
        refine va_iald (D := (dC, dI)) hx hb hK hP 3 0 rfl rfl (vp_in_nI (n := k) (N := 59049) (by omega) (by omega)) dX8_listAll_15 ?_
        refine lv_topi (fun x_8 ex_8 => ?_)
        rw [nI_clamp (n := k) (by omega)] at ex_8
        obtain rfl : (nI (nb_cd x)) = x_8 := (ex_8.trans (hlx)).symm
        refine lv_istore_n (lv' := [(3, .int (nI (nb_cd x))), (0, .ref h0), (1, .int p1), (2, .int (nI k))]) hx hb dX8_listAll_16 rfl hl (by decide) rfl (fun ls hl => ?_)
        refine lv_aload_n hx hb dX8_listAll_17 rfl (lv_at hl 1 rfl) ?_
        refine lv_iload_n hx hb dX8_listAll_18 rfl (lv_at hl 0 rfl) ?_
        refine vp_callSi (va_Run.run (va_runV (As := [.int (nI (nb_cd x))]) (rest := []) ⟨hx, hb, hml, hown, hts⟩ (kX8_movers l dC dI cyI cyZ h0 st im kp pw nx li il mv so la co (nI L) d11 d12 fs h8 fp hp mf hmf (nb_cd x) (by omega)) (cwV 1 hts gX8_listAll_X8_movers rfl rfl rfl (by decide +kernel) ⟨Nat.le_of_ble_eq_true rfl, Nat.le_of_ble_eq_true rfl⟩) (bs_RV hB (hP.sub (ws' := [(h0, .inr (6, [.ref st, .ref im, .ref kp, .ref pw, .ref nx, .ref li, .int (nI L), .ref il, .ref mv, .ref so, .ref la, .int d11, .int d12, .ref co])), (st, .inl (cyI, 72, .inl fs)), (pw, .inl (cyI, 11, .inl fp)), (mv, .inl (cyI, 59049, .inl mf))]) [0, 1, 2, 4] rfl) 0 rfl rfl) rfl rfl hl.1 rfl (lv_room (Nat.le_of_ble_eq_true rfl)) dX8_listAll_19 ⟨Nat.le_of_ble_eq_true rfl, Nat.le_of_ble_eq_true rfl⟩)) (fun r_9 hr_9 => ?_)
        obtain rfl : r_9 = 0 := hr_9
        refine lv_istore (lv' := [(4, .int 0), (3, .int (nI (nb_cd x))), (0, .ref h0), (1, .int p1), (2, .int (nI k))]) hx hb dX8_listAll_22 hl (by decide) rfl (fun ls hl => ?_)
        refine lv_iload hx hb dX8_listAll_24 (lv_at hl 0 rfl) ?_
        refine lv_ineg hx hb dX8_listAll_26 ?_
        refine lv_topi (fun x_10 ex_10 => ?_)
        obtain rfl : 0 = x_10 := (ex_10.trans (by decide)).symm
        refine lv_iload hx hb dX8_listAll_27 (lv_at hl 0 rfl) ?_
        refine lv_iand hx hb dX8_listAll_29 ?_
        refine lv_topi (fun x_11 ex_11 => ?_)
        obtain rfl : 0 = x_11 := (ex_11.trans (by decide)).symm
        refine lv_istore (lv' := [(5, .int 0), (4, .int 0), (3, .int (nI (nb_cd x))), (0, .ref h0), (1, .int p1), (2, .int (nI k))]) hx hb dX8_listAll_30 hl (by decide) rfl (fun ls hl => ?_)
        refine lv_iload hx hb dX8_listAll_32 (lv_at hl 0 rfl) ?_
        refine lv_if_eq (tgt := 72) hx hb dX8_listAll_34 (by decide) (fun c_12 => ?_) (fun c_12 => ?_)
        · skip
          refine lv_aload_n hx hb dX8_listAll_72 rfl (lv_at hl 3 rfl) ?_
          refine va_get (D := (dC, dI)) (ci := 6) (v := .ref so) (C := RX8) (T := TX8) (N := 14) hx hb hts hnX8_listAll_X8 hown hK hP 0 rfl rfl 9 (by decide) (hts (.fieldLink RX8 36 "RingMeetsModel" "soon" "[I") (by decide +kernel)) (fun _ h9 => h9) rfl dX8_listAll_73 ?_
          refine lv_iload_n hx hb dX8_listAll_76 rfl (lv_at hl 2 rfl) ?_
          refine lv_aload_n hx hb dX8_listAll_77 rfl (lv_at hl 3 rfl) ?_
          refine lv_iload_n hx hb dX8_listAll_78 rfl (lv_at hl 2 rfl) ?_
          refine vp_callSi (va_Run.run (va_runV (As := [.int (nI (nb_cd x))]) (rest := [.int (nI (nb_cd x)), .ref so]) ⟨hx, hb, hml, hown, hts⟩ (kX8_isMet l dC dI cyI cyZ h0 st im kp pw nx li il mv so la co (nI L) d11 d12 fs h8 fp hp x hx9 nn hsn) (cwV 1 hts gX8_listAll_X8_isMet rfl rfl rfl (by decide +kernel) ⟨Nat.le_of_ble_eq_true rfl, Nat.le_of_ble_eq_true rfl⟩) (bs_RV hB (hP.sub (ws' := [(h0, .inr (6, [.ref st, .ref im, .ref kp, .ref pw, .ref nx, .ref li, .int (nI L), .ref il, .ref mv, .ref so, .ref la, .int d11, .int d12, .ref co])), (st, .inl (cyI, 72, .inl fs)), (pw, .inl (cyI, 11, .inl fp))]) [0, 1, 2] rfl) 0 rfl rfl) rfl rfl hl.1 rfl (lv_room (Nat.le_of_ble_eq_true rfl)) dX8_listAll_79 ⟨Nat.le_of_ble_eq_true rfl, Nat.le_of_ble_eq_true rfl⟩)) (fun r_13 hr_13 => ?_)
          refine lv_if_eq (tgt := 89) hx hb dX8_listAll_82 (by decide) (fun c_14 => ?_) (fun c_14 => ?_)
          · skip
            have ic_14 := ci_eq (rfl : Int32.toInt r_13 = _) (show Int32.toInt 0 = 0 by decide) c_14
            have hn1 : ¬ nn = 1 := fun q => absurd c_14 (by rw [hr_13, if_pos q]; decide)
            refine lv_bipush (v := (-6)) hx hb dX8_listAll_89 (by decide) ?_
            refine va_iast (D := (dC, dI)) hx hb hK hP hD hS 5 0 rfl rfl (vp_in_nI (n := (nb_cd x)) (N := 59049) (by omega) (by omega)) dX8_listAll_91 (fun H locs hP hD hS => ?_)
            obtain ⟨g_15, eg_15⟩ : ∃ y : Nat → Int32, y = upd fso (Int32.toNatClampNeg (nI (nb_cd x))) (-6) := ⟨_, rfl⟩
            have hP : va_P (dC, dI) vwCl [(h0, .inr (6, [.ref st, .ref im, .ref kp, .ref pw, .ref nx, .ref li, .int (nI L), .ref il, .ref mv, .ref so, .ref la, .int d11, .int d12, .ref co])), (st, .inl (cyI, 72, .inl fs)), (pw, .inl (cyI, 11, .inl fp)), (li, .inl (cyI, 59049, .inl lf)), (mv, .inl (cyI, 59049, .inl mf)), (so, .inl (cyI, 59049, .inl g_15)), (la, .inl (cyI, 59049, .inl fla))] H := by rw [eg_15]; exact hP
            have hD : va_D A [(h0, .inr (6, [.ref st, .ref im, .ref kp, .ref pw, .ref nx, .ref li, .int (nI L), .ref il, .ref mv, .ref so, .ref la, .int d11, .int d12, .ref co])), (st, .inl (cyI, 72, .inl fs)), (pw, .inl (cyI, 11, .inl fp)), (li, .inl (cyI, 59049, .inl lf)), (mv, .inl (cyI, 59049, .inl mf)), (so, .inl (cyI, 59049, .inl g_15)), (la, .inl (cyI, 59049, .inl fla))] := by rw [eg_15]; exact hD
            rw [nI_clamp (n := (nb_cd x)) (by omega)] at eg_15
            refine lv_aload_n hx hb dX8_listAll_92 rfl (lv_at hl 3 rfl) ?_
            refine va_get (D := (dC, dI)) (ci := 6) (v := .ref la) (C := RX8) (T := TX8) (N := 14) hx hb hts hnX8_listAll_X8 hown hK hP 0 rfl rfl 10 (by decide) (hts (.fieldLink RX8 39 "RingMeetsModel" "late" "[I") (by decide +kernel)) (fun _ h9 => h9) rfl dX8_listAll_93 ?_
            refine lv_iload_n hx hb dX8_listAll_96 rfl (lv_at hl 2 rfl) ?_
            refine lv_aload_n hx hb dX8_listAll_97 rfl (lv_at hl 3 rfl) ?_
            refine va_get (D := (dC, dI)) (ci := 6) (v := .ref so) (C := RX8) (T := TX8) (N := 14) hx hb hts hnX8_listAll_X8 hown hK hP 0 rfl rfl 9 (by decide) (hts (.fieldLink RX8 36 "RingMeetsModel" "soon" "[I") (by decide +kernel)) (fun _ h9 => h9) rfl dX8_listAll_98 ?_
            refine lv_iload_n hx hb dX8_listAll_101 rfl (lv_at hl 2 rfl) ?_
            refine va_iald (D := (dC, dI)) hx hb hK hP 5 0 rfl rfl (vp_in_nI (n := (nb_cd x)) (N := 59049) (by omega) (by omega)) dX8_listAll_102 ?_
            refine lv_topi (fun x_16 ex_16 => ?_)
            rw [nI_clamp (n := (nb_cd x)) (by omega)] at ex_16
            obtain rfl : (-6) = x_16 := (ex_16.trans (by rw [eg_15]; unfold upd; rw [if_pos rfl])).symm
            refine va_iast (D := (dC, dI)) hx hb hK hP hD hS 6 0 rfl rfl (vp_in_nI (n := (nb_cd x)) (N := 59049) (by omega) (by omega)) dX8_listAll_103 (fun H locs hP hD hS => ?_)
            obtain ⟨g_17, eg_17⟩ : ∃ y : Nat → Int32, y = upd fla (Int32.toNatClampNeg (nI (nb_cd x))) (-6) := ⟨_, rfl⟩
            have hP : va_P (dC, dI) vwCl [(h0, .inr (6, [.ref st, .ref im, .ref kp, .ref pw, .ref nx, .ref li, .int (nI L), .ref il, .ref mv, .ref so, .ref la, .int d11, .int d12, .ref co])), (st, .inl (cyI, 72, .inl fs)), (pw, .inl (cyI, 11, .inl fp)), (li, .inl (cyI, 59049, .inl lf)), (mv, .inl (cyI, 59049, .inl mf)), (so, .inl (cyI, 59049, .inl g_15)), (la, .inl (cyI, 59049, .inl g_17))] H := by rw [eg_17]; exact hP
            have hD : va_D A [(h0, .inr (6, [.ref st, .ref im, .ref kp, .ref pw, .ref nx, .ref li, .int (nI L), .ref il, .ref mv, .ref so, .ref la, .int d11, .int d12, .ref co])), (st, .inl (cyI, 72, .inl fs)), (pw, .inl (cyI, 11, .inl fp)), (li, .inl (cyI, 59049, .inl lf)), (mv, .inl (cyI, 59049, .inl mf)), (so, .inl (cyI, 59049, .inl g_15)), (la, .inl (cyI, 59049, .inl g_17))] := by rw [eg_17]; exact hD
            rw [nI_clamp (n := (nb_cd x)) (by omega)] at eg_17
            refine lv_iinc (v := (nI (k + 1))) (lv' := [(2, .int (nI (k + 1))), (5, .int 0), (4, .int 0), (3, .int (nI (nb_cd x))), (0, .ref h0), (1, .int p1)]) hx hb dX8_listAll_104 hl (k := 5) rfl (nI_1 _) (by decide) rfl (fun ls hl => ?_)
            refine lv_goto (tgt := 2) hx hb dX8_listAll_107 (by decide) ?_
            exact ih2 (k + 1) g_15 g_17 (by omega) (by omega) (nb_T_s hso hx9 hlx eg_15 (nb_tk6 hn1)) (nb_T_s hla hx9 hlx eg_17 (nb_tk6 hn1)) _ _ (hP.sub [0, 1, 2, 3, 4, 5, 6] rfl) (hD.sub [0, 1, 2, 3, 4, 5, 6] (by decide) rfl) hS _ (lv_sub hl [4, 5, 0] rfl)
          · skip
            have ic_14 := ci_ne (rfl : Int32.toInt r_13 = _) (show Int32.toInt 0 = 0 by decide) c_14
            have hn1 : nn = 1 := by by_cases q : nn = 1; exact q; exact absurd (by rw [hr_13, if_neg q]) c_14
            refine lv_iconst (v := 0) hx hb dX8_listAll_85 (by decide) ?_
            refine lv_goto (tgt := 91) hx hb dX8_listAll_86 (by decide) ?_
            refine va_iast (D := (dC, dI)) hx hb hK hP hD hS 5 0 rfl rfl (vp_in_nI (n := (nb_cd x)) (N := 59049) (by omega) (by omega)) dX8_listAll_91 (fun H locs hP hD hS => ?_)
            obtain ⟨g_18, eg_18⟩ : ∃ y : Nat → Int32, y = upd fso (Int32.toNatClampNeg (nI (nb_cd x))) 0 := ⟨_, rfl⟩
            have hP : va_P (dC, dI) vwCl [(h0, .inr (6, [.ref st, .ref im, .ref kp, .ref pw, .ref nx, .ref li, .int (nI L), .ref il, .ref mv, .ref so, .ref la, .int d11, .int d12, .ref co])), (st, .inl (cyI, 72, .inl fs)), (pw, .inl (cyI, 11, .inl fp)), (li, .inl (cyI, 59049, .inl lf)), (mv, .inl (cyI, 59049, .inl mf)), (so, .inl (cyI, 59049, .inl g_18)), (la, .inl (cyI, 59049, .inl fla))] H := by rw [eg_18]; exact hP
            have hD : va_D A [(h0, .inr (6, [.ref st, .ref im, .ref kp, .ref pw, .ref nx, .ref li, .int (nI L), .ref il, .ref mv, .ref so, .ref la, .int d11, .int d12, .ref co])), (st, .inl (cyI, 72, .inl fs)), (pw, .inl (cyI, 11, .inl fp)), (li, .inl (cyI, 59049, .inl lf)), (mv, .inl (cyI, 59049, .inl mf)), (so, .inl (cyI, 59049, .inl g_18)), (la, .inl (cyI, 59049, .inl fla))] := by rw [eg_18]; exact hD
            rw [nI_clamp (n := (nb_cd x)) (by omega)] at eg_18
            refine lv_aload_n hx hb dX8_listAll_92 rfl (lv_at hl 3 rfl) ?_
            refine va_get (D := (dC, dI)) (ci := 6) (v := .ref la) (C := RX8) (T := TX8) (N := 14) hx hb hts hnX8_listAll_X8 hown hK hP 0 rfl rfl 10 (by decide) (hts (.fieldLink RX8 39 "RingMeetsModel" "late" "[I") (by decide +kernel)) (fun _ h9 => h9) rfl dX8_listAll_93 ?_
            refine lv_iload_n hx hb dX8_listAll_96 rfl (lv_at hl 2 rfl) ?_
            refine lv_aload_n hx hb dX8_listAll_97 rfl (lv_at hl 3 rfl) ?_
            refine va_get (D := (dC, dI)) (ci := 6) (v := .ref so) (C := RX8) (T := TX8) (N := 14) hx hb hts hnX8_listAll_X8 hown hK hP 0 rfl rfl 9 (by decide) (hts (.fieldLink RX8 36 "RingMeetsModel" "soon" "[I") (by decide +kernel)) (fun _ h9 => h9) rfl dX8_listAll_98 ?_
            refine lv_iload_n hx hb dX8_listAll_101 rfl (lv_at hl 2 rfl) ?_
            refine va_iald (D := (dC, dI)) hx hb hK hP 5 0 rfl rfl (vp_in_nI (n := (nb_cd x)) (N := 59049) (by omega) (by omega)) dX8_listAll_102 ?_
            refine lv_topi (fun x_19 ex_19 => ?_)
            rw [nI_clamp (n := (nb_cd x)) (by omega)] at ex_19
            obtain rfl : 0 = x_19 := (ex_19.trans (by rw [eg_18]; unfold upd; rw [if_pos rfl])).symm
            refine va_iast (D := (dC, dI)) hx hb hK hP hD hS 6 0 rfl rfl (vp_in_nI (n := (nb_cd x)) (N := 59049) (by omega) (by omega)) dX8_listAll_103 (fun H locs hP hD hS => ?_)
            obtain ⟨g_20, eg_20⟩ : ∃ y : Nat → Int32, y = upd fla (Int32.toNatClampNeg (nI (nb_cd x))) 0 := ⟨_, rfl⟩
            have hP : va_P (dC, dI) vwCl [(h0, .inr (6, [.ref st, .ref im, .ref kp, .ref pw, .ref nx, .ref li, .int (nI L), .ref il, .ref mv, .ref so, .ref la, .int d11, .int d12, .ref co])), (st, .inl (cyI, 72, .inl fs)), (pw, .inl (cyI, 11, .inl fp)), (li, .inl (cyI, 59049, .inl lf)), (mv, .inl (cyI, 59049, .inl mf)), (so, .inl (cyI, 59049, .inl g_18)), (la, .inl (cyI, 59049, .inl g_20))] H := by rw [eg_20]; exact hP
            have hD : va_D A [(h0, .inr (6, [.ref st, .ref im, .ref kp, .ref pw, .ref nx, .ref li, .int (nI L), .ref il, .ref mv, .ref so, .ref la, .int d11, .int d12, .ref co])), (st, .inl (cyI, 72, .inl fs)), (pw, .inl (cyI, 11, .inl fp)), (li, .inl (cyI, 59049, .inl lf)), (mv, .inl (cyI, 59049, .inl mf)), (so, .inl (cyI, 59049, .inl g_18)), (la, .inl (cyI, 59049, .inl g_20))] := by rw [eg_20]; exact hD
            rw [nI_clamp (n := (nb_cd x)) (by omega)] at eg_20
            refine lv_iinc (v := (nI (k + 1))) (lv' := [(2, .int (nI (k + 1))), (5, .int 0), (4, .int 0), (3, .int (nI (nb_cd x))), (0, .ref h0), (1, .int p1)]) hx hb dX8_listAll_104 hl (k := 5) rfl (nI_1 _) (by decide) rfl (fun ls hl => ?_)
            refine lv_goto (tgt := 2) hx hb dX8_listAll_107 (by decide) ?_
            exact ih2 (k + 1) g_18 g_20 (by omega) (by omega) (nb_T_s hso hx9 hlx eg_18 (nb_tk0 hn1)) (nb_T_s hla hx9 hlx eg_20 (nb_tk0 hn1)) _ _ (hP.sub [0, 1, 2, 3, 4, 5, 6] rfl) (hD.sub [0, 1, 2, 3, 4, 5, 6] (by decide) rfl) hS _ (lv_sub hl [4, 5, 0] rfl)
        · skip
          exact absurd c_12 (by decide)
  exact L2 (L + 1) 0 fso fla (by omega) (by omega) nb_T_0 nb_T_0 _ _ (hP.sub [0, 1, 2, 3, 4, 5, 6] rfl) (hD.sub [0, 1, 2, 3, 4, 5, 6] (by decide) rfl) hS _ (lv_sub hl [1, 2, 0] rfl)

theorem hnX8_kindOf_X8 : ∀ w ∈ wsX80, w ∈ wsX8_kindOf := fun _ h => List.mem_cons_of_mem _ (List.mem_append_right _ h)
set_option maxHeartbeats 4000000 in
set_option maxRecDepth 100000 in
theorem kX8_kindOf (l : Launch) (dC : Nat → ClassId) (dI : Nat → Nat → Nat) (cyI cyZ : ClassId) (h0 st im kp pw nx li il mv so la co : Nat) (d6 d11 d12 : Int32) (fs : Nat → Int32) (h8 : fs 0 = 8) (fp : Nat → Int32) (hp : ∀ j, j ≤ 10 → fp j = nI (3 ^ j)) (x : Nat) (hx9 : x < 256) (nn : Int32) (hsn : nb_sz (nI x) 10 = nn) (fso fla : Nat → Int32) (hso : fso (nb_cd x) = sp_tk nn) (hla : fla (nb_cd x) = sp_tk nn) : Met l yX8_kindOf wsX8_kindOf ({ frames := 3, cells := 0, slots := 0, locals := 64 }) (bs_R dC dI cyI cyZ [.ref h0, .int (nI (nb_cd x))] [(h0, .inr (6, [.ref st, .ref im, .ref kp, .ref pw, .ref nx, .ref li, .int d6, .ref il, .ref mv, .ref so, .ref la, .int d11, .int d12, .ref co])), (st, .inl (cyI, 72, .inl fs)), (pw, .inl (cyI, 11, .inl fp)), (so, .inl (cyI, 59049, .inl fso)), (la, .inl (cyI, 59049, .inl fla))]) (vp_Si (fun r : Int32 => r = sp_kd nn)) 0 0 (fun _ => False) := by
  refine Met.ofW (cc := cX8_kindOf) (maxL := 2) (ret := (some .int)) (by decide) rfl ?_
  intro p e s m args below meth c s₁ B hml hv
  obtain ⟨rfl, hB, hP⟩ := hv
  have hK := hB.1
  have hN := hB.2
  have hx := B.exec
  have hb := B.bytes
  have hr := B.returns
  have hts := atoms_spec (ws := wsX8_kindOf) B.pre
  have hown : s.vm.findClass RX8 = some m.cls := findClass_of_methodNamed B.named
  have hlocks := B.notSynchronized
  have hP : va_P (dC, dI) vwCl [(h0, .inr (6, [.ref st, .ref im, .ref kp, .ref pw, .ref nx, .ref li, .int d6, .ref il, .ref mv, .ref so, .ref la, .int d11, .int d12, .ref co])), (st, .inl (cyI, 72, .inl fs)), (pw, .inl (cyI, 11, .inl fp)), (so, .inl (cyI, 59049, .inl fso)), (la, .inl (cyI, 59049, .inl fla))] s.heap := hP
  have hl := lv_entry ([.ref h0, .int (nI (nb_cd x))]) (n := 2) (Nat.le_of_ble_eq_true rfl)
  rw [lg_entry_eq]
  generalize (lg_sl ([.ref h0, .int (nI (nb_cd x))]) ++ List.replicate (2 - (lg_sl ([.ref h0, .int (nI (nb_cd x))])).length) Slot.unset).toArray = ls at hl ⊢
  have hl : lv_has ls 2 [(0, .ref h0), (1, .int (nI (nb_cd x)))] := hl
  have hcl := nb_cd2 hx9
  refine lv_aload_n hx hb dX8_kindOf_0 rfl (lv_at hl 0 rfl) ?_
  refine lv_iload_n hx hb dX8_kindOf_1 rfl (lv_at hl 1 rfl) ?_
  refine vp_callSi (va_Run.run (va_runV (As := [.int (nI (nb_cd x))]) (rest := []) ⟨hx, hb, hml, hown, hts⟩ (kX8_isMet l dC dI cyI cyZ h0 st im kp pw nx li il mv so la co d6 d11 d12 fs h8 fp hp x hx9 nn hsn) (cwV 1 hts gX8_kindOf_X8_isMet rfl rfl rfl (by decide +kernel) ⟨Nat.le_of_ble_eq_true rfl, Nat.le_of_ble_eq_true rfl⟩) (bs_RV hB (hP.sub (ws' := [(h0, .inr (6, [.ref st, .ref im, .ref kp, .ref pw, .ref nx, .ref li, .int d6, .ref il, .ref mv, .ref so, .ref la, .int d11, .int d12, .ref co])), (st, .inl (cyI, 72, .inl fs)), (pw, .inl (cyI, 11, .inl fp))]) [0, 1, 2] rfl) 0 rfl rfl) rfl rfl hl.1 rfl (lv_room (Nat.le_of_ble_eq_true rfl)) dX8_kindOf_2 ⟨Nat.le_of_ble_eq_true rfl, Nat.le_of_ble_eq_true rfl⟩)) (fun r_1 hr_1 => ?_)
  refine lv_if_eq (tgt := 12) hx hb dX8_kindOf_5 (by decide) (fun c_2 => ?_) (fun c_2 => ?_)
  · skip
    have ic_2 := ci_eq (rfl : Int32.toInt r_1 = _) (show Int32.toInt 0 = 0 by decide) c_2
    have hn1 : ¬ nn = 1 := fun q => absurd c_2 (by rw [hr_1, if_pos q]; decide)
    have ht6 : Int32.toInt (sp_tk nn) = -6 := by rw [← nb_tk6 hn1]; decide
    refine lv_aload_n hx hb dX8_kindOf_12 rfl (lv_at hl 0 rfl) ?_
    refine va_get (D := (dC, dI)) (ci := 6) (v := .ref la) (C := RX8) (T := TX8) (N := 14) hx hb hts hnX8_kindOf_X8 hown hK hP 0 rfl rfl 10 (by decide) (hts (.fieldLink RX8 39 "RingMeetsModel" "late" "[I") (by decide +kernel)) (fun _ h9 => h9) rfl dX8_kindOf_13 ?_
    refine lv_iload_n hx hb dX8_kindOf_16 rfl (lv_at hl 1 rfl) ?_
    refine va_iald (D := (dC, dI)) hx hb hK hP 4 0 rfl rfl (vp_in_nI (n := (nb_cd x)) (N := 59049) (by omega) (by omega)) dX8_kindOf_17 ?_
    refine lv_topi (fun x_3 ex_3 => ?_)
    rw [nI_clamp (n := (nb_cd x)) (by omega)] at ex_3
    obtain rfl : (sp_tk nn) = x_3 := (ex_3.trans (hla)).symm
    refine lv_if_lt (tgt := 25) hx hb dX8_kindOf_18 (by decide) (fun c_4 => ?_) (fun c_4 => ?_)
    · skip
      have ic_4 := ci_lt (rfl : Int32.toInt (sp_tk nn) = _) (show Int32.toInt 0 = 0 by decide) c_4
      refine lv_aload_n hx hb dX8_kindOf_25 rfl (lv_at hl 0 rfl) ?_
      refine va_get (D := (dC, dI)) (ci := 6) (v := .ref so) (C := RX8) (T := TX8) (N := 14) hx hb hts hnX8_kindOf_X8 hown hK hP 0 rfl rfl 9 (by decide) (hts (.fieldLink RX8 36 "RingMeetsModel" "soon" "[I") (by decide +kernel)) (fun _ h9 => h9) rfl dX8_kindOf_26 ?_
      refine lv_iload_n hx hb dX8_kindOf_29 rfl (lv_at hl 1 rfl) ?_
      refine va_iald (D := (dC, dI)) hx hb hK hP 3 0 rfl rfl (vp_in_nI (n := (nb_cd x)) (N := 59049) (by omega) (by omega)) dX8_kindOf_30 ?_
      refine lv_topi (fun x_5 ex_5 => ?_)
      rw [nI_clamp (n := (nb_cd x)) (by omega)] at ex_5
      obtain rfl : (sp_tk nn) = x_5 := (ex_5.trans (hso)).symm
      refine lv_if_lt (tgt := 38) hx hb dX8_kindOf_31 (by decide) (fun c_6 => ?_) (fun c_6 => ?_)
      · skip
        have ic_6 := ci_lt (rfl : Int32.toInt (sp_tk nn) = _) (show Int32.toInt 0 = 0 by decide) c_6
        refine lv_iconst (v := 3) hx hb dX8_kindOf_38 (by decide) ?_
        exact W.iret (v := 3) hx hb hr (fun t ht hW => ⟨3, rfl, (show (3 : Int32) = sp_kd nn by unfold sp_kd; rw [if_neg hn1]), ht⟩) (fun q h => by cases h) dX8_kindOf_39
      · skip
        have ic_6 := ci_nlt (rfl : Int32.toInt (sp_tk nn) = _) (show Int32.toInt 0 = 0 by decide) c_6
        exfalso; omega
    · skip
      have ic_4 := ci_nlt (rfl : Int32.toInt (sp_tk nn) = _) (show Int32.toInt 0 = 0 by decide) c_4
      exfalso; omega
  · skip
    have ic_2 := ci_ne (rfl : Int32.toInt r_1 = _) (show Int32.toInt 0 = 0 by decide) c_2
    have hn1 : nn = 1 := by by_cases q : nn = 1; exact q; exact absurd (by rw [hr_1, if_neg q]) c_2
    refine lv_iconst (v := 0) hx hb dX8_kindOf_8 (by decide) ?_
    refine lv_goto (tgt := 39) hx hb dX8_kindOf_9 (by decide) ?_
    exact W.iret (v := 0) hx hb hr (fun t ht hW => ⟨0, rfl, (show (0 : Int32) = sp_kd nn by unfold sp_kd; rw [if_pos hn1]), ht⟩) (fun q h => by cases h) dX8_kindOf_39

theorem hnX8_singles_X8 : ∀ w ∈ wsX80, w ∈ wsX8_singles := fun _ h => List.mem_cons_of_mem _ (List.mem_append_right _ h)
set_option maxHeartbeats 4000000 in
set_option maxRecDepth 100000 in
theorem kX8_singles (l : Launch) (dC : Nat → ClassId) (dI : Nat → Nat → Nat) (cyI cyZ : ClassId) (h0 st im kp pw nx li il mv so la co : Nat) (d6 d11 d12 : Int32) (fs : Nat → Int32) (h8 : fs 0 = 8) (fp : Nat → Int32) (hp : ∀ j, j ≤ 10 → fp j = nI (3 ^ j)) (x : Nat) (hx9 : x < 256) : Met l yX8_singles wsX8_singles ({ frames := 1, cells := 0, slots := 0, locals := 21 }) (bs_R dC dI cyI cyZ [.ref h0, .int (nI x)] [(h0, .inr (6, [.ref st, .ref im, .ref kp, .ref pw, .ref nx, .ref li, .int d6, .ref il, .ref mv, .ref so, .ref la, .int d11, .int d12, .ref co])), (st, .inl (cyI, 72, .inl fs)), (pw, .inl (cyI, 11, .inl fp))]) (vp_Si (fun r : Int32 => r = nI (nb_cd x))) 0 0 (fun _ => False) := by
  refine Met.ofW (cc := cX8_singles) (maxL := 4) (ret := (some .int)) (by decide) rfl ?_
  intro p e s m args below meth c s₁ B hml hv
  obtain ⟨rfl, hB, hP⟩ := hv
  have hK := hB.1
  have hN := hB.2
  have hx := B.exec
  have hb := B.bytes
  have hr := B.returns
  have hts := atoms_spec (ws := wsX8_singles) B.pre
  have hown : s.vm.findClass RX8 = some m.cls := findClass_of_methodNamed B.named
  have hlocks := B.notSynchronized
  have hP : va_P (dC, dI) vwCl [(h0, .inr (6, [.ref st, .ref im, .ref kp, .ref pw, .ref nx, .ref li, .int d6, .ref il, .ref mv, .ref so, .ref la, .int d11, .int d12, .ref co])), (st, .inl (cyI, 72, .inl fs)), (pw, .inl (cyI, 11, .inl fp))] s.heap := hP
  have hl := lv_entry ([.ref h0, .int (nI x)]) (n := 4) (Nat.le_of_ble_eq_true rfl)
  rw [lg_entry_eq]
  generalize (lg_sl ([.ref h0, .int (nI x)]) ++ List.replicate (4 - (lg_sl ([.ref h0, .int (nI x)])).length) Slot.unset).toArray = ls at hl ⊢
  have hl : lv_has ls 4 [(0, .ref h0), (1, .int (nI x))] := hl
  refine lv_iconst (v := 0) hx hb dX8_singles_0 (by decide) ?_
  refine lv_istore_n (lv' := [(2, .int 0), (0, .ref h0), (1, .int (nI x))]) hx hb dX8_singles_1 rfl hl (by decide) rfl (fun ls hl => ?_)
  refine lv_iconst (v := 0) hx hb dX8_singles_2 (by decide) ?_
  refine lv_istore_n (lv' := [(3, .int 0), (2, .int 0), (0, .ref h0), (1, .int (nI x))]) hx hb dX8_singles_3 rfl hl (by decide) rfl (fun ls hl => ?_)
  have L4 : ∀ (n4 : Nat), ∀ (k : Nat), (0 ≤ k ∧ k ≤ 8) → (9 ≤ k + n4) → ∀ (ls : Array Slot), lv_has ls 4 [(0, .ref h0), (1, .int (nI x)), (2, .int (nb_sg (nI x) k)), (3, .int (nI k))] → W p l e (headSpec wsX8_singles ({ frames := 1, cells := 0, slots := 0, locals := 21 })).room s m ([.ref h0, .int (nI x)] : List Value).toArray below meth c s.heap [] 0 0 (MQ below (vp_Si (fun r : Int32 => r = nI (nb_cd x))) ([.ref h0, .int (nI x)] : List Value).toArray s 0 0 (fun _ => False)) (F0 m 4 ls []) := by
    intro n4
    induction n4 with
    | zero =>
      intro k hk4 hn4 ls hl
      exfalso
      omega
    | succ n4 ih4 =>
      intro k hk4 hn4 ls hl
      refine lv_iload_n hx hb dX8_singles_4 rfl (lv_at hl 3 rfl) ?_
      refine lv_aload_n hx hb dX8_singles_5 rfl (lv_at hl 0 rfl) ?_
      refine vp_callSi (va_Run.run (va_runV (As := []) (rest := [.int (nI k)]) ⟨hx, hb, hml, hown, hts⟩ (kX8_cells l dC dI cyI cyZ h0 st im kp pw nx li il mv so la co d6 d11 d12 fs h8) (cwV 0 hts gX8_singles_X8_cells rfl rfl rfl (by decide +kernel) ⟨Nat.le_of_ble_eq_true rfl, Nat.le_of_ble_eq_true rfl⟩) (bs_RV hB (hP.sub (ws' := [(h0, .inr (6, [.ref st, .ref im, .ref kp, .ref pw, .ref nx, .ref li, .int d6, .ref il, .ref mv, .ref so, .ref la, .int d11, .int d12, .ref co])), (st, .inl (cyI, 72, .inl fs))]) [0, 1] rfl) 0 rfl rfl) rfl rfl hl.1 rfl (lv_room (Nat.le_of_ble_eq_true rfl)) dX8_singles_6 ⟨Nat.le_of_ble_eq_true rfl, Nat.le_of_ble_eq_true rfl⟩)) (fun r_1 hr_1 => ?_)
      obtain rfl : r_1 = 8 := hr_1
      refine lv_icmp_ge (tgt := 39) hx hb dX8_singles_9 (by decide) (fun c_2 => ?_) (fun c_2 => ?_)
      · skip
        have ic_2 := ci_le (show Int32.toInt 8 = 8 by decide) (nI_toInt (n := k) (by omega)) c_2
        refine lv_iload_n hx hb dX8_singles_39 rfl (lv_at hl 2 rfl) ?_
        exact W.iret (v := (nb_sg (nI x) k)) hx hb hr (fun t ht hW => ⟨(nb_sg (nI x) k), rfl, (show nb_sg (nI x) k = nI (nb_cd x) by rw [show k = 8 by omega]; exact nb_cd1 hx9), ht⟩) (fun q h => by cases h) dX8_singles_40
      · skip
        have ic_2 := ci_nle (show Int32.toInt 8 = 8 by decide) (nI_toInt (n := k) (by omega)) c_2
        refine lv_iload_n hx hb dX8_singles_12 rfl (lv_at hl 2 rfl) ?_
        refine lv_iload_n hx hb dX8_singles_13 rfl (lv_at hl 1 rfl) ?_
        refine lv_iload_n hx hb dX8_singles_14 rfl (lv_at hl 3 rfl) ?_
        refine vp_callSi (va_Run.run (va_runS (As := [.int (nI x), .int (nI k)]) (rest := [.int (nb_sg (nI x) k)]) ⟨hx, hb, hml, hown, hts⟩ (kX8_has l dC dI cyI cyZ (nI x) (nI k)) (va_cwS 2 hts gX8_singles_X8_has rfl rfl rfl (by decide +kernel) ⟨Nat.le_of_ble_eq_true rfl, Nat.le_of_ble_eq_true rfl⟩) (bs_RS hB (hP.sub (ws' := []) [] rfl)) rfl rfl hl.1 rfl (lv_room (Nat.le_of_ble_eq_true rfl)) dX8_singles_15 ⟨Nat.le_of_ble_eq_true rfl, Nat.le_of_ble_eq_true rfl⟩)) (fun r_3 hr_3 => ?_)
        refine lv_if_eq (tgt := 30) hx hb dX8_singles_18 (by decide) (fun c_4 => ?_) (fun c_4 => ?_)
        · skip
          have ic_4 := ci_eq (rfl : Int32.toInt r_3 = _) (show Int32.toInt 0 = 0 by decide) c_4
          refine lv_iconst (v := 0) hx hb dX8_singles_30 (by decide) ?_
          refine lv_iadd hx hb dX8_singles_31 ?_
          refine lv_topi (fun x_5 ex_5 => ?_)
          obtain rfl : (nb_sg (nI x) (k + 1)) = x_5 := (ex_5.trans (by rw [nb_sg, ← hr_3.2.2, if_pos c_4])).symm
          refine lv_istore_n (lv' := [(2, .int (nb_sg (nI x) (k + 1))), (0, .ref h0), (1, .int (nI x)), (3, .int (nI k))]) hx hb dX8_singles_32 rfl hl (by decide) rfl (fun ls hl => ?_)
          refine lv_iinc (v := (nI (k + 1))) (lv' := [(3, .int (nI (k + 1))), (2, .int (nb_sg (nI x) (k + 1))), (0, .ref h0), (1, .int (nI x))]) hx hb dX8_singles_33 hl (k := 3) rfl (nI_1 _) (by decide) rfl (fun ls hl => ?_)
          refine lv_goto (tgt := 4) hx hb dX8_singles_36 (by decide) ?_
          exact ih4 (k + 1)  ⟨by omega, by omega⟩ (by omega)  _ (lv_sub hl [2, 3, 1, 0] rfl)
        · skip
          have ic_4 := ci_ne (rfl : Int32.toInt r_3 = _) (show Int32.toInt 0 = 0 by decide) c_4
          refine lv_aload_n hx hb dX8_singles_21 rfl (lv_at hl 0 rfl) ?_
          refine va_get (D := (dC, dI)) (ci := 6) (v := .ref pw) (C := RX8) (T := TX8) (N := 14) hx hb hts hnX8_singles_X8 hown hK hP 0 rfl rfl 3 (by decide) (hts (.fieldLink RX8 20 "RingMeetsModel" "power" "[I") (by decide +kernel)) (fun _ h9 => h9) rfl dX8_singles_22 ?_
          refine lv_iload_n hx hb dX8_singles_25 rfl (lv_at hl 3 rfl) ?_
          refine va_iald (D := (dC, dI)) hx hb hK hP 2 0 rfl rfl (vp_in_nI (n := k) (N := 11) (by omega) (by omega)) dX8_singles_26 ?_
          refine lv_topi (fun x_6 ex_6 => ?_)
          rw [nI_clamp (n := k) (by omega)] at ex_6
          obtain rfl : (nI (3 ^ k)) = x_6 := (ex_6.trans (hp _ (by omega))).symm
          refine lv_goto (tgt := 31) hx hb dX8_singles_27 (by decide) ?_
          refine lv_iadd hx hb dX8_singles_31 ?_
          refine lv_topi (fun x_7 ex_7 => ?_)
          obtain rfl : (nb_sg (nI x) (k + 1)) = x_7 := (ex_7.trans (by rw [nb_sg, ← hr_3.2.2, if_neg c_4])).symm
          refine lv_istore_n (lv' := [(2, .int (nb_sg (nI x) (k + 1))), (0, .ref h0), (1, .int (nI x)), (3, .int (nI k))]) hx hb dX8_singles_32 rfl hl (by decide) rfl (fun ls hl => ?_)
          refine lv_iinc (v := (nI (k + 1))) (lv' := [(3, .int (nI (k + 1))), (2, .int (nb_sg (nI x) (k + 1))), (0, .ref h0), (1, .int (nI x))]) hx hb dX8_singles_33 hl (k := 3) rfl (nI_1 _) (by decide) rfl (fun ls hl => ?_)
          refine lv_goto (tgt := 4) hx hb dX8_singles_36 (by decide) ?_
          exact ih4 (k + 1)  ⟨by omega, by omega⟩ (by omega)  _ (lv_sub hl [2, 3, 1, 0] rfl)
  exact L4 9 0  ⟨by omega, by omega⟩ (by omega)  _ (lv_sub hl [2, 3, 1, 0] rfl)

set_option maxHeartbeats 4000000 in
set_option maxRecDepth 100000 in
theorem kX8_all (l : Launch) (dC : Nat → ClassId) (dI : Nat → Nat → Nat) (cyI cyZ : ClassId) (h0 st im kp pw nx li il mv so la co : Nat) (d6 d11 d12 : Int32) (fs : Nat → Int32) (h8 : fs 0 = 8) (hs : ∀ j, 1 ≤ j → fs j = 0) (fp : Nat → Int32) (hp : ∀ j, j ≤ 10 → fp j = nI (3 ^ j)) (lf ilf mf fso fla : Nat → Int32) (hmf : ∀ j, mf j = 0) (p1 p2 p3 : Int32) (sz : Nat) : Met l yX8_all wsX8_all ({ frames := 8, cells := 0, slots := 0, locals := 193 }) (bs_W dC dI cyI cyZ [.ref h0, .int p1, .int p2, .int p3] [(h0, .inr (6, [.ref st, .ref im, .ref kp, .ref pw, .ref nx, .ref li, .int d6, .ref il, .ref mv, .ref so, .ref la, .int d11, .int d12, .ref co])), (st, .inl (cyI, 72, .inl fs)), (pw, .inl (cyI, 11, .inl fp)), (li, .inl (cyI, 59049, .inl lf)), (il, .inl (cyZ, 59049, .inl ilf)), (mv, .inl (cyI, 59049, .inl mf)), (so, .inl (cyI, 59049, .inl fso)), (la, .inl (cyI, 59049, .inl fla))] sz) (va_Qi (S := Unit) (fun (r : Int32) (_ : Unit) => r = sp_all p1 p2 p3) (fun _ _ => True) (va_A [(h0, .inr (6, [.ref st, .ref im, .ref kp, .ref pw, .ref nx, .ref li, .int d6, .ref il, .ref mv, .ref so, .ref la, .int d11, .int d12, .ref co])), (st, .inl (cyI, 72, .inl fs)), (pw, .inl (cyI, 11, .inl fp)), (li, .inl (cyI, 59049, .inl lf)), (il, .inl (cyZ, 59049, .inl ilf)), (mv, .inl (cyI, 59049, .inl mf)), (so, .inl (cyI, 59049, .inl fso)), (la, .inl (cyI, 59049, .inl fla))] sz)) 0 0 (va_A [(h0, .inr (6, [.ref st, .ref im, .ref kp, .ref pw, .ref nx, .ref li, .int d6, .ref il, .ref mv, .ref so, .ref la, .int d11, .int d12, .ref co])), (st, .inl (cyI, 72, .inl fs)), (pw, .inl (cyI, 11, .inl fp)), (li, .inl (cyI, 59049, .inl lf)), (il, .inl (cyZ, 59049, .inl ilf)), (mv, .inl (cyI, 59049, .inl mf)), (so, .inl (cyI, 59049, .inl fso)), (la, .inl (cyI, 59049, .inl fla))] sz) := by
  refine Met.ofW (cc := cX8_all) (maxL := 6) (ret := (some .int)) (by decide) rfl ?_
  intro p e s m args below meth c s₁ B hml hv
  obtain ⟨rfl, hsz, hB, hP, hD0⟩ := hv
  have hK := hB.1
  have hN := hB.2
  have hx := B.exec
  have hb := B.bytes
  have hr := B.returns
  have hts := atoms_spec (ws := wsX8_all) B.pre
  have hown : s.vm.findClass RX8 = some m.cls := findClass_of_methodNamed B.named
  have hlocks := B.notSynchronized
  subst hsz
  have hD := hD0.self (sz := s.heap.size)
  generalize hAe : va_A [(h0, .inr (6, [.ref st, .ref im, .ref kp, .ref pw, .ref nx, .ref li, .int d6, .ref il, .ref mv, .ref so, .ref la, .int d11, .int d12, .ref co])), (st, .inl (cyI, 72, .inl fs)), (pw, .inl (cyI, 11, .inl fp)), (li, .inl (cyI, 59049, .inl lf)), (il, .inl (cyZ, 59049, .inl ilf)), (mv, .inl (cyI, 59049, .inl mf)), (so, .inl (cyI, 59049, .inl fso)), (la, .inl (cyI, 59049, .inl fla))] s.heap.size = A at hD ⊢
  have hA : ∀ q : Nat, s.heap.size ≤ q → A q := fun q h => by rw [← hAe]; exact Or.inr h
  have hS : va_S A s.heap s.heap [] := va_S.rf
  have hP : va_P (dC, dI) vwCl [(h0, .inr (6, [.ref st, .ref im, .ref kp, .ref pw, .ref nx, .ref li, .int d6, .ref il, .ref mv, .ref so, .ref la, .int d11, .int d12, .ref co])), (st, .inl (cyI, 72, .inl fs)), (pw, .inl (cyI, 11, .inl fp)), (li, .inl (cyI, 59049, .inl lf)), (il, .inl (cyZ, 59049, .inl ilf)), (mv, .inl (cyI, 59049, .inl mf)), (so, .inl (cyI, 59049, .inl fso)), (la, .inl (cyI, 59049, .inl fla))] s.heap := hP
  have hl := lv_entry ([.ref h0, .int p1, .int p2, .int p3]) (n := 6) (Nat.le_of_ble_eq_true rfl)
  rw [lg_entry_eq]
  generalize (lg_sl ([.ref h0, .int p1, .int p2, .int p3]) ++ List.replicate (6 - (lg_sl ([.ref h0, .int p1, .int p2, .int p3])).length) Slot.unset).toArray = ls at hl ⊢
  have hl : lv_has ls 6 [(0, .ref h0), (1, .int p1), (2, .int p2), (3, .int p3)] := hl
  refine lv_iload_n hx hb dX8_all_0 rfl (lv_at hl 1 rfl) ?_
  refine lv_iconst (v := 1) hx hb dX8_all_1 (by decide) ?_
  refine lv_iconst (v := 5) hx hb dX8_all_2 (by decide) ?_
  refine vp_callSi (va_Run.run (va_runS (As := [.int p1, .int 1, .int 5]) (rest := []) ⟨hx, hb, hml, hown, hts⟩ (kX8_in l dC dI cyI cyZ p1 1 5 1 5 (by decide) (by decide)) (va_cwS 3 hts gX8_all_X8_in rfl rfl rfl (by decide +kernel) ⟨Nat.le_of_ble_eq_true rfl, Nat.le_of_ble_eq_true rfl⟩) (bs_RS hB (hP.sub (ws' := []) [] rfl)) rfl rfl hl.1 rfl (lv_room (Nat.le_of_ble_eq_true rfl)) dX8_all_3 ⟨Nat.le_of_ble_eq_true rfl, Nat.le_of_ble_eq_true rfl⟩)) (fun r_1 hr_1 => ?_)
  refine lv_if_eq (tgt := 33) hx hb dX8_all_6 (by decide) (fun c_2 => ?_) (fun c_2 => ?_)
  · skip
    have ic_2 := ci_eq (rfl : Int32.toInt r_1 = _) (show Int32.toInt 0 = 0 by decide) c_2
    have hs9 := hr_1.2.2 c_2
    refine lv_bipush (v := (-2)) hx hb dX8_all_33 (by decide) ?_
    exact W.iret (v := (-2)) hx hb hr (fun t ht hW => ⟨⟨(-2), (), rfl, nb_sp1 (by omega), trivial⟩, hS.F ht⟩) hS.2.2 dX8_all_35
  · skip
    have ic_2 := ci_ne (rfl : Int32.toInt r_1 = _) (show Int32.toInt 0 = 0 by decide) c_2
    have hs6 := hr_1.2.1 (hr_1.1.resolve_left c_2)
    refine lv_iload_n hx hb dX8_all_9 rfl (lv_at hl 1 rfl) ?_
    refine lv_aload_n hx hb dX8_all_10 rfl (lv_at hl 0 rfl) ?_
    refine vp_callSi (va_Run.run (va_runV (As := []) (rest := [.int p1]) ⟨hx, hb, hml, hown, hts⟩ (kX8_cells l dC dI cyI cyZ h0 st im kp pw nx li il mv so la co d6 d11 d12 fs h8) (cwV 0 hts gX8_all_X8_cells rfl rfl rfl (by decide +kernel) ⟨Nat.le_of_ble_eq_true rfl, Nat.le_of_ble_eq_true rfl⟩) (bs_RV hB (hP.sub (ws' := [(h0, .inr (6, [.ref st, .ref im, .ref kp, .ref pw, .ref nx, .ref li, .int d6, .ref il, .ref mv, .ref so, .ref la, .int d11, .int d12, .ref co])), (st, .inl (cyI, 72, .inl fs))]) [0, 1] rfl) 0 rfl rfl) rfl rfl hl.1 rfl (lv_room (Nat.le_of_ble_eq_true rfl)) dX8_all_11 ⟨Nat.le_of_ble_eq_true rfl, Nat.le_of_ble_eq_true rfl⟩)) (fun r_3 hr_3 => ?_)
    obtain rfl : r_3 = 8 := hr_3
    refine lv_icmp_gt (tgt := 33) hx hb dX8_all_14 (by decide) (fun c_4 => ?_) (fun c_4 => ?_)
    · skip
      have ic_4 := ci_lt (show Int32.toInt 8 = 8 by decide) (rfl : Int32.toInt p1 = _) c_4
      exfalso; omega
    · skip
      have ic_4 := ci_nlt (show Int32.toInt 8 = 8 by decide) (rfl : Int32.toInt p1 = _) c_4
      refine lv_iload_n hx hb dX8_all_17 rfl (lv_at hl 2 rfl) ?_
      refine vp_callSi (va_Run.run (va_runS (As := [.int p2]) (rest := []) ⟨hx, hb, hml, hown, hts⟩ (kX8_isSchedule l dC dI cyI cyZ p2) (va_cwS 1 hts gX8_all_X8_isSchedule rfl rfl rfl (by decide +kernel) ⟨Nat.le_of_ble_eq_true rfl, Nat.le_of_ble_eq_true rfl⟩) (bs_RS hB (hP.sub (ws' := []) [] rfl)) rfl rfl hl.1 rfl (lv_room (Nat.le_of_ble_eq_true rfl)) dX8_all_18 ⟨Nat.le_of_ble_eq_true rfl, Nat.le_of_ble_eq_true rfl⟩)) (fun r_5 hr_5 => ?_)
      refine lv_if_eq (tgt := 33) hx hb dX8_all_21 (by decide) (fun c_6 => ?_) (fun c_6 => ?_)
      · skip
        have ic_6 := ci_eq (rfl : Int32.toInt r_5 = _) (show Int32.toInt 0 = 0 by decide) c_6
        have hs9 := hr_5.2.2 c_6
        refine lv_bipush (v := (-2)) hx hb dX8_all_33 (by decide) ?_
        exact W.iret (v := (-2)) hx hb hr (fun t ht hW => ⟨⟨(-2), (), rfl, nb_sp1 (by omega), trivial⟩, hS.F ht⟩) hS.2.2 dX8_all_35
      · skip
        have ic_6 := ci_ne (rfl : Int32.toInt r_5 = _) (show Int32.toInt 0 = 0 by decide) c_6
        have hs21 := hr_5.2.1 (hr_5.1.resolve_left c_6)
        refine lv_iload_n hx hb dX8_all_24 rfl (lv_at hl 3 rfl) ?_
        refine lv_iconst (v := 0) hx hb dX8_all_25 (by decide) ?_
        refine lv_iconst (v := 3) hx hb dX8_all_26 (by decide) ?_
        refine vp_callSi (va_Run.run (va_runS (As := [.int p3, .int 0, .int 3]) (rest := []) ⟨hx, hb, hml, hown, hts⟩ (kX8_in l dC dI cyI cyZ p3 0 3 0 3 (by decide) (by decide)) (va_cwS 3 hts gX8_all_X8_in rfl rfl rfl (by decide +kernel) ⟨Nat.le_of_ble_eq_true rfl, Nat.le_of_ble_eq_true rfl⟩) (bs_RS hB (hP.sub (ws' := []) [] rfl)) rfl rfl hl.1 rfl (lv_room (Nat.le_of_ble_eq_true rfl)) dX8_all_27 ⟨Nat.le_of_ble_eq_true rfl, Nat.le_of_ble_eq_true rfl⟩)) (fun r_7 hr_7 => ?_)
        refine lv_if_ne (tgt := 36) hx hb dX8_all_30 (by decide) (fun c_8 => ?_) (fun c_8 => ?_)
        · skip
          have ic_8 := ci_ne (rfl : Int32.toInt r_7 = _) (show Int32.toInt 0 = 0 by decide) c_8
          have hs30 := hr_7.2.1 (hr_7.1.resolve_left c_8)
          refine lv_aload_n hx hb dX8_all_36 rfl (lv_at hl 0 rfl) ?_
          refine lv_iconst (v := 0) hx hb dX8_all_37 (by decide) ?_
          have f_9 := va_free (wc := [(h0, .inr (6, [.ref st, .ref im, .ref kp, .ref pw, .ref nx, .ref li, .int d6, .ref il, .ref mv, .ref so, .ref la, .int d11, .int d12, .ref co])), (il, .inl (cyZ, 59049, .inl ilf))]) hD hS hA [0, 4] rfl
          refine va_callv (va_runV (As := [.int 0]) (rest := []) ⟨hx, hb, hml, hown, hts⟩ (kX8_begin l dC dI cyI cyZ h0 st im kp pw nx li il mv so la co d6 d11 d12 ilf _) (cwV 1 hts gX8_all_X8_begin rfl rfl rfl (by decide +kernel) ⟨Nat.le_of_ble_eq_true rfl, Nat.le_of_ble_eq_true rfl⟩) (bs_WV hB (hP.sub (ws' := [(h0, .inr (6, [.ref st, .ref im, .ref kp, .ref pw, .ref nx, .ref li, .int d6, .ref il, .ref mv, .ref so, .ref la, .int d11, .int d12, .ref co])), (il, .inl (cyZ, 59049, .inl ilf))]) [0, 4] rfl) (hD.sub (ws' := [(h0, .inr (6, [.ref st, .ref im, .ref kp, .ref pw, .ref nx, .ref li, .int d6, .ref il, .ref mv, .ref so, .ref la, .int d11, .int d12, .ref co])), (il, .inl (cyZ, 59049, .inl ilf))]) [0, 4] (by decide) rfl) 0 rfl rfl) rfl rfl hl.1 rfl (lv_room (Nat.le_of_ble_eq_true rfl)) dX8_all_38 ⟨Nat.le_of_ble_eq_true rfl, Nat.le_of_ble_eq_true rfl⟩) hS (fun q _ h => f_9 q h) f_9 (fun uh_10 t H1 locs ht hvm h_10 hB1 hz1 hk1 hS => ?_)
          obtain ⟨hP1, hD1⟩ := hB1
          rw [ht] at hP1
          obtain ⟨hP, hD⟩ := va_join (wr := [(st, .inl (cyI, 72, .inl fs)), (pw, .inl (cyI, 11, .inl fp)), (li, .inl (cyI, 59049, .inl lf)), (mv, .inl (cyI, 59049, .inl mf)), (so, .inl (cyI, 59049, .inl fso)), (la, .inl (cyI, 59049, .inl fla))]) (w1 := [(h0, .inr (6, [.ref st, .ref im, .ref kp, .ref pw, .ref nx, .ref li, .int 0, .ref il, .ref mv, .ref so, .ref la, .int 0, .int 0, .ref co])), (il, .inl (cyZ, 59049, .inl uh_10))]) hP hD [0, 4] [1, 2, 3, 5, 6, 7] rfl rfl (by decide) (by decide) hk1 f_9 hP1 hD1
          generalize H1 = H at hP hS ⊢
          have hP : va_P (dC, dI) vwCl [(st, .inl (cyI, 72, .inl fs)), (pw, .inl (cyI, 11, .inl fp)), (li, .inl (cyI, 59049, .inl lf)), (mv, .inl (cyI, 59049, .inl mf)), (so, .inl (cyI, 59049, .inl fso)), (la, .inl (cyI, 59049, .inl fla)), (h0, .inr (6, [.ref st, .ref im, .ref kp, .ref pw, .ref nx, .ref li, .int 0, .ref il, .ref mv, .ref so, .ref la, .int 0, .int 0, .ref co])), (il, .inl (cyZ, 59049, .inl uh_10))] _ := hP
          have hD : va_D A [(st, .inl (cyI, 72, .inl fs)), (pw, .inl (cyI, 11, .inl fp)), (li, .inl (cyI, 59049, .inl lf)), (mv, .inl (cyI, 59049, .inl mf)), (so, .inl (cyI, 59049, .inl fso)), (la, .inl (cyI, 59049, .inl fla)), (h0, .inr (6, [.ref st, .ref im, .ref kp, .ref pw, .ref nx, .ref li, .int 0, .ref il, .ref mv, .ref so, .ref la, .int 0, .int 0, .ref co])), (il, .inl (cyZ, 59049, .inl uh_10))] := hD
          have hil0 := h_10
          refine lv_iconst (v := 1) hx hb dX8_all_41 (by decide) ?_
          refine lv_istore (lv' := [(4, .int 1), (0, .ref h0), (1, .int p1), (2, .int p2), (3, .int p3)]) hx hb dX8_all_42 hl (by decide) rfl (fun ls hl => ?_)
          have L44 : ∀ (n44 : Nat), ∀ (k : Nat) (L : Nat) (lf ilf mf : Nat → Int32), (1 ≤ k ∧ k ≤ 256) → (257 ≤ k + n44) → (∀ j, mf j = 0) → (nb_inv p1 k L lf ilf) → ∀ (H : Heap) (locs : List Loc), va_P (dC, dI) vwCl [(h0, .inr (6, [.ref st, .ref im, .ref kp, .ref pw, .ref nx, .ref li, .int (nI L), .ref il, .ref mv, .ref so, .ref la, .int 0, .int 0, .ref co])), (st, .inl (cyI, 72, .inl fs)), (pw, .inl (cyI, 11, .inl fp)), (li, .inl (cyI, 59049, .inl lf)), (il, .inl (cyZ, 59049, .inl ilf)), (mv, .inl (cyI, 59049, .inl mf)), (so, .inl (cyI, 59049, .inl fso)), (la, .inl (cyI, 59049, .inl fla))] H → va_D A [(h0, .inr (6, [.ref st, .ref im, .ref kp, .ref pw, .ref nx, .ref li, .int (nI L), .ref il, .ref mv, .ref so, .ref la, .int 0, .int 0, .ref co])), (st, .inl (cyI, 72, .inl fs)), (pw, .inl (cyI, 11, .inl fp)), (li, .inl (cyI, 59049, .inl lf)), (il, .inl (cyZ, 59049, .inl ilf)), (mv, .inl (cyI, 59049, .inl mf)), (so, .inl (cyI, 59049, .inl fso)), (la, .inl (cyI, 59049, .inl fla))] → va_S A s.heap H locs → ∀ (ls : Array Slot), lv_has ls 6 [(0, .ref h0), (1, .int p1), (2, .int p2), (3, .int p3), (4, .int (nI k))] → W p l e (headSpec wsX8_all ({ frames := 8, cells := 0, slots := 0, locals := 193 })).room s m ([.ref h0, .int p1, .int p2, .int p3] : List Value).toArray below meth c H locs 0 0 (MQ below (va_Qi (S := Unit) (fun (r : Int32) (_ : Unit) => r = sp_all p1 p2 p3) (fun _ _ => True) A) ([.ref h0, .int p1, .int p2, .int p3] : List Value).toArray s 0 0 A) (F0 m 44 ls []) := by
            intro n44
            induction n44 with
            | zero =>
              intro k L lf ilf mf hk44 hn44 hmf hiv H locs hP hD hS ls hl
              exfalso
              omega
            | succ n44 ih44 =>
              intro k L lf ilf mf hk44 hn44 hmf hiv H locs hP hD hS ls hl
              refine lv_iload hx hb dX8_all_44 (lv_at hl 4 rfl) ?_
              refine lv_iconst (v := 1) hx hb dX8_all_46 (by decide) ?_
              refine lv_aload_n hx hb dX8_all_47 rfl (lv_at hl 0 rfl) ?_
              refine vp_callSi (va_Run.run (va_runV (As := []) (rest := [.int 1, .int (nI k)]) ⟨hx, hb, hml, hown, hts⟩ (kX8_cells l dC dI cyI cyZ h0 st im kp pw nx li il mv so la co (nI L) 0 0 fs h8) (cwV 0 hts gX8_all_X8_cells rfl rfl rfl (by decide +kernel) ⟨Nat.le_of_ble_eq_true rfl, Nat.le_of_ble_eq_true rfl⟩) (bs_RV hB (hP.sub (ws' := [(h0, .inr (6, [.ref st, .ref im, .ref kp, .ref pw, .ref nx, .ref li, .int (nI L), .ref il, .ref mv, .ref so, .ref la, .int 0, .int 0, .ref co])), (st, .inl (cyI, 72, .inl fs))]) [0, 1] rfl) 0 rfl rfl) rfl rfl hl.1 rfl (lv_room (Nat.le_of_ble_eq_true rfl)) dX8_all_48 ⟨Nat.le_of_ble_eq_true rfl, Nat.le_of_ble_eq_true rfl⟩)) (fun r_11 hr_11 => ?_)
              obtain rfl : r_11 = 8 := hr_11
              refine lv_ishl hx hb dX8_all_51 ?_
              refine lv_topi (fun x_12 ex_12 => ?_)
              obtain rfl : 256 = x_12 := (ex_12.trans (by decide)).symm
              refine lv_icmp_ge (tgt := 80) hx hb dX8_all_52 (by decide) (fun c_13 => ?_) (fun c_13 => ?_)
              · skip
                have ic_13 := ci_le (show Int32.toInt 256 = 256 by decide) (nI_toInt (n := k) (by omega)) c_13
                have hdn : ∀ x, 0 < x → x < 256 → nb_sz (nI x) 10 = p1 → ∃ j, j < L ∧ lf j = nI (nb_cd x) := fun x h1 h2 h3 => hiv.2.2.2 x h1 (by omega) h3
                refine lv_aload_n hx hb dX8_all_80 rfl (lv_at hl 0 rfl) ?_
                refine lv_iload_n hx hb dX8_all_81 rfl (lv_at hl 2 rfl) ?_
                have f_14 := va_free (wc := [(h0, .inr (6, [.ref st, .ref im, .ref kp, .ref pw, .ref nx, .ref li, .int (nI L), .ref il, .ref mv, .ref so, .ref la, .int 0, .int 0, .ref co])), (st, .inl (cyI, 72, .inl fs)), (pw, .inl (cyI, 11, .inl fp)), (li, .inl (cyI, 59049, .inl lf)), (mv, .inl (cyI, 59049, .inl mf)), (so, .inl (cyI, 59049, .inl fso)), (la, .inl (cyI, 59049, .inl fla))]) hD hS hA [0, 1, 2, 3, 5, 6, 7] rfl
                refine va_callv (va_runV (As := [.int p2]) (rest := []) ⟨hx, hb, hml, hown, hts⟩ (kX8_listAll l dC dI cyI cyZ h0 st im kp pw nx li il mv so la co 0 0 fs h8 fp hp mf fso fla hmf p1 L (by have h9 := hiv.1; omega) lf hiv.2.1 p2 _) (cwV 1 hts gX8_all_X8_listAll rfl rfl rfl (by decide +kernel) ⟨Nat.le_of_ble_eq_true rfl, Nat.le_of_ble_eq_true rfl⟩) (bs_WV hB (hP.sub (ws' := [(h0, .inr (6, [.ref st, .ref im, .ref kp, .ref pw, .ref nx, .ref li, .int (nI L), .ref il, .ref mv, .ref so, .ref la, .int 0, .int 0, .ref co])), (st, .inl (cyI, 72, .inl fs)), (pw, .inl (cyI, 11, .inl fp)), (li, .inl (cyI, 59049, .inl lf)), (mv, .inl (cyI, 59049, .inl mf)), (so, .inl (cyI, 59049, .inl fso)), (la, .inl (cyI, 59049, .inl fla))]) [0, 1, 2, 3, 5, 6, 7] rfl) (hD.sub (ws' := [(h0, .inr (6, [.ref st, .ref im, .ref kp, .ref pw, .ref nx, .ref li, .int (nI L), .ref il, .ref mv, .ref so, .ref la, .int 0, .int 0, .ref co])), (st, .inl (cyI, 72, .inl fs)), (pw, .inl (cyI, 11, .inl fp)), (li, .inl (cyI, 59049, .inl lf)), (mv, .inl (cyI, 59049, .inl mf)), (so, .inl (cyI, 59049, .inl fso)), (la, .inl (cyI, 59049, .inl fla))]) [0, 1, 2, 3, 5, 6, 7] (by decide) rfl) 0 rfl rfl) rfl rfl hl.1 rfl (lv_room (Nat.le_of_ble_eq_true rfl)) dX8_all_82 ⟨Nat.le_of_ble_eq_true rfl, Nat.le_of_ble_eq_true rfl⟩) hS (fun q _ h => f_14 q h) f_14 (fun uh_15 t H1 locs ht hvm h_15 hB1 hz1 hk1 hS => ?_)
                obtain ⟨fso2, fla2⟩ := uh_15
                obtain ⟨hso2, hla2⟩ := h_15
                obtain ⟨hP1, hD1⟩ := hB1
                rw [ht] at hP1
                obtain ⟨hP, hD⟩ := va_join (wr := [(il, .inl (cyZ, 59049, .inl ilf))]) (w1 := [(h0, .inr (6, [.ref st, .ref im, .ref kp, .ref pw, .ref nx, .ref li, .int (nI L), .ref il, .ref mv, .ref so, .ref la, .int 0, .int 0, .ref co])), (st, .inl (cyI, 72, .inl fs)), (pw, .inl (cyI, 11, .inl fp)), (li, .inl (cyI, 59049, .inl lf)), (mv, .inl (cyI, 59049, .inl mf)), (so, .inl (cyI, 59049, .inl fso2)), (la, .inl (cyI, 59049, .inl fla2))]) hP hD [0, 1, 2, 3, 5, 6, 7] [4] rfl rfl (by decide) (by decide) hk1 f_14 hP1 hD1
                generalize H1 = H at hP hS ⊢
                have hP : va_P (dC, dI) vwCl [(il, .inl (cyZ, 59049, .inl ilf)), (h0, .inr (6, [.ref st, .ref im, .ref kp, .ref pw, .ref nx, .ref li, .int (nI L), .ref il, .ref mv, .ref so, .ref la, .int 0, .int 0, .ref co])), (st, .inl (cyI, 72, .inl fs)), (pw, .inl (cyI, 11, .inl fp)), (li, .inl (cyI, 59049, .inl lf)), (mv, .inl (cyI, 59049, .inl mf)), (so, .inl (cyI, 59049, .inl fso2)), (la, .inl (cyI, 59049, .inl fla2))] _ := hP
                have hD : va_D A [(il, .inl (cyZ, 59049, .inl ilf)), (h0, .inr (6, [.ref st, .ref im, .ref kp, .ref pw, .ref nx, .ref li, .int (nI L), .ref il, .ref mv, .ref so, .ref la, .int 0, .int 0, .ref co])), (st, .inl (cyI, 72, .inl fs)), (pw, .inl (cyI, 11, .inl fp)), (li, .inl (cyI, 59049, .inl lf)), (mv, .inl (cyI, 59049, .inl mf)), (so, .inl (cyI, 59049, .inl fso2)), (la, .inl (cyI, 59049, .inl fla2))] := hD
                refine lv_iconst (v := 0) hx hb dX8_all_85 (by decide) ?_
                refine lv_istore (lv' := [(4, .int 0), (0, .ref h0), (1, .int p1), (2, .int p2), (3, .int p3)]) hx hb dX8_all_86 hl (by decide) rfl (fun ls hl => ?_)
                refine lv_iconst (v := 1) hx hb dX8_all_88 (by decide) ?_
                refine lv_istore (lv' := [(5, .int 1), (4, .int 0), (0, .ref h0), (1, .int p1), (2, .int p2), (3, .int p3)]) hx hb dX8_all_89 hl (by decide) rfl (fun ls hl => ?_)
                have L91 : ∀ (n91 : Nat), ∀ (kk : Nat) (sv9 : Int32), (1 ≤ kk ∧ kk ≤ 256) → (257 ≤ kk + n91) → (sv9 = if sp_kd p1 = p3 then nI (nb_c p1 kk) else 0) → ∀ (H : Heap) (locs : List Loc), va_P (dC, dI) vwCl [(il, .inl (cyZ, 59049, .inl ilf)), (h0, .inr (6, [.ref st, .ref im, .ref kp, .ref pw, .ref nx, .ref li, .int (nI L), .ref il, .ref mv, .ref so, .ref la, .int 0, .int 0, .ref co])), (st, .inl (cyI, 72, .inl fs)), (pw, .inl (cyI, 11, .inl fp)), (li, .inl (cyI, 59049, .inl lf)), (mv, .inl (cyI, 59049, .inl mf)), (so, .inl (cyI, 59049, .inl fso2)), (la, .inl (cyI, 59049, .inl fla2))] H → va_D A [(il, .inl (cyZ, 59049, .inl ilf)), (h0, .inr (6, [.ref st, .ref im, .ref kp, .ref pw, .ref nx, .ref li, .int (nI L), .ref il, .ref mv, .ref so, .ref la, .int 0, .int 0, .ref co])), (st, .inl (cyI, 72, .inl fs)), (pw, .inl (cyI, 11, .inl fp)), (li, .inl (cyI, 59049, .inl lf)), (mv, .inl (cyI, 59049, .inl mf)), (so, .inl (cyI, 59049, .inl fso2)), (la, .inl (cyI, 59049, .inl fla2))] → va_S A s.heap H locs → ∀ (ls : Array Slot), lv_has ls 6 [(0, .ref h0), (1, .int p1), (3, .int p3), (4, .int sv9), (5, .int (nI kk))] → W p l e (headSpec wsX8_all ({ frames := 8, cells := 0, slots := 0, locals := 193 })).room s m ([.ref h0, .int p1, .int p2, .int p3] : List Value).toArray below meth c H locs 0 0 (MQ below (va_Qi (S := Unit) (fun (r : Int32) (_ : Unit) => r = sp_all p1 p2 p3) (fun _ _ => True) A) ([.ref h0, .int p1, .int p2, .int p3] : List Value).toArray s 0 0 A) (F0 m 91 ls []) := by
                  intro n91
                  induction n91 with
                  | zero =>
                    intro kk sv9 hk91 hn91 hsv H locs hP hD hS ls hl
                    exfalso
                    omega
                  | succ n91 ih91 =>
                    intro kk sv9 hk91 hn91 hsv H locs hP hD hS ls hl
                    refine lv_iload hx hb dX8_all_91 (lv_at hl 4 rfl) ?_
                    refine lv_iconst (v := 1) hx hb dX8_all_93 (by decide) ?_
                    refine lv_aload_n hx hb dX8_all_94 rfl (lv_at hl 0 rfl) ?_
                    refine vp_callSi (va_Run.run (va_runV (As := []) (rest := [.int 1, .int (nI kk)]) ⟨hx, hb, hml, hown, hts⟩ (kX8_cells l dC dI cyI cyZ h0 st im kp pw nx li il mv so la co (nI L) 0 0 fs h8) (cwV 0 hts gX8_all_X8_cells rfl rfl rfl (by decide +kernel) ⟨Nat.le_of_ble_eq_true rfl, Nat.le_of_ble_eq_true rfl⟩) (bs_RV hB (hP.sub (ws' := [(h0, .inr (6, [.ref st, .ref im, .ref kp, .ref pw, .ref nx, .ref li, .int (nI L), .ref il, .ref mv, .ref so, .ref la, .int 0, .int 0, .ref co])), (st, .inl (cyI, 72, .inl fs))]) [1, 2] rfl) 0 rfl rfl) rfl rfl hl.1 rfl (lv_room (Nat.le_of_ble_eq_true rfl)) dX8_all_95 ⟨Nat.le_of_ble_eq_true rfl, Nat.le_of_ble_eq_true rfl⟩)) (fun r_16 hr_16 => ?_)
                    obtain rfl : r_16 = 8 := hr_16
                    refine lv_ishl hx hb dX8_all_98 ?_
                    refine lv_topi (fun x_17 ex_17 => ?_)
                    obtain rfl : 256 = x_17 := (ex_17.trans (by decide)).symm
                    refine lv_icmp_ge (tgt := 141) hx hb dX8_all_99 (by decide) (fun c_18 => ?_) (fun c_18 => ?_)
                    · skip
                      have ic_18 := ci_le (show Int32.toInt 256 = 256 by decide) (nI_toInt (n := kk) (by omega)) c_18
                      refine lv_iload hx hb dX8_all_141 (lv_at hl 3 rfl) ?_
                      exact W.iret (v := sv9) hx hb hr (fun t ht hW => ⟨⟨sv9, (), rfl, nb_sp2 (by omega) (by rw [hsv, show kk = 256 by omega]), trivial⟩, hS.F ht⟩) hS.2.2 dX8_all_143
                    · skip
                      have ic_18 := ci_nle (show Int32.toInt 256 = 256 by decide) (nI_toInt (n := kk) (by omega)) c_18
                      refine lv_iload hx hb dX8_all_102 (lv_at hl 3 rfl) ?_
                      refine lv_iload hx hb dX8_all_104 (lv_at hl 4 rfl) ?_
                      refine vp_callSi (va_Run.run (va_runS (As := [.int (nI kk)]) (rest := [.int sv9]) ⟨hx, hb, hml, hown, hts⟩ (kX8_size l dC dI cyI cyZ (nI kk)) (va_cwS 1 hts gX8_all_X8_size rfl rfl rfl (by decide +kernel) ⟨Nat.le_of_ble_eq_true rfl, Nat.le_of_ble_eq_true rfl⟩) (bs_RS hB (hP.sub (ws' := []) [] rfl)) rfl rfl hl.1 rfl (lv_room (Nat.le_of_ble_eq_true rfl)) dX8_all_106 ⟨Nat.le_of_ble_eq_true rfl, Nat.le_of_ble_eq_true rfl⟩)) (fun r_19 hr_19 => ?_)
                      refine lv_iload_n hx hb dX8_all_109 rfl (lv_at hl 1 rfl) ?_
                      refine lv_icmp_ne (tgt := 131) hx hb dX8_all_110 (by decide) (fun c_20 => ?_) (fun c_20 => ?_)
                      · skip
                        have ic_20 := ci_ne (rfl : Int32.toInt r_19 = _) (rfl : Int32.toInt p1 = _) c_20
                        refine lv_iconst (v := 0) hx hb dX8_all_131 (by decide) ?_
                        refine lv_iadd hx hb dX8_all_132 ?_
                        refine lv_topi (fun x_21 ex_21 => ?_)
                        obtain rfl : sv9 = x_21 := (ex_21.trans (Int32.add_zero _)).symm
                        refine lv_istore (lv' := [(4, .int sv9), (0, .ref h0), (1, .int p1), (3, .int p3), (5, .int (nI kk))]) hx hb dX8_all_133 hl (by decide) rfl (fun ls hl => ?_)
                        refine lv_iinc (v := (nI (kk + 1))) (lv' := [(5, .int (nI (kk + 1))), (4, .int sv9), (0, .ref h0), (1, .int p1), (3, .int p3)]) hx hb dX8_all_135 hl (k := 4) rfl (nI_1 _) (by decide) rfl (fun ls hl => ?_)
                        refine lv_goto (tgt := 91) hx hb dX8_all_138 (by decide) ?_
                        exact ih91 (kk + 1) sv9 ⟨by omega, by omega⟩ (by omega) (by rw [hsv, nb_c_n (fun q => c_20 (hr_19.trans ((nb_sz1 (by omega)).trans q)))]) _ _ (hP.sub [0, 1, 2, 3, 4, 5, 6, 7] rfl) (hD.sub [0, 1, 2, 3, 4, 5, 6, 7] (by decide) rfl) hS _ (lv_sub hl [2, 3, 4, 1, 0] rfl)
                      · skip
                        have ic_20 := ci_eq (rfl : Int32.toInt r_19 = _) (rfl : Int32.toInt p1 = _) c_20
                        refine lv_aload_n hx hb dX8_all_113 rfl (lv_at hl 0 rfl) ?_
                        refine lv_aload_n hx hb dX8_all_114 rfl (lv_at hl 0 rfl) ?_
                        refine lv_iload hx hb dX8_all_115 (lv_at hl 4 rfl) ?_
                        refine vp_callSi (va_Run.run (va_runV (As := [.int (nI kk)]) (rest := [.ref h0, .int sv9]) ⟨hx, hb, hml, hown, hts⟩ (kX8_singles l dC dI cyI cyZ h0 st im kp pw nx li il mv so la co (nI L) 0 0 fs h8 fp hp kk (by omega)) (cwV 1 hts gX8_all_X8_singles rfl rfl rfl (by decide +kernel) ⟨Nat.le_of_ble_eq_true rfl, Nat.le_of_ble_eq_true rfl⟩) (bs_RV hB (hP.sub (ws' := [(h0, .inr (6, [.ref st, .ref im, .ref kp, .ref pw, .ref nx, .ref li, .int (nI L), .ref il, .ref mv, .ref so, .ref la, .int 0, .int 0, .ref co])), (st, .inl (cyI, 72, .inl fs)), (pw, .inl (cyI, 11, .inl fp))]) [1, 2, 3] rfl) 0 rfl rfl) rfl rfl hl.1 rfl (lv_room (Nat.le_of_ble_eq_true rfl)) dX8_all_117 ⟨Nat.le_of_ble_eq_true rfl, Nat.le_of_ble_eq_true rfl⟩)) (fun r_22 hr_22 => ?_)
                        obtain rfl : (nI (nb_cd kk)) = r_22 := Eq.symm hr_22
                        obtain ⟨j9, lj9, ej9⟩ := hdn kk (by omega) (by omega) (hr_19.symm.trans c_20)
                        refine vp_callSi (va_Run.run (va_runV (As := [.int (nI (nb_cd kk))]) (rest := [.int sv9]) ⟨hx, hb, hml, hown, hts⟩ (kX8_kindOf l dC dI cyI cyZ h0 st im kp pw nx li il mv so la co (nI L) 0 0 fs h8 fp hp kk (by omega) p1 (hr_19.symm.trans c_20) fso2 fla2 (hso2 j9 lj9 _ (nb_cd2 (by omega)) ej9) (hla2 j9 lj9 _ (nb_cd2 (by omega)) ej9)) (cwV 1 hts gX8_all_X8_kindOf rfl rfl rfl (by decide +kernel) ⟨Nat.le_of_ble_eq_true rfl, Nat.le_of_ble_eq_true rfl⟩) (bs_RV hB (hP.sub (ws' := [(h0, .inr (6, [.ref st, .ref im, .ref kp, .ref pw, .ref nx, .ref li, .int (nI L), .ref il, .ref mv, .ref so, .ref la, .int 0, .int 0, .ref co])), (st, .inl (cyI, 72, .inl fs)), (pw, .inl (cyI, 11, .inl fp)), (so, .inl (cyI, 59049, .inl fso2)), (la, .inl (cyI, 59049, .inl fla2))]) [1, 2, 3, 6, 7] rfl) 0 rfl rfl) rfl rfl hl.1 rfl (lv_room (Nat.le_of_ble_eq_true rfl)) dX8_all_120 ⟨Nat.le_of_ble_eq_true rfl, Nat.le_of_ble_eq_true rfl⟩)) (fun r_23 hr_23 => ?_)
                        refine lv_iload_n hx hb dX8_all_123 rfl (lv_at hl 2 rfl) ?_
                        refine lv_icmp_ne (tgt := 131) hx hb dX8_all_124 (by decide) (fun c_24 => ?_) (fun c_24 => ?_)
                        · skip
                          have ic_24 := ci_ne (rfl : Int32.toInt r_23 = _) (rfl : Int32.toInt p3 = _) c_24
                          refine lv_iconst (v := 0) hx hb dX8_all_131 (by decide) ?_
                          refine lv_iadd hx hb dX8_all_132 ?_
                          refine lv_topi (fun x_25 ex_25 => ?_)
                          obtain rfl : sv9 = x_25 := (ex_25.trans (Int32.add_zero _)).symm
                          refine lv_istore (lv' := [(4, .int sv9), (0, .ref h0), (1, .int p1), (3, .int p3), (5, .int (nI kk))]) hx hb dX8_all_133 hl (by decide) rfl (fun ls hl => ?_)
                          refine lv_iinc (v := (nI (kk + 1))) (lv' := [(5, .int (nI (kk + 1))), (4, .int sv9), (0, .ref h0), (1, .int p1), (3, .int p3)]) hx hb dX8_all_135 hl (k := 4) rfl (nI_1 _) (by decide) rfl (fun ls hl => ?_)
                          refine lv_goto (tgt := 91) hx hb dX8_all_138 (by decide) ?_
                          exact ih91 (kk + 1) sv9 ⟨by omega, by omega⟩ (by omega) (by rw [hsv, if_neg (fun q => c_24 (hr_23.trans q)), if_neg (fun q => c_24 (hr_23.trans q))]) _ _ (hP.sub [0, 1, 2, 3, 4, 5, 6, 7] rfl) (hD.sub [0, 1, 2, 3, 4, 5, 6, 7] (by decide) rfl) hS _ (lv_sub hl [2, 3, 4, 1, 0] rfl)
                        · skip
                          have ic_24 := ci_eq (rfl : Int32.toInt r_23 = _) (rfl : Int32.toInt p3 = _) c_24
                          refine lv_iconst (v := 1) hx hb dX8_all_127 (by decide) ?_
                          refine lv_goto (tgt := 132) hx hb dX8_all_128 (by decide) ?_
                          refine lv_iadd hx hb dX8_all_132 ?_
                          refine lv_topi (fun x_26 ex_26 => ?_)
                          refine lv_istore (lv' := [(4, .int x_26), (0, .ref h0), (1, .int p1), (3, .int p3), (5, .int (nI kk))]) hx hb dX8_all_133 hl (by decide) rfl (fun ls hl => ?_)
                          refine lv_iinc (v := (nI (kk + 1))) (lv' := [(5, .int (nI (kk + 1))), (4, .int x_26), (0, .ref h0), (1, .int p1), (3, .int p3)]) hx hb dX8_all_135 hl (k := 4) rfl (nI_1 _) (by decide) rfl (fun ls hl => ?_)
                          refine lv_goto (tgt := 91) hx hb dX8_all_138 (by decide) ?_
                          exact ih91 (kk + 1) x_26 ⟨by omega, by omega⟩ (by omega) (by rw [ex_26, hsv, if_pos (hr_23.symm.trans c_24), if_pos (hr_23.symm.trans c_24), nb_c_y (by omega) ((nb_sz1 (by omega)).symm.trans (hr_19.symm.trans c_20))]; exact nI_1 _) _ _ (hP.sub [0, 1, 2, 3, 4, 5, 6, 7] rfl) (hD.sub [0, 1, 2, 3, 4, 5, 6, 7] (by decide) rfl) hS _ (lv_sub hl [2, 3, 4, 1, 0] rfl)
                exact L91 257 1 0 ⟨by omega, by omega⟩ (by omega) (by rw [nb_c_1]; split <;> rfl) _ _ (hP.sub [0, 1, 2, 3, 4, 5, 6, 7] rfl) (hD.sub [0, 1, 2, 3, 4, 5, 6, 7] (by decide) rfl) hS _ (lv_sub hl [2, 3, 5, 1, 0] rfl)
              · skip
                have ic_13 := ci_nle (show Int32.toInt 256 = 256 by decide) (nI_toInt (n := k) (by omega)) c_13
                refine lv_iload hx hb dX8_all_55 (lv_at hl 4 rfl) ?_
                refine vp_callSi (va_Run.run (va_runS (As := [.int (nI k)]) (rest := []) ⟨hx, hb, hml, hown, hts⟩ (kX8_size l dC dI cyI cyZ (nI k)) (va_cwS 1 hts gX8_all_X8_size rfl rfl rfl (by decide +kernel) ⟨Nat.le_of_ble_eq_true rfl, Nat.le_of_ble_eq_true rfl⟩) (bs_RS hB (hP.sub (ws' := []) [] rfl)) rfl rfl hl.1 rfl (lv_room (Nat.le_of_ble_eq_true rfl)) dX8_all_57 ⟨Nat.le_of_ble_eq_true rfl, Nat.le_of_ble_eq_true rfl⟩)) (fun r_27 hr_27 => ?_)
                refine lv_iload_n hx hb dX8_all_60 rfl (lv_at hl 1 rfl) ?_
                refine lv_icmp_ne (tgt := 74) hx hb dX8_all_61 (by decide) (fun c_28 => ?_) (fun c_28 => ?_)
                · skip
                  have ic_28 := ci_ne (rfl : Int32.toInt r_27 = _) (rfl : Int32.toInt p1 = _) c_28
                  refine lv_iinc (v := (nI (k + 1))) (lv' := [(4, .int (nI (k + 1))), (0, .ref h0), (1, .int p1), (2, .int p2), (3, .int p3)]) hx hb dX8_all_74 hl (k := 4) rfl (nI_1 _) (by decide) rfl (fun ls hl => ?_)
                  refine lv_goto (tgt := 44) hx hb dX8_all_77 (by decide) ?_
                  exact ih44 (k + 1) L lf ilf mf ⟨by omega, by omega⟩ (by omega) hmf (nb_inv_skip hiv (fun q => c_28 (hr_27.trans q))) _ _ (hP.sub [0, 1, 2, 3, 4, 5, 6, 7] rfl) (hD.sub [0, 1, 2, 3, 4, 5, 6, 7] (by decide) rfl) hS _ (lv_sub hl [1, 2, 3, 4, 0] rfl)
                · skip
                  have ic_28 := ci_eq (rfl : Int32.toInt r_27 = _) (rfl : Int32.toInt p1 = _) c_28
                  refine lv_aload_n hx hb dX8_all_64 rfl (lv_at hl 0 rfl) ?_
                  refine lv_aload_n hx hb dX8_all_65 rfl (lv_at hl 0 rfl) ?_
                  refine lv_iload hx hb dX8_all_66 (lv_at hl 4 rfl) ?_
                  refine vp_callSi (va_Run.run (va_runV (As := [.int (nI k)]) (rest := [.ref h0]) ⟨hx, hb, hml, hown, hts⟩ (kX8_singles l dC dI cyI cyZ h0 st im kp pw nx li il mv so la co (nI L) 0 0 fs h8 fp hp k (by omega)) (cwV 1 hts gX8_all_X8_singles rfl rfl rfl (by decide +kernel) ⟨Nat.le_of_ble_eq_true rfl, Nat.le_of_ble_eq_true rfl⟩) (bs_RV hB (hP.sub (ws' := [(h0, .inr (6, [.ref st, .ref im, .ref kp, .ref pw, .ref nx, .ref li, .int (nI L), .ref il, .ref mv, .ref so, .ref la, .int 0, .int 0, .ref co])), (st, .inl (cyI, 72, .inl fs)), (pw, .inl (cyI, 11, .inl fp))]) [0, 1, 2] rfl) 0 rfl rfl) rfl rfl hl.1 rfl (lv_room (Nat.le_of_ble_eq_true rfl)) dX8_all_68 ⟨Nat.le_of_ble_eq_true rfl, Nat.le_of_ble_eq_true rfl⟩)) (fun r_29 hr_29 => ?_)
                  obtain rfl : (nI (nb_cd k)) = r_29 := Eq.symm hr_29
                  have f_30 := va_free (wc := [(h0, .inr (6, [.ref st, .ref im, .ref kp, .ref pw, .ref nx, .ref li, .int (nI L), .ref il, .ref mv, .ref so, .ref la, .int 0, .int 0, .ref co])), (st, .inl (cyI, 72, .inl fs)), (pw, .inl (cyI, 11, .inl fp)), (li, .inl (cyI, 59049, .inl lf)), (il, .inl (cyZ, 59049, .inl ilf)), (mv, .inl (cyI, 59049, .inl mf))]) hD hS hA [0, 1, 2, 3, 4, 5] rfl
                  refine va_callv (va_runV (As := [.int (nI (nb_cd k))]) (rest := []) ⟨hx, hb, hml, hown, hts⟩ (kX8_note l dC dI cyI cyZ h0 st im kp pw nx li il mv so la co fs h8 hs fp hp k (by omega) (by omega) L (by have h9 := hiv.1; omega) lf ilf mf hmf _) (cwV 1 hts gX8_all_X8_note rfl rfl rfl (by decide +kernel) ⟨Nat.le_of_ble_eq_true rfl, Nat.le_of_ble_eq_true rfl⟩) (bs_WV hB (hP.sub (ws' := [(h0, .inr (6, [.ref st, .ref im, .ref kp, .ref pw, .ref nx, .ref li, .int (nI L), .ref il, .ref mv, .ref so, .ref la, .int 0, .int 0, .ref co])), (st, .inl (cyI, 72, .inl fs)), (pw, .inl (cyI, 11, .inl fp)), (li, .inl (cyI, 59049, .inl lf)), (il, .inl (cyZ, 59049, .inl ilf)), (mv, .inl (cyI, 59049, .inl mf))]) [0, 1, 2, 3, 4, 5] rfl) (hD.sub (ws' := [(h0, .inr (6, [.ref st, .ref im, .ref kp, .ref pw, .ref nx, .ref li, .int (nI L), .ref il, .ref mv, .ref so, .ref la, .int 0, .int 0, .ref co])), (st, .inl (cyI, 72, .inl fs)), (pw, .inl (cyI, 11, .inl fp)), (li, .inl (cyI, 59049, .inl lf)), (il, .inl (cyZ, 59049, .inl ilf)), (mv, .inl (cyI, 59049, .inl mf))]) [0, 1, 2, 3, 4, 5] (by decide) rfl) 0 rfl rfl) rfl rfl hl.1 rfl (lv_room (Nat.le_of_ble_eq_true rfl)) dX8_all_71 ⟨Nat.le_of_ble_eq_true rfl, Nat.le_of_ble_eq_true rfl⟩) hS (fun q _ h => f_30 q h) f_30 (fun uh_31 t H1 locs ht hvm h_31 hB1 hz1 hk1 hS => ?_)
                  obtain ⟨L2, lf2, ilf2, mf2⟩ := uh_31
                  obtain ⟨hmf2, hnt2⟩ := h_31
                  obtain ⟨hP1, hD1⟩ := hB1
                  rw [ht] at hP1
                  obtain ⟨hP, hD⟩ := va_join (wr := [(so, .inl (cyI, 59049, .inl fso)), (la, .inl (cyI, 59049, .inl fla))]) (w1 := [(h0, .inr (6, [.ref st, .ref im, .ref kp, .ref pw, .ref nx, .ref li, .int (nI L2), .ref il, .ref mv, .ref so, .ref la, .int 0, .int 0, .ref co])), (st, .inl (cyI, 72, .inl fs)), (pw, .inl (cyI, 11, .inl fp)), (li, .inl (cyI, 59049, .inl lf2)), (il, .inl (cyZ, 59049, .inl ilf2)), (mv, .inl (cyI, 59049, .inl mf2))]) hP hD [0, 1, 2, 3, 4, 5] [6, 7] rfl rfl (by decide) (by decide) hk1 f_30 hP1 hD1
                  generalize H1 = H at hP hS ⊢
                  have hP : va_P (dC, dI) vwCl [(so, .inl (cyI, 59049, .inl fso)), (la, .inl (cyI, 59049, .inl fla)), (h0, .inr (6, [.ref st, .ref im, .ref kp, .ref pw, .ref nx, .ref li, .int (nI L2), .ref il, .ref mv, .ref so, .ref la, .int 0, .int 0, .ref co])), (st, .inl (cyI, 72, .inl fs)), (pw, .inl (cyI, 11, .inl fp)), (li, .inl (cyI, 59049, .inl lf2)), (il, .inl (cyZ, 59049, .inl ilf2)), (mv, .inl (cyI, 59049, .inl mf2))] _ := hP
                  have hD : va_D A [(so, .inl (cyI, 59049, .inl fso)), (la, .inl (cyI, 59049, .inl fla)), (h0, .inr (6, [.ref st, .ref im, .ref kp, .ref pw, .ref nx, .ref li, .int (nI L2), .ref il, .ref mv, .ref so, .ref la, .int 0, .int 0, .ref co])), (st, .inl (cyI, 72, .inl fs)), (pw, .inl (cyI, 11, .inl fp)), (li, .inl (cyI, 59049, .inl lf2)), (il, .inl (cyZ, 59049, .inl ilf2)), (mv, .inl (cyI, 59049, .inl mf2))] := hD
                  refine lv_iinc (v := (nI (k + 1))) (lv' := [(4, .int (nI (k + 1))), (0, .ref h0), (1, .int p1), (2, .int p2), (3, .int p3)]) hx hb dX8_all_74 hl (k := 4) rfl (nI_1 _) (by decide) rfl (fun ls hl => ?_)
                  refine lv_goto (tgt := 44) hx hb dX8_all_77 (by decide) ?_
                  exact ih44 (k + 1) L2 lf2 ilf2 mf2 ⟨by omega, by omega⟩ (by omega) hmf2 (nb_inv_note hiv (by omega) (by omega) (hr_27.symm.trans c_28) hnt2) _ _ (hP.sub [2, 3, 4, 5, 6, 7, 0, 1] rfl) (hD.sub [2, 3, 4, 5, 6, 7, 0, 1] (by decide) rfl) hS _ (lv_sub hl [1, 2, 3, 4, 0] rfl)
          exact L44 257 1 0 lf uh_10 mf ⟨by omega, by omega⟩ (by omega) hmf (nb_inv_0 hil0) _ _ (hP.sub [6, 0, 1, 2, 7, 3, 4, 5] rfl) (hD.sub [6, 0, 1, 2, 7, 3, 4, 5] (by decide) rfl) hS _ (lv_sub hl [1, 2, 3, 4, 0] rfl)
        · skip
          have ic_8 := ci_eq (rfl : Int32.toInt r_7 = _) (show Int32.toInt 0 = 0 by decide) c_8
          have hs9 := hr_7.2.2 c_8
          refine lv_bipush (v := (-2)) hx hb dX8_all_33 (by decide) ?_
          exact W.iret (v := (-2)) hx hb hr (fun t ht hW => ⟨⟨(-2), (), rfl, nb_sp1 (by omega), trivial⟩, hS.F ht⟩) hS.2.2 dX8_all_35
