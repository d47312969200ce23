theorem hnX1_sideOfMove_X1 : ∀ w ∈ wsX10, w ∈ wsX1_sideOfMove := fun _ h => List.mem_cons_of_mem _ (List.mem_append_right _ h)
set_option maxHeartbeats 4000000 in
set_option maxRecDepth 100000 in
theorem mX1_sideOfMove (l : Launch) (dC : Nat → ClassId) (dI : Nat → Nat → Nat) (cyI cyZ : ClassId) (lk : Nat) (i0 : Int32) (i1 : Int32) (i2 : Int32) (i3 : Int32) (i4 : Int32)  : Met l yX1_sideOfMove wsX1_sideOfMove ({ frames := 0, cells := 0, slots := 0, locals := 0 }) (bs_R dC dI cyI cyZ [.ref lk] [(lk, .inr (0, [.int i0, .int i1, .int i2, .int i3, .int i4]))]) (vp_Si (fun r : Int32 => True)) 0 0 (fun _ => False) := by
  refine Met.ofW (cc := cX1_sideOfMove) (maxL := 1) (ret := (some .int)) (by decide) rfl ?_
  intro p e s m args below meth c s₁ B hml hv
  obtain ⟨rfl, hB, hP⟩ := hv
  have hK := hB.1
  have hN := hB.2
  have hx := B.exec
  have hb := B.bytes
  have hr := B.returns
  have hts := atoms_spec (ws := wsX1_sideOfMove) B.pre
  have hown : s.vm.findClass RX1 = some m.cls := findClass_of_methodNamed B.named
  have hlocks := B.notSynchronized
  have hP : va_P (dC, dI) vwCl [(lk, .inr (0, [.int i0, .int i1, .int i2, .int i3, .int i4]))] s.heap := hP
  have hl := lv_entry ([.ref lk]) (n := 1) (Nat.le_of_ble_eq_true rfl)
  rw [lg_entry_eq]
  generalize (lg_sl ([.ref lk]) ++ List.replicate (1 - (lg_sl ([.ref lk])).length) Slot.unset).toArray = ls at hl ⊢
  have hl : lv_has ls 1 [(0, .ref lk)] := hl
  refine lv_aload_n hx hb dX1_sideOfMove_0 rfl (lv_at hl 0 rfl) ?_
  refine va_get (D := (dC, dI)) (ci := 0) (v := .int i2) (C := RX1) (T := TX1) (N := 5) hx hb hts hnX1_sideOfMove_X1 hown hK hP 0 rfl rfl 2 (by decide) (hts (.fieldLink RX1 58 "RingMeets$Look" "done" "I") (by decide +kernel)) (fun _ h9 => h9) rfl dX1_sideOfMove_1 ?_
  refine lv_iconst (v := 1) hx hb dX1_sideOfMove_4 (by decide) ?_
  refine lv_icmp_ne (tgt := 13) hx hb dX1_sideOfMove_5 (by decide) (fun c_1 => ?_) (fun c_1 => ?_)
  · skip
    have ic_1 := ci_ne (rfl : Int32.toInt i2 = _) (show Int32.toInt 1 = 1 by decide) c_1
    refine lv_aload_n hx hb dX1_sideOfMove_13 rfl (lv_at hl 0 rfl) ?_
    refine va_get (D := (dC, dI)) (ci := 0) (v := .int i0) (C := RX1) (T := TX1) (N := 5) hx hb hts hnX1_sideOfMove_X1 hown hK hP 0 rfl rfl 0 (by decide) (hts (.fieldLink RX1 21 "RingMeets$Look" "side" "I") (by decide +kernel)) (fun _ h9 => h9) rfl dX1_sideOfMove_14 ?_
    refine lv_if_ne (tgt := 24) hx hb dX1_sideOfMove_17 (by decide) (fun c_2 => ?_) (fun c_2 => ?_)
    · skip
      have ic_2 := ci_ne (rfl : Int32.toInt i0 = _) (show Int32.toInt 0 = 0 by decide) c_2
      refine lv_iconst (v := 0) hx hb dX1_sideOfMove_24 (by decide) ?_
      exact W.iret (v := 0) hx hb hr (fun t ht hW => ⟨0, rfl, trivial, ht⟩) (fun q h => by cases h) dX1_sideOfMove_25
    · skip
      have ic_2 := ci_eq (rfl : Int32.toInt i0 = _) (show Int32.toInt 0 = 0 by decide) c_2
      refine lv_iconst (v := 1) hx hb dX1_sideOfMove_20 (by decide) ?_
      refine lv_goto (tgt := 25) hx hb dX1_sideOfMove_21 (by decide) ?_
      exact W.iret (v := 1) hx hb hr (fun t ht hW => ⟨1, rfl, trivial, ht⟩) (fun q h => by cases h) dX1_sideOfMove_25
  · skip
    have ic_1 := ci_eq (rfl : Int32.toInt i2 = _) (show Int32.toInt 1 = 1 by decide) c_1
    refine lv_aload_n hx hb dX1_sideOfMove_8 rfl (lv_at hl 0 rfl) ?_
    refine va_get (D := (dC, dI)) (ci := 0) (v := .int i0) (C := RX1) (T := TX1) (N := 5) hx hb hts hnX1_sideOfMove_X1 hown hK hP 0 rfl rfl 0 (by decide) (hts (.fieldLink RX1 21 "RingMeets$Look" "side" "I") (by decide +kernel)) (fun _ h9 => h9) rfl dX1_sideOfMove_9 ?_
    exact W.iret (v := i0) hx hb hr (fun t ht hW => ⟨i0, rfl, trivial, ht⟩) (fun q h => by cases h) dX1_sideOfMove_12

theorem hnX1_goalFrom_X1 : ∀ w ∈ wsX10, w ∈ wsX1_goalFrom := fun _ h => List.mem_cons_of_mem _ (List.mem_append_right _ h)
set_option maxHeartbeats 4000000 in
set_option maxRecDepth 100000 in
theorem mX1_goalFrom (l : Launch) (dC : Nat → ClassId) (dI : Nat → Nat → Nat) (cyI cyZ : ClassId) (lk : Nat) (i0 : Int32) (i1 : Int32) (i2 : Int32) (i3 : Int32) (i4 : Int32) (p1 : Int32) (p2 : Int32)  : Met l yX1_goalFrom wsX1_goalFrom ({ frames := 1, cells := 0, slots := 0, locals := 22 }) (bs_R dC dI cyI cyZ [.ref lk, .int p1, .int p2] [(lk, .inr (0, [.int i0, .int i1, .int i2, .int i3, .int i4]))]) (vp_Si (fun r : Int32 => True)) 0 0 (fun _ => False) := by
  refine Met.ofW (cc := cX1_goalFrom) (maxL := 3) (ret := (some .int)) (by decide) rfl ?_
  intro p e s m args below meth c s₁ B hml hv
  obtain ⟨rfl, hB, hP⟩ := hv
  have hK := hB.1
  have hN := hB.2
  have hx := B.exec
  have hb := B.bytes
  have hr := B.returns
  have hts := atoms_spec (ws := wsX1_goalFrom) B.pre
  have hown : s.vm.findClass RX1 = some m.cls := findClass_of_methodNamed B.named
  have hlocks := B.notSynchronized
  have hP : va_P (dC, dI) vwCl [(lk, .inr (0, [.int i0, .int i1, .int i2, .int i3, .int i4]))] s.heap := hP
  have hl := lv_entry ([.ref lk, .int p1, .int p2]) (n := 3) (Nat.le_of_ble_eq_true rfl)
  rw [lg_entry_eq]
  generalize (lg_sl ([.ref lk, .int p1, .int p2]) ++ List.replicate (3 - (lg_sl ([.ref lk, .int p1, .int p2])).length) Slot.unset).toArray = ls at hl ⊢
  have hl : lv_has ls 3 [(0, .ref lk), (1, .int p1), (2, .int p2)] := hl
  refine lv_aload_n hx hb dX1_goalFrom_0 rfl (lv_at hl 0 rfl) ?_
  refine va_get (D := (dC, dI)) (ci := 0) (v := .int i2) (C := RX1) (T := TX1) (N := 5) hx hb hts hnX1_goalFrom_X1 hown hK hP 0 rfl rfl 2 (by decide) (hts (.fieldLink RX1 58 "RingMeets$Look" "done" "I") (by decide +kernel)) (fun _ h9 => h9) rfl dX1_goalFrom_1 ?_
  refine lv_if_ne (tgt := 9) hx hb dX1_goalFrom_4 (by decide) (fun c_1 => ?_) (fun c_1 => ?_)
  · skip
    have ic_1 := ci_ne (rfl : Int32.toInt i2 = _) (show Int32.toInt 0 = 0 by decide) c_1
    refine lv_iload_n hx hb dX1_goalFrom_9 rfl (lv_at hl 1 rfl) ?_
    refine lv_iload_n hx hb dX1_goalFrom_10 rfl (lv_at hl 2 rfl) ?_
    refine lv_aload_n hx hb dX1_goalFrom_11 rfl (lv_at hl 0 rfl) ?_
    refine vp_callSi (va_Run.run (va_runV (As := []) (rest := [.int p2, .int p1]) ⟨hx, hb, hml, hown, hts⟩ (mX1_sideOfMove l dC dI cyI cyZ lk i0 i1 i2 i3 i4 ) (cwV 0 hts gX1_goalFrom_X1_sideOfMove rfl rfl rfl (by decide +kernel) ⟨Nat.le_of_ble_eq_true rfl, Nat.le_of_ble_eq_true rfl⟩) (bs_RV hB (hP.sub (ws' := [(lk, .inr (0, [.int i0, .int i1, .int i2, .int i3, .int i4]))]) [0] rfl) 0 rfl rfl) rfl rfl hl.1 rfl (lv_room (Nat.le_of_ble_eq_true rfl)) dX1_goalFrom_12 ⟨Nat.le_of_ble_eq_true rfl, Nat.le_of_ble_eq_true rfl⟩)) (fun r_2 hr_2 => ?_)
    refine vp_callSi (va_Run.run (va_runS (As := [.int p1, .int p2, .int r_2]) (rest := []) ⟨hx, hb, hml, hown, hts⟩ (mX5_cellNextTo l dC dI cyI cyZ p1 p2 r_2 ) (va_cwS 3 hts gX1_goalFrom_X5_cellNextTo rfl rfl rfl (by decide +kernel) ⟨Nat.le_of_ble_eq_true rfl, Nat.le_of_ble_eq_true rfl⟩) (bs_RS hB (hP.sub (ws' := []) [] rfl)) rfl rfl hl.1 rfl (lv_room (Nat.le_of_ble_eq_true rfl)) dX1_goalFrom_15 ⟨Nat.le_of_ble_eq_true rfl, Nat.le_of_ble_eq_true rfl⟩)) (fun r_3 hr_3 => ?_)
    exact W.iret (v := r_3) hx hb hr (fun t ht hW => ⟨r_3, rfl, trivial, ht⟩) (fun q h => by cases h) dX1_goalFrom_18
  · skip
    have ic_1 := ci_eq (rfl : Int32.toInt i2 = _) (show Int32.toInt 0 = 0 by decide) c_1
    refine lv_iload_n hx hb dX1_goalFrom_7 rfl (lv_at hl 2 rfl) ?_
    exact W.iret (v := p2) hx hb hr (fun t ht hW => ⟨p2, rfl, trivial, ht⟩) (fun q h => by cases h) dX1_goalFrom_8

theorem hnX1_from_X1 : ∀ w ∈ wsX10, w ∈ wsX1_from := fun _ h => List.mem_cons_of_mem _ (List.mem_append_left _ (List.mem_append_right _ h))
set_option maxHeartbeats 4000000 in
set_option maxRecDepth 100000 in
theorem mX1_from (l : Launch) (dC : Nat → ClassId) (dI : Nat → Nat → Nat) (cyI cyZ : ClassId) (lk : Nat) (i0 : Int32) (i1 : Int32) (i2 : Int32) (i3 : Int32) (i4 : Int32) (ru : Nat) (rt : Nat) (zz : Nat) (n : Nat) (tg : Nat → Int32) (p3 : Int32) (p4 : Int32) (p5 : Int32) (hn : n ≤ 10) (hzz : zz ≤ 10) (sz : Nat) : Met l yX1_from wsX1_from ({ frames := 3, cells := 0, slots := 0, locals := 73 }) (bs_W dC dI cyI cyZ [.ref lk, .ref ru, .int (nI n), .int p3, .int p4, .int p5] [(lk, .inr (0, [.int i0, .int i1, .int i2, .int i3, .int i4])), (ru, .inr (2, [.ref rt, .int (nI zz)])), (rt, .inl (cyI, 60, .inl tg))] sz) (va_Qv (S := Int32 × Int32 × Int32 × Int32 × Int32) (fun q : Int32 × Int32 × Int32 × Int32 × Int32 => True) (fun q t => bs_E dC dI (va_A [(lk, .inr (0, [.int i0, .int i1, .int i2, .int i3, .int i4])), (ru, .inr (2, [.ref rt, .int (nI zz)])), (rt, .inl (cyI, 60, .inl tg))] sz) [(lk, .inr (0, [.int q.1, .int q.2.1, .int q.2.2.1, .int q.2.2.2.1, .int q.2.2.2.2])), (ru, .inr (2, [.ref rt, .int (nI zz)])), (rt, .inl (cyI, 60, .inl tg))] t) (va_A [(lk, .inr (0, [.int i0, .int i1, .int i2, .int i3, .int i4])), (ru, .inr (2, [.ref rt, .int (nI zz)])), (rt, .inl (cyI, 60, .inl tg))] sz)) 0 0 (va_A [(lk, .inr (0, [.int i0, .int i1, .int i2, .int i3, .int i4])), (ru, .inr (2, [.ref rt, .int (nI zz)])), (rt, .inl (cyI, 60, .inl tg))] sz) := by
  refine Met.ofW (cc := cX1_from) (maxL := 9) (ret := none) (by decide) rfl ?_
  intro p e s m args below meth c s₁ B hml hv
  obtain ⟨rfl, hsz, hB, hP, hD0⟩ := hv
  have hK := hB.1
  have hN := hB.2
  have hx := B.exec
  have hb := B.bytes
  have hr := B.returns
  have hts := atoms_spec (ws := wsX1_from) B.pre
  have hown : s.vm.findClass RX1 = some m.cls := findClass_of_methodNamed B.named
  have hlocks := B.notSynchronized
  subst hsz
  have hD := hD0.self (sz := s.heap.size)
  generalize hAe : va_A [(lk, .inr (0, [.int i0, .int i1, .int i2, .int i3, .int i4])), (ru, .inr (2, [.ref rt, .int (nI zz)])), (rt, .inl (cyI, 60, .inl tg))] s.heap.size = A at hD ⊢
  have hA : ∀ q : Nat, s.heap.size ≤ q → A q := fun q h => by rw [← hAe]; exact Or.inr h
  have hS : va_S A s.heap s.heap [] := va_S.rf
  have hP : va_P (dC, dI) vwCl [(lk, .inr (0, [.int i0, .int i1, .int i2, .int i3, .int i4])), (ru, .inr (2, [.ref rt, .int (nI zz)])), (rt, .inl (cyI, 60, .inl tg))] s.heap := hP
  have hl := lv_entry ([.ref lk, .ref ru, .int (nI n), .int p3, .int p4, .int p5]) (n := 9) (Nat.le_of_ble_eq_true rfl)
  rw [lg_entry_eq]
  generalize (lg_sl ([.ref lk, .ref ru, .int (nI n), .int p3, .int p4, .int p5]) ++ List.replicate (9 - (lg_sl ([.ref lk, .ref ru, .int (nI n), .int p3, .int p4, .int p5])).length) Slot.unset).toArray = ls at hl ⊢
  have hl : lv_has ls 9 [(0, .ref lk), (1, .ref ru), (2, .int (nI n)), (3, .int p3), (4, .int p4), (5, .int p5)] := hl
  refine lv_iload_n hx hb dX1_from_0 rfl (lv_at hl 2 rfl) ?_
  refine lv_iload_n hx hb dX1_from_1 rfl (lv_at hl 3 rfl) ?_
  refine lv_iload hx hb dX1_from_2 (lv_at hl 5 rfl) ?_
  refine lv_iconst (v := 0) hx hb dX1_from_4 (by decide) ?_
  refine vp_callSi (va_Run.run (va_runS (As := [.int (nI n), .int p3, .int p5, .int 0]) (rest := []) ⟨hx, hb, hml, hown, hts⟩ (mX0_row l dC dI cyI cyZ n p3 p5 0 (by omega)) (va_cwS 4 hts gX1_from_X0_row rfl rfl rfl (by decide +kernel) ⟨Nat.le_of_ble_eq_true rfl, Nat.le_of_ble_eq_true rfl⟩) (bs_RS hB (hP.sub (ws' := []) [] rfl)) rfl rfl hl.1 rfl (lv_room (Nat.le_of_ble_eq_true rfl)) dX1_from_5 ⟨Nat.le_of_ble_eq_true rfl, Nat.le_of_ble_eq_true rfl⟩)) (fun r_1 hr_1 => ?_)
  refine lv_istore (lv' := [(6, .int r_1), (0, .ref lk), (1, .ref ru), (2, .int (nI n)), (3, .int p3), (4, .int p4), (5, .int p5)]) hx hb dX1_from_8 hl (by decide) rfl (fun ls hl => ?_)
  refine lv_iload_n hx hb dX1_from_10 rfl (lv_at hl 3 rfl) ?_
  refine lv_iload_n hx hb dX1_from_11 rfl (lv_at hl 4 rfl) ?_
  refine lv_iload hx hb dX1_from_12 (lv_at hl 6 rfl) ?_
  refine lv_iconst (v := 1) hx hb dX1_from_14 (by decide) ?_
  refine vp_callSi (va_Run.run (va_runS (As := [.int (nI n), .int p3, .int p5, .int 1]) (rest := []) ⟨hx, hb, hml, hown, hts⟩ (mX0_row l dC dI cyI cyZ n p3 p5 1 (by omega)) (va_cwS 4 hts gX1_from_X0_row rfl rfl rfl (by decide +kernel) ⟨Nat.le_of_ble_eq_true rfl, Nat.le_of_ble_eq_true rfl⟩) (bs_RS hB (hP.sub (ws' := []) [] rfl)) rfl rfl hl.1 rfl (lv_room (Nat.le_of_ble_eq_true rfl)) dX1_from_15 ⟨Nat.le_of_ble_eq_true rfl, Nat.le_of_ble_eq_true rfl⟩)) (fun r_2 hr_2 => ?_)
  refine lv_istore (lv' := [(7, .int r_2), (6, .int r_1), (0, .ref lk), (1, .ref ru), (2, .int (nI n)), (3, .int p3), (4, .int p4), (5, .int p5)]) hx hb dX1_from_18 hl (by decide) rfl (fun ls hl => ?_)
  refine lv_aload_n hx hb dX1_from_20 rfl (lv_at hl 2 rfl) ?_
  refine lv_iload hx hb dX1_from_21 (lv_at hl 1 rfl) ?_
  refine lv_iload hx hb dX1_from_23 (lv_at hl 0 rfl) ?_
  refine lv_icmp_ne (tgt := 32) hx hb dX1_from_25 (by decide) (fun c_3 => ?_) (fun c_3 => ?_)
  · skip
    have ic_3 := ci_ne (rfl : Int32.toInt r_1 = _) (rfl : Int32.toInt r_2 = _) c_3
    refine lv_iconst (v := 0) hx hb dX1_from_32 (by decide) ?_
    refine va_put (D := (dC, dI)) (ci := 0) (v := .int 0) (ty := .boolean) (C := RX1) (T := TX1) (N := 5) hx hb hts hnX1_from_X1 tyX1 tyX1_ok nmX1 hown hK hP hD hS 0 rfl rfl 4 (by decide) (hts (.fieldLink RX1 15 "RingMeets$Look" "even" "Z") (by decide +kernel)) (fun _ h9 => h9) rfl (by decide +kernel) rfl rfl (Nat.le_of_ble_eq_true rfl) dX1_from_33 (fun H locs hP hD hS => ?_)
    have hP : va_P (dC, dI) vwCl [(lk, .inr (0, [.int i0, .int i1, .int i2, .int i3, .int 0])), (ru, .inr (2, [.ref rt, .int (nI zz)])), (rt, .inl (cyI, 60, .inl tg))] _ := hP
    have hD : va_D A [(lk, .inr (0, [.int i0, .int i1, .int i2, .int i3, .int 0])), (ru, .inr (2, [.ref rt, .int (nI zz)])), (rt, .inl (cyI, 60, .inl tg))] := hD
    refine lv_aload_n hx hb dX1_from_36 rfl (lv_at hl 2 rfl) ?_
    refine lv_iload hx hb dX1_from_37 (lv_at hl 1 rfl) ?_
    refine lv_iload hx hb dX1_from_39 (lv_at hl 0 rfl) ?_
    refine lv_icmp_gt (tgt := 48) hx hb dX1_from_41 (by decide) (fun c_4 => ?_) (fun c_4 => ?_)
    · skip
      have ic_4 := ci_lt (rfl : Int32.toInt r_2 = _) (rfl : Int32.toInt r_1 = _) c_4
      refine lv_iconst (v := 1) hx hb dX1_from_48 (by decide) ?_
      refine va_put (D := (dC, dI)) (ci := 0) (v := .int 1) (ty := .int) (C := RX1) (T := TX1) (N := 5) hx hb hts hnX1_from_X1 tyX1 tyX1_ok nmX1 hown hK hP hD hS 0 rfl rfl 0 (by decide) (hts (.fieldLink RX1 21 "RingMeets$Look" "side" "I") (by decide +kernel)) (fun _ h9 => h9) rfl (by decide +kernel) rfl rfl (Nat.le_of_ble_eq_true rfl) dX1_from_49 (fun H locs hP hD hS => ?_)
      have hP : va_P (dC, dI) vwCl [(lk, .inr (0, [.int 1, .int i1, .int i2, .int i3, .int 0])), (ru, .inr (2, [.ref rt, .int (nI zz)])), (rt, .inl (cyI, 60, .inl tg))] _ := hP
      have hD : va_D A [(lk, .inr (0, [.int 1, .int i1, .int i2, .int i3, .int 0])), (ru, .inr (2, [.ref rt, .int (nI zz)])), (rt, .inl (cyI, 60, .inl tg))] := hD
      refine lv_iload hx hb dX1_from_52 (lv_at hl 6 rfl) ?_
      refine lv_iload hx hb dX1_from_54 (lv_at hl 7 rfl) ?_
      refine vp_callSi (va_Run.run (va_runS (As := [.int p4, .int p5]) (rest := []) ⟨hx, hb, hml, hown, hts⟩ (mX5_has l dC dI cyI cyZ p4 p5 ) (va_cwS 2 hts gX1_from_X5_has rfl rfl rfl (by decide +kernel) ⟨Nat.le_of_ble_eq_true rfl, Nat.le_of_ble_eq_true rfl⟩) (bs_RS hB (hP.sub (ws' := []) [] rfl)) rfl rfl hl.1 rfl (lv_room (Nat.le_of_ble_eq_true rfl)) dX1_from_56 ⟨Nat.le_of_ble_eq_true rfl, Nat.le_of_ble_eq_true rfl⟩)) (fun r_5 hr_5 => ?_)
      refine lv_if_eq (tgt := 66) hx hb dX1_from_59 (by decide) (fun c_6 => ?_) (fun c_6 => ?_)
      · skip
        have ic_6 := ci_eq (rfl : Int32.toInt r_5 = _) (show Int32.toInt 0 = 0 by decide) c_6
        refine lv_iconst (v := 0) hx hb dX1_from_66 (by decide) ?_
        refine lv_istore (lv' := [(8, .int 0), (7, .int r_2), (6, .int r_1), (0, .ref lk), (1, .ref ru), (2, .int (nI n)), (3, .int p3), (4, .int p4), (5, .int p5)]) hx hb dX1_from_67 hl (by decide) rfl (fun ls hl => ?_)
        refine lv_aload_n hx hb dX1_from_69 rfl (lv_at hl 3 rfl) ?_
        refine lv_aload_n hx hb dX1_from_70 rfl (lv_at hl 4 rfl) ?_
        refine lv_iload_n hx hb dX1_from_71 rfl (lv_at hl 6 rfl) ?_
        refine vp_callSi (va_Run.run (va_runS (As := [.int p3]) (rest := [.ref ru, .ref lk]) ⟨hx, hb, hml, hown, hts⟩ (mJ6_bitCount_0f7a4 l dC dI cyI cyZ p3 ) (va_cwS 1 hts gX1_from_J6_bitCount_0f7a4 rfl rfl rfl (by decide +kernel) ⟨Nat.le_of_ble_eq_true rfl, Nat.le_of_ble_eq_true rfl⟩) (bs_RS hB (hP.sub (ws' := []) [] rfl)) rfl rfl hl.1 rfl (lv_room (Nat.le_of_ble_eq_true rfl)) dX1_from_72 ⟨Nat.le_of_ble_eq_true rfl, Nat.le_of_ble_eq_true rfl⟩)) (fun r_7 hr_7 => ?_)
        refine lv_iload hx hb dX1_from_75 (lv_at hl 2 rfl) ?_
        refine lv_iload hx hb dX1_from_77 (lv_at hl 1 rfl) ?_
        refine va_mmin hx hb (by rw [hml]; exact hl.1.symm) hown (hts (.methodLink RX1 37 Lib.Math.min.name) (by decide +kernel)) (hts (.static Lib.Math.min.name) (by decide +kernel)) (hts (.initialized "java/lang/Math") (by decide +kernel)) (hts (.code Lib.Math.min.name Lib.Math.min.code 2 (some .int)) (by decide +kernel)) (Nat.le_of_ble_eq_true rfl) (Nat.le_of_ble_eq_true rfl) (Nat.le_of_ble_eq_true rfl) (Nat.le_of_ble_eq_true rfl) dX1_from_79 ?_
        refine lv_topi (fun x_8 ex_8 => ?_)
        refine lv_iload hx hb dX1_from_82 (lv_at hl 0 rfl) ?_
        refine vp_callSi (va_Run.run (va_runV (As := [.int r_7, .int x_8, .int 0]) (rest := [.ref lk]) ⟨hx, hb, hml, hown, hts⟩ (mX3_firstThatFits l dC dI cyI cyZ ru rt zz tg r_7 x_8 0 (by omega)) (cwV 3 hts gX1_from_X3_firstThatFits rfl rfl rfl (by decide +kernel) ⟨Nat.le_of_ble_eq_true rfl, Nat.le_of_ble_eq_true rfl⟩) (bs_RV hB (hP.sub (ws' := [(ru, .inr (2, [.ref rt, .int (nI zz)])), (rt, .inl (cyI, 60, .inl tg))]) [1, 2] rfl) 0 rfl rfl) rfl rfl hl.1 rfl (lv_room (Nat.le_of_ble_eq_true rfl)) dX1_from_84 ⟨Nat.le_of_ble_eq_true rfl, Nat.le_of_ble_eq_true rfl⟩)) (fun r_9 hr_9 => ?_)
        refine va_put (D := (dC, dI)) (ci := 0) (v := .int r_9) (ty := .int) (C := RX1) (T := TX1) (N := 5) hx hb hts hnX1_from_X1 tyX1 tyX1_ok nmX1 hown hK hP hD hS 0 rfl rfl 1 (by decide) (hts (.fieldLink RX1 49 "RingMeets$Look" "rule" "I") (by decide +kernel)) (fun _ h9 => h9) rfl (by decide +kernel) rfl rfl (Nat.le_of_ble_eq_true rfl) dX1_from_87 (fun H locs hP hD hS => ?_)
        have hP : va_P (dC, dI) vwCl [(lk, .inr (0, [.int 1, .int r_9, .int i2, .int i3, .int 0])), (ru, .inr (2, [.ref rt, .int (nI zz)])), (rt, .inl (cyI, 60, .inl tg))] _ := hP
        have hD : va_D A [(lk, .inr (0, [.int 1, .int r_9, .int i2, .int i3, .int 0])), (ru, .inr (2, [.ref rt, .int (nI zz)])), (rt, .inl (cyI, 60, .inl tg))] := hD
        refine lv_aload_n hx hb dX1_from_90 rfl (lv_at hl 3 rfl) ?_
        refine lv_aload_n hx hb dX1_from_91 rfl (lv_at hl 4 rfl) ?_
        refine lv_aload_n hx hb dX1_from_92 rfl (lv_at hl 3 rfl) ?_
        refine va_get (D := (dC, dI)) (ci := 0) (v := .int r_9) (C := RX1) (T := TX1) (N := 5) hx hb hts hnX1_from_X1 hown hK hP 0 rfl rfl 1 (by decide) (hts (.fieldLink RX1 49 "RingMeets$Look" "rule" "I") (by decide +kernel)) (fun _ h9 => h9) rfl dX1_from_93 ?_
        refine vp_callSi (va_Run.run (va_runV (As := [.int r_9]) (rest := [.ref lk]) ⟨hx, hb, hml, hown, hts⟩ (mX3_has l dC dI cyI cyZ ru rt zz r_9 (by omega)) (cwV 1 hts gX1_from_X3_has rfl rfl rfl (by decide +kernel) ⟨Nat.le_of_ble_eq_true rfl, Nat.le_of_ble_eq_true rfl⟩) (bs_RV hB (hP.sub (ws' := [(ru, .inr (2, [.ref rt, .int (nI zz)]))]) [1] rfl) 0 rfl rfl) rfl rfl hl.1 rfl (lv_room (Nat.le_of_ble_eq_true rfl)) dX1_from_96 ⟨Nat.le_of_ble_eq_true rfl, Nat.le_of_ble_eq_true rfl⟩)) (fun r_10 hr_10 => ?_)
        refine lv_if_eq (tgt := 114) hx hb dX1_from_99 (by decide) (fun c_11 => ?_) (fun c_11 => ?_)
        · skip
          have ic_11 := ci_eq (rfl : Int32.toInt r_10 = _) (show Int32.toInt 0 = 0 by decide) c_11
          refine lv_iconst (v := 0) hx hb dX1_from_114 (by decide) ?_
          refine va_put (D := (dC, dI)) (ci := 0) (v := .int 0) (ty := .int) (C := RX1) (T := TX1) (N := 5) hx hb hts hnX1_from_X1 tyX1 tyX1_ok nmX1 hown hK hP hD hS 0 rfl rfl 2 (by decide) (hts (.fieldLink RX1 58 "RingMeets$Look" "done" "I") (by decide +kernel)) (fun _ h9 => h9) rfl (by decide +kernel) rfl rfl (Nat.le_of_ble_eq_true rfl) dX1_from_115 (fun H locs hP hD hS => ?_)
          have hP : va_P (dC, dI) vwCl [(lk, .inr (0, [.int 1, .int r_9, .int 0, .int i3, .int 0])), (ru, .inr (2, [.ref rt, .int (nI zz)])), (rt, .inl (cyI, 60, .inl tg))] _ := hP
          have hD : va_D A [(lk, .inr (0, [.int 1, .int r_9, .int 0, .int i3, .int 0])), (ru, .inr (2, [.ref rt, .int (nI zz)])), (rt, .inl (cyI, 60, .inl tg))] := hD
          refine lv_aload_n hx hb dX1_from_118 rfl (lv_at hl 3 rfl) ?_
          refine lv_aload_n hx hb dX1_from_119 rfl (lv_at hl 3 rfl) ?_
          refine lv_iload_n hx hb dX1_from_120 rfl (lv_at hl 5 rfl) ?_
          refine lv_iload hx hb dX1_from_121 (lv_at hl 8 rfl) ?_
          refine vp_callSi (va_Run.run (va_runV (As := [.int (nI n), .int p5]) (rest := [.ref lk]) ⟨hx, hb, hml, hown, hts⟩ (mX1_goalFrom l dC dI cyI cyZ lk 1 r_9 0 i3 0 (nI n) p5 ) (cwV 2 hts gX1_from_X1_goalFrom rfl rfl rfl (by decide +kernel) ⟨Nat.le_of_ble_eq_true rfl, Nat.le_of_ble_eq_true rfl⟩) (bs_RV hB (hP.sub (ws' := [(lk, .inr (0, [.int 1, .int r_9, .int 0, .int i3, .int 0]))]) [0] rfl) 0 rfl rfl) rfl rfl hl.1 rfl (lv_room (Nat.le_of_ble_eq_true rfl)) dX1_from_123 ⟨Nat.le_of_ble_eq_true rfl, Nat.le_of_ble_eq_true rfl⟩)) (fun r_12 hr_12 => ?_)
          refine va_put (D := (dC, dI)) (ci := 0) (v := .int r_12) (ty := .int) (C := RX1) (T := TX1) (N := 5) hx hb hts hnX1_from_X1 tyX1 tyX1_ok nmX1 hown hK hP hD hS 0 rfl rfl 3 (by decide) (hts (.fieldLink RX1 64 "RingMeets$Look" "goal" "I") (by decide +kernel)) (fun _ h9 => h9) rfl (by decide +kernel) rfl rfl (Nat.le_of_ble_eq_true rfl) dX1_from_126 (fun H locs hP hD hS => ?_)
          have hP : va_P (dC, dI) vwCl [(lk, .inr (0, [.int 1, .int r_9, .int 0, .int r_12, .int 0])), (ru, .inr (2, [.ref rt, .int (nI zz)])), (rt, .inl (cyI, 60, .inl tg))] _ := hP
          have hD : va_D A [(lk, .inr (0, [.int 1, .int r_9, .int 0, .int r_12, .int 0])), (ru, .inr (2, [.ref rt, .int (nI zz)])), (rt, .inl (cyI, 60, .inl tg))] := hD
          exact W.vret hx hb hr (fun t ht hW => ⟨⟨(1, r_9, 0, r_12, 0), rfl, trivial, ⟨by rw [ht]; exact hP.sub (ws' := [(lk, .inr (0, [.int 1, .int r_9, .int 0, .int r_12, .int 0])), (ru, .inr (2, [.ref rt, .int (nI zz)])), (rt, .inl (cyI, 60, .inl tg))]) [0, 1, 2] rfl, hD.sub (ws' := [(lk, .inr (0, [.int 1, .int r_9, .int 0, .int r_12, .int 0])), (ru, .inr (2, [.ref rt, .int (nI zz)])), (rt, .inl (cyI, 60, .inl tg))]) [0, 1, 2] (by decide) rfl⟩⟩, hS.F ht⟩) hS.2.2 dX1_from_129
        · skip
          have ic_11 := ci_ne (rfl : Int32.toInt r_10 = _) (show Int32.toInt 0 = 0 by decide) c_11
          refine lv_aload_n hx hb dX1_from_102 rfl (lv_at hl 4 rfl) ?_
          refine lv_aload_n hx hb dX1_from_103 rfl (lv_at hl 3 rfl) ?_
          refine va_get (D := (dC, dI)) (ci := 0) (v := .int r_9) (C := RX1) (T := TX1) (N := 5) hx hb hts hnX1_from_X1 hown hK hP 0 rfl rfl 1 (by decide) (hts (.fieldLink RX1 49 "RingMeets$Look" "rule" "I") (by decide +kernel)) (fun _ h9 => h9) rfl dX1_from_104 ?_
          refine lv_iconst (v := 4) hx hb dX1_from_107 (by decide) ?_
          refine vp_callSi (va_Run.run (va_runV (As := [.int r_9, .int 4]) (rest := [.ref lk]) ⟨hx, hb, hml, hown, hts⟩ (mX3_part l dC dI cyI cyZ ru rt zz tg r_9 4 (by omega)) (cwV 2 hts gX1_from_X3_part rfl rfl rfl (by decide +kernel) ⟨Nat.le_of_ble_eq_true rfl, Nat.le_of_ble_eq_true rfl⟩) (bs_RV hB (hP.sub (ws' := [(ru, .inr (2, [.ref rt, .int (nI zz)])), (rt, .inl (cyI, 60, .inl tg))]) [1, 2] rfl) 0 rfl rfl) rfl rfl hl.1 rfl (lv_room (Nat.le_of_ble_eq_true rfl)) dX1_from_108 ⟨Nat.le_of_ble_eq_true rfl, Nat.le_of_ble_eq_true rfl⟩)) (fun r_13 hr_13 => ?_)
          refine lv_goto (tgt := 115) hx hb dX1_from_111 (by decide) ?_
          refine va_put (D := (dC, dI)) (ci := 0) (v := .int r_13) (ty := .int) (C := RX1) (T := TX1) (N := 5) hx hb hts hnX1_from_X1 tyX1 tyX1_ok nmX1 hown hK hP hD hS 0 rfl rfl 2 (by decide) (hts (.fieldLink RX1 58 "RingMeets$Look" "done" "I") (by decide +kernel)) (fun _ h9 => h9) rfl (by decide +kernel) rfl rfl (Nat.le_of_ble_eq_true rfl) dX1_from_115 (fun H locs hP hD hS => ?_)
          have hP : va_P (dC, dI) vwCl [(lk, .inr (0, [.int 1, .int r_9, .int r_13, .int i3, .int 0])), (ru, .inr (2, [.ref rt, .int (nI zz)])), (rt, .inl (cyI, 60, .inl tg))] _ := hP
          have hD : va_D A [(lk, .inr (0, [.int 1, .int r_9, .int r_13, .int i3, .int 0])), (ru, .inr (2, [.ref rt, .int (nI zz)])), (rt, .inl (cyI, 60, .inl tg))] := hD
          refine lv_aload_n hx hb dX1_from_118 rfl (lv_at hl 3 rfl) ?_
          refine lv_aload_n hx hb dX1_from_119 rfl (lv_at hl 3 rfl) ?_
          refine lv_iload_n hx hb dX1_from_120 rfl (lv_at hl 5 rfl) ?_
          refine lv_iload hx hb dX1_from_121 (lv_at hl 8 rfl) ?_
          refine vp_callSi (va_Run.run (va_runV (As := [.int (nI n), .int p5]) (rest := [.ref lk]) ⟨hx, hb, hml, hown, hts⟩ (mX1_goalFrom l dC dI cyI cyZ lk 1 r_9 r_13 i3 0 (nI n) p5 ) (cwV 2 hts gX1_from_X1_goalFrom rfl rfl rfl (by decide +kernel) ⟨Nat.le_of_ble_eq_true rfl, Nat.le_of_ble_eq_true rfl⟩) (bs_RV hB (hP.sub (ws' := [(lk, .inr (0, [.int 1, .int r_9, .int r_13, .int i3, .int 0]))]) [0] rfl) 0 rfl rfl) rfl rfl hl.1 rfl (lv_room (Nat.le_of_ble_eq_true rfl)) dX1_from_123 ⟨Nat.le_of_ble_eq_true rfl, Nat.le_of_ble_eq_true rfl⟩)) (fun r_14 hr_14 => ?_)
          refine va_put (D := (dC, dI)) (ci := 0) (v := .int r_14) (ty := .int) (C := RX1) (T := TX1) (N := 5) hx hb hts hnX1_from_X1 tyX1 tyX1_ok nmX1 hown hK hP hD hS 0 rfl rfl 3 (by decide) (hts (.fieldLink RX1 64 "RingMeets$Look" "goal" "I") (by decide +kernel)) (fun _ h9 => h9) rfl (by decide +kernel) rfl rfl (Nat.le_of_ble_eq_true rfl) dX1_from_126 (fun H locs hP hD hS => ?_)
          have hP : va_P (dC, dI) vwCl [(lk, .inr (0, [.int 1, .int r_9, .int r_13, .int r_14, .int 0])), (ru, .inr (2, [.ref rt, .int (nI zz)])), (rt, .inl (cyI, 60, .inl tg))] _ := hP
          have hD : va_D A [(lk, .inr (0, [.int 1, .int r_9, .int r_13, .int r_14, .int 0])), (ru, .inr (2, [.ref rt, .int (nI zz)])), (rt, .inl (cyI, 60, .inl tg))] := hD
          exact W.vret hx hb hr (fun t ht hW => ⟨⟨(1, r_9, r_13, r_14, 0), rfl, trivial, ⟨by rw [ht]; exact hP.sub (ws' := [(lk, .inr (0, [.int 1, .int r_9, .int r_13, .int r_14, .int 0])), (ru, .inr (2, [.ref rt, .int (nI zz)])), (rt, .inl (cyI, 60, .inl tg))]) [0, 1, 2] rfl, hD.sub (ws' := [(lk, .inr (0, [.int 1, .int r_9, .int r_13, .int r_14, .int 0])), (ru, .inr (2, [.ref rt, .int (nI zz)])), (rt, .inl (cyI, 60, .inl tg))]) [0, 1, 2] (by decide) rfl⟩⟩, hS.F ht⟩) hS.2.2 dX1_from_129
      · skip
        have ic_6 := ci_ne (rfl : Int32.toInt r_5 = _) (show Int32.toInt 0 = 0 by decide) c_6
        refine lv_iconst (v := 1) hx hb dX1_from_62 (by decide) ?_
        refine lv_goto (tgt := 67) hx hb dX1_from_63 (by decide) ?_
        refine lv_istore (lv' := [(8, .int 1), (7, .int r_2), (6, .int r_1), (0, .ref lk), (1, .ref ru), (2, .int (nI n)), (3, .int p3), (4, .int p4), (5, .int p5)]) hx hb dX1_from_67 hl (by decide) rfl (fun ls hl => ?_)
        refine lv_aload_n hx hb dX1_from_69 rfl (lv_at hl 3 rfl) ?_
        refine lv_aload_n hx hb dX1_from_70 rfl (lv_at hl 4 rfl) ?_
        refine lv_iload_n hx hb dX1_from_71 rfl (lv_at hl 6 rfl) ?_
        refine vp_callSi (va_Run.run (va_runS (As := [.int p3]) (rest := [.ref ru, .ref lk]) ⟨hx, hb, hml, hown, hts⟩ (mJ6_bitCount_0f7a4 l dC dI cyI cyZ p3 ) (va_cwS 1 hts gX1_from_J6_bitCount_0f7a4 rfl rfl rfl (by decide +kernel) ⟨Nat.le_of_ble_eq_true rfl, Nat.le_of_ble_eq_true rfl⟩) (bs_RS hB (hP.sub (ws' := []) [] rfl)) rfl rfl hl.1 rfl (lv_room (Nat.le_of_ble_eq_true rfl)) dX1_from_72 ⟨Nat.le_of_ble_eq_true rfl, Nat.le_of_ble_eq_true rfl⟩)) (fun r_15 hr_15 => ?_)
        refine lv_iload hx hb dX1_from_75 (lv_at hl 2 rfl) ?_
        refine lv_iload hx hb dX1_from_77 (lv_at hl 1 rfl) ?_
        refine va_mmin hx hb (by rw [hml]; exact hl.1.symm) hown (hts (.methodLink RX1 37 Lib.Math.min.name) (by decide +kernel)) (hts (.static Lib.Math.min.name) (by decide +kernel)) (hts (.initialized "java/lang/Math") (by decide +kernel)) (hts (.code Lib.Math.min.name Lib.Math.min.code 2 (some .int)) (by decide +kernel)) (Nat.le_of_ble_eq_true rfl) (Nat.le_of_ble_eq_true rfl) (Nat.le_of_ble_eq_true rfl) (Nat.le_of_ble_eq_true rfl) dX1_from_79 ?_
        refine lv_topi (fun x_16 ex_16 => ?_)
        refine lv_iload hx hb dX1_from_82 (lv_at hl 0 rfl) ?_
        refine vp_callSi (va_Run.run (va_runV (As := [.int r_15, .int x_16, .int 1]) (rest := [.ref lk]) ⟨hx, hb, hml, hown, hts⟩ (mX3_firstThatFits l dC dI cyI cyZ ru rt zz tg r_15 x_16 1 (by omega)) (cwV 3 hts gX1_from_X3_firstThatFits rfl rfl rfl (by decide +kernel) ⟨Nat.le_of_ble_eq_true rfl, Nat.le_of_ble_eq_true rfl⟩) (bs_RV hB (hP.sub (ws' := [(ru, .inr (2, [.ref rt, .int (nI zz)])), (rt, .inl (cyI, 60, .inl tg))]) [1, 2] rfl) 0 rfl rfl) rfl rfl hl.1 rfl (lv_room (Nat.le_of_ble_eq_true rfl)) dX1_from_84 ⟨Nat.le_of_ble_eq_true rfl, Nat.le_of_ble_eq_true rfl⟩)) (fun r_17 hr_17 => ?_)
        refine va_put (D := (dC, dI)) (ci := 0) (v := .int r_17) (ty := .int) (C := RX1) (T := TX1) (N := 5) hx hb hts hnX1_from_X1 tyX1 tyX1_ok nmX1 hown hK hP hD hS 0 rfl rfl 1 (by decide) (hts (.fieldLink RX1 49 "RingMeets$Look" "rule" "I") (by decide +kernel)) (fun _ h9 => h9) rfl (by decide +kernel) rfl rfl (Nat.le_of_ble_eq_true rfl) dX1_from_87 (fun H locs hP hD hS => ?_)
        have hP : va_P (dC, dI) vwCl [(lk, .inr (0, [.int 1, .int r_17, .int i2, .int i3, .int 0])), (ru, .inr (2, [.ref rt, .int (nI zz)])), (rt, .inl (cyI, 60, .inl tg))] _ := hP
        have hD : va_D A [(lk, .inr (0, [.int 1, .int r_17, .int i2, .int i3, .int 0])), (ru, .inr (2, [.ref rt, .int (nI zz)])), (rt, .inl (cyI, 60, .inl tg))] := hD
        refine lv_aload_n hx hb dX1_from_90 rfl (lv_at hl 3 rfl) ?_
        refine lv_aload_n hx hb dX1_from_91 rfl (lv_at hl 4 rfl) ?_
        refine lv_aload_n hx hb dX1_from_92 rfl (lv_at hl 3 rfl) ?_
        refine va_get (D := (dC, dI)) (ci := 0) (v := .int r_17) (C := RX1) (T := TX1) (N := 5) hx hb hts hnX1_from_X1 hown hK hP 0 rfl rfl 1 (by decide) (hts (.fieldLink RX1 49 "RingMeets$Look" "rule" "I") (by decide +kernel)) (fun _ h9 => h9) rfl dX1_from_93 ?_
        refine vp_callSi (va_Run.run (va_runV (As := [.int r_17]) (rest := [.ref lk]) ⟨hx, hb, hml, hown, hts⟩ (mX3_has l dC dI cyI cyZ ru rt zz r_17 (by omega)) (cwV 1 hts gX1_from_X3_has rfl rfl rfl (by decide +kernel) ⟨Nat.le_of_ble_eq_true rfl, Nat.le_of_ble_eq_true rfl⟩) (bs_RV hB (hP.sub (ws' := [(ru, .inr (2, [.ref rt, .int (nI zz)]))]) [1] rfl) 0 rfl rfl) rfl rfl hl.1 rfl (lv_room (Nat.le_of_ble_eq_true rfl)) dX1_from_96 ⟨Nat.le_of_ble_eq_true rfl, Nat.le_of_ble_eq_true rfl⟩)) (fun r_18 hr_18 => ?_)
        refine lv_if_eq (tgt := 114) hx hb dX1_from_99 (by decide) (fun c_19 => ?_) (fun c_19 => ?_)
        · skip
          have ic_19 := ci_eq (rfl : Int32.toInt r_18 = _) (show Int32.toInt 0 = 0 by decide) c_19
          refine lv_iconst (v := 0) hx hb dX1_from_114 (by decide) ?_
          refine va_put (D := (dC, dI)) (ci := 0) (v := .int 0) (ty := .int) (C := RX1) (T := TX1) (N := 5) hx hb hts hnX1_from_X1 tyX1 tyX1_ok nmX1 hown hK hP hD hS 0 rfl rfl 2 (by decide) (hts (.fieldLink RX1 58 "RingMeets$Look" "done" "I") (by decide +kernel)) (fun _ h9 => h9) rfl (by decide +kernel) rfl rfl (Nat.le_of_ble_eq_true rfl) dX1_from_115 (fun H locs hP hD hS => ?_)
          have hP : va_P (dC, dI) vwCl [(lk, .inr (0, [.int 1, .int r_17, .int 0, .int i3, .int 0])), (ru, .inr (2, [.ref rt, .int (nI zz)])), (rt, .inl (cyI, 60, .inl tg))] _ := hP
          have hD : va_D A [(lk, .inr (0, [.int 1, .int r_17, .int 0, .int i3, .int 0])), (ru, .inr (2, [.ref rt, .int (nI zz)])), (rt, .inl (cyI, 60, .inl tg))] := hD
          refine lv_aload_n hx hb dX1_from_118 rfl (lv_at hl 3 rfl) ?_
          refine lv_aload_n hx hb dX1_from_119 rfl (lv_at hl 3 rfl) ?_
          refine lv_iload_n hx hb dX1_from_120 rfl (lv_at hl 5 rfl) ?_
          refine lv_iload hx hb dX1_from_121 (lv_at hl 8 rfl) ?_
          refine vp_callSi (va_Run.run (va_runV (As := [.int (nI n), .int p5]) (rest := [.ref lk]) ⟨hx, hb, hml, hown, hts⟩ (mX1_goalFrom l dC dI cyI cyZ lk 1 r_17 0 i3 0 (nI n) p5 ) (cwV 2 hts gX1_from_X1_goalFrom rfl rfl rfl (by decide +kernel) ⟨Nat.le_of_ble_eq_true rfl, Nat.le_of_ble_eq_true rfl⟩) (bs_RV hB (hP.sub (ws' := [(lk, .inr (0, [.int 1, .int r_17, .int 0, .int i3, .int 0]))]) [0] rfl) 0 rfl rfl) rfl rfl hl.1 rfl (lv_room (Nat.le_of_ble_eq_true rfl)) dX1_from_123 ⟨Nat.le_of_ble_eq_true rfl, Nat.le_of_ble_eq_true rfl⟩)) (fun r_20 hr_20 => ?_)
          refine va_put (D := (dC, dI)) (ci := 0) (v := .int r_20) (ty := .int) (C := RX1) (T := TX1) (N := 5) hx hb hts hnX1_from_X1 tyX1 tyX1_ok nmX1 hown hK hP hD hS 0 rfl rfl 3 (by decide) (hts (.fieldLink RX1 64 "RingMeets$Look" "goal" "I") (by decide +kernel)) (fun _ h9 => h9) rfl (by decide +kernel) rfl rfl (Nat.le_of_ble_eq_true rfl) dX1_from_126 (fun H locs hP hD hS => ?_)
          have hP : va_P (dC, dI) vwCl [(lk, .inr (0, [.int 1, .int r_17, .int 0, .int r_20, .int 0])), (ru, .inr (2, [.ref rt, .int (nI zz)])), (rt, .inl (cyI, 60, .inl tg))] _ := hP
          have hD : va_D A [(lk, .inr (0, [.int 1, .int r_17, .int 0, .int r_20, .int 0])), (ru, .inr (2, [.ref rt, .int (nI zz)])), (rt, .inl (cyI, 60, .inl tg))] := hD
          exact W.vret hx hb hr (fun t ht hW => ⟨⟨(1, r_17, 0, r_20, 0), rfl, trivial, ⟨by rw [ht]; exact hP.sub (ws' := [(lk, .inr (0, [.int 1, .int r_17, .int 0, .int r_20, .int 0])), (ru, .inr (2, [.ref rt, .int (nI zz)])), (rt, .inl (cyI, 60, .inl tg))]) [0, 1, 2] rfl, hD.sub (ws' := [(lk, .inr (0, [.int 1, .int r_17, .int 0, .int r_20, .int 0])), (ru, .inr (2, [.ref rt, .int (nI zz)])), (rt, .inl (cyI, 60, .inl tg))]) [0, 1, 2] (by decide) rfl⟩⟩, hS.F ht⟩) hS.2.2 dX1_from_129
        · skip
          have ic_19 := ci_ne (rfl : Int32.toInt r_18 = _) (show Int32.toInt 0 = 0 by decide) c_19
          refine lv_aload_n hx hb dX1_from_102 rfl (lv_at hl 4 rfl) ?_
          refine lv_aload_n hx hb dX1_from_103 rfl (lv_at hl 3 rfl) ?_
          refine va_get (D := (dC, dI)) (ci := 0) (v := .int r_17) (C := RX1) (T := TX1) (N := 5) hx hb hts hnX1_from_X1 hown hK hP 0 rfl rfl 1 (by decide) (hts (.fieldLink RX1 49 "RingMeets$Look" "rule" "I") (by decide +kernel)) (fun _ h9 => h9) rfl dX1_from_104 ?_
          refine lv_iconst (v := 4) hx hb dX1_from_107 (by decide) ?_
          refine vp_callSi (va_Run.run (va_runV (As := [.int r_17, .int 4]) (rest := [.ref lk]) ⟨hx, hb, hml, hown, hts⟩ (mX3_part l dC dI cyI cyZ ru rt zz tg r_17 4 (by omega)) (cwV 2 hts gX1_from_X3_part rfl rfl rfl (by decide +kernel) ⟨Nat.le_of_ble_eq_true rfl, Nat.le_of_ble_eq_true rfl⟩) (bs_RV hB (hP.sub (ws' := [(ru, .inr (2, [.ref rt, .int (nI zz)])), (rt, .inl (cyI, 60, .inl tg))]) [1, 2] rfl) 0 rfl rfl) rfl rfl hl.1 rfl (lv_room (Nat.le_of_ble_eq_true rfl)) dX1_from_108 ⟨Nat.le_of_ble_eq_true rfl, Nat.le_of_ble_eq_true rfl⟩)) (fun r_21 hr_21 => ?_)
          refine lv_goto (tgt := 115) hx hb dX1_from_111 (by decide) ?_
          refine va_put (D := (dC, dI)) (ci := 0) (v := .int r_21) (ty := .int) (C := RX1) (T := TX1) (N := 5) hx hb hts hnX1_from_X1 tyX1 tyX1_ok nmX1 hown hK hP hD hS 0 rfl rfl 2 (by decide) (hts (.fieldLink RX1 58 "RingMeets$Look" "done" "I") (by decide +kernel)) (fun _ h9 => h9) rfl (by decide +kernel) rfl rfl (Nat.le_of_ble_eq_true rfl) dX1_from_115 (fun H locs hP hD hS => ?_)
          have hP : va_P (dC, dI) vwCl [(lk, .inr (0, [.int 1, .int r_17, .int r_21, .int i3, .int 0])), (ru, .inr (2, [.ref rt, .int (nI zz)])), (rt, .inl (cyI, 60, .inl tg))] _ := hP
          have hD : va_D A [(lk, .inr (0, [.int 1, .int r_17, .int r_21, .int i3, .int 0])), (ru, .inr (2, [.ref rt, .int (nI zz)])), (rt, .inl (cyI, 60, .inl tg))] := hD
          refine lv_aload_n hx hb dX1_from_118 rfl (lv_at hl 3 rfl) ?_
          refine lv_aload_n hx hb dX1_from_119 rfl (lv_at hl 3 rfl) ?_
          refine lv_iload_n hx hb dX1_from_120 rfl (lv_at hl 5 rfl) ?_
          refine lv_iload hx hb dX1_from_121 (lv_at hl 8 rfl) ?_
          refine vp_callSi (va_Run.run (va_runV (As := [.int (nI n), .int p5]) (rest := [.ref lk]) ⟨hx, hb, hml, hown, hts⟩ (mX1_goalFrom l dC dI cyI cyZ lk 1 r_17 r_21 i3 0 (nI n) p5 ) (cwV 2 hts gX1_from_X1_goalFrom rfl rfl rfl (by decide +kernel) ⟨Nat.le_of_ble_eq_true rfl, Nat.le_of_ble_eq_true rfl⟩) (bs_RV hB (hP.sub (ws' := [(lk, .inr (0, [.int 1, .int r_17, .int r_21, .int i3, .int 0]))]) [0] rfl) 0 rfl rfl) rfl rfl hl.1 rfl (lv_room (Nat.le_of_ble_eq_true rfl)) dX1_from_123 ⟨Nat.le_of_ble_eq_true rfl, Nat.le_of_ble_eq_true rfl⟩)) (fun r_22 hr_22 => ?_)
          refine va_put (D := (dC, dI)) (ci := 0) (v := .int r_22) (ty := .int) (C := RX1) (T := TX1) (N := 5) hx hb hts hnX1_from_X1 tyX1 tyX1_ok nmX1 hown hK hP hD hS 0 rfl rfl 3 (by decide) (hts (.fieldLink RX1 64 "RingMeets$Look" "goal" "I") (by decide +kernel)) (fun _ h9 => h9) rfl (by decide +kernel) rfl rfl (Nat.le_of_ble_eq_true rfl) dX1_from_126 (fun H locs hP hD hS => ?_)
          have hP : va_P (dC, dI) vwCl [(lk, .inr (0, [.int 1, .int r_17, .int r_21, .int r_22, .int 0])), (ru, .inr (2, [.ref rt, .int (nI zz)])), (rt, .inl (cyI, 60, .inl tg))] _ := hP
          have hD : va_D A [(lk, .inr (0, [.int 1, .int r_17, .int r_21, .int r_22, .int 0])), (ru, .inr (2, [.ref rt, .int (nI zz)])), (rt, .inl (cyI, 60, .inl tg))] := hD
          exact W.vret hx hb hr (fun t ht hW => ⟨⟨(1, r_17, r_21, r_22, 0), rfl, trivial, ⟨by rw [ht]; exact hP.sub (ws' := [(lk, .inr (0, [.int 1, .int r_17, .int r_21, .int r_22, .int 0])), (ru, .inr (2, [.ref rt, .int (nI zz)])), (rt, .inl (cyI, 60, .inl tg))]) [0, 1, 2] rfl, hD.sub (ws' := [(lk, .inr (0, [.int 1, .int r_17, .int r_21, .int r_22, .int 0])), (ru, .inr (2, [.ref rt, .int (nI zz)])), (rt, .inl (cyI, 60, .inl tg))]) [0, 1, 2] (by decide) rfl⟩⟩, hS.F ht⟩) hS.2.2 dX1_from_129
    · skip
      have ic_4 := ci_nlt (rfl : Int32.toInt r_2 = _) (rfl : Int32.toInt r_1 = _) c_4
      refine lv_iconst (v := 0) hx hb dX1_from_44 (by decide) ?_
      refine lv_goto (tgt := 49) hx hb dX1_from_45 (by decide) ?_
      refine va_put (D := (dC, dI)) (ci := 0) (v := .int 0) (ty := .int) (C := RX1) (T := TX1) (N := 5) hx hb hts hnX1_from_X1 tyX1 tyX1_ok nmX1 hown hK hP hD hS 0 rfl rfl 0 (by decide) (hts (.fieldLink RX1 21 "RingMeets$Look" "side" "I") (by decide +kernel)) (fun _ h9 => h9) rfl (by decide +kernel) rfl rfl (Nat.le_of_ble_eq_true rfl) dX1_from_49 (fun H locs hP hD hS => ?_)
      have hP : va_P (dC, dI) vwCl [(lk, .inr (0, [.int 0, .int i1, .int i2, .int i3, .int 0])), (ru, .inr (2, [.ref rt, .int (nI zz)])), (rt, .inl (cyI, 60, .inl tg))] _ := hP
      have hD : va_D A [(lk, .inr (0, [.int 0, .int i1, .int i2, .int i3, .int 0])), (ru, .inr (2, [.ref rt, .int (nI zz)])), (rt, .inl (cyI, 60, .inl tg))] := hD
      refine lv_iload hx hb dX1_from_52 (lv_at hl 6 rfl) ?_
      refine lv_iload hx hb dX1_from_54 (lv_at hl 7 rfl) ?_
      refine vp_callSi (va_Run.run (va_runS (As := [.int p4, .int p5]) (rest := []) ⟨hx, hb, hml, hown, hts⟩ (mX5_has l dC dI cyI cyZ p4 p5 ) (va_cwS 2 hts gX1_from_X5_has rfl rfl rfl (by decide +kernel) ⟨Nat.le_of_ble_eq_true rfl, Nat.le_of_ble_eq_true rfl⟩) (bs_RS hB (hP.sub (ws' := []) [] rfl)) rfl rfl hl.1 rfl (lv_room (Nat.le_of_ble_eq_true rfl)) dX1_from_56 ⟨Nat.le_of_ble_eq_true rfl, Nat.le_of_ble_eq_true rfl⟩)) (fun r_23 hr_23 => ?_)
      refine lv_if_eq (tgt := 66) hx hb dX1_from_59 (by decide) (fun c_24 => ?_) (fun c_24 => ?_)
      · skip
        have ic_24 := ci_eq (rfl : Int32.toInt r_23 = _) (show Int32.toInt 0 = 0 by decide) c_24
        refine lv_iconst (v := 0) hx hb dX1_from_66 (by decide) ?_
        refine lv_istore (lv' := [(8, .int 0), (7, .int r_2), (6, .int r_1), (0, .ref lk), (1, .ref ru), (2, .int (nI n)), (3, .int p3), (4, .int p4), (5, .int p5)]) hx hb dX1_from_67 hl (by decide) rfl (fun ls hl => ?_)
        refine lv_aload_n hx hb dX1_from_69 rfl (lv_at hl 3 rfl) ?_
        refine lv_aload_n hx hb dX1_from_70 rfl (lv_at hl 4 rfl) ?_
        refine lv_iload_n hx hb dX1_from_71 rfl (lv_at hl 6 rfl) ?_
        refine vp_callSi (va_Run.run (va_runS (As := [.int p3]) (rest := [.ref ru, .ref lk]) ⟨hx, hb, hml, hown, hts⟩ (mJ6_bitCount_0f7a4 l dC dI cyI cyZ p3 ) (va_cwS 1 hts gX1_from_J6_bitCount_0f7a4 rfl rfl rfl (by decide +kernel) ⟨Nat.le_of_ble_eq_true rfl, Nat.le_of_ble_eq_true rfl⟩) (bs_RS hB (hP.sub (ws' := []) [] rfl)) rfl rfl hl.1 rfl (lv_room (Nat.le_of_ble_eq_true rfl)) dX1_from_72 ⟨Nat.le_of_ble_eq_true rfl, Nat.le_of_ble_eq_true rfl⟩)) (fun r_25 hr_25 => ?_)
        refine lv_iload hx hb dX1_from_75 (lv_at hl 2 rfl) ?_
        refine lv_iload hx hb dX1_from_77 (lv_at hl 1 rfl) ?_
        refine va_mmin hx hb (by rw [hml]; exact hl.1.symm) hown (hts (.methodLink RX1 37 Lib.Math.min.name) (by decide +kernel)) (hts (.static Lib.Math.min.name) (by decide +kernel)) (hts (.initialized "java/lang/Math") (by decide +kernel)) (hts (.code Lib.Math.min.name Lib.Math.min.code 2 (some .int)) (by decide +kernel)) (Nat.le_of_ble_eq_true rfl) (Nat.le_of_ble_eq_true rfl) (Nat.le_of_ble_eq_true rfl) (Nat.le_of_ble_eq_true rfl) dX1_from_79 ?_
        refine lv_topi (fun x_26 ex_26 => ?_)
        refine lv_iload hx hb dX1_from_82 (lv_at hl 0 rfl) ?_
        refine vp_callSi (va_Run.run (va_runV (As := [.int r_25, .int x_26, .int 0]) (rest := [.ref lk]) ⟨hx, hb, hml, hown, hts⟩ (mX3_firstThatFits l dC dI cyI cyZ ru rt zz tg r_25 x_26 0 (by omega)) (cwV 3 hts gX1_from_X3_firstThatFits rfl rfl rfl (by decide +kernel) ⟨Nat.le_of_ble_eq_true rfl, Nat.le_of_ble_eq_true rfl⟩) (bs_RV hB (hP.sub (ws' := [(ru, .inr (2, [.ref rt, .int (nI zz)])), (rt, .inl (cyI, 60, .inl tg))]) [1, 2] rfl) 0 rfl rfl) rfl rfl hl.1 rfl (lv_room (Nat.le_of_ble_eq_true rfl)) dX1_from_84 ⟨Nat.le_of_ble_eq_true rfl, Nat.le_of_ble_eq_true rfl⟩)) (fun r_27 hr_27 => ?_)
        refine va_put (D := (dC, dI)) (ci := 0) (v := .int r_27) (ty := .int) (C := RX1) (T := TX1) (N := 5) hx hb hts hnX1_from_X1 tyX1 tyX1_ok nmX1 hown hK hP hD hS 0 rfl rfl 1 (by decide) (hts (.fieldLink RX1 49 "RingMeets$Look" "rule" "I") (by decide +kernel)) (fun _ h9 => h9) rfl (by decide +kernel) rfl rfl (Nat.le_of_ble_eq_true rfl) dX1_from_87 (fun H locs hP hD hS => ?_)
        have hP : va_P (dC, dI) vwCl [(lk, .inr (0, [.int 0, .int r_27, .int i2, .int i3, .int 0])), (ru, .inr (2, [.ref rt, .int (nI zz)])), (rt, .inl (cyI, 60, .inl tg))] _ := hP
        have hD : va_D A [(lk, .inr (0, [.int 0, .int r_27, .int i2, .int i3, .int 0])), (ru, .inr (2, [.ref rt, .int (nI zz)])), (rt, .inl (cyI, 60, .inl tg))] := hD
        refine lv_aload_n hx hb dX1_from_90 rfl (lv_at hl 3 rfl) ?_
        refine lv_aload_n hx hb dX1_from_91 rfl (lv_at hl 4 rfl) ?_
        refine lv_aload_n hx hb dX1_from_92 rfl (lv_at hl 3 rfl) ?_
        refine va_get (D := (dC, dI)) (ci := 0) (v := .int r_27) (C := RX1) (T := TX1) (N := 5) hx hb hts hnX1_from_X1 hown hK hP 0 rfl rfl 1 (by decide) (hts (.fieldLink RX1 49 "RingMeets$Look" "rule" "I") (by decide +kernel)) (fun _ h9 => h9) rfl dX1_from_93 ?_
        refine vp_callSi (va_Run.run (va_runV (As := [.int r_27]) (rest := [.ref lk]) ⟨hx, hb, hml, hown, hts⟩ (mX3_has l dC dI cyI cyZ ru rt zz r_27 (by omega)) (cwV 1 hts gX1_from_X3_has rfl rfl rfl (by decide +kernel) ⟨Nat.le_of_ble_eq_true rfl, Nat.le_of_ble_eq_true rfl⟩) (bs_RV hB (hP.sub (ws' := [(ru, .inr (2, [.ref rt, .int (nI zz)]))]) [1] rfl) 0 rfl rfl) rfl rfl hl.1 rfl (lv_room (Nat.le_of_ble_eq_true rfl)) dX1_from_96 ⟨Nat.le_of_ble_eq_true rfl, Nat.le_of_ble_eq_true rfl⟩)) (fun r_28 hr_28 => ?_)
        refine lv_if_eq (tgt := 114) hx hb dX1_from_99 (by decide) (fun c_29 => ?_) (fun c_29 => ?_)
        · skip
          have ic_29 := ci_eq (rfl : Int32.toInt r_28 = _) (show Int32.toInt 0 = 0 by decide) c_29
          refine lv_iconst (v := 0) hx hb dX1_from_114 (by decide) ?_
          refine va_put (D := (dC, dI)) (ci := 0) (v := .int 0) (ty := .int) (C := RX1) (T := TX1) (N := 5) hx hb hts hnX1_from_X1 tyX1 tyX1_ok nmX1 hown hK hP hD hS 0 rfl rfl 2 (by decide) (hts (.fieldLink RX1 58 "RingMeets$Look" "done" "I") (by decide +kernel)) (fun _ h9 => h9) rfl (by decide +kernel) rfl rfl (Nat.le_of_ble_eq_true rfl) dX1_from_115 (fun H locs hP hD hS => ?_)
          have hP : va_P (dC, dI) vwCl [(lk, .inr (0, [.int 0, .int r_27, .int 0, .int i3, .int 0])), (ru, .inr (2, [.ref rt, .int (nI zz)])), (rt, .inl (cyI, 60, .inl tg))] _ := hP
          have hD : va_D A [(lk, .inr (0, [.int 0, .int r_27, .int 0, .int i3, .int 0])), (ru, .inr (2, [.ref rt, .int (nI zz)])), (rt, .inl (cyI, 60, .inl tg))] := hD
          refine lv_aload_n hx hb dX1_from_118 rfl (lv_at hl 3 rfl) ?_
          refine lv_aload_n hx hb dX1_from_119 rfl (lv_at hl 3 rfl) ?_
          refine lv_iload_n hx hb dX1_from_120 rfl (lv_at hl 5 rfl) ?_
          refine lv_iload hx hb dX1_from_121 (lv_at hl 8 rfl) ?_
          refine vp_callSi (va_Run.run (va_runV (As := [.int (nI n), .int p5]) (rest := [.ref lk]) ⟨hx, hb, hml, hown, hts⟩ (mX1_goalFrom l dC dI cyI cyZ lk 0 r_27 0 i3 0 (nI n) p5 ) (cwV 2 hts gX1_from_X1_goalFrom rfl rfl rfl (by decide +kernel) ⟨Nat.le_of_ble_eq_true rfl, Nat.le_of_ble_eq_true rfl⟩) (bs_RV hB (hP.sub (ws' := [(lk, .inr (0, [.int 0, .int r_27, .int 0, .int i3, .int 0]))]) [0] rfl) 0 rfl rfl) rfl rfl hl.1 rfl (lv_room (Nat.le_of_ble_eq_true rfl)) dX1_from_123 ⟨Nat.le_of_ble_eq_true rfl, Nat.le_of_ble_eq_true rfl⟩)) (fun r_30 hr_30 => ?_)
          refine va_put (D := (dC, dI)) (ci := 0) (v := .int r_30) (ty := .int) (C := RX1) (T := TX1) (N := 5) hx hb hts hnX1_from_X1 tyX1 tyX1_ok nmX1 hown hK hP hD hS 0 rfl rfl 3 (by decide) (hts (.fieldLink RX1 64 "RingMeets$Look" "goal" "I") (by decide +kernel)) (fun _ h9 => h9) rfl (by decide +kernel) rfl rfl (Nat.le_of_ble_eq_true rfl) dX1_from_126 (fun H locs hP hD hS => ?_)
          have hP : va_P (dC, dI) vwCl [(lk, .inr (0, [.int 0, .int r_27, .int 0, .int r_30, .int 0])), (ru, .inr (2, [.ref rt, .int (nI zz)])), (rt, .inl (cyI, 60, .inl tg))] _ := hP
          have hD : va_D A [(lk, .inr (0, [.int 0, .int r_27, .int 0, .int r_30, .int 0])), (ru, .inr (2, [.ref rt, .int (nI zz)])), (rt, .inl (cyI, 60, .inl tg))] := hD
          exact W.vret hx hb hr (fun t ht hW => ⟨⟨(0, r_27, 0, r_30, 0), rfl, trivial, ⟨by rw [ht]; exact hP.sub (ws' := [(lk, .inr (0, [.int 0, .int r_27, .int 0, .int r_30, .int 0])), (ru, .inr (2, [.ref rt, .int (nI zz)])), (rt, .inl (cyI, 60, .inl tg))]) [0, 1, 2] rfl, hD.sub (ws' := [(lk, .inr (0, [.int 0, .int r_27, .int 0, .int r_30, .int 0])), (ru, .inr (2, [.ref rt, .int (nI zz)])), (rt, .inl (cyI, 60, .inl tg))]) [0, 1, 2] (by decide) rfl⟩⟩, hS.F ht⟩) hS.2.2 dX1_from_129
        · skip
          have ic_29 := ci_ne (rfl : Int32.toInt r_28 = _) (show Int32.toInt 0 = 0 by decide) c_29
          refine lv_aload_n hx hb dX1_from_102 rfl (lv_at hl 4 rfl) ?_
          refine lv_aload_n hx hb dX1_from_103 rfl (lv_at hl 3 rfl) ?_
          refine va_get (D := (dC, dI)) (ci := 0) (v := .int r_27) (C := RX1) (T := TX1) (N := 5) hx hb hts hnX1_from_X1 hown hK hP 0 rfl rfl 1 (by decide) (hts (.fieldLink RX1 49 "RingMeets$Look" "rule" "I") (by decide +kernel)) (fun _ h9 => h9) rfl dX1_from_104 ?_
          refine lv_iconst (v := 4) hx hb dX1_from_107 (by decide) ?_
          refine vp_callSi (va_Run.run (va_runV (As := [.int r_27, .int 4]) (rest := [.ref lk]) ⟨hx, hb, hml, hown, hts⟩ (mX3_part l dC dI cyI cyZ ru rt zz tg r_27 4 (by omega)) (cwV 2 hts gX1_from_X3_part rfl rfl rfl (by decide +kernel) ⟨Nat.le_of_ble_eq_true rfl, Nat.le_of_ble_eq_true rfl⟩) (bs_RV hB (hP.sub (ws' := [(ru, .inr (2, [.ref rt, .int (nI zz)])), (rt, .inl (cyI, 60, .inl tg))]) [1, 2] rfl) 0 rfl rfl) rfl rfl hl.1 rfl (lv_room (Nat.le_of_ble_eq_true rfl)) dX1_from_108 ⟨Nat.le_of_ble_eq_true rfl, Nat.le_of_ble_eq_true rfl⟩)) (fun r_31 hr_31 => ?_)
          refine lv_goto (tgt := 115) hx hb dX1_from_111 (by decide) ?_
          refine va_put (D := (dC, dI)) (ci := 0) (v := .int r_31) (ty := .int) (C := RX1) (T := TX1) (N := 5) hx hb hts hnX1_from_X1 tyX1 tyX1_ok nmX1 hown hK hP hD hS 0 rfl rfl 2 (by decide) (hts (.fieldLink RX1 58 "RingMeets$Look" "done" "I") (by decide +kernel)) (fun _ h9 => h9) rfl (by decide +kernel) rfl rfl (Nat.le_of_ble_eq_true rfl) dX1_from_115 (fun H locs hP hD hS => ?_)
          have hP : va_P (dC, dI) vwCl [(lk, .inr (0, [.int 0, .int r_27, .int r_31, .int i3, .int 0])), (ru, .inr (2, [.ref rt, .int (nI zz)])), (rt, .inl (cyI, 60, .inl tg))] _ := hP
          have hD : va_D A [(lk, .inr (0, [.int 0, .int r_27, .int r_31, .int i3, .int 0])), (ru, .inr (2, [.ref rt, .int (nI zz)])), (rt, .inl (cyI, 60, .inl tg))] := hD
          refine lv_aload_n hx hb dX1_from_118 rfl (lv_at hl 3 rfl) ?_
          refine lv_aload_n hx hb dX1_from_119 rfl (lv_at hl 3 rfl) ?_
          refine lv_iload_n hx hb dX1_from_120 rfl (lv_at hl 5 rfl) ?_
          refine lv_iload hx hb dX1_from_121 (lv_at hl 8 rfl) ?_
          refine vp_callSi (va_Run.run (va_runV (As := [.int (nI n), .int p5]) (rest := [.ref lk]) ⟨hx, hb, hml, hown, hts⟩ (mX1_goalFrom l dC dI cyI cyZ lk 0 r_27 r_31 i3 0 (nI n) p5 ) (cwV 2 hts gX1_from_X1_goalFrom rfl rfl rfl (by decide +kernel) ⟨Nat.le_of_ble_eq_true rfl, Nat.le_of_ble_eq_true rfl⟩) (bs_RV hB (hP.sub (ws' := [(lk, .inr (0, [.int 0, .int r_27, .int r_31, .int i3, .int 0]))]) [0] rfl) 0 rfl rfl) rfl rfl hl.1 rfl (lv_room (Nat.le_of_ble_eq_true rfl)) dX1_from_123 ⟨Nat.le_of_ble_eq_true rfl, Nat.le_of_ble_eq_true rfl⟩)) (fun r_32 hr_32 => ?_)
          refine va_put (D := (dC, dI)) (ci := 0) (v := .int r_32) (ty := .int) (C := RX1) (T := TX1) (N := 5) hx hb hts hnX1_from_X1 tyX1 tyX1_ok nmX1 hown hK hP hD hS 0 rfl rfl 3 (by decide) (hts (.fieldLink RX1 64 "RingMeets$Look" "goal" "I") (by decide +kernel)) (fun _ h9 => h9) rfl (by decide +kernel) rfl rfl (Nat.le_of_ble_eq_true rfl) dX1_from_126 (fun H locs hP hD hS => ?_)
          have hP : va_P (dC, dI) vwCl [(lk, .inr (0, [.int 0, .int r_27, .int r_31, .int r_32, .int 0])), (ru, .inr (2, [.ref rt, .int (nI zz)])), (rt, .inl (cyI, 60, .inl tg))] _ := hP
          have hD : va_D A [(lk, .inr (0, [.int 0, .int r_27, .int r_31, .int r_32, .int 0])), (ru, .inr (2, [.ref rt, .int (nI zz)])), (rt, .inl (cyI, 60, .inl tg))] := hD
          exact W.vret hx hb hr (fun t ht hW => ⟨⟨(0, r_27, r_31, r_32, 0), rfl, trivial, ⟨by rw [ht]; exact hP.sub (ws' := [(lk, .inr (0, [.int 0, .int r_27, .int r_31, .int r_32, .int 0])), (ru, .inr (2, [.ref rt, .int (nI zz)])), (rt, .inl (cyI, 60, .inl tg))]) [0, 1, 2] rfl, hD.sub (ws' := [(lk, .inr (0, [.int 0, .int r_27, .int r_31, .int r_32, .int 0])), (ru, .inr (2, [.ref rt, .int (nI zz)])), (rt, .inl (cyI, 60, .inl tg))]) [0, 1, 2] (by decide) rfl⟩⟩, hS.F ht⟩) hS.2.2 dX1_from_129
      · skip
        have ic_24 := ci_ne (rfl : Int32.toInt r_23 = _) (show Int32.toInt 0 = 0 by decide) c_24
        refine lv_iconst (v := 1) hx hb dX1_from_62 (by decide) ?_
        refine lv_goto (tgt := 67) hx hb dX1_from_63 (by decide) ?_
        refine lv_istore (lv' := [(8, .int 1), (7, .int r_2), (6, .int r_1), (0, .ref lk), (1, .ref ru), (2, .int (nI n)), (3, .int p3), (4, .int p4), (5, .int p5)]) hx hb dX1_from_67 hl (by decide) rfl (fun ls hl => ?_)
        refine lv_aload_n hx hb dX1_from_69 rfl (lv_at hl 3 rfl) ?_
        refine lv_aload_n hx hb dX1_from_70 rfl (lv_at hl 4 rfl) ?_
        refine lv_iload_n hx hb dX1_from_71 rfl (lv_at hl 6 rfl) ?_
        refine vp_callSi (va_Run.run (va_runS (As := [.int p3]) (rest := [.ref ru, .ref lk]) ⟨hx, hb, hml, hown, hts⟩ (mJ6_bitCount_0f7a4 l dC dI cyI cyZ p3 ) (va_cwS 1 hts gX1_from_J6_bitCount_0f7a4 rfl rfl rfl (by decide +kernel) ⟨Nat.le_of_ble_eq_true rfl, Nat.le_of_ble_eq_true rfl⟩) (bs_RS hB (hP.sub (ws' := []) [] rfl)) rfl rfl hl.1 rfl (lv_room (Nat.le_of_ble_eq_true rfl)) dX1_from_72 ⟨Nat.le_of_ble_eq_true rfl, Nat.le_of_ble_eq_true rfl⟩)) (fun r_33 hr_33 => ?_)
        refine lv_iload hx hb dX1_from_75 (lv_at hl 2 rfl) ?_
        refine lv_iload hx hb dX1_from_77 (lv_at hl 1 rfl) ?_
        refine va_mmin hx hb (by rw [hml]; exact hl.1.symm) hown (hts (.methodLink RX1 37 Lib.Math.min.name) (by decide +kernel)) (hts (.static Lib.Math.min.name) (by decide +kernel)) (hts (.initialized "java/lang/Math") (by decide +kernel)) (hts (.code Lib.Math.min.name Lib.Math.min.code 2 (some .int)) (by decide +kernel)) (Nat.le_of_ble_eq_true rfl) (Nat.le_of_ble_eq_true rfl) (Nat.le_of_ble_eq_true rfl) (Nat.le_of_ble_eq_true rfl) dX1_from_79 ?_
        refine lv_topi (fun x_34 ex_34 => ?_)
        refine lv_iload hx hb dX1_from_82 (lv_at hl 0 rfl) ?_
        refine vp_callSi (va_Run.run (va_runV (As := [.int r_33, .int x_34, .int 1]) (rest := [.ref lk]) ⟨hx, hb, hml, hown, hts⟩ (mX3_firstThatFits l dC dI cyI cyZ ru rt zz tg r_33 x_34 1 (by omega)) (cwV 3 hts gX1_from_X3_firstThatFits rfl rfl rfl (by decide +kernel) ⟨Nat.le_of_ble_eq_true rfl, Nat.le_of_ble_eq_true rfl⟩) (bs_RV hB (hP.sub (ws' := [(ru, .inr (2, [.ref rt, .int (nI zz)])), (rt, .inl (cyI, 60, .inl tg))]) [1, 2] rfl) 0 rfl rfl) rfl rfl hl.1 rfl (lv_room (Nat.le_of_ble_eq_true rfl)) dX1_from_84 ⟨Nat.le_of_ble_eq_true rfl, Nat.le_of_ble_eq_true rfl⟩)) (fun r_35 hr_35 => ?_)
        refine va_put (D := (dC, dI)) (ci := 0) (v := .int r_35) (ty := .int) (C := RX1) (T := TX1) (N := 5) hx hb hts hnX1_from_X1 tyX1 tyX1_ok nmX1 hown hK hP hD hS 0 rfl rfl 1 (by decide) (hts (.fieldLink RX1 49 "RingMeets$Look" "rule" "I") (by decide +kernel)) (fun _ h9 => h9) rfl (by decide +kernel) rfl rfl (Nat.le_of_ble_eq_true rfl) dX1_from_87 (fun H locs hP hD hS => ?_)
        have hP : va_P (dC, dI) vwCl [(lk, .inr (0, [.int 0, .int r_35, .int i2, .int i3, .int 0])), (ru, .inr (2, [.ref rt, .int (nI zz)])), (rt, .inl (cyI, 60, .inl tg))] _ := hP
        have hD : va_D A [(lk, .inr (0, [.int 0, .int r_35, .int i2, .int i3, .int 0])), (ru, .inr (2, [.ref rt, .int (nI zz)])), (rt, .inl (cyI, 60, .inl tg))] := hD
        refine lv_aload_n hx hb dX1_from_90 rfl (lv_at hl 3 rfl) ?_
        refine lv_aload_n hx hb dX1_from_91 rfl (lv_at hl 4 rfl) ?_
        refine lv_aload_n hx hb dX1_from_92 rfl (lv_at hl 3 rfl) ?_
        refine va_get (D := (dC, dI)) (ci := 0) (v := .int r_35) (C := RX1) (T := TX1) (N := 5) hx hb hts hnX1_from_X1 hown hK hP 0 rfl rfl 1 (by decide) (hts (.fieldLink RX1 49 "RingMeets$Look" "rule" "I") (by decide +kernel)) (fun _ h9 => h9) rfl dX1_from_93 ?_
        refine vp_callSi (va_Run.run (va_runV (As := [.int r_35]) (rest := [.ref lk]) ⟨hx, hb, hml, hown, hts⟩ (mX3_has l dC dI cyI cyZ ru rt zz r_35 (by omega)) (cwV 1 hts gX1_from_X3_has rfl rfl rfl (by decide +kernel) ⟨Nat.le_of_ble_eq_true rfl, Nat.le_of_ble_eq_true rfl⟩) (bs_RV hB (hP.sub (ws' := [(ru, .inr (2, [.ref rt, .int (nI zz)]))]) [1] rfl) 0 rfl rfl) rfl rfl hl.1 rfl (lv_room (Nat.le_of_ble_eq_true rfl)) dX1_from_96 ⟨Nat.le_of_ble_eq_true rfl, Nat.le_of_ble_eq_true rfl⟩)) (fun r_36 hr_36 => ?_)
        refine lv_if_eq (tgt := 114) hx hb dX1_from_99 (by decide) (fun c_37 => ?_) (fun c_37 => ?_)
        · skip
          have ic_37 := ci_eq (rfl : Int32.toInt r_36 = _) (show Int32.toInt 0 = 0 by decide) c_37
          refine lv_iconst (v := 0) hx hb dX1_from_114 (by decide) ?_
          refine va_put (D := (dC, dI)) (ci := 0) (v := .int 0) (ty := .int) (C := RX1) (T := TX1) (N := 5) hx hb hts hnX1_from_X1 tyX1 tyX1_ok nmX1 hown hK hP hD hS 0 rfl rfl 2 (by decide) (hts (.fieldLink RX1 58 "RingMeets$Look" "done" "I") (by decide +kernel)) (fun _ h9 => h9) rfl (by decide +kernel) rfl rfl (Nat.le_of_ble_eq_true rfl) dX1_from_115 (fun H locs hP hD hS => ?_)
          have hP : va_P (dC, dI) vwCl [(lk, .inr (0, [.int 0, .int r_35, .int 0, .int i3, .int 0])), (ru, .inr (2, [.ref rt, .int (nI zz)])), (rt, .inl (cyI, 60, .inl tg))] _ := hP
          have hD : va_D A [(lk, .inr (0, [.int 0, .int r_35, .int 0, .int i3, .int 0])), (ru, .inr (2, [.ref rt, .int (nI zz)])), (rt, .inl (cyI, 60, .inl tg))] := hD
          refine lv_aload_n hx hb dX1_from_118 rfl (lv_at hl 3 rfl) ?_
          refine lv_aload_n hx hb dX1_from_119 rfl (lv_at hl 3 rfl) ?_
          refine lv_iload_n hx hb dX1_from_120 rfl (lv_at hl 5 rfl) ?_
          refine lv_iload hx hb dX1_from_121 (lv_at hl 8 rfl) ?_
          refine vp_callSi (va_Run.run (va_runV (As := [.int (nI n), .int p5]) (rest := [.ref lk]) ⟨hx, hb, hml, hown, hts⟩ (mX1_goalFrom l dC dI cyI cyZ lk 0 r_35 0 i3 0 (nI n) p5 ) (cwV 2 hts gX1_from_X1_goalFrom rfl rfl rfl (by decide +kernel) ⟨Nat.le_of_ble_eq_true rfl, Nat.le_of_ble_eq_true rfl⟩) (bs_RV hB (hP.sub (ws' := [(lk, .inr (0, [.int 0, .int r_35, .int 0, .int i3, .int 0]))]) [0] rfl) 0 rfl rfl) rfl rfl hl.1 rfl (lv_room (Nat.le_of_ble_eq_true rfl)) dX1_from_123 ⟨Nat.le_of_ble_eq_true rfl, Nat.le_of_ble_eq_true rfl⟩)) (fun r_38 hr_38 => ?_)
          refine va_put (D := (dC, dI)) (ci := 0) (v := .int r_38) (ty := .int) (C := RX1) (T := TX1) (N := 5) hx hb hts hnX1_from_X1 tyX1 tyX1_ok nmX1 hown hK hP hD hS 0 rfl rfl 3 (by decide) (hts (.fieldLink RX1 64 "RingMeets$Look" "goal" "I") (by decide +kernel)) (fun _ h9 => h9) rfl (by decide +kernel) rfl rfl (Nat.le_of_ble_eq_true rfl) dX1_from_126 (fun H locs hP hD hS => ?_)
          have hP : va_P (dC, dI) vwCl [(lk, .inr (0, [.int 0, .int r_35, .int 0, .int r_38, .int 0])), (ru, .inr (2, [.ref rt, .int (nI zz)])), (rt, .inl (cyI, 60, .inl tg))] _ := hP
          have hD : va_D A [(lk, .inr (0, [.int 0, .int r_35, .int 0, .int r_38, .int 0])), (ru, .inr (2, [.ref rt, .int (nI zz)])), (rt, .inl (cyI, 60, .inl tg))] := hD
          exact W.vret hx hb hr (fun t ht hW => ⟨⟨(0, r_35, 0, r_38, 0), rfl, trivial, ⟨by rw [ht]; exact hP.sub (ws' := [(lk, .inr (0, [.int 0, .int r_35, .int 0, .int r_38, .int 0])), (ru, .inr (2, [.ref rt, .int (nI zz)])), (rt, .inl (cyI, 60, .inl tg))]) [0, 1, 2] rfl, hD.sub (ws' := [(lk, .inr (0, [.int 0, .int r_35, .int 0, .int r_38, .int 0])), (ru, .inr (2, [.ref rt, .int (nI zz)])), (rt, .inl (cyI, 60, .inl tg))]) [0, 1, 2] (by decide) rfl⟩⟩, hS.F ht⟩) hS.2.2 dX1_from_129
        · skip
          have ic_37 := ci_ne (rfl : Int32.toInt r_36 = _) (show Int32.toInt 0 = 0 by decide) c_37
          refine lv_aload_n hx hb dX1_from_102 rfl (lv_at hl 4 rfl) ?_
          refine lv_aload_n hx hb dX1_from_103 rfl (lv_at hl 3 rfl) ?_
          refine va_get (D := (dC, dI)) (ci := 0) (v := .int r_35) (C := RX1) (T := TX1) (N := 5) hx hb hts hnX1_from_X1 hown hK hP 0 rfl rfl 1 (by decide) (hts (.fieldLink RX1 49 "RingMeets$Look" "rule" "I") (by decide +kernel)) (fun _ h9 => h9) rfl dX1_from_104 ?_
          refine lv_iconst (v := 4) hx hb dX1_from_107 (by decide) ?_
          refine vp_callSi (va_Run.run (va_runV (As := [.int r_35, .int 4]) (rest := [.ref lk]) ⟨hx, hb, hml, hown, hts⟩ (mX3_part l dC dI cyI cyZ ru rt zz tg r_35 4 (by omega)) (cwV 2 hts gX1_from_X3_part rfl rfl rfl (by decide +kernel) ⟨Nat.le_of_ble_eq_true rfl, Nat.le_of_ble_eq_true rfl⟩) (bs_RV hB (hP.sub (ws' := [(ru, .inr (2, [.ref rt, .int (nI zz)])), (rt, .inl (cyI, 60, .inl tg))]) [1, 2] rfl) 0 rfl rfl) rfl rfl hl.1 rfl (lv_room (Nat.le_of_ble_eq_true rfl)) dX1_from_108 ⟨Nat.le_of_ble_eq_true rfl, Nat.le_of_ble_eq_true rfl⟩)) (fun r_39 hr_39 => ?_)
          refine lv_goto (tgt := 115) hx hb dX1_from_111 (by decide) ?_
          refine va_put (D := (dC, dI)) (ci := 0) (v := .int r_39) (ty := .int) (C := RX1) (T := TX1) (N := 5) hx hb hts hnX1_from_X1 tyX1 tyX1_ok nmX1 hown hK hP hD hS 0 rfl rfl 2 (by decide) (hts (.fieldLink RX1 58 "RingMeets$Look" "done" "I") (by decide +kernel)) (fun _ h9 => h9) rfl (by decide +kernel) rfl rfl (Nat.le_of_ble_eq_true rfl) dX1_from_115 (fun H locs hP hD hS => ?_)
          have hP : va_P (dC, dI) vwCl [(lk, .inr (0, [.int 0, .int r_35, .int r_39, .int i3, .int 0])), (ru, .inr (2, [.ref rt, .int (nI zz)])), (rt, .inl (cyI, 60, .inl tg))] _ := hP
          have hD : va_D A [(lk, .inr (0, [.int 0, .int r_35, .int r_39, .int i3, .int 0])), (ru, .inr (2, [.ref rt, .int (nI zz)])), (rt, .inl (cyI, 60, .inl tg))] := hD
          refine lv_aload_n hx hb dX1_from_118 rfl (lv_at hl 3 rfl) ?_
          refine lv_aload_n hx hb dX1_from_119 rfl (lv_at hl 3 rfl) ?_
          refine lv_iload_n hx hb dX1_from_120 rfl (lv_at hl 5 rfl) ?_
          refine lv_iload hx hb dX1_from_121 (lv_at hl 8 rfl) ?_
          refine vp_callSi (va_Run.run (va_runV (As := [.int (nI n), .int p5]) (rest := [.ref lk]) ⟨hx, hb, hml, hown, hts⟩ (mX1_goalFrom l dC dI cyI cyZ lk 0 r_35 r_39 i3 0 (nI n) p5 ) (cwV 2 hts gX1_from_X1_goalFrom rfl rfl rfl (by decide +kernel) ⟨Nat.le_of_ble_eq_true rfl, Nat.le_of_ble_eq_true rfl⟩) (bs_RV hB (hP.sub (ws' := [(lk, .inr (0, [.int 0, .int r_35, .int r_39, .int i3, .int 0]))]) [0] rfl) 0 rfl rfl) rfl rfl hl.1 rfl (lv_room (Nat.le_of_ble_eq_true rfl)) dX1_from_123 ⟨Nat.le_of_ble_eq_true rfl, Nat.le_of_ble_eq_true rfl⟩)) (fun r_40 hr_40 => ?_)
          refine va_put (D := (dC, dI)) (ci := 0) (v := .int r_40) (ty := .int) (C := RX1) (T := TX1) (N := 5) hx hb hts hnX1_from_X1 tyX1 tyX1_ok nmX1 hown hK hP hD hS 0 rfl rfl 3 (by decide) (hts (.fieldLink RX1 64 "RingMeets$Look" "goal" "I") (by decide +kernel)) (fun _ h9 => h9) rfl (by decide +kernel) rfl rfl (Nat.le_of_ble_eq_true rfl) dX1_from_126 (fun H locs hP hD hS => ?_)
          have hP : va_P (dC, dI) vwCl [(lk, .inr (0, [.int 0, .int r_35, .int r_39, .int r_40, .int 0])), (ru, .inr (2, [.ref rt, .int (nI zz)])), (rt, .inl (cyI, 60, .inl tg))] _ := hP
          have hD : va_D A [(lk, .inr (0, [.int 0, .int r_35, .int r_39, .int r_40, .int 0])), (ru, .inr (2, [.ref rt, .int (nI zz)])), (rt, .inl (cyI, 60, .inl tg))] := hD
          exact W.vret hx hb hr (fun t ht hW => ⟨⟨(0, r_35, r_39, r_40, 0), rfl, trivial, ⟨by rw [ht]; exact hP.sub (ws' := [(lk, .inr (0, [.int 0, .int r_35, .int r_39, .int r_40, .int 0])), (ru, .inr (2, [.ref rt, .int (nI zz)])), (rt, .inl (cyI, 60, .inl tg))]) [0, 1, 2] rfl, hD.sub (ws' := [(lk, .inr (0, [.int 0, .int r_35, .int r_39, .int r_40, .int 0])), (ru, .inr (2, [.ref rt, .int (nI zz)])), (rt, .inl (cyI, 60, .inl tg))]) [0, 1, 2] (by decide) rfl⟩⟩, hS.F ht⟩) hS.2.2 dX1_from_129
  · skip
    have ic_3 := ci_eq (rfl : Int32.toInt r_1 = _) (rfl : Int32.toInt r_2 = _) c_3
    refine lv_iconst (v := 1) hx hb dX1_from_28 (by decide) ?_
    refine lv_goto (tgt := 33) hx hb dX1_from_29 (by decide) ?_
    refine va_put (D := (dC, dI)) (ci := 0) (v := .int 1) (ty := .boolean) (C := RX1) (T := TX1) (N := 5) hx hb hts hnX1_from_X1 tyX1 tyX1_ok nmX1 hown hK hP hD hS 0 rfl rfl 4 (by decide) (hts (.fieldLink RX1 15 "RingMeets$Look" "even" "Z") (by decide +kernel)) (fun _ h9 => h9) rfl (by decide +kernel) rfl rfl (Nat.le_of_ble_eq_true rfl) dX1_from_33 (fun H locs hP hD hS => ?_)
    have hP : va_P (dC, dI) vwCl [(lk, .inr (0, [.int i0, .int i1, .int i2, .int i3, .int 1])), (ru, .inr (2, [.ref rt, .int (nI zz)])), (rt, .inl (cyI, 60, .inl tg))] _ := hP
    have hD : va_D A [(lk, .inr (0, [.int i0, .int i1, .int i2, .int i3, .int 1])), (ru, .inr (2, [.ref rt, .int (nI zz)])), (rt, .inl (cyI, 60, .inl tg))] := hD
    refine lv_aload_n hx hb dX1_from_36 rfl (lv_at hl 2 rfl) ?_
    refine lv_iload hx hb dX1_from_37 (lv_at hl 1 rfl) ?_
    refine lv_iload hx hb dX1_from_39 (lv_at hl 0 rfl) ?_
    refine lv_icmp_gt (tgt := 48) hx hb dX1_from_41 (by decide) (fun c_41 => ?_) (fun c_41 => ?_)
    · skip
      have ic_41 := ci_lt (rfl : Int32.toInt r_2 = _) (rfl : Int32.toInt r_1 = _) c_41
      refine lv_iconst (v := 1) hx hb dX1_from_48 (by decide) ?_
      refine va_put (D := (dC, dI)) (ci := 0) (v := .int 1) (ty := .int) (C := RX1) (T := TX1) (N := 5) hx hb hts hnX1_from_X1 tyX1 tyX1_ok nmX1 hown hK hP hD hS 0 rfl rfl 0 (by decide) (hts (.fieldLink RX1 21 "RingMeets$Look" "side" "I") (by decide +kernel)) (fun _ h9 => h9) rfl (by decide +kernel) rfl rfl (Nat.le_of_ble_eq_true rfl) dX1_from_49 (fun H locs hP hD hS => ?_)
      have hP : va_P (dC, dI) vwCl [(lk, .inr (0, [.int 1, .int i1, .int i2, .int i3, .int 1])), (ru, .inr (2, [.ref rt, .int (nI zz)])), (rt, .inl (cyI, 60, .inl tg))] _ := hP
      have hD : va_D A [(lk, .inr (0, [.int 1, .int i1, .int i2, .int i3, .int 1])), (ru, .inr (2, [.ref rt, .int (nI zz)])), (rt, .inl (cyI, 60, .inl tg))] := hD
      refine lv_iload hx hb dX1_from_52 (lv_at hl 6 rfl) ?_
      refine lv_iload hx hb dX1_from_54 (lv_at hl 7 rfl) ?_
      refine vp_callSi (va_Run.run (va_runS (As := [.int p4, .int p5]) (rest := []) ⟨hx, hb, hml, hown, hts⟩ (mX5_has l dC dI cyI cyZ p4 p5 ) (va_cwS 2 hts gX1_from_X5_has rfl rfl rfl (by decide +kernel) ⟨Nat.le_of_ble_eq_true rfl, Nat.le_of_ble_eq_true rfl⟩) (bs_RS hB (hP.sub (ws' := []) [] rfl)) rfl rfl hl.1 rfl (lv_room (Nat.le_of_ble_eq_true rfl)) dX1_from_56 ⟨Nat.le_of_ble_eq_true rfl, Nat.le_of_ble_eq_true rfl⟩)) (fun r_42 hr_42 => ?_)
      refine lv_if_eq (tgt := 66) hx hb dX1_from_59 (by decide) (fun c_43 => ?_) (fun c_43 => ?_)
      · skip
        have ic_43 := ci_eq (rfl : Int32.toInt r_42 = _) (show Int32.toInt 0 = 0 by decide) c_43
        refine lv_iconst (v := 0) hx hb dX1_from_66 (by decide) ?_
        refine lv_istore (lv' := [(8, .int 0), (7, .int r_2), (6, .int r_1), (0, .ref lk), (1, .ref ru), (2, .int (nI n)), (3, .int p3), (4, .int p4), (5, .int p5)]) hx hb dX1_from_67 hl (by decide) rfl (fun ls hl => ?_)
        refine lv_aload_n hx hb dX1_from_69 rfl (lv_at hl 3 rfl) ?_
        refine lv_aload_n hx hb dX1_from_70 rfl (lv_at hl 4 rfl) ?_
        refine lv_iload_n hx hb dX1_from_71 rfl (lv_at hl 6 rfl) ?_
        refine vp_callSi (va_Run.run (va_runS (As := [.int p3]) (rest := [.ref ru, .ref lk]) ⟨hx, hb, hml, hown, hts⟩ (mJ6_bitCount_0f7a4 l dC dI cyI cyZ p3 ) (va_cwS 1 hts gX1_from_J6_bitCount_0f7a4 rfl rfl rfl (by decide +kernel) ⟨Nat.le_of_ble_eq_true rfl, Nat.le_of_ble_eq_true rfl⟩) (bs_RS hB (hP.sub (ws' := []) [] rfl)) rfl rfl hl.1 rfl (lv_room (Nat.le_of_ble_eq_true rfl)) dX1_from_72 ⟨Nat.le_of_ble_eq_true rfl, Nat.le_of_ble_eq_true rfl⟩)) (fun r_44 hr_44 => ?_)
        refine lv_iload hx hb dX1_from_75 (lv_at hl 2 rfl) ?_
        refine lv_iload hx hb dX1_from_77 (lv_at hl 1 rfl) ?_
        refine va_mmin hx hb (by rw [hml]; exact hl.1.symm) hown (hts (.methodLink RX1 37 Lib.Math.min.name) (by decide +kernel)) (hts (.static Lib.Math.min.name) (by decide +kernel)) (hts (.initialized "java/lang/Math") (by decide +kernel)) (hts (.code Lib.Math.min.name Lib.Math.min.code 2 (some .int)) (by decide +kernel)) (Nat.le_of_ble_eq_true rfl) (Nat.le_of_ble_eq_true rfl) (Nat.le_of_ble_eq_true rfl) (Nat.le_of_ble_eq_true rfl) dX1_from_79 ?_
        refine lv_topi (fun x_45 ex_45 => ?_)
        refine lv_iload hx hb dX1_from_82 (lv_at hl 0 rfl) ?_
        refine vp_callSi (va_Run.run (va_runV (As := [.int r_44, .int x_45, .int 0]) (rest := [.ref lk]) ⟨hx, hb, hml, hown, hts⟩ (mX3_firstThatFits l dC dI cyI cyZ ru rt zz tg r_44 x_45 0 (by omega)) (cwV 3 hts gX1_from_X3_firstThatFits rfl rfl rfl (by decide +kernel) ⟨Nat.le_of_ble_eq_true rfl, Nat.le_of_ble_eq_true rfl⟩) (bs_RV hB (hP.sub (ws' := [(ru, .inr (2, [.ref rt, .int (nI zz)])), (rt, .inl (cyI, 60, .inl tg))]) [1, 2] rfl) 0 rfl rfl) rfl rfl hl.1 rfl (lv_room (Nat.le_of_ble_eq_true rfl)) dX1_from_84 ⟨Nat.le_of_ble_eq_true rfl, Nat.le_of_ble_eq_true rfl⟩)) (fun r_46 hr_46 => ?_)
        refine va_put (D := (dC, dI)) (ci := 0) (v := .int r_46) (ty := .int) (C := RX1) (T := TX1) (N := 5) hx hb hts hnX1_from_X1 tyX1 tyX1_ok nmX1 hown hK hP hD hS 0 rfl rfl 1 (by decide) (hts (.fieldLink RX1 49 "RingMeets$Look" "rule" "I") (by decide +kernel)) (fun _ h9 => h9) rfl (by decide +kernel) rfl rfl (Nat.le_of_ble_eq_true rfl) dX1_from_87 (fun H locs hP hD hS => ?_)
        have hP : va_P (dC, dI) vwCl [(lk, .inr (0, [.int 1, .int r_46, .int i2, .int i3, .int 1])), (ru, .inr (2, [.ref rt, .int (nI zz)])), (rt, .inl (cyI, 60, .inl tg))] _ := hP
        have hD : va_D A [(lk, .inr (0, [.int 1, .int r_46, .int i2, .int i3, .int 1])), (ru, .inr (2, [.ref rt, .int (nI zz)])), (rt, .inl (cyI, 60, .inl tg))] := hD
        refine lv_aload_n hx hb dX1_from_90 rfl (lv_at hl 3 rfl) ?_
        refine lv_aload_n hx hb dX1_from_91 rfl (lv_at hl 4 rfl) ?_
        refine lv_aload_n hx hb dX1_from_92 rfl (lv_at hl 3 rfl) ?_
        refine va_get (D := (dC, dI)) (ci := 0) (v := .int r_46) (C := RX1) (T := TX1) (N := 5) hx hb hts hnX1_from_X1 hown hK hP 0 rfl rfl 1 (by decide) (hts (.fieldLink RX1 49 "RingMeets$Look" "rule" "I") (by decide +kernel)) (fun _ h9 => h9) rfl dX1_from_93 ?_
        refine vp_callSi (va_Run.run (va_runV (As := [.int r_46]) (rest := [.ref lk]) ⟨hx, hb, hml, hown, hts⟩ (mX3_has l dC dI cyI cyZ ru rt zz r_46 (by omega)) (cwV 1 hts gX1_from_X3_has rfl rfl rfl (by decide +kernel) ⟨Nat.le_of_ble_eq_true rfl, Nat.le_of_ble_eq_true rfl⟩) (bs_RV hB (hP.sub (ws' := [(ru, .inr (2, [.ref rt, .int (nI zz)]))]) [1] rfl) 0 rfl rfl) rfl rfl hl.1 rfl (lv_room (Nat.le_of_ble_eq_true rfl)) dX1_from_96 ⟨Nat.le_of_ble_eq_true rfl, Nat.le_of_ble_eq_true rfl⟩)) (fun r_47 hr_47 => ?_)
        refine lv_if_eq (tgt := 114) hx hb dX1_from_99 (by decide) (fun c_48 => ?_) (fun c_48 => ?_)
        · skip
          have ic_48 := ci_eq (rfl : Int32.toInt r_47 = _) (show Int32.toInt 0 = 0 by decide) c_48
          refine lv_iconst (v := 0) hx hb dX1_from_114 (by decide) ?_
          refine va_put (D := (dC, dI)) (ci := 0) (v := .int 0) (ty := .int) (C := RX1) (T := TX1) (N := 5) hx hb hts hnX1_from_X1 tyX1 tyX1_ok nmX1 hown hK hP hD hS 0 rfl rfl 2 (by decide) (hts (.fieldLink RX1 58 "RingMeets$Look" "done" "I") (by decide +kernel)) (fun _ h9 => h9) rfl (by decide +kernel) rfl rfl (Nat.le_of_ble_eq_true rfl) dX1_from_115 (fun H locs hP hD hS => ?_)
          have hP : va_P (dC, dI) vwCl [(lk, .inr (0, [.int 1, .int r_46, .int 0, .int i3, .int 1])), (ru, .inr (2, [.ref rt, .int (nI zz)])), (rt, .inl (cyI, 60, .inl tg))] _ := hP
          have hD : va_D A [(lk, .inr (0, [.int 1, .int r_46, .int 0, .int i3, .int 1])), (ru, .inr (2, [.ref rt, .int (nI zz)])), (rt, .inl (cyI, 60, .inl tg))] := hD
          refine lv_aload_n hx hb dX1_from_118 rfl (lv_at hl 3 rfl) ?_
          refine lv_aload_n hx hb dX1_from_119 rfl (lv_at hl 3 rfl) ?_
          refine lv_iload_n hx hb dX1_from_120 rfl (lv_at hl 5 rfl) ?_
          refine lv_iload hx hb dX1_from_121 (lv_at hl 8 rfl) ?_
          refine vp_callSi (va_Run.run (va_runV (As := [.int (nI n), .int p5]) (rest := [.ref lk]) ⟨hx, hb, hml, hown, hts⟩ (mX1_goalFrom l dC dI cyI cyZ lk 1 r_46 0 i3 1 (nI n) p5 ) (cwV 2 hts gX1_from_X1_goalFrom rfl rfl rfl (by decide +kernel) ⟨Nat.le_of_ble_eq_true rfl, Nat.le_of_ble_eq_true rfl⟩) (bs_RV hB (hP.sub (ws' := [(lk, .inr (0, [.int 1, .int r_46, .int 0, .int i3, .int 1]))]) [0] rfl) 0 rfl rfl) rfl rfl hl.1 rfl (lv_room (Nat.le_of_ble_eq_true rfl)) dX1_from_123 ⟨Nat.le_of_ble_eq_true rfl, Nat.le_of_ble_eq_true rfl⟩)) (fun r_49 hr_49 => ?_)
          refine va_put (D := (dC, dI)) (ci := 0) (v := .int r_49) (ty := .int) (C := RX1) (T := TX1) (N := 5) hx hb hts hnX1_from_X1 tyX1 tyX1_ok nmX1 hown hK hP hD hS 0 rfl rfl 3 (by decide) (hts (.fieldLink RX1 64 "RingMeets$Look" "goal" "I") (by decide +kernel)) (fun _ h9 => h9) rfl (by decide +kernel) rfl rfl (Nat.le_of_ble_eq_true rfl) dX1_from_126 (fun H locs hP hD hS => ?_)
          have hP : va_P (dC, dI) vwCl [(lk, .inr (0, [.int 1, .int r_46, .int 0, .int r_49, .int 1])), (ru, .inr (2, [.ref rt, .int (nI zz)])), (rt, .inl (cyI, 60, .inl tg))] _ := hP
          have hD : va_D A [(lk, .inr (0, [.int 1, .int r_46, .int 0, .int r_49, .int 1])), (ru, .inr (2, [.ref rt, .int (nI zz)])), (rt, .inl (cyI, 60, .inl tg))] := hD
          exact W.vret hx hb hr (fun t ht hW => ⟨⟨(1, r_46, 0, r_49, 1), rfl, trivial, ⟨by rw [ht]; exact hP.sub (ws' := [(lk, .inr (0, [.int 1, .int r_46, .int 0, .int r_49, .int 1])), (ru, .inr (2, [.ref rt, .int (nI zz)])), (rt, .inl (cyI, 60, .inl tg))]) [0, 1, 2] rfl, hD.sub (ws' := [(lk, .inr (0, [.int 1, .int r_46, .int 0, .int r_49, .int 1])), (ru, .inr (2, [.ref rt, .int (nI zz)])), (rt, .inl (cyI, 60, .inl tg))]) [0, 1, 2] (by decide) rfl⟩⟩, hS.F ht⟩) hS.2.2 dX1_from_129
        · skip
          have ic_48 := ci_ne (rfl : Int32.toInt r_47 = _) (show Int32.toInt 0 = 0 by decide) c_48
          refine lv_aload_n hx hb dX1_from_102 rfl (lv_at hl 4 rfl) ?_
          refine lv_aload_n hx hb dX1_from_103 rfl (lv_at hl 3 rfl) ?_
          refine va_get (D := (dC, dI)) (ci := 0) (v := .int r_46) (C := RX1) (T := TX1) (N := 5) hx hb hts hnX1_from_X1 hown hK hP 0 rfl rfl 1 (by decide) (hts (.fieldLink RX1 49 "RingMeets$Look" "rule" "I") (by decide +kernel)) (fun _ h9 => h9) rfl dX1_from_104 ?_
          refine lv_iconst (v := 4) hx hb dX1_from_107 (by decide) ?_
          refine vp_callSi (va_Run.run (va_runV (As := [.int r_46, .int 4]) (rest := [.ref lk]) ⟨hx, hb, hml, hown, hts⟩ (mX3_part l dC dI cyI cyZ ru rt zz tg r_46 4 (by omega)) (cwV 2 hts gX1_from_X3_part rfl rfl rfl (by decide +kernel) ⟨Nat.le_of_ble_eq_true rfl, Nat.le_of_ble_eq_true rfl⟩) (bs_RV hB (hP.sub (ws' := [(ru, .inr (2, [.ref rt, .int (nI zz)])), (rt, .inl (cyI, 60, .inl tg))]) [1, 2] rfl) 0 rfl rfl) rfl rfl hl.1 rfl (lv_room (Nat.le_of_ble_eq_true rfl)) dX1_from_108 ⟨Nat.le_of_ble_eq_true rfl, Nat.le_of_ble_eq_true rfl⟩)) (fun r_50 hr_50 => ?_)
          refine lv_goto (tgt := 115) hx hb dX1_from_111 (by decide) ?_
          refine va_put (D := (dC, dI)) (ci := 0) (v := .int r_50) (ty := .int) (C := RX1) (T := TX1) (N := 5) hx hb hts hnX1_from_X1 tyX1 tyX1_ok nmX1 hown hK hP hD hS 0 rfl rfl 2 (by decide) (hts (.fieldLink RX1 58 "RingMeets$Look" "done" "I") (by decide +kernel)) (fun _ h9 => h9) rfl (by decide +kernel) rfl rfl (Nat.le_of_ble_eq_true rfl) dX1_from_115 (fun H locs hP hD hS => ?_)
          have hP : va_P (dC, dI) vwCl [(lk, .inr (0, [.int 1, .int r_46, .int r_50, .int i3, .int 1])), (ru, .inr (2, [.ref rt, .int (nI zz)])), (rt, .inl (cyI, 60, .inl tg))] _ := hP
          have hD : va_D A [(lk, .inr (0, [.int 1, .int r_46, .int r_50, .int i3, .int 1])), (ru, .inr (2, [.ref rt, .int (nI zz)])), (rt, .inl (cyI, 60, .inl tg))] := hD
          refine lv_aload_n hx hb dX1_from_118 rfl (lv_at hl 3 rfl) ?_
          refine lv_aload_n hx hb dX1_from_119 rfl (lv_at hl 3 rfl) ?_
          refine lv_iload_n hx hb dX1_from_120 rfl (lv_at hl 5 rfl) ?_
          refine lv_iload hx hb dX1_from_121 (lv_at hl 8 rfl) ?_
          refine vp_callSi (va_Run.run (va_runV (As := [.int (nI n), .int p5]) (rest := [.ref lk]) ⟨hx, hb, hml, hown, hts⟩ (mX1_goalFrom l dC dI cyI cyZ lk 1 r_46 r_50 i3 1 (nI n) p5 ) (cwV 2 hts gX1_from_X1_goalFrom rfl rfl rfl (by decide +kernel) ⟨Nat.le_of_ble_eq_true rfl, Nat.le_of_ble_eq_true rfl⟩) (bs_RV hB (hP.sub (ws' := [(lk, .inr (0, [.int 1, .int r_46, .int r_50, .int i3, .int 1]))]) [0] rfl) 0 rfl rfl) rfl rfl hl.1 rfl (lv_room (Nat.le_of_ble_eq_true rfl)) dX1_from_123 ⟨Nat.le_of_ble_eq_true rfl, Nat.le_of_ble_eq_true rfl⟩)) (fun r_51 hr_51 => ?_)
          refine va_put (D := (dC, dI)) (ci := 0) (v := .int r_51) (ty := .int) (C := RX1) (T := TX1) (N := 5) hx hb hts hnX1_from_X1 tyX1 tyX1_ok nmX1 hown hK hP hD hS 0 rfl rfl 3 (by decide) (hts (.fieldLink RX1 64 "RingMeets$Look" "goal" "I") (by decide +kernel)) (fun _ h9 => h9) rfl (by decide +kernel) rfl rfl (Nat.le_of_ble_eq_true rfl) dX1_from_126 (fun H locs hP hD hS => ?_)
          have hP : va_P (dC, dI) vwCl [(lk, .inr (0, [.int 1, .int r_46, .int r_50, .int r_51, .int 1])), (ru, .inr (2, [.ref rt, .int (nI zz)])), (rt, .inl (cyI, 60, .inl tg))] _ := hP
          have hD : va_D A [(lk, .inr (0, [.int 1, .int r_46, .int r_50, .int r_51, .int 1])), (ru, .inr (2, [.ref rt, .int (nI zz)])), (rt, .inl (cyI, 60, .inl tg))] := hD
          exact W.vret hx hb hr (fun t ht hW => ⟨⟨(1, r_46, r_50, r_51, 1), rfl, trivial, ⟨by rw [ht]; exact hP.sub (ws' := [(lk, .inr (0, [.int 1, .int r_46, .int r_50, .int r_51, .int 1])), (ru, .inr (2, [.ref rt, .int (nI zz)])), (rt, .inl (cyI, 60, .inl tg))]) [0, 1, 2] rfl, hD.sub (ws' := [(lk, .inr (0, [.int 1, .int r_46, .int r_50, .int r_51, .int 1])), (ru, .inr (2, [.ref rt, .int (nI zz)])), (rt, .inl (cyI, 60, .inl tg))]) [0, 1, 2] (by decide) rfl⟩⟩, hS.F ht⟩) hS.2.2 dX1_from_129
      · skip
        have ic_43 := ci_ne (rfl : Int32.toInt r_42 = _) (show Int32.toInt 0 = 0 by decide) c_43
        refine lv_iconst (v := 1) hx hb dX1_from_62 (by decide) ?_
        refine lv_goto (tgt := 67) hx hb dX1_from_63 (by decide) ?_
        refine lv_istore (lv' := [(8, .int 1), (7, .int r_2), (6, .int r_1), (0, .ref lk), (1, .ref ru), (2, .int (nI n)), (3, .int p3), (4, .int p4), (5, .int p5)]) hx hb dX1_from_67 hl (by decide) rfl (fun ls hl => ?_)
        refine lv_aload_n hx hb dX1_from_69 rfl (lv_at hl 3 rfl) ?_
        refine lv_aload_n hx hb dX1_from_70 rfl (lv_at hl 4 rfl) ?_
        refine lv_iload_n hx hb dX1_from_71 rfl (lv_at hl 6 rfl) ?_
        refine vp_callSi (va_Run.run (va_runS (As := [.int p3]) (rest := [.ref ru, .ref lk]) ⟨hx, hb, hml, hown, hts⟩ (mJ6_bitCount_0f7a4 l dC dI cyI cyZ p3 ) (va_cwS 1 hts gX1_from_J6_bitCount_0f7a4 rfl rfl rfl (by decide +kernel) ⟨Nat.le_of_ble_eq_true rfl, Nat.le_of_ble_eq_true rfl⟩) (bs_RS hB (hP.sub (ws' := []) [] rfl)) rfl rfl hl.1 rfl (lv_room (Nat.le_of_ble_eq_true rfl)) dX1_from_72 ⟨Nat.le_of_ble_eq_true rfl, Nat.le_of_ble_eq_true rfl⟩)) (fun r_52 hr_52 => ?_)
        refine lv_iload hx hb dX1_from_75 (lv_at hl 2 rfl) ?_
        refine lv_iload hx hb dX1_from_77 (lv_at hl 1 rfl) ?_
        refine va_mmin hx hb (by rw [hml]; exact hl.1.symm) hown (hts (.methodLink RX1 37 Lib.Math.min.name) (by decide +kernel)) (hts (.static Lib.Math.min.name) (by decide +kernel)) (hts (.initialized "java/lang/Math") (by decide +kernel)) (hts (.code Lib.Math.min.name Lib.Math.min.code 2 (some .int)) (by decide +kernel)) (Nat.le_of_ble_eq_true rfl) (Nat.le_of_ble_eq_true rfl) (Nat.le_of_ble_eq_true rfl) (Nat.le_of_ble_eq_true rfl) dX1_from_79 ?_
        refine lv_topi (fun x_53 ex_53 => ?_)
        refine lv_iload hx hb dX1_from_82 (lv_at hl 0 rfl) ?_
        refine vp_callSi (va_Run.run (va_runV (As := [.int r_52, .int x_53, .int 1]) (rest := [.ref lk]) ⟨hx, hb, hml, hown, hts⟩ (mX3_firstThatFits l dC dI cyI cyZ ru rt zz tg r_52 x_53 1 (by omega)) (cwV 3 hts gX1_from_X3_firstThatFits rfl rfl rfl (by decide +kernel) ⟨Nat.le_of_ble_eq_true rfl, Nat.le_of_ble_eq_true rfl⟩) (bs_RV hB (hP.sub (ws' := [(ru, .inr (2, [.ref rt, .int (nI zz)])), (rt, .inl (cyI, 60, .inl tg))]) [1, 2] rfl) 0 rfl rfl) rfl rfl hl.1 rfl (lv_room (Nat.le_of_ble_eq_true rfl)) dX1_from_84 ⟨Nat.le_of_ble_eq_true rfl, Nat.le_of_ble_eq_true rfl⟩)) (fun r_54 hr_54 => ?_)
        refine va_put (D := (dC, dI)) (ci := 0) (v := .int r_54) (ty := .int) (C := RX1) (T := TX1) (N := 5) hx hb hts hnX1_from_X1 tyX1 tyX1_ok nmX1 hown hK hP hD hS 0 rfl rfl 1 (by decide) (hts (.fieldLink RX1 49 "RingMeets$Look" "rule" "I") (by decide +kernel)) (fun _ h9 => h9) rfl (by decide +kernel) rfl rfl (Nat.le_of_ble_eq_true rfl) dX1_from_87 (fun H locs hP hD hS => ?_)
        have hP : va_P (dC, dI) vwCl [(lk, .inr (0, [.int 1, .int r_54, .int i2, .int i3, .int 1])), (ru, .inr (2, [.ref rt, .int (nI zz)])), (rt, .inl (cyI, 60, .inl tg))] _ := hP
        have hD : va_D A [(lk, .inr (0, [.int 1, .int r_54, .int i2, .int i3, .int 1])), (ru, .inr (2, [.ref rt, .int (nI zz)])), (rt, .inl (cyI, 60, .inl tg))] := hD
        refine lv_aload_n hx hb dX1_from_90 rfl (lv_at hl 3 rfl) ?_
        refine lv_aload_n hx hb dX1_from_91 rfl (lv_at hl 4 rfl) ?_
        refine lv_aload_n hx hb dX1_from_92 rfl (lv_at hl 3 rfl) ?_
        refine va_get (D := (dC, dI)) (ci := 0) (v := .int r_54) (C := RX1) (T := TX1) (N := 5) hx hb hts hnX1_from_X1 hown hK hP 0 rfl rfl 1 (by decide) (hts (.fieldLink RX1 49 "RingMeets$Look" "rule" "I") (by decide +kernel)) (fun _ h9 => h9) rfl dX1_from_93 ?_
        refine vp_callSi (va_Run.run (va_runV (As := [.int r_54]) (rest := [.ref lk]) ⟨hx, hb, hml, hown, hts⟩ (mX3_has l dC dI cyI cyZ ru rt zz r_54 (by omega)) (cwV 1 hts gX1_from_X3_has rfl rfl rfl (by decide +kernel) ⟨Nat.le_of_ble_eq_true rfl, Nat.le_of_ble_eq_true rfl⟩) (bs_RV hB (hP.sub (ws' := [(ru, .inr (2, [.ref rt, .int (nI zz)]))]) [1] rfl) 0 rfl rfl) rfl rfl hl.1 rfl (lv_room (Nat.le_of_ble_eq_true rfl)) dX1_from_96 ⟨Nat.le_of_ble_eq_true rfl, Nat.le_of_ble_eq_true rfl⟩)) (fun r_55 hr_55 => ?_)
        refine lv_if_eq (tgt := 114) hx hb dX1_from_99 (by decide) (fun c_56 => ?_) (fun c_56 => ?_)
        · skip
          have ic_56 := ci_eq (rfl : Int32.toInt r_55 = _) (show Int32.toInt 0 = 0 by decide) c_56
          refine lv_iconst (v := 0) hx hb dX1_from_114 (by decide) ?_
          refine va_put (D := (dC, dI)) (ci := 0) (v := .int 0) (ty := .int) (C := RX1) (T := TX1) (N := 5) hx hb hts hnX1_from_X1 tyX1 tyX1_ok nmX1 hown hK hP hD hS 0 rfl rfl 2 (by decide) (hts (.fieldLink RX1 58 "RingMeets$Look" "done" "I") (by decide +kernel)) (fun _ h9 => h9) rfl (by decide +kernel) rfl rfl (Nat.le_of_ble_eq_true rfl) dX1_from_115 (fun H locs hP hD hS => ?_)
          have hP : va_P (dC, dI) vwCl [(lk, .inr (0, [.int 1, .int r_54, .int 0, .int i3, .int 1])), (ru, .inr (2, [.ref rt, .int (nI zz)])), (rt, .inl (cyI, 60, .inl tg))] _ := hP
          have hD : va_D A [(lk, .inr (0, [.int 1, .int r_54, .int 0, .int i3, .int 1])), (ru, .inr (2, [.ref rt, .int (nI zz)])), (rt, .inl (cyI, 60, .inl tg))] := hD
          refine lv_aload_n hx hb dX1_from_118 rfl (lv_at hl 3 rfl) ?_
          refine lv_aload_n hx hb dX1_from_119 rfl (lv_at hl 3 rfl) ?_
          refine lv_iload_n hx hb dX1_from_120 rfl (lv_at hl 5 rfl) ?_
          refine lv_iload hx hb dX1_from_121 (lv_at hl 8 rfl) ?_
          refine vp_callSi (va_Run.run (va_runV (As := [.int (nI n), .int p5]) (rest := [.ref lk]) ⟨hx, hb, hml, hown, hts⟩ (mX1_goalFrom l dC dI cyI cyZ lk 1 r_54 0 i3 1 (nI n) p5 ) (cwV 2 hts gX1_from_X1_goalFrom rfl rfl rfl (by decide +kernel) ⟨Nat.le_of_ble_eq_true rfl, Nat.le_of_ble_eq_true rfl⟩) (bs_RV hB (hP.sub (ws' := [(lk, .inr (0, [.int 1, .int r_54, .int 0, .int i3, .int 1]))]) [0] rfl) 0 rfl rfl) rfl rfl hl.1 rfl (lv_room (Nat.le_of_ble_eq_true rfl)) dX1_from_123 ⟨Nat.le_of_ble_eq_true rfl, Nat.le_of_ble_eq_true rfl⟩)) (fun r_57 hr_57 => ?_)
          refine va_put (D := (dC, dI)) (ci := 0) (v := .int r_57) (ty := .int) (C := RX1) (T := TX1) (N := 5) hx hb hts hnX1_from_X1 tyX1 tyX1_ok nmX1 hown hK hP hD hS 0 rfl rfl 3 (by decide) (hts (.fieldLink RX1 64 "RingMeets$Look" "goal" "I") (by decide +kernel)) (fun _ h9 => h9) rfl (by decide +kernel) rfl rfl (Nat.le_of_ble_eq_true rfl) dX1_from_126 (fun H locs hP hD hS => ?_)
          have hP : va_P (dC, dI) vwCl [(lk, .inr (0, [.int 1, .int r_54, .int 0, .int r_57, .int 1])), (ru, .inr (2, [.ref rt, .int (nI zz)])), (rt, .inl (cyI, 60, .inl tg))] _ := hP
          have hD : va_D A [(lk, .inr (0, [.int 1, .int r_54, .int 0, .int r_57, .int 1])), (ru, .inr (2, [.ref rt, .int (nI zz)])), (rt, .inl (cyI, 60, .inl tg))] := hD
          exact W.vret hx hb hr (fun t ht hW => ⟨⟨(1, r_54, 0, r_57, 1), rfl, trivial, ⟨by rw [ht]; exact hP.sub (ws' := [(lk, .inr (0, [.int 1, .int r_54, .int 0, .int r_57, .int 1])), (ru, .inr (2, [.ref rt, .int (nI zz)])), (rt, .inl (cyI, 60, .inl tg))]) [0, 1, 2] rfl, hD.sub (ws' := [(lk, .inr (0, [.int 1, .int r_54, .int 0, .int r_57, .int 1])), (ru, .inr (2, [.ref rt, .int (nI zz)])), (rt, .inl (cyI, 60, .inl tg))]) [0, 1, 2] (by decide) rfl⟩⟩, hS.F ht⟩) hS.2.2 dX1_from_129
        · skip
          have ic_56 := ci_ne (rfl : Int32.toInt r_55 = _) (show Int32.toInt 0 = 0 by decide) c_56
          refine lv_aload_n hx hb dX1_from_102 rfl (lv_at hl 4 rfl) ?_
          refine lv_aload_n hx hb dX1_from_103 rfl (lv_at hl 3 rfl) ?_
          refine va_get (D := (dC, dI)) (ci := 0) (v := .int r_54) (C := RX1) (T := TX1) (N := 5) hx hb hts hnX1_from_X1 hown hK hP 0 rfl rfl 1 (by decide) (hts (.fieldLink RX1 49 "RingMeets$Look" "rule" "I") (by decide +kernel)) (fun _ h9 => h9) rfl dX1_from_104 ?_
          refine lv_iconst (v := 4) hx hb dX1_from_107 (by decide) ?_
          refine vp_callSi (va_Run.run (va_runV (As := [.int r_54, .int 4]) (rest := [.ref lk]) ⟨hx, hb, hml, hown, hts⟩ (mX3_part l dC dI cyI cyZ ru rt zz tg r_54 4 (by omega)) (cwV 2 hts gX1_from_X3_part rfl rfl rfl (by decide +kernel) ⟨Nat.le_of_ble_eq_true rfl, Nat.le_of_ble_eq_true rfl⟩) (bs_RV hB (hP.sub (ws' := [(ru, .inr (2, [.ref rt, .int (nI zz)])), (rt, .inl (cyI, 60, .inl tg))]) [1, 2] rfl) 0 rfl rfl) rfl rfl hl.1 rfl (lv_room (Nat.le_of_ble_eq_true rfl)) dX1_from_108 ⟨Nat.le_of_ble_eq_true rfl, Nat.le_of_ble_eq_true rfl⟩)) (fun r_58 hr_58 => ?_)
          refine lv_goto (tgt := 115) hx hb dX1_from_111 (by decide) ?_
          refine va_put (D := (dC, dI)) (ci := 0) (v := .int r_58) (ty := .int) (C := RX1) (T := TX1) (N := 5) hx hb hts hnX1_from_X1 tyX1 tyX1_ok nmX1 hown hK hP hD hS 0 rfl rfl 2 (by decide) (hts (.fieldLink RX1 58 "RingMeets$Look" "done" "I") (by decide +kernel)) (fun _ h9 => h9) rfl (by decide +kernel) rfl rfl (Nat.le_of_ble_eq_true rfl) dX1_from_115 (fun H locs hP hD hS => ?_)
          have hP : va_P (dC, dI) vwCl [(lk, .inr (0, [.int 1, .int r_54, .int r_58, .int i3, .int 1])), (ru, .inr (2, [.ref rt, .int (nI zz)])), (rt, .inl (cyI, 60, .inl tg))] _ := hP
          have hD : va_D A [(lk, .inr (0, [.int 1, .int r_54, .int r_58, .int i3, .int 1])), (ru, .inr (2, [.ref rt, .int (nI zz)])), (rt, .inl (cyI, 60, .inl tg))] := hD
          refine lv_aload_n hx hb dX1_from_118 rfl (lv_at hl 3 rfl) ?_
          refine lv_aload_n hx hb dX1_from_119 rfl (lv_at hl 3 rfl) ?_
          refine lv_iload_n hx hb dX1_from_120 rfl (lv_at hl 5 rfl) ?_
          refine lv_iload hx hb dX1_from_121 (lv_at hl 8 rfl) ?_
          refine vp_callSi (va_Run.run (va_runV (As := [.int (nI n), .int p5]) (rest := [.ref lk]) ⟨hx, hb, hml, hown, hts⟩ (mX1_goalFrom l dC dI cyI cyZ lk 1 r_54 r_58 i3 1 (nI n) p5 ) (cwV 2 hts gX1_from_X1_goalFrom rfl rfl rfl (by decide +kernel) ⟨Nat.le_of_ble_eq_true rfl, Nat.le_of_ble_eq_true rfl⟩) (bs_RV hB (hP.sub (ws' := [(lk, .inr (0, [.int 1, .int r_54, .int r_58, .int i3, .int 1]))]) [0] rfl) 0 rfl rfl) rfl rfl hl.1 rfl (lv_room (Nat.le_of_ble_eq_true rfl)) dX1_from_123 ⟨Nat.le_of_ble_eq_true rfl, Nat.le_of_ble_eq_true rfl⟩)) (fun r_59 hr_59 => ?_)
          refine va_put (D := (dC, dI)) (ci := 0) (v := .int r_59) (ty := .int) (C := RX1) (T := TX1) (N := 5) hx hb hts hnX1_from_X1 tyX1 tyX1_ok nmX1 hown hK hP hD hS 0 rfl rfl 3 (by decide) (hts (.fieldLink RX1 64 "RingMeets$Look" "goal" "I") (by decide +kernel)) (fun _ h9 => h9) rfl (by decide +kernel) rfl rfl (Nat.le_of_ble_eq_true rfl) dX1_from_126 (fun H locs hP hD hS => ?_)
          have hP : va_P (dC, dI) vwCl [(lk, .inr (0, [.int 1, .int r_54, .int r_58, .int r_59, .int 1])), (ru, .inr (2, [.ref rt, .int (nI zz)])), (rt, .inl (cyI, 60, .inl tg))] _ := hP
          have hD : va_D A [(lk, .inr (0, [.int 1, .int r_54, .int r_58, .int r_59, .int 1])), (ru, .inr (2, [.ref rt, .int (nI zz)])), (rt, .inl (cyI, 60, .inl tg))] := hD
          exact W.vret hx hb hr (fun t ht hW => ⟨⟨(1, r_54, r_58, r_59, 1), rfl, trivial, ⟨by rw [ht]; exact hP.sub (ws' := [(lk, .inr (0, [.int 1, .int r_54, .int r_58, .int r_59, .int 1])), (ru, .inr (2, [.ref rt, .int (nI zz)])), (rt, .inl (cyI, 60, .inl tg))]) [0, 1, 2] rfl, hD.sub (ws' := [(lk, .inr (0, [.int 1, .int r_54, .int r_58, .int r_59, .int 1])), (ru, .inr (2, [.ref rt, .int (nI zz)])), (rt, .inl (cyI, 60, .inl tg))]) [0, 1, 2] (by decide) rfl⟩⟩, hS.F ht⟩) hS.2.2 dX1_from_129
    · skip
      have ic_41 := ci_nlt (rfl : Int32.toInt r_2 = _) (rfl : Int32.toInt r_1 = _) c_41
      refine lv_iconst (v := 0) hx hb dX1_from_44 (by decide) ?_
      refine lv_goto (tgt := 49) hx hb dX1_from_45 (by decide) ?_
      refine va_put (D := (dC, dI)) (ci := 0) (v := .int 0) (ty := .int) (C := RX1) (T := TX1) (N := 5) hx hb hts hnX1_from_X1 tyX1 tyX1_ok nmX1 hown hK hP hD hS 0 rfl rfl 0 (by decide) (hts (.fieldLink RX1 21 "RingMeets$Look" "side" "I") (by decide +kernel)) (fun _ h9 => h9) rfl (by decide +kernel) rfl rfl (Nat.le_of_ble_eq_true rfl) dX1_from_49 (fun H locs hP hD hS => ?_)
      have hP : va_P (dC, dI) vwCl [(lk, .inr (0, [.int 0, .int i1, .int i2, .int i3, .int 1])), (ru, .inr (2, [.ref rt, .int (nI zz)])), (rt, .inl (cyI, 60, .inl tg))] _ := hP
      have hD : va_D A [(lk, .inr (0, [.int 0, .int i1, .int i2, .int i3, .int 1])), (ru, .inr (2, [.ref rt, .int (nI zz)])), (rt, .inl (cyI, 60, .inl tg))] := hD
      refine lv_iload hx hb dX1_from_52 (lv_at hl 6 rfl) ?_
      refine lv_iload hx hb dX1_from_54 (lv_at hl 7 rfl) ?_
      refine vp_callSi (va_Run.run (va_runS (As := [.int p4, .int p5]) (rest := []) ⟨hx, hb, hml, hown, hts⟩ (mX5_has l dC dI cyI cyZ p4 p5 ) (va_cwS 2 hts gX1_from_X5_has rfl rfl rfl (by decide +kernel) ⟨Nat.le_of_ble_eq_true rfl, Nat.le_of_ble_eq_true rfl⟩) (bs_RS hB (hP.sub (ws' := []) [] rfl)) rfl rfl hl.1 rfl (lv_room (Nat.le_of_ble_eq_true rfl)) dX1_from_56 ⟨Nat.le_of_ble_eq_true rfl, Nat.le_of_ble_eq_true rfl⟩)) (fun r_60 hr_60 => ?_)
      refine lv_if_eq (tgt := 66) hx hb dX1_from_59 (by decide) (fun c_61 => ?_) (fun c_61 => ?_)
      · skip
        have ic_61 := ci_eq (rfl : Int32.toInt r_60 = _) (show Int32.toInt 0 = 0 by decide) c_61
        refine lv_iconst (v := 0) hx hb dX1_from_66 (by decide) ?_
        refine lv_istore (lv' := [(8, .int 0), (7, .int r_2), (6, .int r_1), (0, .ref lk), (1, .ref ru), (2, .int (nI n)), (3, .int p3), (4, .int p4), (5, .int p5)]) hx hb dX1_from_67 hl (by decide) rfl (fun ls hl => ?_)
        refine lv_aload_n hx hb dX1_from_69 rfl (lv_at hl 3 rfl) ?_
        refine lv_aload_n hx hb dX1_from_70 rfl (lv_at hl 4 rfl) ?_
        refine lv_iload_n hx hb dX1_from_71 rfl (lv_at hl 6 rfl) ?_
        refine vp_callSi (va_Run.run (va_runS (As := [.int p3]) (rest := [.ref ru, .ref lk]) ⟨hx, hb, hml, hown, hts⟩ (mJ6_bitCount_0f7a4 l dC dI cyI cyZ p3 ) (va_cwS 1 hts gX1_from_J6_bitCount_0f7a4 rfl rfl rfl (by decide +kernel) ⟨Nat.le_of_ble_eq_true rfl, Nat.le_of_ble_eq_true rfl⟩) (bs_RS hB (hP.sub (ws' := []) [] rfl)) rfl rfl hl.1 rfl (lv_room (Nat.le_of_ble_eq_true rfl)) dX1_from_72 ⟨Nat.le_of_ble_eq_true rfl, Nat.le_of_ble_eq_true rfl⟩)) (fun r_62 hr_62 => ?_)
        refine lv_iload hx hb dX1_from_75 (lv_at hl 2 rfl) ?_
        refine lv_iload hx hb dX1_from_77 (lv_at hl 1 rfl) ?_
        refine va_mmin hx hb (by rw [hml]; exact hl.1.symm) hown (hts (.methodLink RX1 37 Lib.Math.min.name) (by decide +kernel)) (hts (.static Lib.Math.min.name) (by decide +kernel)) (hts (.initialized "java/lang/Math") (by decide +kernel)) (hts (.code Lib.Math.min.name Lib.Math.min.code 2 (some .int)) (by decide +kernel)) (Nat.le_of_ble_eq_true rfl) (Nat.le_of_ble_eq_true rfl) (Nat.le_of_ble_eq_true rfl) (Nat.le_of_ble_eq_true rfl) dX1_from_79 ?_
        refine lv_topi (fun x_63 ex_63 => ?_)
        refine lv_iload hx hb dX1_from_82 (lv_at hl 0 rfl) ?_
        refine vp_callSi (va_Run.run (va_runV (As := [.int r_62, .int x_63, .int 0]) (rest := [.ref lk]) ⟨hx, hb, hml, hown, hts⟩ (mX3_firstThatFits l dC dI cyI cyZ ru rt zz tg r_62 x_63 0 (by omega)) (cwV 3 hts gX1_from_X3_firstThatFits rfl rfl rfl (by decide +kernel) ⟨Nat.le_of_ble_eq_true rfl, Nat.le_of_ble_eq_true rfl⟩) (bs_RV hB (hP.sub (ws' := [(ru, .inr (2, [.ref rt, .int (nI zz)])), (rt, .inl (cyI, 60, .inl tg))]) [1, 2] rfl) 0 rfl rfl) rfl rfl hl.1 rfl (lv_room (Nat.le_of_ble_eq_true rfl)) dX1_from_84 ⟨Nat.le_of_ble_eq_true rfl, Nat.le_of_ble_eq_true rfl⟩)) (fun r_64 hr_64 => ?_)
        refine va_put (D := (dC, dI)) (ci := 0) (v := .int r_64) (ty := .int) (C := RX1) (T := TX1) (N := 5) hx hb hts hnX1_from_X1 tyX1 tyX1_ok nmX1 hown hK hP hD hS 0 rfl rfl 1 (by decide) (hts (.fieldLink RX1 49 "RingMeets$Look" "rule" "I") (by decide +kernel)) (fun _ h9 => h9) rfl (by decide +kernel) rfl rfl (Nat.le_of_ble_eq_true rfl) dX1_from_87 (fun H locs hP hD hS => ?_)
        have hP : va_P (dC, dI) vwCl [(lk, .inr (0, [.int 0, .int r_64, .int i2, .int i3, .int 1])), (ru, .inr (2, [.ref rt, .int (nI zz)])), (rt, .inl (cyI, 60, .inl tg))] _ := hP
        have hD : va_D A [(lk, .inr (0, [.int 0, .int r_64, .int i2, .int i3, .int 1])), (ru, .inr (2, [.ref rt, .int (nI zz)])), (rt, .inl (cyI, 60, .inl tg))] := hD
        refine lv_aload_n hx hb dX1_from_90 rfl (lv_at hl 3 rfl) ?_
        refine lv_aload_n hx hb dX1_from_91 rfl (lv_at hl 4 rfl) ?_
        refine lv_aload_n hx hb dX1_from_92 rfl (lv_at hl 3 rfl) ?_
        refine va_get (D := (dC, dI)) (ci := 0) (v := .int r_64) (C := RX1) (T := TX1) (N := 5) hx hb hts hnX1_from_X1 hown hK hP 0 rfl rfl 1 (by decide) (hts (.fieldLink RX1 49 "RingMeets$Look" "rule" "I") (by decide +kernel)) (fun _ h9 => h9) rfl dX1_from_93 ?_
        refine vp_callSi (va_Run.run (va_runV (As := [.int r_64]) (rest := [.ref lk]) ⟨hx, hb, hml, hown, hts⟩ (mX3_has l dC dI cyI cyZ ru rt zz r_64 (by omega)) (cwV 1 hts gX1_from_X3_has rfl rfl rfl (by decide +kernel) ⟨Nat.le_of_ble_eq_true rfl, Nat.le_of_ble_eq_true rfl⟩) (bs_RV hB (hP.sub (ws' := [(ru, .inr (2, [.ref rt, .int (nI zz)]))]) [1] rfl) 0 rfl rfl) rfl rfl hl.1 rfl (lv_room (Nat.le_of_ble_eq_true rfl)) dX1_from_96 ⟨Nat.le_of_ble_eq_true rfl, Nat.le_of_ble_eq_true rfl⟩)) (fun r_65 hr_65 => ?_)
        refine lv_if_eq (tgt := 114) hx hb dX1_from_99 (by decide) (fun c_66 => ?_) (fun c_66 => ?_)
        · skip
          have ic_66 := ci_eq (rfl : Int32.toInt r_65 = _) (show Int32.toInt 0 = 0 by decide) c_66
          refine lv_iconst (v := 0) hx hb dX1_from_114 (by decide) ?_
          refine va_put (D := (dC, dI)) (ci := 0) (v := .int 0) (ty := .int) (C := RX1) (T := TX1) (N := 5) hx hb hts hnX1_from_X1 tyX1 tyX1_ok nmX1 hown hK hP hD hS 0 rfl rfl 2 (by decide) (hts (.fieldLink RX1 58 "RingMeets$Look" "done" "I") (by decide +kernel)) (fun _ h9 => h9) rfl (by decide +kernel) rfl rfl (Nat.le_of_ble_eq_true rfl) dX1_from_115 (fun H locs hP hD hS => ?_)
          have hP : va_P (dC, dI) vwCl [(lk, .inr (0, [.int 0, .int r_64, .int 0, .int i3, .int 1])), (ru, .inr (2, [.ref rt, .int (nI zz)])), (rt, .inl (cyI, 60, .inl tg))] _ := hP
          have hD : va_D A [(lk, .inr (0, [.int 0, .int r_64, .int 0, .int i3, .int 1])), (ru, .inr (2, [.ref rt, .int (nI zz)])), (rt, .inl (cyI, 60, .inl tg))] := hD
          refine lv_aload_n hx hb dX1_from_118 rfl (lv_at hl 3 rfl) ?_
          refine lv_aload_n hx hb dX1_from_119 rfl (lv_at hl 3 rfl) ?_
          refine lv_iload_n hx hb dX1_from_120 rfl (lv_at hl 5 rfl) ?_
          refine lv_iload hx hb dX1_from_121 (lv_at hl 8 rfl) ?_
          refine vp_callSi (va_Run.run (va_runV (As := [.int (nI n), .int p5]) (rest := [.ref lk]) ⟨hx, hb, hml, hown, hts⟩ (mX1_goalFrom l dC dI cyI cyZ lk 0 r_64 0 i3 1 (nI n) p5 ) (cwV 2 hts gX1_from_X1_goalFrom rfl rfl rfl (by decide +kernel) ⟨Nat.le_of_ble_eq_true rfl, Nat.le_of_ble_eq_true rfl⟩) (bs_RV hB (hP.sub (ws' := [(lk, .inr (0, [.int 0, .int r_64, .int 0, .int i3, .int 1]))]) [0] rfl) 0 rfl rfl) rfl rfl hl.1 rfl (lv_room (Nat.le_of_ble_eq_true rfl)) dX1_from_123 ⟨Nat.le_of_ble_eq_true rfl, Nat.le_of_ble_eq_true rfl⟩)) (fun r_67 hr_67 => ?_)
          refine va_put (D := (dC, dI)) (ci := 0) (v := .int r_67) (ty := .int) (C := RX1) (T := TX1) (N := 5) hx hb hts hnX1_from_X1 tyX1 tyX1_ok nmX1 hown hK hP hD hS 0 rfl rfl 3 (by decide) (hts (.fieldLink RX1 64 "RingMeets$Look" "goal" "I") (by decide +kernel)) (fun _ h9 => h9) rfl (by decide +kernel) rfl rfl (Nat.le_of_ble_eq_true rfl) dX1_from_126 (fun H locs hP hD hS => ?_)
          have hP : va_P (dC, dI) vwCl [(lk, .inr (0, [.int 0, .int r_64, .int 0, .int r_67, .int 1])), (ru, .inr (2, [.ref rt, .int (nI zz)])), (rt, .inl (cyI, 60, .inl tg))] _ := hP
          have hD : va_D A [(lk, .inr (0, [.int 0, .int r_64, .int 0, .int r_67, .int 1])), (ru, .inr (2, [.ref rt, .int (nI zz)])), (rt, .inl (cyI, 60, .inl tg))] := hD
          exact W.vret hx hb hr (fun t ht hW => ⟨⟨(0, r_64, 0, r_67, 1), rfl, trivial, ⟨by rw [ht]; exact hP.sub (ws' := [(lk, .inr (0, [.int 0, .int r_64, .int 0, .int r_67, .int 1])), (ru, .inr (2, [.ref rt, .int (nI zz)])), (rt, .inl (cyI, 60, .inl tg))]) [0, 1, 2] rfl, hD.sub (ws' := [(lk, .inr (0, [.int 0, .int r_64, .int 0, .int r_67, .int 1])), (ru, .inr (2, [.ref rt, .int (nI zz)])), (rt, .inl (cyI, 60, .inl tg))]) [0, 1, 2] (by decide) rfl⟩⟩, hS.F ht⟩) hS.2.2 dX1_from_129
        · skip
          have ic_66 := ci_ne (rfl : Int32.toInt r_65 = _) (show Int32.toInt 0 = 0 by decide) c_66
          refine lv_aload_n hx hb dX1_from_102 rfl (lv_at hl 4 rfl) ?_
          refine lv_aload_n hx hb dX1_from_103 rfl (lv_at hl 3 rfl) ?_
          refine va_get (D := (dC, dI)) (ci := 0) (v := .int r_64) (C := RX1) (T := TX1) (N := 5) hx hb hts hnX1_from_X1 hown hK hP 0 rfl rfl 1 (by decide) (hts (.fieldLink RX1 49 "RingMeets$Look" "rule" "I") (by decide +kernel)) (fun _ h9 => h9) rfl dX1_from_104 ?_
          refine lv_iconst (v := 4) hx hb dX1_from_107 (by decide) ?_
          refine vp_callSi (va_Run.run (va_runV (As := [.int r_64, .int 4]) (rest := [.ref lk]) ⟨hx, hb, hml, hown, hts⟩ (mX3_part l dC dI cyI cyZ ru rt zz tg r_64 4 (by omega)) (cwV 2 hts gX1_from_X3_part rfl rfl rfl (by decide +kernel) ⟨Nat.le_of_ble_eq_true rfl, Nat.le_of_ble_eq_true rfl⟩) (bs_RV hB (hP.sub (ws' := [(ru, .inr (2, [.ref rt, .int (nI zz)])), (rt, .inl (cyI, 60, .inl tg))]) [1, 2] rfl) 0 rfl rfl) rfl rfl hl.1 rfl (lv_room (Nat.le_of_ble_eq_true rfl)) dX1_from_108 ⟨Nat.le_of_ble_eq_true rfl, Nat.le_of_ble_eq_true rfl⟩)) (fun r_68 hr_68 => ?_)
          refine lv_goto (tgt := 115) hx hb dX1_from_111 (by decide) ?_
          refine va_put (D := (dC, dI)) (ci := 0) (v := .int r_68) (ty := .int) (C := RX1) (T := TX1) (N := 5) hx hb hts hnX1_from_X1 tyX1 tyX1_ok nmX1 hown hK hP hD hS 0 rfl rfl 2 (by decide) (hts (.fieldLink RX1 58 "RingMeets$Look" "done" "I") (by decide +kernel)) (fun _ h9 => h9) rfl (by decide +kernel) rfl rfl (Nat.le_of_ble_eq_true rfl) dX1_from_115 (fun H locs hP hD hS => ?_)
          have hP : va_P (dC, dI) vwCl [(lk, .inr (0, [.int 0, .int r_64, .int r_68, .int i3, .int 1])), (ru, .inr (2, [.ref rt, .int (nI zz)])), (rt, .inl (cyI, 60, .inl tg))] _ := hP
          have hD : va_D A [(lk, .inr (0, [.int 0, .int r_64, .int r_68, .int i3, .int 1])), (ru, .inr (2, [.ref rt, .int (nI zz)])), (rt, .inl (cyI, 60, .inl tg))] := hD
          refine lv_aload_n hx hb dX1_from_118 rfl (lv_at hl 3 rfl) ?_
          refine lv_aload_n hx hb dX1_from_119 rfl (lv_at hl 3 rfl) ?_
          refine lv_iload_n hx hb dX1_from_120 rfl (lv_at hl 5 rfl) ?_
          refine lv_iload hx hb dX1_from_121 (lv_at hl 8 rfl) ?_
          refine vp_callSi (va_Run.run (va_runV (As := [.int (nI n), .int p5]) (rest := [.ref lk]) ⟨hx, hb, hml, hown, hts⟩ (mX1_goalFrom l dC dI cyI cyZ lk 0 r_64 r_68 i3 1 (nI n) p5 ) (cwV 2 hts gX1_from_X1_goalFrom rfl rfl rfl (by decide +kernel) ⟨Nat.le_of_ble_eq_true rfl, Nat.le_of_ble_eq_true rfl⟩) (bs_RV hB (hP.sub (ws' := [(lk, .inr (0, [.int 0, .int r_64, .int r_68, .int i3, .int 1]))]) [0] rfl) 0 rfl rfl) rfl rfl hl.1 rfl (lv_room (Nat.le_of_ble_eq_true rfl)) dX1_from_123 ⟨Nat.le_of_ble_eq_true rfl, Nat.le_of_ble_eq_true rfl⟩)) (fun r_69 hr_69 => ?_)
          refine va_put (D := (dC, dI)) (ci := 0) (v := .int r_69) (ty := .int) (C := RX1) (T := TX1) (N := 5) hx hb hts hnX1_from_X1 tyX1 tyX1_ok nmX1 hown hK hP hD hS 0 rfl rfl 3 (by decide) (hts (.fieldLink RX1 64 "RingMeets$Look" "goal" "I") (by decide +kernel)) (fun _ h9 => h9) rfl (by decide +kernel) rfl rfl (Nat.le_of_ble_eq_true rfl) dX1_from_126 (fun H locs hP hD hS => ?_)
          have hP : va_P (dC, dI) vwCl [(lk, .inr (0, [.int 0, .int r_64, .int r_68, .int r_69, .int 1])), (ru, .inr (2, [.ref rt, .int (nI zz)])), (rt, .inl (cyI, 60, .inl tg))] _ := hP
          have hD : va_D A [(lk, .inr (0, [.int 0, .int r_64, .int r_68, .int r_69, .int 1])), (ru, .inr (2, [.ref rt, .int (nI zz)])), (rt, .inl (cyI, 60, .inl tg))] := hD
          exact W.vret hx hb hr (fun t ht hW => ⟨⟨(0, r_64, r_68, r_69, 1), rfl, trivial, ⟨by rw [ht]; exact hP.sub (ws' := [(lk, .inr (0, [.int 0, .int r_64, .int r_68, .int r_69, .int 1])), (ru, .inr (2, [.ref rt, .int (nI zz)])), (rt, .inl (cyI, 60, .inl tg))]) [0, 1, 2] rfl, hD.sub (ws' := [(lk, .inr (0, [.int 0, .int r_64, .int r_68, .int r_69, .int 1])), (ru, .inr (2, [.ref rt, .int (nI zz)])), (rt, .inl (cyI, 60, .inl tg))]) [0, 1, 2] (by decide) rfl⟩⟩, hS.F ht⟩) hS.2.2 dX1_from_129
      · skip
        have ic_61 := ci_ne (rfl : Int32.toInt r_60 = _) (show Int32.toInt 0 = 0 by decide) c_61
        refine lv_iconst (v := 1) hx hb dX1_from_62 (by decide) ?_
        refine lv_goto (tgt := 67) hx hb dX1_from_63 (by decide) ?_
        refine lv_istore (lv' := [(8, .int 1), (7, .int r_2), (6, .int r_1), (0, .ref lk), (1, .ref ru), (2, .int (nI n)), (3, .int p3), (4, .int p4), (5, .int p5)]) hx hb dX1_from_67 hl (by decide) rfl (fun ls hl => ?_)
        refine lv_aload_n hx hb dX1_from_69 rfl (lv_at hl 3 rfl) ?_
        refine lv_aload_n hx hb dX1_from_70 rfl (lv_at hl 4 rfl) ?_
        refine lv_iload_n hx hb dX1_from_71 rfl (lv_at hl 6 rfl) ?_
        refine vp_callSi (va_Run.run (va_runS (As := [.int p3]) (rest := [.ref ru, .ref lk]) ⟨hx, hb, hml, hown, hts⟩ (mJ6_bitCount_0f7a4 l dC dI cyI cyZ p3 ) (va_cwS 1 hts gX1_from_J6_bitCount_0f7a4 rfl rfl rfl (by decide +kernel) ⟨Nat.le_of_ble_eq_true rfl, Nat.le_of_ble_eq_true rfl⟩) (bs_RS hB (hP.sub (ws' := []) [] rfl)) rfl rfl hl.1 rfl (lv_room (Nat.le_of_ble_eq_true rfl)) dX1_from_72 ⟨Nat.le_of_ble_eq_true rfl, Nat.le_of_ble_eq_true rfl⟩)) (fun r_70 hr_70 => ?_)
        refine lv_iload hx hb dX1_from_75 (lv_at hl 2 rfl) ?_
        refine lv_iload hx hb dX1_from_77 (lv_at hl 1 rfl) ?_
        refine va_mmin hx hb (by rw [hml]; exact hl.1.symm) hown (hts (.methodLink RX1 37 Lib.Math.min.name) (by decide +kernel)) (hts (.static Lib.Math.min.name) (by decide +kernel)) (hts (.initialized "java/lang/Math") (by decide +kernel)) (hts (.code Lib.Math.min.name Lib.Math.min.code 2 (some .int)) (by decide +kernel)) (Nat.le_of_ble_eq_true rfl) (Nat.le_of_ble_eq_true rfl) (Nat.le_of_ble_eq_true rfl) (Nat.le_of_ble_eq_true rfl) dX1_from_79 ?_
        refine lv_topi (fun x_71 ex_71 => ?_)
        refine lv_iload hx hb dX1_from_82 (lv_at hl 0 rfl) ?_
        refine vp_callSi (va_Run.run (va_runV (As := [.int r_70, .int x_71, .int 1]) (rest := [.ref lk]) ⟨hx, hb, hml, hown, hts⟩ (mX3_firstThatFits l dC dI cyI cyZ ru rt zz tg r_70 x_71 1 (by omega)) (cwV 3 hts gX1_from_X3_firstThatFits rfl rfl rfl (by decide +kernel) ⟨Nat.le_of_ble_eq_true rfl, Nat.le_of_ble_eq_true rfl⟩) (bs_RV hB (hP.sub (ws' := [(ru, .inr (2, [.ref rt, .int (nI zz)])), (rt, .inl (cyI, 60, .inl tg))]) [1, 2] rfl) 0 rfl rfl) rfl rfl hl.1 rfl (lv_room (Nat.le_of_ble_eq_true rfl)) dX1_from_84 ⟨Nat.le_of_ble_eq_true rfl, Nat.le_of_ble_eq_true rfl⟩)) (fun r_72 hr_72 => ?_)
        refine va_put (D := (dC, dI)) (ci := 0) (v := .int r_72) (ty := .int) (C := RX1) (T := TX1) (N := 5) hx hb hts hnX1_from_X1 tyX1 tyX1_ok nmX1 hown hK hP hD hS 0 rfl rfl 1 (by decide) (hts (.fieldLink RX1 49 "RingMeets$Look" "rule" "I") (by decide +kernel)) (fun _ h9 => h9) rfl (by decide +kernel) rfl rfl (Nat.le_of_ble_eq_true rfl) dX1_from_87 (fun H locs hP hD hS => ?_)
        have hP : va_P (dC, dI) vwCl [(lk, .inr (0, [.int 0, .int r_72, .int i2, .int i3, .int 1])), (ru, .inr (2, [.ref rt, .int (nI zz)])), (rt, .inl (cyI, 60, .inl tg))] _ := hP
        have hD : va_D A [(lk, .inr (0, [.int 0, .int r_72, .int i2, .int i3, .int 1])), (ru, .inr (2, [.ref rt, .int (nI zz)])), (rt, .inl (cyI, 60, .inl tg))] := hD
        refine lv_aload_n hx hb dX1_from_90 rfl (lv_at hl 3 rfl) ?_
        refine lv_aload_n hx hb dX1_from_91 rfl (lv_at hl 4 rfl) ?_
        refine lv_aload_n hx hb dX1_from_92 rfl (lv_at hl 3 rfl) ?_
        refine va_get (D := (dC, dI)) (ci := 0) (v := .int r_72) (C := RX1) (T := TX1) (N := 5) hx hb hts hnX1_from_X1 hown hK hP 0 rfl rfl 1 (by decide) (hts (.fieldLink RX1 49 "RingMeets$Look" "rule" "I") (by decide +kernel)) (fun _ h9 => h9) rfl dX1_from_93 ?_
        refine vp_callSi (va_Run.run (va_runV (As := [.int r_72]) (rest := [.ref lk]) ⟨hx, hb, hml, hown, hts⟩ (mX3_has l dC dI cyI cyZ ru rt zz r_72 (by omega)) (cwV 1 hts gX1_from_X3_has rfl rfl rfl (by decide +kernel) ⟨Nat.le_of_ble_eq_true rfl, Nat.le_of_ble_eq_true rfl⟩) (bs_RV hB (hP.sub (ws' := [(ru, .inr (2, [.ref rt, .int (nI zz)]))]) [1] rfl) 0 rfl rfl) rfl rfl hl.1 rfl (lv_room (Nat.le_of_ble_eq_true rfl)) dX1_from_96 ⟨Nat.le_of_ble_eq_true rfl, Nat.le_of_ble_eq_true rfl⟩)) (fun r_73 hr_73 => ?_)
        refine lv_if_eq (tgt := 114) hx hb dX1_from_99 (by decide) (fun c_74 => ?_) (fun c_74 => ?_)
        · skip
          have ic_74 := ci_eq (rfl : Int32.toInt r_73 = _) (show Int32.toInt 0 = 0 by decide) c_74
          refine lv_iconst (v := 0) hx hb dX1_from_114 (by decide) ?_
          refine va_put (D := (dC, dI)) (ci := 0) (v := .int 0) (ty := .int) (C := RX1) (T := TX1) (N := 5) hx hb hts hnX1_from_X1 tyX1 tyX1_ok nmX1 hown hK hP hD hS 0 rfl rfl 2 (by decide) (hts (.fieldLink RX1 58 "RingMeets$Look" "done" "I") (by decide +kernel)) (fun _ h9 => h9) rfl (by decide +kernel) rfl rfl (Nat.le_of_ble_eq_true rfl) dX1_from_115 (fun H locs hP hD hS => ?_)
          have hP : va_P (dC, dI) vwCl [(lk, .inr (0, [.int 0, .int r_72, .int 0, .int i3, .int 1])), (ru, .inr (2, [.ref rt, .int (nI zz)])), (rt, .inl (cyI, 60, .inl tg))] _ := hP
          have hD : va_D A [(lk, .inr (0, [.int 0, .int r_72, .int 0, .int i3, .int 1])), (ru, .inr (2, [.ref rt, .int (nI zz)])), (rt, .inl (cyI, 60, .inl tg))] := hD
          refine lv_aload_n hx hb dX1_from_118 rfl (lv_at hl 3 rfl) ?_
          refine lv_aload_n hx hb dX1_from_119 rfl (lv_at hl 3 rfl) ?_
          refine lv_iload_n hx hb dX1_from_120 rfl (lv_at hl 5 rfl) ?_
          refine lv_iload hx hb dX1_from_121 (lv_at hl 8 rfl) ?_
          refine vp_callSi (va_Run.run (va_runV (As := [.int (nI n), .int p5]) (rest := [.ref lk]) ⟨hx, hb, hml, hown, hts⟩ (mX1_goalFrom l dC dI cyI cyZ lk 0 r_72 0 i3 1 (nI n) p5 ) (cwV 2 hts gX1_from_X1_goalFrom rfl rfl rfl (by decide +kernel) ⟨Nat.le_of_ble_eq_true rfl, Nat.le_of_ble_eq_true rfl⟩) (bs_RV hB (hP.sub (ws' := [(lk, .inr (0, [.int 0, .int r_72, .int 0, .int i3, .int 1]))]) [0] rfl) 0 rfl rfl) rfl rfl hl.1 rfl (lv_room (Nat.le_of_ble_eq_true rfl)) dX1_from_123 ⟨Nat.le_of_ble_eq_true rfl, Nat.le_of_ble_eq_true rfl⟩)) (fun r_75 hr_75 => ?_)
          refine va_put (D := (dC, dI)) (ci := 0) (v := .int r_75) (ty := .int) (C := RX1) (T := TX1) (N := 5) hx hb hts hnX1_from_X1 tyX1 tyX1_ok nmX1 hown hK hP hD hS 0 rfl rfl 3 (by decide) (hts (.fieldLink RX1 64 "RingMeets$Look" "goal" "I") (by decide +kernel)) (fun _ h9 => h9) rfl (by decide +kernel) rfl rfl (Nat.le_of_ble_eq_true rfl) dX1_from_126 (fun H locs hP hD hS => ?_)
          have hP : va_P (dC, dI) vwCl [(lk, .inr (0, [.int 0, .int r_72, .int 0, .int r_75, .int 1])), (ru, .inr (2, [.ref rt, .int (nI zz)])), (rt, .inl (cyI, 60, .inl tg))] _ := hP
          have hD : va_D A [(lk, .inr (0, [.int 0, .int r_72, .int 0, .int r_75, .int 1])), (ru, .inr (2, [.ref rt, .int (nI zz)])), (rt, .inl (cyI, 60, .inl tg))] := hD
          exact W.vret hx hb hr (fun t ht hW => ⟨⟨(0, r_72, 0, r_75, 1), rfl, trivial, ⟨by rw [ht]; exact hP.sub (ws' := [(lk, .inr (0, [.int 0, .int r_72, .int 0, .int r_75, .int 1])), (ru, .inr (2, [.ref rt, .int (nI zz)])), (rt, .inl (cyI, 60, .inl tg))]) [0, 1, 2] rfl, hD.sub (ws' := [(lk, .inr (0, [.int 0, .int r_72, .int 0, .int r_75, .int 1])), (ru, .inr (2, [.ref rt, .int (nI zz)])), (rt, .inl (cyI, 60, .inl tg))]) [0, 1, 2] (by decide) rfl⟩⟩, hS.F ht⟩) hS.2.2 dX1_from_129
        · skip
          have ic_74 := ci_ne (rfl : Int32.toInt r_73 = _) (show Int32.toInt 0 = 0 by decide) c_74
          refine lv_aload_n hx hb dX1_from_102 rfl (lv_at hl 4 rfl) ?_
          refine lv_aload_n hx hb dX1_from_103 rfl (lv_at hl 3 rfl) ?_
          refine va_get (D := (dC, dI)) (ci := 0) (v := .int r_72) (C := RX1) (T := TX1) (N := 5) hx hb hts hnX1_from_X1 hown hK hP 0 rfl rfl 1 (by decide) (hts (.fieldLink RX1 49 "RingMeets$Look" "rule" "I") (by decide +kernel)) (fun _ h9 => h9) rfl dX1_from_104 ?_
          refine lv_iconst (v := 4) hx hb dX1_from_107 (by decide) ?_
          refine vp_callSi (va_Run.run (va_runV (As := [.int r_72, .int 4]) (rest := [.ref lk]) ⟨hx, hb, hml, hown, hts⟩ (mX3_part l dC dI cyI cyZ ru rt zz tg r_72 4 (by omega)) (cwV 2 hts gX1_from_X3_part rfl rfl rfl (by decide +kernel) ⟨Nat.le_of_ble_eq_true rfl, Nat.le_of_ble_eq_true rfl⟩) (bs_RV hB (hP.sub (ws' := [(ru, .inr (2, [.ref rt, .int (nI zz)])), (rt, .inl (cyI, 60, .inl tg))]) [1, 2] rfl) 0 rfl rfl) rfl rfl hl.1 rfl (lv_room (Nat.le_of_ble_eq_true rfl)) dX1_from_108 ⟨Nat.le_of_ble_eq_true rfl, Nat.le_of_ble_eq_true rfl⟩)) (fun r_76 hr_76 => ?_)
          refine lv_goto (tgt := 115) hx hb dX1_from_111 (by decide) ?_
          refine va_put (D := (dC, dI)) (ci := 0) (v := .int r_76) (ty := .int) (C := RX1) (T := TX1) (N := 5) hx hb hts hnX1_from_X1 tyX1 tyX1_ok nmX1 hown hK hP hD hS 0 rfl rfl 2 (by decide) (hts (.fieldLink RX1 58 "RingMeets$Look" "done" "I") (by decide +kernel)) (fun _ h9 => h9) rfl (by decide +kernel) rfl rfl (Nat.le_of_ble_eq_true rfl) dX1_from_115 (fun H locs hP hD hS => ?_)
          have hP : va_P (dC, dI) vwCl [(lk, .inr (0, [.int 0, .int r_72, .int r_76, .int i3, .int 1])), (ru, .inr (2, [.ref rt, .int (nI zz)])), (rt, .inl (cyI, 60, .inl tg))] _ := hP
          have hD : va_D A [(lk, .inr (0, [.int 0, .int r_72, .int r_76, .int i3, .int 1])), (ru, .inr (2, [.ref rt, .int (nI zz)])), (rt, .inl (cyI, 60, .inl tg))] := hD
          refine lv_aload_n hx hb dX1_from_118 rfl (lv_at hl 3 rfl) ?_
          refine lv_aload_n hx hb dX1_from_119 rfl (lv_at hl 3 rfl) ?_
          refine lv_iload_n hx hb dX1_from_120 rfl (lv_at hl 5 rfl) ?_
          refine lv_iload hx hb dX1_from_121 (lv_at hl 8 rfl) ?_
          refine vp_callSi (va_Run.run (va_runV (As := [.int (nI n), .int p5]) (rest := [.ref lk]) ⟨hx, hb, hml, hown, hts⟩ (mX1_goalFrom l dC dI cyI cyZ lk 0 r_72 r_76 i3 1 (nI n) p5 ) (cwV 2 hts gX1_from_X1_goalFrom rfl rfl rfl (by decide +kernel) ⟨Nat.le_of_ble_eq_true rfl, Nat.le_of_ble_eq_true rfl⟩) (bs_RV hB (hP.sub (ws' := [(lk, .inr (0, [.int 0, .int r_72, .int r_76, .int i3, .int 1]))]) [0] rfl) 0 rfl rfl) rfl rfl hl.1 rfl (lv_room (Nat.le_of_ble_eq_true rfl)) dX1_from_123 ⟨Nat.le_of_ble_eq_true rfl, Nat.le_of_ble_eq_true rfl⟩)) (fun r_77 hr_77 => ?_)
          refine va_put (D := (dC, dI)) (ci := 0) (v := .int r_77) (ty := .int) (C := RX1) (T := TX1) (N := 5) hx hb hts hnX1_from_X1 tyX1 tyX1_ok nmX1 hown hK hP hD hS 0 rfl rfl 3 (by decide) (hts (.fieldLink RX1 64 "RingMeets$Look" "goal" "I") (by decide +kernel)) (fun _ h9 => h9) rfl (by decide +kernel) rfl rfl (Nat.le_of_ble_eq_true rfl) dX1_from_126 (fun H locs hP hD hS => ?_)
          have hP : va_P (dC, dI) vwCl [(lk, .inr (0, [.int 0, .int r_72, .int r_76, .int r_77, .int 1])), (ru, .inr (2, [.ref rt, .int (nI zz)])), (rt, .inl (cyI, 60, .inl tg))] _ := hP
          have hD : va_D A [(lk, .inr (0, [.int 0, .int r_72, .int r_76, .int r_77, .int 1])), (ru, .inr (2, [.ref rt, .int (nI zz)])), (rt, .inl (cyI, 60, .inl tg))] := hD
          exact W.vret hx hb hr (fun t ht hW => ⟨⟨(0, r_72, r_76, r_77, 1), rfl, trivial, ⟨by rw [ht]; exact hP.sub (ws' := [(lk, .inr (0, [.int 0, .int r_72, .int r_76, .int r_77, .int 1])), (ru, .inr (2, [.ref rt, .int (nI zz)])), (rt, .inl (cyI, 60, .inl tg))]) [0, 1, 2] rfl, hD.sub (ws' := [(lk, .inr (0, [.int 0, .int r_72, .int r_76, .int r_77, .int 1])), (ru, .inr (2, [.ref rt, .int (nI zz)])), (rt, .inl (cyI, 60, .inl tg))]) [0, 1, 2] (by decide) rfl⟩⟩, hS.F ht⟩) hS.2.2 dX1_from_129

theorem hnX2_enter_X1 : ∀ w ∈ wsX10, w ∈ wsX2_enter := fun _ h => List.mem_cons_of_mem _ (List.mem_append_right _ h)
theorem hnX2_enter_X2 : ∀ w ∈ wsX20, w ∈ wsX2_enter := fun _ h => List.mem_cons_of_mem _ (List.mem_append_left _ (List.mem_append_right _ h))
set_option maxHeartbeats 4000000 in
set_option maxRecDepth 100000 in
theorem mX2_enter (l : Launch) (dC : Nat → ClassId) (dI : Nat → Nat → Nat) (cyI cyZ : ClassId) (mo : Nat) (lk : Nat) (j0 : Int32) (j1 : Int32) (j2 : Int32) (i0 : Int32) (i1 : Int32) (i2 : Int32) (i3 : Int32) (i4 : Int32) (p1 : Int32)  (sz : Nat) : Met l yX2_enter wsX2_enter ({ frames := 1, cells := 0, slots := 0, locals := 20 }) (bs_W dC dI cyI cyZ [.ref mo, .int p1] [(mo, .inr (1, [.ref lk, .int j0, .int j1, .int j2])), (lk, .inr (0, [.int i0, .int i1, .int i2, .int i3, .int i4]))] sz) (va_Qv (S := Int32 × Int32 × Int32) (fun q : Int32 × Int32 × Int32 => True) (fun q t => bs_E dC dI (va_A [(mo, .inr (1, [.ref lk, .int j0, .int j1, .int j2])), (lk, .inr (0, [.int i0, .int i1, .int i2, .int i3, .int i4]))] sz) [(mo, .inr (1, [.ref lk, .int q.1, .int q.2.1, .int q.2.2])), (lk, .inr (0, [.int i0, .int i1, .int i2, .int i3, .int i4]))] t) (va_A [(mo, .inr (1, [.ref lk, .int j0, .int j1, .int j2])), (lk, .inr (0, [.int i0, .int i1, .int i2, .int i3, .int i4]))] sz)) 0 0 (va_A [(mo, .inr (1, [.ref lk, .int j0, .int j1, .int j2])), (lk, .inr (0, [.int i0, .int i1, .int i2, .int i3, .int i4]))] sz) := by
  refine Met.ofW (cc := cX2_enter) (maxL := 2) (ret := none) (by decide) rfl ?_
  intro p e s m args below meth c s₁ B hml hv
  obtain ⟨rfl, hsz, hB, hP, hD0⟩ := hv
  have hK := hB.1
  have hN := hB.2
  have hx := B.exec
  have hb := B.bytes
  have hr := B.returns
  have hts := atoms_spec (ws := wsX2_enter) B.pre
  have hown : s.vm.findClass RX2 = some m.cls := findClass_of_methodNamed B.named
  have hlocks := B.notSynchronized
  subst hsz
  have hD := hD0.self (sz := s.heap.size)
  generalize hAe : va_A [(mo, .inr (1, [.ref lk, .int j0, .int j1, .int j2])), (lk, .inr (0, [.int i0, .int i1, .int i2, .int i3, .int i4]))] s.heap.size = A at hD ⊢
  have hA : ∀ q : Nat, s.heap.size ≤ q → A q := fun q h => by rw [← hAe]; exact Or.inr h
  have hS : va_S A s.heap s.heap [] := va_S.rf
  have hP : va_P (dC, dI) vwCl [(mo, .inr (1, [.ref lk, .int j0, .int j1, .int j2])), (lk, .inr (0, [.int i0, .int i1, .int i2, .int i3, .int i4]))] s.heap := hP
  have hl := lv_entry ([.ref mo, .int p1]) (n := 2) (Nat.le_of_ble_eq_true rfl)
  rw [lg_entry_eq]
  generalize (lg_sl ([.ref mo, .int p1]) ++ List.replicate (2 - (lg_sl ([.ref mo, .int p1])).length) Slot.unset).toArray = ls at hl ⊢
  have hl : lv_has ls 2 [(0, .ref mo), (1, .int p1)] := hl
  refine lv_aload_n hx hb dX2_enter_0 rfl (lv_at hl 0 rfl) ?_
  refine va_get (D := (dC, dI)) (ci := 1) (v := .ref lk) (C := RX2) (T := TX2) (N := 4) hx hb hts hnX2_enter_X2 hown hK hP 0 rfl rfl 0 (by decide) (hts (.fieldLink RX2 12 "RingMeets$Moves" "look" "LRingMeets$Look;") (by decide +kernel)) (fun _ h9 => h9) rfl dX2_enter_1 ?_
  refine va_getN (D := (dC, dI)) (ci := 0) (v := .int i1) (C := RX1) (T := TX1) (N := 5) hx hb hts hnX2_enter_X1 hown hK hP 1 rfl rfl 1 (by decide) (hN.fld 7 rfl) (fun _ h9 => h9) rfl dX2_enter_4 ?_
  refine lv_if_lt (tgt := 28) hx hb dX2_enter_7 (by decide) (fun c_1 => ?_) (fun c_1 => ?_)
  · skip
    have ic_1 := ci_lt (rfl : Int32.toInt i1 = _) (show Int32.toInt 0 = 0 by decide) c_1
    refine lv_aload_n hx hb dX2_enter_28 rfl (lv_at hl 0 rfl) ?_
    refine va_get (D := (dC, dI)) (ci := 1) (v := .ref lk) (C := RX2) (T := TX2) (N := 4) hx hb hts hnX2_enter_X2 hown hK hP 0 rfl rfl 0 (by decide) (hts (.fieldLink RX2 12 "RingMeets$Moves" "look" "LRingMeets$Look;") (by decide +kernel)) (fun _ h9 => h9) rfl dX2_enter_29 ?_
    refine va_getN (D := (dC, dI)) (ci := 0) (v := .int i2) (C := RX1) (T := TX1) (N := 5) hx hb hts hnX2_enter_X1 hown hK hP 1 rfl rfl 2 (by decide) (hN.fld 9 rfl) (fun _ h9 => h9) rfl dX2_enter_32 ?_
    refine lv_if_ne (tgt := 39) hx hb dX2_enter_35 (by decide) (fun c_2 => ?_) (fun c_2 => ?_)
    · skip
      have ic_2 := ci_ne (rfl : Int32.toInt i2 = _) (show Int32.toInt 0 = 0 by decide) c_2
      refine lv_aload_n hx hb dX2_enter_39 rfl (lv_at hl 0 rfl) ?_
      refine va_get (D := (dC, dI)) (ci := 1) (v := .ref lk) (C := RX2) (T := TX2) (N := 4) hx hb hts hnX2_enter_X2 hown hK hP 0 rfl rfl 0 (by decide) (hts (.fieldLink RX2 12 "RingMeets$Moves" "look" "LRingMeets$Look;") (by decide +kernel)) (fun _ h9 => h9) rfl dX2_enter_40 ?_
      refine vp_callSi (va_Run.run (va_runV (As := []) (rest := []) ⟨hx, hb, hml, hown, hts⟩ (mX1_sideOfMove l dC dI cyI cyZ lk i0 i1 i2 i3 i4 ) (cwV 0 hts gX2_enter_X1_sideOfMove rfl rfl rfl (by decide +kernel) ⟨Nat.le_of_ble_eq_true rfl, Nat.le_of_ble_eq_true rfl⟩) (bs_RV hB (hP.sub (ws' := [(lk, .inr (0, [.int i0, .int i1, .int i2, .int i3, .int i4]))]) [1] rfl) 0 rfl rfl) rfl rfl hl.1 rfl (lv_room (Nat.le_of_ble_eq_true rfl)) dX2_enter_43 ⟨Nat.le_of_ble_eq_true rfl, Nat.le_of_ble_eq_true rfl⟩)) (fun r_3 hr_3 => ?_)
      refine lv_if_ne (tgt := 64) hx hb dX2_enter_46 (by decide) (fun c_4 => ?_) (fun c_4 => ?_)
      · skip
        have ic_4 := ci_ne (rfl : Int32.toInt r_3 = _) (show Int32.toInt 0 = 0 by decide) c_4
        refine lv_aload_n hx hb dX2_enter_64 rfl (lv_at hl 0 rfl) ?_
        refine lv_dup hx hb dX2_enter_65 rfl ?_
        refine va_get (D := (dC, dI)) (ci := 1) (v := .int j1) (C := RX2) (T := TX2) (N := 4) hx hb hts hnX2_enter_X2 hown hK hP 0 rfl rfl 2 (by decide) (hts (.fieldLink RX2 22 "RingMeets$Moves" "downs" "I") (by decide +kernel)) (fun _ h9 => h9) rfl dX2_enter_66 ?_
        refine lv_iconst (v := 1) hx hb dX2_enter_69 (by decide) ?_
        refine lv_iload_n hx hb dX2_enter_70 rfl (lv_at hl 1 rfl) ?_
        refine lv_ishl hx hb dX2_enter_71 ?_
        refine lv_topi (fun x_5 ex_5 => ?_)
        refine lv_ior hx hb dX2_enter_72 ?_
        refine lv_topi (fun x_6 ex_6 => ?_)
        refine va_put (D := (dC, dI)) (ci := 1) (v := .int x_6) (ty := .int) (C := RX2) (T := TX2) (N := 4) hx hb hts hnX2_enter_X2 tyX2 tyX2_ok nmX2 hown hK hP hD hS 0 rfl rfl 2 (by decide) (hts (.fieldLink RX2 22 "RingMeets$Moves" "downs" "I") (by decide +kernel)) (fun _ h9 => h9) rfl (by decide +kernel) rfl rfl (Nat.le_of_ble_eq_true rfl) dX2_enter_73 (fun H locs hP hD hS => ?_)
        have hP : va_P (dC, dI) vwCl [(mo, .inr (1, [.ref lk, .int j0, .int x_6, .int j2])), (lk, .inr (0, [.int i0, .int i1, .int i2, .int i3, .int i4]))] _ := hP
        have hD : va_D A [(mo, .inr (1, [.ref lk, .int j0, .int x_6, .int j2])), (lk, .inr (0, [.int i0, .int i1, .int i2, .int i3, .int i4]))] := hD
        exact W.vret hx hb hr (fun t ht hW => ⟨⟨(j0, x_6, j2), rfl, trivial, ⟨by rw [ht]; exact hP.sub (ws' := [(mo, .inr (1, [.ref lk, .int j0, .int x_6, .int j2])), (lk, .inr (0, [.int i0, .int i1, .int i2, .int i3, .int i4]))]) [0, 1] rfl, hD.sub (ws' := [(mo, .inr (1, [.ref lk, .int j0, .int x_6, .int j2])), (lk, .inr (0, [.int i0, .int i1, .int i2, .int i3, .int i4]))]) [0, 1] (by decide) rfl⟩⟩, hS.F ht⟩) hS.2.2 dX2_enter_76
      · skip
        have ic_4 := ci_eq (rfl : Int32.toInt r_3 = _) (show Int32.toInt 0 = 0 by decide) c_4
        refine lv_aload_n hx hb dX2_enter_49 rfl (lv_at hl 0 rfl) ?_
        refine lv_dup hx hb dX2_enter_50 rfl ?_
        refine va_get (D := (dC, dI)) (ci := 1) (v := .int j0) (C := RX2) (T := TX2) (N := 4) hx hb hts hnX2_enter_X2 hown hK hP 0 rfl rfl 1 (by decide) (hts (.fieldLink RX2 18 "RingMeets$Moves" "ups" "I") (by decide +kernel)) (fun _ h9 => h9) rfl dX2_enter_51 ?_
        refine lv_iconst (v := 1) hx hb dX2_enter_54 (by decide) ?_
        refine lv_iload_n hx hb dX2_enter_55 rfl (lv_at hl 1 rfl) ?_
        refine lv_ishl hx hb dX2_enter_56 ?_
        refine lv_topi (fun x_7 ex_7 => ?_)
        refine lv_ior hx hb dX2_enter_57 ?_
        refine lv_topi (fun x_8 ex_8 => ?_)
        refine va_put (D := (dC, dI)) (ci := 1) (v := .int x_8) (ty := .int) (C := RX2) (T := TX2) (N := 4) hx hb hts hnX2_enter_X2 tyX2 tyX2_ok nmX2 hown hK hP hD hS 0 rfl rfl 1 (by decide) (hts (.fieldLink RX2 18 "RingMeets$Moves" "ups" "I") (by decide +kernel)) (fun _ h9 => h9) rfl (by decide +kernel) rfl rfl (Nat.le_of_ble_eq_true rfl) dX2_enter_58 (fun H locs hP hD hS => ?_)
        have hP : va_P (dC, dI) vwCl [(mo, .inr (1, [.ref lk, .int x_8, .int j1, .int j2])), (lk, .inr (0, [.int i0, .int i1, .int i2, .int i3, .int i4]))] _ := hP
        have hD : va_D A [(mo, .inr (1, [.ref lk, .int x_8, .int j1, .int j2])), (lk, .inr (0, [.int i0, .int i1, .int i2, .int i3, .int i4]))] := hD
        refine lv_goto (tgt := 76) hx hb dX2_enter_61 (by decide) ?_
        exact W.vret hx hb hr (fun t ht hW => ⟨⟨(x_8, j1, j2), rfl, trivial, ⟨by rw [ht]; exact hP.sub (ws' := [(mo, .inr (1, [.ref lk, .int x_8, .int j1, .int j2])), (lk, .inr (0, [.int i0, .int i1, .int i2, .int i3, .int i4]))]) [0, 1] rfl, hD.sub (ws' := [(mo, .inr (1, [.ref lk, .int x_8, .int j1, .int j2])), (lk, .inr (0, [.int i0, .int i1, .int i2, .int i3, .int i4]))]) [0, 1] (by decide) rfl⟩⟩, hS.F ht⟩) hS.2.2 dX2_enter_76
    · skip
      have ic_2 := ci_eq (rfl : Int32.toInt i2 = _) (show Int32.toInt 0 = 0 by decide) c_2
      exact W.vret hx hb hr (fun t ht hW => ⟨⟨(j0, j1, j2), rfl, trivial, ⟨by rw [ht]; exact hP.sub (ws' := [(mo, .inr (1, [.ref lk, .int j0, .int j1, .int j2])), (lk, .inr (0, [.int i0, .int i1, .int i2, .int i3, .int i4]))]) [0, 1] rfl, hD.sub (ws' := [(mo, .inr (1, [.ref lk, .int j0, .int j1, .int j2])), (lk, .inr (0, [.int i0, .int i1, .int i2, .int i3, .int i4]))]) [0, 1] (by decide) rfl⟩⟩, hS.F ht⟩) hS.2.2 dX2_enter_38
  · skip
    have ic_1 := ci_nlt (rfl : Int32.toInt i1 = _) (show Int32.toInt 0 = 0 by decide) c_1
    refine lv_aload_n hx hb dX2_enter_10 rfl (lv_at hl 0 rfl) ?_
    refine lv_dup hx hb dX2_enter_11 rfl ?_
    refine va_get (D := (dC, dI)) (ci := 1) (v := .int j2) (C := RX2) (T := TX2) (N := 4) hx hb hts hnX2_enter_X2 hown hK hP 0 rfl rfl 3 (by decide) (hts (.fieldLink RX2 25 "RingMeets$Moves" "rulesUsed" "I") (by decide +kernel)) (fun _ h9 => h9) rfl dX2_enter_12 ?_
    refine lv_iconst (v := 1) hx hb dX2_enter_15 (by decide) ?_
    refine lv_aload_n hx hb dX2_enter_16 rfl (lv_at hl 0 rfl) ?_
    refine va_get (D := (dC, dI)) (ci := 1) (v := .ref lk) (C := RX2) (T := TX2) (N := 4) hx hb hts hnX2_enter_X2 hown hK hP 0 rfl rfl 0 (by decide) (hts (.fieldLink RX2 12 "RingMeets$Moves" "look" "LRingMeets$Look;") (by decide +kernel)) (fun _ h9 => h9) rfl dX2_enter_17 ?_
    refine va_getN (D := (dC, dI)) (ci := 0) (v := .int i1) (C := RX1) (T := TX1) (N := 5) hx hb hts hnX2_enter_X1 hown hK hP 1 rfl rfl 1 (by decide) (hN.fld 7 rfl) (fun _ h9 => h9) rfl dX2_enter_20 ?_
    refine lv_ishl hx hb dX2_enter_23 ?_
    refine lv_topi (fun x_9 ex_9 => ?_)
    refine lv_ior hx hb dX2_enter_24 ?_
    refine lv_topi (fun x_10 ex_10 => ?_)
    refine va_put (D := (dC, dI)) (ci := 1) (v := .int x_10) (ty := .int) (C := RX2) (T := TX2) (N := 4) hx hb hts hnX2_enter_X2 tyX2 tyX2_ok nmX2 hown hK hP hD hS 0 rfl rfl 3 (by decide) (hts (.fieldLink RX2 25 "RingMeets$Moves" "rulesUsed" "I") (by decide +kernel)) (fun _ h9 => h9) rfl (by decide +kernel) rfl rfl (Nat.le_of_ble_eq_true rfl) dX2_enter_25 (fun H locs hP hD hS => ?_)
    have hP : va_P (dC, dI) vwCl [(mo, .inr (1, [.ref lk, .int j0, .int j1, .int x_10])), (lk, .inr (0, [.int i0, .int i1, .int i2, .int i3, .int i4]))] _ := hP
    have hD : va_D A [(mo, .inr (1, [.ref lk, .int j0, .int j1, .int x_10])), (lk, .inr (0, [.int i0, .int i1, .int i2, .int i3, .int i4]))] := hD
    refine lv_aload_n hx hb dX2_enter_28 rfl (lv_at hl 0 rfl) ?_
    refine va_get (D := (dC, dI)) (ci := 1) (v := .ref lk) (C := RX2) (T := TX2) (N := 4) hx hb hts hnX2_enter_X2 hown hK hP 0 rfl rfl 0 (by decide) (hts (.fieldLink RX2 12 "RingMeets$Moves" "look" "LRingMeets$Look;") (by decide +kernel)) (fun _ h9 => h9) rfl dX2_enter_29 ?_
    refine va_getN (D := (dC, dI)) (ci := 0) (v := .int i2) (C := RX1) (T := TX1) (N := 5) hx hb hts hnX2_enter_X1 hown hK hP 1 rfl rfl 2 (by decide) (hN.fld 9 rfl) (fun _ h9 => h9) rfl dX2_enter_32 ?_
    refine lv_if_ne (tgt := 39) hx hb dX2_enter_35 (by decide) (fun c_11 => ?_) (fun c_11 => ?_)
    · skip
      have ic_11 := ci_ne (rfl : Int32.toInt i2 = _) (show Int32.toInt 0 = 0 by decide) c_11
      refine lv_aload_n hx hb dX2_enter_39 rfl (lv_at hl 0 rfl) ?_
      refine va_get (D := (dC, dI)) (ci := 1) (v := .ref lk) (C := RX2) (T := TX2) (N := 4) hx hb hts hnX2_enter_X2 hown hK hP 0 rfl rfl 0 (by decide) (hts (.fieldLink RX2 12 "RingMeets$Moves" "look" "LRingMeets$Look;") (by decide +kernel)) (fun _ h9 => h9) rfl dX2_enter_40 ?_
      refine vp_callSi (va_Run.run (va_runV (As := []) (rest := []) ⟨hx, hb, hml, hown, hts⟩ (mX1_sideOfMove l dC dI cyI cyZ lk i0 i1 i2 i3 i4 ) (cwV 0 hts gX2_enter_X1_sideOfMove rfl rfl rfl (by decide +kernel) ⟨Nat.le_of_ble_eq_true rfl, Nat.le_of_ble_eq_true rfl⟩) (bs_RV hB (hP.sub (ws' := [(lk, .inr (0, [.int i0, .int i1, .int i2, .int i3, .int i4]))]) [1] rfl) 0 rfl rfl) rfl rfl hl.1 rfl (lv_room (Nat.le_of_ble_eq_true rfl)) dX2_enter_43 ⟨Nat.le_of_ble_eq_true rfl, Nat.le_of_ble_eq_true rfl⟩)) (fun r_12 hr_12 => ?_)
      refine lv_if_ne (tgt := 64) hx hb dX2_enter_46 (by decide) (fun c_13 => ?_) (fun c_13 => ?_)
      · skip
        have ic_13 := ci_ne (rfl : Int32.toInt r_12 = _) (show Int32.toInt 0 = 0 by decide) c_13
        refine lv_aload_n hx hb dX2_enter_64 rfl (lv_at hl 0 rfl) ?_
        refine lv_dup hx hb dX2_enter_65 rfl ?_
        refine va_get (D := (dC, dI)) (ci := 1) (v := .int j1) (C := RX2) (T := TX2) (N := 4) hx hb hts hnX2_enter_X2 hown hK hP 0 rfl rfl 2 (by decide) (hts (.fieldLink RX2 22 "RingMeets$Moves" "downs" "I") (by decide +kernel)) (fun _ h9 => h9) rfl dX2_enter_66 ?_
        refine lv_iconst (v := 1) hx hb dX2_enter_69 (by decide) ?_
        refine lv_iload_n hx hb dX2_enter_70 rfl (lv_at hl 1 rfl) ?_
        refine lv_ishl hx hb dX2_enter_71 ?_
        refine lv_topi (fun x_14 ex_14 => ?_)
        refine lv_ior hx hb dX2_enter_72 ?_
        refine lv_topi (fun x_15 ex_15 => ?_)
        refine va_put (D := (dC, dI)) (ci := 1) (v := .int x_15) (ty := .int) (C := RX2) (T := TX2) (N := 4) hx hb hts hnX2_enter_X2 tyX2 tyX2_ok nmX2 hown hK hP hD hS 0 rfl rfl 2 (by decide) (hts (.fieldLink RX2 22 "RingMeets$Moves" "downs" "I") (by decide +kernel)) (fun _ h9 => h9) rfl (by decide +kernel) rfl rfl (Nat.le_of_ble_eq_true rfl) dX2_enter_73 (fun H locs hP hD hS => ?_)
        have hP : va_P (dC, dI) vwCl [(mo, .inr (1, [.ref lk, .int j0, .int x_15, .int x_10])), (lk, .inr (0, [.int i0, .int i1, .int i2, .int i3, .int i4]))] _ := hP
        have hD : va_D A [(mo, .inr (1, [.ref lk, .int j0, .int x_15, .int x_10])), (lk, .inr (0, [.int i0, .int i1, .int i2, .int i3, .int i4]))] := hD
        exact W.vret hx hb hr (fun t ht hW => ⟨⟨(j0, x_15, x_10), rfl, trivial, ⟨by rw [ht]; exact hP.sub (ws' := [(mo, .inr (1, [.ref lk, .int j0, .int x_15, .int x_10])), (lk, .inr (0, [.int i0, .int i1, .int i2, .int i3, .int i4]))]) [0, 1] rfl, hD.sub (ws' := [(mo, .inr (1, [.ref lk, .int j0, .int x_15, .int x_10])), (lk, .inr (0, [.int i0, .int i1, .int i2, .int i3, .int i4]))]) [0, 1] (by decide) rfl⟩⟩, hS.F ht⟩) hS.2.2 dX2_enter_76
      · skip
        have ic_13 := ci_eq (rfl : Int32.toInt r_12 = _) (show Int32.toInt 0 = 0 by decide) c_13
        refine lv_aload_n hx hb dX2_enter_49 rfl (lv_at hl 0 rfl) ?_
        refine lv_dup hx hb dX2_enter_50 rfl ?_
        refine va_get (D := (dC, dI)) (ci := 1) (v := .int j0) (C := RX2) (T := TX2) (N := 4) hx hb hts hnX2_enter_X2 hown hK hP 0 rfl rfl 1 (by decide) (hts (.fieldLink RX2 18 "RingMeets$Moves" "ups" "I") (by decide +kernel)) (fun _ h9 => h9) rfl dX2_enter_51 ?_
        refine lv_iconst (v := 1) hx hb dX2_enter_54 (by decide) ?_
        refine lv_iload_n hx hb dX2_enter_55 rfl (lv_at hl 1 rfl) ?_
        refine lv_ishl hx hb dX2_enter_56 ?_
        refine lv_topi (fun x_16 ex_16 => ?_)
        refine lv_ior hx hb dX2_enter_57 ?_
        refine lv_topi (fun x_17 ex_17 => ?_)
        refine va_put (D := (dC, dI)) (ci := 1) (v := .int x_17) (ty := .int) (C := RX2) (T := TX2) (N := 4) hx hb hts hnX2_enter_X2 tyX2 tyX2_ok nmX2 hown hK hP hD hS 0 rfl rfl 1 (by decide) (hts (.fieldLink RX2 18 "RingMeets$Moves" "ups" "I") (by decide +kernel)) (fun _ h9 => h9) rfl (by decide +kernel) rfl rfl (Nat.le_of_ble_eq_true rfl) dX2_enter_58 (fun H locs hP hD hS => ?_)
        have hP : va_P (dC, dI) vwCl [(mo, .inr (1, [.ref lk, .int x_17, .int j1, .int x_10])), (lk, .inr (0, [.int i0, .int i1, .int i2, .int i3, .int i4]))] _ := hP
        have hD : va_D A [(mo, .inr (1, [.ref lk, .int x_17, .int j1, .int x_10])), (lk, .inr (0, [.int i0, .int i1, .int i2, .int i3, .int i4]))] := hD
        refine lv_goto (tgt := 76) hx hb dX2_enter_61 (by decide) ?_
        exact W.vret hx hb hr (fun t ht hW => ⟨⟨(x_17, j1, x_10), rfl, trivial, ⟨by rw [ht]; exact hP.sub (ws' := [(mo, .inr (1, [.ref lk, .int x_17, .int j1, .int x_10])), (lk, .inr (0, [.int i0, .int i1, .int i2, .int i3, .int i4]))]) [0, 1] rfl, hD.sub (ws' := [(mo, .inr (1, [.ref lk, .int x_17, .int j1, .int x_10])), (lk, .inr (0, [.int i0, .int i1, .int i2, .int i3, .int i4]))]) [0, 1] (by decide) rfl⟩⟩, hS.F ht⟩) hS.2.2 dX2_enter_76
    · skip
      have ic_11 := ci_eq (rfl : Int32.toInt i2 = _) (show Int32.toInt 0 = 0 by decide) c_11
      exact W.vret hx hb hr (fun t ht hW => ⟨⟨(j0, j1, x_10), rfl, trivial, ⟨by rw [ht]; exact hP.sub (ws' := [(mo, .inr (1, [.ref lk, .int j0, .int j1, .int x_10])), (lk, .inr (0, [.int i0, .int i1, .int i2, .int i3, .int i4]))]) [0, 1] rfl, hD.sub (ws' := [(mo, .inr (1, [.ref lk, .int j0, .int j1, .int x_10])), (lk, .inr (0, [.int i0, .int i1, .int i2, .int i3, .int i4]))]) [0, 1] (by decide) rfl⟩⟩, hS.F ht⟩) hS.2.2 dX2_enter_38

theorem hnX2_from_X2 : ∀ w ∈ wsX20, w ∈ wsX2_from := fun _ h => List.mem_cons_of_mem _ (List.mem_append_left _ (List.mem_append_left _ (List.mem_append_right _ h)))
set_option maxHeartbeats 4000000 in
set_option maxRecDepth 100000 in
theorem mX2_from (l : Launch) (dC : Nat → ClassId) (dI : Nat → Nat → Nat) (cyI cyZ : ClassId) (mo : Nat) (lk : Nat) (ru : Nat) (rt : Nat) (zz : Nat) (n : Nat) (j0 : Int32) (j1 : Int32) (j2 : Int32) (i0 : Int32) (i1 : Int32) (i2 : Int32) (i3 : Int32) (i4 : Int32) (tg : Nat → Int32) (p3 : Int32) (p4 : Int32) (hn : n ≤ 10) (hzz : zz ≤ 10) (sz : Nat) : Met l yX2_from wsX2_from ({ frames := 4, cells := 0, slots := 0, locals := 101 }) (bs_W dC dI cyI cyZ [.ref mo, .ref ru, .int (nI n), .int p3, .int p4] [(mo, .inr (1, [.ref lk, .int j0, .int j1, .int j2])), (lk, .inr (0, [.int i0, .int i1, .int i2, .int i3, .int i4])), (ru, .inr (2, [.ref rt, .int (nI zz)])), (rt, .inl (cyI, 60, .inl tg))] sz) (va_Qv (S := Int32 × Int32 × Int32 × Int32 × Int32 × Int32 × Int32 × Int32) (fun q : Int32 × Int32 × Int32 × Int32 × Int32 × Int32 × Int32 × Int32 => True) (fun q t => bs_E dC dI (va_A [(mo, .inr (1, [.ref lk, .int j0, .int j1, .int j2])), (lk, .inr (0, [.int i0, .int i1, .int i2, .int i3, .int i4])), (ru, .inr (2, [.ref rt, .int (nI zz)])), (rt, .inl (cyI, 60, .inl tg))] sz) [(mo, .inr (1, [.ref lk, .int q.1, .int q.2.1, .int q.2.2.1])), (lk, .inr (0, [.int q.2.2.2.1, .int q.2.2.2.2.1, .int q.2.2.2.2.2.1, .int q.2.2.2.2.2.2.1, .int q.2.2.2.2.2.2.2])), (ru, .inr (2, [.ref rt, .int (nI zz)])), (rt, .inl (cyI, 60, .inl tg))] t) (va_A [(mo, .inr (1, [.ref lk, .int j0, .int j1, .int j2])), (lk, .inr (0, [.int i0, .int i1, .int i2, .int i3, .int i4])), (ru, .inr (2, [.ref rt, .int (nI zz)])), (rt, .inl (cyI, 60, .inl tg))] sz)) 0 0 (va_A [(mo, .inr (1, [.ref lk, .int j0, .int j1, .int j2])), (lk, .inr (0, [.int i0, .int i1, .int i2, .int i3, .int i4])), (ru, .inr (2, [.ref rt, .int (nI zz)])), (rt, .inl (cyI, 60, .inl tg))] sz) := by
  refine Met.ofW (cc := cX2_from) (maxL := 6) (ret := none) (by decide) rfl ?_
  intro p e s m args below meth c s₁ B hml hv
  obtain ⟨rfl, hsz, hB, hP, hD0⟩ := hv
  have hK := hB.1
  have hN := hB.2
  have hx := B.exec
  have hb := B.bytes
  have hr := B.returns
  have hts := atoms_spec (ws := wsX2_from) B.pre
  have hown : s.vm.findClass RX2 = some m.cls := findClass_of_methodNamed B.named
  have hlocks := B.notSynchronized
  subst hsz
  have hD := hD0.self (sz := s.heap.size)
  generalize hAe : va_A [(mo, .inr (1, [.ref lk, .int j0, .int j1, .int j2])), (lk, .inr (0, [.int i0, .int i1, .int i2, .int i3, .int i4])), (ru, .inr (2, [.ref rt, .int (nI zz)])), (rt, .inl (cyI, 60, .inl tg))] s.heap.size = A at hD ⊢
  have hA : ∀ q : Nat, s.heap.size ≤ q → A q := fun q h => by rw [← hAe]; exact Or.inr h
  have hS : va_S A s.heap s.heap [] := va_S.rf
  have hP : va_P (dC, dI) vwCl [(mo, .inr (1, [.ref lk, .int j0, .int j1, .int j2])), (lk, .inr (0, [.int i0, .int i1, .int i2, .int i3, .int i4])), (ru, .inr (2, [.ref rt, .int (nI zz)])), (rt, .inl (cyI, 60, .inl tg))] s.heap := hP
  have hl := lv_entry ([.ref mo, .ref ru, .int (nI n), .int p3, .int p4]) (n := 6) (Nat.le_of_ble_eq_true rfl)
  rw [lg_entry_eq]
  generalize (lg_sl ([.ref mo, .ref ru, .int (nI n), .int p3, .int p4]) ++ List.replicate (6 - (lg_sl ([.ref mo, .ref ru, .int (nI n), .int p3, .int p4])).length) Slot.unset).toArray = ls at hl ⊢
  have hl : lv_has ls 6 [(0, .ref mo), (1, .ref ru), (2, .int (nI n)), (3, .int p3), (4, .int p4)] := hl
  refine lv_aload_n hx hb dX2_from_0 rfl (lv_at hl 0 rfl) ?_
  refine lv_iconst (v := 0) hx hb dX2_from_1 (by decide) ?_
  refine va_put (D := (dC, dI)) (ci := 1) (v := .int 0) (ty := .int) (C := RX2) (T := TX2) (N := 4) hx hb hts hnX2_from_X2 tyX2 tyX2_ok nmX2 hown hK hP hD hS 0 rfl rfl 1 (by decide) (hts (.fieldLink RX2 18 "RingMeets$Moves" "ups" "I") (by decide +kernel)) (fun _ h9 => h9) rfl (by decide +kernel) rfl rfl (Nat.le_of_ble_eq_true rfl) dX2_from_2 (fun H locs hP hD hS => ?_)
  have hP : va_P (dC, dI) vwCl [(mo, .inr (1, [.ref lk, .int 0, .int j1, .int j2])), (lk, .inr (0, [.int i0, .int i1, .int i2, .int i3, .int i4])), (ru, .inr (2, [.ref rt, .int (nI zz)])), (rt, .inl (cyI, 60, .inl tg))] _ := hP
  have hD : va_D A [(mo, .inr (1, [.ref lk, .int 0, .int j1, .int j2])), (lk, .inr (0, [.int i0, .int i1, .int i2, .int i3, .int i4])), (ru, .inr (2, [.ref rt, .int (nI zz)])), (rt, .inl (cyI, 60, .inl tg))] := hD
  refine lv_aload_n hx hb dX2_from_5 rfl (lv_at hl 0 rfl) ?_
  refine lv_iconst (v := 0) hx hb dX2_from_6 (by decide) ?_
  refine va_put (D := (dC, dI)) (ci := 1) (v := .int 0) (ty := .int) (C := RX2) (T := TX2) (N := 4) hx hb hts hnX2_from_X2 tyX2 tyX2_ok nmX2 hown hK hP hD hS 0 rfl rfl 2 (by decide) (hts (.fieldLink RX2 22 "RingMeets$Moves" "downs" "I") (by decide +kernel)) (fun _ h9 => h9) rfl (by decide +kernel) rfl rfl (Nat.le_of_ble_eq_true rfl) dX2_from_7 (fun H locs hP hD hS => ?_)
  have hP : va_P (dC, dI) vwCl [(mo, .inr (1, [.ref lk, .int 0, .int 0, .int j2])), (lk, .inr (0, [.int i0, .int i1, .int i2, .int i3, .int i4])), (ru, .inr (2, [.ref rt, .int (nI zz)])), (rt, .inl (cyI, 60, .inl tg))] _ := hP
  have hD : va_D A [(mo, .inr (1, [.ref lk, .int 0, .int 0, .int j2])), (lk, .inr (0, [.int i0, .int i1, .int i2, .int i3, .int i4])), (ru, .inr (2, [.ref rt, .int (nI zz)])), (rt, .inl (cyI, 60, .inl tg))] := hD
  refine lv_aload_n hx hb dX2_from_10 rfl (lv_at hl 0 rfl) ?_
  refine lv_iconst (v := 0) hx hb dX2_from_11 (by decide) ?_
  refine va_put (D := (dC, dI)) (ci := 1) (v := .int 0) (ty := .int) (C := RX2) (T := TX2) (N := 4) hx hb hts hnX2_from_X2 tyX2 tyX2_ok nmX2 hown hK hP hD hS 0 rfl rfl 3 (by decide) (hts (.fieldLink RX2 25 "RingMeets$Moves" "rulesUsed" "I") (by decide +kernel)) (fun _ h9 => h9) rfl (by decide +kernel) rfl rfl (Nat.le_of_ble_eq_true rfl) dX2_from_12 (fun H locs hP hD hS => ?_)
  have hP : va_P (dC, dI) vwCl [(mo, .inr (1, [.ref lk, .int 0, .int 0, .int 0])), (lk, .inr (0, [.int i0, .int i1, .int i2, .int i3, .int i4])), (ru, .inr (2, [.ref rt, .int (nI zz)])), (rt, .inl (cyI, 60, .inl tg))] _ := hP
  have hD : va_D A [(mo, .inr (1, [.ref lk, .int 0, .int 0, .int 0])), (lk, .inr (0, [.int i0, .int i1, .int i2, .int i3, .int i4])), (ru, .inr (2, [.ref rt, .int (nI zz)])), (rt, .inl (cyI, 60, .inl tg))] := hD
  refine lv_iconst (v := 0) hx hb dX2_from_15 (by decide) ?_
  refine lv_istore (lv' := [(5, .int 0), (0, .ref mo), (1, .ref ru), (2, .int (nI n)), (3, .int p3), (4, .int p4)]) hx hb dX2_from_16 hl (by decide) rfl (fun ls hl => ?_)
  have L18 : ∀ (n18 : Nat), ∀ (k : Nat) (j0 j1 j2 i0 i1 i2 i3 i4 : Int32), (0 ≤ k ∧ k ≤ n) → (n + 1 ≤ k + n18) → ∀ (H : Heap) (locs : List Loc), va_P (dC, dI) vwCl [(mo, .inr (1, [.ref lk, .int j0, .int j1, .int j2])), (lk, .inr (0, [.int i0, .int i1, .int i2, .int i3, .int i4])), (ru, .inr (2, [.ref rt, .int (nI zz)])), (rt, .inl (cyI, 60, .inl tg))] H → va_D A [(mo, .inr (1, [.ref lk, .int j0, .int j1, .int j2])), (lk, .inr (0, [.int i0, .int i1, .int i2, .int i3, .int i4])), (ru, .inr (2, [.ref rt, .int (nI zz)])), (rt, .inl (cyI, 60, .inl tg))] → va_S A s.heap H locs → ∀ (ls : Array Slot), lv_has ls 6 [(0, .ref mo), (1, .ref ru), (2, .int (nI n)), (3, .int p3), (4, .int p4), (5, .int (nI k))] → W p l e (headSpec wsX2_from ({ frames := 4, cells := 0, slots := 0, locals := 101 })).room s m ([.ref mo, .ref ru, .int (nI n), .int p3, .int p4] : List Value).toArray below meth c H locs 0 0 (MQ below (va_Qv (S := Int32 × Int32 × Int32 × Int32 × Int32 × Int32 × Int32 × Int32) (fun q : Int32 × Int32 × Int32 × Int32 × Int32 × Int32 × Int32 × Int32 => True) (fun q t => bs_E dC dI A [(mo, .inr (1, [.ref lk, .int q.1, .int q.2.1, .int q.2.2.1])), (lk, .inr (0, [.int q.2.2.2.1, .int q.2.2.2.2.1, .int q.2.2.2.2.2.1, .int q.2.2.2.2.2.2.1, .int q.2.2.2.2.2.2.2])), (ru, .inr (2, [.ref rt, .int (nI zz)])), (rt, .inl (cyI, 60, .inl tg))] t) A) ([.ref mo, .ref ru, .int (nI n), .int p3, .int p4] : List Value).toArray s 0 0 A) (F0 m 18 ls []) := by
    intro n18
    induction n18 with
    | zero =>
      intro k j0 j1 j2 i0 i1 i2 i3 i4 hk18 hn18 H locs hP hD hS ls hl
      exfalso
      omega
    | succ n18 ih18 =>
      intro k j0 j1 j2 i0 i1 i2 i3 i4 hk18 hn18 H locs hP hD hS ls hl
      refine lv_iload hx hb dX2_from_18 (lv_at hl 5 rfl) ?_
      refine lv_iload_n hx hb dX2_from_20 rfl (lv_at hl 2 rfl) ?_
      refine lv_icmp_ge (tgt := 59) hx hb dX2_from_21 (by decide) (fun c_1 => ?_) (fun c_1 => ?_)
      · skip
        have ic_1 := ci_le (nI_toInt (n := n) (by omega)) (nI_toInt (n := k) (by omega)) c_1
        exact W.vret hx hb hr (fun t ht hW => ⟨⟨(j0, j1, j2, i0, i1, i2, i3, i4), rfl, trivial, ⟨by rw [ht]; exact hP.sub (ws' := [(mo, .inr (1, [.ref lk, .int j0, .int j1, .int j2])), (lk, .inr (0, [.int i0, .int i1, .int i2, .int i3, .int i4])), (ru, .inr (2, [.ref rt, .int (nI zz)])), (rt, .inl (cyI, 60, .inl tg))]) [0, 1, 2, 3] rfl, hD.sub (ws' := [(mo, .inr (1, [.ref lk, .int j0, .int j1, .int j2])), (lk, .inr (0, [.int i0, .int i1, .int i2, .int i3, .int i4])), (ru, .inr (2, [.ref rt, .int (nI zz)])), (rt, .inl (cyI, 60, .inl tg))]) [0, 1, 2, 3] (by decide) rfl⟩⟩, hS.F ht⟩) hS.2.2 dX2_from_59
      · skip
        have ic_1 := ci_nle (nI_toInt (n := n) (by omega)) (nI_toInt (n := k) (by omega)) c_1
        refine lv_iload_n hx hb dX2_from_24 rfl (lv_at hl 3 rfl) ?_
        refine lv_iload hx hb dX2_from_25 (lv_at hl 5 rfl) ?_
        refine vp_callSi (va_Run.run (va_runS (As := [.int p3, .int (nI k)]) (rest := []) ⟨hx, hb, hml, hown, hts⟩ (mX5_has l dC dI cyI cyZ p3 (nI k) ) (va_cwS 2 hts gX2_from_X5_has rfl rfl rfl (by decide +kernel) ⟨Nat.le_of_ble_eq_true rfl, Nat.le_of_ble_eq_true rfl⟩) (bs_RS hB (hP.sub (ws' := []) [] rfl)) rfl rfl hl.1 rfl (lv_room (Nat.le_of_ble_eq_true rfl)) dX2_from_27 ⟨Nat.le_of_ble_eq_true rfl, Nat.le_of_ble_eq_true rfl⟩)) (fun r_2 hr_2 => ?_)
        refine lv_if_eq (tgt := 53) hx hb dX2_from_30 (by decide) (fun c_3 => ?_) (fun c_3 => ?_)
        · skip
          have ic_3 := ci_eq (rfl : Int32.toInt r_2 = _) (show Int32.toInt 0 = 0 by decide) c_3
          refine lv_iinc (v := (nI (k + 1))) (lv' := [(5, .int (nI (k + 1))), (0, .ref mo), (1, .ref ru), (2, .int (nI n)), (3, .int p3), (4, .int p4)]) hx hb dX2_from_53 hl (k := 5) rfl (nI_1 _) (by decide) rfl (fun ls hl => ?_)
          refine lv_goto (tgt := 18) hx hb dX2_from_56 (by decide) ?_
          exact ih18 (k + 1) j0 j1 j2 i0 i1 i2 i3 i4 ⟨by omega, by omega⟩ (by omega)  _ _ (hP.sub [0, 1, 2, 3] rfl) (hD.sub [0, 1, 2, 3] (by decide) rfl) hS _ (lv_sub hl [1, 2, 3, 4, 5, 0] rfl)
        · skip
          have ic_3 := ci_ne (rfl : Int32.toInt r_2 = _) (show Int32.toInt 0 = 0 by decide) c_3
          refine lv_aload_n hx hb dX2_from_33 rfl (lv_at hl 0 rfl) ?_
          refine va_get (D := (dC, dI)) (ci := 1) (v := .ref lk) (C := RX2) (T := TX2) (N := 4) hx hb hts hnX2_from_X2 hown hK hP 0 rfl rfl 0 (by decide) (hts (.fieldLink RX2 12 "RingMeets$Moves" "look" "LRingMeets$Look;") (by decide +kernel)) (fun _ h9 => h9) rfl dX2_from_34 ?_
          refine lv_aload_n hx hb dX2_from_37 rfl (lv_at hl 1 rfl) ?_
          refine lv_iload_n hx hb dX2_from_38 rfl (lv_at hl 2 rfl) ?_
          refine lv_iload_n hx hb dX2_from_39 rfl (lv_at hl 3 rfl) ?_
          refine lv_iload hx hb dX2_from_40 (lv_at hl 4 rfl) ?_
          refine lv_iload hx hb dX2_from_42 (lv_at hl 5 rfl) ?_
          have f_4 := va_free (wc := [(lk, .inr (0, [.int i0, .int i1, .int i2, .int i3, .int i4])), (ru, .inr (2, [.ref rt, .int (nI zz)])), (rt, .inl (cyI, 60, .inl tg))]) hD hS hA [1, 2, 3] rfl
          refine va_callv (va_runV (As := [.ref ru, .int (nI n), .int p3, .int p4, .int (nI k)]) (rest := []) ⟨hx, hb, hml, hown, hts⟩ (mX1_from l dC dI cyI cyZ lk i0 i1 i2 i3 i4 ru rt zz n tg p3 p4 (nI k) (by omega) (by omega) _) (cwV 5 hts gX2_from_X1_from rfl rfl rfl (by decide +kernel) ⟨Nat.le_of_ble_eq_true rfl, Nat.le_of_ble_eq_true rfl⟩) (bs_WV hB (hP.sub (ws' := [(lk, .inr (0, [.int i0, .int i1, .int i2, .int i3, .int i4])), (ru, .inr (2, [.ref rt, .int (nI zz)])), (rt, .inl (cyI, 60, .inl tg))]) [1, 2, 3] rfl) (hD.sub (ws' := [(lk, .inr (0, [.int i0, .int i1, .int i2, .int i3, .int i4])), (ru, .inr (2, [.ref rt, .int (nI zz)])), (rt, .inl (cyI, 60, .inl tg))]) [1, 2, 3] (by decide) rfl) 0 rfl rfl) rfl rfl hl.1 rfl (lv_room (Nat.le_of_ble_eq_true rfl)) dX2_from_44 ⟨Nat.le_of_ble_eq_true rfl, Nat.le_of_ble_eq_true rfl⟩) hS (fun q _ h => f_4 q h) f_4 (fun uh_5 t H1 locs ht hvm h_5 hB1 hz1 hk1 hS => ?_)
          obtain ⟨i_6, i_7, i_8, i_9, i_10⟩ := uh_5
          obtain ⟨hP1, hD1⟩ := hB1
          rw [ht] at hP1
          obtain ⟨hP, hD⟩ := va_join (wr := [(mo, .inr (1, [.ref lk, .int j0, .int j1, .int j2]))]) (w1 := [(lk, .inr (0, [.int i_6, .int i_7, .int i_8, .int i_9, .int i_10])), (ru, .inr (2, [.ref rt, .int (nI zz)])), (rt, .inl (cyI, 60, .inl tg))]) hP hD [1, 2, 3] [0] rfl rfl (by decide) (by decide) hk1 f_4 hP1 hD1
          generalize H1 = H at hP hS ⊢
          have hP : va_P (dC, dI) vwCl [(mo, .inr (1, [.ref lk, .int j0, .int j1, .int j2])), (lk, .inr (0, [.int i_6, .int i_7, .int i_8, .int i_9, .int i_10])), (ru, .inr (2, [.ref rt, .int (nI zz)])), (rt, .inl (cyI, 60, .inl tg))] _ := hP
          have hD : va_D A [(mo, .inr (1, [.ref lk, .int j0, .int j1, .int j2])), (lk, .inr (0, [.int i_6, .int i_7, .int i_8, .int i_9, .int i_10])), (ru, .inr (2, [.ref rt, .int (nI zz)])), (rt, .inl (cyI, 60, .inl tg))] := hD
          refine lv_aload_n hx hb dX2_from_47 rfl (lv_at hl 0 rfl) ?_
          refine lv_iload hx hb dX2_from_48 (lv_at hl 5 rfl) ?_
          have f_11 := va_free (wc := [(mo, .inr (1, [.ref lk, .int j0, .int j1, .int j2])), (lk, .inr (0, [.int i_6, .int i_7, .int i_8, .int i_9, .int i_10]))]) hD hS hA [0, 1] rfl
          refine va_callv (va_runV (As := [.int (nI k)]) (rest := []) ⟨hx, hb, hml, hown, hts⟩ (mX2_enter l dC dI cyI cyZ mo lk j0 j1 j2 i_6 i_7 i_8 i_9 i_10 (nI k)  _) (cwV 1 hts gX2_from_X2_enter rfl rfl rfl (by decide +kernel) ⟨Nat.le_of_ble_eq_true rfl, Nat.le_of_ble_eq_true rfl⟩) (bs_WV hB (hP.sub (ws' := [(mo, .inr (1, [.ref lk, .int j0, .int j1, .int j2])), (lk, .inr (0, [.int i_6, .int i_7, .int i_8, .int i_9, .int i_10]))]) [0, 1] rfl) (hD.sub (ws' := [(mo, .inr (1, [.ref lk, .int j0, .int j1, .int j2])), (lk, .inr (0, [.int i_6, .int i_7, .int i_8, .int i_9, .int i_10]))]) [0, 1] (by decide) rfl) 0 rfl rfl) rfl rfl hl.1 rfl (lv_room (Nat.le_of_ble_eq_true rfl)) dX2_from_50 ⟨Nat.le_of_ble_eq_true rfl, Nat.le_of_ble_eq_true rfl⟩) hS (fun q _ h => f_11 q h) f_11 (fun uh_12 t H1 locs ht hvm h_12 hB1 hz1 hk1 hS => ?_)
          obtain ⟨i_13, i_14, i_15⟩ := uh_12
          obtain ⟨hP1, hD1⟩ := hB1
          rw [ht] at hP1
          obtain ⟨hP, hD⟩ := va_join (wr := [(ru, .inr (2, [.ref rt, .int (nI zz)])), (rt, .inl (cyI, 60, .inl tg))]) (w1 := [(mo, .inr (1, [.ref lk, .int i_13, .int i_14, .int i_15])), (lk, .inr (0, [.int i_6, .int i_7, .int i_8, .int i_9, .int i_10]))]) hP hD [0, 1] [2, 3] rfl rfl (by decide) (by decide) hk1 f_11 hP1 hD1
          generalize H1 = H at hP hS ⊢
          have hP : va_P (dC, dI) vwCl [(ru, .inr (2, [.ref rt, .int (nI zz)])), (rt, .inl (cyI, 60, .inl tg)), (mo, .inr (1, [.ref lk, .int i_13, .int i_14, .int i_15])), (lk, .inr (0, [.int i_6, .int i_7, .int i_8, .int i_9, .int i_10]))] _ := hP
          have hD : va_D A [(ru, .inr (2, [.ref rt, .int (nI zz)])), (rt, .inl (cyI, 60, .inl tg)), (mo, .inr (1, [.ref lk, .int i_13, .int i_14, .int i_15])), (lk, .inr (0, [.int i_6, .int i_7, .int i_8, .int i_9, .int i_10]))] := hD
          refine lv_iinc (v := (nI (k + 1))) (lv' := [(5, .int (nI (k + 1))), (0, .ref mo), (1, .ref ru), (2, .int (nI n)), (3, .int p3), (4, .int p4)]) hx hb dX2_from_53 hl (k := 5) rfl (nI_1 _) (by decide) rfl (fun ls hl => ?_)
          refine lv_goto (tgt := 18) hx hb dX2_from_56 (by decide) ?_
          exact ih18 (k + 1) i_13 i_14 i_15 i_6 i_7 i_8 i_9 i_10 ⟨by omega, by omega⟩ (by omega)  _ _ (hP.sub [2, 3, 0, 1] rfl) (hD.sub [2, 3, 0, 1] (by decide) rfl) hS _ (lv_sub hl [1, 2, 3, 4, 5, 0] rfl)
  exact L18 (n + 1) 0 0 0 0 i0 i1 i2 i3 i4 ⟨by omega, by omega⟩ (by omega)  _ _ (hP.sub [0, 1, 2, 3] rfl) (hD.sub [0, 1, 2, 3] (by decide) rfl) hS _ (lv_sub hl [1, 2, 3, 4, 5, 0] rfl)

theorem hnX2_movers_X2 : ∀ w ∈ wsX20, w ∈ wsX2_movers := fun _ h => List.mem_cons_of_mem _ (List.mem_append_right _ h)
set_option maxHeartbeats 4000000 in
set_option maxRecDepth 100000 in
theorem mX2_movers (l : Launch) (dC : Nat → ClassId) (dI : Nat → Nat → Nat) (cyI cyZ : ClassId) (mo : Nat) (lk : Nat) (j0 : Int32) (j1 : Int32) (j2 : Int32)  : Met l yX2_movers wsX2_movers ({ frames := 0, cells := 0, slots := 0, locals := 0 }) (bs_R dC dI cyI cyZ [.ref mo] [(mo, .inr (1, [.ref lk, .int j0, .int j1, .int j2]))]) (vp_Si (fun r : Int32 => True)) 0 0 (fun _ => False) := by
  refine Met.ofW (cc := cX2_movers) (maxL := 1) (ret := (some .int)) (by decide) rfl ?_
  intro p e s m args below meth c s₁ B hml hv
  obtain ⟨rfl, hB, hP⟩ := hv
  have hK := hB.1
  have hN := hB.2
  have hx := B.exec
  have hb := B.bytes
  have hr := B.returns
  have hts := atoms_spec (ws := wsX2_movers) B.pre
  have hown : s.vm.findClass RX2 = some m.cls := findClass_of_methodNamed B.named
  have hlocks := B.notSynchronized
  have hP : va_P (dC, dI) vwCl [(mo, .inr (1, [.ref lk, .int j0, .int j1, .int j2]))] s.heap := hP
  have hl := lv_entry ([.ref mo]) (n := 1) (Nat.le_of_ble_eq_true rfl)
  rw [lg_entry_eq]
  generalize (lg_sl ([.ref mo]) ++ List.replicate (1 - (lg_sl ([.ref mo])).length) Slot.unset).toArray = ls at hl ⊢
  have hl : lv_has ls 1 [(0, .ref mo)] := hl
  refine lv_aload_n hx hb dX2_movers_0 rfl (lv_at hl 0 rfl) ?_
  refine va_get (D := (dC, dI)) (ci := 1) (v := .int j0) (C := RX2) (T := TX2) (N := 4) hx hb hts hnX2_movers_X2 hown hK hP 0 rfl rfl 1 (by decide) (hts (.fieldLink RX2 18 "RingMeets$Moves" "ups" "I") (by decide +kernel)) (fun _ h9 => h9) rfl dX2_movers_1 ?_
  refine lv_aload_n hx hb dX2_movers_4 rfl (lv_at hl 0 rfl) ?_
  refine va_get (D := (dC, dI)) (ci := 1) (v := .int j1) (C := RX2) (T := TX2) (N := 4) hx hb hts hnX2_movers_X2 hown hK hP 0 rfl rfl 2 (by decide) (hts (.fieldLink RX2 22 "RingMeets$Moves" "downs" "I") (by decide +kernel)) (fun _ h9 => h9) rfl dX2_movers_5 ?_
  refine lv_ior hx hb dX2_movers_8 ?_
  refine lv_topi (fun x_1 ex_1 => ?_)
  exact W.iret (v := x_1) hx hb hr (fun t ht hW => ⟨x_1, rfl, trivial, ht⟩) (fun q h => by cases h) dX2_movers_9

theorem hnX2_wayBehind_X2 : ∀ w ∈ wsX20, w ∈ wsX2_wayBehind := fun _ h => List.mem_cons_of_mem _ (List.mem_append_right _ h)
set_option maxHeartbeats 4000000 in
set_option maxRecDepth 100000 in
theorem mX2_wayBehind (l : Launch) (dC : Nat → ClassId) (dI : Nat → Nat → Nat) (cyI cyZ : ClassId) (mo : Nat) (lk : Nat) (j0 : Int32) (j1 : Int32) (j2 : Int32) (p1 : Int32) (p2 : Int32) (p3 : Int32)  : Met l yX2_wayBehind wsX2_wayBehind ({ frames := 1, cells := 0, slots := 0, locals := 21 }) (bs_R dC dI cyI cyZ [.ref mo, .int p1, .int p2, .int p3] [(mo, .inr (1, [.ref lk, .int j0, .int j1, .int j2]))]) (vp_Si (fun r : Int32 => True)) 0 0 (fun _ => False) := by
  refine Met.ofW (cc := cX2_wayBehind) (maxL := 10) (ret := (some .int)) (by decide) rfl ?_
  intro p e s m args below meth c s₁ B hml hv
  obtain ⟨rfl, hB, hP⟩ := hv
  have hK := hB.1
  have hN := hB.2
  have hx := B.exec
  have hb := B.bytes
  have hr := B.returns
  have hts := atoms_spec (ws := wsX2_wayBehind) B.pre
  have hown : s.vm.findClass RX2 = some m.cls := findClass_of_methodNamed B.named
  have hlocks := B.notSynchronized
  have hP : va_P (dC, dI) vwCl [(mo, .inr (1, [.ref lk, .int j0, .int j1, .int j2]))] s.heap := hP
  have hl := lv_entry ([.ref mo, .int p1, .int p2, .int p3]) (n := 10) (Nat.le_of_ble_eq_true rfl)
  rw [lg_entry_eq]
  generalize (lg_sl ([.ref mo, .int p1, .int p2, .int p3]) ++ List.replicate (10 - (lg_sl ([.ref mo, .int p1, .int p2, .int p3])).length) Slot.unset).toArray = ls at hl ⊢
  have hl : lv_has ls 10 [(0, .ref mo), (1, .int p1), (2, .int p2), (3, .int p3)] := hl
  refine lv_iload_n hx hb dX2_wayBehind_0 rfl (lv_at hl 2 rfl) ?_
  refine vp_callSi (va_Run.run (va_runS (As := [.int p2]) (rest := []) ⟨hx, hb, hml, hown, hts⟩ (mX5_standsOf l dC dI cyI cyZ p2 ) (va_cwS 1 hts gX2_wayBehind_X5_standsOf rfl rfl rfl (by decide +kernel) ⟨Nat.le_of_ble_eq_true rfl, Nat.le_of_ble_eq_true rfl⟩) (bs_RS hB (hP.sub (ws' := []) [] rfl)) rfl rfl hl.1 rfl (lv_room (Nat.le_of_ble_eq_true rfl)) dX2_wayBehind_1 ⟨Nat.le_of_ble_eq_true rfl, Nat.le_of_ble_eq_true rfl⟩)) (fun r_1 hr_1 => ?_)
  refine lv_istore (lv' := [(4, .int r_1), (0, .ref mo), (1, .int p1), (2, .int p2), (3, .int p3)]) hx hb dX2_wayBehind_4 hl (by decide) rfl (fun ls hl => ?_)
  refine lv_iload_n hx hb dX2_wayBehind_6 rfl (lv_at hl 3 rfl) ?_
  refine vp_callSi (va_Run.run (va_runS (As := [.int p2]) (rest := []) ⟨hx, hb, hml, hown, hts⟩ (mX5_towersOf l dC dI cyI cyZ p2 ) (va_cwS 1 hts gX2_wayBehind_X5_towersOf rfl rfl rfl (by decide +kernel) ⟨Nat.le_of_ble_eq_true rfl, Nat.le_of_ble_eq_true rfl⟩) (bs_RS hB (hP.sub (ws' := []) [] rfl)) rfl rfl hl.1 rfl (lv_room (Nat.le_of_ble_eq_true rfl)) dX2_wayBehind_7 ⟨Nat.le_of_ble_eq_true rfl, Nat.le_of_ble_eq_true rfl⟩)) (fun r_2 hr_2 => ?_)
  refine lv_istore (lv' := [(5, .int r_2), (4, .int r_1), (0, .ref mo), (1, .int p1), (2, .int p2), (3, .int p3)]) hx hb dX2_wayBehind_10 hl (by decide) rfl (fun ls hl => ?_)
  refine lv_iload hx hb dX2_wayBehind_12 (lv_at hl 1 rfl) ?_
  refine lv_iload_n hx hb dX2_wayBehind_14 rfl (lv_at hl 5 rfl) ?_
  refine lv_aload_n hx hb dX2_wayBehind_15 rfl (lv_at hl 2 rfl) ?_
  refine vp_callSi (va_Run.run (va_runV (As := []) (rest := [.int p3, .int r_1]) ⟨hx, hb, hml, hown, hts⟩ (mX2_movers l dC dI cyI cyZ mo lk j0 j1 j2 ) (cwV 0 hts gX2_wayBehind_X2_movers rfl rfl rfl (by decide +kernel) ⟨Nat.le_of_ble_eq_true rfl, Nat.le_of_ble_eq_true rfl⟩) (bs_RV hB (hP.sub (ws' := [(mo, .inr (1, [.ref lk, .int j0, .int j1, .int j2]))]) [0] rfl) 0 rfl rfl) rfl rfl hl.1 rfl (lv_room (Nat.le_of_ble_eq_true rfl)) dX2_wayBehind_16 ⟨Nat.le_of_ble_eq_true rfl, Nat.le_of_ble_eq_true rfl⟩)) (fun r_3 hr_3 => ?_)
  refine lv_iand hx hb dX2_wayBehind_19 ?_
  refine lv_topi (fun x_4 ex_4 => ?_)
  refine lv_iconst (v := (-1)) hx hb dX2_wayBehind_20 (by decide) ?_
  refine lv_ixor hx hb dX2_wayBehind_21 ?_
  refine lv_topi (fun x_5 ex_5 => ?_)
  refine lv_iand hx hb dX2_wayBehind_22 ?_
  refine lv_topi (fun x_6 ex_6 => ?_)
  refine lv_istore (lv' := [(6, .int x_6), (5, .int r_2), (4, .int r_1), (0, .ref mo), (1, .int p1), (2, .int p2), (3, .int p3)]) hx hb dX2_wayBehind_23 hl (by decide) rfl (fun ls hl => ?_)
  refine lv_iload_n hx hb dX2_wayBehind_25 rfl (lv_at hl 4 rfl) ?_
  refine lv_iload hx hb dX2_wayBehind_26 (lv_at hl 2 rfl) ?_
  refine lv_iload_n hx hb dX2_wayBehind_28 rfl (lv_at hl 6 rfl) ?_
  refine lv_iand hx hb dX2_wayBehind_29 ?_
  refine lv_topi (fun x_7 ex_7 => ?_)
  refine lv_aload_n hx hb dX2_wayBehind_30 rfl (lv_at hl 3 rfl) ?_
  refine va_get (D := (dC, dI)) (ci := 1) (v := .int j0) (C := RX2) (T := TX2) (N := 4) hx hb hts hnX2_wayBehind_X2 hown hK hP 0 rfl rfl 1 (by decide) (hts (.fieldLink RX2 18 "RingMeets$Moves" "ups" "I") (by decide +kernel)) (fun _ h9 => h9) rfl dX2_wayBehind_31 ?_
  refine lv_iand hx hb dX2_wayBehind_34 ?_
  refine lv_topi (fun x_8 ex_8 => ?_)
  refine vp_callSi (va_Run.run (va_runS (As := [.int p1, .int x_8]) (rest := []) ⟨hx, hb, hml, hown, hts⟩ (mX5_turnedUp l dC dI cyI cyZ p1 x_8 ) (va_cwS 2 hts gX2_wayBehind_X5_turnedUp rfl rfl rfl (by decide +kernel) ⟨Nat.le_of_ble_eq_true rfl, Nat.le_of_ble_eq_true rfl⟩) (bs_RS hB (hP.sub (ws' := []) [] rfl)) rfl rfl hl.1 rfl (lv_room (Nat.le_of_ble_eq_true rfl)) dX2_wayBehind_35 ⟨Nat.le_of_ble_eq_true rfl, Nat.le_of_ble_eq_true rfl⟩)) (fun r_9 hr_9 => ?_)
  refine lv_istore (lv' := [(7, .int r_9), (6, .int x_6), (5, .int r_2), (4, .int r_1), (0, .ref mo), (1, .int p1), (2, .int p2), (3, .int p3)]) hx hb dX2_wayBehind_38 hl (by decide) rfl (fun ls hl => ?_)
  refine lv_iload_n hx hb dX2_wayBehind_40 rfl (lv_at hl 5 rfl) ?_
  refine lv_iload hx hb dX2_wayBehind_41 (lv_at hl 3 rfl) ?_
  refine lv_iload_n hx hb dX2_wayBehind_43 rfl (lv_at hl 7 rfl) ?_
  refine lv_iand hx hb dX2_wayBehind_44 ?_
  refine lv_topi (fun x_10 ex_10 => ?_)
  refine lv_aload_n hx hb dX2_wayBehind_45 rfl (lv_at hl 4 rfl) ?_
  refine va_get (D := (dC, dI)) (ci := 1) (v := .int j1) (C := RX2) (T := TX2) (N := 4) hx hb hts hnX2_wayBehind_X2 hown hK hP 0 rfl rfl 2 (by decide) (hts (.fieldLink RX2 22 "RingMeets$Moves" "downs" "I") (by decide +kernel)) (fun _ h9 => h9) rfl dX2_wayBehind_46 ?_
  refine lv_iand hx hb dX2_wayBehind_49 ?_
  refine lv_topi (fun x_11 ex_11 => ?_)
  refine vp_callSi (va_Run.run (va_runS (As := [.int p1, .int x_11]) (rest := []) ⟨hx, hb, hml, hown, hts⟩ (mX5_turnedDown l dC dI cyI cyZ p1 x_11 ) (va_cwS 2 hts gX2_wayBehind_X5_turnedDown rfl rfl rfl (by decide +kernel) ⟨Nat.le_of_ble_eq_true rfl, Nat.le_of_ble_eq_true rfl⟩) (bs_RS hB (hP.sub (ws' := []) [] rfl)) rfl rfl hl.1 rfl (lv_room (Nat.le_of_ble_eq_true rfl)) dX2_wayBehind_50 ⟨Nat.le_of_ble_eq_true rfl, Nat.le_of_ble_eq_true rfl⟩)) (fun r_12 hr_12 => ?_)
  refine lv_istore (lv' := [(8, .int r_12), (7, .int r_9), (6, .int x_6), (5, .int r_2), (4, .int r_1), (0, .ref mo), (1, .int p1), (2, .int p2), (3, .int p3)]) hx hb dX2_wayBehind_53 hl (by decide) rfl (fun ls hl => ?_)
  refine lv_iload hx hb dX2_wayBehind_55 (lv_at hl 3 rfl) ?_
  refine lv_iload hx hb dX2_wayBehind_57 (lv_at hl 2 rfl) ?_
  refine lv_iand hx hb dX2_wayBehind_59 ?_
  refine lv_topi (fun x_13 ex_13 => ?_)
  refine lv_iload_n hx hb dX2_wayBehind_60 rfl (lv_at hl 6 rfl) ?_
  refine lv_iload hx hb dX2_wayBehind_61 (lv_at hl 3 rfl) ?_
  refine lv_iload_n hx hb dX2_wayBehind_63 rfl (lv_at hl 8 rfl) ?_
  refine lv_iand hx hb dX2_wayBehind_64 ?_
  refine lv_topi (fun x_14 ex_14 => ?_)
  refine lv_aload_n hx hb dX2_wayBehind_65 rfl (lv_at hl 5 rfl) ?_
  refine va_get (D := (dC, dI)) (ci := 1) (v := .int j0) (C := RX2) (T := TX2) (N := 4) hx hb hts hnX2_wayBehind_X2 hown hK hP 0 rfl rfl 1 (by decide) (hts (.fieldLink RX2 18 "RingMeets$Moves" "ups" "I") (by decide +kernel)) (fun _ h9 => h9) rfl dX2_wayBehind_66 ?_
  refine lv_iand hx hb dX2_wayBehind_69 ?_
  refine lv_topi (fun x_15 ex_15 => ?_)
  refine vp_callSi (va_Run.run (va_runS (As := [.int p1, .int x_15]) (rest := [.int x_13]) ⟨hx, hb, hml, hown, hts⟩ (mX5_turnedUp l dC dI cyI cyZ p1 x_15 ) (va_cwS 2 hts gX2_wayBehind_X5_turnedUp rfl rfl rfl (by decide +kernel) ⟨Nat.le_of_ble_eq_true rfl, Nat.le_of_ble_eq_true rfl⟩) (bs_RS hB (hP.sub (ws' := []) [] rfl)) rfl rfl hl.1 rfl (lv_room (Nat.le_of_ble_eq_true rfl)) dX2_wayBehind_70 ⟨Nat.le_of_ble_eq_true rfl, Nat.le_of_ble_eq_true rfl⟩)) (fun r_16 hr_16 => ?_)
  refine lv_ior hx hb dX2_wayBehind_73 ?_
  refine lv_topi (fun x_17 ex_17 => ?_)
  refine lv_iload_n hx hb dX2_wayBehind_74 rfl (lv_at hl 6 rfl) ?_
  refine lv_iload hx hb dX2_wayBehind_75 (lv_at hl 3 rfl) ?_
  refine lv_iload_n hx hb dX2_wayBehind_77 rfl (lv_at hl 8 rfl) ?_
  refine lv_iand hx hb dX2_wayBehind_78 ?_
  refine lv_topi (fun x_18 ex_18 => ?_)
  refine lv_aload_n hx hb dX2_wayBehind_79 rfl (lv_at hl 5 rfl) ?_
  refine va_get (D := (dC, dI)) (ci := 1) (v := .int j1) (C := RX2) (T := TX2) (N := 4) hx hb hts hnX2_wayBehind_X2 hown hK hP 0 rfl rfl 2 (by decide) (hts (.fieldLink RX2 22 "RingMeets$Moves" "downs" "I") (by decide +kernel)) (fun _ h9 => h9) rfl dX2_wayBehind_80 ?_
  refine lv_iand hx hb dX2_wayBehind_83 ?_
  refine lv_topi (fun x_19 ex_19 => ?_)
  refine vp_callSi (va_Run.run (va_runS (As := [.int p1, .int x_19]) (rest := [.int x_17]) ⟨hx, hb, hml, hown, hts⟩ (mX5_turnedDown l dC dI cyI cyZ p1 x_19 ) (va_cwS 2 hts gX2_wayBehind_X5_turnedDown rfl rfl rfl (by decide +kernel) ⟨Nat.le_of_ble_eq_true rfl, Nat.le_of_ble_eq_true rfl⟩) (bs_RS hB (hP.sub (ws' := []) [] rfl)) rfl rfl hl.1 rfl (lv_room (Nat.le_of_ble_eq_true rfl)) dX2_wayBehind_84 ⟨Nat.le_of_ble_eq_true rfl, Nat.le_of_ble_eq_true rfl⟩)) (fun r_20 hr_20 => ?_)
  refine lv_ior hx hb dX2_wayBehind_87 ?_
  refine lv_topi (fun x_21 ex_21 => ?_)
  refine lv_iload hx hb dX2_wayBehind_88 (lv_at hl 2 rfl) ?_
  refine lv_iload hx hb dX2_wayBehind_90 (lv_at hl 1 rfl) ?_
  refine lv_iand hx hb dX2_wayBehind_92 ?_
  refine lv_topi (fun x_22 ex_22 => ?_)
  refine lv_ior hx hb dX2_wayBehind_93 ?_
  refine lv_topi (fun x_23 ex_23 => ?_)
  refine lv_iload hx hb dX2_wayBehind_94 (lv_at hl 2 rfl) ?_
  refine lv_iload hx hb dX2_wayBehind_96 (lv_at hl 0 rfl) ?_
  refine lv_iand hx hb dX2_wayBehind_98 ?_
  refine lv_topi (fun x_24 ex_24 => ?_)
  refine lv_ior hx hb dX2_wayBehind_99 ?_
  refine lv_topi (fun x_25 ex_25 => ?_)
  refine lv_iload hx hb dX2_wayBehind_100 (lv_at hl 1 rfl) ?_
  refine lv_iload hx hb dX2_wayBehind_102 (lv_at hl 0 rfl) ?_
  refine lv_iand hx hb dX2_wayBehind_104 ?_
  refine lv_topi (fun x_26 ex_26 => ?_)
  refine lv_ior hx hb dX2_wayBehind_105 ?_
  refine lv_topi (fun x_27 ex_27 => ?_)
  refine lv_istore (lv' := [(9, .int x_27), (8, .int r_12), (7, .int r_9), (6, .int x_6), (5, .int r_2), (4, .int r_1), (0, .ref mo), (1, .int p1), (2, .int p2), (3, .int p3)]) hx hb dX2_wayBehind_106 hl (by decide) rfl (fun ls hl => ?_)
  refine lv_iload hx hb dX2_wayBehind_108 (lv_at hl 3 rfl) ?_
  refine lv_iload hx hb dX2_wayBehind_110 (lv_at hl 2 rfl) ?_
  refine lv_ior hx hb dX2_wayBehind_112 ?_
  refine lv_topi (fun x_28 ex_28 => ?_)
  refine lv_iload hx hb dX2_wayBehind_113 (lv_at hl 1 rfl) ?_
  refine lv_ior hx hb dX2_wayBehind_115 ?_
  refine lv_topi (fun x_29 ex_29 => ?_)
  refine lv_iload hx hb dX2_wayBehind_116 (lv_at hl 0 rfl) ?_
  refine vp_callSi (va_Run.run (va_runS (As := [.int x_29, .int x_27]) (rest := []) ⟨hx, hb, hml, hown, hts⟩ (mX5_way l dC dI cyI cyZ x_29 x_27 ) (va_cwS 2 hts gX2_wayBehind_X5_way rfl rfl rfl (by decide +kernel) ⟨Nat.le_of_ble_eq_true rfl, Nat.le_of_ble_eq_true rfl⟩) (bs_RS hB (hP.sub (ws' := []) [] rfl)) rfl rfl hl.1 rfl (lv_room (Nat.le_of_ble_eq_true rfl)) dX2_wayBehind_118 ⟨Nat.le_of_ble_eq_true rfl, Nat.le_of_ble_eq_true rfl⟩)) (fun r_30 hr_30 => ?_)
  exact W.iret (v := r_30) hx hb hr (fun t ht hW => ⟨r_30, rfl, trivial, ht⟩) (fun q h => by cases h) dX2_wayBehind_121

theorem hnX6_isWay_X6 : ∀ w ∈ wsX60, w ∈ wsX6_isWay := fun _ h => List.mem_cons_of_mem _ (List.mem_append_right _ h)
set_option maxHeartbeats 4000000 in
set_option maxRecDepth 100000 in
theorem mX6_isWay (l : Launch) (dC : Nat → ClassId) (dI : Nat → Nat → Nat) (cyI cyZ : ClassId) (wk : Nat) (mo : Nat) (wy : Nat) (nw : Nat) (ol : Nat) (lt : Nat) (es : Nat) (sf : Nat) (sl : Nat) (so : Nat) (la : Nat) (li : Nat) (ru : Nat) (n : Nat) (z : Nat) (tt : Nat) (qn : Nat) (sc : Int32) (d17 : Int32) (d18 : Int32) (d19 : Int32) (p1 : Int32) (hz : z ≤ 1957) : Met l yX6_isWay wsX6_isWay ({ frames := 0, cells := 0, slots := 0, locals := 0 }) (bs_R dC dI cyI cyZ [.ref wk, .int p1] [(wk, .inr (4, [.ref mo, .ref wy, .ref nw, .ref ol, .ref lt, .ref es, .ref sf, .ref sl, .ref so, .ref la, .ref li, .ref ru, .int (nI n), .int sc, .int (nI z), .int (nI tt), .int (nI qn), .int d17, .int d18, .int d19]))]) (vp_Si (fun r : Int32 => (r = 0 ∨ r = 1) ∧ (r = 1 → 0 ≤ p1.toInt ∧ p1.toInt < z))) 0 0 (fun _ => False) := by
  refine Met.ofW (cc := cX6_isWay) (maxL := 2) (ret := (some .boolean)) (by decide) rfl ?_
  intro p e s m args below meth c s₁ B hml hv
  obtain ⟨rfl, hB, hP⟩ := hv
  have hK := hB.1
  have hN := hB.2
  have hx := B.exec
  have hb := B.bytes
  have hr := B.returns
  have hts := atoms_spec (ws := wsX6_isWay) B.pre
  have hown : s.vm.findClass RX6 = some m.cls := findClass_of_methodNamed B.named
  have hlocks := B.notSynchronized
  have hP : va_P (dC, dI) vwCl [(wk, .inr (4, [.ref mo, .ref wy, .ref nw, .ref ol, .ref lt, .ref es, .ref sf, .ref sl, .ref so, .ref la, .ref li, .ref ru, .int (nI n), .int sc, .int (nI z), .int (nI tt), .int (nI qn), .int d17, .int d18, .int d19]))] s.heap := hP
  have hl := lv_entry ([.ref wk, .int p1]) (n := 2) (Nat.le_of_ble_eq_true rfl)
  rw [lg_entry_eq]
  generalize (lg_sl ([.ref wk, .int p1]) ++ List.replicate (2 - (lg_sl ([.ref wk, .int p1])).length) Slot.unset).toArray = ls at hl ⊢
  have hl : lv_has ls 2 [(0, .ref wk), (1, .int p1)] := hl
  refine lv_iload_n hx hb dX6_isWay_0 rfl (lv_at hl 1 rfl) ?_
  refine lv_if_lt (tgt := 23) hx hb dX6_isWay_1 (by decide) (fun c_1 => ?_) (fun c_1 => ?_)
  · skip
    have ic_1 := ci_lt (rfl : Int32.toInt p1 = _) (show Int32.toInt 0 = 0 by decide) c_1
    refine lv_iconst (v := 0) hx hb dX6_isWay_23 (by decide) ?_
    exact W.zret (v := 0) hx hb hr (show narrow .boolean (.int 0) = .int 0 from rfl) (fun t ht hW => ⟨0, rfl, ⟨Or.inl rfl, fun h => absurd h (by decide)⟩, ht⟩) (fun q h => by cases h) dX6_isWay_24
  · skip
    have ic_1 := ci_nlt (rfl : Int32.toInt p1 = _) (show Int32.toInt 0 = 0 by decide) c_1
    refine lv_iload_n hx hb dX6_isWay_4 rfl (lv_at hl 1 rfl) ?_
    refine lv_aload_n hx hb dX6_isWay_5 rfl (lv_at hl 0 rfl) ?_
    refine va_get (D := (dC, dI)) (ci := 4) (v := .int (nI z)) (C := RX6) (T := TX6) (N := 20) hx hb hts hnX6_isWay_X6 hown hK hP 0 rfl rfl 14 (by decide) (hts (.fieldLink RX6 64 "RingMeets$Walks" "size" "I") (by decide +kernel)) (fun _ h9 => h9) rfl dX6_isWay_6 ?_
    refine lv_icmp_ge (tgt := 23) hx hb dX6_isWay_9 (by decide) (fun c_2 => ?_) (fun c_2 => ?_)
    · skip
      have ic_2 := ci_le (nI_toInt (n := z) (by omega)) (rfl : Int32.toInt p1 = _) c_2
      refine lv_iconst (v := 0) hx hb dX6_isWay_23 (by decide) ?_
      exact W.zret (v := 0) hx hb hr (show narrow .boolean (.int 0) = .int 0 from rfl) (fun t ht hW => ⟨0, rfl, ⟨Or.inl rfl, fun h => absurd h (by decide)⟩, ht⟩) (fun q h => by cases h) dX6_isWay_24
    · skip
      have ic_2 := ci_nle (nI_toInt (n := z) (by omega)) (rfl : Int32.toInt p1 = _) c_2
      refine lv_iload_n hx hb dX6_isWay_12 rfl (lv_at hl 1 rfl) ?_
      refine lv_sipush (v := 1957) hx hb dX6_isWay_13 (by decide) ?_
      refine lv_icmp_ge (tgt := 23) hx hb dX6_isWay_16 (by decide) (fun c_3 => ?_) (fun c_3 => ?_)
      · skip
        have ic_3 := ci_le (show Int32.toInt 1957 = 1957 by decide) (rfl : Int32.toInt p1 = _) c_3
        refine lv_iconst (v := 0) hx hb dX6_isWay_23 (by decide) ?_
        exact W.zret (v := 0) hx hb hr (show narrow .boolean (.int 0) = .int 0 from rfl) (fun t ht hW => ⟨0, rfl, ⟨Or.inl rfl, fun h => absurd h (by decide)⟩, ht⟩) (fun q h => by cases h) dX6_isWay_24
      · skip
        have ic_3 := ci_nle (show Int32.toInt 1957 = 1957 by decide) (rfl : Int32.toInt p1 = _) c_3
        refine lv_iconst (v := 1) hx hb dX6_isWay_19 (by decide) ?_
        refine lv_goto (tgt := 24) hx hb dX6_isWay_20 (by decide) ?_
        exact W.zret (v := 1) hx hb hr (show narrow .boolean (.int 1) = .int 1 from rfl) (fun t ht hW => ⟨1, rfl, ⟨Or.inr rfl, fun _ => ⟨by omega, by omega⟩⟩, ht⟩) (fun q h => by cases h) dX6_isWay_24

theorem hnX6_isStep_X6 : ∀ w ∈ wsX60, w ∈ wsX6_isStep := fun _ h => List.mem_cons_of_mem _ (List.mem_append_right _ h)
set_option maxHeartbeats 4000000 in
set_option maxRecDepth 100000 in
theorem mX6_isStep (l : Launch) (dC : Nat → ClassId) (dI : Nat → Nat → Nat) (cyI cyZ : ClassId) (wk : Nat) (mo : Nat) (wy : Nat) (nw : Nat) (ol : Nat) (lt : Nat) (es : Nat) (sf : Nat) (sl : Nat) (so : Nat) (la : Nat) (li : Nat) (ru : Nat) (n : Nat) (z : Nat) (tt : Nat) (qn : Nat) (sc : Int32) (d17 : Int32) (d18 : Int32) (d19 : Int32) (p1 : Int32) (htt : tt ≤ 25857) : Met l yX6_isStep wsX6_isStep ({ frames := 0, cells := 0, slots := 0, locals := 0 }) (bs_R dC dI cyI cyZ [.ref wk, .int p1] [(wk, .inr (4, [.ref mo, .ref wy, .ref nw, .ref ol, .ref lt, .ref es, .ref sf, .ref sl, .ref so, .ref la, .ref li, .ref ru, .int (nI n), .int sc, .int (nI z), .int (nI tt), .int (nI qn), .int d17, .int d18, .int d19]))]) (vp_Si (fun r : Int32 => (r = 0 ∨ r = 1) ∧ (r = 1 → 0 ≤ p1.toInt ∧ p1.toInt < tt))) 0 0 (fun _ => False) := by
  refine Met.ofW (cc := cX6_isStep) (maxL := 2) (ret := (some .boolean)) (by decide) rfl ?_
  intro p e s m args below meth c s₁ B hml hv
  obtain ⟨rfl, hB, hP⟩ := hv
  have hK := hB.1
  have hN := hB.2
  have hx := B.exec
  have hb := B.bytes
  have hr := B.returns
  have hts := atoms_spec (ws := wsX6_isStep) B.pre
  have hown : s.vm.findClass RX6 = some m.cls := findClass_of_methodNamed B.named
  have hlocks := B.notSynchronized
  have hP : va_P (dC, dI) vwCl [(wk, .inr (4, [.ref mo, .ref wy, .ref nw, .ref ol, .ref lt, .ref es, .ref sf, .ref sl, .ref so, .ref la, .ref li, .ref ru, .int (nI n), .int sc, .int (nI z), .int (nI tt), .int (nI qn), .int d17, .int d18, .int d19]))] s.heap := hP
  have hl := lv_entry ([.ref wk, .int p1]) (n := 2) (Nat.le_of_ble_eq_true rfl)
  rw [lg_entry_eq]
  generalize (lg_sl ([.ref wk, .int p1]) ++ List.replicate (2 - (lg_sl ([.ref wk, .int p1])).length) Slot.unset).toArray = ls at hl ⊢
  have hl : lv_has ls 2 [(0, .ref wk), (1, .int p1)] := hl
  refine lv_iload_n hx hb dX6_isStep_0 rfl (lv_at hl 1 rfl) ?_
  refine lv_if_lt (tgt := 23) hx hb dX6_isStep_1 (by decide) (fun c_1 => ?_) (fun c_1 => ?_)
  · skip
    have ic_1 := ci_lt (rfl : Int32.toInt p1 = _) (show Int32.toInt 0 = 0 by decide) c_1
    refine lv_iconst (v := 0) hx hb dX6_isStep_23 (by decide) ?_
    exact W.zret (v := 0) hx hb hr (show narrow .boolean (.int 0) = .int 0 from rfl) (fun t ht hW => ⟨0, rfl, ⟨Or.inl rfl, fun h => absurd h (by decide)⟩, ht⟩) (fun q h => by cases h) dX6_isStep_24
  · skip
    have ic_1 := ci_nlt (rfl : Int32.toInt p1 = _) (show Int32.toInt 0 = 0 by decide) c_1
    refine lv_iload_n hx hb dX6_isStep_4 rfl (lv_at hl 1 rfl) ?_
    refine lv_aload_n hx hb dX6_isStep_5 rfl (lv_at hl 0 rfl) ?_
    refine va_get (D := (dC, dI)) (ci := 4) (v := .int (nI tt)) (C := RX6) (T := TX6) (N := 20) hx hb hts hnX6_isStep_X6 hown hK hP 0 rfl rfl 15 (by decide) (hts (.fieldLink RX6 67 "RingMeets$Walks" "steps" "I") (by decide +kernel)) (fun _ h9 => h9) rfl dX6_isStep_6 ?_
    refine lv_icmp_ge (tgt := 23) hx hb dX6_isStep_9 (by decide) (fun c_2 => ?_) (fun c_2 => ?_)
    · skip
      have ic_2 := ci_le (nI_toInt (n := tt) (by omega)) (rfl : Int32.toInt p1 = _) c_2
      refine lv_iconst (v := 0) hx hb dX6_isStep_23 (by decide) ?_
      exact W.zret (v := 0) hx hb hr (show narrow .boolean (.int 0) = .int 0 from rfl) (fun t ht hW => ⟨0, rfl, ⟨Or.inl rfl, fun h => absurd h (by decide)⟩, ht⟩) (fun q h => by cases h) dX6_isStep_24
    · skip
      have ic_2 := ci_nle (nI_toInt (n := tt) (by omega)) (rfl : Int32.toInt p1 = _) c_2
      refine lv_iload_n hx hb dX6_isStep_12 rfl (lv_at hl 1 rfl) ?_
      refine lv_sipush (v := 25857) hx hb dX6_isStep_13 (by decide) ?_
      refine lv_icmp_ge (tgt := 23) hx hb dX6_isStep_16 (by decide) (fun c_3 => ?_) (fun c_3 => ?_)
      · skip
        have ic_3 := ci_le (show Int32.toInt 25857 = 25857 by decide) (rfl : Int32.toInt p1 = _) c_3
        refine lv_iconst (v := 0) hx hb dX6_isStep_23 (by decide) ?_
        exact W.zret (v := 0) hx hb hr (show narrow .boolean (.int 0) = .int 0 from rfl) (fun t ht hW => ⟨0, rfl, ⟨Or.inl rfl, fun h => absurd h (by decide)⟩, ht⟩) (fun q h => by cases h) dX6_isStep_24
      · skip
        have ic_3 := ci_nle (show Int32.toInt 25857 = 25857 by decide) (rfl : Int32.toInt p1 = _) c_3
        refine lv_iconst (v := 1) hx hb dX6_isStep_19 (by decide) ?_
        refine lv_goto (tgt := 24) hx hb dX6_isStep_20 (by decide) ?_
        exact W.zret (v := 1) hx hb hr (show narrow .boolean (.int 1) = .int 1 from rfl) (fun t ht hW => ⟨1, rfl, ⟨Or.inr rfl, fun _ => ⟨by omega, by omega⟩⟩, ht⟩) (fun q h => by cases h) dX6_isStep_24

theorem hnX6_hasMet_X6 : ∀ w ∈ wsX60, w ∈ wsX6_hasMet := fun _ h => List.mem_cons_of_mem _ (List.mem_append_right _ h)
set_option maxHeartbeats 4000000 in
set_option maxRecDepth 100000 in
theorem mX6_hasMet (l : Launch) (dC : Nat → ClassId) (dI : Nat → Nat → Nat) (cyI cyZ : ClassId) (wk : Nat) (mo : Nat) (wy : Nat) (nw : Nat) (ol : Nat) (lt : Nat) (es : Nat) (sf : Nat) (sl : Nat) (so : Nat) (la : Nat) (li : Nat) (ru : Nat) (n : Nat) (z : Nat) (tt : Nat) (qn : Nat) (sc : Int32) (d17 : Int32) (d18 : Int32) (d19 : Int32) (fy : Nat → Int32) (p1 : Int32) (hn : n ≤ 10) (hz : z ≤ 1957) (htt : tt ≤ 25857) (hqn : qn ≤ 1957) : Met l yX6_hasMet wsX6_hasMet ({ frames := 1, cells := 0, slots := 0, locals := 21 }) (bs_R dC dI cyI cyZ [.ref wk, .int p1] [(wk, .inr (4, [.ref mo, .ref wy, .ref nw, .ref ol, .ref lt, .ref es, .ref sf, .ref sl, .ref so, .ref la, .ref li, .ref ru, .int (nI n), .int sc, .int (nI z), .int (nI tt), .int (nI qn), .int d17, .int d18, .int d19])), (wy, .inl (cyI, 1957, .inl fy))]) (vp_Si (fun r : Int32 => r = 0 ∨ r = 1)) 0 0 (fun _ => False) := by
  refine Met.ofW (cc := cX6_hasMet) (maxL := 2) (ret := (some .boolean)) (by decide) rfl ?_
  intro p e s m args below meth c s₁ B hml hv
  obtain ⟨rfl, hB, hP⟩ := hv
  have hK := hB.1
  have hN := hB.2
  have hx := B.exec
  have hb := B.bytes
  have hr := B.returns
  have hts := atoms_spec (ws := wsX6_hasMet) B.pre
  have hown : s.vm.findClass RX6 = some m.cls := findClass_of_methodNamed B.named
  have hlocks := B.notSynchronized
  have hP : va_P (dC, dI) vwCl [(wk, .inr (4, [.ref mo, .ref wy, .ref nw, .ref ol, .ref lt, .ref es, .ref sf, .ref sl, .ref so, .ref la, .ref li, .ref ru, .int (nI n), .int sc, .int (nI z), .int (nI tt), .int (nI qn), .int d17, .int d18, .int d19])), (wy, .inl (cyI, 1957, .inl fy))] s.heap := hP
  have hl := lv_entry ([.ref wk, .int p1]) (n := 2) (Nat.le_of_ble_eq_true rfl)
  rw [lg_entry_eq]
  generalize (lg_sl ([.ref wk, .int p1]) ++ List.replicate (2 - (lg_sl ([.ref wk, .int p1])).length) Slot.unset).toArray = ls at hl ⊢
  have hl : lv_has ls 2 [(0, .ref wk), (1, .int p1)] := hl
  refine lv_aload_n hx hb dX6_hasMet_0 rfl (lv_at hl 0 rfl) ?_
  refine lv_iload_n hx hb dX6_hasMet_1 rfl (lv_at hl 1 rfl) ?_
  refine vp_callSi (va_Run.run (va_runV (As := [.int p1]) (rest := []) ⟨hx, hb, hml, hown, hts⟩ (mX6_isWay l dC dI cyI cyZ wk mo wy nw ol lt es sf sl so la li ru n z tt qn sc d17 d18 d19 p1 (by omega)) (cwV 1 hts gX6_hasMet_X6_isWay rfl rfl rfl (by decide +kernel) ⟨Nat.le_of_ble_eq_true rfl, Nat.le_of_ble_eq_true rfl⟩) (bs_RV hB (hP.sub (ws' := [(wk, .inr (4, [.ref mo, .ref wy, .ref nw, .ref ol, .ref lt, .ref es, .ref sf, .ref sl, .ref so, .ref la, .ref li, .ref ru, .int (nI n), .int sc, .int (nI z), .int (nI tt), .int (nI qn), .int d17, .int d18, .int d19]))]) [0] rfl) 0 rfl rfl) rfl rfl hl.1 rfl (lv_room (Nat.le_of_ble_eq_true rfl)) dX6_hasMet_2 ⟨Nat.le_of_ble_eq_true rfl, Nat.le_of_ble_eq_true rfl⟩)) (fun r_1 hr_1 => ?_)
  refine lv_if_eq (tgt := 28) hx hb dX6_hasMet_5 (by decide) (fun c_2 => ?_) (fun c_2 => ?_)
  · skip
    have ic_2 := ci_eq (rfl : Int32.toInt r_1 = _) (show Int32.toInt 0 = 0 by decide) c_2
    refine lv_iconst (v := 0) hx hb dX6_hasMet_28 (by decide) ?_
    exact W.zret (v := 0) hx hb hr (show narrow .boolean (.int 0) = .int 0 from rfl) (fun t ht hW => ⟨0, rfl, Or.inl rfl, ht⟩) (fun q h => by cases h) dX6_hasMet_29
  · skip
    have ic_2 := ci_ne (rfl : Int32.toInt r_1 = _) (show Int32.toInt 0 = 0 by decide) c_2
    obtain ⟨hwl, hwu⟩ := hr_1.2 (hr_1.1.resolve_left c_2)
    refine lv_aload_n hx hb dX6_hasMet_8 rfl (lv_at hl 0 rfl) ?_
    refine va_get (D := (dC, dI)) (ci := 4) (v := .ref wy) (C := RX6) (T := TX6) (N := 20) hx hb hts hnX6_hasMet_X6 hown hK hP 0 rfl rfl 1 (by decide) (hts (.fieldLink RX6 18 "RingMeets$Walks" "ways" "[I") (by decide +kernel)) (fun _ h9 => h9) rfl dX6_hasMet_9 ?_
    refine lv_iload_n hx hb dX6_hasMet_12 rfl (lv_at hl 1 rfl) ?_
    refine va_iald (D := (dC, dI)) hx hb hK hP 1 0 rfl rfl (nb_in (x := p1) (n := 1957) (by omega) (by omega)) dX6_hasMet_13 ?_
    refine lv_topi (fun x_3 ex_3 => ?_)
    refine vp_callSi (va_Run.run (va_runS (As := [.int x_3]) (rest := []) ⟨hx, hb, hml, hown, hts⟩ (mX5_standsOf l dC dI cyI cyZ x_3 ) (va_cwS 1 hts gX6_hasMet_X5_standsOf rfl rfl rfl (by decide +kernel) ⟨Nat.le_of_ble_eq_true rfl, Nat.le_of_ble_eq_true rfl⟩) (bs_RS hB (hP.sub (ws' := []) [] rfl)) rfl rfl hl.1 rfl (lv_room (Nat.le_of_ble_eq_true rfl)) dX6_hasMet_14 ⟨Nat.le_of_ble_eq_true rfl, Nat.le_of_ble_eq_true rfl⟩)) (fun r_4 hr_4 => ?_)
    refine vp_callSi (va_Run.run (va_runS (As := [.int r_4]) (rest := []) ⟨hx, hb, hml, hown, hts⟩ (mJ6_bitCount_0f7a4 l dC dI cyI cyZ r_4 ) (va_cwS 1 hts gX6_hasMet_J6_bitCount_0f7a4 rfl rfl rfl (by decide +kernel) ⟨Nat.le_of_ble_eq_true rfl, Nat.le_of_ble_eq_true rfl⟩) (bs_RS hB (hP.sub (ws' := []) [] rfl)) rfl rfl hl.1 rfl (lv_room (Nat.le_of_ble_eq_true rfl)) dX6_hasMet_17 ⟨Nat.le_of_ble_eq_true rfl, Nat.le_of_ble_eq_true rfl⟩)) (fun r_5 hr_5 => ?_)
    refine lv_iconst (v := 1) hx hb dX6_hasMet_20 (by decide) ?_
    refine lv_icmp_ne (tgt := 28) hx hb dX6_hasMet_21 (by decide) (fun c_6 => ?_) (fun c_6 => ?_)
    · skip
      have ic_6 := ci_ne (rfl : Int32.toInt r_5 = _) (show Int32.toInt 1 = 1 by decide) c_6
      refine lv_iconst (v := 0) hx hb dX6_hasMet_28 (by decide) ?_
      exact W.zret (v := 0) hx hb hr (show narrow .boolean (.int 0) = .int 0 from rfl) (fun t ht hW => ⟨0, rfl, Or.inl rfl, ht⟩) (fun q h => by cases h) dX6_hasMet_29
    · skip
      have ic_6 := ci_eq (rfl : Int32.toInt r_5 = _) (show Int32.toInt 1 = 1 by decide) c_6
      refine lv_iconst (v := 1) hx hb dX6_hasMet_24 (by decide) ?_
      refine lv_goto (tgt := 29) hx hb dX6_hasMet_25 (by decide) ?_
      exact W.zret (v := 1) hx hb hr (show narrow .boolean (.int 1) = .int 1 from rfl) (fun t ht hW => ⟨1, rfl, Or.inr rfl, ht⟩) (fun q h => by cases h) dX6_hasMet_29

theorem hnX6_towersSeen_X6 : ∀ w ∈ wsX60, w ∈ wsX6_towersSeen := fun _ h => List.mem_cons_of_mem _ (List.mem_append_right _ h)
set_option maxHeartbeats 4000000 in
set_option maxRecDepth 100000 in
theorem mX6_towersSeen (l : Launch) (dC : Nat → ClassId) (dI : Nat → Nat → Nat) (cyI cyZ : ClassId) (wk : Nat) (mo : Nat) (wy : Nat) (nw : Nat) (ol : Nat) (lt : Nat) (es : Nat) (sf : Nat) (sl : Nat) (so : Nat) (la : Nat) (li : Nat) (ru : Nat) (n : Nat) (z : Nat) (tt : Nat) (qn : Nat) (sc : Int32) (d17 : Int32) (d18 : Int32) (d19 : Int32) (p1 : Int32)  : Met l yX6_towersSeen wsX6_towersSeen ({ frames := 1, cells := 0, slots := 0, locals := 20 }) (bs_R dC dI cyI cyZ [.ref wk, .int p1] [(wk, .inr (4, [.ref mo, .ref wy, .ref nw, .ref ol, .ref lt, .ref es, .ref sf, .ref sl, .ref so, .ref la, .ref li, .ref ru, .int (nI n), .int sc, .int (nI z), .int (nI tt), .int (nI qn), .int d17, .int d18, .int d19]))]) (vp_Si (fun r : Int32 => True)) 0 0 (fun _ => False) := by
  refine Met.ofW (cc := cX6_towersSeen) (maxL := 2) (ret := (some .int)) (by decide) rfl ?_
  intro p e s m args below meth c s₁ B hml hv
  obtain ⟨rfl, hB, hP⟩ := hv
  have hK := hB.1
  have hN := hB.2
  have hx := B.exec
  have hb := B.bytes
  have hr := B.returns
  have hts := atoms_spec (ws := wsX6_towersSeen) B.pre
  have hown : s.vm.findClass RX6 = some m.cls := findClass_of_methodNamed B.named
  have hlocks := B.notSynchronized
  have hP : va_P (dC, dI) vwCl [(wk, .inr (4, [.ref mo, .ref wy, .ref nw, .ref ol, .ref lt, .ref es, .ref sf, .ref sl, .ref so, .ref la, .ref li, .ref ru, .int (nI n), .int sc, .int (nI z), .int (nI tt), .int (nI qn), .int d17, .int d18, .int d19]))] s.heap := hP
  have hl := lv_entry ([.ref wk, .int p1]) (n := 2) (Nat.le_of_ble_eq_true rfl)
  rw [lg_entry_eq]
  generalize (lg_sl ([.ref wk, .int p1]) ++ List.replicate (2 - (lg_sl ([.ref wk, .int p1])).length) Slot.unset).toArray = ls at hl ⊢
  have hl : lv_has ls 2 [(0, .ref wk), (1, .int p1)] := hl
  refine lv_aload_n hx hb dX6_towersSeen_0 rfl (lv_at hl 0 rfl) ?_
  refine va_get (D := (dC, dI)) (ci := 4) (v := .int d19) (C := RX6) (T := TX6) (N := 20) hx hb hts hnX6_towersSeen_X6 hown hK hP 0 rfl rfl 19 (by decide) (hts (.fieldLink RX6 60 "RingMeets$Walks" "blindly" "Z") (by decide +kernel)) (fun _ h9 => h9) rfl dX6_towersSeen_1 ?_
  refine lv_if_eq (tgt := 11) hx hb dX6_towersSeen_4 (by decide) (fun c_1 => ?_) (fun c_1 => ?_)
  · skip
    have ic_1 := ci_eq (rfl : Int32.toInt d19 = _) (show Int32.toInt 0 = 0 by decide) c_1
    refine lv_iload_n hx hb dX6_towersSeen_11 rfl (lv_at hl 1 rfl) ?_
    refine vp_callSi (va_Run.run (va_runS (As := [.int p1]) (rest := []) ⟨hx, hb, hml, hown, hts⟩ (mX5_towersOf l dC dI cyI cyZ p1 ) (va_cwS 1 hts gX6_towersSeen_X5_towersOf rfl rfl rfl (by decide +kernel) ⟨Nat.le_of_ble_eq_true rfl, Nat.le_of_ble_eq_true rfl⟩) (bs_RS hB (hP.sub (ws' := []) [] rfl)) rfl rfl hl.1 rfl (lv_room (Nat.le_of_ble_eq_true rfl)) dX6_towersSeen_12 ⟨Nat.le_of_ble_eq_true rfl, Nat.le_of_ble_eq_true rfl⟩)) (fun r_2 hr_2 => ?_)
    exact W.iret (v := r_2) hx hb hr (fun t ht hW => ⟨r_2, rfl, trivial, ht⟩) (fun q h => by cases h) dX6_towersSeen_15
  · skip
    have ic_1 := ci_ne (rfl : Int32.toInt d19 = _) (show Int32.toInt 0 = 0 by decide) c_1
    refine lv_iconst (v := 0) hx hb dX6_towersSeen_7 (by decide) ?_
    refine lv_goto (tgt := 15) hx hb dX6_towersSeen_8 (by decide) ?_
    exact W.iret (v := 0) hx hb hr (fun t ht hW => ⟨0, rfl, trivial, ht⟩) (fun q h => by cases h) dX6_towersSeen_15

theorem hnX6_find_X6 : ∀ w ∈ wsX60, w ∈ wsX6_find := fun _ h => List.mem_cons_of_mem _ (List.mem_append_right _ h)
set_option maxHeartbeats 4000000 in
set_option maxRecDepth 100000 in
theorem mX6_find (l : Launch) (dC : Nat → ClassId) (dI : Nat → Nat → Nat) (cyI cyZ : ClassId) (wk : Nat) (mo : Nat) (wy : Nat) (nw : Nat) (ol : Nat) (lt : Nat) (es : Nat) (sf : Nat) (sl : Nat) (so : Nat) (la : Nat) (li : Nat) (ru : Nat) (n : Nat) (z : Nat) (tt : Nat) (qn : Nat) (sc : Int32) (d17 : Int32) (d18 : Int32) (d19 : Int32) (fy : Nat → Int32) (fn : Nat → Int32) (fo : Nat → Int32) (p1 : Int32) (hn : n ≤ 10) (hz : z ≤ 1957) (htt : tt ≤ 25857) (hqn : qn ≤ 1957) : Met l yX6_find wsX6_find ({ frames := 1, cells := 0, slots := 0, locals := 21 }) (bs_R dC dI cyI cyZ [.ref wk, .int p1] [(wk, .inr (4, [.ref mo, .ref wy, .ref nw, .ref ol, .ref lt, .ref es, .ref sf, .ref sl, .ref so, .ref la, .ref li, .ref ru, .int (nI n), .int sc, .int (nI z), .int (nI tt), .int (nI qn), .int d17, .int d18, .int d19])), (wy, .inl (cyI, 1957, .inl fy)), (nw, .inl (cyI, 1024, .inl fn)), (ol, .inl (cyI, 1957, .inl fo))]) (vp_Si (fun r : Int32 => True)) 0 0 (fun _ => False) := by
  refine Met.ofW (cc := cX6_find) (maxL := 4) (ret := (some .int)) (by decide) rfl ?_
  intro p e s m args below meth c s₁ B hml hv
  obtain ⟨rfl, hB, hP⟩ := hv
  have hK := hB.1
  have hN := hB.2
  have hx := B.exec
  have hb := B.bytes
  have hr := B.returns
  have hts := atoms_spec (ws := wsX6_find) B.pre
  have hown : s.vm.findClass RX6 = some m.cls := findClass_of_methodNamed B.named
  have hlocks := B.notSynchronized
  have hP : va_P (dC, dI) vwCl [(wk, .inr (4, [.ref mo, .ref wy, .ref nw, .ref ol, .ref lt, .ref es, .ref sf, .ref sl, .ref so, .ref la, .ref li, .ref ru, .int (nI n), .int sc, .int (nI z), .int (nI tt), .int (nI qn), .int d17, .int d18, .int d19])), (wy, .inl (cyI, 1957, .inl fy)), (nw, .inl (cyI, 1024, .inl fn)), (ol, .inl (cyI, 1957, .inl fo))] s.heap := hP
  have hl := lv_entry ([.ref wk, .int p1]) (n := 4) (Nat.le_of_ble_eq_true rfl)
  rw [lg_entry_eq]
  generalize (lg_sl ([.ref wk, .int p1]) ++ List.replicate (4 - (lg_sl ([.ref wk, .int p1])).length) Slot.unset).toArray = ls at hl ⊢
  have hl : lv_has ls 4 [(0, .ref wk), (1, .int p1)] := hl
  refine lv_aload_n hx hb dX6_find_0 rfl (lv_at hl 0 rfl) ?_
  refine va_get (D := (dC, dI)) (ci := 4) (v := .ref nw) (C := RX6) (T := TX6) (N := 20) hx hb hts hnX6_find_X6 hown hK hP 0 rfl rfl 2 (by decide) (hts (.fieldLink RX6 22 "RingMeets$Walks" "newest" "[I") (by decide +kernel)) (fun _ h9 => h9) rfl dX6_find_1 ?_
  refine lv_iload_n hx hb dX6_find_4 rfl (lv_at hl 1 rfl) ?_
  refine vp_callSi (va_Run.run (va_runS (As := [.int p1]) (rest := [.ref nw]) ⟨hx, hb, hml, hown, hts⟩ (mX5_standsOf l dC dI cyI cyZ p1 ) (va_cwS 1 hts gX6_find_X5_standsOf rfl rfl rfl (by decide +kernel) ⟨Nat.le_of_ble_eq_true rfl, Nat.le_of_ble_eq_true rfl⟩) (bs_RS hB (hP.sub (ws' := []) [] rfl)) rfl rfl hl.1 rfl (lv_room (Nat.le_of_ble_eq_true rfl)) dX6_find_5 ⟨Nat.le_of_ble_eq_true rfl, Nat.le_of_ble_eq_true rfl⟩)) (fun r_1 hr_1 => ?_)
  have hst9 := hr_1
  refine va_iald (D := (dC, dI)) hx hb hK hP 2 0 rfl rfl (nb_in (x := r_1) (n := 1024) (by omega) (by omega)) dX6_find_8 ?_
  refine lv_topi (fun x_2 ex_2 => ?_)
  refine lv_istore_n (lv' := [(2, .int x_2), (0, .ref wk), (1, .int p1)]) hx hb dX6_find_9 rfl hl (by decide) rfl (fun ls hl => ?_)
  refine lv_iconst (v := 0) hx hb dX6_find_10 (by decide) ?_
  refine lv_istore_n (lv' := [(3, .int 0), (2, .int x_2), (0, .ref wk), (1, .int p1)]) hx hb dX6_find_11 rfl hl (by decide) rfl (fun ls hl => ?_)
  have L12 : ∀ (n12 : Nat), ∀ (k : Nat) (ya : Int32), (0 ≤ k ∧ k ≤ z) → (z + 1 ≤ k + n12) → ∀ (ls : Array Slot), lv_has ls 4 [(0, .ref wk), (1, .int p1), (2, .int ya), (3, .int (nI k))] → W p l e (headSpec wsX6_find ({ frames := 1, cells := 0, slots := 0, locals := 21 })).room s m ([.ref wk, .int p1] : List Value).toArray below meth c s.heap [] 0 0 (MQ below (vp_Si (fun r : Int32 => True)) ([.ref wk, .int p1] : List Value).toArray s 0 0 (fun _ => False)) (F0 m 12 ls []) := by
    intro n12
    induction n12 with
    | zero =>
      intro k ya hk12 hn12 ls hl
      exfalso
      omega
    | succ n12 ih12 =>
      intro k ya hk12 hn12 ls hl
      refine lv_iload_n hx hb dX6_find_12 rfl (lv_at hl 3 rfl) ?_
      refine lv_aload_n hx hb dX6_find_13 rfl (lv_at hl 0 rfl) ?_
      refine va_get (D := (dC, dI)) (ci := 4) (v := .int (nI z)) (C := RX6) (T := TX6) (N := 20) hx hb hts hnX6_find_X6 hown hK hP 0 rfl rfl 14 (by decide) (hts (.fieldLink RX6 64 "RingMeets$Walks" "size" "I") (by decide +kernel)) (fun _ h9 => h9) rfl dX6_find_14 ?_
      refine lv_icmp_ge (tgt := 53) hx hb dX6_find_17 (by decide) (fun c_3 => ?_) (fun c_3 => ?_)
      · skip
        have ic_3 := ci_le (nI_toInt (n := z) (by omega)) (nI_toInt (n := k) (by omega)) c_3
        refine lv_iconst (v := (-1)) hx hb dX6_find_53 (by decide) ?_
        exact W.iret (v := (-1)) hx hb hr (fun t ht hW => ⟨(-1), rfl, trivial, ht⟩) (fun q h => by cases h) dX6_find_54
      · skip
        have ic_3 := ci_nle (nI_toInt (n := z) (by omega)) (nI_toInt (n := k) (by omega)) c_3
        refine lv_aload_n hx hb dX6_find_20 rfl (lv_at hl 0 rfl) ?_
        refine lv_iload_n hx hb dX6_find_21 rfl (lv_at hl 2 rfl) ?_
        refine vp_callSi (va_Run.run (va_runV (As := [.int ya]) (rest := []) ⟨hx, hb, hml, hown, hts⟩ (mX6_isWay l dC dI cyI cyZ wk mo wy nw ol lt es sf sl so la li ru n z tt qn sc d17 d18 d19 ya (by omega)) (cwV 1 hts gX6_find_X6_isWay rfl rfl rfl (by decide +kernel) ⟨Nat.le_of_ble_eq_true rfl, Nat.le_of_ble_eq_true rfl⟩) (bs_RV hB (hP.sub (ws' := [(wk, .inr (4, [.ref mo, .ref wy, .ref nw, .ref ol, .ref lt, .ref es, .ref sf, .ref sl, .ref so, .ref la, .ref li, .ref ru, .int (nI n), .int sc, .int (nI z), .int (nI tt), .int (nI qn), .int d17, .int d18, .int d19]))]) [0] rfl) 0 rfl rfl) rfl rfl hl.1 rfl (lv_room (Nat.le_of_ble_eq_true rfl)) dX6_find_22 ⟨Nat.le_of_ble_eq_true rfl, Nat.le_of_ble_eq_true rfl⟩)) (fun r_4 hr_4 => ?_)
        refine lv_if_eq (tgt := 53) hx hb dX6_find_25 (by decide) (fun c_5 => ?_) (fun c_5 => ?_)
        · skip
          have ic_5 := ci_eq (rfl : Int32.toInt r_4 = _) (show Int32.toInt 0 = 0 by decide) c_5
          refine lv_iconst (v := (-1)) hx hb dX6_find_53 (by decide) ?_
          exact W.iret (v := (-1)) hx hb hr (fun t ht hW => ⟨(-1), rfl, trivial, ht⟩) (fun q h => by cases h) dX6_find_54
        · skip
          have ic_5 := ci_ne (rfl : Int32.toInt r_4 = _) (show Int32.toInt 0 = 0 by decide) c_5
          obtain ⟨hwl, hwu⟩ := hr_4.2 (hr_4.1.resolve_left c_5)
          refine lv_aload_n hx hb dX6_find_28 rfl (lv_at hl 0 rfl) ?_
          refine va_get (D := (dC, dI)) (ci := 4) (v := .ref wy) (C := RX6) (T := TX6) (N := 20) hx hb hts hnX6_find_X6 hown hK hP 0 rfl rfl 1 (by decide) (hts (.fieldLink RX6 18 "RingMeets$Walks" "ways" "[I") (by decide +kernel)) (fun _ h9 => h9) rfl dX6_find_29 ?_
          refine lv_iload_n hx hb dX6_find_32 rfl (lv_at hl 2 rfl) ?_
          refine va_iald (D := (dC, dI)) hx hb hK hP 1 0 rfl rfl (nb_in (x := ya) (n := 1957) (by omega) (by omega)) dX6_find_33 ?_
          refine lv_topi (fun x_6 ex_6 => ?_)
          refine lv_iload_n hx hb dX6_find_34 rfl (lv_at hl 1 rfl) ?_
          refine lv_icmp_ne (tgt := 40) hx hb dX6_find_35 (by decide) (fun c_7 => ?_) (fun c_7 => ?_)
          · skip
            have ic_7 := ci_ne (rfl : Int32.toInt x_6 = _) (rfl : Int32.toInt p1 = _) c_7
            refine lv_aload_n hx hb dX6_find_40 rfl (lv_at hl 0 rfl) ?_
            refine va_get (D := (dC, dI)) (ci := 4) (v := .ref ol) (C := RX6) (T := TX6) (N := 20) hx hb hts hnX6_find_X6 hown hK hP 0 rfl rfl 3 (by decide) (hts (.fieldLink RX6 25 "RingMeets$Walks" "older" "[I") (by decide +kernel)) (fun _ h9 => h9) rfl dX6_find_41 ?_
            refine lv_iload_n hx hb dX6_find_44 rfl (lv_at hl 2 rfl) ?_
            refine va_iald (D := (dC, dI)) hx hb hK hP 3 0 rfl rfl (nb_in (x := ya) (n := 1957) (by omega) (by omega)) dX6_find_45 ?_
            refine lv_topi (fun x_8 ex_8 => ?_)
            refine lv_istore_n (lv' := [(2, .int x_8), (0, .ref wk), (1, .int p1), (3, .int (nI k))]) hx hb dX6_find_46 rfl hl (by decide) rfl (fun ls hl => ?_)
            refine lv_iinc (v := (nI (k + 1))) (lv' := [(3, .int (nI (k + 1))), (2, .int x_8), (0, .ref wk), (1, .int p1)]) hx hb dX6_find_47 hl (k := 3) rfl (nI_1 _) (by decide) rfl (fun ls hl => ?_)
            refine lv_goto (tgt := 12) hx hb dX6_find_50 (by decide) ?_
            exact ih12 (k + 1) x_8 ⟨by omega, by omega⟩ (by omega)  _ (lv_sub hl [2, 3, 1, 0] rfl)
          · skip
            have ic_7 := ci_eq (rfl : Int32.toInt x_6 = _) (rfl : Int32.toInt p1 = _) c_7
            refine lv_iload_n hx hb dX6_find_38 rfl (lv_at hl 2 rfl) ?_
            exact W.iret (v := ya) hx hb hr (fun t ht hW => ⟨ya, rfl, trivial, ht⟩) (fun q h => by cases h) dX6_find_39
  exact L12 (z + 1) 0 x_2 ⟨by omega, by omega⟩ (by omega)  _ (lv_sub hl [2, 3, 1, 0] rfl)

theorem hnX6_add_X6 : ∀ w ∈ wsX60, w ∈ wsX6_add := fun _ h => List.mem_cons_of_mem _ (List.mem_append_right _ h)
set_option maxHeartbeats 4000000 in
set_option maxRecDepth 100000 in
theorem mX6_add (l : Launch) (dC : Nat → ClassId) (dI : Nat → Nat → Nat) (cyI cyZ : ClassId) (wk : Nat) (mo : Nat) (wy : Nat) (nw : Nat) (ol : Nat) (lt : Nat) (es : Nat) (sf : Nat) (sl : Nat) (so : Nat) (la : Nat) (li : Nat) (ru : Nat) (n : Nat) (z : Nat) (tt : Nat) (qn : Nat) (sc : Int32) (d17 : Int32) (d18 : Int32) (d19 : Int32) (fy : Nat → Int32) (fn : Nat → Int32) (fo : Nat → Int32) (fl : Nat → Int32) (fc : Nat → Int32) (p1 : Int32) (hn : n ≤ 10) (hz : z ≤ 1957) (htt : tt ≤ 25857) (hqn : qn ≤ 1957) (sz : Nat) : Met l yX6_add wsX6_add ({ frames := 2, cells := 0, slots := 0, locals := 44 }) (bs_W dC dI cyI cyZ [.ref wk, .int p1] [(wk, .inr (4, [.ref mo, .ref wy, .ref nw, .ref ol, .ref lt, .ref es, .ref sf, .ref sl, .ref so, .ref la, .ref li, .ref ru, .int (nI n), .int sc, .int (nI z), .int (nI tt), .int (nI qn), .int d17, .int d18, .int d19])), (wy, .inl (cyI, 1957, .inl fy)), (nw, .inl (cyI, 1024, .inl fn)), (ol, .inl (cyI, 1957, .inl fo)), (lt, .inl (cyI, 1957, .inl fl)), (sl, .inl (cyI, 1957, .inl fc))] sz) (va_Qi (S := Nat × (Nat → Int32) × (Nat → Int32) × (Nat → Int32) × (Nat → Int32) × (Nat → Int32)) (fun (r : Int32) (q : Nat × (Nat → Int32) × (Nat → Int32) × (Nat → Int32) × (Nat → Int32) × (Nat → Int32)) => q.1 ≤ 1957) (fun q t => bs_E dC dI (va_A [(wk, .inr (4, [.ref mo, .ref wy, .ref nw, .ref ol, .ref lt, .ref es, .ref sf, .ref sl, .ref so, .ref la, .ref li, .ref ru, .int (nI n), .int sc, .int (nI z), .int (nI tt), .int (nI qn), .int d17, .int d18, .int d19])), (wy, .inl (cyI, 1957, .inl fy)), (nw, .inl (cyI, 1024, .inl fn)), (ol, .inl (cyI, 1957, .inl fo)), (lt, .inl (cyI, 1957, .inl fl)), (sl, .inl (cyI, 1957, .inl fc))] sz) [(wk, .inr (4, [.ref mo, .ref wy, .ref nw, .ref ol, .ref lt, .ref es, .ref sf, .ref sl, .ref so, .ref la, .ref li, .ref ru, .int (nI n), .int sc, .int (nI q.1), .int (nI tt), .int (nI qn), .int d17, .int d18, .int d19])), (wy, .inl (cyI, 1957, .inl q.2.1)), (nw, .inl (cyI, 1024, .inl q.2.2.1)), (ol, .inl (cyI, 1957, .inl q.2.2.2.1)), (lt, .inl (cyI, 1957, .inl q.2.2.2.2.1)), (sl, .inl (cyI, 1957, .inl q.2.2.2.2.2))] t) (va_A [(wk, .inr (4, [.ref mo, .ref wy, .ref nw, .ref ol, .ref lt, .ref es, .ref sf, .ref sl, .ref so, .ref la, .ref li, .ref ru, .int (nI n), .int sc, .int (nI z), .int (nI tt), .int (nI qn), .int d17, .int d18, .int d19])), (wy, .inl (cyI, 1957, .inl fy)), (nw, .inl (cyI, 1024, .inl fn)), (ol, .inl (cyI, 1957, .inl fo)), (lt, .inl (cyI, 1957, .inl fl)), (sl, .inl (cyI, 1957, .inl fc))] sz)) 0 0 (va_A [(wk, .inr (4, [.ref mo, .ref wy, .ref nw, .ref ol, .ref lt, .ref es, .ref sf, .ref sl, .ref so, .ref la, .ref li, .ref ru, .int (nI n), .int sc, .int (nI z), .int (nI tt), .int (nI qn), .int d17, .int d18, .int d19])), (wy, .inl (cyI, 1957, .inl fy)), (nw, .inl (cyI, 1024, .inl fn)), (ol, .inl (cyI, 1957, .inl fo)), (lt, .inl (cyI, 1957, .inl fl)), (sl, .inl (cyI, 1957, .inl fc))] sz) := by
  refine Met.ofW (cc := cX6_add) (maxL := 5) (ret := (some .int)) (by decide) rfl ?_
  intro p e s m args below meth c s₁ B hml hv
  obtain ⟨rfl, hsz, hB, hP, hD0⟩ := hv
  have hK := hB.1
  have hN := hB.2
  have hx := B.exec
  have hb := B.bytes
  have hr := B.returns
  have hts := atoms_spec (ws := wsX6_add) B.pre
  have hown : s.vm.findClass RX6 = some m.cls := findClass_of_methodNamed B.named
  have hlocks := B.notSynchronized
  subst hsz
  have hD := hD0.self (sz := s.heap.size)
  generalize hAe : va_A [(wk, .inr (4, [.ref mo, .ref wy, .ref nw, .ref ol, .ref lt, .ref es, .ref sf, .ref sl, .ref so, .ref la, .ref li, .ref ru, .int (nI n), .int sc, .int (nI z), .int (nI tt), .int (nI qn), .int d17, .int d18, .int d19])), (wy, .inl (cyI, 1957, .inl fy)), (nw, .inl (cyI, 1024, .inl fn)), (ol, .inl (cyI, 1957, .inl fo)), (lt, .inl (cyI, 1957, .inl fl)), (sl, .inl (cyI, 1957, .inl fc))] s.heap.size = A at hD ⊢
  have hA : ∀ q : Nat, s.heap.size ≤ q → A q := fun q h => by rw [← hAe]; exact Or.inr h
  have hS : va_S A s.heap s.heap [] := va_S.rf
  have hP : va_P (dC, dI) vwCl [(wk, .inr (4, [.ref mo, .ref wy, .ref nw, .ref ol, .ref lt, .ref es, .ref sf, .ref sl, .ref so, .ref la, .ref li, .ref ru, .int (nI n), .int sc, .int (nI z), .int (nI tt), .int (nI qn), .int d17, .int d18, .int d19])), (wy, .inl (cyI, 1957, .inl fy)), (nw, .inl (cyI, 1024, .inl fn)), (ol, .inl (cyI, 1957, .inl fo)), (lt, .inl (cyI, 1957, .inl fl)), (sl, .inl (cyI, 1957, .inl fc))] s.heap := hP
  have hl := lv_entry ([.ref wk, .int p1]) (n := 5) (Nat.le_of_ble_eq_true rfl)
  rw [lg_entry_eq]
  generalize (lg_sl ([.ref wk, .int p1]) ++ List.replicate (5 - (lg_sl ([.ref wk, .int p1])).length) Slot.unset).toArray = ls at hl ⊢
  have hl : lv_has ls 5 [(0, .ref wk), (1, .int p1)] := hl
  refine lv_aload_n hx hb dX6_add_0 rfl (lv_at hl 0 rfl) ?_
  refine lv_iload_n hx hb dX6_add_1 rfl (lv_at hl 1 rfl) ?_
  refine vp_callSi (va_Run.run (va_runV (As := [.int p1]) (rest := []) ⟨hx, hb, hml, hown, hts⟩ (mX6_find l dC dI cyI cyZ wk mo wy nw ol lt es sf sl so la li ru n z tt qn sc d17 d18 d19 fy fn fo p1 (by omega) (by omega) (by omega) (by omega)) (cwV 1 hts gX6_add_X6_find rfl rfl rfl (by decide +kernel) ⟨Nat.le_of_ble_eq_true rfl, Nat.le_of_ble_eq_true rfl⟩) (bs_RV hB (hP.sub (ws' := [(wk, .inr (4, [.ref mo, .ref wy, .ref nw, .ref ol, .ref lt, .ref es, .ref sf, .ref sl, .ref so, .ref la, .ref li, .ref ru, .int (nI n), .int sc, .int (nI z), .int (nI tt), .int (nI qn), .int d17, .int d18, .int d19])), (wy, .inl (cyI, 1957, .inl fy)), (nw, .inl (cyI, 1024, .inl fn)), (ol, .inl (cyI, 1957, .inl fo))]) [0, 1, 2, 3] rfl) 0 rfl rfl) rfl rfl hl.1 rfl (lv_room (Nat.le_of_ble_eq_true rfl)) dX6_add_2 ⟨Nat.le_of_ble_eq_true rfl, Nat.le_of_ble_eq_true rfl⟩)) (fun r_1 hr_1 => ?_)
  refine lv_istore_n (lv' := [(2, .int r_1), (0, .ref wk), (1, .int p1)]) hx hb dX6_add_5 rfl hl (by decide) rfl (fun ls hl => ?_)
  refine lv_iload_n hx hb dX6_add_6 rfl (lv_at hl 0 rfl) ?_
  refine lv_if_ge (tgt := 20) hx hb dX6_add_7 (by decide) (fun c_2 => ?_) (fun c_2 => ?_)
  · skip
    have ic_2 := ci_le (show Int32.toInt 0 = 0 by decide) (rfl : Int32.toInt r_1 = _) c_2
    refine lv_iload_n hx hb dX6_add_20 rfl (lv_at hl 0 rfl) ?_
    exact W.iret (v := r_1) hx hb hr (fun t ht hW => ⟨⟨r_1, (z, fy, fn, fo, fl, fc), rfl, by omega, ⟨by rw [ht]; exact hP.sub (ws' := [(wk, .inr (4, [.ref mo, .ref wy, .ref nw, .ref ol, .ref lt, .ref es, .ref sf, .ref sl, .ref so, .ref la, .ref li, .ref ru, .int (nI n), .int sc, .int (nI z), .int (nI tt), .int (nI qn), .int d17, .int d18, .int d19])), (wy, .inl (cyI, 1957, .inl fy)), (nw, .inl (cyI, 1024, .inl fn)), (ol, .inl (cyI, 1957, .inl fo)), (lt, .inl (cyI, 1957, .inl fl)), (sl, .inl (cyI, 1957, .inl fc))]) [0, 1, 2, 3, 4, 5] rfl, hD.sub (ws' := [(wk, .inr (4, [.ref mo, .ref wy, .ref nw, .ref ol, .ref lt, .ref es, .ref sf, .ref sl, .ref so, .ref la, .ref li, .ref ru, .int (nI n), .int sc, .int (nI z), .int (nI tt), .int (nI qn), .int d17, .int d18, .int d19])), (wy, .inl (cyI, 1957, .inl fy)), (nw, .inl (cyI, 1024, .inl fn)), (ol, .inl (cyI, 1957, .inl fo)), (lt, .inl (cyI, 1957, .inl fl)), (sl, .inl (cyI, 1957, .inl fc))]) [0, 1, 2, 3, 4, 5] (by decide) rfl⟩⟩, hS.F ht⟩) hS.2.2 dX6_add_21
  · skip
    have ic_2 := ci_nle (show Int32.toInt 0 = 0 by decide) (rfl : Int32.toInt r_1 = _) c_2
    refine lv_aload_n hx hb dX6_add_10 rfl (lv_at hl 1 rfl) ?_
    refine va_get (D := (dC, dI)) (ci := 4) (v := .int (nI z)) (C := RX6) (T := TX6) (N := 20) hx hb hts hnX6_add_X6 hown hK hP 0 rfl rfl 14 (by decide) (hts (.fieldLink RX6 64 "RingMeets$Walks" "size" "I") (by decide +kernel)) (fun _ h9 => h9) rfl dX6_add_11 ?_
    refine lv_sipush (v := 1957) hx hb dX6_add_14 (by decide) ?_
    refine lv_icmp_lt (tgt := 22) hx hb dX6_add_17 (by decide) (fun c_3 => ?_) (fun c_3 => ?_)
    · skip
      have ic_3 := ci_lt (nI_toInt (n := z) (by omega)) (show Int32.toInt 1957 = 1957 by decide) c_3
      refine lv_aload_n hx hb dX6_add_22 rfl (lv_at hl 1 rfl) ?_
      refine va_get (D := (dC, dI)) (ci := 4) (v := .int (nI z)) (C := RX6) (T := TX6) (N := 20) hx hb hts hnX6_add_X6 hown hK hP 0 rfl rfl 14 (by decide) (hts (.fieldLink RX6 64 "RingMeets$Walks" "size" "I") (by decide +kernel)) (fun _ h9 => h9) rfl dX6_add_23 ?_
      refine lv_istore_n (lv' := [(3, .int (nI z)), (2, .int r_1), (0, .ref wk), (1, .int p1)]) hx hb dX6_add_26 rfl hl (by decide) rfl (fun ls hl => ?_)
      refine lv_iload_n hx hb dX6_add_27 rfl (lv_at hl 3 rfl) ?_
      refine vp_callSi (va_Run.run (va_runS (As := [.int p1]) (rest := []) ⟨hx, hb, hml, hown, hts⟩ (mX5_standsOf l dC dI cyI cyZ p1 ) (va_cwS 1 hts gX6_add_X5_standsOf rfl rfl rfl (by decide +kernel) ⟨Nat.le_of_ble_eq_true rfl, Nat.le_of_ble_eq_true rfl⟩) (bs_RS hB (hP.sub (ws' := []) [] rfl)) rfl rfl hl.1 rfl (lv_room (Nat.le_of_ble_eq_true rfl)) dX6_add_28 ⟨Nat.le_of_ble_eq_true rfl, Nat.le_of_ble_eq_true rfl⟩)) (fun r_4 hr_4 => ?_)
      have hst9 := hr_4
      refine lv_istore (lv' := [(4, .int r_4), (3, .int (nI z)), (2, .int r_1), (0, .ref wk), (1, .int p1)]) hx hb dX6_add_31 hl (by decide) rfl (fun ls hl => ?_)
      refine lv_aload_n hx hb dX6_add_33 rfl (lv_at hl 3 rfl) ?_
      refine lv_dup hx hb dX6_add_34 rfl ?_
      refine va_get (D := (dC, dI)) (ci := 4) (v := .int (nI z)) (C := RX6) (T := TX6) (N := 20) hx hb hts hnX6_add_X6 hown hK hP 0 rfl rfl 14 (by decide) (hts (.fieldLink RX6 64 "RingMeets$Walks" "size" "I") (by decide +kernel)) (fun _ h9 => h9) rfl dX6_add_35 ?_
      refine lv_iconst (v := 1) hx hb dX6_add_38 (by decide) ?_
      refine lv_iadd hx hb dX6_add_39 ?_
      refine lv_topi (fun x_5 ex_5 => ?_)
      obtain rfl : (nI (z + 1)) = x_5 := (ex_5.trans (nI_1 _)).symm
      refine va_put (D := (dC, dI)) (ci := 4) (v := .int (nI (z + 1))) (ty := .int) (C := RX6) (T := TX6) (N := 20) hx hb hts hnX6_add_X6 tyX6 tyX6_ok nmX6 hown hK hP hD hS 0 rfl rfl 14 (by decide) (hts (.fieldLink RX6 64 "RingMeets$Walks" "size" "I") (by decide +kernel)) (fun _ h9 => h9) rfl (by decide +kernel) rfl rfl (Nat.le_of_ble_eq_true rfl) dX6_add_40 (fun H locs hP hD hS => ?_)
      have hP : va_P (dC, dI) vwCl [(wk, .inr (4, [.ref mo, .ref wy, .ref nw, .ref ol, .ref lt, .ref es, .ref sf, .ref sl, .ref so, .ref la, .ref li, .ref ru, .int (nI n), .int sc, .int (nI (z + 1)), .int (nI tt), .int (nI qn), .int d17, .int d18, .int d19])), (wy, .inl (cyI, 1957, .inl fy)), (nw, .inl (cyI, 1024, .inl fn)), (ol, .inl (cyI, 1957, .inl fo)), (lt, .inl (cyI, 1957, .inl fl)), (sl, .inl (cyI, 1957, .inl fc))] _ := hP
      have hD : va_D A [(wk, .inr (4, [.ref mo, .ref wy, .ref nw, .ref ol, .ref lt, .ref es, .ref sf, .ref sl, .ref so, .ref la, .ref li, .ref ru, .int (nI n), .int sc, .int (nI (z + 1)), .int (nI tt), .int (nI qn), .int d17, .int d18, .int d19])), (wy, .inl (cyI, 1957, .inl fy)), (nw, .inl (cyI, 1024, .inl fn)), (ol, .inl (cyI, 1957, .inl fo)), (lt, .inl (cyI, 1957, .inl fl)), (sl, .inl (cyI, 1957, .inl fc))] := hD
      refine lv_aload_n hx hb dX6_add_43 rfl (lv_at hl 3 rfl) ?_
      refine va_get (D := (dC, dI)) (ci := 4) (v := .ref wy) (C := RX6) (T := TX6) (N := 20) hx hb hts hnX6_add_X6 hown hK hP 0 rfl rfl 1 (by decide) (hts (.fieldLink RX6 18 "RingMeets$Walks" "ways" "[I") (by decide +kernel)) (fun _ h9 => h9) rfl dX6_add_44 ?_
      refine lv_iload_n hx hb dX6_add_47 rfl (lv_at hl 1 rfl) ?_
      refine lv_iload_n hx hb dX6_add_48 rfl (lv_at hl 4 rfl) ?_
      refine va_iast (D := (dC, dI)) hx hb hK hP hD hS 1 0 rfl rfl (vp_in_nI (n := z) (N := 1957) (by omega) (by omega)) dX6_add_49 (fun H locs hP hD hS => ?_)
      obtain ⟨g_6, eg_6⟩ : ∃ y : Nat → Int32, y = upd fy (Int32.toNatClampNeg (nI z)) p1 := ⟨_, rfl⟩
      have hP : va_P (dC, dI) vwCl [(wk, .inr (4, [.ref mo, .ref wy, .ref nw, .ref ol, .ref lt, .ref es, .ref sf, .ref sl, .ref so, .ref la, .ref li, .ref ru, .int (nI n), .int sc, .int (nI (z + 1)), .int (nI tt), .int (nI qn), .int d17, .int d18, .int d19])), (wy, .inl (cyI, 1957, .inl g_6)), (nw, .inl (cyI, 1024, .inl fn)), (ol, .inl (cyI, 1957, .inl fo)), (lt, .inl (cyI, 1957, .inl fl)), (sl, .inl (cyI, 1957, .inl fc))] H := by rw [eg_6]; exact hP
      have hD : va_D A [(wk, .inr (4, [.ref mo, .ref wy, .ref nw, .ref ol, .ref lt, .ref es, .ref sf, .ref sl, .ref so, .ref la, .ref li, .ref ru, .int (nI n), .int sc, .int (nI (z + 1)), .int (nI tt), .int (nI qn), .int d17, .int d18, .int d19])), (wy, .inl (cyI, 1957, .inl g_6)), (nw, .inl (cyI, 1024, .inl fn)), (ol, .inl (cyI, 1957, .inl fo)), (lt, .inl (cyI, 1957, .inl fl)), (sl, .inl (cyI, 1957, .inl fc))] := by rw [eg_6]; exact hD
      rw [nI_clamp (n := z) (by omega)] at eg_6
      refine lv_aload_n hx hb dX6_add_50 rfl (lv_at hl 3 rfl) ?_
      refine va_get (D := (dC, dI)) (ci := 4) (v := .ref ol) (C := RX6) (T := TX6) (N := 20) hx hb hts hnX6_add_X6 hown hK hP 0 rfl rfl 3 (by decide) (hts (.fieldLink RX6 25 "RingMeets$Walks" "older" "[I") (by decide +kernel)) (fun _ h9 => h9) rfl dX6_add_51 ?_
      refine lv_iload_n hx hb dX6_add_54 rfl (lv_at hl 1 rfl) ?_
      refine lv_aload_n hx hb dX6_add_55 rfl (lv_at hl 3 rfl) ?_
      refine va_get (D := (dC, dI)) (ci := 4) (v := .ref nw) (C := RX6) (T := TX6) (N := 20) hx hb hts hnX6_add_X6 hown hK hP 0 rfl rfl 2 (by decide) (hts (.fieldLink RX6 22 "RingMeets$Walks" "newest" "[I") (by decide +kernel)) (fun _ h9 => h9) rfl dX6_add_56 ?_
      refine lv_iload hx hb dX6_add_59 (lv_at hl 0 rfl) ?_
      refine va_iald (D := (dC, dI)) hx hb hK hP 2 0 rfl rfl (nb_in (x := r_4) (n := 1024) (by omega) (by omega)) dX6_add_61 ?_
      refine lv_topi (fun x_7 ex_7 => ?_)
      refine va_iast (D := (dC, dI)) hx hb hK hP hD hS 3 0 rfl rfl (vp_in_nI (n := z) (N := 1957) (by omega) (by omega)) dX6_add_62 (fun H locs hP hD hS => ?_)
      obtain ⟨g_8, eg_8⟩ : ∃ y : Nat → Int32, y = upd fo (Int32.toNatClampNeg (nI z)) x_7 := ⟨_, rfl⟩
      have hP : va_P (dC, dI) vwCl [(wk, .inr (4, [.ref mo, .ref wy, .ref nw, .ref ol, .ref lt, .ref es, .ref sf, .ref sl, .ref so, .ref la, .ref li, .ref ru, .int (nI n), .int sc, .int (nI (z + 1)), .int (nI tt), .int (nI qn), .int d17, .int d18, .int d19])), (wy, .inl (cyI, 1957, .inl g_6)), (nw, .inl (cyI, 1024, .inl fn)), (ol, .inl (cyI, 1957, .inl g_8)), (lt, .inl (cyI, 1957, .inl fl)), (sl, .inl (cyI, 1957, .inl fc))] H := by rw [eg_8]; exact hP
      have hD : va_D A [(wk, .inr (4, [.ref mo, .ref wy, .ref nw, .ref ol, .ref lt, .ref es, .ref sf, .ref sl, .ref so, .ref la, .ref li, .ref ru, .int (nI n), .int sc, .int (nI (z + 1)), .int (nI tt), .int (nI qn), .int d17, .int d18, .int d19])), (wy, .inl (cyI, 1957, .inl g_6)), (nw, .inl (cyI, 1024, .inl fn)), (ol, .inl (cyI, 1957, .inl g_8)), (lt, .inl (cyI, 1957, .inl fl)), (sl, .inl (cyI, 1957, .inl fc))] := by rw [eg_8]; exact hD
      rw [nI_clamp (n := z) (by omega)] at eg_8
      refine lv_aload_n hx hb dX6_add_63 rfl (lv_at hl 3 rfl) ?_
      refine va_get (D := (dC, dI)) (ci := 4) (v := .ref nw) (C := RX6) (T := TX6) (N := 20) hx hb hts hnX6_add_X6 hown hK hP 0 rfl rfl 2 (by decide) (hts (.fieldLink RX6 22 "RingMeets$Walks" "newest" "[I") (by decide +kernel)) (fun _ h9 => h9) rfl dX6_add_64 ?_
      refine lv_iload hx hb dX6_add_67 (lv_at hl 0 rfl) ?_
      refine lv_iload_n hx hb dX6_add_69 rfl (lv_at hl 1 rfl) ?_
      refine va_iast (D := (dC, dI)) hx hb hK hP hD hS 2 0 rfl rfl (nb_in (x := r_4) (n := 1024) (by omega) (by omega)) dX6_add_70 (fun H locs hP hD hS => ?_)
      obtain ⟨g_9, eg_9⟩ : ∃ y : Nat → Int32, y = upd fn (Int32.toNatClampNeg r_4) (nI z) := ⟨_, rfl⟩
      have hP : va_P (dC, dI) vwCl [(wk, .inr (4, [.ref mo, .ref wy, .ref nw, .ref ol, .ref lt, .ref es, .ref sf, .ref sl, .ref so, .ref la, .ref li, .ref ru, .int (nI n), .int sc, .int (nI (z + 1)), .int (nI tt), .int (nI qn), .int d17, .int d18, .int d19])), (wy, .inl (cyI, 1957, .inl g_6)), (nw, .inl (cyI, 1024, .inl g_9)), (ol, .inl (cyI, 1957, .inl g_8)), (lt, .inl (cyI, 1957, .inl fl)), (sl, .inl (cyI, 1957, .inl fc))] H := by rw [eg_9]; exact hP
      have hD : va_D A [(wk, .inr (4, [.ref mo, .ref wy, .ref nw, .ref ol, .ref lt, .ref es, .ref sf, .ref sl, .ref so, .ref la, .ref li, .ref ru, .int (nI n), .int sc, .int (nI (z + 1)), .int (nI tt), .int (nI qn), .int d17, .int d18, .int d19])), (wy, .inl (cyI, 1957, .inl g_6)), (nw, .inl (cyI, 1024, .inl g_9)), (ol, .inl (cyI, 1957, .inl g_8)), (lt, .inl (cyI, 1957, .inl fl)), (sl, .inl (cyI, 1957, .inl fc))] := by rw [eg_9]; exact hD
      refine lv_aload_n hx hb dX6_add_71 rfl (lv_at hl 3 rfl) ?_
      refine va_get (D := (dC, dI)) (ci := 4) (v := .ref lt) (C := RX6) (T := TX6) (N := 20) hx hb hts hnX6_add_X6 hown hK hP 0 rfl rfl 4 (by decide) (hts (.fieldLink RX6 28 "RingMeets$Walks" "lastStepTo" "[I") (by decide +kernel)) (fun _ h9 => h9) rfl dX6_add_72 ?_
      refine lv_iload_n hx hb dX6_add_75 rfl (lv_at hl 1 rfl) ?_
      refine lv_iconst (v := (-1)) hx hb dX6_add_76 (by decide) ?_
      refine va_iast (D := (dC, dI)) hx hb hK hP hD hS 4 0 rfl rfl (vp_in_nI (n := z) (N := 1957) (by omega) (by omega)) dX6_add_77 (fun H locs hP hD hS => ?_)
      obtain ⟨g_10, eg_10⟩ : ∃ y : Nat → Int32, y = upd fl (Int32.toNatClampNeg (nI z)) (-1) := ⟨_, rfl⟩
      have hP : va_P (dC, dI) vwCl [(wk, .inr (4, [.ref mo, .ref wy, .ref nw, .ref ol, .ref lt, .ref es, .ref sf, .ref sl, .ref so, .ref la, .ref li, .ref ru, .int (nI n), .int sc, .int (nI (z + 1)), .int (nI tt), .int (nI qn), .int d17, .int d18, .int d19])), (wy, .inl (cyI, 1957, .inl g_6)), (nw, .inl (cyI, 1024, .inl g_9)), (ol, .inl (cyI, 1957, .inl g_8)), (lt, .inl (cyI, 1957, .inl g_10)), (sl, .inl (cyI, 1957, .inl fc))] H := by rw [eg_10]; exact hP
      have hD : va_D A [(wk, .inr (4, [.ref mo, .ref wy, .ref nw, .ref ol, .ref lt, .ref es, .ref sf, .ref sl, .ref so, .ref la, .ref li, .ref ru, .int (nI n), .int sc, .int (nI (z + 1)), .int (nI tt), .int (nI qn), .int d17, .int d18, .int d19])), (wy, .inl (cyI, 1957, .inl g_6)), (nw, .inl (cyI, 1024, .inl g_9)), (ol, .inl (cyI, 1957, .inl g_8)), (lt, .inl (cyI, 1957, .inl g_10)), (sl, .inl (cyI, 1957, .inl fc))] := by rw [eg_10]; exact hD
      rw [nI_clamp (n := z) (by omega)] at eg_10
      refine lv_aload_n hx hb dX6_add_78 rfl (lv_at hl 3 rfl) ?_
      refine va_get (D := (dC, dI)) (ci := 4) (v := .ref sl) (C := RX6) (T := TX6) (N := 20) hx hb hts hnX6_add_X6 hown hK hP 0 rfl rfl 7 (by decide) (hts (.fieldLink RX6 37 "RingMeets$Walks" "stepsLeft" "[I") (by decide +kernel)) (fun _ h9 => h9) rfl dX6_add_79 ?_
      refine lv_iload_n hx hb dX6_add_82 rfl (lv_at hl 1 rfl) ?_
      refine lv_iconst (v := 0) hx hb dX6_add_83 (by decide) ?_
      refine va_iast (D := (dC, dI)) hx hb hK hP hD hS 5 0 rfl rfl (vp_in_nI (n := z) (N := 1957) (by omega) (by omega)) dX6_add_84 (fun H locs hP hD hS => ?_)
      obtain ⟨g_11, eg_11⟩ : ∃ y : Nat → Int32, y = upd fc (Int32.toNatClampNeg (nI z)) 0 := ⟨_, rfl⟩
      have hP : va_P (dC, dI) vwCl [(wk, .inr (4, [.ref mo, .ref wy, .ref nw, .ref ol, .ref lt, .ref es, .ref sf, .ref sl, .ref so, .ref la, .ref li, .ref ru, .int (nI n), .int sc, .int (nI (z + 1)), .int (nI tt), .int (nI qn), .int d17, .int d18, .int d19])), (wy, .inl (cyI, 1957, .inl g_6)), (nw, .inl (cyI, 1024, .inl g_9)), (ol, .inl (cyI, 1957, .inl g_8)), (lt, .inl (cyI, 1957, .inl g_10)), (sl, .inl (cyI, 1957, .inl g_11))] H := by rw [eg_11]; exact hP
      have hD : va_D A [(wk, .inr (4, [.ref mo, .ref wy, .ref nw, .ref ol, .ref lt, .ref es, .ref sf, .ref sl, .ref so, .ref la, .ref li, .ref ru, .int (nI n), .int sc, .int (nI (z + 1)), .int (nI tt), .int (nI qn), .int d17, .int d18, .int d19])), (wy, .inl (cyI, 1957, .inl g_6)), (nw, .inl (cyI, 1024, .inl g_9)), (ol, .inl (cyI, 1957, .inl g_8)), (lt, .inl (cyI, 1957, .inl g_10)), (sl, .inl (cyI, 1957, .inl g_11))] := by rw [eg_11]; exact hD
      rw [nI_clamp (n := z) (by omega)] at eg_11
      refine lv_iload_n hx hb dX6_add_85 rfl (lv_at hl 1 rfl) ?_
      exact W.iret (v := (nI z)) hx hb hr (fun t ht hW => ⟨⟨(nI z), ((z + 1), g_6, g_9, g_8, g_10, g_11), rfl, by omega, ⟨by rw [ht]; exact hP.sub (ws' := [(wk, .inr (4, [.ref mo, .ref wy, .ref nw, .ref ol, .ref lt, .ref es, .ref sf, .ref sl, .ref so, .ref la, .ref li, .ref ru, .int (nI n), .int sc, .int (nI (z + 1)), .int (nI tt), .int (nI qn), .int d17, .int d18, .int d19])), (wy, .inl (cyI, 1957, .inl g_6)), (nw, .inl (cyI, 1024, .inl g_9)), (ol, .inl (cyI, 1957, .inl g_8)), (lt, .inl (cyI, 1957, .inl g_10)), (sl, .inl (cyI, 1957, .inl g_11))]) [0, 1, 2, 3, 4, 5] rfl, hD.sub (ws' := [(wk, .inr (4, [.ref mo, .ref wy, .ref nw, .ref ol, .ref lt, .ref es, .ref sf, .ref sl, .ref so, .ref la, .ref li, .ref ru, .int (nI n), .int sc, .int (nI (z + 1)), .int (nI tt), .int (nI qn), .int d17, .int d18, .int d19])), (wy, .inl (cyI, 1957, .inl g_6)), (nw, .inl (cyI, 1024, .inl g_9)), (ol, .inl (cyI, 1957, .inl g_8)), (lt, .inl (cyI, 1957, .inl g_10)), (sl, .inl (cyI, 1957, .inl g_11))]) [0, 1, 2, 3, 4, 5] (by decide) rfl⟩⟩, hS.F ht⟩) hS.2.2 dX6_add_86
    · skip
      have ic_3 := ci_nlt (nI_toInt (n := z) (by omega)) (show Int32.toInt 1957 = 1957 by decide) c_3
      refine lv_iload_n hx hb dX6_add_20 rfl (lv_at hl 0 rfl) ?_
      exact W.iret (v := r_1) hx hb hr (fun t ht hW => ⟨⟨r_1, (z, fy, fn, fo, fl, fc), rfl, by omega, ⟨by rw [ht]; exact hP.sub (ws' := [(wk, .inr (4, [.ref mo, .ref wy, .ref nw, .ref ol, .ref lt, .ref es, .ref sf, .ref sl, .ref so, .ref la, .ref li, .ref ru, .int (nI n), .int sc, .int (nI z), .int (nI tt), .int (nI qn), .int d17, .int d18, .int d19])), (wy, .inl (cyI, 1957, .inl fy)), (nw, .inl (cyI, 1024, .inl fn)), (ol, .inl (cyI, 1957, .inl fo)), (lt, .inl (cyI, 1957, .inl fl)), (sl, .inl (cyI, 1957, .inl fc))]) [0, 1, 2, 3, 4, 5] rfl, hD.sub (ws' := [(wk, .inr (4, [.ref mo, .ref wy, .ref nw, .ref ol, .ref lt, .ref es, .ref sf, .ref sl, .ref so, .ref la, .ref li, .ref ru, .int (nI n), .int sc, .int (nI z), .int (nI tt), .int (nI qn), .int d17, .int d18, .int d19])), (wy, .inl (cyI, 1957, .inl fy)), (nw, .inl (cyI, 1024, .inl fn)), (ol, .inl (cyI, 1957, .inl fo)), (lt, .inl (cyI, 1957, .inl fl)), (sl, .inl (cyI, 1957, .inl fc))]) [0, 1, 2, 3, 4, 5] (by decide) rfl⟩⟩, hS.F ht⟩) hS.2.2 dX6_add_21

theorem hnX6_begin_X6 : ∀ w ∈ wsX60, w ∈ wsX6_begin := fun _ h => List.mem_cons_of_mem _ (List.mem_append_right _ h)
set_option maxHeartbeats 4000000 in
set_option maxRecDepth 100000 in
theorem mX6_begin (l : Launch) (dC : Nat → ClassId) (dI : Nat → Nat → Nat) (cyI cyZ : ClassId) (wk : Nat) (mo : Nat) (wy : Nat) (nw : Nat) (ol : Nat) (lt : Nat) (es : Nat) (sf : Nat) (sl : Nat) (so : Nat) (la : Nat) (li : Nat) (ru : Nat) (n : Nat) (d12 : Int32) (d13 : Int32) (d14 : Int32) (d15 : Int32) (d16 : Int32) (d17 : Int32) (d18 : Int32) (d19 : Int32) (fn : Nat → Int32) (p2 : Int32) (p3 : Int32) (hp3 : p3 = 0 ∨ p3 = 1) (sz : Nat) : Met l yX6_begin wsX6_begin ({ frames := 0, cells := 0, slots := 0, locals := 0 }) (bs_W dC dI cyI cyZ [.ref wk, .int (nI n), .int p2, .int p3] [(wk, .inr (4, [.ref mo, .ref wy, .ref nw, .ref ol, .ref lt, .ref es, .ref sf, .ref sl, .ref so, .ref la, .ref li, .ref ru, .int d12, .int d13, .int d14, .int d15, .int d16, .int d17, .int d18, .int d19])), (nw, .inl (cyI, 1024, .inl fn))] sz) (va_Qv (S := (Nat → Int32)) (fun q : (Nat → Int32) => True) (fun q t => bs_E dC dI (va_A [(wk, .inr (4, [.ref mo, .ref wy, .ref nw, .ref ol, .ref lt, .ref es, .ref sf, .ref sl, .ref so, .ref la, .ref li, .ref ru, .int d12, .int d13, .int d14, .int d15, .int d16, .int d17, .int d18, .int d19])), (nw, .inl (cyI, 1024, .inl fn))] sz) [(wk, .inr (4, [.ref mo, .ref wy, .ref nw, .ref ol, .ref lt, .ref es, .ref sf, .ref sl, .ref so, .ref la, .ref li, .ref ru, .int (nI n), .int p2, .int 0, .int 0, .int d16, .int 0, .int 0, .int p3])), (nw, .inl (cyI, 1024, .inl q))] t) (va_A [(wk, .inr (4, [.ref mo, .ref wy, .ref nw, .ref ol, .ref lt, .ref es, .ref sf, .ref sl, .ref so, .ref la, .ref li, .ref ru, .int d12, .int d13, .int d14, .int d15, .int d16, .int d17, .int d18, .int d19])), (nw, .inl (cyI, 1024, .inl fn))] sz)) 0 0 (va_A [(wk, .inr (4, [.ref mo, .ref wy, .ref nw, .ref ol, .ref lt, .ref es, .ref sf, .ref sl, .ref so, .ref la, .ref li, .ref ru, .int d12, .int d13, .int d14, .int d15, .int d16, .int d17, .int d18, .int d19])), (nw, .inl (cyI, 1024, .inl fn))] sz) := by
  refine Met.ofW (cc := cX6_begin) (maxL := 5) (ret := none) (by decide) rfl ?_
  intro p e s m args below meth c s₁ B hml hv
  obtain ⟨rfl, hsz, hB, hP, hD0⟩ := hv
  have hK := hB.1
  have hN := hB.2
  have hx := B.exec
  have hb := B.bytes
  have hr := B.returns
  have hts := atoms_spec (ws := wsX6_begin) B.pre
  have hown : s.vm.findClass RX6 = some m.cls := findClass_of_methodNamed B.named
  have hlocks := B.notSynchronized
  subst hsz
  have hD := hD0.self (sz := s.heap.size)
  generalize hAe : va_A [(wk, .inr (4, [.ref mo, .ref wy, .ref nw, .ref ol, .ref lt, .ref es, .ref sf, .ref sl, .ref so, .ref la, .ref li, .ref ru, .int d12, .int d13, .int d14, .int d15, .int d16, .int d17, .int d18, .int d19])), (nw, .inl (cyI, 1024, .inl fn))] s.heap.size = A at hD ⊢
  have hA : ∀ q : Nat, s.heap.size ≤ q → A q := fun q h => by rw [← hAe]; exact Or.inr h
  have hS : va_S A s.heap s.heap [] := va_S.rf
  have hP : va_P (dC, dI) vwCl [(wk, .inr (4, [.ref mo, .ref wy, .ref nw, .ref ol, .ref lt, .ref es, .ref sf, .ref sl, .ref so, .ref la, .ref li, .ref ru, .int d12, .int d13, .int d14, .int d15, .int d16, .int d17, .int d18, .int d19])), (nw, .inl (cyI, 1024, .inl fn))] s.heap := hP
  have hl := lv_entry ([.ref wk, .int (nI n), .int p2, .int p3]) (n := 5) (Nat.le_of_ble_eq_true rfl)
  rw [lg_entry_eq]
  generalize (lg_sl ([.ref wk, .int (nI n), .int p2, .int p3]) ++ List.replicate (5 - (lg_sl ([.ref wk, .int (nI n), .int p2, .int p3])).length) Slot.unset).toArray = ls at hl ⊢
  have hl : lv_has ls 5 [(0, .ref wk), (1, .int (nI n)), (2, .int p2), (3, .int p3)] := hl
  refine lv_aload_n hx hb dX6_begin_0 rfl (lv_at hl 0 rfl) ?_
  refine lv_iload_n hx hb dX6_begin_1 rfl (lv_at hl 1 rfl) ?_
  refine va_put (D := (dC, dI)) (ci := 4) (v := .int (nI n)) (ty := .int) (C := RX6) (T := TX6) (N := 20) hx hb hts hnX6_begin_X6 tyX6 tyX6_ok nmX6 hown hK hP hD hS 0 rfl rfl 12 (by decide) (hts (.fieldLink RX6 53 "RingMeets$Walks" "cells" "I") (by decide +kernel)) (fun _ h9 => h9) rfl (by decide +kernel) rfl rfl (Nat.le_of_ble_eq_true rfl) dX6_begin_2 (fun H locs hP hD hS => ?_)
  have hP : va_P (dC, dI) vwCl [(wk, .inr (4, [.ref mo, .ref wy, .ref nw, .ref ol, .ref lt, .ref es, .ref sf, .ref sl, .ref so, .ref la, .ref li, .ref ru, .int (nI n), .int d13, .int d14, .int d15, .int d16, .int d17, .int d18, .int d19])), (nw, .inl (cyI, 1024, .inl fn))] _ := hP
  have hD : va_D A [(wk, .inr (4, [.ref mo, .ref wy, .ref nw, .ref ol, .ref lt, .ref es, .ref sf, .ref sl, .ref so, .ref la, .ref li, .ref ru, .int (nI n), .int d13, .int d14, .int d15, .int d16, .int d17, .int d18, .int d19])), (nw, .inl (cyI, 1024, .inl fn))] := hD
  refine lv_aload_n hx hb dX6_begin_5 rfl (lv_at hl 0 rfl) ?_
  refine lv_iload_n hx hb dX6_begin_6 rfl (lv_at hl 2 rfl) ?_
  refine va_put (D := (dC, dI)) (ci := 4) (v := .int p2) (ty := .int) (C := RX6) (T := TX6) (N := 20) hx hb hts hnX6_begin_X6 tyX6 tyX6_ok nmX6 hown hK hP hD hS 0 rfl rfl 13 (by decide) (hts (.fieldLink RX6 57 "RingMeets$Walks" "schedule" "I") (by decide +kernel)) (fun _ h9 => h9) rfl (by decide +kernel) rfl rfl (Nat.le_of_ble_eq_true rfl) dX6_begin_7 (fun H locs hP hD hS => ?_)
  have hP : va_P (dC, dI) vwCl [(wk, .inr (4, [.ref mo, .ref wy, .ref nw, .ref ol, .ref lt, .ref es, .ref sf, .ref sl, .ref so, .ref la, .ref li, .ref ru, .int (nI n), .int p2, .int d14, .int d15, .int d16, .int d17, .int d18, .int d19])), (nw, .inl (cyI, 1024, .inl fn))] _ := hP
  have hD : va_D A [(wk, .inr (4, [.ref mo, .ref wy, .ref nw, .ref ol, .ref lt, .ref es, .ref sf, .ref sl, .ref so, .ref la, .ref li, .ref ru, .int (nI n), .int p2, .int d14, .int d15, .int d16, .int d17, .int d18, .int d19])), (nw, .inl (cyI, 1024, .inl fn))] := hD
  refine lv_aload_n hx hb dX6_begin_10 rfl (lv_at hl 0 rfl) ?_
  refine lv_iload_n hx hb dX6_begin_11 rfl (lv_at hl 3 rfl) ?_
  refine va_put (D := (dC, dI)) (ci := 4) (v := .int p3) (ty := .boolean) (C := RX6) (T := TX6) (N := 20) hx hb hts hnX6_begin_X6 tyX6 tyX6_ok nmX6 hown hK hP hD hS 0 rfl rfl 19 (by decide) (hts (.fieldLink RX6 60 "RingMeets$Walks" "blindly" "Z") (by decide +kernel)) (fun _ h9 => h9) rfl (by decide +kernel) (nb_nar hp3) (nb_fit hp3) (Nat.le_of_ble_eq_true rfl) dX6_begin_12 (fun H locs hP hD hS => ?_)
  have hP : va_P (dC, dI) vwCl [(wk, .inr (4, [.ref mo, .ref wy, .ref nw, .ref ol, .ref lt, .ref es, .ref sf, .ref sl, .ref so, .ref la, .ref li, .ref ru, .int (nI n), .int p2, .int d14, .int d15, .int d16, .int d17, .int d18, .int p3])), (nw, .inl (cyI, 1024, .inl fn))] _ := hP
  have hD : va_D A [(wk, .inr (4, [.ref mo, .ref wy, .ref nw, .ref ol, .ref lt, .ref es, .ref sf, .ref sl, .ref so, .ref la, .ref li, .ref ru, .int (nI n), .int p2, .int d14, .int d15, .int d16, .int d17, .int d18, .int p3])), (nw, .inl (cyI, 1024, .inl fn))] := hD
  refine lv_aload_n hx hb dX6_begin_15 rfl (lv_at hl 0 rfl) ?_
  refine lv_iconst (v := 0) hx hb dX6_begin_16 (by decide) ?_
  refine va_put (D := (dC, dI)) (ci := 4) (v := .int 0) (ty := .int) (C := RX6) (T := TX6) (N := 20) hx hb hts hnX6_begin_X6 tyX6 tyX6_ok nmX6 hown hK hP hD hS 0 rfl rfl 14 (by decide) (hts (.fieldLink RX6 64 "RingMeets$Walks" "size" "I") (by decide +kernel)) (fun _ h9 => h9) rfl (by decide +kernel) rfl rfl (Nat.le_of_ble_eq_true rfl) dX6_begin_17 (fun H locs hP hD hS => ?_)
  have hP : va_P (dC, dI) vwCl [(wk, .inr (4, [.ref mo, .ref wy, .ref nw, .ref ol, .ref lt, .ref es, .ref sf, .ref sl, .ref so, .ref la, .ref li, .ref ru, .int (nI n), .int p2, .int 0, .int d15, .int d16, .int d17, .int d18, .int p3])), (nw, .inl (cyI, 1024, .inl fn))] _ := hP
  have hD : va_D A [(wk, .inr (4, [.ref mo, .ref wy, .ref nw, .ref ol, .ref lt, .ref es, .ref sf, .ref sl, .ref so, .ref la, .ref li, .ref ru, .int (nI n), .int p2, .int 0, .int d15, .int d16, .int d17, .int d18, .int p3])), (nw, .inl (cyI, 1024, .inl fn))] := hD
  refine lv_aload_n hx hb dX6_begin_20 rfl (lv_at hl 0 rfl) ?_
  refine lv_iconst (v := 0) hx hb dX6_begin_21 (by decide) ?_
  refine va_put (D := (dC, dI)) (ci := 4) (v := .int 0) (ty := .int) (C := RX6) (T := TX6) (N := 20) hx hb hts hnX6_begin_X6 tyX6 tyX6_ok nmX6 hown hK hP hD hS 0 rfl rfl 15 (by decide) (hts (.fieldLink RX6 67 "RingMeets$Walks" "steps" "I") (by decide +kernel)) (fun _ h9 => h9) rfl (by decide +kernel) rfl rfl (Nat.le_of_ble_eq_true rfl) dX6_begin_22 (fun H locs hP hD hS => ?_)
  have hP : va_P (dC, dI) vwCl [(wk, .inr (4, [.ref mo, .ref wy, .ref nw, .ref ol, .ref lt, .ref es, .ref sf, .ref sl, .ref so, .ref la, .ref li, .ref ru, .int (nI n), .int p2, .int 0, .int 0, .int d16, .int d17, .int d18, .int p3])), (nw, .inl (cyI, 1024, .inl fn))] _ := hP
  have hD : va_D A [(wk, .inr (4, [.ref mo, .ref wy, .ref nw, .ref ol, .ref lt, .ref es, .ref sf, .ref sl, .ref so, .ref la, .ref li, .ref ru, .int (nI n), .int p2, .int 0, .int 0, .int d16, .int d17, .int d18, .int p3])), (nw, .inl (cyI, 1024, .inl fn))] := hD
  refine lv_aload_n hx hb dX6_begin_25 rfl (lv_at hl 0 rfl) ?_
  refine lv_iconst (v := 0) hx hb dX6_begin_26 (by decide) ?_
  refine va_put (D := (dC, dI)) (ci := 4) (v := .int 0) (ty := .int) (C := RX6) (T := TX6) (N := 20) hx hb hts hnX6_begin_X6 tyX6 tyX6_ok nmX6 hown hK hP hD hS 0 rfl rfl 17 (by decide) (hts (.fieldLink RX6 70 "RingMeets$Walks" "stuck" "I") (by decide +kernel)) (fun _ h9 => h9) rfl (by decide +kernel) rfl rfl (Nat.le_of_ble_eq_true rfl) dX6_begin_27 (fun H locs hP hD hS => ?_)
  have hP : va_P (dC, dI) vwCl [(wk, .inr (4, [.ref mo, .ref wy, .ref nw, .ref ol, .ref lt, .ref es, .ref sf, .ref sl, .ref so, .ref la, .ref li, .ref ru, .int (nI n), .int p2, .int 0, .int 0, .int d16, .int 0, .int d18, .int p3])), (nw, .inl (cyI, 1024, .inl fn))] _ := hP
  have hD : va_D A [(wk, .inr (4, [.ref mo, .ref wy, .ref nw, .ref ol, .ref lt, .ref es, .ref sf, .ref sl, .ref so, .ref la, .ref li, .ref ru, .int (nI n), .int p2, .int 0, .int 0, .int d16, .int 0, .int d18, .int p3])), (nw, .inl (cyI, 1024, .inl fn))] := hD
  refine lv_aload_n hx hb dX6_begin_30 rfl (lv_at hl 0 rfl) ?_
  refine lv_iconst (v := 0) hx hb dX6_begin_31 (by decide) ?_
  refine va_put (D := (dC, dI)) (ci := 4) (v := .int 0) (ty := .int) (C := RX6) (T := TX6) (N := 20) hx hb hts hnX6_begin_X6 tyX6 tyX6_ok nmX6 hown hK hP hD hS 0 rfl rfl 18 (by decide) (hts (.fieldLink RX6 73 "RingMeets$Walks" "rulesUsed" "I") (by decide +kernel)) (fun _ h9 => h9) rfl (by decide +kernel) rfl rfl (Nat.le_of_ble_eq_true rfl) dX6_begin_32 (fun H locs hP hD hS => ?_)
  have hP : va_P (dC, dI) vwCl [(wk, .inr (4, [.ref mo, .ref wy, .ref nw, .ref ol, .ref lt, .ref es, .ref sf, .ref sl, .ref so, .ref la, .ref li, .ref ru, .int (nI n), .int p2, .int 0, .int 0, .int d16, .int 0, .int 0, .int p3])), (nw, .inl (cyI, 1024, .inl fn))] _ := hP
  have hD : va_D A [(wk, .inr (4, [.ref mo, .ref wy, .ref nw, .ref ol, .ref lt, .ref es, .ref sf, .ref sl, .ref so, .ref la, .ref li, .ref ru, .int (nI n), .int p2, .int 0, .int 0, .int d16, .int 0, .int 0, .int p3])), (nw, .inl (cyI, 1024, .inl fn))] := hD
  refine lv_iconst (v := 0) hx hb dX6_begin_35 (by decide) ?_
  refine lv_istore (lv' := [(4, .int 0), (0, .ref wk), (1, .int (nI n)), (2, .int p2), (3, .int p3)]) hx hb dX6_begin_36 hl (by decide) rfl (fun ls hl => ?_)
  have L38 : ∀ (n38 : Nat), ∀ (k : Nat) (fn : Nat → Int32), (0 ≤ k ∧ k ≤ 1024) → (1024 + 1 ≤ k + n38) → ∀ (H : Heap) (locs : List Loc), va_P (dC, dI) vwCl [(wk, .inr (4, [.ref mo, .ref wy, .ref nw, .ref ol, .ref lt, .ref es, .ref sf, .ref sl, .ref so, .ref la, .ref li, .ref ru, .int (nI n), .int p2, .int 0, .int 0, .int d16, .int 0, .int 0, .int p3])), (nw, .inl (cyI, 1024, .inl fn))] H → va_D A [(wk, .inr (4, [.ref mo, .ref wy, .ref nw, .ref ol, .ref lt, .ref es, .ref sf, .ref sl, .ref so, .ref la, .ref li, .ref ru, .int (nI n), .int p2, .int 0, .int 0, .int d16, .int 0, .int 0, .int p3])), (nw, .inl (cyI, 1024, .inl fn))] → va_S A s.heap H locs → ∀ (ls : Array Slot), lv_has ls 5 [(0, .ref wk), (4, .int (nI k))] → W p l e (headSpec wsX6_begin ({ frames := 0, cells := 0, slots := 0, locals := 0 })).room s m ([.ref wk, .int (nI n), .int p2, .int p3] : List Value).toArray below meth c H locs 0 0 (MQ below (va_Qv (S := (Nat → Int32)) (fun q : (Nat → Int32) => True) (fun q t => bs_E dC dI A [(wk, .inr (4, [.ref mo, .ref wy, .ref nw, .ref ol, .ref lt, .ref es, .ref sf, .ref sl, .ref so, .ref la, .ref li, .ref ru, .int (nI n), .int p2, .int 0, .int 0, .int d16, .int 0, .int 0, .int p3])), (nw, .inl (cyI, 1024, .inl q))] t) A) ([.ref wk, .int (nI n), .int p2, .int p3] : List Value).toArray s 0 0 A) (F0 m 38 ls []) := by
    intro n38
    induction n38 with
    | zero =>
      intro k fn hk38 hn38 H locs hP hD hS ls hl
      exfalso
      omega
    | succ n38 ih38 =>
      intro k fn hk38 hn38 H locs hP hD hS ls hl
      refine lv_iload hx hb dX6_begin_38 (lv_at hl 1 rfl) ?_
      refine lv_sipush (v := 1024) hx hb dX6_begin_40 (by decide) ?_
      refine lv_icmp_ge (tgt := 60) hx hb dX6_begin_43 (by decide) (fun c_1 => ?_) (fun c_1 => ?_)
      · skip
        have ic_1 := ci_le (show Int32.toInt 1024 = 1024 by decide) (nI_toInt (n := k) (by omega)) c_1
        exact W.vret hx hb hr (fun t ht hW => ⟨⟨fn, rfl, trivial, ⟨by rw [ht]; exact hP.sub (ws' := [(wk, .inr (4, [.ref mo, .ref wy, .ref nw, .ref ol, .ref lt, .ref es, .ref sf, .ref sl, .ref so, .ref la, .ref li, .ref ru, .int (nI n), .int p2, .int 0, .int 0, .int d16, .int 0, .int 0, .int p3])), (nw, .inl (cyI, 1024, .inl fn))]) [0, 1] rfl, hD.sub (ws' := [(wk, .inr (4, [.ref mo, .ref wy, .ref nw, .ref ol, .ref lt, .ref es, .ref sf, .ref sl, .ref so, .ref la, .ref li, .ref ru, .int (nI n), .int p2, .int 0, .int 0, .int d16, .int 0, .int 0, .int p3])), (nw, .inl (cyI, 1024, .inl fn))]) [0, 1] (by decide) rfl⟩⟩, hS.F ht⟩) hS.2.2 dX6_begin_60
      · skip
        have ic_1 := ci_nle (show Int32.toInt 1024 = 1024 by decide) (nI_toInt (n := k) (by omega)) c_1
        refine lv_aload_n hx hb dX6_begin_46 rfl (lv_at hl 0 rfl) ?_
        refine va_get (D := (dC, dI)) (ci := 4) (v := .ref nw) (C := RX6) (T := TX6) (N := 20) hx hb hts hnX6_begin_X6 hown hK hP 0 rfl rfl 2 (by decide) (hts (.fieldLink RX6 22 "RingMeets$Walks" "newest" "[I") (by decide +kernel)) (fun _ h9 => h9) rfl dX6_begin_47 ?_
        refine lv_iload hx hb dX6_begin_50 (lv_at hl 1 rfl) ?_
        refine lv_iconst (v := (-1)) hx hb dX6_begin_52 (by decide) ?_
        refine va_iast (D := (dC, dI)) hx hb hK hP hD hS 1 0 rfl rfl (vp_in_nI (n := k) (N := 1024) (by omega) (by omega)) dX6_begin_53 (fun H locs hP hD hS => ?_)
        obtain ⟨g_2, eg_2⟩ : ∃ y : Nat → Int32, y = upd fn (Int32.toNatClampNeg (nI k)) (-1) := ⟨_, rfl⟩
        have hP : va_P (dC, dI) vwCl [(wk, .inr (4, [.ref mo, .ref wy, .ref nw, .ref ol, .ref lt, .ref es, .ref sf, .ref sl, .ref so, .ref la, .ref li, .ref ru, .int (nI n), .int p2, .int 0, .int 0, .int d16, .int 0, .int 0, .int p3])), (nw, .inl (cyI, 1024, .inl g_2))] H := by rw [eg_2]; exact hP
        have hD : va_D A [(wk, .inr (4, [.ref mo, .ref wy, .ref nw, .ref ol, .ref lt, .ref es, .ref sf, .ref sl, .ref so, .ref la, .ref li, .ref ru, .int (nI n), .int p2, .int 0, .int 0, .int d16, .int 0, .int 0, .int p3])), (nw, .inl (cyI, 1024, .inl g_2))] := by rw [eg_2]; exact hD
        rw [nI_clamp (n := k) (by omega)] at eg_2
        refine lv_iinc (v := (nI (k + 1))) (lv' := [(4, .int (nI (k + 1))), (0, .ref wk)]) hx hb dX6_begin_54 hl (k := 1) rfl (nI_1 _) (by decide) rfl (fun ls hl => ?_)
        refine lv_goto (tgt := 38) hx hb dX6_begin_57 (by decide) ?_
        exact ih38 (k + 1) g_2 ⟨by omega, by omega⟩ (by omega)  _ _ (hP.sub [0, 1] rfl) (hD.sub [0, 1] (by decide) rfl) hS _ (lv_sub hl [1, 0] rfl)
  exact L38 (1024 + 1) 0 fn ⟨by omega, by omega⟩ (by omega)  _ _ (hP.sub [0, 1] rfl) (hD.sub [0, 1] (by decide) rfl) hS _ (lv_sub hl [1, 0] rfl)

theorem hnX6_setAfter_X6 : ∀ w ∈ wsX60, w ∈ wsX6_setAfter := fun _ h => List.mem_cons_of_mem _ (List.mem_append_left _ (List.mem_append_right _ h))
set_option maxHeartbeats 4000000 in
set_option maxRecDepth 100000 in
theorem mX6_setAfter (l : Launch) (dC : Nat → ClassId) (dI : Nat → Nat → Nat) (cyI cyZ : ClassId) (wk : Nat) (mo : Nat) (wy : Nat) (nw : Nat) (ol : Nat) (lt : Nat) (es : Nat) (sf : Nat) (sl : Nat) (so : Nat) (la : Nat) (li : Nat) (ru : Nat) (n : Nat) (z : Nat) (tt : Nat) (qn : Nat) (sc : Int32) (d17 : Int32) (d18 : Int32) (d19 : Int32) (lk : Nat) (j0 : Int32) (j1 : Int32) (j2 : Int32) (p1 : Int32)  : Met l yX6_setAfter wsX6_setAfter ({ frames := 1, cells := 0, slots := 0, locals := 20 }) (bs_R dC dI cyI cyZ [.ref wk, .int p1] [(wk, .inr (4, [.ref mo, .ref wy, .ref nw, .ref ol, .ref lt, .ref es, .ref sf, .ref sl, .ref so, .ref la, .ref li, .ref ru, .int (nI n), .int sc, .int (nI z), .int (nI tt), .int (nI qn), .int d17, .int d18, .int d19])), (mo, .inr (1, [.ref lk, .int j0, .int j1, .int j2]))]) (vp_Si (fun r : Int32 => True)) 0 0 (fun _ => False) := by
  refine Met.ofW (cc := cX6_setAfter) (maxL := 3) (ret := (some .int)) (by decide) rfl ?_
  intro p e s m args below meth c s₁ B hml hv
  obtain ⟨rfl, hB, hP⟩ := hv
  have hK := hB.1
  have hN := hB.2
  have hx := B.exec
  have hb := B.bytes
  have hr := B.returns
  have hts := atoms_spec (ws := wsX6_setAfter) B.pre
  have hown : s.vm.findClass RX6 = some m.cls := findClass_of_methodNamed B.named
  have hlocks := B.notSynchronized
  have hP : va_P (dC, dI) vwCl [(wk, .inr (4, [.ref mo, .ref wy, .ref nw, .ref ol, .ref lt, .ref es, .ref sf, .ref sl, .ref so, .ref la, .ref li, .ref ru, .int (nI n), .int sc, .int (nI z), .int (nI tt), .int (nI qn), .int d17, .int d18, .int d19])), (mo, .inr (1, [.ref lk, .int j0, .int j1, .int j2]))] s.heap := hP
  have hl := lv_entry ([.ref wk, .int p1]) (n := 3) (Nat.le_of_ble_eq_true rfl)
  rw [lg_entry_eq]
  generalize (lg_sl ([.ref wk, .int p1]) ++ List.replicate (3 - (lg_sl ([.ref wk, .int p1])).length) Slot.unset).toArray = ls at hl ⊢
  have hl : lv_has ls 3 [(0, .ref wk), (1, .int p1)] := hl
  refine lv_aload_n hx hb dX6_setAfter_0 rfl (lv_at hl 0 rfl) ?_
  refine va_get (D := (dC, dI)) (ci := 4) (v := .ref mo) (C := RX6) (T := TX6) (N := 20) hx hb hts hnX6_setAfter_X6 hown hK hP 0 rfl rfl 0 (by decide) (hts (.fieldLink RX6 12 "RingMeets$Walks" "moves" "LRingMeets$Moves;") (by decide +kernel)) (fun _ h9 => h9) rfl dX6_setAfter_1 ?_
  refine vp_callSi (va_Run.run (va_runV (As := []) (rest := []) ⟨hx, hb, hml, hown, hts⟩ (mX2_movers l dC dI cyI cyZ mo lk j0 j1 j2 ) (cwV 0 hts gX6_setAfter_X2_movers rfl rfl rfl (by decide +kernel) ⟨Nat.le_of_ble_eq_true rfl, Nat.le_of_ble_eq_true rfl⟩) (bs_RV hB (hP.sub (ws' := [(mo, .inr (1, [.ref lk, .int j0, .int j1, .int j2]))]) [1] rfl) 0 rfl rfl) rfl rfl hl.1 rfl (lv_room (Nat.le_of_ble_eq_true rfl)) dX6_setAfter_4 ⟨Nat.le_of_ble_eq_true rfl, Nat.le_of_ble_eq_true rfl⟩)) (fun r_1 hr_1 => ?_)
  refine lv_istore_n (lv' := [(2, .int r_1), (0, .ref wk), (1, .int p1)]) hx hb dX6_setAfter_7 rfl hl (by decide) rfl (fun ls hl => ?_)
  refine lv_aload_n hx hb dX6_setAfter_8 rfl (lv_at hl 1 rfl) ?_
  refine va_get (D := (dC, dI)) (ci := 4) (v := .int sc) (C := RX6) (T := TX6) (N := 20) hx hb hts hnX6_setAfter_X6 hown hK hP 0 rfl rfl 13 (by decide) (hts (.fieldLink RX6 57 "RingMeets$Walks" "schedule" "I") (by decide +kernel)) (fun _ h9 => h9) rfl dX6_setAfter_9 ?_
  refine lv_iconst (v := 2) hx hb dX6_setAfter_12 (by decide) ?_
  refine lv_icmp_ne (tgt := 22) hx hb dX6_setAfter_13 (by decide) (fun c_2 => ?_) (fun c_2 => ?_)
  · skip
    have ic_2 := ci_ne (rfl : Int32.toInt sc = _) (show Int32.toInt 2 = 2 by decide) c_2
    refine lv_aload_n hx hb dX6_setAfter_22 rfl (lv_at hl 1 rfl) ?_
    refine va_get (D := (dC, dI)) (ci := 4) (v := .int sc) (C := RX6) (T := TX6) (N := 20) hx hb hts hnX6_setAfter_X6 hown hK hP 0 rfl rfl 13 (by decide) (hts (.fieldLink RX6 57 "RingMeets$Walks" "schedule" "I") (by decide +kernel)) (fun _ h9 => h9) rfl dX6_setAfter_23 ?_
    refine lv_iconst (v := 1) hx hb dX6_setAfter_26 (by decide) ?_
    refine lv_icmp_ne (tgt := 40) hx hb dX6_setAfter_27 (by decide) (fun c_3 => ?_) (fun c_3 => ?_)
    · skip
      have ic_3 := ci_ne (rfl : Int32.toInt sc = _) (show Int32.toInt 1 = 1 by decide) c_3
      refine lv_iload_n hx hb dX6_setAfter_40 rfl (lv_at hl 2 rfl) ?_
      refine lv_if_ne (tgt := 48) hx hb dX6_setAfter_41 (by decide) (fun c_4 => ?_) (fun c_4 => ?_)
      · skip
        have ic_4 := ci_ne (rfl : Int32.toInt p1 = _) (show Int32.toInt 0 = 0 by decide) c_4
        refine lv_iload_n hx hb dX6_setAfter_48 rfl (lv_at hl 0 rfl) ?_
        refine lv_iload_n hx hb dX6_setAfter_49 rfl (lv_at hl 2 rfl) ?_
        refine lv_iconst (v := 1) hx hb dX6_setAfter_50 (by decide) ?_
        refine lv_ishl hx hb dX6_setAfter_51 ?_
        refine lv_topi (fun x_5 ex_5 => ?_)
        refine lv_ineg hx hb dX6_setAfter_52 ?_
        refine lv_topi (fun x_6 ex_6 => ?_)
        refine lv_iand hx hb dX6_setAfter_53 ?_
        refine lv_topi (fun x_7 ex_7 => ?_)
        refine vp_callSi (va_Run.run (va_runS (As := [.int x_7]) (rest := []) ⟨hx, hb, hml, hown, hts⟩ (mJ6_lowestOneBit_0f7a4 l dC dI cyI cyZ x_7 ) (va_cwS 1 hts gX6_setAfter_J6_lowestOneBit_0f7a4 rfl rfl rfl (by decide +kernel) ⟨Nat.le_of_ble_eq_true rfl, Nat.le_of_ble_eq_true rfl⟩) (bs_RS hB (hP.sub (ws' := []) [] rfl)) rfl rfl hl.1 rfl (lv_room (Nat.le_of_ble_eq_true rfl)) dX6_setAfter_54 ⟨Nat.le_of_ble_eq_true rfl, Nat.le_of_ble_eq_true rfl⟩)) (fun r_8 hr_8 => ?_)
        exact W.iret (v := r_8) hx hb hr (fun t ht hW => ⟨r_8, rfl, trivial, ht⟩) (fun q h => by cases h) dX6_setAfter_57
      · skip
        have ic_4 := ci_eq (rfl : Int32.toInt p1 = _) (show Int32.toInt 0 = 0 by decide) c_4
        refine lv_iload_n hx hb dX6_setAfter_44 rfl (lv_at hl 0 rfl) ?_
        refine lv_goto (tgt := 54) hx hb dX6_setAfter_45 (by decide) ?_
        refine vp_callSi (va_Run.run (va_runS (As := [.int r_1]) (rest := []) ⟨hx, hb, hml, hown, hts⟩ (mJ6_lowestOneBit_0f7a4 l dC dI cyI cyZ r_1 ) (va_cwS 1 hts gX6_setAfter_J6_lowestOneBit_0f7a4 rfl rfl rfl (by decide +kernel) ⟨Nat.le_of_ble_eq_true rfl, Nat.le_of_ble_eq_true rfl⟩) (bs_RS hB (hP.sub (ws' := []) [] rfl)) rfl rfl hl.1 rfl (lv_room (Nat.le_of_ble_eq_true rfl)) dX6_setAfter_54 ⟨Nat.le_of_ble_eq_true rfl, Nat.le_of_ble_eq_true rfl⟩)) (fun r_9 hr_9 => ?_)
        exact W.iret (v := r_9) hx hb hr (fun t ht hW => ⟨r_9, rfl, trivial, ht⟩) (fun q h => by cases h) dX6_setAfter_57
    · skip
      have ic_3 := ci_eq (rfl : Int32.toInt sc = _) (show Int32.toInt 1 = 1 by decide) c_3
      refine lv_iload_n hx hb dX6_setAfter_30 rfl (lv_at hl 2 rfl) ?_
      refine lv_if_ne (tgt := 38) hx hb dX6_setAfter_31 (by decide) (fun c_10 => ?_) (fun c_10 => ?_)
      · skip
        have ic_10 := ci_ne (rfl : Int32.toInt p1 = _) (show Int32.toInt 0 = 0 by decide) c_10
        refine lv_iconst (v := 0) hx hb dX6_setAfter_38 (by decide) ?_
        exact W.iret (v := 0) hx hb hr (fun t ht hW => ⟨0, rfl, trivial, ht⟩) (fun q h => by cases h) dX6_setAfter_39
      · skip
        have ic_10 := ci_eq (rfl : Int32.toInt p1 = _) (show Int32.toInt 0 = 0 by decide) c_10
        refine lv_iload_n hx hb dX6_setAfter_34 rfl (lv_at hl 0 rfl) ?_
        refine lv_goto (tgt := 39) hx hb dX6_setAfter_35 (by decide) ?_
        exact W.iret (v := r_1) hx hb hr (fun t ht hW => ⟨r_1, rfl, trivial, ht⟩) (fun q h => by cases h) dX6_setAfter_39
  · skip
    have ic_2 := ci_eq (rfl : Int32.toInt sc = _) (show Int32.toInt 2 = 2 by decide) c_2
    refine lv_iload_n hx hb dX6_setAfter_16 rfl (lv_at hl 2 rfl) ?_
    refine lv_iload_n hx hb dX6_setAfter_17 rfl (lv_at hl 0 rfl) ?_
    refine lv_isub hx hb dX6_setAfter_18 ?_
    refine lv_topi (fun x_11 ex_11 => ?_)
    refine lv_iload_n hx hb dX6_setAfter_19 rfl (lv_at hl 0 rfl) ?_
    refine lv_iand hx hb dX6_setAfter_20 ?_
    refine lv_topi (fun x_12 ex_12 => ?_)
    exact W.iret (v := x_12) hx hb hr (fun t ht hW => ⟨x_12, rfl, trivial, ht⟩) (fun q h => by cases h) dX6_setAfter_21

theorem hnX6_addStep_X6 : ∀ w ∈ wsX60, w ∈ wsX6_addStep := fun _ h => List.mem_cons_of_mem _ (List.mem_append_right _ h)
set_option maxHeartbeats 4000000 in
set_option maxRecDepth 100000 in
theorem mX6_addStep (l : Launch) (dC : Nat → ClassId) (dI : Nat → Nat → Nat) (cyI cyZ : ClassId) (wk : Nat) (mo : Nat) (wy : Nat) (nw : Nat) (ol : Nat) (lt : Nat) (es : Nat) (sf : Nat) (sl : Nat) (so : Nat) (la : Nat) (li : Nat) (ru : Nat) (n : Nat) (z : Nat) (tt : Nat) (qn : Nat) (sc : Int32) (d17 : Int32) (d18 : Int32) (d19 : Int32) (fl : Nat → Int32) (fe : Nat → Int32) (ff : Nat → Int32) (fc : Nat → Int32) (p1 : Int32) (p2 : Int32) (hn : n ≤ 10) (hz : z ≤ 1957) (htt : tt ≤ 25857) (hqn : qn ≤ 1957) (sz : Nat) : Met l yX6_addStep wsX6_addStep ({ frames := 1, cells := 0, slots := 0, locals := 21 }) (bs_W dC dI cyI cyZ [.ref wk, .int p1, .int p2] [(wk, .inr (4, [.ref mo, .ref wy, .ref nw, .ref ol, .ref lt, .ref es, .ref sf, .ref sl, .ref so, .ref la, .ref li, .ref ru, .int (nI n), .int sc, .int (nI z), .int (nI tt), .int (nI qn), .int d17, .int d18, .int d19])), (lt, .inl (cyI, 1957, .inl fl)), (es, .inl (cyI, 25857, .inl fe)), (sf, .inl (cyI, 25857, .inl ff)), (sl, .inl (cyI, 1957, .inl fc))] sz) (va_Qv (S := Nat × (Nat → Int32) × (Nat → Int32) × (Nat → Int32) × (Nat → Int32)) (fun q : Nat × (Nat → Int32) × (Nat → Int32) × (Nat → Int32) × (Nat → Int32) => q.1 ≤ 25857) (fun q t => bs_E dC dI (va_A [(wk, .inr (4, [.ref mo, .ref wy, .ref nw, .ref ol, .ref lt, .ref es, .ref sf, .ref sl, .ref so, .ref la, .ref li, .ref ru, .int (nI n), .int sc, .int (nI z), .int (nI tt), .int (nI qn), .int d17, .int d18, .int d19])), (lt, .inl (cyI, 1957, .inl fl)), (es, .inl (cyI, 25857, .inl fe)), (sf, .inl (cyI, 25857, .inl ff)), (sl, .inl (cyI, 1957, .inl fc))] sz) [(wk, .inr (4, [.ref mo, .ref wy, .ref nw, .ref ol, .ref lt, .ref es, .ref sf, .ref sl, .ref so, .ref la, .ref li, .ref ru, .int (nI n), .int sc, .int (nI z), .int (nI q.1), .int (nI qn), .int d17, .int d18, .int d19])), (lt, .inl (cyI, 1957, .inl q.2.1)), (es, .inl (cyI, 25857, .inl q.2.2.1)), (sf, .inl (cyI, 25857, .inl q.2.2.2.1)), (sl, .inl (cyI, 1957, .inl q.2.2.2.2))] t) (va_A [(wk, .inr (4, [.ref mo, .ref wy, .ref nw, .ref ol, .ref lt, .ref es, .ref sf, .ref sl, .ref so, .ref la, .ref li, .ref ru, .int (nI n), .int sc, .int (nI z), .int (nI tt), .int (nI qn), .int d17, .int d18, .int d19])), (lt, .inl (cyI, 1957, .inl fl)), (es, .inl (cyI, 25857, .inl fe)), (sf, .inl (cyI, 25857, .inl ff)), (sl, .inl (cyI, 1957, .inl fc))] sz)) 0 0 (va_A [(wk, .inr (4, [.ref mo, .ref wy, .ref nw, .ref ol, .ref lt, .ref es, .ref sf, .ref sl, .ref so, .ref la, .ref li, .ref ru, .int (nI n), .int sc, .int (nI z), .int (nI tt), .int (nI qn), .int d17, .int d18, .int d19])), (lt, .inl (cyI, 1957, .inl fl)), (es, .inl (cyI, 25857, .inl fe)), (sf, .inl (cyI, 25857, .inl ff)), (sl, .inl (cyI, 1957, .inl fc))] sz) := by
  refine Met.ofW (cc := cX6_addStep) (maxL := 3) (ret := none) (by decide) rfl ?_
  intro p e s m args below meth c s₁ B hml hv
  obtain ⟨rfl, hsz, hB, hP, hD0⟩ := hv
  have hK := hB.1
  have hN := hB.2
  have hx := B.exec
  have hb := B.bytes
  have hr := B.returns
  have hts := atoms_spec (ws := wsX6_addStep) B.pre
  have hown : s.vm.findClass RX6 = some m.cls := findClass_of_methodNamed B.named
  have hlocks := B.notSynchronized
  subst hsz
  have hD := hD0.self (sz := s.heap.size)
  generalize hAe : va_A [(wk, .inr (4, [.ref mo, .ref wy, .ref nw, .ref ol, .ref lt, .ref es, .ref sf, .ref sl, .ref so, .ref la, .ref li, .ref ru, .int (nI n), .int sc, .int (nI z), .int (nI tt), .int (nI qn), .int d17, .int d18, .int d19])), (lt, .inl (cyI, 1957, .inl fl)), (es, .inl (cyI, 25857, .inl fe)), (sf, .inl (cyI, 25857, .inl ff)), (sl, .inl (cyI, 1957, .inl fc))] s.heap.size = A at hD ⊢
  have hA : ∀ q : Nat, s.heap.size ≤ q → A q := fun q h => by rw [← hAe]; exact Or.inr h
  have hS : va_S A s.heap s.heap [] := va_S.rf
  have hP : va_P (dC, dI) vwCl [(wk, .inr (4, [.ref mo, .ref wy, .ref nw, .ref ol, .ref lt, .ref es, .ref sf, .ref sl, .ref so, .ref la, .ref li, .ref ru, .int (nI n), .int sc, .int (nI z), .int (nI tt), .int (nI qn), .int d17, .int d18, .int d19])), (lt, .inl (cyI, 1957, .inl fl)), (es, .inl (cyI, 25857, .inl fe)), (sf, .inl (cyI, 25857, .inl ff)), (sl, .inl (cyI, 1957, .inl fc))] s.heap := hP
  have hl := lv_entry ([.ref wk, .int p1, .int p2]) (n := 3) (Nat.le_of_ble_eq_true rfl)
  rw [lg_entry_eq]
  generalize (lg_sl ([.ref wk, .int p1, .int p2]) ++ List.replicate (3 - (lg_sl ([.ref wk, .int p1, .int p2])).length) Slot.unset).toArray = ls at hl ⊢
  have hl : lv_has ls 3 [(0, .ref wk), (1, .int p1), (2, .int p2)] := hl
  refine lv_aload_n hx hb dX6_addStep_0 rfl (lv_at hl 0 rfl) ?_
  refine lv_iload_n hx hb dX6_addStep_1 rfl (lv_at hl 1 rfl) ?_
  refine vp_callSi (va_Run.run (va_runV (As := [.int p1]) (rest := []) ⟨hx, hb, hml, hown, hts⟩ (mX6_isWay l dC dI cyI cyZ wk mo wy nw ol lt es sf sl so la li ru n z tt qn sc d17 d18 d19 p1 (by omega)) (cwV 1 hts gX6_addStep_X6_isWay rfl rfl rfl (by decide +kernel) ⟨Nat.le_of_ble_eq_true rfl, Nat.le_of_ble_eq_true rfl⟩) (bs_RV hB (hP.sub (ws' := [(wk, .inr (4, [.ref mo, .ref wy, .ref nw, .ref ol, .ref lt, .ref es, .ref sf, .ref sl, .ref so, .ref la, .ref li, .ref ru, .int (nI n), .int sc, .int (nI z), .int (nI tt), .int (nI qn), .int d17, .int d18, .int d19]))]) [0] rfl) 0 rfl rfl) rfl rfl hl.1 rfl (lv_room (Nat.le_of_ble_eq_true rfl)) dX6_addStep_2 ⟨Nat.le_of_ble_eq_true rfl, Nat.le_of_ble_eq_true rfl⟩)) (fun r_1 hr_1 => ?_)
  refine lv_if_eq (tgt := 26) hx hb dX6_addStep_5 (by decide) (fun c_2 => ?_) (fun c_2 => ?_)
  · skip
    have ic_2 := ci_eq (rfl : Int32.toInt r_1 = _) (show Int32.toInt 0 = 0 by decide) c_2
    exact W.vret hx hb hr (fun t ht hW => ⟨⟨(tt, fl, fe, ff, fc), rfl, by omega, ⟨by rw [ht]; exact hP.sub (ws' := [(wk, .inr (4, [.ref mo, .ref wy, .ref nw, .ref ol, .ref lt, .ref es, .ref sf, .ref sl, .ref so, .ref la, .ref li, .ref ru, .int (nI n), .int sc, .int (nI z), .int (nI tt), .int (nI qn), .int d17, .int d18, .int d19])), (lt, .inl (cyI, 1957, .inl fl)), (es, .inl (cyI, 25857, .inl fe)), (sf, .inl (cyI, 25857, .inl ff)), (sl, .inl (cyI, 1957, .inl fc))]) [0, 1, 2, 3, 4] rfl, hD.sub (ws' := [(wk, .inr (4, [.ref mo, .ref wy, .ref nw, .ref ol, .ref lt, .ref es, .ref sf, .ref sl, .ref so, .ref la, .ref li, .ref ru, .int (nI n), .int sc, .int (nI z), .int (nI tt), .int (nI qn), .int d17, .int d18, .int d19])), (lt, .inl (cyI, 1957, .inl fl)), (es, .inl (cyI, 25857, .inl fe)), (sf, .inl (cyI, 25857, .inl ff)), (sl, .inl (cyI, 1957, .inl fc))]) [0, 1, 2, 3, 4] (by decide) rfl⟩⟩, hS.F ht⟩) hS.2.2 dX6_addStep_26
  · skip
    have ic_2 := ci_ne (rfl : Int32.toInt r_1 = _) (show Int32.toInt 0 = 0 by decide) c_2
    obtain ⟨hal, hau⟩ := hr_1.2 (hr_1.1.resolve_left c_2)
    refine lv_aload_n hx hb dX6_addStep_8 rfl (lv_at hl 0 rfl) ?_
    refine lv_iload_n hx hb dX6_addStep_9 rfl (lv_at hl 2 rfl) ?_
    refine vp_callSi (va_Run.run (va_runV (As := [.int p2]) (rest := []) ⟨hx, hb, hml, hown, hts⟩ (mX6_isWay l dC dI cyI cyZ wk mo wy nw ol lt es sf sl so la li ru n z tt qn sc d17 d18 d19 p2 (by omega)) (cwV 1 hts gX6_addStep_X6_isWay rfl rfl rfl (by decide +kernel) ⟨Nat.le_of_ble_eq_true rfl, Nat.le_of_ble_eq_true rfl⟩) (bs_RV hB (hP.sub (ws' := [(wk, .inr (4, [.ref mo, .ref wy, .ref nw, .ref ol, .ref lt, .ref es, .ref sf, .ref sl, .ref so, .ref la, .ref li, .ref ru, .int (nI n), .int sc, .int (nI z), .int (nI tt), .int (nI qn), .int d17, .int d18, .int d19]))]) [0] rfl) 0 rfl rfl) rfl rfl hl.1 rfl (lv_room (Nat.le_of_ble_eq_true rfl)) dX6_addStep_10 ⟨Nat.le_of_ble_eq_true rfl, Nat.le_of_ble_eq_true rfl⟩)) (fun r_3 hr_3 => ?_)
    refine lv_if_eq (tgt := 26) hx hb dX6_addStep_13 (by decide) (fun c_4 => ?_) (fun c_4 => ?_)
    · skip
      have ic_4 := ci_eq (rfl : Int32.toInt r_3 = _) (show Int32.toInt 0 = 0 by decide) c_4
      exact W.vret hx hb hr (fun t ht hW => ⟨⟨(tt, fl, fe, ff, fc), rfl, by omega, ⟨by rw [ht]; exact hP.sub (ws' := [(wk, .inr (4, [.ref mo, .ref wy, .ref nw, .ref ol, .ref lt, .ref es, .ref sf, .ref sl, .ref so, .ref la, .ref li, .ref ru, .int (nI n), .int sc, .int (nI z), .int (nI tt), .int (nI qn), .int d17, .int d18, .int d19])), (lt, .inl (cyI, 1957, .inl fl)), (es, .inl (cyI, 25857, .inl fe)), (sf, .inl (cyI, 25857, .inl ff)), (sl, .inl (cyI, 1957, .inl fc))]) [0, 1, 2, 3, 4] rfl, hD.sub (ws' := [(wk, .inr (4, [.ref mo, .ref wy, .ref nw, .ref ol, .ref lt, .ref es, .ref sf, .ref sl, .ref so, .ref la, .ref li, .ref ru, .int (nI n), .int sc, .int (nI z), .int (nI tt), .int (nI qn), .int d17, .int d18, .int d19])), (lt, .inl (cyI, 1957, .inl fl)), (es, .inl (cyI, 25857, .inl fe)), (sf, .inl (cyI, 25857, .inl ff)), (sl, .inl (cyI, 1957, .inl fc))]) [0, 1, 2, 3, 4] (by decide) rfl⟩⟩, hS.F ht⟩) hS.2.2 dX6_addStep_26
    · skip
      have ic_4 := ci_ne (rfl : Int32.toInt r_3 = _) (show Int32.toInt 0 = 0 by decide) c_4
      obtain ⟨hbl, hbu⟩ := hr_3.2 (hr_3.1.resolve_left c_4)
      refine lv_aload_n hx hb dX6_addStep_16 rfl (lv_at hl 0 rfl) ?_
      refine va_get (D := (dC, dI)) (ci := 4) (v := .int (nI tt)) (C := RX6) (T := TX6) (N := 20) hx hb hts hnX6_addStep_X6 hown hK hP 0 rfl rfl 15 (by decide) (hts (.fieldLink RX6 67 "RingMeets$Walks" "steps" "I") (by decide +kernel)) (fun _ h9 => h9) rfl dX6_addStep_17 ?_
      refine lv_sipush (v := 25857) hx hb dX6_addStep_20 (by decide) ?_
      refine lv_icmp_lt (tgt := 27) hx hb dX6_addStep_23 (by decide) (fun c_5 => ?_) (fun c_5 => ?_)
      · skip
        have ic_5 := ci_lt (nI_toInt (n := tt) (by omega)) (show Int32.toInt 25857 = 25857 by decide) c_5
        refine lv_aload_n hx hb dX6_addStep_27 rfl (lv_at hl 0 rfl) ?_
        refine va_get (D := (dC, dI)) (ci := 4) (v := .ref sf) (C := RX6) (T := TX6) (N := 20) hx hb hts hnX6_addStep_X6 hown hK hP 0 rfl rfl 6 (by decide) (hts (.fieldLink RX6 34 "RingMeets$Walks" "stepFrom" "[I") (by decide +kernel)) (fun _ h9 => h9) rfl dX6_addStep_28 ?_
        refine lv_aload_n hx hb dX6_addStep_31 rfl (lv_at hl 0 rfl) ?_
        refine va_get (D := (dC, dI)) (ci := 4) (v := .int (nI tt)) (C := RX6) (T := TX6) (N := 20) hx hb hts hnX6_addStep_X6 hown hK hP 0 rfl rfl 15 (by decide) (hts (.fieldLink RX6 67 "RingMeets$Walks" "steps" "I") (by decide +kernel)) (fun _ h9 => h9) rfl dX6_addStep_32 ?_
        refine lv_iload_n hx hb dX6_addStep_35 rfl (lv_at hl 1 rfl) ?_
        refine va_iast (D := (dC, dI)) hx hb hK hP hD hS 3 0 rfl rfl (vp_in_nI (n := tt) (N := 25857) (by omega) (by omega)) dX6_addStep_36 (fun H locs hP hD hS => ?_)
        obtain ⟨g_6, eg_6⟩ : ∃ y : Nat → Int32, y = upd ff (Int32.toNatClampNeg (nI tt)) p1 := ⟨_, rfl⟩
        have hP : va_P (dC, dI) vwCl [(wk, .inr (4, [.ref mo, .ref wy, .ref nw, .ref ol, .ref lt, .ref es, .ref sf, .ref sl, .ref so, .ref la, .ref li, .ref ru, .int (nI n), .int sc, .int (nI z), .int (nI tt), .int (nI qn), .int d17, .int d18, .int d19])), (lt, .inl (cyI, 1957, .inl fl)), (es, .inl (cyI, 25857, .inl fe)), (sf, .inl (cyI, 25857, .inl g_6)), (sl, .inl (cyI, 1957, .inl fc))] H := by rw [eg_6]; exact hP
        have hD : va_D A [(wk, .inr (4, [.ref mo, .ref wy, .ref nw, .ref ol, .ref lt, .ref es, .ref sf, .ref sl, .ref so, .ref la, .ref li, .ref ru, .int (nI n), .int sc, .int (nI z), .int (nI tt), .int (nI qn), .int d17, .int d18, .int d19])), (lt, .inl (cyI, 1957, .inl fl)), (es, .inl (cyI, 25857, .inl fe)), (sf, .inl (cyI, 25857, .inl g_6)), (sl, .inl (cyI, 1957, .inl fc))] := by rw [eg_6]; exact hD
        rw [nI_clamp (n := tt) (by omega)] at eg_6
        refine lv_aload_n hx hb dX6_addStep_37 rfl (lv_at hl 0 rfl) ?_
        refine va_get (D := (dC, dI)) (ci := 4) (v := .ref es) (C := RX6) (T := TX6) (N := 20) hx hb hts hnX6_addStep_X6 hown hK hP 0 rfl rfl 5 (by decide) (hts (.fieldLink RX6 31 "RingMeets$Walks" "earlierStep" "[I") (by decide +kernel)) (fun _ h9 => h9) rfl dX6_addStep_38 ?_
        refine lv_aload_n hx hb dX6_addStep_41 rfl (lv_at hl 0 rfl) ?_
        refine va_get (D := (dC, dI)) (ci := 4) (v := .int (nI tt)) (C := RX6) (T := TX6) (N := 20) hx hb hts hnX6_addStep_X6 hown hK hP 0 rfl rfl 15 (by decide) (hts (.fieldLink RX6 67 "RingMeets$Walks" "steps" "I") (by decide +kernel)) (fun _ h9 => h9) rfl dX6_addStep_42 ?_
        refine lv_aload_n hx hb dX6_addStep_45 rfl (lv_at hl 0 rfl) ?_
        refine va_get (D := (dC, dI)) (ci := 4) (v := .ref lt) (C := RX6) (T := TX6) (N := 20) hx hb hts hnX6_addStep_X6 hown hK hP 0 rfl rfl 4 (by decide) (hts (.fieldLink RX6 28 "RingMeets$Walks" "lastStepTo" "[I") (by decide +kernel)) (fun _ h9 => h9) rfl dX6_addStep_46 ?_
        refine lv_iload_n hx hb dX6_addStep_49 rfl (lv_at hl 2 rfl) ?_
        refine va_iald (D := (dC, dI)) hx hb hK hP 1 0 rfl rfl (nb_in (x := p2) (n := 1957) (by omega) (by omega)) dX6_addStep_50 ?_
        refine lv_topi (fun x_7 ex_7 => ?_)
        refine va_iast (D := (dC, dI)) hx hb hK hP hD hS 2 0 rfl rfl (vp_in_nI (n := tt) (N := 25857) (by omega) (by omega)) dX6_addStep_51 (fun H locs hP hD hS => ?_)
        obtain ⟨g_8, eg_8⟩ : ∃ y : Nat → Int32, y = upd fe (Int32.toNatClampNeg (nI tt)) x_7 := ⟨_, rfl⟩
        have hP : va_P (dC, dI) vwCl [(wk, .inr (4, [.ref mo, .ref wy, .ref nw, .ref ol, .ref lt, .ref es, .ref sf, .ref sl, .ref so, .ref la, .ref li, .ref ru, .int (nI n), .int sc, .int (nI z), .int (nI tt), .int (nI qn), .int d17, .int d18, .int d19])), (lt, .inl (cyI, 1957, .inl fl)), (es, .inl (cyI, 25857, .inl g_8)), (sf, .inl (cyI, 25857, .inl g_6)), (sl, .inl (cyI, 1957, .inl fc))] H := by rw [eg_8]; exact hP
        have hD : va_D A [(wk, .inr (4, [.ref mo, .ref wy, .ref nw, .ref ol, .ref lt, .ref es, .ref sf, .ref sl, .ref so, .ref la, .ref li, .ref ru, .int (nI n), .int sc, .int (nI z), .int (nI tt), .int (nI qn), .int d17, .int d18, .int d19])), (lt, .inl (cyI, 1957, .inl fl)), (es, .inl (cyI, 25857, .inl g_8)), (sf, .inl (cyI, 25857, .inl g_6)), (sl, .inl (cyI, 1957, .inl fc))] := by rw [eg_8]; exact hD
        rw [nI_clamp (n := tt) (by omega)] at eg_8
        refine lv_aload_n hx hb dX6_addStep_52 rfl (lv_at hl 0 rfl) ?_
        refine va_get (D := (dC, dI)) (ci := 4) (v := .ref lt) (C := RX6) (T := TX6) (N := 20) hx hb hts hnX6_addStep_X6 hown hK hP 0 rfl rfl 4 (by decide) (hts (.fieldLink RX6 28 "RingMeets$Walks" "lastStepTo" "[I") (by decide +kernel)) (fun _ h9 => h9) rfl dX6_addStep_53 ?_
        refine lv_iload_n hx hb dX6_addStep_56 rfl (lv_at hl 2 rfl) ?_
        refine lv_aload_n hx hb dX6_addStep_57 rfl (lv_at hl 0 rfl) ?_
        refine va_get (D := (dC, dI)) (ci := 4) (v := .int (nI tt)) (C := RX6) (T := TX6) (N := 20) hx hb hts hnX6_addStep_X6 hown hK hP 0 rfl rfl 15 (by decide) (hts (.fieldLink RX6 67 "RingMeets$Walks" "steps" "I") (by decide +kernel)) (fun _ h9 => h9) rfl dX6_addStep_58 ?_
        refine va_iast (D := (dC, dI)) hx hb hK hP hD hS 1 0 rfl rfl (nb_in (x := p2) (n := 1957) (by omega) (by omega)) dX6_addStep_61 (fun H locs hP hD hS => ?_)
        obtain ⟨g_9, eg_9⟩ : ∃ y : Nat → Int32, y = upd fl (Int32.toNatClampNeg p2) (nI tt) := ⟨_, rfl⟩
        have hP : va_P (dC, dI) vwCl [(wk, .inr (4, [.ref mo, .ref wy, .ref nw, .ref ol, .ref lt, .ref es, .ref sf, .ref sl, .ref so, .ref la, .ref li, .ref ru, .int (nI n), .int sc, .int (nI z), .int (nI tt), .int (nI qn), .int d17, .int d18, .int d19])), (lt, .inl (cyI, 1957, .inl g_9)), (es, .inl (cyI, 25857, .inl g_8)), (sf, .inl (cyI, 25857, .inl g_6)), (sl, .inl (cyI, 1957, .inl fc))] H := by rw [eg_9]; exact hP
        have hD : va_D A [(wk, .inr (4, [.ref mo, .ref wy, .ref nw, .ref ol, .ref lt, .ref es, .ref sf, .ref sl, .ref so, .ref la, .ref li, .ref ru, .int (nI n), .int sc, .int (nI z), .int (nI tt), .int (nI qn), .int d17, .int d18, .int d19])), (lt, .inl (cyI, 1957, .inl g_9)), (es, .inl (cyI, 25857, .inl g_8)), (sf, .inl (cyI, 25857, .inl g_6)), (sl, .inl (cyI, 1957, .inl fc))] := by rw [eg_9]; exact hD
        refine lv_aload_n hx hb dX6_addStep_62 rfl (lv_at hl 0 rfl) ?_
        refine va_get (D := (dC, dI)) (ci := 4) (v := .ref sl) (C := RX6) (T := TX6) (N := 20) hx hb hts hnX6_addStep_X6 hown hK hP 0 rfl rfl 7 (by decide) (hts (.fieldLink RX6 37 "RingMeets$Walks" "stepsLeft" "[I") (by decide +kernel)) (fun _ h9 => h9) rfl dX6_addStep_63 ?_
        refine lv_iload_n hx hb dX6_addStep_66 rfl (lv_at hl 1 rfl) ?_
        refine lv_dup2_11 hx hb dX6_addStep_67 rfl rfl ?_
        refine va_iald (D := (dC, dI)) hx hb hK hP 4 0 rfl rfl (nb_in (x := p1) (n := 1957) (by omega) (by omega)) dX6_addStep_68 ?_
        refine lv_topi (fun x_10 ex_10 => ?_)
        refine lv_iconst (v := 1) hx hb dX6_addStep_69 (by decide) ?_
        refine lv_iadd hx hb dX6_addStep_70 ?_
        refine lv_topi (fun x_11 ex_11 => ?_)
        refine va_iast (D := (dC, dI)) hx hb hK hP hD hS 4 0 rfl rfl (nb_in (x := p1) (n := 1957) (by omega) (by omega)) dX6_addStep_71 (fun H locs hP hD hS => ?_)
        obtain ⟨g_12, eg_12⟩ : ∃ y : Nat → Int32, y = upd fc (Int32.toNatClampNeg p1) x_11 := ⟨_, rfl⟩
        have hP : va_P (dC, dI) vwCl [(wk, .inr (4, [.ref mo, .ref wy, .ref nw, .ref ol, .ref lt, .ref es, .ref sf, .ref sl, .ref so, .ref la, .ref li, .ref ru, .int (nI n), .int sc, .int (nI z), .int (nI tt), .int (nI qn), .int d17, .int d18, .int d19])), (lt, .inl (cyI, 1957, .inl g_9)), (es, .inl (cyI, 25857, .inl g_8)), (sf, .inl (cyI, 25857, .inl g_6)), (sl, .inl (cyI, 1957, .inl g_12))] H := by rw [eg_12]; exact hP
        have hD : va_D A [(wk, .inr (4, [.ref mo, .ref wy, .ref nw, .ref ol, .ref lt, .ref es, .ref sf, .ref sl, .ref so, .ref la, .ref li, .ref ru, .int (nI n), .int sc, .int (nI z), .int (nI tt), .int (nI qn), .int d17, .int d18, .int d19])), (lt, .inl (cyI, 1957, .inl g_9)), (es, .inl (cyI, 25857, .inl g_8)), (sf, .inl (cyI, 25857, .inl g_6)), (sl, .inl (cyI, 1957, .inl g_12))] := by rw [eg_12]; exact hD
        refine lv_aload_n hx hb dX6_addStep_72 rfl (lv_at hl 0 rfl) ?_
        refine lv_dup hx hb dX6_addStep_73 rfl ?_
        refine va_get (D := (dC, dI)) (ci := 4) (v := .int (nI tt)) (C := RX6) (T := TX6) (N := 20) hx hb hts hnX6_addStep_X6 hown hK hP 0 rfl rfl 15 (by decide) (hts (.fieldLink RX6 67 "RingMeets$Walks" "steps" "I") (by decide +kernel)) (fun _ h9 => h9) rfl dX6_addStep_74 ?_
        refine lv_iconst (v := 1) hx hb dX6_addStep_77 (by decide) ?_
        refine lv_iadd hx hb dX6_addStep_78 ?_
        refine lv_topi (fun x_13 ex_13 => ?_)
        obtain rfl : (nI (tt + 1)) = x_13 := (ex_13.trans (nI_1 _)).symm
        refine va_put (D := (dC, dI)) (ci := 4) (v := .int (nI (tt + 1))) (ty := .int) (C := RX6) (T := TX6) (N := 20) hx hb hts hnX6_addStep_X6 tyX6 tyX6_ok nmX6 hown hK hP hD hS 0 rfl rfl 15 (by decide) (hts (.fieldLink RX6 67 "RingMeets$Walks" "steps" "I") (by decide +kernel)) (fun _ h9 => h9) rfl (by decide +kernel) rfl rfl (Nat.le_of_ble_eq_true rfl) dX6_addStep_79 (fun H locs hP hD hS => ?_)
        have hP : va_P (dC, dI) vwCl [(wk, .inr (4, [.ref mo, .ref wy, .ref nw, .ref ol, .ref lt, .ref es, .ref sf, .ref sl, .ref so, .ref la, .ref li, .ref ru, .int (nI n), .int sc, .int (nI z), .int (nI (tt + 1)), .int (nI qn), .int d17, .int d18, .int d19])), (lt, .inl (cyI, 1957, .inl g_9)), (es, .inl (cyI, 25857, .inl g_8)), (sf, .inl (cyI, 25857, .inl g_6)), (sl, .inl (cyI, 1957, .inl g_12))] _ := hP
        have hD : va_D A [(wk, .inr (4, [.ref mo, .ref wy, .ref nw, .ref ol, .ref lt, .ref es, .ref sf, .ref sl, .ref so, .ref la, .ref li, .ref ru, .int (nI n), .int sc, .int (nI z), .int (nI (tt + 1)), .int (nI qn), .int d17, .int d18, .int d19])), (lt, .inl (cyI, 1957, .inl g_9)), (es, .inl (cyI, 25857, .inl g_8)), (sf, .inl (cyI, 25857, .inl g_6)), (sl, .inl (cyI, 1957, .inl g_12))] := hD
        exact W.vret hx hb hr (fun t ht hW => ⟨⟨((tt + 1), g_9, g_8, g_6, g_12), rfl, by omega, ⟨by rw [ht]; exact hP.sub (ws' := [(wk, .inr (4, [.ref mo, .ref wy, .ref nw, .ref ol, .ref lt, .ref es, .ref sf, .ref sl, .ref so, .ref la, .ref li, .ref ru, .int (nI n), .int sc, .int (nI z), .int (nI (tt + 1)), .int (nI qn), .int d17, .int d18, .int d19])), (lt, .inl (cyI, 1957, .inl g_9)), (es, .inl (cyI, 25857, .inl g_8)), (sf, .inl (cyI, 25857, .inl g_6)), (sl, .inl (cyI, 1957, .inl g_12))]) [0, 1, 2, 3, 4] rfl, hD.sub (ws' := [(wk, .inr (4, [.ref mo, .ref wy, .ref nw, .ref ol, .ref lt, .ref es, .ref sf, .ref sl, .ref so, .ref la, .ref li, .ref ru, .int (nI n), .int sc, .int (nI z), .int (nI (tt + 1)), .int (nI qn), .int d17, .int d18, .int d19])), (lt, .inl (cyI, 1957, .inl g_9)), (es, .inl (cyI, 25857, .inl g_8)), (sf, .inl (cyI, 25857, .inl g_6)), (sl, .inl (cyI, 1957, .inl g_12))]) [0, 1, 2, 3, 4] (by decide) rfl⟩⟩, hS.F ht⟩) hS.2.2 dX6_addStep_82
      · skip
        have ic_5 := ci_nlt (nI_toInt (n := tt) (by omega)) (show Int32.toInt 25857 = 25857 by decide) c_5
        exact W.vret hx hb hr (fun t ht hW => ⟨⟨(tt, fl, fe, ff, fc), rfl, by omega, ⟨by rw [ht]; exact hP.sub (ws' := [(wk, .inr (4, [.ref mo, .ref wy, .ref nw, .ref ol, .ref lt, .ref es, .ref sf, .ref sl, .ref so, .ref la, .ref li, .ref ru, .int (nI n), .int sc, .int (nI z), .int (nI tt), .int (nI qn), .int d17, .int d18, .int d19])), (lt, .inl (cyI, 1957, .inl fl)), (es, .inl (cyI, 25857, .inl fe)), (sf, .inl (cyI, 25857, .inl ff)), (sl, .inl (cyI, 1957, .inl fc))]) [0, 1, 2, 3, 4] rfl, hD.sub (ws' := [(wk, .inr (4, [.ref mo, .ref wy, .ref nw, .ref ol, .ref lt, .ref es, .ref sf, .ref sl, .ref so, .ref la, .ref li, .ref ru, .int (nI n), .int sc, .int (nI z), .int (nI tt), .int (nI qn), .int d17, .int d18, .int d19])), (lt, .inl (cyI, 1957, .inl fl)), (es, .inl (cyI, 25857, .inl fe)), (sf, .inl (cyI, 25857, .inl ff)), (sl, .inl (cyI, 1957, .inl fc))]) [0, 1, 2, 3, 4] (by decide) rfl⟩⟩, hS.F ht⟩) hS.2.2 dX6_addStep_26

theorem hnX6_addStepsFrom_X2 : ∀ w ∈ wsX20, w ∈ wsX6_addStepsFrom := fun _ h => List.mem_cons_of_mem _ (List.mem_append_right _ h)
theorem hnX6_addStepsFrom_X6 : ∀ w ∈ wsX60, w ∈ wsX6_addStepsFrom := fun _ h => List.mem_cons_of_mem _ (List.mem_append_left _ (List.mem_append_right _ h))
set_option maxHeartbeats 4000000 in
set_option maxRecDepth 100000 in
theorem mX6_addStepsFrom (l : Launch) (dC : Nat → ClassId) (dI : Nat → Nat → Nat) (cyI cyZ : ClassId) (wk : Nat) (mo : Nat) (wy : Nat) (nw : Nat) (ol : Nat) (lt : Nat) (es : Nat) (sf : Nat) (sl : Nat) (so : Nat) (la : Nat) (li : Nat) (ru : Nat) (n : Nat) (z : Nat) (tt : Nat) (qn : Nat) (sc : Int32) (d17 : Int32) (d18 : Int32) (d19 : Int32) (lk : Nat) (pat : Nat) (j0 : Int32) (j1 : Int32) (j2 : Int32) (fy : Nat → Int32) (fn : Nat → Int32) (fo : Nat → Int32) (fl : Nat → Int32) (fe : Nat → Int32) (ff : Nat → Int32) (fc : Nat → Int32) (hn : n ≤ 10) (hz : z ≤ 1957) (htt : tt ≤ 25857) (hqn : qn ≤ 1957) (hat : pat < 1957) (sz : Nat) : Met l yX6_addStepsFrom wsX6_addStepsFrom ({ frames := 3, cells := 0, slots := 0, locals := 68 }) (bs_W dC dI cyI cyZ [.ref wk, .int (nI pat)] [(wk, .inr (4, [.ref mo, .ref wy, .ref nw, .ref ol, .ref lt, .ref es, .ref sf, .ref sl, .ref so, .ref la, .ref li, .ref ru, .int (nI n), .int sc, .int (nI z), .int (nI tt), .int (nI qn), .int d17, .int d18, .int d19])), (mo, .inr (1, [.ref lk, .int j0, .int j1, .int j2])), (wy, .inl (cyI, 1957, .inl fy)), (nw, .inl (cyI, 1024, .inl fn)), (ol, .inl (cyI, 1957, .inl fo)), (lt, .inl (cyI, 1957, .inl fl)), (es, .inl (cyI, 25857, .inl fe)), (sf, .inl (cyI, 25857, .inl ff)), (sl, .inl (cyI, 1957, .inl fc))] sz) (va_Qv (S := Nat × Nat × Int32 × Int32 × (Nat → Int32) × (Nat → Int32) × (Nat → Int32) × (Nat → Int32) × (Nat → Int32) × (Nat → Int32) × (Nat → Int32)) (fun q : Nat × Nat × Int32 × Int32 × (Nat → Int32) × (Nat → Int32) × (Nat → Int32) × (Nat → Int32) × (Nat → Int32) × (Nat → Int32) × (Nat → Int32) => q.1 ≤ 1957 ∧ q.2.1 ≤ 25857) (fun q t => bs_E dC dI (va_A [(wk, .inr (4, [.ref mo, .ref wy, .ref nw, .ref ol, .ref lt, .ref es, .ref sf, .ref sl, .ref so, .ref la, .ref li, .ref ru, .int (nI n), .int sc, .int (nI z), .int (nI tt), .int (nI qn), .int d17, .int d18, .int d19])), (mo, .inr (1, [.ref lk, .int j0, .int j1, .int j2])), (wy, .inl (cyI, 1957, .inl fy)), (nw, .inl (cyI, 1024, .inl fn)), (ol, .inl (cyI, 1957, .inl fo)), (lt, .inl (cyI, 1957, .inl fl)), (es, .inl (cyI, 25857, .inl fe)), (sf, .inl (cyI, 25857, .inl ff)), (sl, .inl (cyI, 1957, .inl fc))] sz) [(wk, .inr (4, [.ref mo, .ref wy, .ref nw, .ref ol, .ref lt, .ref es, .ref sf, .ref sl, .ref so, .ref la, .ref li, .ref ru, .int (nI n), .int sc, .int (nI q.1), .int (nI q.2.1), .int (nI qn), .int q.2.2.1, .int q.2.2.2.1, .int d19])), (mo, .inr (1, [.ref lk, .int j0, .int j1, .int j2])), (wy, .inl (cyI, 1957, .inl q.2.2.2.2.1)), (nw, .inl (cyI, 1024, .inl q.2.2.2.2.2.1)), (ol, .inl (cyI, 1957, .inl q.2.2.2.2.2.2.1)), (lt, .inl (cyI, 1957, .inl q.2.2.2.2.2.2.2.1)), (es, .inl (cyI, 25857, .inl q.2.2.2.2.2.2.2.2.1)), (sf, .inl (cyI, 25857, .inl q.2.2.2.2.2.2.2.2.2.1)), (sl, .inl (cyI, 1957, .inl q.2.2.2.2.2.2.2.2.2.2))] t) (va_A [(wk, .inr (4, [.ref mo, .ref wy, .ref nw, .ref ol, .ref lt, .ref es, .ref sf, .ref sl, .ref so, .ref la, .ref li, .ref ru, .int (nI n), .int sc, .int (nI z), .int (nI tt), .int (nI qn), .int d17, .int d18, .int d19])), (mo, .inr (1, [.ref lk, .int j0, .int j1, .int j2])), (wy, .inl (cyI, 1957, .inl fy)), (nw, .inl (cyI, 1024, .inl fn)), (ol, .inl (cyI, 1957, .inl fo)), (lt, .inl (cyI, 1957, .inl fl)), (es, .inl (cyI, 25857, .inl fe)), (sf, .inl (cyI, 25857, .inl ff)), (sl, .inl (cyI, 1957, .inl fc))] sz)) 0 0 (va_A [(wk, .inr (4, [.ref mo, .ref wy, .ref nw, .ref ol, .ref lt, .ref es, .ref sf, .ref sl, .ref so, .ref la, .ref li, .ref ru, .int (nI n), .int sc, .int (nI z), .int (nI tt), .int (nI qn), .int d17, .int d18, .int d19])), (mo, .inr (1, [.ref lk, .int j0, .int j1, .int j2])), (wy, .inl (cyI, 1957, .inl fy)), (nw, .inl (cyI, 1024, .inl fn)), (ol, .inl (cyI, 1957, .inl fo)), (lt, .inl (cyI, 1957, .inl fl)), (es, .inl (cyI, 25857, .inl fe)), (sf, .inl (cyI, 25857, .inl ff)), (sl, .inl (cyI, 1957, .inl fc))] sz) := by
  refine Met.ofW (cc := cX6_addStepsFrom) (maxL := 4) (ret := none) (by decide) rfl ?_
  intro p e s m args below meth c s₁ B hml hv
  obtain ⟨rfl, hsz, hB, hP, hD0⟩ := hv
  have hK := hB.1
  have hN := hB.2
  have hx := B.exec
  have hb := B.bytes
  have hr := B.returns
  have hts := atoms_spec (ws := wsX6_addStepsFrom) B.pre
  have hown : s.vm.findClass RX6 = some m.cls := findClass_of_methodNamed B.named
  have hlocks := B.notSynchronized
  subst hsz
  have hD := hD0.self (sz := s.heap.size)
  generalize hAe : va_A [(wk, .inr (4, [.ref mo, .ref wy, .ref nw, .ref ol, .ref lt, .ref es, .ref sf, .ref sl, .ref so, .ref la, .ref li, .ref ru, .int (nI n), .int sc, .int (nI z), .int (nI tt), .int (nI qn), .int d17, .int d18, .int d19])), (mo, .inr (1, [.ref lk, .int j0, .int j1, .int j2])), (wy, .inl (cyI, 1957, .inl fy)), (nw, .inl (cyI, 1024, .inl fn)), (ol, .inl (cyI, 1957, .inl fo)), (lt, .inl (cyI, 1957, .inl fl)), (es, .inl (cyI, 25857, .inl fe)), (sf, .inl (cyI, 25857, .inl ff)), (sl, .inl (cyI, 1957, .inl fc))] s.heap.size = A at hD ⊢
  have hA : ∀ q : Nat, s.heap.size ≤ q → A q := fun q h => by rw [← hAe]; exact Or.inr h
  have hS : va_S A s.heap s.heap [] := va_S.rf
  have hP : va_P (dC, dI) vwCl [(wk, .inr (4, [.ref mo, .ref wy, .ref nw, .ref ol, .ref lt, .ref es, .ref sf, .ref sl, .ref so, .ref la, .ref li, .ref ru, .int (nI n), .int sc, .int (nI z), .int (nI tt), .int (nI qn), .int d17, .int d18, .int d19])), (mo, .inr (1, [.ref lk, .int j0, .int j1, .int j2])), (wy, .inl (cyI, 1957, .inl fy)), (nw, .inl (cyI, 1024, .inl fn)), (ol, .inl (cyI, 1957, .inl fo)), (lt, .inl (cyI, 1957, .inl fl)), (es, .inl (cyI, 25857, .inl fe)), (sf, .inl (cyI, 25857, .inl ff)), (sl, .inl (cyI, 1957, .inl fc))] s.heap := hP
  have hl := lv_entry ([.ref wk, .int (nI pat)]) (n := 4) (Nat.le_of_ble_eq_true rfl)
  rw [lg_entry_eq]
  generalize (lg_sl ([.ref wk, .int (nI pat)]) ++ List.replicate (4 - (lg_sl ([.ref wk, .int (nI pat)])).length) Slot.unset).toArray = ls at hl ⊢
  have hl : lv_has ls 4 [(0, .ref wk), (1, .int (nI pat))] := hl
  refine lv_aload_n hx hb dX6_addStepsFrom_0 rfl (lv_at hl 0 rfl) ?_
  refine lv_dup hx hb dX6_addStepsFrom_1 rfl ?_
  refine va_get (D := (dC, dI)) (ci := 4) (v := .int d18) (C := RX6) (T := TX6) (N := 20) hx hb hts hnX6_addStepsFrom_X6 hown hK hP 0 rfl rfl 18 (by decide) (hts (.fieldLink RX6 73 "RingMeets$Walks" "rulesUsed" "I") (by decide +kernel)) (fun _ h9 => h9) rfl dX6_addStepsFrom_2 ?_
  refine lv_aload_n hx hb dX6_addStepsFrom_5 rfl (lv_at hl 0 rfl) ?_
  refine va_get (D := (dC, dI)) (ci := 4) (v := .ref mo) (C := RX6) (T := TX6) (N := 20) hx hb hts hnX6_addStepsFrom_X6 hown hK hP 0 rfl rfl 0 (by decide) (hts (.fieldLink RX6 12 "RingMeets$Walks" "moves" "LRingMeets$Moves;") (by decide +kernel)) (fun _ h9 => h9) rfl dX6_addStepsFrom_6 ?_
  refine va_getN (D := (dC, dI)) (ci := 1) (v := .int j2) (C := RX2) (T := TX2) (N := 4) hx hb hts hnX6_addStepsFrom_X2 hown hK hP 1 rfl rfl 3 (by decide) (hN.fld 15 rfl) (fun _ h9 => h9) rfl dX6_addStepsFrom_9 ?_
  refine lv_ior hx hb dX6_addStepsFrom_12 ?_
  refine lv_topi (fun x_1 ex_1 => ?_)
  refine va_put (D := (dC, dI)) (ci := 4) (v := .int x_1) (ty := .int) (C := RX6) (T := TX6) (N := 20) hx hb hts hnX6_addStepsFrom_X6 tyX6 tyX6_ok nmX6 hown hK hP hD hS 0 rfl rfl 18 (by decide) (hts (.fieldLink RX6 73 "RingMeets$Walks" "rulesUsed" "I") (by decide +kernel)) (fun _ h9 => h9) rfl (by decide +kernel) rfl rfl (Nat.le_of_ble_eq_true rfl) dX6_addStepsFrom_13 (fun H locs hP hD hS => ?_)
  have hP : va_P (dC, dI) vwCl [(wk, .inr (4, [.ref mo, .ref wy, .ref nw, .ref ol, .ref lt, .ref es, .ref sf, .ref sl, .ref so, .ref la, .ref li, .ref ru, .int (nI n), .int sc, .int (nI z), .int (nI tt), .int (nI qn), .int d17, .int x_1, .int d19])), (mo, .inr (1, [.ref lk, .int j0, .int j1, .int j2])), (wy, .inl (cyI, 1957, .inl fy)), (nw, .inl (cyI, 1024, .inl fn)), (ol, .inl (cyI, 1957, .inl fo)), (lt, .inl (cyI, 1957, .inl fl)), (es, .inl (cyI, 25857, .inl fe)), (sf, .inl (cyI, 25857, .inl ff)), (sl, .inl (cyI, 1957, .inl fc))] _ := hP
  have hD : va_D A [(wk, .inr (4, [.ref mo, .ref wy, .ref nw, .ref ol, .ref lt, .ref es, .ref sf, .ref sl, .ref so, .ref la, .ref li, .ref ru, .int (nI n), .int sc, .int (nI z), .int (nI tt), .int (nI qn), .int d17, .int x_1, .int d19])), (mo, .inr (1, [.ref lk, .int j0, .int j1, .int j2])), (wy, .inl (cyI, 1957, .inl fy)), (nw, .inl (cyI, 1024, .inl fn)), (ol, .inl (cyI, 1957, .inl fo)), (lt, .inl (cyI, 1957, .inl fl)), (es, .inl (cyI, 25857, .inl fe)), (sf, .inl (cyI, 25857, .inl ff)), (sl, .inl (cyI, 1957, .inl fc))] := hD
  refine lv_aload_n hx hb dX6_addStepsFrom_16 rfl (lv_at hl 0 rfl) ?_
  refine va_get (D := (dC, dI)) (ci := 4) (v := .ref mo) (C := RX6) (T := TX6) (N := 20) hx hb hts hnX6_addStepsFrom_X6 hown hK hP 0 rfl rfl 0 (by decide) (hts (.fieldLink RX6 12 "RingMeets$Walks" "moves" "LRingMeets$Moves;") (by decide +kernel)) (fun _ h9 => h9) rfl dX6_addStepsFrom_17 ?_
  refine vp_callSi (va_Run.run (va_runV (As := []) (rest := []) ⟨hx, hb, hml, hown, hts⟩ (mX2_movers l dC dI cyI cyZ mo lk j0 j1 j2 ) (cwV 0 hts gX6_addStepsFrom_X2_movers rfl rfl rfl (by decide +kernel) ⟨Nat.le_of_ble_eq_true rfl, Nat.le_of_ble_eq_true rfl⟩) (bs_RV hB (hP.sub (ws' := [(mo, .inr (1, [.ref lk, .int j0, .int j1, .int j2]))]) [1] rfl) 0 rfl rfl) rfl rfl hl.1 rfl (lv_room (Nat.le_of_ble_eq_true rfl)) dX6_addStepsFrom_20 ⟨Nat.le_of_ble_eq_true rfl, Nat.le_of_ble_eq_true rfl⟩)) (fun r_2 hr_2 => ?_)
  refine lv_if_ne (tgt := 36) hx hb dX6_addStepsFrom_23 (by decide) (fun c_3 => ?_) (fun c_3 => ?_)
  · skip
    have ic_3 := ci_ne (rfl : Int32.toInt r_2 = _) (show Int32.toInt 0 = 0 by decide) c_3
    refine lv_aload_n hx hb dX6_addStepsFrom_36 rfl (lv_at hl 0 rfl) ?_
    refine lv_iconst (v := 0) hx hb dX6_addStepsFrom_37 (by decide) ?_
    refine vp_callSi (va_Run.run (va_runV (As := [.int 0]) (rest := []) ⟨hx, hb, hml, hown, hts⟩ (mX6_setAfter l dC dI cyI cyZ wk mo wy nw ol lt es sf sl so la li ru n z tt qn sc d17 x_1 d19 lk j0 j1 j2 0 ) (cwV 1 hts gX6_addStepsFrom_X6_setAfter rfl rfl rfl (by decide +kernel) ⟨Nat.le_of_ble_eq_true rfl, Nat.le_of_ble_eq_true rfl⟩) (bs_RV hB (hP.sub (ws' := [(wk, .inr (4, [.ref mo, .ref wy, .ref nw, .ref ol, .ref lt, .ref es, .ref sf, .ref sl, .ref so, .ref la, .ref li, .ref ru, .int (nI n), .int sc, .int (nI z), .int (nI tt), .int (nI qn), .int d17, .int x_1, .int d19])), (mo, .inr (1, [.ref lk, .int j0, .int j1, .int j2]))]) [0, 1] rfl) 0 rfl rfl) rfl rfl hl.1 rfl (lv_room (Nat.le_of_ble_eq_true rfl)) dX6_addStepsFrom_38 ⟨Nat.le_of_ble_eq_true rfl, Nat.le_of_ble_eq_true rfl⟩)) (fun r_4 hr_4 => ?_)
    refine lv_istore_n (lv' := [(2, .int r_4), (0, .ref wk), (1, .int (nI pat))]) hx hb dX6_addStepsFrom_41 rfl hl (by decide) rfl (fun ls hl => ?_)
    refine lv_iconst (v := 0) hx hb dX6_addStepsFrom_42 (by decide) ?_
    refine lv_istore_n (lv' := [(3, .int 0), (2, .int r_4), (0, .ref wk), (1, .int (nI pat))]) hx hb dX6_addStepsFrom_43 rfl hl (by decide) rfl (fun ls hl => ?_)
    have L44 : ∀ (n44 : Nat), ∀ (k : Nat) (z tt : Nat) (d17 d18 : Int32) (fy fn fo fl fe ff fc : Nat → Int32) (yb : Int32), (0 ≤ k ∧ k ≤ 31) → (31 + 1 ≤ k + n44) → (z ≤ 1957) → (tt ≤ 25857) → ∀ (H : Heap) (locs : List Loc), va_P (dC, dI) vwCl [(wk, .inr (4, [.ref mo, .ref wy, .ref nw, .ref ol, .ref lt, .ref es, .ref sf, .ref sl, .ref so, .ref la, .ref li, .ref ru, .int (nI n), .int sc, .int (nI z), .int (nI tt), .int (nI qn), .int d17, .int d18, .int d19])), (mo, .inr (1, [.ref lk, .int j0, .int j1, .int j2])), (wy, .inl (cyI, 1957, .inl fy)), (nw, .inl (cyI, 1024, .inl fn)), (ol, .inl (cyI, 1957, .inl fo)), (lt, .inl (cyI, 1957, .inl fl)), (es, .inl (cyI, 25857, .inl fe)), (sf, .inl (cyI, 25857, .inl ff)), (sl, .inl (cyI, 1957, .inl fc))] H → va_D A [(wk, .inr (4, [.ref mo, .ref wy, .ref nw, .ref ol, .ref lt, .ref es, .ref sf, .ref sl, .ref so, .ref la, .ref li, .ref ru, .int (nI n), .int sc, .int (nI z), .int (nI tt), .int (nI qn), .int d17, .int d18, .int d19])), (mo, .inr (1, [.ref lk, .int j0, .int j1, .int j2])), (wy, .inl (cyI, 1957, .inl fy)), (nw, .inl (cyI, 1024, .inl fn)), (ol, .inl (cyI, 1957, .inl fo)), (lt, .inl (cyI, 1957, .inl fl)), (es, .inl (cyI, 25857, .inl fe)), (sf, .inl (cyI, 25857, .inl ff)), (sl, .inl (cyI, 1957, .inl fc))] → va_S A s.heap H locs → ∀ (ls : Array Slot), lv_has ls 4 [(0, .ref wk), (1, .int (nI pat)), (2, .int yb), (3, .int (nI k))] → W p l e (headSpec wsX6_addStepsFrom ({ frames := 3, cells := 0, slots := 0, locals := 68 })).room s m ([.ref wk, .int (nI pat)] : List Value).toArray below meth c H locs 0 0 (MQ below (va_Qv (S := Nat × Nat × Int32 × Int32 × (Nat → Int32) × (Nat → Int32) × (Nat → Int32) × (Nat → Int32) × (Nat → Int32) × (Nat → Int32) × (Nat → Int32)) (fun q : Nat × Nat × Int32 × Int32 × (Nat → Int32) × (Nat → Int32) × (Nat → Int32) × (Nat → Int32) × (Nat → Int32) × (Nat → Int32) × (Nat → Int32) => q.1 ≤ 1957 ∧ q.2.1 ≤ 25857) (fun q t => bs_E dC dI A [(wk, .inr (4, [.ref mo, .ref wy, .ref nw, .ref ol, .ref lt, .ref es, .ref sf, .ref sl, .ref so, .ref la, .ref li, .ref ru, .int (nI n), .int sc, .int (nI q.1), .int (nI q.2.1), .int (nI qn), .int q.2.2.1, .int q.2.2.2.1, .int d19])), (mo, .inr (1, [.ref lk, .int j0, .int j1, .int j2])), (wy, .inl (cyI, 1957, .inl q.2.2.2.2.1)), (nw, .inl (cyI, 1024, .inl q.2.2.2.2.2.1)), (ol, .inl (cyI, 1957, .inl q.2.2.2.2.2.2.1)), (lt, .inl (cyI, 1957, .inl q.2.2.2.2.2.2.2.1)), (es, .inl (cyI, 25857, .inl q.2.2.2.2.2.2.2.2.1)), (sf, .inl (cyI, 25857, .inl q.2.2.2.2.2.2.2.2.2.1)), (sl, .inl (cyI, 1957, .inl q.2.2.2.2.2.2.2.2.2.2))] t) A) ([.ref wk, .int (nI pat)] : List Value).toArray s 0 0 A) (F0 m 44 ls []) := by
      intro n44
      induction n44 with
      | zero =>
        intro k z tt d17 d18 fy fn fo fl fe ff fc yb hk44 hn44 hz htt H locs hP hD hS ls hl
        exfalso
        omega
      | succ n44 ih44 =>
        intro k z tt d17 d18 fy fn fo fl fe ff fc yb hk44 hn44 hz htt H locs hP hD hS ls hl
        refine lv_iload_n hx hb dX6_addStepsFrom_44 rfl (lv_at hl 3 rfl) ?_
        refine lv_bipush (v := 31) hx hb dX6_addStepsFrom_45 (by decide) ?_
        refine lv_icmp_ge (tgt := 93) hx hb dX6_addStepsFrom_47 (by decide) (fun c_5 => ?_) (fun c_5 => ?_)
        · skip
          have ic_5 := ci_le (show Int32.toInt 31 = 31 by decide) (nI_toInt (n := k) (by omega)) c_5
          exact W.vret hx hb hr (fun t ht hW => ⟨⟨(z, tt, d17, d18, fy, fn, fo, fl, fe, ff, fc), rfl, ⟨hz, htt⟩, ⟨by rw [ht]; exact hP.sub (ws' := [(wk, .inr (4, [.ref mo, .ref wy, .ref nw, .ref ol, .ref lt, .ref es, .ref sf, .ref sl, .ref so, .ref la, .ref li, .ref ru, .int (nI n), .int sc, .int (nI z), .int (nI tt), .int (nI qn), .int d17, .int d18, .int d19])), (mo, .inr (1, [.ref lk, .int j0, .int j1, .int j2])), (wy, .inl (cyI, 1957, .inl fy)), (nw, .inl (cyI, 1024, .inl fn)), (ol, .inl (cyI, 1957, .inl fo)), (lt, .inl (cyI, 1957, .inl fl)), (es, .inl (cyI, 25857, .inl fe)), (sf, .inl (cyI, 25857, .inl ff)), (sl, .inl (cyI, 1957, .inl fc))]) [0, 1, 2, 3, 4, 5, 6, 7, 8] rfl, hD.sub (ws' := [(wk, .inr (4, [.ref mo, .ref wy, .ref nw, .ref ol, .ref lt, .ref es, .ref sf, .ref sl, .ref so, .ref la, .ref li, .ref ru, .int (nI n), .int sc, .int (nI z), .int (nI tt), .int (nI qn), .int d17, .int d18, .int d19])), (mo, .inr (1, [.ref lk, .int j0, .int j1, .int j2])), (wy, .inl (cyI, 1957, .inl fy)), (nw, .inl (cyI, 1024, .inl fn)), (ol, .inl (cyI, 1957, .inl fo)), (lt, .inl (cyI, 1957, .inl fl)), (es, .inl (cyI, 25857, .inl fe)), (sf, .inl (cyI, 25857, .inl ff)), (sl, .inl (cyI, 1957, .inl fc))]) [0, 1, 2, 3, 4, 5, 6, 7, 8] (by decide) rfl⟩⟩, hS.F ht⟩) hS.2.2 dX6_addStepsFrom_93
        · skip
          have ic_5 := ci_nle (show Int32.toInt 31 = 31 by decide) (nI_toInt (n := k) (by omega)) c_5
          refine lv_iload_n hx hb dX6_addStepsFrom_50 rfl (lv_at hl 2 rfl) ?_
          refine lv_if_eq (tgt := 93) hx hb dX6_addStepsFrom_51 (by decide) (fun c_6 => ?_) (fun c_6 => ?_)
          · skip
            have ic_6 := ci_eq (rfl : Int32.toInt yb = _) (show Int32.toInt 0 = 0 by decide) c_6
            exact W.vret hx hb hr (fun t ht hW => ⟨⟨(z, tt, d17, d18, fy, fn, fo, fl, fe, ff, fc), rfl, ⟨hz, htt⟩, ⟨by rw [ht]; exact hP.sub (ws' := [(wk, .inr (4, [.ref mo, .ref wy, .ref nw, .ref ol, .ref lt, .ref es, .ref sf, .ref sl, .ref so, .ref la, .ref li, .ref ru, .int (nI n), .int sc, .int (nI z), .int (nI tt), .int (nI qn), .int d17, .int d18, .int d19])), (mo, .inr (1, [.ref lk, .int j0, .int j1, .int j2])), (wy, .inl (cyI, 1957, .inl fy)), (nw, .inl (cyI, 1024, .inl fn)), (ol, .inl (cyI, 1957, .inl fo)), (lt, .inl (cyI, 1957, .inl fl)), (es, .inl (cyI, 25857, .inl fe)), (sf, .inl (cyI, 25857, .inl ff)), (sl, .inl (cyI, 1957, .inl fc))]) [0, 1, 2, 3, 4, 5, 6, 7, 8] rfl, hD.sub (ws' := [(wk, .inr (4, [.ref mo, .ref wy, .ref nw, .ref ol, .ref lt, .ref es, .ref sf, .ref sl, .ref so, .ref la, .ref li, .ref ru, .int (nI n), .int sc, .int (nI z), .int (nI tt), .int (nI qn), .int d17, .int d18, .int d19])), (mo, .inr (1, [.ref lk, .int j0, .int j1, .int j2])), (wy, .inl (cyI, 1957, .inl fy)), (nw, .inl (cyI, 1024, .inl fn)), (ol, .inl (cyI, 1957, .inl fo)), (lt, .inl (cyI, 1957, .inl fl)), (es, .inl (cyI, 25857, .inl fe)), (sf, .inl (cyI, 25857, .inl ff)), (sl, .inl (cyI, 1957, .inl fc))]) [0, 1, 2, 3, 4, 5, 6, 7, 8] (by decide) rfl⟩⟩, hS.F ht⟩) hS.2.2 dX6_addStepsFrom_93
          · skip
            have ic_6 := ci_ne (rfl : Int32.toInt yb = _) (show Int32.toInt 0 = 0 by decide) c_6
            refine lv_aload_n hx hb dX6_addStepsFrom_54 rfl (lv_at hl 0 rfl) ?_
            refine lv_iload_n hx hb dX6_addStepsFrom_55 rfl (lv_at hl 1 rfl) ?_
            refine lv_aload_n hx hb dX6_addStepsFrom_56 rfl (lv_at hl 0 rfl) ?_
            refine lv_aload_n hx hb dX6_addStepsFrom_57 rfl (lv_at hl 0 rfl) ?_
            refine va_get (D := (dC, dI)) (ci := 4) (v := .ref mo) (C := RX6) (T := TX6) (N := 20) hx hb hts hnX6_addStepsFrom_X6 hown hK hP 0 rfl rfl 0 (by decide) (hts (.fieldLink RX6 12 "RingMeets$Walks" "moves" "LRingMeets$Moves;") (by decide +kernel)) (fun _ h9 => h9) rfl dX6_addStepsFrom_58 ?_
            refine lv_aload_n hx hb dX6_addStepsFrom_61 rfl (lv_at hl 0 rfl) ?_
            refine va_get (D := (dC, dI)) (ci := 4) (v := .int (nI n)) (C := RX6) (T := TX6) (N := 20) hx hb hts hnX6_addStepsFrom_X6 hown hK hP 0 rfl rfl 12 (by decide) (hts (.fieldLink RX6 53 "RingMeets$Walks" "cells" "I") (by decide +kernel)) (fun _ h9 => h9) rfl dX6_addStepsFrom_62 ?_
            refine lv_aload_n hx hb dX6_addStepsFrom_65 rfl (lv_at hl 0 rfl) ?_
            refine va_get (D := (dC, dI)) (ci := 4) (v := .ref wy) (C := RX6) (T := TX6) (N := 20) hx hb hts hnX6_addStepsFrom_X6 hown hK hP 0 rfl rfl 1 (by decide) (hts (.fieldLink RX6 18 "RingMeets$Walks" "ways" "[I") (by decide +kernel)) (fun _ h9 => h9) rfl dX6_addStepsFrom_66 ?_
            refine lv_iload_n hx hb dX6_addStepsFrom_69 rfl (lv_at hl 1 rfl) ?_
            refine va_iald (D := (dC, dI)) hx hb hK hP 2 0 rfl rfl (vp_in_nI (n := pat) (N := 1957) (by omega) (by omega)) dX6_addStepsFrom_70 ?_
            refine lv_topi (fun x_7 ex_7 => ?_)
            rw [nI_clamp (n := pat) (by omega)] at ex_7
            refine lv_iload_n hx hb dX6_addStepsFrom_71 rfl (lv_at hl 2 rfl) ?_
            refine vp_callSi (va_Run.run (va_runV (As := [.int (nI n), .int x_7, .int yb]) (rest := [.ref wk, .int (nI pat), .ref wk]) ⟨hx, hb, hml, hown, hts⟩ (mX2_wayBehind l dC dI cyI cyZ mo lk j0 j1 j2 (nI n) x_7 yb ) (cwV 3 hts gX6_addStepsFrom_X2_wayBehind rfl rfl rfl (by decide +kernel) ⟨Nat.le_of_ble_eq_true rfl, Nat.le_of_ble_eq_true rfl⟩) (bs_RV hB (hP.sub (ws' := [(mo, .inr (1, [.ref lk, .int j0, .int j1, .int j2]))]) [1] rfl) 0 rfl rfl) rfl rfl hl.1 rfl (lv_room (Nat.le_of_ble_eq_true rfl)) dX6_addStepsFrom_72 ⟨Nat.le_of_ble_eq_true rfl, Nat.le_of_ble_eq_true rfl⟩)) (fun r_8 hr_8 => ?_)
            have f_9 := va_free (wc := [(wk, .inr (4, [.ref mo, .ref wy, .ref nw, .ref ol, .ref lt, .ref es, .ref sf, .ref sl, .ref so, .ref la, .ref li, .ref ru, .int (nI n), .int sc, .int (nI z), .int (nI tt), .int (nI qn), .int d17, .int d18, .int d19])), (wy, .inl (cyI, 1957, .inl fy)), (nw, .inl (cyI, 1024, .inl fn)), (ol, .inl (cyI, 1957, .inl fo)), (lt, .inl (cyI, 1957, .inl fl)), (sl, .inl (cyI, 1957, .inl fc))]) hD hS hA [0, 2, 3, 4, 5, 8] rfl
            refine va_calli (va_runV (As := [.int r_8]) (rest := [.int (nI pat), .ref wk]) ⟨hx, hb, hml, hown, hts⟩ (mX6_add l dC dI cyI cyZ wk mo wy nw ol lt es sf sl so la li ru n z tt qn sc d17 d18 d19 fy fn fo fl fc r_8 (by omega) (by omega) (by omega) (by omega) _) (cwV 1 hts gX6_addStepsFrom_X6_add rfl rfl rfl (by decide +kernel) ⟨Nat.le_of_ble_eq_true rfl, Nat.le_of_ble_eq_true rfl⟩) (bs_WV hB (hP.sub (ws' := [(wk, .inr (4, [.ref mo, .ref wy, .ref nw, .ref ol, .ref lt, .ref es, .ref sf, .ref sl, .ref so, .ref la, .ref li, .ref ru, .int (nI n), .int sc, .int (nI z), .int (nI tt), .int (nI qn), .int d17, .int d18, .int d19])), (wy, .inl (cyI, 1957, .inl fy)), (nw, .inl (cyI, 1024, .inl fn)), (ol, .inl (cyI, 1957, .inl fo)), (lt, .inl (cyI, 1957, .inl fl)), (sl, .inl (cyI, 1957, .inl fc))]) [0, 2, 3, 4, 5, 8] rfl) (hD.sub (ws' := [(wk, .inr (4, [.ref mo, .ref wy, .ref nw, .ref ol, .ref lt, .ref es, .ref sf, .ref sl, .ref so, .ref la, .ref li, .ref ru, .int (nI n), .int sc, .int (nI z), .int (nI tt), .int (nI qn), .int d17, .int d18, .int d19])), (wy, .inl (cyI, 1957, .inl fy)), (nw, .inl (cyI, 1024, .inl fn)), (ol, .inl (cyI, 1957, .inl fo)), (lt, .inl (cyI, 1957, .inl fl)), (sl, .inl (cyI, 1957, .inl fc))]) [0, 2, 3, 4, 5, 8] (by decide) rfl) 0 rfl rfl) rfl rfl hl.1 rfl (lv_room (Nat.le_of_ble_eq_true rfl)) dX6_addStepsFrom_75 ⟨Nat.le_of_ble_eq_true rfl, Nat.le_of_ble_eq_true rfl⟩) hS (fun q _ h => f_9 q h) f_9 (fun rh_10 uh_10 t H1 locs ht hvm h_10 hB1 hz1 hk1 hS => ?_)
            obtain ⟨v_11, g_12, g_13, g_14, g_15, g_16⟩ := uh_10
            obtain ⟨hP1, hD1⟩ := hB1
            rw [ht] at hP1
            obtain ⟨hP, hD⟩ := va_join (wr := [(mo, .inr (1, [.ref lk, .int j0, .int j1, .int j2])), (es, .inl (cyI, 25857, .inl fe)), (sf, .inl (cyI, 25857, .inl ff))]) (w1 := [(wk, .inr (4, [.ref mo, .ref wy, .ref nw, .ref ol, .ref lt, .ref es, .ref sf, .ref sl, .ref so, .ref la, .ref li, .ref ru, .int (nI n), .int sc, .int (nI v_11), .int (nI tt), .int (nI qn), .int d17, .int d18, .int d19])), (wy, .inl (cyI, 1957, .inl g_12)), (nw, .inl (cyI, 1024, .inl g_13)), (ol, .inl (cyI, 1957, .inl g_14)), (lt, .inl (cyI, 1957, .inl g_15)), (sl, .inl (cyI, 1957, .inl g_16))]) hP hD [0, 2, 3, 4, 5, 8] [1, 6, 7] rfl rfl (by decide) (by decide) hk1 f_9 hP1 hD1
            generalize H1 = H at hP hS ⊢
            have hP : va_P (dC, dI) vwCl [(mo, .inr (1, [.ref lk, .int j0, .int j1, .int j2])), (es, .inl (cyI, 25857, .inl fe)), (sf, .inl (cyI, 25857, .inl ff)), (wk, .inr (4, [.ref mo, .ref wy, .ref nw, .ref ol, .ref lt, .ref es, .ref sf, .ref sl, .ref so, .ref la, .ref li, .ref ru, .int (nI n), .int sc, .int (nI v_11), .int (nI tt), .int (nI qn), .int d17, .int d18, .int d19])), (wy, .inl (cyI, 1957, .inl g_12)), (nw, .inl (cyI, 1024, .inl g_13)), (ol, .inl (cyI, 1957, .inl g_14)), (lt, .inl (cyI, 1957, .inl g_15)), (sl, .inl (cyI, 1957, .inl g_16))] _ := hP
            have hD : va_D A [(mo, .inr (1, [.ref lk, .int j0, .int j1, .int j2])), (es, .inl (cyI, 25857, .inl fe)), (sf, .inl (cyI, 25857, .inl ff)), (wk, .inr (4, [.ref mo, .ref wy, .ref nw, .ref ol, .ref lt, .ref es, .ref sf, .ref sl, .ref so, .ref la, .ref li, .ref ru, .int (nI n), .int sc, .int (nI v_11), .int (nI tt), .int (nI qn), .int d17, .int d18, .int d19])), (wy, .inl (cyI, 1957, .inl g_12)), (nw, .inl (cyI, 1024, .inl g_13)), (ol, .inl (cyI, 1957, .inl g_14)), (lt, .inl (cyI, 1957, .inl g_15)), (sl, .inl (cyI, 1957, .inl g_16))] := hD
            have f_17 := va_free (wc := [(wk, .inr (4, [.ref mo, .ref wy, .ref nw, .ref ol, .ref lt, .ref es, .ref sf, .ref sl, .ref so, .ref la, .ref li, .ref ru, .int (nI n), .int sc, .int (nI v_11), .int (nI tt), .int (nI qn), .int d17, .int d18, .int d19])), (lt, .inl (cyI, 1957, .inl g_15)), (es, .inl (cyI, 25857, .inl fe)), (sf, .inl (cyI, 25857, .inl ff)), (sl, .inl (cyI, 1957, .inl g_16))]) hD hS hA [3, 7, 1, 2, 8] rfl
            refine va_callv (va_runV (As := [.int (nI pat), .int rh_10]) (rest := []) ⟨hx, hb, hml, hown, hts⟩ (mX6_addStep l dC dI cyI cyZ wk mo wy nw ol lt es sf sl so la li ru n v_11 tt qn sc d17 d18 d19 g_15 fe ff g_16 (nI pat) rh_10 (by omega) (by omega) (by omega) (by omega) _) (cwV 2 hts gX6_addStepsFrom_X6_addStep rfl rfl rfl (by decide +kernel) ⟨Nat.le_of_ble_eq_true rfl, Nat.le_of_ble_eq_true rfl⟩) (bs_WV hB (hP.sub (ws' := [(wk, .inr (4, [.ref mo, .ref wy, .ref nw, .ref ol, .ref lt, .ref es, .ref sf, .ref sl, .ref so, .ref la, .ref li, .ref ru, .int (nI n), .int sc, .int (nI v_11), .int (nI tt), .int (nI qn), .int d17, .int d18, .int d19])), (lt, .inl (cyI, 1957, .inl g_15)), (es, .inl (cyI, 25857, .inl fe)), (sf, .inl (cyI, 25857, .inl ff)), (sl, .inl (cyI, 1957, .inl g_16))]) [3, 7, 1, 2, 8] rfl) (hD.sub (ws' := [(wk, .inr (4, [.ref mo, .ref wy, .ref nw, .ref ol, .ref lt, .ref es, .ref sf, .ref sl, .ref so, .ref la, .ref li, .ref ru, .int (nI n), .int sc, .int (nI v_11), .int (nI tt), .int (nI qn), .int d17, .int d18, .int d19])), (lt, .inl (cyI, 1957, .inl g_15)), (es, .inl (cyI, 25857, .inl fe)), (sf, .inl (cyI, 25857, .inl ff)), (sl, .inl (cyI, 1957, .inl g_16))]) [3, 7, 1, 2, 8] (by decide) rfl) 0 rfl rfl) rfl rfl hl.1 rfl (lv_room (Nat.le_of_ble_eq_true rfl)) dX6_addStepsFrom_78 ⟨Nat.le_of_ble_eq_true rfl, Nat.le_of_ble_eq_true rfl⟩) hS (fun q _ h => f_17 q h) f_17 (fun uh_18 t H1 locs ht hvm h_18 hB1 hz1 hk1 hS => ?_)
            obtain ⟨v_19, g_20, g_21, g_22, g_23⟩ := uh_18
            have h_18 : v_19 ≤ 25857 := h_18
            obtain ⟨hP1, hD1⟩ := hB1
            rw [ht] at hP1
            obtain ⟨hP, hD⟩ := va_join (wr := [(mo, .inr (1, [.ref lk, .int j0, .int j1, .int j2])), (wy, .inl (cyI, 1957, .inl g_12)), (nw, .inl (cyI, 1024, .inl g_13)), (ol, .inl (cyI, 1957, .inl g_14))]) (w1 := [(wk, .inr (4, [.ref mo, .ref wy, .ref nw, .ref ol, .ref lt, .ref es, .ref sf, .ref sl, .ref so, .ref la, .ref li, .ref ru, .int (nI n), .int sc, .int (nI v_11), .int (nI v_19), .int (nI qn), .int d17, .int d18, .int d19])), (lt, .inl (cyI, 1957, .inl g_20)), (es, .inl (cyI, 25857, .inl g_21)), (sf, .inl (cyI, 25857, .inl g_22)), (sl, .inl (cyI, 1957, .inl g_23))]) hP hD [3, 7, 1, 2, 8] [0, 4, 5, 6] rfl rfl (by decide) (by decide) hk1 f_17 hP1 hD1
            generalize H1 = H at hP hS ⊢
            have hP : va_P (dC, dI) vwCl [(mo, .inr (1, [.ref lk, .int j0, .int j1, .int j2])), (wy, .inl (cyI, 1957, .inl g_12)), (nw, .inl (cyI, 1024, .inl g_13)), (ol, .inl (cyI, 1957, .inl g_14)), (wk, .inr (4, [.ref mo, .ref wy, .ref nw, .ref ol, .ref lt, .ref es, .ref sf, .ref sl, .ref so, .ref la, .ref li, .ref ru, .int (nI n), .int sc, .int (nI v_11), .int (nI v_19), .int (nI qn), .int d17, .int d18, .int d19])), (lt, .inl (cyI, 1957, .inl g_20)), (es, .inl (cyI, 25857, .inl g_21)), (sf, .inl (cyI, 25857, .inl g_22)), (sl, .inl (cyI, 1957, .inl g_23))] _ := hP
            have hD : va_D A [(mo, .inr (1, [.ref lk, .int j0, .int j1, .int j2])), (wy, .inl (cyI, 1957, .inl g_12)), (nw, .inl (cyI, 1024, .inl g_13)), (ol, .inl (cyI, 1957, .inl g_14)), (wk, .inr (4, [.ref mo, .ref wy, .ref nw, .ref ol, .ref lt, .ref es, .ref sf, .ref sl, .ref so, .ref la, .ref li, .ref ru, .int (nI n), .int sc, .int (nI v_11), .int (nI v_19), .int (nI qn), .int d17, .int d18, .int d19])), (lt, .inl (cyI, 1957, .inl g_20)), (es, .inl (cyI, 25857, .inl g_21)), (sf, .inl (cyI, 25857, .inl g_22)), (sl, .inl (cyI, 1957, .inl g_23))] := hD
            refine lv_aload_n hx hb dX6_addStepsFrom_81 rfl (lv_at hl 0 rfl) ?_
            refine lv_iload_n hx hb dX6_addStepsFrom_82 rfl (lv_at hl 2 rfl) ?_
            refine vp_callSi (va_Run.run (va_runV (As := [.int yb]) (rest := []) ⟨hx, hb, hml, hown, hts⟩ (mX6_setAfter l dC dI cyI cyZ wk mo wy nw ol lt es sf sl so la li ru n v_11 v_19 qn sc d17 d18 d19 lk j0 j1 j2 yb ) (cwV 1 hts gX6_addStepsFrom_X6_setAfter rfl rfl rfl (by decide +kernel) ⟨Nat.le_of_ble_eq_true rfl, Nat.le_of_ble_eq_true rfl⟩) (bs_RV hB (hP.sub (ws' := [(wk, .inr (4, [.ref mo, .ref wy, .ref nw, .ref ol, .ref lt, .ref es, .ref sf, .ref sl, .ref so, .ref la, .ref li, .ref ru, .int (nI n), .int sc, .int (nI v_11), .int (nI v_19), .int (nI qn), .int d17, .int d18, .int d19])), (mo, .inr (1, [.ref lk, .int j0, .int j1, .int j2]))]) [4, 0] rfl) 0 rfl rfl) rfl rfl hl.1 rfl (lv_room (Nat.le_of_ble_eq_true rfl)) dX6_addStepsFrom_83 ⟨Nat.le_of_ble_eq_true rfl, Nat.le_of_ble_eq_true rfl⟩)) (fun r_24 hr_24 => ?_)
            refine lv_istore_n (lv' := [(2, .int r_24), (0, .ref wk), (1, .int (nI pat)), (3, .int (nI k))]) hx hb dX6_addStepsFrom_86 rfl hl (by decide) rfl (fun ls hl => ?_)
            refine lv_iinc (v := (nI (k + 1))) (lv' := [(3, .int (nI (k + 1))), (2, .int r_24), (0, .ref wk), (1, .int (nI pat))]) hx hb dX6_addStepsFrom_87 hl (k := 3) rfl (nI_1 _) (by decide) rfl (fun ls hl => ?_)
            refine lv_goto (tgt := 44) hx hb dX6_addStepsFrom_90 (by decide) ?_
            exact ih44 (k + 1) v_11 v_19 d17 d18 g_12 g_13 g_14 g_20 g_21 g_22 g_23 r_24 ⟨by omega, by omega⟩ (by omega) (by omega) (by omega) _ _ (hP.sub [4, 0, 1, 2, 3, 5, 6, 7, 8] rfl) (hD.sub [4, 0, 1, 2, 3, 5, 6, 7, 8] (by decide) rfl) hS _ (lv_sub hl [2, 3, 1, 0] rfl)
    exact L44 (31 + 1) 0 z tt d17 x_1 fy fn fo fl fe ff fc r_4 ⟨by omega, by omega⟩ (by omega) hz htt _ _ (hP.sub [0, 1, 2, 3, 4, 5, 6, 7, 8] rfl) (hD.sub [0, 1, 2, 3, 4, 5, 6, 7, 8] (by decide) rfl) hS _ (lv_sub hl [2, 3, 1, 0] rfl)
  · skip
    have ic_3 := ci_eq (rfl : Int32.toInt r_2 = _) (show Int32.toInt 0 = 0 by decide) c_3
    refine lv_aload_n hx hb dX6_addStepsFrom_26 rfl (lv_at hl 0 rfl) ?_
    refine lv_dup hx hb dX6_addStepsFrom_27 rfl ?_
    refine va_get (D := (dC, dI)) (ci := 4) (v := .int d17) (C := RX6) (T := TX6) (N := 20) hx hb hts hnX6_addStepsFrom_X6 hown hK hP 0 rfl rfl 17 (by decide) (hts (.fieldLink RX6 70 "RingMeets$Walks" "stuck" "I") (by decide +kernel)) (fun _ h9 => h9) rfl dX6_addStepsFrom_28 ?_
    refine lv_iconst (v := 1) hx hb dX6_addStepsFrom_31 (by decide) ?_
    refine lv_iadd hx hb dX6_addStepsFrom_32 ?_
    refine lv_topi (fun x_25 ex_25 => ?_)
    refine va_put (D := (dC, dI)) (ci := 4) (v := .int x_25) (ty := .int) (C := RX6) (T := TX6) (N := 20) hx hb hts hnX6_addStepsFrom_X6 tyX6 tyX6_ok nmX6 hown hK hP hD hS 0 rfl rfl 17 (by decide) (hts (.fieldLink RX6 70 "RingMeets$Walks" "stuck" "I") (by decide +kernel)) (fun _ h9 => h9) rfl (by decide +kernel) rfl rfl (Nat.le_of_ble_eq_true rfl) dX6_addStepsFrom_33 (fun H locs hP hD hS => ?_)
    have hP : va_P (dC, dI) vwCl [(wk, .inr (4, [.ref mo, .ref wy, .ref nw, .ref ol, .ref lt, .ref es, .ref sf, .ref sl, .ref so, .ref la, .ref li, .ref ru, .int (nI n), .int sc, .int (nI z), .int (nI tt), .int (nI qn), .int x_25, .int x_1, .int d19])), (mo, .inr (1, [.ref lk, .int j0, .int j1, .int j2])), (wy, .inl (cyI, 1957, .inl fy)), (nw, .inl (cyI, 1024, .inl fn)), (ol, .inl (cyI, 1957, .inl fo)), (lt, .inl (cyI, 1957, .inl fl)), (es, .inl (cyI, 25857, .inl fe)), (sf, .inl (cyI, 25857, .inl ff)), (sl, .inl (cyI, 1957, .inl fc))] _ := hP
    have hD : va_D A [(wk, .inr (4, [.ref mo, .ref wy, .ref nw, .ref ol, .ref lt, .ref es, .ref sf, .ref sl, .ref so, .ref la, .ref li, .ref ru, .int (nI n), .int sc, .int (nI z), .int (nI tt), .int (nI qn), .int x_25, .int x_1, .int d19])), (mo, .inr (1, [.ref lk, .int j0, .int j1, .int j2])), (wy, .inl (cyI, 1957, .inl fy)), (nw, .inl (cyI, 1024, .inl fn)), (ol, .inl (cyI, 1957, .inl fo)), (lt, .inl (cyI, 1957, .inl fl)), (es, .inl (cyI, 25857, .inl fe)), (sf, .inl (cyI, 25857, .inl ff)), (sl, .inl (cyI, 1957, .inl fc))] := hD
    refine lv_aload_n hx hb dX6_addStepsFrom_36 rfl (lv_at hl 0 rfl) ?_
    refine lv_iconst (v := 0) hx hb dX6_addStepsFrom_37 (by decide) ?_
    refine vp_callSi (va_Run.run (va_runV (As := [.int 0]) (rest := []) ⟨hx, hb, hml, hown, hts⟩ (mX6_setAfter l dC dI cyI cyZ wk mo wy nw ol lt es sf sl so la li ru n z tt qn sc x_25 x_1 d19 lk j0 j1 j2 0 ) (cwV 1 hts gX6_addStepsFrom_X6_setAfter rfl rfl rfl (by decide +kernel) ⟨Nat.le_of_ble_eq_true rfl, Nat.le_of_ble_eq_true rfl⟩) (bs_RV hB (hP.sub (ws' := [(wk, .inr (4, [.ref mo, .ref wy, .ref nw, .ref ol, .ref lt, .ref es, .ref sf, .ref sl, .ref so, .ref la, .ref li, .ref ru, .int (nI n), .int sc, .int (nI z), .int (nI tt), .int (nI qn), .int x_25, .int x_1, .int d19])), (mo, .inr (1, [.ref lk, .int j0, .int j1, .int j2]))]) [0, 1] rfl) 0 rfl rfl) rfl rfl hl.1 rfl (lv_room (Nat.le_of_ble_eq_true rfl)) dX6_addStepsFrom_38 ⟨Nat.le_of_ble_eq_true rfl, Nat.le_of_ble_eq_true rfl⟩)) (fun r_26 hr_26 => ?_)
    refine lv_istore_n (lv' := [(2, .int r_26), (0, .ref wk), (1, .int (nI pat))]) hx hb dX6_addStepsFrom_41 rfl hl (by decide) rfl (fun ls hl => ?_)
    refine lv_iconst (v := 0) hx hb dX6_addStepsFrom_42 (by decide) ?_
    refine lv_istore_n (lv' := [(3, .int 0), (2, .int r_26), (0, .ref wk), (1, .int (nI pat))]) hx hb dX6_addStepsFrom_43 rfl hl (by decide) rfl (fun ls hl => ?_)
    have L44 : ∀ (n44 : Nat), ∀ (k : Nat) (z tt : Nat) (d17 d18 : Int32) (fy fn fo fl fe ff fc : Nat → Int32) (yb : Int32), (0 ≤ k ∧ k ≤ 31) → (31 + 1 ≤ k + n44) → (z ≤ 1957) → (tt ≤ 25857) → ∀ (H : Heap) (locs : List Loc), va_P (dC, dI) vwCl [(wk, .inr (4, [.ref mo, .ref wy, .ref nw, .ref ol, .ref lt, .ref es, .ref sf, .ref sl, .ref so, .ref la, .ref li, .ref ru, .int (nI n), .int sc, .int (nI z), .int (nI tt), .int (nI qn), .int d17, .int d18, .int d19])), (mo, .inr (1, [.ref lk, .int j0, .int j1, .int j2])), (wy, .inl (cyI, 1957, .inl fy)), (nw, .inl (cyI, 1024, .inl fn)), (ol, .inl (cyI, 1957, .inl fo)), (lt, .inl (cyI, 1957, .inl fl)), (es, .inl (cyI, 25857, .inl fe)), (sf, .inl (cyI, 25857, .inl ff)), (sl, .inl (cyI, 1957, .inl fc))] H → va_D A [(wk, .inr (4, [.ref mo, .ref wy, .ref nw, .ref ol, .ref lt, .ref es, .ref sf, .ref sl, .ref so, .ref la, .ref li, .ref ru, .int (nI n), .int sc, .int (nI z), .int (nI tt), .int (nI qn), .int d17, .int d18, .int d19])), (mo, .inr (1, [.ref lk, .int j0, .int j1, .int j2])), (wy, .inl (cyI, 1957, .inl fy)), (nw, .inl (cyI, 1024, .inl fn)), (ol, .inl (cyI, 1957, .inl fo)), (lt, .inl (cyI, 1957, .inl fl)), (es, .inl (cyI, 25857, .inl fe)), (sf, .inl (cyI, 25857, .inl ff)), (sl, .inl (cyI, 1957, .inl fc))] → va_S A s.heap H locs → ∀ (ls : Array Slot), lv_has ls 4 [(0, .ref wk), (1, .int (nI pat)), (2, .int yb), (3, .int (nI k))] → W p l e (headSpec wsX6_addStepsFrom ({ frames := 3, cells := 0, slots := 0, locals := 68 })).room s m ([.ref wk, .int (nI pat)] : List Value).toArray below meth c H locs 0 0 (MQ below (va_Qv (S := Nat × Nat × Int32 × Int32 × (Nat → Int32) × (Nat → Int32) × (Nat → Int32) × (Nat → Int32) × (Nat → Int32) × (Nat → Int32) × (Nat → Int32)) (fun q : Nat × Nat × Int32 × Int32 × (Nat → Int32) × (Nat → Int32) × (Nat → Int32) × (Nat → Int32) × (Nat → Int32) × (Nat → Int32) × (Nat → Int32) => q.1 ≤ 1957 ∧ q.2.1 ≤ 25857) (fun q t => bs_E dC dI A [(wk, .inr (4, [.ref mo, .ref wy, .ref nw, .ref ol, .ref lt, .ref es, .ref sf, .ref sl, .ref so, .ref la, .ref li, .ref ru, .int (nI n), .int sc, .int (nI q.1), .int (nI q.2.1), .int (nI qn), .int q.2.2.1, .int q.2.2.2.1, .int d19])), (mo, .inr (1, [.ref lk, .int j0, .int j1, .int j2])), (wy, .inl (cyI, 1957, .inl q.2.2.2.2.1)), (nw, .inl (cyI, 1024, .inl q.2.2.2.2.2.1)), (ol, .inl (cyI, 1957, .inl q.2.2.2.2.2.2.1)), (lt, .inl (cyI, 1957, .inl q.2.2.2.2.2.2.2.1)), (es, .inl (cyI, 25857, .inl q.2.2.2.2.2.2.2.2.1)), (sf, .inl (cyI, 25857, .inl q.2.2.2.2.2.2.2.2.2.1)), (sl, .inl (cyI, 1957, .inl q.2.2.2.2.2.2.2.2.2.2))] t) A) ([.ref wk, .int (nI pat)] : List Value).toArray s 0 0 A) (F0 m 44 ls []) := by
      intro n44
      induction n44 with
      | zero =>
        intro k z tt d17 d18 fy fn fo fl fe ff fc yb hk44 hn44 hz htt H locs hP hD hS ls hl
        exfalso
        omega
      | succ n44 ih44 =>
        intro k z tt d17 d18 fy fn fo fl fe ff fc yb hk44 hn44 hz htt H locs hP hD hS ls hl
        refine lv_iload_n hx hb dX6_addStepsFrom_44 rfl (lv_at hl 3 rfl) ?_
        refine lv_bipush (v := 31) hx hb dX6_addStepsFrom_45 (by decide) ?_
        refine lv_icmp_ge (tgt := 93) hx hb dX6_addStepsFrom_47 (by decide) (fun c_27 => ?_) (fun c_27 => ?_)
        · skip
          have ic_27 := ci_le (show Int32.toInt 31 = 31 by decide) (nI_toInt (n := k) (by omega)) c_27
          exact W.vret hx hb hr (fun t ht hW => ⟨⟨(z, tt, d17, d18, fy, fn, fo, fl, fe, ff, fc), rfl, ⟨hz, htt⟩, ⟨by rw [ht]; exact hP.sub (ws' := [(wk, .inr (4, [.ref mo, .ref wy, .ref nw, .ref ol, .ref lt, .ref es, .ref sf, .ref sl, .ref so, .ref la, .ref li, .ref ru, .int (nI n), .int sc, .int (nI z), .int (nI tt), .int (nI qn), .int d17, .int d18, .int d19])), (mo, .inr (1, [.ref lk, .int j0, .int j1, .int j2])), (wy, .inl (cyI, 1957, .inl fy)), (nw, .inl (cyI, 1024, .inl fn)), (ol, .inl (cyI, 1957, .inl fo)), (lt, .inl (cyI, 1957, .inl fl)), (es, .inl (cyI, 25857, .inl fe)), (sf, .inl (cyI, 25857, .inl ff)), (sl, .inl (cyI, 1957, .inl fc))]) [0, 1, 2, 3, 4, 5, 6, 7, 8] rfl, hD.sub (ws' := [(wk, .inr (4, [.ref mo, .ref wy, .ref nw, .ref ol, .ref lt, .ref es, .ref sf, .ref sl, .ref so, .ref la, .ref li, .ref ru, .int (nI n), .int sc, .int (nI z), .int (nI tt), .int (nI qn), .int d17, .int d18, .int d19])), (mo, .inr (1, [.ref lk, .int j0, .int j1, .int j2])), (wy, .inl (cyI, 1957, .inl fy)), (nw, .inl (cyI, 1024, .inl fn)), (ol, .inl (cyI, 1957, .inl fo)), (lt, .inl (cyI, 1957, .inl fl)), (es, .inl (cyI, 25857, .inl fe)), (sf, .inl (cyI, 25857, .inl ff)), (sl, .inl (cyI, 1957, .inl fc))]) [0, 1, 2, 3, 4, 5, 6, 7, 8] (by decide) rfl⟩⟩, hS.F ht⟩) hS.2.2 dX6_addStepsFrom_93
        · skip
          have ic_27 := ci_nle (show Int32.toInt 31 = 31 by decide) (nI_toInt (n := k) (by omega)) c_27
          refine lv_iload_n hx hb dX6_addStepsFrom_50 rfl (lv_at hl 2 rfl) ?_
          refine lv_if_eq (tgt := 93) hx hb dX6_addStepsFrom_51 (by decide) (fun c_28 => ?_) (fun c_28 => ?_)
          · skip
            have ic_28 := ci_eq (rfl : Int32.toInt yb = _) (show Int32.toInt 0 = 0 by decide) c_28
            exact W.vret hx hb hr (fun t ht hW => ⟨⟨(z, tt, d17, d18, fy, fn, fo, fl, fe, ff, fc), rfl, ⟨hz, htt⟩, ⟨by rw [ht]; exact hP.sub (ws' := [(wk, .inr (4, [.ref mo, .ref wy, .ref nw, .ref ol, .ref lt, .ref es, .ref sf, .ref sl, .ref so, .ref la, .ref li, .ref ru, .int (nI n), .int sc, .int (nI z), .int (nI tt), .int (nI qn), .int d17, .int d18, .int d19])), (mo, .inr (1, [.ref lk, .int j0, .int j1, .int j2])), (wy, .inl (cyI, 1957, .inl fy)), (nw, .inl (cyI, 1024, .inl fn)), (ol, .inl (cyI, 1957, .inl fo)), (lt, .inl (cyI, 1957, .inl fl)), (es, .inl (cyI, 25857, .inl fe)), (sf, .inl (cyI, 25857, .inl ff)), (sl, .inl (cyI, 1957, .inl fc))]) [0, 1, 2, 3, 4, 5, 6, 7, 8] rfl, hD.sub (ws' := [(wk, .inr (4, [.ref mo, .ref wy, .ref nw, .ref ol, .ref lt, .ref es, .ref sf, .ref sl, .ref so, .ref la, .ref li, .ref ru, .int (nI n), .int sc, .int (nI z), .int (nI tt), .int (nI qn), .int d17, .int d18, .int d19])), (mo, .inr (1, [.ref lk, .int j0, .int j1, .int j2])), (wy, .inl (cyI, 1957, .inl fy)), (nw, .inl (cyI, 1024, .inl fn)), (ol, .inl (cyI, 1957, .inl fo)), (lt, .inl (cyI, 1957, .inl fl)), (es, .inl (cyI, 25857, .inl fe)), (sf, .inl (cyI, 25857, .inl ff)), (sl, .inl (cyI, 1957, .inl fc))]) [0, 1, 2, 3, 4, 5, 6, 7, 8] (by decide) rfl⟩⟩, hS.F ht⟩) hS.2.2 dX6_addStepsFrom_93
          · skip
            have ic_28 := ci_ne (rfl : Int32.toInt yb = _) (show Int32.toInt 0 = 0 by decide) c_28
            refine lv_aload_n hx hb dX6_addStepsFrom_54 rfl (lv_at hl 0 rfl) ?_
            refine lv_iload_n hx hb dX6_addStepsFrom_55 rfl (lv_at hl 1 rfl) ?_
            refine lv_aload_n hx hb dX6_addStepsFrom_56 rfl (lv_at hl 0 rfl) ?_
            refine lv_aload_n hx hb dX6_addStepsFrom_57 rfl (lv_at hl 0 rfl) ?_
            refine va_get (D := (dC, dI)) (ci := 4) (v := .ref mo) (C := RX6) (T := TX6) (N := 20) hx hb hts hnX6_addStepsFrom_X6 hown hK hP 0 rfl rfl 0 (by decide) (hts (.fieldLink RX6 12 "RingMeets$Walks" "moves" "LRingMeets$Moves;") (by decide +kernel)) (fun _ h9 => h9) rfl dX6_addStepsFrom_58 ?_
            refine lv_aload_n hx hb dX6_addStepsFrom_61 rfl (lv_at hl 0 rfl) ?_
            refine va_get (D := (dC, dI)) (ci := 4) (v := .int (nI n)) (C := RX6) (T := TX6) (N := 20) hx hb hts hnX6_addStepsFrom_X6 hown hK hP 0 rfl rfl 12 (by decide) (hts (.fieldLink RX6 53 "RingMeets$Walks" "cells" "I") (by decide +kernel)) (fun _ h9 => h9) rfl dX6_addStepsFrom_62 ?_
            refine lv_aload_n hx hb dX6_addStepsFrom_65 rfl (lv_at hl 0 rfl) ?_
            refine va_get (D := (dC, dI)) (ci := 4) (v := .ref wy) (C := RX6) (T := TX6) (N := 20) hx hb hts hnX6_addStepsFrom_X6 hown hK hP 0 rfl rfl 1 (by decide) (hts (.fieldLink RX6 18 "RingMeets$Walks" "ways" "[I") (by decide +kernel)) (fun _ h9 => h9) rfl dX6_addStepsFrom_66 ?_
            refine lv_iload_n hx hb dX6_addStepsFrom_69 rfl (lv_at hl 1 rfl) ?_
            refine va_iald (D := (dC, dI)) hx hb hK hP 2 0 rfl rfl (vp_in_nI (n := pat) (N := 1957) (by omega) (by omega)) dX6_addStepsFrom_70 ?_
            refine lv_topi (fun x_29 ex_29 => ?_)
            rw [nI_clamp (n := pat) (by omega)] at ex_29
            refine lv_iload_n hx hb dX6_addStepsFrom_71 rfl (lv_at hl 2 rfl) ?_
            refine vp_callSi (va_Run.run (va_runV (As := [.int (nI n), .int x_29, .int yb]) (rest := [.ref wk, .int (nI pat), .ref wk]) ⟨hx, hb, hml, hown, hts⟩ (mX2_wayBehind l dC dI cyI cyZ mo lk j0 j1 j2 (nI n) x_29 yb ) (cwV 3 hts gX6_addStepsFrom_X2_wayBehind rfl rfl rfl (by decide +kernel) ⟨Nat.le_of_ble_eq_true rfl, Nat.le_of_ble_eq_true rfl⟩) (bs_RV hB (hP.sub (ws' := [(mo, .inr (1, [.ref lk, .int j0, .int j1, .int j2]))]) [1] rfl) 0 rfl rfl) rfl rfl hl.1 rfl (lv_room (Nat.le_of_ble_eq_true rfl)) dX6_addStepsFrom_72 ⟨Nat.le_of_ble_eq_true rfl, Nat.le_of_ble_eq_true rfl⟩)) (fun r_30 hr_30 => ?_)
            have f_31 := va_free (wc := [(wk, .inr (4, [.ref mo, .ref wy, .ref nw, .ref ol, .ref lt, .ref es, .ref sf, .ref sl, .ref so, .ref la, .ref li, .ref ru, .int (nI n), .int sc, .int (nI z), .int (nI tt), .int (nI qn), .int d17, .int d18, .int d19])), (wy, .inl (cyI, 1957, .inl fy)), (nw, .inl (cyI, 1024, .inl fn)), (ol, .inl (cyI, 1957, .inl fo)), (lt, .inl (cyI, 1957, .inl fl)), (sl, .inl (cyI, 1957, .inl fc))]) hD hS hA [0, 2, 3, 4, 5, 8] rfl
            refine va_calli (va_runV (As := [.int r_30]) (rest := [.int (nI pat), .ref wk]) ⟨hx, hb, hml, hown, hts⟩ (mX6_add l dC dI cyI cyZ wk mo wy nw ol lt es sf sl so la li ru n z tt qn sc d17 d18 d19 fy fn fo fl fc r_30 (by omega) (by omega) (by omega) (by omega) _) (cwV 1 hts gX6_addStepsFrom_X6_add rfl rfl rfl (by decide +kernel) ⟨Nat.le_of_ble_eq_true rfl, Nat.le_of_ble_eq_true rfl⟩) (bs_WV hB (hP.sub (ws' := [(wk, .inr (4, [.ref mo, .ref wy, .ref nw, .ref ol, .ref lt, .ref es, .ref sf, .ref sl, .ref so, .ref la, .ref li, .ref ru, .int (nI n), .int sc, .int (nI z), .int (nI tt), .int (nI qn), .int d17, .int d18, .int d19])), (wy, .inl (cyI, 1957, .inl fy)), (nw, .inl (cyI, 1024, .inl fn)), (ol, .inl (cyI, 1957, .inl fo)), (lt, .inl (cyI, 1957, .inl fl)), (sl, .inl (cyI, 1957, .inl fc))]) [0, 2, 3, 4, 5, 8] rfl) (hD.sub (ws' := [(wk, .inr (4, [.ref mo, .ref wy, .ref nw, .ref ol, .ref lt, .ref es, .ref sf, .ref sl, .ref so, .ref la, .ref li, .ref ru, .int (nI n), .int sc, .int (nI z), .int (nI tt), .int (nI qn), .int d17, .int d18, .int d19])), (wy, .inl (cyI, 1957, .inl fy)), (nw, .inl (cyI, 1024, .inl fn)), (ol, .inl (cyI, 1957, .inl fo)), (lt, .inl (cyI, 1957, .inl fl)), (sl, .inl (cyI, 1957, .inl fc))]) [0, 2, 3, 4, 5, 8] (by decide) rfl) 0 rfl rfl) rfl rfl hl.1 rfl (lv_room (Nat.le_of_ble_eq_true rfl)) dX6_addStepsFrom_75 ⟨Nat.le_of_ble_eq_true rfl, Nat.le_of_ble_eq_true rfl⟩) hS (fun q _ h => f_31 q h) f_31 (fun rh_32 uh_32 t H1 locs ht hvm h_32 hB1 hz1 hk1 hS => ?_)
            obtain ⟨v_33, g_34, g_35, g_36, g_37, g_38⟩ := uh_32
            obtain ⟨hP1, hD1⟩ := hB1
            rw [ht] at hP1
            obtain ⟨hP, hD⟩ := va_join (wr := [(mo, .inr (1, [.ref lk, .int j0, .int j1, .int j2])), (es, .inl (cyI, 25857, .inl fe)), (sf, .inl (cyI, 25857, .inl ff))]) (w1 := [(wk, .inr (4, [.ref mo, .ref wy, .ref nw, .ref ol, .ref lt, .ref es, .ref sf, .ref sl, .ref so, .ref la, .ref li, .ref ru, .int (nI n), .int sc, .int (nI v_33), .int (nI tt), .int (nI qn), .int d17, .int d18, .int d19])), (wy, .inl (cyI, 1957, .inl g_34)), (nw, .inl (cyI, 1024, .inl g_35)), (ol, .inl (cyI, 1957, .inl g_36)), (lt, .inl (cyI, 1957, .inl g_37)), (sl, .inl (cyI, 1957, .inl g_38))]) hP hD [0, 2, 3, 4, 5, 8] [1, 6, 7] rfl rfl (by decide) (by decide) hk1 f_31 hP1 hD1
            generalize H1 = H at hP hS ⊢
            have hP : va_P (dC, dI) vwCl [(mo, .inr (1, [.ref lk, .int j0, .int j1, .int j2])), (es, .inl (cyI, 25857, .inl fe)), (sf, .inl (cyI, 25857, .inl ff)), (wk, .inr (4, [.ref mo, .ref wy, .ref nw, .ref ol, .ref lt, .ref es, .ref sf, .ref sl, .ref so, .ref la, .ref li, .ref ru, .int (nI n), .int sc, .int (nI v_33), .int (nI tt), .int (nI qn), .int d17, .int d18, .int d19])), (wy, .inl (cyI, 1957, .inl g_34)), (nw, .inl (cyI, 1024, .inl g_35)), (ol, .inl (cyI, 1957, .inl g_36)), (lt, .inl (cyI, 1957, .inl g_37)), (sl, .inl (cyI, 1957, .inl g_38))] _ := hP
            have hD : va_D A [(mo, .inr (1, [.ref lk, .int j0, .int j1, .int j2])), (es, .inl (cyI, 25857, .inl fe)), (sf, .inl (cyI, 25857, .inl ff)), (wk, .inr (4, [.ref mo, .ref wy, .ref nw, .ref ol, .ref lt, .ref es, .ref sf, .ref sl, .ref so, .ref la, .ref li, .ref ru, .int (nI n), .int sc, .int (nI v_33), .int (nI tt), .int (nI qn), .int d17, .int d18, .int d19])), (wy, .inl (cyI, 1957, .inl g_34)), (nw, .inl (cyI, 1024, .inl g_35)), (ol, .inl (cyI, 1957, .inl g_36)), (lt, .inl (cyI, 1957, .inl g_37)), (sl, .inl (cyI, 1957, .inl g_38))] := hD
            have f_39 := va_free (wc := [(wk, .inr (4, [.ref mo, .ref wy, .ref nw, .ref ol, .ref lt, .ref es, .ref sf, .ref sl, .ref so, .ref la, .ref li, .ref ru, .int (nI n), .int sc, .int (nI v_33), .int (nI tt), .int (nI qn), .int d17, .int d18, .int d19])), (lt, .inl (cyI, 1957, .inl g_37)), (es, .inl (cyI, 25857, .inl fe)), (sf, .inl (cyI, 25857, .inl ff)), (sl, .inl (cyI, 1957, .inl g_38))]) hD hS hA [3, 7, 1, 2, 8] rfl
            refine va_callv (va_runV (As := [.int (nI pat), .int rh_32]) (rest := []) ⟨hx, hb, hml, hown, hts⟩ (mX6_addStep l dC dI cyI cyZ wk mo wy nw ol lt es sf sl so la li ru n v_33 tt qn sc d17 d18 d19 g_37 fe ff g_38 (nI pat) rh_32 (by omega) (by omega) (by omega) (by omega) _) (cwV 2 hts gX6_addStepsFrom_X6_addStep rfl rfl rfl (by decide +kernel) ⟨Nat.le_of_ble_eq_true rfl, Nat.le_of_ble_eq_true rfl⟩) (bs_WV hB (hP.sub (ws' := [(wk, .inr (4, [.ref mo, .ref wy, .ref nw, .ref ol, .ref lt, .ref es, .ref sf, .ref sl, .ref so, .ref la, .ref li, .ref ru, .int (nI n), .int sc, .int (nI v_33), .int (nI tt), .int (nI qn), .int d17, .int d18, .int d19])), (lt, .inl (cyI, 1957, .inl g_37)), (es, .inl (cyI, 25857, .inl fe)), (sf, .inl (cyI, 25857, .inl ff)), (sl, .inl (cyI, 1957, .inl g_38))]) [3, 7, 1, 2, 8] rfl) (hD.sub (ws' := [(wk, .inr (4, [.ref mo, .ref wy, .ref nw, .ref ol, .ref lt, .ref es, .ref sf, .ref sl, .ref so, .ref la, .ref li, .ref ru, .int (nI n), .int sc, .int (nI v_33), .int (nI tt), .int (nI qn), .int d17, .int d18, .int d19])), (lt, .inl (cyI, 1957, .inl g_37)), (es, .inl (cyI, 25857, .inl fe)), (sf, .inl (cyI, 25857, .inl ff)), (sl, .inl (cyI, 1957, .inl g_38))]) [3, 7, 1, 2, 8] (by decide) rfl) 0 rfl rfl) rfl rfl hl.1 rfl (lv_room (Nat.le_of_ble_eq_true rfl)) dX6_addStepsFrom_78 ⟨Nat.le_of_ble_eq_true rfl, Nat.le_of_ble_eq_true rfl⟩) hS (fun q _ h => f_39 q h) f_39 (fun uh_40 t H1 locs ht hvm h_40 hB1 hz1 hk1 hS => ?_)
            obtain ⟨v_41, g_42, g_43, g_44, g_45⟩ := uh_40
            have h_40 : v_41 ≤ 25857 := h_40
            obtain ⟨hP1, hD1⟩ := hB1
            rw [ht] at hP1
            obtain ⟨hP, hD⟩ := va_join (wr := [(mo, .inr (1, [.ref lk, .int j0, .int j1, .int j2])), (wy, .inl (cyI, 1957, .inl g_34)), (nw, .inl (cyI, 1024, .inl g_35)), (ol, .inl (cyI, 1957, .inl g_36))]) (w1 := [(wk, .inr (4, [.ref mo, .ref wy, .ref nw, .ref ol, .ref lt, .ref es, .ref sf, .ref sl, .ref so, .ref la, .ref li, .ref ru, .int (nI n), .int sc, .int (nI v_33), .int (nI v_41), .int (nI qn), .int d17, .int d18, .int d19])), (lt, .inl (cyI, 1957, .inl g_42)), (es, .inl (cyI, 25857, .inl g_43)), (sf, .inl (cyI, 25857, .inl g_44)), (sl, .inl (cyI, 1957, .inl g_45))]) hP hD [3, 7, 1, 2, 8] [0, 4, 5, 6] rfl rfl (by decide) (by decide) hk1 f_39 hP1 hD1
            generalize H1 = H at hP hS ⊢
            have hP : va_P (dC, dI) vwCl [(mo, .inr (1, [.ref lk, .int j0, .int j1, .int j2])), (wy, .inl (cyI, 1957, .inl g_34)), (nw, .inl (cyI, 1024, .inl g_35)), (ol, .inl (cyI, 1957, .inl g_36)), (wk, .inr (4, [.ref mo, .ref wy, .ref nw, .ref ol, .ref lt, .ref es, .ref sf, .ref sl, .ref so, .ref la, .ref li, .ref ru, .int (nI n), .int sc, .int (nI v_33), .int (nI v_41), .int (nI qn), .int d17, .int d18, .int d19])), (lt, .inl (cyI, 1957, .inl g_42)), (es, .inl (cyI, 25857, .inl g_43)), (sf, .inl (cyI, 25857, .inl g_44)), (sl, .inl (cyI, 1957, .inl g_45))] _ := hP
            have hD : va_D A [(mo, .inr (1, [.ref lk, .int j0, .int j1, .int j2])), (wy, .inl (cyI, 1957, .inl g_34)), (nw, .inl (cyI, 1024, .inl g_35)), (ol, .inl (cyI, 1957, .inl g_36)), (wk, .inr (4, [.ref mo, .ref wy, .ref nw, .ref ol, .ref lt, .ref es, .ref sf, .ref sl, .ref so, .ref la, .ref li, .ref ru, .int (nI n), .int sc, .int (nI v_33), .int (nI v_41), .int (nI qn), .int d17, .int d18, .int d19])), (lt, .inl (cyI, 1957, .inl g_42)), (es, .inl (cyI, 25857, .inl g_43)), (sf, .inl (cyI, 25857, .inl g_44)), (sl, .inl (cyI, 1957, .inl g_45))] := hD
            refine lv_aload_n hx hb dX6_addStepsFrom_81 rfl (lv_at hl 0 rfl) ?_
            refine lv_iload_n hx hb dX6_addStepsFrom_82 rfl (lv_at hl 2 rfl) ?_
            refine vp_callSi (va_Run.run (va_runV (As := [.int yb]) (rest := []) ⟨hx, hb, hml, hown, hts⟩ (mX6_setAfter l dC dI cyI cyZ wk mo wy nw ol lt es sf sl so la li ru n v_33 v_41 qn sc d17 d18 d19 lk j0 j1 j2 yb ) (cwV 1 hts gX6_addStepsFrom_X6_setAfter rfl rfl rfl (by decide +kernel) ⟨Nat.le_of_ble_eq_true rfl, Nat.le_of_ble_eq_true rfl⟩) (bs_RV hB (hP.sub (ws' := [(wk, .inr (4, [.ref mo, .ref wy, .ref nw, .ref ol, .ref lt, .ref es, .ref sf, .ref sl, .ref so, .ref la, .ref li, .ref ru, .int (nI n), .int sc, .int (nI v_33), .int (nI v_41), .int (nI qn), .int d17, .int d18, .int d19])), (mo, .inr (1, [.ref lk, .int j0, .int j1, .int j2]))]) [4, 0] rfl) 0 rfl rfl) rfl rfl hl.1 rfl (lv_room (Nat.le_of_ble_eq_true rfl)) dX6_addStepsFrom_83 ⟨Nat.le_of_ble_eq_true rfl, Nat.le_of_ble_eq_true rfl⟩)) (fun r_46 hr_46 => ?_)
            refine lv_istore_n (lv' := [(2, .int r_46), (0, .ref wk), (1, .int (nI pat)), (3, .int (nI k))]) hx hb dX6_addStepsFrom_86 rfl hl (by decide) rfl (fun ls hl => ?_)
            refine lv_iinc (v := (nI (k + 1))) (lv' := [(3, .int (nI (k + 1))), (2, .int r_46), (0, .ref wk), (1, .int (nI pat))]) hx hb dX6_addStepsFrom_87 hl (k := 3) rfl (nI_1 _) (by decide) rfl (fun ls hl => ?_)
            refine lv_goto (tgt := 44) hx hb dX6_addStepsFrom_90 (by decide) ?_
            exact ih44 (k + 1) v_33 v_41 d17 d18 g_34 g_35 g_36 g_42 g_43 g_44 g_45 r_46 ⟨by omega, by omega⟩ (by omega) (by omega) (by omega) _ _ (hP.sub [4, 0, 1, 2, 3, 5, 6, 7, 8] rfl) (hD.sub [4, 0, 1, 2, 3, 5, 6, 7, 8] (by decide) rfl) hS _ (lv_sub hl [2, 3, 1, 0] rfl)
    exact L44 (31 + 1) 0 z tt x_25 x_1 fy fn fo fl fe ff fc r_26 ⟨by omega, by omega⟩ (by omega) hz htt _ _ (hP.sub [0, 1, 2, 3, 4, 5, 6, 7, 8] rfl) (hD.sub [0, 1, 2, 3, 4, 5, 6, 7, 8] (by decide) rfl) hS _ (lv_sub hl [2, 3, 1, 0] rfl)

theorem hnX6_lineUp_X6 : ∀ w ∈ wsX60, w ∈ wsX6_lineUp := fun _ h => List.mem_cons_of_mem _ (List.mem_append_right _ h)
set_option maxHeartbeats 4000000 in
set_option maxRecDepth 100000 in
theorem mX6_lineUp (l : Launch) (dC : Nat → ClassId) (dI : Nat → Nat → Nat) (cyI cyZ : ClassId) (wk : Nat) (mo : Nat) (wy : Nat) (nw : Nat) (ol : Nat) (lt : Nat) (es : Nat) (sf : Nat) (sl : Nat) (so : Nat) (la : Nat) (li : Nat) (ru : Nat) (n : Nat) (z : Nat) (tt : Nat) (qn : Nat) (sc : Int32) (d17 : Int32) (d18 : Int32) (d19 : Int32) (ta : Nat) (ft : Nat → Int32) (fi : Nat → Int32) (p2 : Int32) (p3 : Int32) (hn : n ≤ 10) (hz : z ≤ 1957) (htt : tt ≤ 25857) (hqn : qn ≤ 1957) (sz : Nat) : Met l yX6_lineUp wsX6_lineUp ({ frames := 1, cells := 0, slots := 0, locals := 21 }) (bs_W dC dI cyI cyZ [.ref wk, .ref ta, .int p2, .int p3] [(wk, .inr (4, [.ref mo, .ref wy, .ref nw, .ref ol, .ref lt, .ref es, .ref sf, .ref sl, .ref so, .ref la, .ref li, .ref ru, .int (nI n), .int sc, .int (nI z), .int (nI tt), .int (nI qn), .int d17, .int d18, .int d19])), (ta, .inl (cyI, 1957, .inl ft)), (li, .inl (cyI, 1957, .inl fi))] sz) (va_Qv (S := Nat × (Nat → Int32) × (Nat → Int32)) (fun q : Nat × (Nat → Int32) × (Nat → Int32) => q.1 ≤ 1957) (fun q t => bs_E dC dI (va_A [(wk, .inr (4, [.ref mo, .ref wy, .ref nw, .ref ol, .ref lt, .ref es, .ref sf, .ref sl, .ref so, .ref la, .ref li, .ref ru, .int (nI n), .int sc, .int (nI z), .int (nI tt), .int (nI qn), .int d17, .int d18, .int d19])), (ta, .inl (cyI, 1957, .inl ft)), (li, .inl (cyI, 1957, .inl fi))] sz) [(wk, .inr (4, [.ref mo, .ref wy, .ref nw, .ref ol, .ref lt, .ref es, .ref sf, .ref sl, .ref so, .ref la, .ref li, .ref ru, .int (nI n), .int sc, .int (nI z), .int (nI tt), .int (nI q.1), .int d17, .int d18, .int d19])), (ta, .inl (cyI, 1957, .inl q.2.1)), (li, .inl (cyI, 1957, .inl q.2.2))] t) (va_A [(wk, .inr (4, [.ref mo, .ref wy, .ref nw, .ref ol, .ref lt, .ref es, .ref sf, .ref sl, .ref so, .ref la, .ref li, .ref ru, .int (nI n), .int sc, .int (nI z), .int (nI tt), .int (nI qn), .int d17, .int d18, .int d19])), (ta, .inl (cyI, 1957, .inl ft)), (li, .inl (cyI, 1957, .inl fi))] sz)) 0 0 (va_A [(wk, .inr (4, [.ref mo, .ref wy, .ref nw, .ref ol, .ref lt, .ref es, .ref sf, .ref sl, .ref so, .ref la, .ref li, .ref ru, .int (nI n), .int sc, .int (nI z), .int (nI tt), .int (nI qn), .int d17, .int d18, .int d19])), (ta, .inl (cyI, 1957, .inl ft)), (li, .inl (cyI, 1957, .inl fi))] sz) := by
  refine Met.ofW (cc := cX6_lineUp) (maxL := 4) (ret := none) (by decide) rfl ?_
  intro p e s m args below meth c s₁ B hml hv
  obtain ⟨rfl, hsz, hB, hP, hD0⟩ := hv
  have hK := hB.1
  have hN := hB.2
  have hx := B.exec
  have hb := B.bytes
  have hr := B.returns
  have hts := atoms_spec (ws := wsX6_lineUp) B.pre
  have hown : s.vm.findClass RX6 = some m.cls := findClass_of_methodNamed B.named
  have hlocks := B.notSynchronized
  subst hsz
  have hD := hD0.self (sz := s.heap.size)
  generalize hAe : va_A [(wk, .inr (4, [.ref mo, .ref wy, .ref nw, .ref ol, .ref lt, .ref es, .ref sf, .ref sl, .ref so, .ref la, .ref li, .ref ru, .int (nI n), .int sc, .int (nI z), .int (nI tt), .int (nI qn), .int d17, .int d18, .int d19])), (ta, .inl (cyI, 1957, .inl ft)), (li, .inl (cyI, 1957, .inl fi))] s.heap.size = A at hD ⊢
  have hA : ∀ q : Nat, s.heap.size ≤ q → A q := fun q h => by rw [← hAe]; exact Or.inr h
  have hS : va_S A s.heap s.heap [] := va_S.rf
  have hP : va_P (dC, dI) vwCl [(wk, .inr (4, [.ref mo, .ref wy, .ref nw, .ref ol, .ref lt, .ref es, .ref sf, .ref sl, .ref so, .ref la, .ref li, .ref ru, .int (nI n), .int sc, .int (nI z), .int (nI tt), .int (nI qn), .int d17, .int d18, .int d19])), (ta, .inl (cyI, 1957, .inl ft)), (li, .inl (cyI, 1957, .inl fi))] s.heap := hP
  have hl := lv_entry ([.ref wk, .ref ta, .int p2, .int p3]) (n := 4) (Nat.le_of_ble_eq_true rfl)
  rw [lg_entry_eq]
  generalize (lg_sl ([.ref wk, .ref ta, .int p2, .int p3]) ++ List.replicate (4 - (lg_sl ([.ref wk, .ref ta, .int p2, .int p3])).length) Slot.unset).toArray = ls at hl ⊢
  have hl : lv_has ls 4 [(0, .ref wk), (1, .ref ta), (2, .int p2), (3, .int p3)] := hl
  refine lv_aload_n hx hb dX6_lineUp_0 rfl (lv_at hl 0 rfl) ?_
  refine lv_iload_n hx hb dX6_lineUp_1 rfl (lv_at hl 2 rfl) ?_
  refine vp_callSi (va_Run.run (va_runV (As := [.int p2]) (rest := []) ⟨hx, hb, hml, hown, hts⟩ (mX6_isWay l dC dI cyI cyZ wk mo wy nw ol lt es sf sl so la li ru n z tt qn sc d17 d18 d19 p2 (by omega)) (cwV 1 hts gX6_lineUp_X6_isWay rfl rfl rfl (by decide +kernel) ⟨Nat.le_of_ble_eq_true rfl, Nat.le_of_ble_eq_true rfl⟩) (bs_RV hB (hP.sub (ws' := [(wk, .inr (4, [.ref mo, .ref wy, .ref nw, .ref ol, .ref lt, .ref es, .ref sf, .ref sl, .ref so, .ref la, .ref li, .ref ru, .int (nI n), .int sc, .int (nI z), .int (nI tt), .int (nI qn), .int d17, .int d18, .int d19]))]) [0] rfl) 0 rfl rfl) rfl rfl hl.1 rfl (lv_room (Nat.le_of_ble_eq_true rfl)) dX6_lineUp_2 ⟨Nat.le_of_ble_eq_true rfl, Nat.le_of_ble_eq_true rfl⟩)) (fun r_1 hr_1 => ?_)
  refine lv_if_eq (tgt := 42) hx hb dX6_lineUp_5 (by decide) (fun c_2 => ?_) (fun c_2 => ?_)
  · skip
    have ic_2 := ci_eq (rfl : Int32.toInt r_1 = _) (show Int32.toInt 0 = 0 by decide) c_2
    exact W.vret hx hb hr (fun t ht hW => ⟨⟨(qn, ft, fi), rfl, by omega, ⟨by rw [ht]; exact hP.sub (ws' := [(wk, .inr (4, [.ref mo, .ref wy, .ref nw, .ref ol, .ref lt, .ref es, .ref sf, .ref sl, .ref so, .ref la, .ref li, .ref ru, .int (nI n), .int sc, .int (nI z), .int (nI tt), .int (nI qn), .int d17, .int d18, .int d19])), (ta, .inl (cyI, 1957, .inl ft)), (li, .inl (cyI, 1957, .inl fi))]) [0, 1, 2] rfl, hD.sub (ws' := [(wk, .inr (4, [.ref mo, .ref wy, .ref nw, .ref ol, .ref lt, .ref es, .ref sf, .ref sl, .ref so, .ref la, .ref li, .ref ru, .int (nI n), .int sc, .int (nI z), .int (nI tt), .int (nI qn), .int d17, .int d18, .int d19])), (ta, .inl (cyI, 1957, .inl ft)), (li, .inl (cyI, 1957, .inl fi))]) [0, 1, 2] (by decide) rfl⟩⟩, hS.F ht⟩) hS.2.2 dX6_lineUp_42
  · skip
    have ic_2 := ci_ne (rfl : Int32.toInt r_1 = _) (show Int32.toInt 0 = 0 by decide) c_2
    obtain ⟨hwl, hwu⟩ := hr_1.2 (hr_1.1.resolve_left c_2)
    refine lv_aload_n hx hb dX6_lineUp_8 rfl (lv_at hl 0 rfl) ?_
    refine va_get (D := (dC, dI)) (ci := 4) (v := .int (nI qn)) (C := RX6) (T := TX6) (N := 20) hx hb hts hnX6_lineUp_X6 hown hK hP 0 rfl rfl 16 (by decide) (hts (.fieldLink RX6 141 "RingMeets$Walks" "lineSize" "I") (by decide +kernel)) (fun _ h9 => h9) rfl dX6_lineUp_9 ?_
    refine lv_sipush (v := 1957) hx hb dX6_lineUp_12 (by decide) ?_
    refine lv_icmp_ge (tgt := 42) hx hb dX6_lineUp_15 (by decide) (fun c_3 => ?_) (fun c_3 => ?_)
    · skip
      have ic_3 := ci_le (show Int32.toInt 1957 = 1957 by decide) (nI_toInt (n := qn) (by omega)) c_3
      exact W.vret hx hb hr (fun t ht hW => ⟨⟨(qn, ft, fi), rfl, by omega, ⟨by rw [ht]; exact hP.sub (ws' := [(wk, .inr (4, [.ref mo, .ref wy, .ref nw, .ref ol, .ref lt, .ref es, .ref sf, .ref sl, .ref so, .ref la, .ref li, .ref ru, .int (nI n), .int sc, .int (nI z), .int (nI tt), .int (nI qn), .int d17, .int d18, .int d19])), (ta, .inl (cyI, 1957, .inl ft)), (li, .inl (cyI, 1957, .inl fi))]) [0, 1, 2] rfl, hD.sub (ws' := [(wk, .inr (4, [.ref mo, .ref wy, .ref nw, .ref ol, .ref lt, .ref es, .ref sf, .ref sl, .ref so, .ref la, .ref li, .ref ru, .int (nI n), .int sc, .int (nI z), .int (nI tt), .int (nI qn), .int d17, .int d18, .int d19])), (ta, .inl (cyI, 1957, .inl ft)), (li, .inl (cyI, 1957, .inl fi))]) [0, 1, 2] (by decide) rfl⟩⟩, hS.F ht⟩) hS.2.2 dX6_lineUp_42
    · skip
      have ic_3 := ci_nle (show Int32.toInt 1957 = 1957 by decide) (nI_toInt (n := qn) (by omega)) c_3
      refine lv_aload_n hx hb dX6_lineUp_18 rfl (lv_at hl 1 rfl) ?_
      refine lv_iload_n hx hb dX6_lineUp_19 rfl (lv_at hl 2 rfl) ?_
      refine lv_iload_n hx hb dX6_lineUp_20 rfl (lv_at hl 3 rfl) ?_
      refine va_iast (D := (dC, dI)) hx hb hK hP hD hS 1 0 rfl rfl (nb_in (x := p2) (n := 1957) (by omega) (by omega)) dX6_lineUp_21 (fun H locs hP hD hS => ?_)
      obtain ⟨g_4, eg_4⟩ : ∃ y : Nat → Int32, y = upd ft (Int32.toNatClampNeg p2) p3 := ⟨_, rfl⟩
      have hP : va_P (dC, dI) vwCl [(wk, .inr (4, [.ref mo, .ref wy, .ref nw, .ref ol, .ref lt, .ref es, .ref sf, .ref sl, .ref so, .ref la, .ref li, .ref ru, .int (nI n), .int sc, .int (nI z), .int (nI tt), .int (nI qn), .int d17, .int d18, .int d19])), (ta, .inl (cyI, 1957, .inl g_4)), (li, .inl (cyI, 1957, .inl fi))] H := by rw [eg_4]; exact hP
      have hD : va_D A [(wk, .inr (4, [.ref mo, .ref wy, .ref nw, .ref ol, .ref lt, .ref es, .ref sf, .ref sl, .ref so, .ref la, .ref li, .ref ru, .int (nI n), .int sc, .int (nI z), .int (nI tt), .int (nI qn), .int d17, .int d18, .int d19])), (ta, .inl (cyI, 1957, .inl g_4)), (li, .inl (cyI, 1957, .inl fi))] := by rw [eg_4]; exact hD
      refine lv_aload_n hx hb dX6_lineUp_22 rfl (lv_at hl 0 rfl) ?_
      refine va_get (D := (dC, dI)) (ci := 4) (v := .ref li) (C := RX6) (T := TX6) (N := 20) hx hb hts hnX6_lineUp_X6 hown hK hP 0 rfl rfl 10 (by decide) (hts (.fieldLink RX6 46 "RingMeets$Walks" "line" "[I") (by decide +kernel)) (fun _ h9 => h9) rfl dX6_lineUp_23 ?_
      refine lv_aload_n hx hb dX6_lineUp_26 rfl (lv_at hl 0 rfl) ?_
      refine va_get (D := (dC, dI)) (ci := 4) (v := .int (nI qn)) (C := RX6) (T := TX6) (N := 20) hx hb hts hnX6_lineUp_X6 hown hK hP 0 rfl rfl 16 (by decide) (hts (.fieldLink RX6 141 "RingMeets$Walks" "lineSize" "I") (by decide +kernel)) (fun _ h9 => h9) rfl dX6_lineUp_27 ?_
      refine lv_iload_n hx hb dX6_lineUp_30 rfl (lv_at hl 2 rfl) ?_
      refine va_iast (D := (dC, dI)) hx hb hK hP hD hS 2 0 rfl rfl (vp_in_nI (n := qn) (N := 1957) (by omega) (by omega)) dX6_lineUp_31 (fun H locs hP hD hS => ?_)
      obtain ⟨g_5, eg_5⟩ : ∃ y : Nat → Int32, y = upd fi (Int32.toNatClampNeg (nI qn)) p2 := ⟨_, rfl⟩
      have hP : va_P (dC, dI) vwCl [(wk, .inr (4, [.ref mo, .ref wy, .ref nw, .ref ol, .ref lt, .ref es, .ref sf, .ref sl, .ref so, .ref la, .ref li, .ref ru, .int (nI n), .int sc, .int (nI z), .int (nI tt), .int (nI qn), .int d17, .int d18, .int d19])), (ta, .inl (cyI, 1957, .inl g_4)), (li, .inl (cyI, 1957, .inl g_5))] H := by rw [eg_5]; exact hP
      have hD : va_D A [(wk, .inr (4, [.ref mo, .ref wy, .ref nw, .ref ol, .ref lt, .ref es, .ref sf, .ref sl, .ref so, .ref la, .ref li, .ref ru, .int (nI n), .int sc, .int (nI z), .int (nI tt), .int (nI qn), .int d17, .int d18, .int d19])), (ta, .inl (cyI, 1957, .inl g_4)), (li, .inl (cyI, 1957, .inl g_5))] := by rw [eg_5]; exact hD
      rw [nI_clamp (n := qn) (by omega)] at eg_5
      refine lv_aload_n hx hb dX6_lineUp_32 rfl (lv_at hl 0 rfl) ?_
      refine lv_dup hx hb dX6_lineUp_33 rfl ?_
      refine va_get (D := (dC, dI)) (ci := 4) (v := .int (nI qn)) (C := RX6) (T := TX6) (N := 20) hx hb hts hnX6_lineUp_X6 hown hK hP 0 rfl rfl 16 (by decide) (hts (.fieldLink RX6 141 "RingMeets$Walks" "lineSize" "I") (by decide +kernel)) (fun _ h9 => h9) rfl dX6_lineUp_34 ?_
      refine lv_iconst (v := 1) hx hb dX6_lineUp_37 (by decide) ?_
      refine lv_iadd hx hb dX6_lineUp_38 ?_
      refine lv_topi (fun x_6 ex_6 => ?_)
      obtain rfl : (nI (qn + 1)) = x_6 := (ex_6.trans (nI_1 _)).symm
      refine va_put (D := (dC, dI)) (ci := 4) (v := .int (nI (qn + 1))) (ty := .int) (C := RX6) (T := TX6) (N := 20) hx hb hts hnX6_lineUp_X6 tyX6 tyX6_ok nmX6 hown hK hP hD hS 0 rfl rfl 16 (by decide) (hts (.fieldLink RX6 141 "RingMeets$Walks" "lineSize" "I") (by decide +kernel)) (fun _ h9 => h9) rfl (by decide +kernel) rfl rfl (Nat.le_of_ble_eq_true rfl) dX6_lineUp_39 (fun H locs hP hD hS => ?_)
      have hP : va_P (dC, dI) vwCl [(wk, .inr (4, [.ref mo, .ref wy, .ref nw, .ref ol, .ref lt, .ref es, .ref sf, .ref sl, .ref so, .ref la, .ref li, .ref ru, .int (nI n), .int sc, .int (nI z), .int (nI tt), .int (nI (qn + 1)), .int d17, .int d18, .int d19])), (ta, .inl (cyI, 1957, .inl g_4)), (li, .inl (cyI, 1957, .inl g_5))] _ := hP
      have hD : va_D A [(wk, .inr (4, [.ref mo, .ref wy, .ref nw, .ref ol, .ref lt, .ref es, .ref sf, .ref sl, .ref so, .ref la, .ref li, .ref ru, .int (nI n), .int sc, .int (nI z), .int (nI tt), .int (nI (qn + 1)), .int d17, .int d18, .int d19])), (ta, .inl (cyI, 1957, .inl g_4)), (li, .inl (cyI, 1957, .inl g_5))] := hD
      exact W.vret hx hb hr (fun t ht hW => ⟨⟨((qn + 1), g_4, g_5), rfl, by omega, ⟨by rw [ht]; exact hP.sub (ws' := [(wk, .inr (4, [.ref mo, .ref wy, .ref nw, .ref ol, .ref lt, .ref es, .ref sf, .ref sl, .ref so, .ref la, .ref li, .ref ru, .int (nI n), .int sc, .int (nI z), .int (nI tt), .int (nI (qn + 1)), .int d17, .int d18, .int d19])), (ta, .inl (cyI, 1957, .inl g_4)), (li, .inl (cyI, 1957, .inl g_5))]) [0, 1, 2] rfl, hD.sub (ws' := [(wk, .inr (4, [.ref mo, .ref wy, .ref nw, .ref ol, .ref lt, .ref es, .ref sf, .ref sl, .ref so, .ref la, .ref li, .ref ru, .int (nI n), .int sc, .int (nI z), .int (nI tt), .int (nI (qn + 1)), .int d17, .int d18, .int d19])), (ta, .inl (cyI, 1957, .inl g_4)), (li, .inl (cyI, 1957, .inl g_5))]) [0, 1, 2] (by decide) rfl⟩⟩, hS.F ht⟩) hS.2.2 dX6_lineUp_42

theorem hnX6_lineUpWhatHasMet_X6 : ∀ w ∈ wsX60, w ∈ wsX6_lineUpWhatHasMet := fun _ h => List.mem_cons_of_mem _ (List.mem_append_right _ h)
set_option maxHeartbeats 4000000 in
set_option maxRecDepth 100000 in
theorem mX6_lineUpWhatHasMet (l : Launch) (dC : Nat → ClassId) (dI : Nat → Nat → Nat) (cyI cyZ : ClassId) (wk : Nat) (mo : Nat) (wy : Nat) (nw : Nat) (ol : Nat) (lt : Nat) (es : Nat) (sf : Nat) (sl : Nat) (so : Nat) (la : Nat) (li : Nat) (ru : Nat) (n : Nat) (z : Nat) (tt : Nat) (qn : Nat) (sc : Int32) (d17 : Int32) (d18 : Int32) (d19 : Int32) (ta : Nat) (fy : Nat → Int32) (ft : Nat → Int32) (fi : Nat → Int32) (hn : n ≤ 10) (hz : z ≤ 1957) (htt : tt ≤ 25857) (hqn : qn ≤ 1957) (sz : Nat) : Met l yX6_lineUpWhatHasMet wsX6_lineUpWhatHasMet ({ frames := 2, cells := 0, slots := 0, locals := 44 }) (bs_W dC dI cyI cyZ [.ref wk, .ref ta] [(wk, .inr (4, [.ref mo, .ref wy, .ref nw, .ref ol, .ref lt, .ref es, .ref sf, .ref sl, .ref so, .ref la, .ref li, .ref ru, .int (nI n), .int sc, .int (nI z), .int (nI tt), .int (nI qn), .int d17, .int d18, .int d19])), (wy, .inl (cyI, 1957, .inl fy)), (ta, .inl (cyI, 1957, .inl ft)), (li, .inl (cyI, 1957, .inl fi))] sz) (va_Qv (S := Nat × (Nat → Int32) × (Nat → Int32)) (fun q : Nat × (Nat → Int32) × (Nat → Int32) => q.1 ≤ 1957) (fun q t => bs_E dC dI (va_A [(wk, .inr (4, [.ref mo, .ref wy, .ref nw, .ref ol, .ref lt, .ref es, .ref sf, .ref sl, .ref so, .ref la, .ref li, .ref ru, .int (nI n), .int sc, .int (nI z), .int (nI tt), .int (nI qn), .int d17, .int d18, .int d19])), (wy, .inl (cyI, 1957, .inl fy)), (ta, .inl (cyI, 1957, .inl ft)), (li, .inl (cyI, 1957, .inl fi))] sz) [(wk, .inr (4, [.ref mo, .ref wy, .ref nw, .ref ol, .ref lt, .ref es, .ref sf, .ref sl, .ref so, .ref la, .ref li, .ref ru, .int (nI n), .int sc, .int (nI z), .int (nI tt), .int (nI q.1), .int d17, .int d18, .int d19])), (wy, .inl (cyI, 1957, .inl fy)), (ta, .inl (cyI, 1957, .inl q.2.1)), (li, .inl (cyI, 1957, .inl q.2.2))] t) (va_A [(wk, .inr (4, [.ref mo, .ref wy, .ref nw, .ref ol, .ref lt, .ref es, .ref sf, .ref sl, .ref so, .ref la, .ref li, .ref ru, .int (nI n), .int sc, .int (nI z), .int (nI tt), .int (nI qn), .int d17, .int d18, .int d19])), (wy, .inl (cyI, 1957, .inl fy)), (ta, .inl (cyI, 1957, .inl ft)), (li, .inl (cyI, 1957, .inl fi))] sz)) 0 0 (va_A [(wk, .inr (4, [.ref mo, .ref wy, .ref nw, .ref ol, .ref lt, .ref es, .ref sf, .ref sl, .ref so, .ref la, .ref li, .ref ru, .int (nI n), .int sc, .int (nI z), .int (nI tt), .int (nI qn), .int d17, .int d18, .int d19])), (wy, .inl (cyI, 1957, .inl fy)), (ta, .inl (cyI, 1957, .inl ft)), (li, .inl (cyI, 1957, .inl fi))] sz) := by
  refine Met.ofW (cc := cX6_lineUpWhatHasMet) (maxL := 3) (ret := none) (by decide) rfl ?_
  intro p e s m args below meth c s₁ B hml hv
  obtain ⟨rfl, hsz, hB, hP, hD0⟩ := hv
  have hK := hB.1
  have hN := hB.2
  have hx := B.exec
  have hb := B.bytes
  have hr := B.returns
  have hts := atoms_spec (ws := wsX6_lineUpWhatHasMet) B.pre
  have hown : s.vm.findClass RX6 = some m.cls := findClass_of_methodNamed B.named
  have hlocks := B.notSynchronized
  subst hsz
  have hD := hD0.self (sz := s.heap.size)
  generalize hAe : va_A [(wk, .inr (4, [.ref mo, .ref wy, .ref nw, .ref ol, .ref lt, .ref es, .ref sf, .ref sl, .ref so, .ref la, .ref li, .ref ru, .int (nI n), .int sc, .int (nI z), .int (nI tt), .int (nI qn), .int d17, .int d18, .int d19])), (wy, .inl (cyI, 1957, .inl fy)), (ta, .inl (cyI, 1957, .inl ft)), (li, .inl (cyI, 1957, .inl fi))] s.heap.size = A at hD ⊢
  have hA : ∀ q : Nat, s.heap.size ≤ q → A q := fun q h => by rw [← hAe]; exact Or.inr h
  have hS : va_S A s.heap s.heap [] := va_S.rf
  have hP : va_P (dC, dI) vwCl [(wk, .inr (4, [.ref mo, .ref wy, .ref nw, .ref ol, .ref lt, .ref es, .ref sf, .ref sl, .ref so, .ref la, .ref li, .ref ru, .int (nI n), .int sc, .int (nI z), .int (nI tt), .int (nI qn), .int d17, .int d18, .int d19])), (wy, .inl (cyI, 1957, .inl fy)), (ta, .inl (cyI, 1957, .inl ft)), (li, .inl (cyI, 1957, .inl fi))] s.heap := hP
  have hl := lv_entry ([.ref wk, .ref ta]) (n := 3) (Nat.le_of_ble_eq_true rfl)
  rw [lg_entry_eq]
  generalize (lg_sl ([.ref wk, .ref ta]) ++ List.replicate (3 - (lg_sl ([.ref wk, .ref ta])).length) Slot.unset).toArray = ls at hl ⊢
  have hl : lv_has ls 3 [(0, .ref wk), (1, .ref ta)] := hl
  refine lv_aload_n hx hb dX6_lineUpWhatHasMet_0 rfl (lv_at hl 0 rfl) ?_
  refine lv_iconst (v := 0) hx hb dX6_lineUpWhatHasMet_1 (by decide) ?_
  refine va_put (D := (dC, dI)) (ci := 4) (v := .int 0) (ty := .int) (C := RX6) (T := TX6) (N := 20) hx hb hts hnX6_lineUpWhatHasMet_X6 tyX6 tyX6_ok nmX6 hown hK hP hD hS 0 rfl rfl 16 (by decide) (hts (.fieldLink RX6 141 "RingMeets$Walks" "lineSize" "I") (by decide +kernel)) (fun _ h9 => h9) rfl (by decide +kernel) rfl rfl (Nat.le_of_ble_eq_true rfl) dX6_lineUpWhatHasMet_2 (fun H locs hP hD hS => ?_)
  have hP : va_P (dC, dI) vwCl [(wk, .inr (4, [.ref mo, .ref wy, .ref nw, .ref ol, .ref lt, .ref es, .ref sf, .ref sl, .ref so, .ref la, .ref li, .ref ru, .int (nI n), .int sc, .int (nI z), .int (nI tt), .int 0, .int d17, .int d18, .int d19])), (wy, .inl (cyI, 1957, .inl fy)), (ta, .inl (cyI, 1957, .inl ft)), (li, .inl (cyI, 1957, .inl fi))] _ := hP
  have hD : va_D A [(wk, .inr (4, [.ref mo, .ref wy, .ref nw, .ref ol, .ref lt, .ref es, .ref sf, .ref sl, .ref so, .ref la, .ref li, .ref ru, .int (nI n), .int sc, .int (nI z), .int (nI tt), .int 0, .int d17, .int d18, .int d19])), (wy, .inl (cyI, 1957, .inl fy)), (ta, .inl (cyI, 1957, .inl ft)), (li, .inl (cyI, 1957, .inl fi))] := hD
  refine lv_iconst (v := 0) hx hb dX6_lineUpWhatHasMet_5 (by decide) ?_
  refine lv_istore_n (lv' := [(2, .int 0), (0, .ref wk), (1, .ref ta)]) hx hb dX6_lineUpWhatHasMet_6 rfl hl (by decide) rfl (fun ls hl => ?_)
  have L7 : ∀ (n7 : Nat), ∀ (k : Nat) (qn : Nat) (ft fi : Nat → Int32), (0 ≤ k ∧ k ≤ z) → (z + 1 ≤ k + n7) → (qn ≤ 1957) → ∀ (H : Heap) (locs : List Loc), va_P (dC, dI) vwCl [(wk, .inr (4, [.ref mo, .ref wy, .ref nw, .ref ol, .ref lt, .ref es, .ref sf, .ref sl, .ref so, .ref la, .ref li, .ref ru, .int (nI n), .int sc, .int (nI z), .int (nI tt), .int (nI qn), .int d17, .int d18, .int d19])), (wy, .inl (cyI, 1957, .inl fy)), (ta, .inl (cyI, 1957, .inl ft)), (li, .inl (cyI, 1957, .inl fi))] H → va_D A [(wk, .inr (4, [.ref mo, .ref wy, .ref nw, .ref ol, .ref lt, .ref es, .ref sf, .ref sl, .ref so, .ref la, .ref li, .ref ru, .int (nI n), .int sc, .int (nI z), .int (nI tt), .int (nI qn), .int d17, .int d18, .int d19])), (wy, .inl (cyI, 1957, .inl fy)), (ta, .inl (cyI, 1957, .inl ft)), (li, .inl (cyI, 1957, .inl fi))] → va_S A s.heap H locs → ∀ (ls : Array Slot), lv_has ls 3 [(0, .ref wk), (1, .ref ta), (2, .int (nI k))] → W p l e (headSpec wsX6_lineUpWhatHasMet ({ frames := 2, cells := 0, slots := 0, locals := 44 })).room s m ([.ref wk, .ref ta] : List Value).toArray below meth c H locs 0 0 (MQ below (va_Qv (S := Nat × (Nat → Int32) × (Nat → Int32)) (fun q : Nat × (Nat → Int32) × (Nat → Int32) => q.1 ≤ 1957) (fun q t => bs_E dC dI A [(wk, .inr (4, [.ref mo, .ref wy, .ref nw, .ref ol, .ref lt, .ref es, .ref sf, .ref sl, .ref so, .ref la, .ref li, .ref ru, .int (nI n), .int sc, .int (nI z), .int (nI tt), .int (nI q.1), .int d17, .int d18, .int d19])), (wy, .inl (cyI, 1957, .inl fy)), (ta, .inl (cyI, 1957, .inl q.2.1)), (li, .inl (cyI, 1957, .inl q.2.2))] t) A) ([.ref wk, .ref ta] : List Value).toArray s 0 0 A) (F0 m 7 ls []) := by
    intro n7
    induction n7 with
    | zero =>
      intro k qn ft fi hk7 hn7 hqn H locs hP hD hS ls hl
      exfalso
      omega
    | succ n7 ih7 =>
      intro k qn ft fi hk7 hn7 hqn H locs hP hD hS ls hl
      refine lv_iload_n hx hb dX6_lineUpWhatHasMet_7 rfl (lv_at hl 2 rfl) ?_
      refine lv_aload_n hx hb dX6_lineUpWhatHasMet_8 rfl (lv_at hl 0 rfl) ?_
      refine va_get (D := (dC, dI)) (ci := 4) (v := .int (nI z)) (C := RX6) (T := TX6) (N := 20) hx hb hts hnX6_lineUpWhatHasMet_X6 hown hK hP 0 rfl rfl 14 (by decide) (hts (.fieldLink RX6 64 "RingMeets$Walks" "size" "I") (by decide +kernel)) (fun _ h9 => h9) rfl dX6_lineUpWhatHasMet_9 ?_
      refine lv_icmp_ge (tgt := 48) hx hb dX6_lineUpWhatHasMet_12 (by decide) (fun c_1 => ?_) (fun c_1 => ?_)
      · skip
        have ic_1 := ci_le (nI_toInt (n := z) (by omega)) (nI_toInt (n := k) (by omega)) c_1
        exact W.vret hx hb hr (fun t ht hW => ⟨⟨(qn, ft, fi), rfl, by omega, ⟨by rw [ht]; exact hP.sub (ws' := [(wk, .inr (4, [.ref mo, .ref wy, .ref nw, .ref ol, .ref lt, .ref es, .ref sf, .ref sl, .ref so, .ref la, .ref li, .ref ru, .int (nI n), .int sc, .int (nI z), .int (nI tt), .int (nI qn), .int d17, .int d18, .int d19])), (wy, .inl (cyI, 1957, .inl fy)), (ta, .inl (cyI, 1957, .inl ft)), (li, .inl (cyI, 1957, .inl fi))]) [0, 1, 2, 3] rfl, hD.sub (ws' := [(wk, .inr (4, [.ref mo, .ref wy, .ref nw, .ref ol, .ref lt, .ref es, .ref sf, .ref sl, .ref so, .ref la, .ref li, .ref ru, .int (nI n), .int sc, .int (nI z), .int (nI tt), .int (nI qn), .int d17, .int d18, .int d19])), (wy, .inl (cyI, 1957, .inl fy)), (ta, .inl (cyI, 1957, .inl ft)), (li, .inl (cyI, 1957, .inl fi))]) [0, 1, 2, 3] (by decide) rfl⟩⟩, hS.F ht⟩) hS.2.2 dX6_lineUpWhatHasMet_48
      · skip
        have ic_1 := ci_nle (nI_toInt (n := z) (by omega)) (nI_toInt (n := k) (by omega)) c_1
        refine lv_iload_n hx hb dX6_lineUpWhatHasMet_15 rfl (lv_at hl 2 rfl) ?_
        refine lv_sipush (v := 1957) hx hb dX6_lineUpWhatHasMet_16 (by decide) ?_
        refine lv_icmp_ge (tgt := 48) hx hb dX6_lineUpWhatHasMet_19 (by decide) (fun c_2 => ?_) (fun c_2 => ?_)
        · skip
          have ic_2 := ci_le (show Int32.toInt 1957 = 1957 by decide) (nI_toInt (n := k) (by omega)) c_2
          exact W.vret hx hb hr (fun t ht hW => ⟨⟨(qn, ft, fi), rfl, by omega, ⟨by rw [ht]; exact hP.sub (ws' := [(wk, .inr (4, [.ref mo, .ref wy, .ref nw, .ref ol, .ref lt, .ref es, .ref sf, .ref sl, .ref so, .ref la, .ref li, .ref ru, .int (nI n), .int sc, .int (nI z), .int (nI tt), .int (nI qn), .int d17, .int d18, .int d19])), (wy, .inl (cyI, 1957, .inl fy)), (ta, .inl (cyI, 1957, .inl ft)), (li, .inl (cyI, 1957, .inl fi))]) [0, 1, 2, 3] rfl, hD.sub (ws' := [(wk, .inr (4, [.ref mo, .ref wy, .ref nw, .ref ol, .ref lt, .ref es, .ref sf, .ref sl, .ref so, .ref la, .ref li, .ref ru, .int (nI n), .int sc, .int (nI z), .int (nI tt), .int (nI qn), .int d17, .int d18, .int d19])), (wy, .inl (cyI, 1957, .inl fy)), (ta, .inl (cyI, 1957, .inl ft)), (li, .inl (cyI, 1957, .inl fi))]) [0, 1, 2, 3] (by decide) rfl⟩⟩, hS.F ht⟩) hS.2.2 dX6_lineUpWhatHasMet_48
        · skip
          have ic_2 := ci_nle (show Int32.toInt 1957 = 1957 by decide) (nI_toInt (n := k) (by omega)) c_2
          refine lv_aload_n hx hb dX6_lineUpWhatHasMet_22 rfl (lv_at hl 1 rfl) ?_
          refine lv_iload_n hx hb dX6_lineUpWhatHasMet_23 rfl (lv_at hl 2 rfl) ?_
          refine lv_bipush (v := (-6)) hx hb dX6_lineUpWhatHasMet_24 (by decide) ?_
          refine va_iast (D := (dC, dI)) hx hb hK hP hD hS 2 0 rfl rfl (vp_in_nI (n := k) (N := 1957) (by omega) (by omega)) dX6_lineUpWhatHasMet_26 (fun H locs hP hD hS => ?_)
          obtain ⟨g_3, eg_3⟩ : ∃ y : Nat → Int32, y = upd ft (Int32.toNatClampNeg (nI k)) (-6) := ⟨_, rfl⟩
          have hP : va_P (dC, dI) vwCl [(wk, .inr (4, [.ref mo, .ref wy, .ref nw, .ref ol, .ref lt, .ref es, .ref sf, .ref sl, .ref so, .ref la, .ref li, .ref ru, .int (nI n), .int sc, .int (nI z), .int (nI tt), .int (nI qn), .int d17, .int d18, .int d19])), (wy, .inl (cyI, 1957, .inl fy)), (ta, .inl (cyI, 1957, .inl g_3)), (li, .inl (cyI, 1957, .inl fi))] H := by rw [eg_3]; exact hP
          have hD : va_D A [(wk, .inr (4, [.ref mo, .ref wy, .ref nw, .ref ol, .ref lt, .ref es, .ref sf, .ref sl, .ref so, .ref la, .ref li, .ref ru, .int (nI n), .int sc, .int (nI z), .int (nI tt), .int (nI qn), .int d17, .int d18, .int d19])), (wy, .inl (cyI, 1957, .inl fy)), (ta, .inl (cyI, 1957, .inl g_3)), (li, .inl (cyI, 1957, .inl fi))] := by rw [eg_3]; exact hD
          rw [nI_clamp (n := k) (by omega)] at eg_3
          refine lv_aload_n hx hb dX6_lineUpWhatHasMet_27 rfl (lv_at hl 0 rfl) ?_
          refine lv_iload_n hx hb dX6_lineUpWhatHasMet_28 rfl (lv_at hl 2 rfl) ?_
          refine vp_callSi (va_Run.run (va_runV (As := [.int (nI k)]) (rest := []) ⟨hx, hb, hml, hown, hts⟩ (mX6_hasMet l dC dI cyI cyZ wk mo wy nw ol lt es sf sl so la li ru n z tt qn sc d17 d18 d19 fy (nI k) (by omega) (by omega) (by omega) (by omega)) (cwV 1 hts gX6_lineUpWhatHasMet_X6_hasMet rfl rfl rfl (by decide +kernel) ⟨Nat.le_of_ble_eq_true rfl, Nat.le_of_ble_eq_true rfl⟩) (bs_RV hB (hP.sub (ws' := [(wk, .inr (4, [.ref mo, .ref wy, .ref nw, .ref ol, .ref lt, .ref es, .ref sf, .ref sl, .ref so, .ref la, .ref li, .ref ru, .int (nI n), .int sc, .int (nI z), .int (nI tt), .int (nI qn), .int d17, .int d18, .int d19])), (wy, .inl (cyI, 1957, .inl fy))]) [0, 1] rfl) 0 rfl rfl) rfl rfl hl.1 rfl (lv_room (Nat.le_of_ble_eq_true rfl)) dX6_lineUpWhatHasMet_29 ⟨Nat.le_of_ble_eq_true rfl, Nat.le_of_ble_eq_true rfl⟩)) (fun r_4 hr_4 => ?_)
          refine lv_if_eq (tgt := 42) hx hb dX6_lineUpWhatHasMet_32 (by decide) (fun c_5 => ?_) (fun c_5 => ?_)
          · skip
            have ic_5 := ci_eq (rfl : Int32.toInt r_4 = _) (show Int32.toInt 0 = 0 by decide) c_5
            refine lv_iinc (v := (nI (k + 1))) (lv' := [(2, .int (nI (k + 1))), (0, .ref wk), (1, .ref ta)]) hx hb dX6_lineUpWhatHasMet_42 hl (k := 2) rfl (nI_1 _) (by decide) rfl (fun ls hl => ?_)
            refine lv_goto (tgt := 7) hx hb dX6_lineUpWhatHasMet_45 (by decide) ?_
            exact ih7 (k + 1) qn g_3 fi ⟨by omega, by omega⟩ (by omega) (by omega) _ _ (hP.sub [0, 1, 2, 3] rfl) (hD.sub [0, 1, 2, 3] (by decide) rfl) hS _ (lv_sub hl [1, 2, 0] rfl)
          · skip
            have ic_5 := ci_ne (rfl : Int32.toInt r_4 = _) (show Int32.toInt 0 = 0 by decide) c_5
            refine lv_aload_n hx hb dX6_lineUpWhatHasMet_35 rfl (lv_at hl 0 rfl) ?_
            refine lv_aload_n hx hb dX6_lineUpWhatHasMet_36 rfl (lv_at hl 1 rfl) ?_
            refine lv_iload_n hx hb dX6_lineUpWhatHasMet_37 rfl (lv_at hl 2 rfl) ?_
            refine lv_iconst (v := 0) hx hb dX6_lineUpWhatHasMet_38 (by decide) ?_
            have f_6 := va_free (wc := [(wk, .inr (4, [.ref mo, .ref wy, .ref nw, .ref ol, .ref lt, .ref es, .ref sf, .ref sl, .ref so, .ref la, .ref li, .ref ru, .int (nI n), .int sc, .int (nI z), .int (nI tt), .int (nI qn), .int d17, .int d18, .int d19])), (ta, .inl (cyI, 1957, .inl g_3)), (li, .inl (cyI, 1957, .inl fi))]) hD hS hA [0, 2, 3] rfl
            refine va_callv (va_runV (As := [.ref ta, .int (nI k), .int 0]) (rest := []) ⟨hx, hb, hml, hown, hts⟩ (mX6_lineUp l dC dI cyI cyZ wk mo wy nw ol lt es sf sl so la li ru n z tt qn sc d17 d18 d19 ta g_3 fi (nI k) 0 (by omega) (by omega) (by omega) (by omega) _) (cwV 3 hts gX6_lineUpWhatHasMet_X6_lineUp rfl rfl rfl (by decide +kernel) ⟨Nat.le_of_ble_eq_true rfl, Nat.le_of_ble_eq_true rfl⟩) (bs_WV hB (hP.sub (ws' := [(wk, .inr (4, [.ref mo, .ref wy, .ref nw, .ref ol, .ref lt, .ref es, .ref sf, .ref sl, .ref so, .ref la, .ref li, .ref ru, .int (nI n), .int sc, .int (nI z), .int (nI tt), .int (nI qn), .int d17, .int d18, .int d19])), (ta, .inl (cyI, 1957, .inl g_3)), (li, .inl (cyI, 1957, .inl fi))]) [0, 2, 3] rfl) (hD.sub (ws' := [(wk, .inr (4, [.ref mo, .ref wy, .ref nw, .ref ol, .ref lt, .ref es, .ref sf, .ref sl, .ref so, .ref la, .ref li, .ref ru, .int (nI n), .int sc, .int (nI z), .int (nI tt), .int (nI qn), .int d17, .int d18, .int d19])), (ta, .inl (cyI, 1957, .inl g_3)), (li, .inl (cyI, 1957, .inl fi))]) [0, 2, 3] (by decide) rfl) 0 rfl rfl) rfl rfl hl.1 rfl (lv_room (Nat.le_of_ble_eq_true rfl)) dX6_lineUpWhatHasMet_39 ⟨Nat.le_of_ble_eq_true rfl, Nat.le_of_ble_eq_true rfl⟩) hS (fun q _ h => f_6 q h) f_6 (fun uh_7 t H1 locs ht hvm h_7 hB1 hz1 hk1 hS => ?_)
            obtain ⟨v_8, g_9, g_10⟩ := uh_7
            have h_7 : v_8 ≤ 1957 := h_7
            obtain ⟨hP1, hD1⟩ := hB1
            rw [ht] at hP1
            obtain ⟨hP, hD⟩ := va_join (wr := [(wy, .inl (cyI, 1957, .inl fy))]) (w1 := [(wk, .inr (4, [.ref mo, .ref wy, .ref nw, .ref ol, .ref lt, .ref es, .ref sf, .ref sl, .ref so, .ref la, .ref li, .ref ru, .int (nI n), .int sc, .int (nI z), .int (nI tt), .int (nI v_8), .int d17, .int d18, .int d19])), (ta, .inl (cyI, 1957, .inl g_9)), (li, .inl (cyI, 1957, .inl g_10))]) hP hD [0, 2, 3] [1] rfl rfl (by decide) (by decide) hk1 f_6 hP1 hD1
            generalize H1 = H at hP hS ⊢
            have hP : va_P (dC, dI) vwCl [(wy, .inl (cyI, 1957, .inl fy)), (wk, .inr (4, [.ref mo, .ref wy, .ref nw, .ref ol, .ref lt, .ref es, .ref sf, .ref sl, .ref so, .ref la, .ref li, .ref ru, .int (nI n), .int sc, .int (nI z), .int (nI tt), .int (nI v_8), .int d17, .int d18, .int d19])), (ta, .inl (cyI, 1957, .inl g_9)), (li, .inl (cyI, 1957, .inl g_10))] _ := hP
            have hD : va_D A [(wy, .inl (cyI, 1957, .inl fy)), (wk, .inr (4, [.ref mo, .ref wy, .ref nw, .ref ol, .ref lt, .ref es, .ref sf, .ref sl, .ref so, .ref la, .ref li, .ref ru, .int (nI n), .int sc, .int (nI z), .int (nI tt), .int (nI v_8), .int d17, .int d18, .int d19])), (ta, .inl (cyI, 1957, .inl g_9)), (li, .inl (cyI, 1957, .inl g_10))] := hD
            refine lv_iinc (v := (nI (k + 1))) (lv' := [(2, .int (nI (k + 1))), (0, .ref wk), (1, .ref ta)]) hx hb dX6_lineUpWhatHasMet_42 hl (k := 2) rfl (nI_1 _) (by decide) rfl (fun ls hl => ?_)
            refine lv_goto (tgt := 7) hx hb dX6_lineUpWhatHasMet_45 (by decide) ?_
            exact ih7 (k + 1) v_8 g_9 g_10 ⟨by omega, by omega⟩ (by omega) (by omega) _ _ (hP.sub [1, 0, 2, 3] rfl) (hD.sub [1, 0, 2, 3] (by decide) rfl) hS _ (lv_sub hl [1, 2, 0] rfl)
  exact L7 (z + 1) 0 0 ft fi ⟨by omega, by omega⟩ (by omega) (by omega) _ _ (hP.sub [0, 1, 2, 3] rfl) (hD.sub [0, 1, 2, 3] (by decide) rfl) hS _ (lv_sub hl [1, 2, 0] rfl)

theorem hnX6_isLastStepOf_X6 : ∀ w ∈ wsX60, w ∈ wsX6_isLastStepOf := fun _ h => List.mem_cons_of_mem _ (List.mem_append_right _ h)
set_option maxHeartbeats 4000000 in
set_option maxRecDepth 100000 in
theorem mX6_isLastStepOf (l : Launch) (dC : Nat → ClassId) (dI : Nat → Nat → Nat) (cyI cyZ : ClassId) (wk : Nat) (mo : Nat) (wy : Nat) (nw : Nat) (ol : Nat) (lt : Nat) (es : Nat) (sf : Nat) (sl : Nat) (so : Nat) (la : Nat) (li : Nat) (ru : Nat) (n : Nat) (z : Nat) (tt : Nat) (qn : Nat) (sc : Int32) (d17 : Int32) (d18 : Int32) (d19 : Int32) (fc : Nat → Int32) (p1 : Int32) (hn : n ≤ 10) (hz : z ≤ 1957) (htt : tt ≤ 25857) (hqn : qn ≤ 1957) (sz : Nat) : Met l yX6_isLastStepOf wsX6_isLastStepOf ({ frames := 1, cells := 0, slots := 0, locals := 21 }) (bs_W dC dI cyI cyZ [.ref wk, .int p1] [(wk, .inr (4, [.ref mo, .ref wy, .ref nw, .ref ol, .ref lt, .ref es, .ref sf, .ref sl, .ref so, .ref la, .ref li, .ref ru, .int (nI n), .int sc, .int (nI z), .int (nI tt), .int (nI qn), .int d17, .int d18, .int d19])), (sl, .inl (cyI, 1957, .inl fc))] sz) (va_Qi (S := (Nat → Int32)) (fun (r : Int32) (q : (Nat → Int32)) => r = 0 ∨ r = 1) (fun q t => bs_E dC dI (va_A [(wk, .inr (4, [.ref mo, .ref wy, .ref nw, .ref ol, .ref lt, .ref es, .ref sf, .ref sl, .ref so, .ref la, .ref li, .ref ru, .int (nI n), .int sc, .int (nI z), .int (nI tt), .int (nI qn), .int d17, .int d18, .int d19])), (sl, .inl (cyI, 1957, .inl fc))] sz) [(wk, .inr (4, [.ref mo, .ref wy, .ref nw, .ref ol, .ref lt, .ref es, .ref sf, .ref sl, .ref so, .ref la, .ref li, .ref ru, .int (nI n), .int sc, .int (nI z), .int (nI tt), .int (nI qn), .int d17, .int d18, .int d19])), (sl, .inl (cyI, 1957, .inl q))] t) (va_A [(wk, .inr (4, [.ref mo, .ref wy, .ref nw, .ref ol, .ref lt, .ref es, .ref sf, .ref sl, .ref so, .ref la, .ref li, .ref ru, .int (nI n), .int sc, .int (nI z), .int (nI tt), .int (nI qn), .int d17, .int d18, .int d19])), (sl, .inl (cyI, 1957, .inl fc))] sz)) 0 0 (va_A [(wk, .inr (4, [.ref mo, .ref wy, .ref nw, .ref ol, .ref lt, .ref es, .ref sf, .ref sl, .ref so, .ref la, .ref li, .ref ru, .int (nI n), .int sc, .int (nI z), .int (nI tt), .int (nI qn), .int d17, .int d18, .int d19])), (sl, .inl (cyI, 1957, .inl fc))] sz) := by
  refine Met.ofW (cc := cX6_isLastStepOf) (maxL := 2) (ret := (some .boolean)) (by decide) rfl ?_
  intro p e s m args below meth c s₁ B hml hv
  obtain ⟨rfl, hsz, hB, hP, hD0⟩ := hv
  have hK := hB.1
  have hN := hB.2
  have hx := B.exec
  have hb := B.bytes
  have hr := B.returns
  have hts := atoms_spec (ws := wsX6_isLastStepOf) B.pre
  have hown : s.vm.findClass RX6 = some m.cls := findClass_of_methodNamed B.named
  have hlocks := B.notSynchronized
  subst hsz
  have hD := hD0.self (sz := s.heap.size)
  generalize hAe : va_A [(wk, .inr (4, [.ref mo, .ref wy, .ref nw, .ref ol, .ref lt, .ref es, .ref sf, .ref sl, .ref so, .ref la, .ref li, .ref ru, .int (nI n), .int sc, .int (nI z), .int (nI tt), .int (nI qn), .int d17, .int d18, .int d19])), (sl, .inl (cyI, 1957, .inl fc))] s.heap.size = A at hD ⊢
  have hA : ∀ q : Nat, s.heap.size ≤ q → A q := fun q h => by rw [← hAe]; exact Or.inr h
  have hS : va_S A s.heap s.heap [] := va_S.rf
  have hP : va_P (dC, dI) vwCl [(wk, .inr (4, [.ref mo, .ref wy, .ref nw, .ref ol, .ref lt, .ref es, .ref sf, .ref sl, .ref so, .ref la, .ref li, .ref ru, .int (nI n), .int sc, .int (nI z), .int (nI tt), .int (nI qn), .int d17, .int d18, .int d19])), (sl, .inl (cyI, 1957, .inl fc))] s.heap := hP
  have hl := lv_entry ([.ref wk, .int p1]) (n := 2) (Nat.le_of_ble_eq_true rfl)
  rw [lg_entry_eq]
  generalize (lg_sl ([.ref wk, .int p1]) ++ List.replicate (2 - (lg_sl ([.ref wk, .int p1])).length) Slot.unset).toArray = ls at hl ⊢
  have hl : lv_has ls 2 [(0, .ref wk), (1, .int p1)] := hl
  refine lv_aload_n hx hb dX6_isLastStepOf_0 rfl (lv_at hl 0 rfl) ?_
  refine lv_iload_n hx hb dX6_isLastStepOf_1 rfl (lv_at hl 1 rfl) ?_
  refine vp_callSi (va_Run.run (va_runV (As := [.int p1]) (rest := []) ⟨hx, hb, hml, hown, hts⟩ (mX6_isWay l dC dI cyI cyZ wk mo wy nw ol lt es sf sl so la li ru n z tt qn sc d17 d18 d19 p1 (by omega)) (cwV 1 hts gX6_isLastStepOf_X6_isWay rfl rfl rfl (by decide +kernel) ⟨Nat.le_of_ble_eq_true rfl, Nat.le_of_ble_eq_true rfl⟩) (bs_RV hB (hP.sub (ws' := [(wk, .inr (4, [.ref mo, .ref wy, .ref nw, .ref ol, .ref lt, .ref es, .ref sf, .ref sl, .ref so, .ref la, .ref li, .ref ru, .int (nI n), .int sc, .int (nI z), .int (nI tt), .int (nI qn), .int d17, .int d18, .int d19]))]) [0] rfl) 0 rfl rfl) rfl rfl hl.1 rfl (lv_room (Nat.le_of_ble_eq_true rfl)) dX6_isLastStepOf_2 ⟨Nat.le_of_ble_eq_true rfl, Nat.le_of_ble_eq_true rfl⟩)) (fun r_1 hr_1 => ?_)
  refine lv_if_ne (tgt := 10) hx hb dX6_isLastStepOf_5 (by decide) (fun c_2 => ?_) (fun c_2 => ?_)
  · skip
    have ic_2 := ci_ne (rfl : Int32.toInt r_1 = _) (show Int32.toInt 0 = 0 by decide) c_2
    obtain ⟨hwl, hwu⟩ := hr_1.2 (hr_1.1.resolve_left c_2)
    refine lv_aload_n hx hb dX6_isLastStepOf_10 rfl (lv_at hl 0 rfl) ?_
    refine va_get (D := (dC, dI)) (ci := 4) (v := .ref sl) (C := RX6) (T := TX6) (N := 20) hx hb hts hnX6_isLastStepOf_X6 hown hK hP 0 rfl rfl 7 (by decide) (hts (.fieldLink RX6 37 "RingMeets$Walks" "stepsLeft" "[I") (by decide +kernel)) (fun _ h9 => h9) rfl dX6_isLastStepOf_11 ?_
    refine lv_iload_n hx hb dX6_isLastStepOf_14 rfl (lv_at hl 1 rfl) ?_
    refine lv_dup2_11 hx hb dX6_isLastStepOf_15 rfl rfl ?_
    refine va_iald (D := (dC, dI)) hx hb hK hP 1 0 rfl rfl (nb_in (x := p1) (n := 1957) (by omega) (by omega)) dX6_isLastStepOf_16 ?_
    refine lv_topi (fun x_3 ex_3 => ?_)
    refine lv_iconst (v := 1) hx hb dX6_isLastStepOf_17 (by decide) ?_
    refine lv_isub hx hb dX6_isLastStepOf_18 ?_
    refine lv_topi (fun x_4 ex_4 => ?_)
    refine va_iast (D := (dC, dI)) hx hb hK hP hD hS 1 0 rfl rfl (nb_in (x := p1) (n := 1957) (by omega) (by omega)) dX6_isLastStepOf_19 (fun H locs hP hD hS => ?_)
    obtain ⟨g_5, eg_5⟩ : ∃ y : Nat → Int32, y = upd fc (Int32.toNatClampNeg p1) x_4 := ⟨_, rfl⟩
    have hP : va_P (dC, dI) vwCl [(wk, .inr (4, [.ref mo, .ref wy, .ref nw, .ref ol, .ref lt, .ref es, .ref sf, .ref sl, .ref so, .ref la, .ref li, .ref ru, .int (nI n), .int sc, .int (nI z), .int (nI tt), .int (nI qn), .int d17, .int d18, .int d19])), (sl, .inl (cyI, 1957, .inl g_5))] H := by rw [eg_5]; exact hP
    have hD : va_D A [(wk, .inr (4, [.ref mo, .ref wy, .ref nw, .ref ol, .ref lt, .ref es, .ref sf, .ref sl, .ref so, .ref la, .ref li, .ref ru, .int (nI n), .int sc, .int (nI z), .int (nI tt), .int (nI qn), .int d17, .int d18, .int d19])), (sl, .inl (cyI, 1957, .inl g_5))] := by rw [eg_5]; exact hD
    refine lv_aload_n hx hb dX6_isLastStepOf_20 rfl (lv_at hl 0 rfl) ?_
    refine va_get (D := (dC, dI)) (ci := 4) (v := .ref sl) (C := RX6) (T := TX6) (N := 20) hx hb hts hnX6_isLastStepOf_X6 hown hK hP 0 rfl rfl 7 (by decide) (hts (.fieldLink RX6 37 "RingMeets$Walks" "stepsLeft" "[I") (by decide +kernel)) (fun _ h9 => h9) rfl dX6_isLastStepOf_21 ?_
    refine lv_iload_n hx hb dX6_isLastStepOf_24 rfl (lv_at hl 1 rfl) ?_
    refine va_iald (D := (dC, dI)) hx hb hK hP 1 0 rfl rfl (nb_in (x := p1) (n := 1957) (by omega) (by omega)) dX6_isLastStepOf_25 ?_
    refine lv_topi (fun x_6 ex_6 => ?_)
    refine lv_if_ne (tgt := 33) hx hb dX6_isLastStepOf_26 (by decide) (fun c_7 => ?_) (fun c_7 => ?_)
    · skip
      have ic_7 := ci_ne (rfl : Int32.toInt x_6 = _) (show Int32.toInt 0 = 0 by decide) c_7
      refine lv_iconst (v := 0) hx hb dX6_isLastStepOf_33 (by decide) ?_
      exact W.zret (v := 0) hx hb hr (show narrow .boolean (.int 0) = .int 0 from rfl) (fun t ht hW => ⟨⟨0, g_5, rfl, Or.inl rfl, ⟨by rw [ht]; exact hP.sub (ws' := [(wk, .inr (4, [.ref mo, .ref wy, .ref nw, .ref ol, .ref lt, .ref es, .ref sf, .ref sl, .ref so, .ref la, .ref li, .ref ru, .int (nI n), .int sc, .int (nI z), .int (nI tt), .int (nI qn), .int d17, .int d18, .int d19])), (sl, .inl (cyI, 1957, .inl g_5))]) [0, 1] rfl, hD.sub (ws' := [(wk, .inr (4, [.ref mo, .ref wy, .ref nw, .ref ol, .ref lt, .ref es, .ref sf, .ref sl, .ref so, .ref la, .ref li, .ref ru, .int (nI n), .int sc, .int (nI z), .int (nI tt), .int (nI qn), .int d17, .int d18, .int d19])), (sl, .inl (cyI, 1957, .inl g_5))]) [0, 1] (by decide) rfl⟩⟩, hS.F ht⟩) hS.2.2 dX6_isLastStepOf_34
    · skip
      have ic_7 := ci_eq (rfl : Int32.toInt x_6 = _) (show Int32.toInt 0 = 0 by decide) c_7
      refine lv_iconst (v := 1) hx hb dX6_isLastStepOf_29 (by decide) ?_
      refine lv_goto (tgt := 34) hx hb dX6_isLastStepOf_30 (by decide) ?_
      exact W.zret (v := 1) hx hb hr (show narrow .boolean (.int 1) = .int 1 from rfl) (fun t ht hW => ⟨⟨1, g_5, rfl, Or.inr rfl, ⟨by rw [ht]; exact hP.sub (ws' := [(wk, .inr (4, [.ref mo, .ref wy, .ref nw, .ref ol, .ref lt, .ref es, .ref sf, .ref sl, .ref so, .ref la, .ref li, .ref ru, .int (nI n), .int sc, .int (nI z), .int (nI tt), .int (nI qn), .int d17, .int d18, .int d19])), (sl, .inl (cyI, 1957, .inl g_5))]) [0, 1] rfl, hD.sub (ws' := [(wk, .inr (4, [.ref mo, .ref wy, .ref nw, .ref ol, .ref lt, .ref es, .ref sf, .ref sl, .ref so, .ref la, .ref li, .ref ru, .int (nI n), .int sc, .int (nI z), .int (nI tt), .int (nI qn), .int d17, .int d18, .int d19])), (sl, .inl (cyI, 1957, .inl g_5))]) [0, 1] (by decide) rfl⟩⟩, hS.F ht⟩) hS.2.2 dX6_isLastStepOf_34
  · skip
    have ic_2 := ci_eq (rfl : Int32.toInt r_1 = _) (show Int32.toInt 0 = 0 by decide) c_2
    refine lv_iconst (v := 0) hx hb dX6_isLastStepOf_8 (by decide) ?_
    exact W.zret (v := 0) hx hb hr (show narrow .boolean (.int 0) = .int 0 from rfl) (fun t ht hW => ⟨⟨0, fc, rfl, Or.inl rfl, ⟨by rw [ht]; exact hP.sub (ws' := [(wk, .inr (4, [.ref mo, .ref wy, .ref nw, .ref ol, .ref lt, .ref es, .ref sf, .ref sl, .ref so, .ref la, .ref li, .ref ru, .int (nI n), .int sc, .int (nI z), .int (nI tt), .int (nI qn), .int d17, .int d18, .int d19])), (sl, .inl (cyI, 1957, .inl fc))]) [0, 1] rfl, hD.sub (ws' := [(wk, .inr (4, [.ref mo, .ref wy, .ref nw, .ref ol, .ref lt, .ref es, .ref sf, .ref sl, .ref so, .ref la, .ref li, .ref ru, .int (nI n), .int sc, .int (nI z), .int (nI tt), .int (nI qn), .int d17, .int d18, .int d19])), (sl, .inl (cyI, 1957, .inl fc))]) [0, 1] (by decide) rfl⟩⟩, hS.F ht⟩) hS.2.2 dX6_isLastStepOf_9

theorem hnX6_tellBackwards_X6 : ∀ w ∈ wsX60, w ∈ wsX6_tellBackwards := fun _ h => List.mem_cons_of_mem _ (List.mem_append_right _ h)
set_option maxHeartbeats 4000000 in
set_option maxRecDepth 100000 in
theorem mX6_tellBackwards (l : Launch) (dC : Nat → ClassId) (dI : Nat → Nat → Nat) (cyI cyZ : ClassId) (wk : Nat) (mo : Nat) (wy : Nat) (nw : Nat) (ol : Nat) (lt : Nat) (es : Nat) (sf : Nat) (sl : Nat) (so : Nat) (la : Nat) (li : Nat) (ru : Nat) (n : Nat) (z : Nat) (tt : Nat) (qn : Nat) (sc : Int32) (d17 : Int32) (d18 : Int32) (d19 : Int32) (ta : Nat) (fy : Nat → Int32) (ft : Nat → Int32) (fi : Nat → Int32) (fl : Nat → Int32) (fe : Nat → Int32) (ff : Nat → Int32) (fc : Nat → Int32) (p2 : Int32) (hn : n ≤ 10) (hz : z ≤ 1957) (htt : tt ≤ 25857) (hqn : qn ≤ 1957) (sz : Nat) : Met l yX6_tellBackwards wsX6_tellBackwards ({ frames := 3, cells := 0, slots := 0, locals := 66 }) (bs_W dC dI cyI cyZ [.ref wk, .ref ta, .int p2] [(wk, .inr (4, [.ref mo, .ref wy, .ref nw, .ref ol, .ref lt, .ref es, .ref sf, .ref sl, .ref so, .ref la, .ref li, .ref ru, .int (nI n), .int sc, .int (nI z), .int (nI tt), .int (nI qn), .int d17, .int d18, .int d19])), (wy, .inl (cyI, 1957, .inl fy)), (ta, .inl (cyI, 1957, .inl ft)), (li, .inl (cyI, 1957, .inl fi)), (lt, .inl (cyI, 1957, .inl fl)), (es, .inl (cyI, 25857, .inl fe)), (sf, .inl (cyI, 25857, .inl ff)), (sl, .inl (cyI, 1957, .inl fc))] sz) (va_Qv (S := Nat × (Nat → Int32) × (Nat → Int32) × (Nat → Int32)) (fun q : Nat × (Nat → Int32) × (Nat → Int32) × (Nat → Int32) => q.1 ≤ 1957) (fun q t => bs_E dC dI (va_A [(wk, .inr (4, [.ref mo, .ref wy, .ref nw, .ref ol, .ref lt, .ref es, .ref sf, .ref sl, .ref so, .ref la, .ref li, .ref ru, .int (nI n), .int sc, .int (nI z), .int (nI tt), .int (nI qn), .int d17, .int d18, .int d19])), (wy, .inl (cyI, 1957, .inl fy)), (ta, .inl (cyI, 1957, .inl ft)), (li, .inl (cyI, 1957, .inl fi)), (lt, .inl (cyI, 1957, .inl fl)), (es, .inl (cyI, 25857, .inl fe)), (sf, .inl (cyI, 25857, .inl ff)), (sl, .inl (cyI, 1957, .inl fc))] sz) [(wk, .inr (4, [.ref mo, .ref wy, .ref nw, .ref ol, .ref lt, .ref es, .ref sf, .ref sl, .ref so, .ref la, .ref li, .ref ru, .int (nI n), .int sc, .int (nI z), .int (nI tt), .int (nI q.1), .int d17, .int d18, .int d19])), (wy, .inl (cyI, 1957, .inl fy)), (ta, .inl (cyI, 1957, .inl q.2.1)), (li, .inl (cyI, 1957, .inl q.2.2.1)), (lt, .inl (cyI, 1957, .inl fl)), (es, .inl (cyI, 25857, .inl fe)), (sf, .inl (cyI, 25857, .inl ff)), (sl, .inl (cyI, 1957, .inl q.2.2.2))] t) (va_A [(wk, .inr (4, [.ref mo, .ref wy, .ref nw, .ref ol, .ref lt, .ref es, .ref sf, .ref sl, .ref so, .ref la, .ref li, .ref ru, .int (nI n), .int sc, .int (nI z), .int (nI tt), .int (nI qn), .int d17, .int d18, .int d19])), (wy, .inl (cyI, 1957, .inl fy)), (ta, .inl (cyI, 1957, .inl ft)), (li, .inl (cyI, 1957, .inl fi)), (lt, .inl (cyI, 1957, .inl fl)), (es, .inl (cyI, 25857, .inl fe)), (sf, .inl (cyI, 25857, .inl ff)), (sl, .inl (cyI, 1957, .inl fc))] sz)) 0 0 (va_A [(wk, .inr (4, [.ref mo, .ref wy, .ref nw, .ref ol, .ref lt, .ref es, .ref sf, .ref sl, .ref so, .ref la, .ref li, .ref ru, .int (nI n), .int sc, .int (nI z), .int (nI tt), .int (nI qn), .int d17, .int d18, .int d19])), (wy, .inl (cyI, 1957, .inl fy)), (ta, .inl (cyI, 1957, .inl ft)), (li, .inl (cyI, 1957, .inl fi)), (lt, .inl (cyI, 1957, .inl fl)), (es, .inl (cyI, 25857, .inl fe)), (sf, .inl (cyI, 25857, .inl ff)), (sl, .inl (cyI, 1957, .inl fc))] sz) := by
  refine Met.ofW (cc := cX6_tellBackwards) (maxL := 8) (ret := none) (by decide) rfl ?_
  intro p e s m args below meth c s₁ B hml hv
  obtain ⟨rfl, hsz, hB, hP, hD0⟩ := hv
  have hK := hB.1
  have hN := hB.2
  have hx := B.exec
  have hb := B.bytes
  have hr := B.returns
  have hts := atoms_spec (ws := wsX6_tellBackwards) B.pre
  have hown : s.vm.findClass RX6 = some m.cls := findClass_of_methodNamed B.named
  have hlocks := B.notSynchronized
  subst hsz
  have hD := hD0.self (sz := s.heap.size)
  generalize hAe : va_A [(wk, .inr (4, [.ref mo, .ref wy, .ref nw, .ref ol, .ref lt, .ref es, .ref sf, .ref sl, .ref so, .ref la, .ref li, .ref ru, .int (nI n), .int sc, .int (nI z), .int (nI tt), .int (nI qn), .int d17, .int d18, .int d19])), (wy, .inl (cyI, 1957, .inl fy)), (ta, .inl (cyI, 1957, .inl ft)), (li, .inl (cyI, 1957, .inl fi)), (lt, .inl (cyI, 1957, .inl fl)), (es, .inl (cyI, 25857, .inl fe)), (sf, .inl (cyI, 25857, .inl ff)), (sl, .inl (cyI, 1957, .inl fc))] s.heap.size = A at hD ⊢
  have hA : ∀ q : Nat, s.heap.size ≤ q → A q := fun q h => by rw [← hAe]; exact Or.inr h
  have hS : va_S A s.heap s.heap [] := va_S.rf
  have hP : va_P (dC, dI) vwCl [(wk, .inr (4, [.ref mo, .ref wy, .ref nw, .ref ol, .ref lt, .ref es, .ref sf, .ref sl, .ref so, .ref la, .ref li, .ref ru, .int (nI n), .int sc, .int (nI z), .int (nI tt), .int (nI qn), .int d17, .int d18, .int d19])), (wy, .inl (cyI, 1957, .inl fy)), (ta, .inl (cyI, 1957, .inl ft)), (li, .inl (cyI, 1957, .inl fi)), (lt, .inl (cyI, 1957, .inl fl)), (es, .inl (cyI, 25857, .inl fe)), (sf, .inl (cyI, 25857, .inl ff)), (sl, .inl (cyI, 1957, .inl fc))] s.heap := hP
  have hl := lv_entry ([.ref wk, .ref ta, .int p2]) (n := 8) (Nat.le_of_ble_eq_true rfl)
  rw [lg_entry_eq]
  generalize (lg_sl ([.ref wk, .ref ta, .int p2]) ++ List.replicate (8 - (lg_sl ([.ref wk, .ref ta, .int p2])).length) Slot.unset).toArray = ls at hl ⊢
  have hl : lv_has ls 8 [(0, .ref wk), (1, .ref ta), (2, .int p2)] := hl
  refine lv_aload_n hx hb dX6_tellBackwards_0 rfl (lv_at hl 0 rfl) ?_
  refine lv_aload_n hx hb dX6_tellBackwards_1 rfl (lv_at hl 1 rfl) ?_
  have f_1 := va_free (wc := [(wk, .inr (4, [.ref mo, .ref wy, .ref nw, .ref ol, .ref lt, .ref es, .ref sf, .ref sl, .ref so, .ref la, .ref li, .ref ru, .int (nI n), .int sc, .int (nI z), .int (nI tt), .int (nI qn), .int d17, .int d18, .int d19])), (wy, .inl (cyI, 1957, .inl fy)), (ta, .inl (cyI, 1957, .inl ft)), (li, .inl (cyI, 1957, .inl fi))]) hD hS hA [0, 1, 2, 3] rfl
  refine va_callv (va_runV (As := [.ref ta]) (rest := []) ⟨hx, hb, hml, hown, hts⟩ (mX6_lineUpWhatHasMet l dC dI cyI cyZ wk mo wy nw ol lt es sf sl so la li ru n z tt qn sc d17 d18 d19 ta fy ft fi (by omega) (by omega) (by omega) (by omega) _) (cwV 1 hts gX6_tellBackwards_X6_lineUpWhatHasMet rfl rfl rfl (by decide +kernel) ⟨Nat.le_of_ble_eq_true rfl, Nat.le_of_ble_eq_true rfl⟩) (bs_WV hB (hP.sub (ws' := [(wk, .inr (4, [.ref mo, .ref wy, .ref nw, .ref ol, .ref lt, .ref es, .ref sf, .ref sl, .ref so, .ref la, .ref li, .ref ru, .int (nI n), .int sc, .int (nI z), .int (nI tt), .int (nI qn), .int d17, .int d18, .int d19])), (wy, .inl (cyI, 1957, .inl fy)), (ta, .inl (cyI, 1957, .inl ft)), (li, .inl (cyI, 1957, .inl fi))]) [0, 1, 2, 3] rfl) (hD.sub (ws' := [(wk, .inr (4, [.ref mo, .ref wy, .ref nw, .ref ol, .ref lt, .ref es, .ref sf, .ref sl, .ref so, .ref la, .ref li, .ref ru, .int (nI n), .int sc, .int (nI z), .int (nI tt), .int (nI qn), .int d17, .int d18, .int d19])), (wy, .inl (cyI, 1957, .inl fy)), (ta, .inl (cyI, 1957, .inl ft)), (li, .inl (cyI, 1957, .inl fi))]) [0, 1, 2, 3] (by decide) rfl) 0 rfl rfl) rfl rfl hl.1 rfl (lv_room (Nat.le_of_ble_eq_true rfl)) dX6_tellBackwards_2 ⟨Nat.le_of_ble_eq_true rfl, Nat.le_of_ble_eq_true rfl⟩) hS (fun q _ h => f_1 q h) f_1 (fun uh_2 t H1 locs ht hvm h_2 hB1 hz1 hk1 hS => ?_)
  obtain ⟨v_3, g_4, g_5⟩ := uh_2
  have h_2 : v_3 ≤ 1957 := h_2
  obtain ⟨hP1, hD1⟩ := hB1
  rw [ht] at hP1
  obtain ⟨hP, hD⟩ := va_join (wr := [(lt, .inl (cyI, 1957, .inl fl)), (es, .inl (cyI, 25857, .inl fe)), (sf, .inl (cyI, 25857, .inl ff)), (sl, .inl (cyI, 1957, .inl fc))]) (w1 := [(wk, .inr (4, [.ref mo, .ref wy, .ref nw, .ref ol, .ref lt, .ref es, .ref sf, .ref sl, .ref so, .ref la, .ref li, .ref ru, .int (nI n), .int sc, .int (nI z), .int (nI tt), .int (nI v_3), .int d17, .int d18, .int d19])), (wy, .inl (cyI, 1957, .inl fy)), (ta, .inl (cyI, 1957, .inl g_4)), (li, .inl (cyI, 1957, .inl g_5))]) hP hD [0, 1, 2, 3] [4, 5, 6, 7] rfl rfl (by decide) (by decide) hk1 f_1 hP1 hD1
  generalize H1 = H at hP hS ⊢
  have hP : va_P (dC, dI) vwCl [(lt, .inl (cyI, 1957, .inl fl)), (es, .inl (cyI, 25857, .inl fe)), (sf, .inl (cyI, 25857, .inl ff)), (sl, .inl (cyI, 1957, .inl fc)), (wk, .inr (4, [.ref mo, .ref wy, .ref nw, .ref ol, .ref lt, .ref es, .ref sf, .ref sl, .ref so, .ref la, .ref li, .ref ru, .int (nI n), .int sc, .int (nI z), .int (nI tt), .int (nI v_3), .int d17, .int d18, .int d19])), (wy, .inl (cyI, 1957, .inl fy)), (ta, .inl (cyI, 1957, .inl g_4)), (li, .inl (cyI, 1957, .inl g_5))] _ := hP
  have hD : va_D A [(lt, .inl (cyI, 1957, .inl fl)), (es, .inl (cyI, 25857, .inl fe)), (sf, .inl (cyI, 25857, .inl ff)), (sl, .inl (cyI, 1957, .inl fc)), (wk, .inr (4, [.ref mo, .ref wy, .ref nw, .ref ol, .ref lt, .ref es, .ref sf, .ref sl, .ref so, .ref la, .ref li, .ref ru, .int (nI n), .int sc, .int (nI z), .int (nI tt), .int (nI v_3), .int d17, .int d18, .int d19])), (wy, .inl (cyI, 1957, .inl fy)), (ta, .inl (cyI, 1957, .inl g_4)), (li, .inl (cyI, 1957, .inl g_5))] := hD
  refine lv_iconst (v := 0) hx hb dX6_tellBackwards_5 (by decide) ?_
  refine lv_istore_n (lv' := [(3, .int 0), (0, .ref wk), (1, .ref ta), (2, .int p2)]) hx hb dX6_tellBackwards_6 rfl hl (by decide) rfl (fun ls hl => ?_)
  have L7 : ∀ (n7 : Nat), ∀ (k : Nat) (qn : Nat) (ft fi fc : Nat → Int32), (0 ≤ k ∧ k ≤ 1957) → (1957 + 1 ≤ k + n7) → (qn ≤ 1957) → ∀ (H : Heap) (locs : List Loc), va_P (dC, dI) vwCl [(wk, .inr (4, [.ref mo, .ref wy, .ref nw, .ref ol, .ref lt, .ref es, .ref sf, .ref sl, .ref so, .ref la, .ref li, .ref ru, .int (nI n), .int sc, .int (nI z), .int (nI tt), .int (nI qn), .int d17, .int d18, .int d19])), (wy, .inl (cyI, 1957, .inl fy)), (ta, .inl (cyI, 1957, .inl ft)), (li, .inl (cyI, 1957, .inl fi)), (lt, .inl (cyI, 1957, .inl fl)), (es, .inl (cyI, 25857, .inl fe)), (sf, .inl (cyI, 25857, .inl ff)), (sl, .inl (cyI, 1957, .inl fc))] H → va_D A [(wk, .inr (4, [.ref mo, .ref wy, .ref nw, .ref ol, .ref lt, .ref es, .ref sf, .ref sl, .ref so, .ref la, .ref li, .ref ru, .int (nI n), .int sc, .int (nI z), .int (nI tt), .int (nI qn), .int d17, .int d18, .int d19])), (wy, .inl (cyI, 1957, .inl fy)), (ta, .inl (cyI, 1957, .inl ft)), (li, .inl (cyI, 1957, .inl fi)), (lt, .inl (cyI, 1957, .inl fl)), (es, .inl (cyI, 25857, .inl fe)), (sf, .inl (cyI, 25857, .inl ff)), (sl, .inl (cyI, 1957, .inl fc))] → va_S A s.heap H locs → ∀ (ls : Array Slot), lv_has ls 8 [(0, .ref wk), (1, .ref ta), (2, .int p2), (3, .int (nI k))] → W p l e (headSpec wsX6_tellBackwards ({ frames := 3, cells := 0, slots := 0, locals := 66 })).room s m ([.ref wk, .ref ta, .int p2] : List Value).toArray below meth c H locs 0 0 (MQ below (va_Qv (S := Nat × (Nat → Int32) × (Nat → Int32) × (Nat → Int32)) (fun q : Nat × (Nat → Int32) × (Nat → Int32) × (Nat → Int32) => q.1 ≤ 1957) (fun q t => bs_E dC dI A [(wk, .inr (4, [.ref mo, .ref wy, .ref nw, .ref ol, .ref lt, .ref es, .ref sf, .ref sl, .ref so, .ref la, .ref li, .ref ru, .int (nI n), .int sc, .int (nI z), .int (nI tt), .int (nI q.1), .int d17, .int d18, .int d19])), (wy, .inl (cyI, 1957, .inl fy)), (ta, .inl (cyI, 1957, .inl q.2.1)), (li, .inl (cyI, 1957, .inl q.2.2.1)), (lt, .inl (cyI, 1957, .inl fl)), (es, .inl (cyI, 25857, .inl fe)), (sf, .inl (cyI, 25857, .inl ff)), (sl, .inl (cyI, 1957, .inl q.2.2.2))] t) A) ([.ref wk, .ref ta, .int p2] : List Value).toArray s 0 0 A) (F0 m 7 ls []) := by
    intro n7
    induction n7 with
    | zero =>
      intro k qn ft fi fc hk7 hn7 hqn H locs hP hD hS ls hl
      exfalso
      omega
    | succ n7 ih7 =>
      intro k qn ft fi fc hk7 hn7 hqn H locs hP hD hS ls hl
      refine lv_iload_n hx hb dX6_tellBackwards_7 rfl (lv_at hl 3 rfl) ?_
      refine lv_aload_n hx hb dX6_tellBackwards_8 rfl (lv_at hl 0 rfl) ?_
      refine va_get (D := (dC, dI)) (ci := 4) (v := .int (nI qn)) (C := RX6) (T := TX6) (N := 20) hx hb hts hnX6_tellBackwards_X6 hown hK hP 0 rfl rfl 16 (by decide) (hts (.fieldLink RX6 141 "RingMeets$Walks" "lineSize" "I") (by decide +kernel)) (fun _ h9 => h9) rfl dX6_tellBackwards_9 ?_
      refine lv_icmp_ge (tgt := 150) hx hb dX6_tellBackwards_12 (by decide) (fun c_6 => ?_) (fun c_6 => ?_)
      · skip
        have ic_6 := ci_le (nI_toInt (n := qn) (by omega)) (nI_toInt (n := k) (by omega)) c_6
        exact W.vret hx hb hr (fun t ht hW => ⟨⟨(qn, ft, fi, fc), rfl, by omega, ⟨by rw [ht]; exact hP.sub (ws' := [(wk, .inr (4, [.ref mo, .ref wy, .ref nw, .ref ol, .ref lt, .ref es, .ref sf, .ref sl, .ref so, .ref la, .ref li, .ref ru, .int (nI n), .int sc, .int (nI z), .int (nI tt), .int (nI qn), .int d17, .int d18, .int d19])), (wy, .inl (cyI, 1957, .inl fy)), (ta, .inl (cyI, 1957, .inl ft)), (li, .inl (cyI, 1957, .inl fi)), (lt, .inl (cyI, 1957, .inl fl)), (es, .inl (cyI, 25857, .inl fe)), (sf, .inl (cyI, 25857, .inl ff)), (sl, .inl (cyI, 1957, .inl fc))]) [0, 1, 2, 3, 4, 5, 6, 7] rfl, hD.sub (ws' := [(wk, .inr (4, [.ref mo, .ref wy, .ref nw, .ref ol, .ref lt, .ref es, .ref sf, .ref sl, .ref so, .ref la, .ref li, .ref ru, .int (nI n), .int sc, .int (nI z), .int (nI tt), .int (nI qn), .int d17, .int d18, .int d19])), (wy, .inl (cyI, 1957, .inl fy)), (ta, .inl (cyI, 1957, .inl ft)), (li, .inl (cyI, 1957, .inl fi)), (lt, .inl (cyI, 1957, .inl fl)), (es, .inl (cyI, 25857, .inl fe)), (sf, .inl (cyI, 25857, .inl ff)), (sl, .inl (cyI, 1957, .inl fc))]) [0, 1, 2, 3, 4, 5, 6, 7] (by decide) rfl⟩⟩, hS.F ht⟩) hS.2.2 dX6_tellBackwards_150
      · skip
        have ic_6 := ci_nle (nI_toInt (n := qn) (by omega)) (nI_toInt (n := k) (by omega)) c_6
        refine lv_iload_n hx hb dX6_tellBackwards_15 rfl (lv_at hl 3 rfl) ?_
        refine lv_sipush (v := 1957) hx hb dX6_tellBackwards_16 (by decide) ?_
        refine lv_icmp_ge (tgt := 150) hx hb dX6_tellBackwards_19 (by decide) (fun c_7 => ?_) (fun c_7 => ?_)
        · skip
          have ic_7 := ci_le (show Int32.toInt 1957 = 1957 by decide) (nI_toInt (n := k) (by omega)) c_7
          exact W.vret hx hb hr (fun t ht hW => ⟨⟨(qn, ft, fi, fc), rfl, by omega, ⟨by rw [ht]; exact hP.sub (ws' := [(wk, .inr (4, [.ref mo, .ref wy, .ref nw, .ref ol, .ref lt, .ref es, .ref sf, .ref sl, .ref so, .ref la, .ref li, .ref ru, .int (nI n), .int sc, .int (nI z), .int (nI tt), .int (nI qn), .int d17, .int d18, .int d19])), (wy, .inl (cyI, 1957, .inl fy)), (ta, .inl (cyI, 1957, .inl ft)), (li, .inl (cyI, 1957, .inl fi)), (lt, .inl (cyI, 1957, .inl fl)), (es, .inl (cyI, 25857, .inl fe)), (sf, .inl (cyI, 25857, .inl ff)), (sl, .inl (cyI, 1957, .inl fc))]) [0, 1, 2, 3, 4, 5, 6, 7] rfl, hD.sub (ws' := [(wk, .inr (4, [.ref mo, .ref wy, .ref nw, .ref ol, .ref lt, .ref es, .ref sf, .ref sl, .ref so, .ref la, .ref li, .ref ru, .int (nI n), .int sc, .int (nI z), .int (nI tt), .int (nI qn), .int d17, .int d18, .int d19])), (wy, .inl (cyI, 1957, .inl fy)), (ta, .inl (cyI, 1957, .inl ft)), (li, .inl (cyI, 1957, .inl fi)), (lt, .inl (cyI, 1957, .inl fl)), (es, .inl (cyI, 25857, .inl fe)), (sf, .inl (cyI, 25857, .inl ff)), (sl, .inl (cyI, 1957, .inl fc))]) [0, 1, 2, 3, 4, 5, 6, 7] (by decide) rfl⟩⟩, hS.F ht⟩) hS.2.2 dX6_tellBackwards_150
        · skip
          have ic_7 := ci_nle (show Int32.toInt 1957 = 1957 by decide) (nI_toInt (n := k) (by omega)) c_7
          refine lv_aload_n hx hb dX6_tellBackwards_22 rfl (lv_at hl 0 rfl) ?_
          refine va_get (D := (dC, dI)) (ci := 4) (v := .ref li) (C := RX6) (T := TX6) (N := 20) hx hb hts hnX6_tellBackwards_X6 hown hK hP 0 rfl rfl 10 (by decide) (hts (.fieldLink RX6 46 "RingMeets$Walks" "line" "[I") (by decide +kernel)) (fun _ h9 => h9) rfl dX6_tellBackwards_23 ?_
          refine lv_iload_n hx hb dX6_tellBackwards_26 rfl (lv_at hl 3 rfl) ?_
          refine va_iald (D := (dC, dI)) hx hb hK hP 3 0 rfl rfl (vp_in_nI (n := k) (N := 1957) (by omega) (by omega)) dX6_tellBackwards_27 ?_
          refine lv_topi (fun x_8 ex_8 => ?_)
          rw [nI_clamp (n := k) (by omega)] at ex_8
          refine lv_istore (lv' := [(4, .int x_8), (0, .ref wk), (1, .ref ta), (2, .int p2), (3, .int (nI k))]) hx hb dX6_tellBackwards_28 hl (by decide) rfl (fun ls hl => ?_)
          refine lv_aload_n hx hb dX6_tellBackwards_30 rfl (lv_at hl 1 rfl) ?_
          refine lv_iload hx hb dX6_tellBackwards_31 (lv_at hl 0 rfl) ?_
          refine vp_callSi (va_Run.run (va_runV (As := [.int x_8]) (rest := []) ⟨hx, hb, hml, hown, hts⟩ (mX6_isWay l dC dI cyI cyZ wk mo wy nw ol lt es sf sl so la li ru n z tt qn sc d17 d18 d19 x_8 (by omega)) (cwV 1 hts gX6_tellBackwards_X6_isWay rfl rfl rfl (by decide +kernel) ⟨Nat.le_of_ble_eq_true rfl, Nat.le_of_ble_eq_true rfl⟩) (bs_RV hB (hP.sub (ws' := [(wk, .inr (4, [.ref mo, .ref wy, .ref nw, .ref ol, .ref lt, .ref es, .ref sf, .ref sl, .ref so, .ref la, .ref li, .ref ru, .int (nI n), .int sc, .int (nI z), .int (nI tt), .int (nI qn), .int d17, .int d18, .int d19]))]) [0] rfl) 0 rfl rfl) rfl rfl hl.1 rfl (lv_room (Nat.le_of_ble_eq_true rfl)) dX6_tellBackwards_33 ⟨Nat.le_of_ble_eq_true rfl, Nat.le_of_ble_eq_true rfl⟩)) (fun r_9 hr_9 => ?_)
          refine lv_if_eq (tgt := 49) hx hb dX6_tellBackwards_36 (by decide) (fun c_10 => ?_) (fun c_10 => ?_)
          · skip
            have ic_10 := ci_eq (rfl : Int32.toInt r_9 = _) (show Int32.toInt 0 = 0 by decide) c_10
            refine lv_iconst (v := (-1)) hx hb dX6_tellBackwards_49 (by decide) ?_
            refine lv_istore (lv' := [(5, .int (-1)), (4, .int x_8), (0, .ref wk), (1, .ref ta), (2, .int p2), (3, .int (nI k))]) hx hb dX6_tellBackwards_50 hl (by decide) rfl (fun ls hl => ?_)
            refine lv_iconst (v := 0) hx hb dX6_tellBackwards_52 (by decide) ?_
            refine lv_istore (lv' := [(6, .int 0), (5, .int (-1)), (4, .int x_8), (0, .ref wk), (1, .ref ta), (2, .int p2), (3, .int (nI k))]) hx hb dX6_tellBackwards_53 hl (by decide) rfl (fun ls hl => ?_)
            have L55 : ∀ (n55 : Nat), ∀ (jt : Nat) (qn : Nat) (ft fi fc : Nat → Int32) (yt ys : Int32), (0 ≤ jt ∧ jt ≤ tt) → (tt + 1 ≤ jt + n55) → (qn ≤ 1957) → ((0 ≤ yt.toInt ∧ yt.toInt < z) ∨ ys.toInt < 0) → ∀ (H : Heap) (locs : List Loc), va_P (dC, dI) vwCl [(wk, .inr (4, [.ref mo, .ref wy, .ref nw, .ref ol, .ref lt, .ref es, .ref sf, .ref sl, .ref so, .ref la, .ref li, .ref ru, .int (nI n), .int sc, .int (nI z), .int (nI tt), .int (nI qn), .int d17, .int d18, .int d19])), (wy, .inl (cyI, 1957, .inl fy)), (ta, .inl (cyI, 1957, .inl ft)), (li, .inl (cyI, 1957, .inl fi)), (lt, .inl (cyI, 1957, .inl fl)), (es, .inl (cyI, 25857, .inl fe)), (sf, .inl (cyI, 25857, .inl ff)), (sl, .inl (cyI, 1957, .inl fc))] H → va_D A [(wk, .inr (4, [.ref mo, .ref wy, .ref nw, .ref ol, .ref lt, .ref es, .ref sf, .ref sl, .ref so, .ref la, .ref li, .ref ru, .int (nI n), .int sc, .int (nI z), .int (nI tt), .int (nI qn), .int d17, .int d18, .int d19])), (wy, .inl (cyI, 1957, .inl fy)), (ta, .inl (cyI, 1957, .inl ft)), (li, .inl (cyI, 1957, .inl fi)), (lt, .inl (cyI, 1957, .inl fl)), (es, .inl (cyI, 25857, .inl fe)), (sf, .inl (cyI, 25857, .inl ff)), (sl, .inl (cyI, 1957, .inl fc))] → va_S A s.heap H locs → ∀ (ls : Array Slot), lv_has ls 8 [(0, .ref wk), (1, .ref ta), (2, .int p2), (3, .int (nI k)), (4, .int yt), (5, .int ys), (6, .int (nI jt))] → W p l e (headSpec wsX6_tellBackwards ({ frames := 3, cells := 0, slots := 0, locals := 66 })).room s m ([.ref wk, .ref ta, .int p2] : List Value).toArray below meth c H locs 0 0 (MQ below (va_Qv (S := Nat × (Nat → Int32) × (Nat → Int32) × (Nat → Int32)) (fun q : Nat × (Nat → Int32) × (Nat → Int32) × (Nat → Int32) => q.1 ≤ 1957) (fun q t => bs_E dC dI A [(wk, .inr (4, [.ref mo, .ref wy, .ref nw, .ref ol, .ref lt, .ref es, .ref sf, .ref sl, .ref so, .ref la, .ref li, .ref ru, .int (nI n), .int sc, .int (nI z), .int (nI tt), .int (nI q.1), .int d17, .int d18, .int d19])), (wy, .inl (cyI, 1957, .inl fy)), (ta, .inl (cyI, 1957, .inl q.2.1)), (li, .inl (cyI, 1957, .inl q.2.2.1)), (lt, .inl (cyI, 1957, .inl fl)), (es, .inl (cyI, 25857, .inl fe)), (sf, .inl (cyI, 25857, .inl ff)), (sl, .inl (cyI, 1957, .inl q.2.2.2))] t) A) ([.ref wk, .ref ta, .int p2] : List Value).toArray s 0 0 A) (F0 m 55 ls []) := by
              intro n55
              induction n55 with
              | zero =>
                intro jt qn ft fi fc yt ys hk55 hn55 hqn hyt H locs hP hD hS ls hl
                exfalso
                omega
              | succ n55 ih55 =>
                intro jt qn ft fi fc yt ys hk55 hn55 hqn hyt H locs hP hD hS ls hl
                refine lv_iload hx hb dX6_tellBackwards_55 (lv_at hl 6 rfl) ?_
                refine lv_aload_n hx hb dX6_tellBackwards_57 rfl (lv_at hl 0 rfl) ?_
                refine va_get (D := (dC, dI)) (ci := 4) (v := .int (nI tt)) (C := RX6) (T := TX6) (N := 20) hx hb hts hnX6_tellBackwards_X6 hown hK hP 0 rfl rfl 15 (by decide) (hts (.fieldLink RX6 67 "RingMeets$Walks" "steps" "I") (by decide +kernel)) (fun _ h9 => h9) rfl dX6_tellBackwards_58 ?_
                refine lv_icmp_ge (tgt := 144) hx hb dX6_tellBackwards_61 (by decide) (fun c_11 => ?_) (fun c_11 => ?_)
                · skip
                  have ic_11 := ci_le (nI_toInt (n := tt) (by omega)) (nI_toInt (n := jt) (by omega)) c_11
                  refine lv_iinc (v := (nI (k + 1))) (lv' := [(3, .int (nI (k + 1))), (0, .ref wk), (1, .ref ta), (2, .int p2), (4, .int yt), (5, .int ys), (6, .int (nI jt))]) hx hb dX6_tellBackwards_144 hl (k := 3) rfl (nI_1 _) (by decide) rfl (fun ls hl => ?_)
                  refine lv_goto (tgt := 7) hx hb dX6_tellBackwards_147 (by decide) ?_
                  exact ih7 (k + 1) qn ft fi fc ⟨by omega, by omega⟩ (by omega) (by omega) _ _ (hP.sub [0, 1, 2, 3, 4, 5, 6, 7] rfl) (hD.sub [0, 1, 2, 3, 4, 5, 6, 7] (by decide) rfl) hS _ (lv_sub hl [1, 2, 3, 0] rfl)
                · skip
                  have ic_11 := ci_nle (nI_toInt (n := tt) (by omega)) (nI_toInt (n := jt) (by omega)) c_11
                  refine lv_aload_n hx hb dX6_tellBackwards_64 rfl (lv_at hl 0 rfl) ?_
                  refine lv_iload hx hb dX6_tellBackwards_65 (lv_at hl 5 rfl) ?_
                  refine vp_callSi (va_Run.run (va_runV (As := [.int ys]) (rest := []) ⟨hx, hb, hml, hown, hts⟩ (mX6_isStep l dC dI cyI cyZ wk mo wy nw ol lt es sf sl so la li ru n z tt qn sc d17 d18 d19 ys (by omega)) (cwV 1 hts gX6_tellBackwards_X6_isStep rfl rfl rfl (by decide +kernel) ⟨Nat.le_of_ble_eq_true rfl, Nat.le_of_ble_eq_true rfl⟩) (bs_RV hB (hP.sub (ws' := [(wk, .inr (4, [.ref mo, .ref wy, .ref nw, .ref ol, .ref lt, .ref es, .ref sf, .ref sl, .ref so, .ref la, .ref li, .ref ru, .int (nI n), .int sc, .int (nI z), .int (nI tt), .int (nI qn), .int d17, .int d18, .int d19]))]) [0] rfl) 0 rfl rfl) rfl rfl hl.1 rfl (lv_room (Nat.le_of_ble_eq_true rfl)) dX6_tellBackwards_67 ⟨Nat.le_of_ble_eq_true rfl, Nat.le_of_ble_eq_true rfl⟩)) (fun r_12 hr_12 => ?_)
                  refine lv_if_eq (tgt := 144) hx hb dX6_tellBackwards_70 (by decide) (fun c_13 => ?_) (fun c_13 => ?_)
                  · skip
                    have ic_13 := ci_eq (rfl : Int32.toInt r_12 = _) (show Int32.toInt 0 = 0 by decide) c_13
                    refine lv_iinc (v := (nI (k + 1))) (lv' := [(3, .int (nI (k + 1))), (0, .ref wk), (1, .ref ta), (2, .int p2), (4, .int yt), (5, .int ys), (6, .int (nI jt))]) hx hb dX6_tellBackwards_144 hl (k := 3) rfl (nI_1 _) (by decide) rfl (fun ls hl => ?_)
                    refine lv_goto (tgt := 7) hx hb dX6_tellBackwards_147 (by decide) ?_
                    exact ih7 (k + 1) qn ft fi fc ⟨by omega, by omega⟩ (by omega) (by omega) _ _ (hP.sub [0, 1, 2, 3, 4, 5, 6, 7] rfl) (hD.sub [0, 1, 2, 3, 4, 5, 6, 7] (by decide) rfl) hS _ (lv_sub hl [1, 2, 3, 0] rfl)
                  · skip
                    have ic_13 := ci_ne (rfl : Int32.toInt r_12 = _) (show Int32.toInt 0 = 0 by decide) c_13
                    obtain ⟨hsl, hsu⟩ := hr_12.2 (hr_12.1.resolve_left c_13)
                    have hyt : 0 ≤ yt.toInt ∧ yt.toInt < z := hyt.resolve_right (by omega)
                    refine lv_aload_n hx hb dX6_tellBackwards_73 rfl (lv_at hl 0 rfl) ?_
                    refine va_get (D := (dC, dI)) (ci := 4) (v := .ref sf) (C := RX6) (T := TX6) (N := 20) hx hb hts hnX6_tellBackwards_X6 hown hK hP 0 rfl rfl 6 (by decide) (hts (.fieldLink RX6 34 "RingMeets$Walks" "stepFrom" "[I") (by decide +kernel)) (fun _ h9 => h9) rfl dX6_tellBackwards_74 ?_
                    refine lv_iload hx hb dX6_tellBackwards_77 (lv_at hl 5 rfl) ?_
                    refine va_iald (D := (dC, dI)) hx hb hK hP 6 0 rfl rfl (nb_in (x := ys) (n := 25857) (by omega) (by omega)) dX6_tellBackwards_79 ?_
                    refine lv_topi (fun x_14 ex_14 => ?_)
                    refine lv_istore (lv' := [(7, .int x_14), (0, .ref wk), (1, .ref ta), (2, .int p2), (3, .int (nI k)), (4, .int yt), (5, .int ys), (6, .int (nI jt))]) hx hb dX6_tellBackwards_80 hl (by decide) rfl (fun ls hl => ?_)
                    refine lv_iload_n hx hb dX6_tellBackwards_82 rfl (lv_at hl 3 rfl) ?_
                    refine lv_if_eq (tgt := 98) hx hb dX6_tellBackwards_83 (by decide) (fun c_15 => ?_) (fun c_15 => ?_)
                    · skip
                      have ic_15 := ci_eq (rfl : Int32.toInt p2 = _) (show Int32.toInt 0 = 0 by decide) c_15
                      refine lv_aload_n hx hb dX6_tellBackwards_98 rfl (lv_at hl 1 rfl) ?_
                      refine lv_iload hx hb dX6_tellBackwards_99 (lv_at hl 0 rfl) ?_
                      refine vp_callSi (va_Run.run (va_runV (As := [.int x_14]) (rest := []) ⟨hx, hb, hml, hown, hts⟩ (mX6_isWay l dC dI cyI cyZ wk mo wy nw ol lt es sf sl so la li ru n z tt qn sc d17 d18 d19 x_14 (by omega)) (cwV 1 hts gX6_tellBackwards_X6_isWay rfl rfl rfl (by decide +kernel) ⟨Nat.le_of_ble_eq_true rfl, Nat.le_of_ble_eq_true rfl⟩) (bs_RV hB (hP.sub (ws' := [(wk, .inr (4, [.ref mo, .ref wy, .ref nw, .ref ol, .ref lt, .ref es, .ref sf, .ref sl, .ref so, .ref la, .ref li, .ref ru, .int (nI n), .int sc, .int (nI z), .int (nI tt), .int (nI qn), .int d17, .int d18, .int d19]))]) [0] rfl) 0 rfl rfl) rfl rfl hl.1 rfl (lv_room (Nat.le_of_ble_eq_true rfl)) dX6_tellBackwards_101 ⟨Nat.le_of_ble_eq_true rfl, Nat.le_of_ble_eq_true rfl⟩)) (fun r_16 hr_16 => ?_)
                      refine lv_if_eq (tgt := 129) hx hb dX6_tellBackwards_104 (by decide) (fun c_17 => ?_) (fun c_17 => ?_)
                      · skip
                        have ic_17 := ci_eq (rfl : Int32.toInt r_16 = _) (show Int32.toInt 0 = 0 by decide) c_17
                        refine lv_aload_n hx hb dX6_tellBackwards_129 rfl (lv_at hl 1 rfl) ?_
                        refine va_get (D := (dC, dI)) (ci := 4) (v := .ref es) (C := RX6) (T := TX6) (N := 20) hx hb hts hnX6_tellBackwards_X6 hown hK hP 0 rfl rfl 5 (by decide) (hts (.fieldLink RX6 31 "RingMeets$Walks" "earlierStep" "[I") (by decide +kernel)) (fun _ h9 => h9) rfl dX6_tellBackwards_130 ?_
                        refine lv_iload hx hb dX6_tellBackwards_133 (lv_at hl 6 rfl) ?_
                        refine va_iald (D := (dC, dI)) hx hb hK hP 5 0 rfl rfl (nb_in (x := ys) (n := 25857) (by omega) (by omega)) dX6_tellBackwards_135 ?_
                        refine lv_topi (fun x_18 ex_18 => ?_)
                        refine lv_istore (lv' := [(5, .int x_18), (7, .int x_14), (0, .ref wk), (1, .ref ta), (2, .int p2), (3, .int (nI k)), (4, .int yt), (6, .int (nI jt))]) hx hb dX6_tellBackwards_136 hl (by decide) rfl (fun ls hl => ?_)
                        refine lv_iinc (v := (nI (jt + 1))) (lv' := [(6, .int (nI (jt + 1))), (5, .int x_18), (7, .int x_14), (0, .ref wk), (1, .ref ta), (2, .int p2), (3, .int (nI k)), (4, .int yt)]) hx hb dX6_tellBackwards_138 hl (k := 7) rfl (nI_1 _) (by decide) rfl (fun ls hl => ?_)
                        refine lv_goto (tgt := 55) hx hb dX6_tellBackwards_141 (by decide) ?_
                        exact ih55 (jt + 1) qn ft fi fc yt x_18 ⟨by omega, by omega⟩ (by omega) (by omega) (Or.inl ⟨by omega, by omega⟩) _ _ (hP.sub [0, 1, 2, 3, 4, 5, 6, 7] rfl) (hD.sub [0, 1, 2, 3, 4, 5, 6, 7] (by decide) rfl) hS _ (lv_sub hl [3, 4, 5, 6, 7, 1, 0] rfl)
                      · skip
                        have ic_17 := ci_ne (rfl : Int32.toInt r_16 = _) (show Int32.toInt 0 = 0 by decide) c_17
                        obtain ⟨hvl, hvu⟩ := hr_16.2 (hr_16.1.resolve_left c_17)
                        refine lv_aload_n hx hb dX6_tellBackwards_107 rfl (lv_at hl 2 rfl) ?_
                        refine lv_iload hx hb dX6_tellBackwards_108 (lv_at hl 0 rfl) ?_
                        refine va_iald (D := (dC, dI)) hx hb hK hP 2 0 rfl rfl (nb_in (x := x_14) (n := 1957) (by omega) (by omega)) dX6_tellBackwards_110 ?_
                        refine lv_topi (fun x_19 ex_19 => ?_)
                        refine lv_bipush (v := (-6)) hx hb dX6_tellBackwards_111 (by decide) ?_
                        refine lv_icmp_ne (tgt := 129) hx hb dX6_tellBackwards_113 (by decide) (fun c_20 => ?_) (fun c_20 => ?_)
                        · skip
                          have ic_20 := ci_ne (rfl : Int32.toInt x_19 = _) (show Int32.toInt (-6) = -6 by decide) c_20
                          refine lv_aload_n hx hb dX6_tellBackwards_129 rfl (lv_at hl 1 rfl) ?_
                          refine va_get (D := (dC, dI)) (ci := 4) (v := .ref es) (C := RX6) (T := TX6) (N := 20) hx hb hts hnX6_tellBackwards_X6 hown hK hP 0 rfl rfl 5 (by decide) (hts (.fieldLink RX6 31 "RingMeets$Walks" "earlierStep" "[I") (by decide +kernel)) (fun _ h9 => h9) rfl dX6_tellBackwards_130 ?_
                          refine lv_iload hx hb dX6_tellBackwards_133 (lv_at hl 6 rfl) ?_
                          refine va_iald (D := (dC, dI)) hx hb hK hP 5 0 rfl rfl (nb_in (x := ys) (n := 25857) (by omega) (by omega)) dX6_tellBackwards_135 ?_
                          refine lv_topi (fun x_21 ex_21 => ?_)
                          refine lv_istore (lv' := [(5, .int x_21), (7, .int x_14), (0, .ref wk), (1, .ref ta), (2, .int p2), (3, .int (nI k)), (4, .int yt), (6, .int (nI jt))]) hx hb dX6_tellBackwards_136 hl (by decide) rfl (fun ls hl => ?_)
                          refine lv_iinc (v := (nI (jt + 1))) (lv' := [(6, .int (nI (jt + 1))), (5, .int x_21), (7, .int x_14), (0, .ref wk), (1, .ref ta), (2, .int p2), (3, .int (nI k)), (4, .int yt)]) hx hb dX6_tellBackwards_138 hl (k := 7) rfl (nI_1 _) (by decide) rfl (fun ls hl => ?_)
                          refine lv_goto (tgt := 55) hx hb dX6_tellBackwards_141 (by decide) ?_
                          exact ih55 (jt + 1) qn ft fi fc yt x_21 ⟨by omega, by omega⟩ (by omega) (by omega) (Or.inl ⟨by omega, by omega⟩) _ _ (hP.sub [0, 1, 2, 3, 4, 5, 6, 7] rfl) (hD.sub [0, 1, 2, 3, 4, 5, 6, 7] (by decide) rfl) hS _ (lv_sub hl [3, 4, 5, 6, 7, 1, 0] rfl)
                        · skip
                          have ic_20 := ci_eq (rfl : Int32.toInt x_19 = _) (show Int32.toInt (-6) = -6 by decide) c_20
                          refine lv_aload_n hx hb dX6_tellBackwards_116 rfl (lv_at hl 1 rfl) ?_
                          refine lv_aload_n hx hb dX6_tellBackwards_117 rfl (lv_at hl 2 rfl) ?_
                          refine lv_iload hx hb dX6_tellBackwards_118 (lv_at hl 0 rfl) ?_
                          refine lv_aload_n hx hb dX6_tellBackwards_120 rfl (lv_at hl 2 rfl) ?_
                          refine lv_iload hx hb dX6_tellBackwards_121 (lv_at hl 5 rfl) ?_
                          refine va_iald (D := (dC, dI)) hx hb hK hP 2 0 rfl rfl (nb_in (x := yt) (n := 1957) (by omega) (by omega)) dX6_tellBackwards_123 ?_
                          refine lv_topi (fun x_22 ex_22 => ?_)
                          refine lv_iconst (v := 1) hx hb dX6_tellBackwards_124 (by decide) ?_
                          refine lv_iadd hx hb dX6_tellBackwards_125 ?_
                          refine lv_topi (fun x_23 ex_23 => ?_)
                          have f_24 := va_free (wc := [(wk, .inr (4, [.ref mo, .ref wy, .ref nw, .ref ol, .ref lt, .ref es, .ref sf, .ref sl, .ref so, .ref la, .ref li, .ref ru, .int (nI n), .int sc, .int (nI z), .int (nI tt), .int (nI qn), .int d17, .int d18, .int d19])), (ta, .inl (cyI, 1957, .inl ft)), (li, .inl (cyI, 1957, .inl fi))]) hD hS hA [0, 2, 3] rfl
                          refine va_callv (va_runV (As := [.ref ta, .int x_14, .int x_23]) (rest := []) ⟨hx, hb, hml, hown, hts⟩ (mX6_lineUp l dC dI cyI cyZ wk mo wy nw ol lt es sf sl so la li ru n z tt qn sc d17 d18 d19 ta ft fi x_14 x_23 (by omega) (by omega) (by omega) (by omega) _) (cwV 3 hts gX6_tellBackwards_X6_lineUp rfl rfl rfl (by decide +kernel) ⟨Nat.le_of_ble_eq_true rfl, Nat.le_of_ble_eq_true rfl⟩) (bs_WV hB (hP.sub (ws' := [(wk, .inr (4, [.ref mo, .ref wy, .ref nw, .ref ol, .ref lt, .ref es, .ref sf, .ref sl, .ref so, .ref la, .ref li, .ref ru, .int (nI n), .int sc, .int (nI z), .int (nI tt), .int (nI qn), .int d17, .int d18, .int d19])), (ta, .inl (cyI, 1957, .inl ft)), (li, .inl (cyI, 1957, .inl fi))]) [0, 2, 3] rfl) (hD.sub (ws' := [(wk, .inr (4, [.ref mo, .ref wy, .ref nw, .ref ol, .ref lt, .ref es, .ref sf, .ref sl, .ref so, .ref la, .ref li, .ref ru, .int (nI n), .int sc, .int (nI z), .int (nI tt), .int (nI qn), .int d17, .int d18, .int d19])), (ta, .inl (cyI, 1957, .inl ft)), (li, .inl (cyI, 1957, .inl fi))]) [0, 2, 3] (by decide) rfl) 0 rfl rfl) rfl rfl hl.1 rfl (lv_room (Nat.le_of_ble_eq_true rfl)) dX6_tellBackwards_126 ⟨Nat.le_of_ble_eq_true rfl, Nat.le_of_ble_eq_true rfl⟩) hS (fun q _ h => f_24 q h) f_24 (fun uh_25 t H1 locs ht hvm h_25 hB1 hz1 hk1 hS => ?_)
                          obtain ⟨v_26, g_27, g_28⟩ := uh_25
                          have h_25 : v_26 ≤ 1957 := h_25
                          obtain ⟨hP1, hD1⟩ := hB1
                          rw [ht] at hP1
                          obtain ⟨hP, hD⟩ := va_join (wr := [(wy, .inl (cyI, 1957, .inl fy)), (lt, .inl (cyI, 1957, .inl fl)), (es, .inl (cyI, 25857, .inl fe)), (sf, .inl (cyI, 25857, .inl ff)), (sl, .inl (cyI, 1957, .inl fc))]) (w1 := [(wk, .inr (4, [.ref mo, .ref wy, .ref nw, .ref ol, .ref lt, .ref es, .ref sf, .ref sl, .ref so, .ref la, .ref li, .ref ru, .int (nI n), .int sc, .int (nI z), .int (nI tt), .int (nI v_26), .int d17, .int d18, .int d19])), (ta, .inl (cyI, 1957, .inl g_27)), (li, .inl (cyI, 1957, .inl g_28))]) hP hD [0, 2, 3] [1, 4, 5, 6, 7] rfl rfl (by decide) (by decide) hk1 f_24 hP1 hD1
                          generalize H1 = H at hP hS ⊢
                          have hP : va_P (dC, dI) vwCl [(wy, .inl (cyI, 1957, .inl fy)), (lt, .inl (cyI, 1957, .inl fl)), (es, .inl (cyI, 25857, .inl fe)), (sf, .inl (cyI, 25857, .inl ff)), (sl, .inl (cyI, 1957, .inl fc)), (wk, .inr (4, [.ref mo, .ref wy, .ref nw, .ref ol, .ref lt, .ref es, .ref sf, .ref sl, .ref so, .ref la, .ref li, .ref ru, .int (nI n), .int sc, .int (nI z), .int (nI tt), .int (nI v_26), .int d17, .int d18, .int d19])), (ta, .inl (cyI, 1957, .inl g_27)), (li, .inl (cyI, 1957, .inl g_28))] _ := hP
                          have hD : va_D A [(wy, .inl (cyI, 1957, .inl fy)), (lt, .inl (cyI, 1957, .inl fl)), (es, .inl (cyI, 25857, .inl fe)), (sf, .inl (cyI, 25857, .inl ff)), (sl, .inl (cyI, 1957, .inl fc)), (wk, .inr (4, [.ref mo, .ref wy, .ref nw, .ref ol, .ref lt, .ref es, .ref sf, .ref sl, .ref so, .ref la, .ref li, .ref ru, .int (nI n), .int sc, .int (nI z), .int (nI tt), .int (nI v_26), .int d17, .int d18, .int d19])), (ta, .inl (cyI, 1957, .inl g_27)), (li, .inl (cyI, 1957, .inl g_28))] := hD
                          refine lv_aload_n hx hb dX6_tellBackwards_129 rfl (lv_at hl 1 rfl) ?_
                          refine va_get (D := (dC, dI)) (ci := 4) (v := .ref es) (C := RX6) (T := TX6) (N := 20) hx hb hts hnX6_tellBackwards_X6 hown hK hP 5 rfl rfl 5 (by decide) (hts (.fieldLink RX6 31 "RingMeets$Walks" "earlierStep" "[I") (by decide +kernel)) (fun _ h9 => h9) rfl dX6_tellBackwards_130 ?_
                          refine lv_iload hx hb dX6_tellBackwards_133 (lv_at hl 6 rfl) ?_
                          refine va_iald (D := (dC, dI)) hx hb hK hP 2 0 rfl rfl (nb_in (x := ys) (n := 25857) (by omega) (by omega)) dX6_tellBackwards_135 ?_
                          refine lv_topi (fun x_29 ex_29 => ?_)
                          refine lv_istore (lv' := [(5, .int x_29), (7, .int x_14), (0, .ref wk), (1, .ref ta), (2, .int p2), (3, .int (nI k)), (4, .int yt), (6, .int (nI jt))]) hx hb dX6_tellBackwards_136 hl (by decide) rfl (fun ls hl => ?_)
                          refine lv_iinc (v := (nI (jt + 1))) (lv' := [(6, .int (nI (jt + 1))), (5, .int x_29), (7, .int x_14), (0, .ref wk), (1, .ref ta), (2, .int p2), (3, .int (nI k)), (4, .int yt)]) hx hb dX6_tellBackwards_138 hl (k := 7) rfl (nI_1 _) (by decide) rfl (fun ls hl => ?_)
                          refine lv_goto (tgt := 55) hx hb dX6_tellBackwards_141 (by decide) ?_
                          exact ih55 (jt + 1) v_26 g_27 g_28 fc yt x_29 ⟨by omega, by omega⟩ (by omega) (by omega) (Or.inl ⟨by omega, by omega⟩) _ _ (hP.sub [5, 0, 6, 7, 1, 2, 3, 4] rfl) (hD.sub [5, 0, 6, 7, 1, 2, 3, 4] (by decide) rfl) hS _ (lv_sub hl [3, 4, 5, 6, 7, 1, 0] rfl)
                    · skip
                      have ic_15 := ci_ne (rfl : Int32.toInt p2 = _) (show Int32.toInt 0 = 0 by decide) c_15
                      refine lv_aload_n hx hb dX6_tellBackwards_86 rfl (lv_at hl 1 rfl) ?_
                      refine lv_iload hx hb dX6_tellBackwards_87 (lv_at hl 0 rfl) ?_
                      have f_30 := va_free (wc := [(wk, .inr (4, [.ref mo, .ref wy, .ref nw, .ref ol, .ref lt, .ref es, .ref sf, .ref sl, .ref so, .ref la, .ref li, .ref ru, .int (nI n), .int sc, .int (nI z), .int (nI tt), .int (nI qn), .int d17, .int d18, .int d19])), (sl, .inl (cyI, 1957, .inl fc))]) hD hS hA [0, 7] rfl
                      refine va_calli (va_runV (As := [.int x_14]) (rest := []) ⟨hx, hb, hml, hown, hts⟩ (mX6_isLastStepOf l dC dI cyI cyZ wk mo wy nw ol lt es sf sl so la li ru n z tt qn sc d17 d18 d19 fc x_14 (by omega) (by omega) (by omega) (by omega) _) (cwV 1 hts gX6_tellBackwards_X6_isLastStepOf rfl rfl rfl (by decide +kernel) ⟨Nat.le_of_ble_eq_true rfl, Nat.le_of_ble_eq_true rfl⟩) (bs_WV hB (hP.sub (ws' := [(wk, .inr (4, [.ref mo, .ref wy, .ref nw, .ref ol, .ref lt, .ref es, .ref sf, .ref sl, .ref so, .ref la, .ref li, .ref ru, .int (nI n), .int sc, .int (nI z), .int (nI tt), .int (nI qn), .int d17, .int d18, .int d19])), (sl, .inl (cyI, 1957, .inl fc))]) [0, 7] rfl) (hD.sub (ws' := [(wk, .inr (4, [.ref mo, .ref wy, .ref nw, .ref ol, .ref lt, .ref es, .ref sf, .ref sl, .ref so, .ref la, .ref li, .ref ru, .int (nI n), .int sc, .int (nI z), .int (nI tt), .int (nI qn), .int d17, .int d18, .int d19])), (sl, .inl (cyI, 1957, .inl fc))]) [0, 7] (by decide) rfl) 0 rfl rfl) rfl rfl hl.1 rfl (lv_room (Nat.le_of_ble_eq_true rfl)) dX6_tellBackwards_89 ⟨Nat.le_of_ble_eq_true rfl, Nat.le_of_ble_eq_true rfl⟩) hS (fun q _ h => f_30 q h) f_30 (fun rh_31 uh_31 t H1 locs ht hvm h_31 hB1 hz1 hk1 hS => ?_)
                      obtain ⟨g_32, rfl⟩ : ∃ z, z = uh_31 := ⟨_, rfl⟩
                      obtain ⟨hP1, hD1⟩ := hB1
                      rw [ht] at hP1
                      obtain ⟨hP, hD⟩ := va_join (wr := [(wy, .inl (cyI, 1957, .inl fy)), (ta, .inl (cyI, 1957, .inl ft)), (li, .inl (cyI, 1957, .inl fi)), (lt, .inl (cyI, 1957, .inl fl)), (es, .inl (cyI, 25857, .inl fe)), (sf, .inl (cyI, 25857, .inl ff))]) (w1 := [(wk, .inr (4, [.ref mo, .ref wy, .ref nw, .ref ol, .ref lt, .ref es, .ref sf, .ref sl, .ref so, .ref la, .ref li, .ref ru, .int (nI n), .int sc, .int (nI z), .int (nI tt), .int (nI qn), .int d17, .int d18, .int d19])), (sl, .inl (cyI, 1957, .inl g_32))]) hP hD [0, 7] [1, 2, 3, 4, 5, 6] rfl rfl (by decide) (by decide) hk1 f_30 hP1 hD1
                      generalize H1 = H at hP hS ⊢
                      have hP : va_P (dC, dI) vwCl [(wy, .inl (cyI, 1957, .inl fy)), (ta, .inl (cyI, 1957, .inl ft)), (li, .inl (cyI, 1957, .inl fi)), (lt, .inl (cyI, 1957, .inl fl)), (es, .inl (cyI, 25857, .inl fe)), (sf, .inl (cyI, 25857, .inl ff)), (wk, .inr (4, [.ref mo, .ref wy, .ref nw, .ref ol, .ref lt, .ref es, .ref sf, .ref sl, .ref so, .ref la, .ref li, .ref ru, .int (nI n), .int sc, .int (nI z), .int (nI tt), .int (nI qn), .int d17, .int d18, .int d19])), (sl, .inl (cyI, 1957, .inl g_32))] _ := hP
                      have hD : va_D A [(wy, .inl (cyI, 1957, .inl fy)), (ta, .inl (cyI, 1957, .inl ft)), (li, .inl (cyI, 1957, .inl fi)), (lt, .inl (cyI, 1957, .inl fl)), (es, .inl (cyI, 25857, .inl fe)), (sf, .inl (cyI, 25857, .inl ff)), (wk, .inr (4, [.ref mo, .ref wy, .ref nw, .ref ol, .ref lt, .ref es, .ref sf, .ref sl, .ref so, .ref la, .ref li, .ref ru, .int (nI n), .int sc, .int (nI z), .int (nI tt), .int (nI qn), .int d17, .int d18, .int d19])), (sl, .inl (cyI, 1957, .inl g_32))] := hD
                      refine lv_if_eq (tgt := 129) hx hb dX6_tellBackwards_92 (by decide) (fun c_33 => ?_) (fun c_33 => ?_)
                      · skip
                        have ic_33 := ci_eq (rfl : Int32.toInt rh_31 = _) (show Int32.toInt 0 = 0 by decide) c_33
                        refine lv_aload_n hx hb dX6_tellBackwards_129 rfl (lv_at hl 1 rfl) ?_
                        refine va_get (D := (dC, dI)) (ci := 4) (v := .ref es) (C := RX6) (T := TX6) (N := 20) hx hb hts hnX6_tellBackwards_X6 hown hK hP 6 rfl rfl 5 (by decide) (hts (.fieldLink RX6 31 "RingMeets$Walks" "earlierStep" "[I") (by decide +kernel)) (fun _ h9 => h9) rfl dX6_tellBackwards_130 ?_
                        refine lv_iload hx hb dX6_tellBackwards_133 (lv_at hl 6 rfl) ?_
                        refine va_iald (D := (dC, dI)) hx hb hK hP 4 0 rfl rfl (nb_in (x := ys) (n := 25857) (by omega) (by omega)) dX6_tellBackwards_135 ?_
                        refine lv_topi (fun x_34 ex_34 => ?_)
                        refine lv_istore (lv' := [(5, .int x_34), (7, .int x_14), (0, .ref wk), (1, .ref ta), (2, .int p2), (3, .int (nI k)), (4, .int yt), (6, .int (nI jt))]) hx hb dX6_tellBackwards_136 hl (by decide) rfl (fun ls hl => ?_)
                        refine lv_iinc (v := (nI (jt + 1))) (lv' := [(6, .int (nI (jt + 1))), (5, .int x_34), (7, .int x_14), (0, .ref wk), (1, .ref ta), (2, .int p2), (3, .int (nI k)), (4, .int yt)]) hx hb dX6_tellBackwards_138 hl (k := 7) rfl (nI_1 _) (by decide) rfl (fun ls hl => ?_)
                        refine lv_goto (tgt := 55) hx hb dX6_tellBackwards_141 (by decide) ?_
                        exact ih55 (jt + 1) qn ft fi g_32 yt x_34 ⟨by omega, by omega⟩ (by omega) (by omega) (Or.inl ⟨by omega, by omega⟩) _ _ (hP.sub [6, 0, 1, 2, 3, 4, 5, 7] rfl) (hD.sub [6, 0, 1, 2, 3, 4, 5, 7] (by decide) rfl) hS _ (lv_sub hl [3, 4, 5, 6, 7, 1, 0] rfl)
                      · skip
                        have ic_33 := ci_ne (rfl : Int32.toInt rh_31 = _) (show Int32.toInt 0 = 0 by decide) c_33
                        refine lv_goto (tgt := 116) hx hb dX6_tellBackwards_95 (by decide) ?_
                        refine lv_aload_n hx hb dX6_tellBackwards_116 rfl (lv_at hl 1 rfl) ?_
                        refine lv_aload_n hx hb dX6_tellBackwards_117 rfl (lv_at hl 2 rfl) ?_
                        refine lv_iload hx hb dX6_tellBackwards_118 (lv_at hl 0 rfl) ?_
                        refine lv_aload_n hx hb dX6_tellBackwards_120 rfl (lv_at hl 2 rfl) ?_
                        refine lv_iload hx hb dX6_tellBackwards_121 (lv_at hl 5 rfl) ?_
                        refine va_iald (D := (dC, dI)) hx hb hK hP 1 0 rfl rfl (nb_in (x := yt) (n := 1957) (by omega) (by omega)) dX6_tellBackwards_123 ?_
                        refine lv_topi (fun x_35 ex_35 => ?_)
                        refine lv_iconst (v := 1) hx hb dX6_tellBackwards_124 (by decide) ?_
                        refine lv_iadd hx hb dX6_tellBackwards_125 ?_
                        refine lv_topi (fun x_36 ex_36 => ?_)
                        have f_37 := va_free (wc := [(wk, .inr (4, [.ref mo, .ref wy, .ref nw, .ref ol, .ref lt, .ref es, .ref sf, .ref sl, .ref so, .ref la, .ref li, .ref ru, .int (nI n), .int sc, .int (nI z), .int (nI tt), .int (nI qn), .int d17, .int d18, .int d19])), (ta, .inl (cyI, 1957, .inl ft)), (li, .inl (cyI, 1957, .inl fi))]) hD hS hA [6, 1, 2] rfl
                        refine va_callv (va_runV (As := [.ref ta, .int x_14, .int x_36]) (rest := []) ⟨hx, hb, hml, hown, hts⟩ (mX6_lineUp l dC dI cyI cyZ wk mo wy nw ol lt es sf sl so la li ru n z tt qn sc d17 d18 d19 ta ft fi x_14 x_36 (by omega) (by omega) (by omega) (by omega) _) (cwV 3 hts gX6_tellBackwards_X6_lineUp rfl rfl rfl (by decide +kernel) ⟨Nat.le_of_ble_eq_true rfl, Nat.le_of_ble_eq_true rfl⟩) (bs_WV hB (hP.sub (ws' := [(wk, .inr (4, [.ref mo, .ref wy, .ref nw, .ref ol, .ref lt, .ref es, .ref sf, .ref sl, .ref so, .ref la, .ref li, .ref ru, .int (nI n), .int sc, .int (nI z), .int (nI tt), .int (nI qn), .int d17, .int d18, .int d19])), (ta, .inl (cyI, 1957, .inl ft)), (li, .inl (cyI, 1957, .inl fi))]) [6, 1, 2] rfl) (hD.sub (ws' := [(wk, .inr (4, [.ref mo, .ref wy, .ref nw, .ref ol, .ref lt, .ref es, .ref sf, .ref sl, .ref so, .ref la, .ref li, .ref ru, .int (nI n), .int sc, .int (nI z), .int (nI tt), .int (nI qn), .int d17, .int d18, .int d19])), (ta, .inl (cyI, 1957, .inl ft)), (li, .inl (cyI, 1957, .inl fi))]) [6, 1, 2] (by decide) rfl) 0 rfl rfl) rfl rfl hl.1 rfl (lv_room (Nat.le_of_ble_eq_true rfl)) dX6_tellBackwards_126 ⟨Nat.le_of_ble_eq_true rfl, Nat.le_of_ble_eq_true rfl⟩) hS (fun q _ h => f_37 q h) f_37 (fun uh_38 t H1 locs ht hvm h_38 hB1 hz1 hk1 hS => ?_)
                        obtain ⟨v_39, g_40, g_41⟩ := uh_38
                        have h_38 : v_39 ≤ 1957 := h_38
                        obtain ⟨hP1, hD1⟩ := hB1
                        rw [ht] at hP1
                        obtain ⟨hP, hD⟩ := va_join (wr := [(wy, .inl (cyI, 1957, .inl fy)), (lt, .inl (cyI, 1957, .inl fl)), (es, .inl (cyI, 25857, .inl fe)), (sf, .inl (cyI, 25857, .inl ff)), (sl, .inl (cyI, 1957, .inl g_32))]) (w1 := [(wk, .inr (4, [.ref mo, .ref wy, .ref nw, .ref ol, .ref lt, .ref es, .ref sf, .ref sl, .ref so, .ref la, .ref li, .ref ru, .int (nI n), .int sc, .int (nI z), .int (nI tt), .int (nI v_39), .int d17, .int d18, .int d19])), (ta, .inl (cyI, 1957, .inl g_40)), (li, .inl (cyI, 1957, .inl g_41))]) hP hD [6, 1, 2] [0, 3, 4, 5, 7] rfl rfl (by decide) (by decide) hk1 f_37 hP1 hD1
                        generalize H1 = H at hP hS ⊢
                        have hP : va_P (dC, dI) vwCl [(wy, .inl (cyI, 1957, .inl fy)), (lt, .inl (cyI, 1957, .inl fl)), (es, .inl (cyI, 25857, .inl fe)), (sf, .inl (cyI, 25857, .inl ff)), (sl, .inl (cyI, 1957, .inl g_32)), (wk, .inr (4, [.ref mo, .ref wy, .ref nw, .ref ol, .ref lt, .ref es, .ref sf, .ref sl, .ref so, .ref la, .ref li, .ref ru, .int (nI n), .int sc, .int (nI z), .int (nI tt), .int (nI v_39), .int d17, .int d18, .int d19])), (ta, .inl (cyI, 1957, .inl g_40)), (li, .inl (cyI, 1957, .inl g_41))] _ := hP
                        have hD : va_D A [(wy, .inl (cyI, 1957, .inl fy)), (lt, .inl (cyI, 1957, .inl fl)), (es, .inl (cyI, 25857, .inl fe)), (sf, .inl (cyI, 25857, .inl ff)), (sl, .inl (cyI, 1957, .inl g_32)), (wk, .inr (4, [.ref mo, .ref wy, .ref nw, .ref ol, .ref lt, .ref es, .ref sf, .ref sl, .ref so, .ref la, .ref li, .ref ru, .int (nI n), .int sc, .int (nI z), .int (nI tt), .int (nI v_39), .int d17, .int d18, .int d19])), (ta, .inl (cyI, 1957, .inl g_40)), (li, .inl (cyI, 1957, .inl g_41))] := hD
                        refine lv_aload_n hx hb dX6_tellBackwards_129 rfl (lv_at hl 1 rfl) ?_
                        refine va_get (D := (dC, dI)) (ci := 4) (v := .ref es) (C := RX6) (T := TX6) (N := 20) hx hb hts hnX6_tellBackwards_X6 hown hK hP 5 rfl rfl 5 (by decide) (hts (.fieldLink RX6 31 "RingMeets$Walks" "earlierStep" "[I") (by decide +kernel)) (fun _ h9 => h9) rfl dX6_tellBackwards_130 ?_
                        refine lv_iload hx hb dX6_tellBackwards_133 (lv_at hl 6 rfl) ?_
                        refine va_iald (D := (dC, dI)) hx hb hK hP 2 0 rfl rfl (nb_in (x := ys) (n := 25857) (by omega) (by omega)) dX6_tellBackwards_135 ?_
                        refine lv_topi (fun x_42 ex_42 => ?_)
                        refine lv_istore (lv' := [(5, .int x_42), (7, .int x_14), (0, .ref wk), (1, .ref ta), (2, .int p2), (3, .int (nI k)), (4, .int yt), (6, .int (nI jt))]) hx hb dX6_tellBackwards_136 hl (by decide) rfl (fun ls hl => ?_)
                        refine lv_iinc (v := (nI (jt + 1))) (lv' := [(6, .int (nI (jt + 1))), (5, .int x_42), (7, .int x_14), (0, .ref wk), (1, .ref ta), (2, .int p2), (3, .int (nI k)), (4, .int yt)]) hx hb dX6_tellBackwards_138 hl (k := 7) rfl (nI_1 _) (by decide) rfl (fun ls hl => ?_)
                        refine lv_goto (tgt := 55) hx hb dX6_tellBackwards_141 (by decide) ?_
                        exact ih55 (jt + 1) v_39 g_40 g_41 g_32 yt x_42 ⟨by omega, by omega⟩ (by omega) (by omega) (Or.inl ⟨by omega, by omega⟩) _ _ (hP.sub [5, 0, 6, 7, 1, 2, 3, 4] rfl) (hD.sub [5, 0, 6, 7, 1, 2, 3, 4] (by decide) rfl) hS _ (lv_sub hl [3, 4, 5, 6, 7, 1, 0] rfl)
            exact L55 (tt + 1) 0 qn ft fi fc x_8 (-1) ⟨by omega, by omega⟩ (by omega) (by omega) (Or.inr (by decide)) _ _ (hP.sub [0, 1, 2, 3, 4, 5, 6, 7] rfl) (hD.sub [0, 1, 2, 3, 4, 5, 6, 7] (by decide) rfl) hS _ (lv_sub hl [3, 4, 5, 6, 2, 1, 0] rfl)
          · skip
            have ic_10 := ci_ne (rfl : Int32.toInt r_9 = _) (show Int32.toInt 0 = 0 by decide) c_10
            obtain ⟨hyl, hyu⟩ := hr_9.2 (hr_9.1.resolve_left c_10)
            refine lv_aload_n hx hb dX6_tellBackwards_39 rfl (lv_at hl 1 rfl) ?_
            refine va_get (D := (dC, dI)) (ci := 4) (v := .ref lt) (C := RX6) (T := TX6) (N := 20) hx hb hts hnX6_tellBackwards_X6 hown hK hP 0 rfl rfl 4 (by decide) (hts (.fieldLink RX6 28 "RingMeets$Walks" "lastStepTo" "[I") (by decide +kernel)) (fun _ h9 => h9) rfl dX6_tellBackwards_40 ?_
            refine lv_iload hx hb dX6_tellBackwards_43 (lv_at hl 0 rfl) ?_
            refine va_iald (D := (dC, dI)) hx hb hK hP 4 0 rfl rfl (nb_in (x := x_8) (n := 1957) (by omega) (by omega)) dX6_tellBackwards_45 ?_
            refine lv_topi (fun x_43 ex_43 => ?_)
            refine lv_goto (tgt := 50) hx hb dX6_tellBackwards_46 (by decide) ?_
            refine lv_istore (lv' := [(5, .int x_43), (4, .int x_8), (0, .ref wk), (1, .ref ta), (2, .int p2), (3, .int (nI k))]) hx hb dX6_tellBackwards_50 hl (by decide) rfl (fun ls hl => ?_)
            refine lv_iconst (v := 0) hx hb dX6_tellBackwards_52 (by decide) ?_
            refine lv_istore (lv' := [(6, .int 0), (5, .int x_43), (4, .int x_8), (0, .ref wk), (1, .ref ta), (2, .int p2), (3, .int (nI k))]) hx hb dX6_tellBackwards_53 hl (by decide) rfl (fun ls hl => ?_)
            have L55 : ∀ (n55 : Nat), ∀ (jt : Nat) (qn : Nat) (ft fi fc : Nat → Int32) (yt ys : Int32), (0 ≤ jt ∧ jt ≤ tt) → (tt + 1 ≤ jt + n55) → (qn ≤ 1957) → ((0 ≤ yt.toInt ∧ yt.toInt < z) ∨ ys.toInt < 0) → ∀ (H : Heap) (locs : List Loc), va_P (dC, dI) vwCl [(wk, .inr (4, [.ref mo, .ref wy, .ref nw, .ref ol, .ref lt, .ref es, .ref sf, .ref sl, .ref so, .ref la, .ref li, .ref ru, .int (nI n), .int sc, .int (nI z), .int (nI tt), .int (nI qn), .int d17, .int d18, .int d19])), (wy, .inl (cyI, 1957, .inl fy)), (ta, .inl (cyI, 1957, .inl ft)), (li, .inl (cyI, 1957, .inl fi)), (lt, .inl (cyI, 1957, .inl fl)), (es, .inl (cyI, 25857, .inl fe)), (sf, .inl (cyI, 25857, .inl ff)), (sl, .inl (cyI, 1957, .inl fc))] H → va_D A [(wk, .inr (4, [.ref mo, .ref wy, .ref nw, .ref ol, .ref lt, .ref es, .ref sf, .ref sl, .ref so, .ref la, .ref li, .ref ru, .int (nI n), .int sc, .int (nI z), .int (nI tt), .int (nI qn), .int d17, .int d18, .int d19])), (wy, .inl (cyI, 1957, .inl fy)), (ta, .inl (cyI, 1957, .inl ft)), (li, .inl (cyI, 1957, .inl fi)), (lt, .inl (cyI, 1957, .inl fl)), (es, .inl (cyI, 25857, .inl fe)), (sf, .inl (cyI, 25857, .inl ff)), (sl, .inl (cyI, 1957, .inl fc))] → va_S A s.heap H locs → ∀ (ls : Array Slot), lv_has ls 8 [(0, .ref wk), (1, .ref ta), (2, .int p2), (3, .int (nI k)), (4, .int yt), (5, .int ys), (6, .int (nI jt))] → W p l e (headSpec wsX6_tellBackwards ({ frames := 3, cells := 0, slots := 0, locals := 66 })).room s m ([.ref wk, .ref ta, .int p2] : List Value).toArray below meth c H locs 0 0 (MQ below (va_Qv (S := Nat × (Nat → Int32) × (Nat → Int32) × (Nat → Int32)) (fun q : Nat × (Nat → Int32) × (Nat → Int32) × (Nat → Int32) => q.1 ≤ 1957) (fun q t => bs_E dC dI A [(wk, .inr (4, [.ref mo, .ref wy, .ref nw, .ref ol, .ref lt, .ref es, .ref sf, .ref sl, .ref so, .ref la, .ref li, .ref ru, .int (nI n), .int sc, .int (nI z), .int (nI tt), .int (nI q.1), .int d17, .int d18, .int d19])), (wy, .inl (cyI, 1957, .inl fy)), (ta, .inl (cyI, 1957, .inl q.2.1)), (li, .inl (cyI, 1957, .inl q.2.2.1)), (lt, .inl (cyI, 1957, .inl fl)), (es, .inl (cyI, 25857, .inl fe)), (sf, .inl (cyI, 25857, .inl ff)), (sl, .inl (cyI, 1957, .inl q.2.2.2))] t) A) ([.ref wk, .ref ta, .int p2] : List Value).toArray s 0 0 A) (F0 m 55 ls []) := by
              intro n55
              induction n55 with
              | zero =>
                intro jt qn ft fi fc yt ys hk55 hn55 hqn hyt H locs hP hD hS ls hl
                exfalso
                omega
              | succ n55 ih55 =>
                intro jt qn ft fi fc yt ys hk55 hn55 hqn hyt H locs hP hD hS ls hl
                refine lv_iload hx hb dX6_tellBackwards_55 (lv_at hl 6 rfl) ?_
                refine lv_aload_n hx hb dX6_tellBackwards_57 rfl (lv_at hl 0 rfl) ?_
                refine va_get (D := (dC, dI)) (ci := 4) (v := .int (nI tt)) (C := RX6) (T := TX6) (N := 20) hx hb hts hnX6_tellBackwards_X6 hown hK hP 0 rfl rfl 15 (by decide) (hts (.fieldLink RX6 67 "RingMeets$Walks" "steps" "I") (by decide +kernel)) (fun _ h9 => h9) rfl dX6_tellBackwards_58 ?_
                refine lv_icmp_ge (tgt := 144) hx hb dX6_tellBackwards_61 (by decide) (fun c_44 => ?_) (fun c_44 => ?_)
                · skip
                  have ic_44 := ci_le (nI_toInt (n := tt) (by omega)) (nI_toInt (n := jt) (by omega)) c_44
                  refine lv_iinc (v := (nI (k + 1))) (lv' := [(3, .int (nI (k + 1))), (0, .ref wk), (1, .ref ta), (2, .int p2), (4, .int yt), (5, .int ys), (6, .int (nI jt))]) hx hb dX6_tellBackwards_144 hl (k := 3) rfl (nI_1 _) (by decide) rfl (fun ls hl => ?_)
                  refine lv_goto (tgt := 7) hx hb dX6_tellBackwards_147 (by decide) ?_
                  exact ih7 (k + 1) qn ft fi fc ⟨by omega, by omega⟩ (by omega) (by omega) _ _ (hP.sub [0, 1, 2, 3, 4, 5, 6, 7] rfl) (hD.sub [0, 1, 2, 3, 4, 5, 6, 7] (by decide) rfl) hS _ (lv_sub hl [1, 2, 3, 0] rfl)
                · skip
                  have ic_44 := ci_nle (nI_toInt (n := tt) (by omega)) (nI_toInt (n := jt) (by omega)) c_44
                  refine lv_aload_n hx hb dX6_tellBackwards_64 rfl (lv_at hl 0 rfl) ?_
                  refine lv_iload hx hb dX6_tellBackwards_65 (lv_at hl 5 rfl) ?_
                  refine vp_callSi (va_Run.run (va_runV (As := [.int ys]) (rest := []) ⟨hx, hb, hml, hown, hts⟩ (mX6_isStep l dC dI cyI cyZ wk mo wy nw ol lt es sf sl so la li ru n z tt qn sc d17 d18 d19 ys (by omega)) (cwV 1 hts gX6_tellBackwards_X6_isStep rfl rfl rfl (by decide +kernel) ⟨Nat.le_of_ble_eq_true rfl, Nat.le_of_ble_eq_true rfl⟩) (bs_RV hB (hP.sub (ws' := [(wk, .inr (4, [.ref mo, .ref wy, .ref nw, .ref ol, .ref lt, .ref es, .ref sf, .ref sl, .ref so, .ref la, .ref li, .ref ru, .int (nI n), .int sc, .int (nI z), .int (nI tt), .int (nI qn), .int d17, .int d18, .int d19]))]) [0] rfl) 0 rfl rfl) rfl rfl hl.1 rfl (lv_room (Nat.le_of_ble_eq_true rfl)) dX6_tellBackwards_67 ⟨Nat.le_of_ble_eq_true rfl, Nat.le_of_ble_eq_true rfl⟩)) (fun r_45 hr_45 => ?_)
                  refine lv_if_eq (tgt := 144) hx hb dX6_tellBackwards_70 (by decide) (fun c_46 => ?_) (fun c_46 => ?_)
                  · skip
                    have ic_46 := ci_eq (rfl : Int32.toInt r_45 = _) (show Int32.toInt 0 = 0 by decide) c_46
                    refine lv_iinc (v := (nI (k + 1))) (lv' := [(3, .int (nI (k + 1))), (0, .ref wk), (1, .ref ta), (2, .int p2), (4, .int yt), (5, .int ys), (6, .int (nI jt))]) hx hb dX6_tellBackwards_144 hl (k := 3) rfl (nI_1 _) (by decide) rfl (fun ls hl => ?_)
                    refine lv_goto (tgt := 7) hx hb dX6_tellBackwards_147 (by decide) ?_
                    exact ih7 (k + 1) qn ft fi fc ⟨by omega, by omega⟩ (by omega) (by omega) _ _ (hP.sub [0, 1, 2, 3, 4, 5, 6, 7] rfl) (hD.sub [0, 1, 2, 3, 4, 5, 6, 7] (by decide) rfl) hS _ (lv_sub hl [1, 2, 3, 0] rfl)
                  · skip
                    have ic_46 := ci_ne (rfl : Int32.toInt r_45 = _) (show Int32.toInt 0 = 0 by decide) c_46
                    obtain ⟨hsl, hsu⟩ := hr_45.2 (hr_45.1.resolve_left c_46)
                    have hyt : 0 ≤ yt.toInt ∧ yt.toInt < z := hyt.resolve_right (by omega)
                    refine lv_aload_n hx hb dX6_tellBackwards_73 rfl (lv_at hl 0 rfl) ?_
                    refine va_get (D := (dC, dI)) (ci := 4) (v := .ref sf) (C := RX6) (T := TX6) (N := 20) hx hb hts hnX6_tellBackwards_X6 hown hK hP 0 rfl rfl 6 (by decide) (hts (.fieldLink RX6 34 "RingMeets$Walks" "stepFrom" "[I") (by decide +kernel)) (fun _ h9 => h9) rfl dX6_tellBackwards_74 ?_
                    refine lv_iload hx hb dX6_tellBackwards_77 (lv_at hl 5 rfl) ?_
                    refine va_iald (D := (dC, dI)) hx hb hK hP 6 0 rfl rfl (nb_in (x := ys) (n := 25857) (by omega) (by omega)) dX6_tellBackwards_79 ?_
                    refine lv_topi (fun x_47 ex_47 => ?_)
                    refine lv_istore (lv' := [(7, .int x_47), (0, .ref wk), (1, .ref ta), (2, .int p2), (3, .int (nI k)), (4, .int yt), (5, .int ys), (6, .int (nI jt))]) hx hb dX6_tellBackwards_80 hl (by decide) rfl (fun ls hl => ?_)
                    refine lv_iload_n hx hb dX6_tellBackwards_82 rfl (lv_at hl 3 rfl) ?_
                    refine lv_if_eq (tgt := 98) hx hb dX6_tellBackwards_83 (by decide) (fun c_48 => ?_) (fun c_48 => ?_)
                    · skip
                      have ic_48 := ci_eq (rfl : Int32.toInt p2 = _) (show Int32.toInt 0 = 0 by decide) c_48
                      refine lv_aload_n hx hb dX6_tellBackwards_98 rfl (lv_at hl 1 rfl) ?_
                      refine lv_iload hx hb dX6_tellBackwards_99 (lv_at hl 0 rfl) ?_
                      refine vp_callSi (va_Run.run (va_runV (As := [.int x_47]) (rest := []) ⟨hx, hb, hml, hown, hts⟩ (mX6_isWay l dC dI cyI cyZ wk mo wy nw ol lt es sf sl so la li ru n z tt qn sc d17 d18 d19 x_47 (by omega)) (cwV 1 hts gX6_tellBackwards_X6_isWay rfl rfl rfl (by decide +kernel) ⟨Nat.le_of_ble_eq_true rfl, Nat.le_of_ble_eq_true rfl⟩) (bs_RV hB (hP.sub (ws' := [(wk, .inr (4, [.ref mo, .ref wy, .ref nw, .ref ol, .ref lt, .ref es, .ref sf, .ref sl, .ref so, .ref la, .ref li, .ref ru, .int (nI n), .int sc, .int (nI z), .int (nI tt), .int (nI qn), .int d17, .int d18, .int d19]))]) [0] rfl) 0 rfl rfl) rfl rfl hl.1 rfl (lv_room (Nat.le_of_ble_eq_true rfl)) dX6_tellBackwards_101 ⟨Nat.le_of_ble_eq_true rfl, Nat.le_of_ble_eq_true rfl⟩)) (fun r_49 hr_49 => ?_)
                      refine lv_if_eq (tgt := 129) hx hb dX6_tellBackwards_104 (by decide) (fun c_50 => ?_) (fun c_50 => ?_)
                      · skip
                        have ic_50 := ci_eq (rfl : Int32.toInt r_49 = _) (show Int32.toInt 0 = 0 by decide) c_50
                        refine lv_aload_n hx hb dX6_tellBackwards_129 rfl (lv_at hl 1 rfl) ?_
                        refine va_get (D := (dC, dI)) (ci := 4) (v := .ref es) (C := RX6) (T := TX6) (N := 20) hx hb hts hnX6_tellBackwards_X6 hown hK hP 0 rfl rfl 5 (by decide) (hts (.fieldLink RX6 31 "RingMeets$Walks" "earlierStep" "[I") (by decide +kernel)) (fun _ h9 => h9) rfl dX6_tellBackwards_130 ?_
                        refine lv_iload hx hb dX6_tellBackwards_133 (lv_at hl 6 rfl) ?_
                        refine va_iald (D := (dC, dI)) hx hb hK hP 5 0 rfl rfl (nb_in (x := ys) (n := 25857) (by omega) (by omega)) dX6_tellBackwards_135 ?_
                        refine lv_topi (fun x_51 ex_51 => ?_)
                        refine lv_istore (lv' := [(5, .int x_51), (7, .int x_47), (0, .ref wk), (1, .ref ta), (2, .int p2), (3, .int (nI k)), (4, .int yt), (6, .int (nI jt))]) hx hb dX6_tellBackwards_136 hl (by decide) rfl (fun ls hl => ?_)
                        refine lv_iinc (v := (nI (jt + 1))) (lv' := [(6, .int (nI (jt + 1))), (5, .int x_51), (7, .int x_47), (0, .ref wk), (1, .ref ta), (2, .int p2), (3, .int (nI k)), (4, .int yt)]) hx hb dX6_tellBackwards_138 hl (k := 7) rfl (nI_1 _) (by decide) rfl (fun ls hl => ?_)
                        refine lv_goto (tgt := 55) hx hb dX6_tellBackwards_141 (by decide) ?_
                        exact ih55 (jt + 1) qn ft fi fc yt x_51 ⟨by omega, by omega⟩ (by omega) (by omega) (Or.inl ⟨by omega, by omega⟩) _ _ (hP.sub [0, 1, 2, 3, 4, 5, 6, 7] rfl) (hD.sub [0, 1, 2, 3, 4, 5, 6, 7] (by decide) rfl) hS _ (lv_sub hl [3, 4, 5, 6, 7, 1, 0] rfl)
                      · skip
                        have ic_50 := ci_ne (rfl : Int32.toInt r_49 = _) (show Int32.toInt 0 = 0 by decide) c_50
                        obtain ⟨hvl, hvu⟩ := hr_49.2 (hr_49.1.resolve_left c_50)
                        refine lv_aload_n hx hb dX6_tellBackwards_107 rfl (lv_at hl 2 rfl) ?_
                        refine lv_iload hx hb dX6_tellBackwards_108 (lv_at hl 0 rfl) ?_
                        refine va_iald (D := (dC, dI)) hx hb hK hP 2 0 rfl rfl (nb_in (x := x_47) (n := 1957) (by omega) (by omega)) dX6_tellBackwards_110 ?_
                        refine lv_topi (fun x_52 ex_52 => ?_)
                        refine lv_bipush (v := (-6)) hx hb dX6_tellBackwards_111 (by decide) ?_
                        refine lv_icmp_ne (tgt := 129) hx hb dX6_tellBackwards_113 (by decide) (fun c_53 => ?_) (fun c_53 => ?_)
                        · skip
                          have ic_53 := ci_ne (rfl : Int32.toInt x_52 = _) (show Int32.toInt (-6) = -6 by decide) c_53
                          refine lv_aload_n hx hb dX6_tellBackwards_129 rfl (lv_at hl 1 rfl) ?_
                          refine va_get (D := (dC, dI)) (ci := 4) (v := .ref es) (C := RX6) (T := TX6) (N := 20) hx hb hts hnX6_tellBackwards_X6 hown hK hP 0 rfl rfl 5 (by decide) (hts (.fieldLink RX6 31 "RingMeets$Walks" "earlierStep" "[I") (by decide +kernel)) (fun _ h9 => h9) rfl dX6_tellBackwards_130 ?_
                          refine lv_iload hx hb dX6_tellBackwards_133 (lv_at hl 6 rfl) ?_
                          refine va_iald (D := (dC, dI)) hx hb hK hP 5 0 rfl rfl (nb_in (x := ys) (n := 25857) (by omega) (by omega)) dX6_tellBackwards_135 ?_
                          refine lv_topi (fun x_54 ex_54 => ?_)
                          refine lv_istore (lv' := [(5, .int x_54), (7, .int x_47), (0, .ref wk), (1, .ref ta), (2, .int p2), (3, .int (nI k)), (4, .int yt), (6, .int (nI jt))]) hx hb dX6_tellBackwards_136 hl (by decide) rfl (fun ls hl => ?_)
                          refine lv_iinc (v := (nI (jt + 1))) (lv' := [(6, .int (nI (jt + 1))), (5, .int x_54), (7, .int x_47), (0, .ref wk), (1, .ref ta), (2, .int p2), (3, .int (nI k)), (4, .int yt)]) hx hb dX6_tellBackwards_138 hl (k := 7) rfl (nI_1 _) (by decide) rfl (fun ls hl => ?_)
                          refine lv_goto (tgt := 55) hx hb dX6_tellBackwards_141 (by decide) ?_
                          exact ih55 (jt + 1) qn ft fi fc yt x_54 ⟨by omega, by omega⟩ (by omega) (by omega) (Or.inl ⟨by omega, by omega⟩) _ _ (hP.sub [0, 1, 2, 3, 4, 5, 6, 7] rfl) (hD.sub [0, 1, 2, 3, 4, 5, 6, 7] (by decide) rfl) hS _ (lv_sub hl [3, 4, 5, 6, 7, 1, 0] rfl)
                        · skip
                          have ic_53 := ci_eq (rfl : Int32.toInt x_52 = _) (show Int32.toInt (-6) = -6 by decide) c_53
                          refine lv_aload_n hx hb dX6_tellBackwards_116 rfl (lv_at hl 1 rfl) ?_
                          refine lv_aload_n hx hb dX6_tellBackwards_117 rfl (lv_at hl 2 rfl) ?_
                          refine lv_iload hx hb dX6_tellBackwards_118 (lv_at hl 0 rfl) ?_
                          refine lv_aload_n hx hb dX6_tellBackwards_120 rfl (lv_at hl 2 rfl) ?_
                          refine lv_iload hx hb dX6_tellBackwards_121 (lv_at hl 5 rfl) ?_
                          refine va_iald (D := (dC, dI)) hx hb hK hP 2 0 rfl rfl (nb_in (x := yt) (n := 1957) (by omega) (by omega)) dX6_tellBackwards_123 ?_
                          refine lv_topi (fun x_55 ex_55 => ?_)
                          refine lv_iconst (v := 1) hx hb dX6_tellBackwards_124 (by decide) ?_
                          refine lv_iadd hx hb dX6_tellBackwards_125 ?_
                          refine lv_topi (fun x_56 ex_56 => ?_)
                          have f_57 := va_free (wc := [(wk, .inr (4, [.ref mo, .ref wy, .ref nw, .ref ol, .ref lt, .ref es, .ref sf, .ref sl, .ref so, .ref la, .ref li, .ref ru, .int (nI n), .int sc, .int (nI z), .int (nI tt), .int (nI qn), .int d17, .int d18, .int d19])), (ta, .inl (cyI, 1957, .inl ft)), (li, .inl (cyI, 1957, .inl fi))]) hD hS hA [0, 2, 3] rfl
                          refine va_callv (va_runV (As := [.ref ta, .int x_47, .int x_56]) (rest := []) ⟨hx, hb, hml, hown, hts⟩ (mX6_lineUp l dC dI cyI cyZ wk mo wy nw ol lt es sf sl so la li ru n z tt qn sc d17 d18 d19 ta ft fi x_47 x_56 (by omega) (by omega) (by omega) (by omega) _) (cwV 3 hts gX6_tellBackwards_X6_lineUp rfl rfl rfl (by decide +kernel) ⟨Nat.le_of_ble_eq_true rfl, Nat.le_of_ble_eq_true rfl⟩) (bs_WV hB (hP.sub (ws' := [(wk, .inr (4, [.ref mo, .ref wy, .ref nw, .ref ol, .ref lt, .ref es, .ref sf, .ref sl, .ref so, .ref la, .ref li, .ref ru, .int (nI n), .int sc, .int (nI z), .int (nI tt), .int (nI qn), .int d17, .int d18, .int d19])), (ta, .inl (cyI, 1957, .inl ft)), (li, .inl (cyI, 1957, .inl fi))]) [0, 2, 3] rfl) (hD.sub (ws' := [(wk, .inr (4, [.ref mo, .ref wy, .ref nw, .ref ol, .ref lt, .ref es, .ref sf, .ref sl, .ref so, .ref la, .ref li, .ref ru, .int (nI n), .int sc, .int (nI z), .int (nI tt), .int (nI qn), .int d17, .int d18, .int d19])), (ta, .inl (cyI, 1957, .inl ft)), (li, .inl (cyI, 1957, .inl fi))]) [0, 2, 3] (by decide) rfl) 0 rfl rfl) rfl rfl hl.1 rfl (lv_room (Nat.le_of_ble_eq_true rfl)) dX6_tellBackwards_126 ⟨Nat.le_of_ble_eq_true rfl, Nat.le_of_ble_eq_true rfl⟩) hS (fun q _ h => f_57 q h) f_57 (fun uh_58 t H1 locs ht hvm h_58 hB1 hz1 hk1 hS => ?_)
                          obtain ⟨v_59, g_60, g_61⟩ := uh_58
                          have h_58 : v_59 ≤ 1957 := h_58
                          obtain ⟨hP1, hD1⟩ := hB1
                          rw [ht] at hP1
                          obtain ⟨hP, hD⟩ := va_join (wr := [(wy, .inl (cyI, 1957, .inl fy)), (lt, .inl (cyI, 1957, .inl fl)), (es, .inl (cyI, 25857, .inl fe)), (sf, .inl (cyI, 25857, .inl ff)), (sl, .inl (cyI, 1957, .inl fc))]) (w1 := [(wk, .inr (4, [.ref mo, .ref wy, .ref nw, .ref ol, .ref lt, .ref es, .ref sf, .ref sl, .ref so, .ref la, .ref li, .ref ru, .int (nI n), .int sc, .int (nI z), .int (nI tt), .int (nI v_59), .int d17, .int d18, .int d19])), (ta, .inl (cyI, 1957, .inl g_60)), (li, .inl (cyI, 1957, .inl g_61))]) hP hD [0, 2, 3] [1, 4, 5, 6, 7] rfl rfl (by decide) (by decide) hk1 f_57 hP1 hD1
                          generalize H1 = H at hP hS ⊢
                          have hP : va_P (dC, dI) vwCl [(wy, .inl (cyI, 1957, .inl fy)), (lt, .inl (cyI, 1957, .inl fl)), (es, .inl (cyI, 25857, .inl fe)), (sf, .inl (cyI, 25857, .inl ff)), (sl, .inl (cyI, 1957, .inl fc)), (wk, .inr (4, [.ref mo, .ref wy, .ref nw, .ref ol, .ref lt, .ref es, .ref sf, .ref sl, .ref so, .ref la, .ref li, .ref ru, .int (nI n), .int sc, .int (nI z), .int (nI tt), .int (nI v_59), .int d17, .int d18, .int d19])), (ta, .inl (cyI, 1957, .inl g_60)), (li, .inl (cyI, 1957, .inl g_61))] _ := hP
                          have hD : va_D A [(wy, .inl (cyI, 1957, .inl fy)), (lt, .inl (cyI, 1957, .inl fl)), (es, .inl (cyI, 25857, .inl fe)), (sf, .inl (cyI, 25857, .inl ff)), (sl, .inl (cyI, 1957, .inl fc)), (wk, .inr (4, [.ref mo, .ref wy, .ref nw, .ref ol, .ref lt, .ref es, .ref sf, .ref sl, .ref so, .ref la, .ref li, .ref ru, .int (nI n), .int sc, .int (nI z), .int (nI tt), .int (nI v_59), .int d17, .int d18, .int d19])), (ta, .inl (cyI, 1957, .inl g_60)), (li, .inl (cyI, 1957, .inl g_61))] := hD
                          refine lv_aload_n hx hb dX6_tellBackwards_129 rfl (lv_at hl 1 rfl) ?_
                          refine va_get (D := (dC, dI)) (ci := 4) (v := .ref es) (C := RX6) (T := TX6) (N := 20) hx hb hts hnX6_tellBackwards_X6 hown hK hP 5 rfl rfl 5 (by decide) (hts (.fieldLink RX6 31 "RingMeets$Walks" "earlierStep" "[I") (by decide +kernel)) (fun _ h9 => h9) rfl dX6_tellBackwards_130 ?_
                          refine lv_iload hx hb dX6_tellBackwards_133 (lv_at hl 6 rfl) ?_
                          refine va_iald (D := (dC, dI)) hx hb hK hP 2 0 rfl rfl (nb_in (x := ys) (n := 25857) (by omega) (by omega)) dX6_tellBackwards_135 ?_
                          refine lv_topi (fun x_62 ex_62 => ?_)
                          refine lv_istore (lv' := [(5, .int x_62), (7, .int x_47), (0, .ref wk), (1, .ref ta), (2, .int p2), (3, .int (nI k)), (4, .int yt), (6, .int (nI jt))]) hx hb dX6_tellBackwards_136 hl (by decide) rfl (fun ls hl => ?_)
                          refine lv_iinc (v := (nI (jt + 1))) (lv' := [(6, .int (nI (jt + 1))), (5, .int x_62), (7, .int x_47), (0, .ref wk), (1, .ref ta), (2, .int p2), (3, .int (nI k)), (4, .int yt)]) hx hb dX6_tellBackwards_138 hl (k := 7) rfl (nI_1 _) (by decide) rfl (fun ls hl => ?_)
                          refine lv_goto (tgt := 55) hx hb dX6_tellBackwards_141 (by decide) ?_
                          exact ih55 (jt + 1) v_59 g_60 g_61 fc yt x_62 ⟨by omega, by omega⟩ (by omega) (by omega) (Or.inl ⟨by omega, by omega⟩) _ _ (hP.sub [5, 0, 6, 7, 1, 2, 3, 4] rfl) (hD.sub [5, 0, 6, 7, 1, 2, 3, 4] (by decide) rfl) hS _ (lv_sub hl [3, 4, 5, 6, 7, 1, 0] rfl)
                    · skip
                      have ic_48 := ci_ne (rfl : Int32.toInt p2 = _) (show Int32.toInt 0 = 0 by decide) c_48
                      refine lv_aload_n hx hb dX6_tellBackwards_86 rfl (lv_at hl 1 rfl) ?_
                      refine lv_iload hx hb dX6_tellBackwards_87 (lv_at hl 0 rfl) ?_
                      have f_63 := va_free (wc := [(wk, .inr (4, [.ref mo, .ref wy, .ref nw, .ref ol, .ref lt, .ref es, .ref sf, .ref sl, .ref so, .ref la, .ref li, .ref ru, .int (nI n), .int sc, .int (nI z), .int (nI tt), .int (nI qn), .int d17, .int d18, .int d19])), (sl, .inl (cyI, 1957, .inl fc))]) hD hS hA [0, 7] rfl
                      refine va_calli (va_runV (As := [.int x_47]) (rest := []) ⟨hx, hb, hml, hown, hts⟩ (mX6_isLastStepOf l dC dI cyI cyZ wk mo wy nw ol lt es sf sl so la li ru n z tt qn sc d17 d18 d19 fc x_47 (by omega) (by omega) (by omega) (by omega) _) (cwV 1 hts gX6_tellBackwards_X6_isLastStepOf rfl rfl rfl (by decide +kernel) ⟨Nat.le_of_ble_eq_true rfl, Nat.le_of_ble_eq_true rfl⟩) (bs_WV hB (hP.sub (ws' := [(wk, .inr (4, [.ref mo, .ref wy, .ref nw, .ref ol, .ref lt, .ref es, .ref sf, .ref sl, .ref so, .ref la, .ref li, .ref ru, .int (nI n), .int sc, .int (nI z), .int (nI tt), .int (nI qn), .int d17, .int d18, .int d19])), (sl, .inl (cyI, 1957, .inl fc))]) [0, 7] rfl) (hD.sub (ws' := [(wk, .inr (4, [.ref mo, .ref wy, .ref nw, .ref ol, .ref lt, .ref es, .ref sf, .ref sl, .ref so, .ref la, .ref li, .ref ru, .int (nI n), .int sc, .int (nI z), .int (nI tt), .int (nI qn), .int d17, .int d18, .int d19])), (sl, .inl (cyI, 1957, .inl fc))]) [0, 7] (by decide) rfl) 0 rfl rfl) rfl rfl hl.1 rfl (lv_room (Nat.le_of_ble_eq_true rfl)) dX6_tellBackwards_89 ⟨Nat.le_of_ble_eq_true rfl, Nat.le_of_ble_eq_true rfl⟩) hS (fun q _ h => f_63 q h) f_63 (fun rh_64 uh_64 t H1 locs ht hvm h_64 hB1 hz1 hk1 hS => ?_)
                      obtain ⟨g_65, rfl⟩ : ∃ z, z = uh_64 := ⟨_, rfl⟩
                      obtain ⟨hP1, hD1⟩ := hB1
                      rw [ht] at hP1
                      obtain ⟨hP, hD⟩ := va_join (wr := [(wy, .inl (cyI, 1957, .inl fy)), (ta, .inl (cyI, 1957, .inl ft)), (li, .inl (cyI, 1957, .inl fi)), (lt, .inl (cyI, 1957, .inl fl)), (es, .inl (cyI, 25857, .inl fe)), (sf, .inl (cyI, 25857, .inl ff))]) (w1 := [(wk, .inr (4, [.ref mo, .ref wy, .ref nw, .ref ol, .ref lt, .ref es, .ref sf, .ref sl, .ref so, .ref la, .ref li, .ref ru, .int (nI n), .int sc, .int (nI z), .int (nI tt), .int (nI qn), .int d17, .int d18, .int d19])), (sl, .inl (cyI, 1957, .inl g_65))]) hP hD [0, 7] [1, 2, 3, 4, 5, 6] rfl rfl (by decide) (by decide) hk1 f_63 hP1 hD1
                      generalize H1 = H at hP hS ⊢
                      have hP : va_P (dC, dI) vwCl [(wy, .inl (cyI, 1957, .inl fy)), (ta, .inl (cyI, 1957, .inl ft)), (li, .inl (cyI, 1957, .inl fi)), (lt, .inl (cyI, 1957, .inl fl)), (es, .inl (cyI, 25857, .inl fe)), (sf, .inl (cyI, 25857, .inl ff)), (wk, .inr (4, [.ref mo, .ref wy, .ref nw, .ref ol, .ref lt, .ref es, .ref sf, .ref sl, .ref so, .ref la, .ref li, .ref ru, .int (nI n), .int sc, .int (nI z), .int (nI tt), .int (nI qn), .int d17, .int d18, .int d19])), (sl, .inl (cyI, 1957, .inl g_65))] _ := hP
                      have hD : va_D A [(wy, .inl (cyI, 1957, .inl fy)), (ta, .inl (cyI, 1957, .inl ft)), (li, .inl (cyI, 1957, .inl fi)), (lt, .inl (cyI, 1957, .inl fl)), (es, .inl (cyI, 25857, .inl fe)), (sf, .inl (cyI, 25857, .inl ff)), (wk, .inr (4, [.ref mo, .ref wy, .ref nw, .ref ol, .ref lt, .ref es, .ref sf, .ref sl, .ref so, .ref la, .ref li, .ref ru, .int (nI n), .int sc, .int (nI z), .int (nI tt), .int (nI qn), .int d17, .int d18, .int d19])), (sl, .inl (cyI, 1957, .inl g_65))] := hD
                      refine lv_if_eq (tgt := 129) hx hb dX6_tellBackwards_92 (by decide) (fun c_66 => ?_) (fun c_66 => ?_)
                      · skip
                        have ic_66 := ci_eq (rfl : Int32.toInt rh_64 = _) (show Int32.toInt 0 = 0 by decide) c_66
                        refine lv_aload_n hx hb dX6_tellBackwards_129 rfl (lv_at hl 1 rfl) ?_
                        refine va_get (D := (dC, dI)) (ci := 4) (v := .ref es) (C := RX6) (T := TX6) (N := 20) hx hb hts hnX6_tellBackwards_X6 hown hK hP 6 rfl rfl 5 (by decide) (hts (.fieldLink RX6 31 "RingMeets$Walks" "earlierStep" "[I") (by decide +kernel)) (fun _ h9 => h9) rfl dX6_tellBackwards_130 ?_
                        refine lv_iload hx hb dX6_tellBackwards_133 (lv_at hl 6 rfl) ?_
                        refine va_iald (D := (dC, dI)) hx hb hK hP 4 0 rfl rfl (nb_in (x := ys) (n := 25857) (by omega) (by omega)) dX6_tellBackwards_135 ?_
                        refine lv_topi (fun x_67 ex_67 => ?_)
                        refine lv_istore (lv' := [(5, .int x_67), (7, .int x_47), (0, .ref wk), (1, .ref ta), (2, .int p2), (3, .int (nI k)), (4, .int yt), (6, .int (nI jt))]) hx hb dX6_tellBackwards_136 hl (by decide) rfl (fun ls hl => ?_)
                        refine lv_iinc (v := (nI (jt + 1))) (lv' := [(6, .int (nI (jt + 1))), (5, .int x_67), (7, .int x_47), (0, .ref wk), (1, .ref ta), (2, .int p2), (3, .int (nI k)), (4, .int yt)]) hx hb dX6_tellBackwards_138 hl (k := 7) rfl (nI_1 _) (by decide) rfl (fun ls hl => ?_)
                        refine lv_goto (tgt := 55) hx hb dX6_tellBackwards_141 (by decide) ?_
                        exact ih55 (jt + 1) qn ft fi g_65 yt x_67 ⟨by omega, by omega⟩ (by omega) (by omega) (Or.inl ⟨by omega, by omega⟩) _ _ (hP.sub [6, 0, 1, 2, 3, 4, 5, 7] rfl) (hD.sub [6, 0, 1, 2, 3, 4, 5, 7] (by decide) rfl) hS _ (lv_sub hl [3, 4, 5, 6, 7, 1, 0] rfl)
                      · skip
                        have ic_66 := ci_ne (rfl : Int32.toInt rh_64 = _) (show Int32.toInt 0 = 0 by decide) c_66
                        refine lv_goto (tgt := 116) hx hb dX6_tellBackwards_95 (by decide) ?_
                        refine lv_aload_n hx hb dX6_tellBackwards_116 rfl (lv_at hl 1 rfl) ?_
                        refine lv_aload_n hx hb dX6_tellBackwards_117 rfl (lv_at hl 2 rfl) ?_
                        refine lv_iload hx hb dX6_tellBackwards_118 (lv_at hl 0 rfl) ?_
                        refine lv_aload_n hx hb dX6_tellBackwards_120 rfl (lv_at hl 2 rfl) ?_
                        refine lv_iload hx hb dX6_tellBackwards_121 (lv_at hl 5 rfl) ?_
                        refine va_iald (D := (dC, dI)) hx hb hK hP 1 0 rfl rfl (nb_in (x := yt) (n := 1957) (by omega) (by omega)) dX6_tellBackwards_123 ?_
                        refine lv_topi (fun x_68 ex_68 => ?_)
                        refine lv_iconst (v := 1) hx hb dX6_tellBackwards_124 (by decide) ?_
                        refine lv_iadd hx hb dX6_tellBackwards_125 ?_
                        refine lv_topi (fun x_69 ex_69 => ?_)
                        have f_70 := va_free (wc := [(wk, .inr (4, [.ref mo, .ref wy, .ref nw, .ref ol, .ref lt, .ref es, .ref sf, .ref sl, .ref so, .ref la, .ref li, .ref ru, .int (nI n), .int sc, .int (nI z), .int (nI tt), .int (nI qn), .int d17, .int d18, .int d19])), (ta, .inl (cyI, 1957, .inl ft)), (li, .inl (cyI, 1957, .inl fi))]) hD hS hA [6, 1, 2] rfl
                        refine va_callv (va_runV (As := [.ref ta, .int x_47, .int x_69]) (rest := []) ⟨hx, hb, hml, hown, hts⟩ (mX6_lineUp l dC dI cyI cyZ wk mo wy nw ol lt es sf sl so la li ru n z tt qn sc d17 d18 d19 ta ft fi x_47 x_69 (by omega) (by omega) (by omega) (by omega) _) (cwV 3 hts gX6_tellBackwards_X6_lineUp rfl rfl rfl (by decide +kernel) ⟨Nat.le_of_ble_eq_true rfl, Nat.le_of_ble_eq_true rfl⟩) (bs_WV hB (hP.sub (ws' := [(wk, .inr (4, [.ref mo, .ref wy, .ref nw, .ref ol, .ref lt, .ref es, .ref sf, .ref sl, .ref so, .ref la, .ref li, .ref ru, .int (nI n), .int sc, .int (nI z), .int (nI tt), .int (nI qn), .int d17, .int d18, .int d19])), (ta, .inl (cyI, 1957, .inl ft)), (li, .inl (cyI, 1957, .inl fi))]) [6, 1, 2] rfl) (hD.sub (ws' := [(wk, .inr (4, [.ref mo, .ref wy, .ref nw, .ref ol, .ref lt, .ref es, .ref sf, .ref sl, .ref so, .ref la, .ref li, .ref ru, .int (nI n), .int sc, .int (nI z), .int (nI tt), .int (nI qn), .int d17, .int d18, .int d19])), (ta, .inl (cyI, 1957, .inl ft)), (li, .inl (cyI, 1957, .inl fi))]) [6, 1, 2] (by decide) rfl) 0 rfl rfl) rfl rfl hl.1 rfl (lv_room (Nat.le_of_ble_eq_true rfl)) dX6_tellBackwards_126 ⟨Nat.le_of_ble_eq_true rfl, Nat.le_of_ble_eq_true rfl⟩) hS (fun q _ h => f_70 q h) f_70 (fun uh_71 t H1 locs ht hvm h_71 hB1 hz1 hk1 hS => ?_)
                        obtain ⟨v_72, g_73, g_74⟩ := uh_71
                        have h_71 : v_72 ≤ 1957 := h_71
                        obtain ⟨hP1, hD1⟩ := hB1
                        rw [ht] at hP1
                        obtain ⟨hP, hD⟩ := va_join (wr := [(wy, .inl (cyI, 1957, .inl fy)), (lt, .inl (cyI, 1957, .inl fl)), (es, .inl (cyI, 25857, .inl fe)), (sf, .inl (cyI, 25857, .inl ff)), (sl, .inl (cyI, 1957, .inl g_65))]) (w1 := [(wk, .inr (4, [.ref mo, .ref wy, .ref nw, .ref ol, .ref lt, .ref es, .ref sf, .ref sl, .ref so, .ref la, .ref li, .ref ru, .int (nI n), .int sc, .int (nI z), .int (nI tt), .int (nI v_72), .int d17, .int d18, .int d19])), (ta, .inl (cyI, 1957, .inl g_73)), (li, .inl (cyI, 1957, .inl g_74))]) hP hD [6, 1, 2] [0, 3, 4, 5, 7] rfl rfl (by decide) (by decide) hk1 f_70 hP1 hD1
                        generalize H1 = H at hP hS ⊢
                        have hP : va_P (dC, dI) vwCl [(wy, .inl (cyI, 1957, .inl fy)), (lt, .inl (cyI, 1957, .inl fl)), (es, .inl (cyI, 25857, .inl fe)), (sf, .inl (cyI, 25857, .inl ff)), (sl, .inl (cyI, 1957, .inl g_65)), (wk, .inr (4, [.ref mo, .ref wy, .ref nw, .ref ol, .ref lt, .ref es, .ref sf, .ref sl, .ref so, .ref la, .ref li, .ref ru, .int (nI n), .int sc, .int (nI z), .int (nI tt), .int (nI v_72), .int d17, .int d18, .int d19])), (ta, .inl (cyI, 1957, .inl g_73)), (li, .inl (cyI, 1957, .inl g_74))] _ := hP
                        have hD : va_D A [(wy, .inl (cyI, 1957, .inl fy)), (lt, .inl (cyI, 1957, .inl fl)), (es, .inl (cyI, 25857, .inl fe)), (sf, .inl (cyI, 25857, .inl ff)), (sl, .inl (cyI, 1957, .inl g_65)), (wk, .inr (4, [.ref mo, .ref wy, .ref nw, .ref ol, .ref lt, .ref es, .ref sf, .ref sl, .ref so, .ref la, .ref li, .ref ru, .int (nI n), .int sc, .int (nI z), .int (nI tt), .int (nI v_72), .int d17, .int d18, .int d19])), (ta, .inl (cyI, 1957, .inl g_73)), (li, .inl (cyI, 1957, .inl g_74))] := hD
                        refine lv_aload_n hx hb dX6_tellBackwards_129 rfl (lv_at hl 1 rfl) ?_
                        refine va_get (D := (dC, dI)) (ci := 4) (v := .ref es) (C := RX6) (T := TX6) (N := 20) hx hb hts hnX6_tellBackwards_X6 hown hK hP 5 rfl rfl 5 (by decide) (hts (.fieldLink RX6 31 "RingMeets$Walks" "earlierStep" "[I") (by decide +kernel)) (fun _ h9 => h9) rfl dX6_tellBackwards_130 ?_
                        refine lv_iload hx hb dX6_tellBackwards_133 (lv_at hl 6 rfl) ?_
                        refine va_iald (D := (dC, dI)) hx hb hK hP 2 0 rfl rfl (nb_in (x := ys) (n := 25857) (by omega) (by omega)) dX6_tellBackwards_135 ?_
                        refine lv_topi (fun x_75 ex_75 => ?_)
                        refine lv_istore (lv' := [(5, .int x_75), (7, .int x_47), (0, .ref wk), (1, .ref ta), (2, .int p2), (3, .int (nI k)), (4, .int yt), (6, .int (nI jt))]) hx hb dX6_tellBackwards_136 hl (by decide) rfl (fun ls hl => ?_)
                        refine lv_iinc (v := (nI (jt + 1))) (lv' := [(6, .int (nI (jt + 1))), (5, .int x_75), (7, .int x_47), (0, .ref wk), (1, .ref ta), (2, .int p2), (3, .int (nI k)), (4, .int yt)]) hx hb dX6_tellBackwards_138 hl (k := 7) rfl (nI_1 _) (by decide) rfl (fun ls hl => ?_)
                        refine lv_goto (tgt := 55) hx hb dX6_tellBackwards_141 (by decide) ?_
                        exact ih55 (jt + 1) v_72 g_73 g_74 g_65 yt x_75 ⟨by omega, by omega⟩ (by omega) (by omega) (Or.inl ⟨by omega, by omega⟩) _ _ (hP.sub [5, 0, 6, 7, 1, 2, 3, 4] rfl) (hD.sub [5, 0, 6, 7, 1, 2, 3, 4] (by decide) rfl) hS _ (lv_sub hl [3, 4, 5, 6, 7, 1, 0] rfl)
            exact L55 (tt + 1) 0 qn ft fi fc x_8 x_43 ⟨by omega, by omega⟩ (by omega) (by omega) (Or.inl ⟨by omega, by omega⟩) _ _ (hP.sub [0, 1, 2, 3, 4, 5, 6, 7] rfl) (hD.sub [0, 1, 2, 3, 4, 5, 6, 7] (by decide) rfl) hS _ (lv_sub hl [3, 4, 5, 6, 2, 1, 0] rfl)
  exact L7 (1957 + 1) 0 v_3 g_4 g_5 fc ⟨by omega, by omega⟩ (by omega) (by omega) _ _ (hP.sub [4, 5, 6, 7, 0, 1, 2, 3] rfl) (hD.sub [4, 5, 6, 7, 0, 1, 2, 3] (by decide) rfl) hS _ (lv_sub hl [1, 2, 3, 0] rfl)

theorem hnX6_walk_X6 : ∀ w ∈ wsX60, w ∈ wsX6_walk := fun _ h => List.mem_cons_of_mem _ (List.mem_append_left _ (List.mem_append_left _ (List.mem_append_left _ (List.mem_append_right _ h))))
set_option maxHeartbeats 4000000 in
set_option maxRecDepth 100000 in
theorem mX6_walk (l : Launch) (dC : Nat → ClassId) (dI : Nat → Nat → Nat) (cyI cyZ : ClassId) (wk : Nat) (mo : Nat) (wy : Nat) (nw : Nat) (ol : Nat) (lt : Nat) (es : Nat) (sf : Nat) (sl : Nat) (so : Nat) (la : Nat) (li : Nat) (ru : Nat) (n : Nat) (z : Nat) (tt : Nat) (qn : Nat) (sc : Int32) (d17 : Int32) (d18 : Int32) (d19 : Int32) (lk : Nat) (rt : Nat) (zz : Nat) (j0 : Int32) (j1 : Int32) (j2 : Int32) (i0 : Int32) (i1 : Int32) (i2 : Int32) (i3 : Int32) (i4 : Int32) (tg : Nat → Int32) (fy : Nat → Int32) (fn : Nat → Int32) (fo : Nat → Int32) (fl : Nat → Int32) (fe : Nat → Int32) (ff : Nat → Int32) (fc : Nat → Int32) (fs : Nat → Int32) (fa : Nat → Int32) (fi : Nat → Int32) (hn : n ≤ 10) (hz : z ≤ 1957) (htt : tt ≤ 25857) (hqn : qn ≤ 1957) (hzz : zz ≤ 10) (sz : Nat) : Met l yX6_walk wsX6_walk ({ frames := 5, cells := 0, slots := 0, locals := 126 }) (bs_W dC dI cyI cyZ [.ref wk] [(wk, .inr (4, [.ref mo, .ref wy, .ref nw, .ref ol, .ref lt, .ref es, .ref sf, .ref sl, .ref so, .ref la, .ref li, .ref ru, .int (nI n), .int sc, .int (nI z), .int (nI tt), .int (nI qn), .int d17, .int d18, .int d19])), (mo, .inr (1, [.ref lk, .int j0, .int j1, .int j2])), (lk, .inr (0, [.int i0, .int i1, .int i2, .int i3, .int i4])), (ru, .inr (2, [.ref rt, .int (nI zz)])), (rt, .inl (cyI, 60, .inl tg)), (wy, .inl (cyI, 1957, .inl fy)), (nw, .inl (cyI, 1024, .inl fn)), (ol, .inl (cyI, 1957, .inl fo)), (lt, .inl (cyI, 1957, .inl fl)), (es, .inl (cyI, 25857, .inl fe)), (sf, .inl (cyI, 25857, .inl ff)), (sl, .inl (cyI, 1957, .inl fc)), (so, .inl (cyI, 1957, .inl fs)), (la, .inl (cyI, 1957, .inl fa)), (li, .inl (cyI, 1957, .inl fi))] sz) (va_Qv (S := Nat × Nat × Nat × Int32 × Int32 × Int32 × Int32 × Int32 × Int32 × Int32 × Int32 × Int32 × Int32 × (Nat → Int32) × (Nat → Int32) × (Nat → Int32) × (Nat → Int32) × (Nat → Int32) × (Nat → Int32) × (Nat → Int32) × (Nat → Int32) × (Nat → Int32) × (Nat → Int32)) (fun q : Nat × Nat × Nat × Int32 × Int32 × Int32 × Int32 × Int32 × Int32 × Int32 × Int32 × Int32 × Int32 × (Nat → Int32) × (Nat → Int32) × (Nat → Int32) × (Nat → Int32) × (Nat → Int32) × (Nat → Int32) × (Nat → Int32) × (Nat → Int32) × (Nat → Int32) × (Nat → Int32) => q.1 ≤ 1957 ∧ q.2.1 ≤ 25857 ∧ q.2.2.1 ≤ 1957) (fun q t => bs_E dC dI (va_A [(wk, .inr (4, [.ref mo, .ref wy, .ref nw, .ref ol, .ref lt, .ref es, .ref sf, .ref sl, .ref so, .ref la, .ref li, .ref ru, .int (nI n), .int sc, .int (nI z), .int (nI tt), .int (nI qn), .int d17, .int d18, .int d19])), (mo, .inr (1, [.ref lk, .int j0, .int j1, .int j2])), (lk, .inr (0, [.int i0, .int i1, .int i2, .int i3, .int i4])), (ru, .inr (2, [.ref rt, .int (nI zz)])), (rt, .inl (cyI, 60, .inl tg)), (wy, .inl (cyI, 1957, .inl fy)), (nw, .inl (cyI, 1024, .inl fn)), (ol, .inl (cyI, 1957, .inl fo)), (lt, .inl (cyI, 1957, .inl fl)), (es, .inl (cyI, 25857, .inl fe)), (sf, .inl (cyI, 25857, .inl ff)), (sl, .inl (cyI, 1957, .inl fc)), (so, .inl (cyI, 1957, .inl fs)), (la, .inl (cyI, 1957, .inl fa)), (li, .inl (cyI, 1957, .inl fi))] sz) [(wk, .inr (4, [.ref mo, .ref wy, .ref nw, .ref ol, .ref lt, .ref es, .ref sf, .ref sl, .ref so, .ref la, .ref li, .ref ru, .int (nI n), .int sc, .int (nI q.1), .int (nI q.2.1), .int (nI q.2.2.1), .int q.2.2.2.1, .int q.2.2.2.2.1, .int d19])), (mo, .inr (1, [.ref lk, .int q.2.2.2.2.2.1, .int q.2.2.2.2.2.2.1, .int q.2.2.2.2.2.2.2.1])), (lk, .inr (0, [.int q.2.2.2.2.2.2.2.2.1, .int q.2.2.2.2.2.2.2.2.2.1, .int q.2.2.2.2.2.2.2.2.2.2.1, .int q.2.2.2.2.2.2.2.2.2.2.2.1, .int q.2.2.2.2.2.2.2.2.2.2.2.2.1])), (ru, .inr (2, [.ref rt, .int (nI zz)])), (rt, .inl (cyI, 60, .inl tg)), (wy, .inl (cyI, 1957, .inl q.2.2.2.2.2.2.2.2.2.2.2.2.2.1)), (nw, .inl (cyI, 1024, .inl q.2.2.2.2.2.2.2.2.2.2.2.2.2.2.1)), (ol, .inl (cyI, 1957, .inl q.2.2.2.2.2.2.2.2.2.2.2.2.2.2.2.1)), (lt, .inl (cyI, 1957, .inl q.2.2.2.2.2.2.2.2.2.2.2.2.2.2.2.2.1)), (es, .inl (cyI, 25857, .inl q.2.2.2.2.2.2.2.2.2.2.2.2.2.2.2.2.2.1)), (sf, .inl (cyI, 25857, .inl q.2.2.2.2.2.2.2.2.2.2.2.2.2.2.2.2.2.2.1)), (sl, .inl (cyI, 1957, .inl q.2.2.2.2.2.2.2.2.2.2.2.2.2.2.2.2.2.2.2.1)), (so, .inl (cyI, 1957, .inl q.2.2.2.2.2.2.2.2.2.2.2.2.2.2.2.2.2.2.2.2.1)), (la, .inl (cyI, 1957, .inl q.2.2.2.2.2.2.2.2.2.2.2.2.2.2.2.2.2.2.2.2.2.1)), (li, .inl (cyI, 1957, .inl q.2.2.2.2.2.2.2.2.2.2.2.2.2.2.2.2.2.2.2.2.2.2))] t) (va_A [(wk, .inr (4, [.ref mo, .ref wy, .ref nw, .ref ol, .ref lt, .ref es, .ref sf, .ref sl, .ref so, .ref la, .ref li, .ref ru, .int (nI n), .int sc, .int (nI z), .int (nI tt), .int (nI qn), .int d17, .int d18, .int d19])), (mo, .inr (1, [.ref lk, .int j0, .int j1, .int j2])), (lk, .inr (0, [.int i0, .int i1, .int i2, .int i3, .int i4])), (ru, .inr (2, [.ref rt, .int (nI zz)])), (rt, .inl (cyI, 60, .inl tg)), (wy, .inl (cyI, 1957, .inl fy)), (nw, .inl (cyI, 1024, .inl fn)), (ol, .inl (cyI, 1957, .inl fo)), (lt, .inl (cyI, 1957, .inl fl)), (es, .inl (cyI, 25857, .inl fe)), (sf, .inl (cyI, 25857, .inl ff)), (sl, .inl (cyI, 1957, .inl fc)), (so, .inl (cyI, 1957, .inl fs)), (la, .inl (cyI, 1957, .inl fa)), (li, .inl (cyI, 1957, .inl fi))] sz)) 0 0 (va_A [(wk, .inr (4, [.ref mo, .ref wy, .ref nw, .ref ol, .ref lt, .ref es, .ref sf, .ref sl, .ref so, .ref la, .ref li, .ref ru, .int (nI n), .int sc, .int (nI z), .int (nI tt), .int (nI qn), .int d17, .int d18, .int d19])), (mo, .inr (1, [.ref lk, .int j0, .int j1, .int j2])), (lk, .inr (0, [.int i0, .int i1, .int i2, .int i3, .int i4])), (ru, .inr (2, [.ref rt, .int (nI zz)])), (rt, .inl (cyI, 60, .inl tg)), (wy, .inl (cyI, 1957, .inl fy)), (nw, .inl (cyI, 1024, .inl fn)), (ol, .inl (cyI, 1957, .inl fo)), (lt, .inl (cyI, 1957, .inl fl)), (es, .inl (cyI, 25857, .inl fe)), (sf, .inl (cyI, 25857, .inl ff)), (sl, .inl (cyI, 1957, .inl fc)), (so, .inl (cyI, 1957, .inl fs)), (la, .inl (cyI, 1957, .inl fa)), (li, .inl (cyI, 1957, .inl fi))] sz) := by
  refine Met.ofW (cc := cX6_walk) (maxL := 2) (ret := none) (by decide) rfl ?_
  intro p e s m args below meth c s₁ B hml hv
  obtain ⟨rfl, hsz, hB, hP, hD0⟩ := hv
  have hK := hB.1
  have hN := hB.2
  have hx := B.exec
  have hb := B.bytes
  have hr := B.returns
  have hts := atoms_spec (ws := wsX6_walk) B.pre
  have hown : s.vm.findClass RX6 = some m.cls := findClass_of_methodNamed B.named
  have hlocks := B.notSynchronized
  subst hsz
  have hD := hD0.self (sz := s.heap.size)
  generalize hAe : va_A [(wk, .inr (4, [.ref mo, .ref wy, .ref nw, .ref ol, .ref lt, .ref es, .ref sf, .ref sl, .ref so, .ref la, .ref li, .ref ru, .int (nI n), .int sc, .int (nI z), .int (nI tt), .int (nI qn), .int d17, .int d18, .int d19])), (mo, .inr (1, [.ref lk, .int j0, .int j1, .int j2])), (lk, .inr (0, [.int i0, .int i1, .int i2, .int i3, .int i4])), (ru, .inr (2, [.ref rt, .int (nI zz)])), (rt, .inl (cyI, 60, .inl tg)), (wy, .inl (cyI, 1957, .inl fy)), (nw, .inl (cyI, 1024, .inl fn)), (ol, .inl (cyI, 1957, .inl fo)), (lt, .inl (cyI, 1957, .inl fl)), (es, .inl (cyI, 25857, .inl fe)), (sf, .inl (cyI, 25857, .inl ff)), (sl, .inl (cyI, 1957, .inl fc)), (so, .inl (cyI, 1957, .inl fs)), (la, .inl (cyI, 1957, .inl fa)), (li, .inl (cyI, 1957, .inl fi))] s.heap.size = A at hD ⊢
  have hA : ∀ q : Nat, s.heap.size ≤ q → A q := fun q h => by rw [← hAe]; exact Or.inr h
  have hS : va_S A s.heap s.heap [] := va_S.rf
  have hP : va_P (dC, dI) vwCl [(wk, .inr (4, [.ref mo, .ref wy, .ref nw, .ref ol, .ref lt, .ref es, .ref sf, .ref sl, .ref so, .ref la, .ref li, .ref ru, .int (nI n), .int sc, .int (nI z), .int (nI tt), .int (nI qn), .int d17, .int d18, .int d19])), (mo, .inr (1, [.ref lk, .int j0, .int j1, .int j2])), (lk, .inr (0, [.int i0, .int i1, .int i2, .int i3, .int i4])), (ru, .inr (2, [.ref rt, .int (nI zz)])), (rt, .inl (cyI, 60, .inl tg)), (wy, .inl (cyI, 1957, .inl fy)), (nw, .inl (cyI, 1024, .inl fn)), (ol, .inl (cyI, 1957, .inl fo)), (lt, .inl (cyI, 1957, .inl fl)), (es, .inl (cyI, 25857, .inl fe)), (sf, .inl (cyI, 25857, .inl ff)), (sl, .inl (cyI, 1957, .inl fc)), (so, .inl (cyI, 1957, .inl fs)), (la, .inl (cyI, 1957, .inl fa)), (li, .inl (cyI, 1957, .inl fi))] s.heap := hP
  have hl := lv_entry ([.ref wk]) (n := 2) (Nat.le_of_ble_eq_true rfl)
  rw [lg_entry_eq]
  generalize (lg_sl ([.ref wk]) ++ List.replicate (2 - (lg_sl ([.ref wk])).length) Slot.unset).toArray = ls at hl ⊢
  have hl : lv_has ls 2 [(0, .ref wk)] := hl
  refine lv_iconst (v := 0) hx hb dX6_walk_0 (by decide) ?_
  refine lv_istore_n (lv' := [(1, .int 0), (0, .ref wk)]) hx hb dX6_walk_1 rfl hl (by decide) rfl (fun ls hl => ?_)
  have L2 : ∀ (n2 : Nat), ∀ (k : Nat) (z tt : Nat) (d17 d18 j0 j1 j2 i0 i1 i2 i3 i4 : Int32) (fy fn fo fl fe ff fc : Nat → Int32), (0 ≤ k ∧ k ≤ 1957) → (1957 + 1 ≤ k + n2) → (z ≤ 1957) → (tt ≤ 25857) → ∀ (H : Heap) (locs : List Loc), va_P (dC, dI) vwCl [(wk, .inr (4, [.ref mo, .ref wy, .ref nw, .ref ol, .ref lt, .ref es, .ref sf, .ref sl, .ref so, .ref la, .ref li, .ref ru, .int (nI n), .int sc, .int (nI z), .int (nI tt), .int (nI qn), .int d17, .int d18, .int d19])), (mo, .inr (1, [.ref lk, .int j0, .int j1, .int j2])), (lk, .inr (0, [.int i0, .int i1, .int i2, .int i3, .int i4])), (ru, .inr (2, [.ref rt, .int (nI zz)])), (rt, .inl (cyI, 60, .inl tg)), (wy, .inl (cyI, 1957, .inl fy)), (nw, .inl (cyI, 1024, .inl fn)), (ol, .inl (cyI, 1957, .inl fo)), (lt, .inl (cyI, 1957, .inl fl)), (es, .inl (cyI, 25857, .inl fe)), (sf, .inl (cyI, 25857, .inl ff)), (sl, .inl (cyI, 1957, .inl fc)), (so, .inl (cyI, 1957, .inl fs)), (la, .inl (cyI, 1957, .inl fa)), (li, .inl (cyI, 1957, .inl fi))] H → va_D A [(wk, .inr (4, [.ref mo, .ref wy, .ref nw, .ref ol, .ref lt, .ref es, .ref sf, .ref sl, .ref so, .ref la, .ref li, .ref ru, .int (nI n), .int sc, .int (nI z), .int (nI tt), .int (nI qn), .int d17, .int d18, .int d19])), (mo, .inr (1, [.ref lk, .int j0, .int j1, .int j2])), (lk, .inr (0, [.int i0, .int i1, .int i2, .int i3, .int i4])), (ru, .inr (2, [.ref rt, .int (nI zz)])), (rt, .inl (cyI, 60, .inl tg)), (wy, .inl (cyI, 1957, .inl fy)), (nw, .inl (cyI, 1024, .inl fn)), (ol, .inl (cyI, 1957, .inl fo)), (lt, .inl (cyI, 1957, .inl fl)), (es, .inl (cyI, 25857, .inl fe)), (sf, .inl (cyI, 25857, .inl ff)), (sl, .inl (cyI, 1957, .inl fc)), (so, .inl (cyI, 1957, .inl fs)), (la, .inl (cyI, 1957, .inl fa)), (li, .inl (cyI, 1957, .inl fi))] → va_S A s.heap H locs → ∀ (ls : Array Slot), lv_has ls 2 [(0, .ref wk), (1, .int (nI k))] → W p l e (headSpec wsX6_walk ({ frames := 5, cells := 0, slots := 0, locals := 126 })).room s m ([.ref wk] : List Value).toArray below meth c H locs 0 0 (MQ below (va_Qv (S := Nat × Nat × Nat × Int32 × Int32 × Int32 × Int32 × Int32 × Int32 × Int32 × Int32 × Int32 × Int32 × (Nat → Int32) × (Nat → Int32) × (Nat → Int32) × (Nat → Int32) × (Nat → Int32) × (Nat → Int32) × (Nat → Int32) × (Nat → Int32) × (Nat → Int32) × (Nat → Int32)) (fun q : Nat × Nat × Nat × Int32 × Int32 × Int32 × Int32 × Int32 × Int32 × Int32 × Int32 × Int32 × Int32 × (Nat → Int32) × (Nat → Int32) × (Nat → Int32) × (Nat → Int32) × (Nat → Int32) × (Nat → Int32) × (Nat → Int32) × (Nat → Int32) × (Nat → Int32) × (Nat → Int32) => q.1 ≤ 1957 ∧ q.2.1 ≤ 25857 ∧ q.2.2.1 ≤ 1957) (fun q t => bs_E dC dI A [(wk, .inr (4, [.ref mo, .ref wy, .ref nw, .ref ol, .ref lt, .ref es, .ref sf, .ref sl, .ref so, .ref la, .ref li, .ref ru, .int (nI n), .int sc, .int (nI q.1), .int (nI q.2.1), .int (nI q.2.2.1), .int q.2.2.2.1, .int q.2.2.2.2.1, .int d19])), (mo, .inr (1, [.ref lk, .int q.2.2.2.2.2.1, .int q.2.2.2.2.2.2.1, .int q.2.2.2.2.2.2.2.1])), (lk, .inr (0, [.int q.2.2.2.2.2.2.2.2.1, .int q.2.2.2.2.2.2.2.2.2.1, .int q.2.2.2.2.2.2.2.2.2.2.1, .int q.2.2.2.2.2.2.2.2.2.2.2.1, .int q.2.2.2.2.2.2.2.2.2.2.2.2.1])), (ru, .inr (2, [.ref rt, .int (nI zz)])), (rt, .inl (cyI, 60, .inl tg)), (wy, .inl (cyI, 1957, .inl q.2.2.2.2.2.2.2.2.2.2.2.2.2.1)), (nw, .inl (cyI, 1024, .inl q.2.2.2.2.2.2.2.2.2.2.2.2.2.2.1)), (ol, .inl (cyI, 1957, .inl q.2.2.2.2.2.2.2.2.2.2.2.2.2.2.2.1)), (lt, .inl (cyI, 1957, .inl q.2.2.2.2.2.2.2.2.2.2.2.2.2.2.2.2.1)), (es, .inl (cyI, 25857, .inl q.2.2.2.2.2.2.2.2.2.2.2.2.2.2.2.2.2.1)), (sf, .inl (cyI, 25857, .inl q.2.2.2.2.2.2.2.2.2.2.2.2.2.2.2.2.2.2.1)), (sl, .inl (cyI, 1957, .inl q.2.2.2.2.2.2.2.2.2.2.2.2.2.2.2.2.2.2.2.1)), (so, .inl (cyI, 1957, .inl q.2.2.2.2.2.2.2.2.2.2.2.2.2.2.2.2.2.2.2.2.1)), (la, .inl (cyI, 1957, .inl q.2.2.2.2.2.2.2.2.2.2.2.2.2.2.2.2.2.2.2.2.2.1)), (li, .inl (cyI, 1957, .inl q.2.2.2.2.2.2.2.2.2.2.2.2.2.2.2.2.2.2.2.2.2.2))] t) A) ([.ref wk] : List Value).toArray s 0 0 A) (F0 m 2 ls []) := by
    intro n2
    induction n2 with
    | zero =>
      intro k z tt d17 d18 j0 j1 j2 i0 i1 i2 i3 i4 fy fn fo fl fe ff fc hk2 hn2 hz htt H locs hP hD hS ls hl
      exfalso
      omega
    | succ n2 ih2 =>
      intro k z tt d17 d18 j0 j1 j2 i0 i1 i2 i3 i4 fy fn fo fl fe ff fc hk2 hn2 hz htt H locs hP hD hS ls hl
      refine lv_iload_n hx hb dX6_walk_2 rfl (lv_at hl 1 rfl) ?_
      refine lv_aload_n hx hb dX6_walk_3 rfl (lv_at hl 0 rfl) ?_
      refine va_get (D := (dC, dI)) (ci := 4) (v := .int (nI z)) (C := RX6) (T := TX6) (N := 20) hx hb hts hnX6_walk_X6 hown hK hP 0 rfl rfl 14 (by decide) (hts (.fieldLink RX6 64 "RingMeets$Walks" "size" "I") (by decide +kernel)) (fun _ h9 => h9) rfl dX6_walk_4 ?_
      refine lv_icmp_ge (tgt := 70) hx hb dX6_walk_7 (by decide) (fun c_1 => ?_) (fun c_1 => ?_)
      · skip
        have ic_1 := ci_le (nI_toInt (n := z) (by omega)) (nI_toInt (n := k) (by omega)) c_1
        refine lv_aload_n hx hb dX6_walk_70 rfl (lv_at hl 0 rfl) ?_
        refine lv_aload_n hx hb dX6_walk_71 rfl (lv_at hl 0 rfl) ?_
        refine va_get (D := (dC, dI)) (ci := 4) (v := .ref so) (C := RX6) (T := TX6) (N := 20) hx hb hts hnX6_walk_X6 hown hK hP 0 rfl rfl 8 (by decide) (hts (.fieldLink RX6 40 "RingMeets$Walks" "soon" "[I") (by decide +kernel)) (fun _ h9 => h9) rfl dX6_walk_72 ?_
        refine lv_iconst (v := 0) hx hb dX6_walk_75 (by decide) ?_
        have f_2 := va_free (wc := [(wk, .inr (4, [.ref mo, .ref wy, .ref nw, .ref ol, .ref lt, .ref es, .ref sf, .ref sl, .ref so, .ref la, .ref li, .ref ru, .int (nI n), .int sc, .int (nI z), .int (nI tt), .int (nI qn), .int d17, .int d18, .int d19])), (wy, .inl (cyI, 1957, .inl fy)), (so, .inl (cyI, 1957, .inl fs)), (li, .inl (cyI, 1957, .inl fi)), (lt, .inl (cyI, 1957, .inl fl)), (es, .inl (cyI, 25857, .inl fe)), (sf, .inl (cyI, 25857, .inl ff)), (sl, .inl (cyI, 1957, .inl fc))]) hD hS hA [0, 5, 12, 14, 8, 9, 10, 11] rfl
        refine va_callv (va_runV (As := [.ref so, .int 0]) (rest := []) ⟨hx, hb, hml, hown, hts⟩ (mX6_tellBackwards l dC dI cyI cyZ wk mo wy nw ol lt es sf sl so la li ru n z tt qn sc d17 d18 d19 so fy fs fi fl fe ff fc 0 (by omega) (by omega) (by omega) (by omega) _) (cwV 2 hts gX6_walk_X6_tellBackwards rfl rfl rfl (by decide +kernel) ⟨Nat.le_of_ble_eq_true rfl, Nat.le_of_ble_eq_true rfl⟩) (bs_WV hB (hP.sub (ws' := [(wk, .inr (4, [.ref mo, .ref wy, .ref nw, .ref ol, .ref lt, .ref es, .ref sf, .ref sl, .ref so, .ref la, .ref li, .ref ru, .int (nI n), .int sc, .int (nI z), .int (nI tt), .int (nI qn), .int d17, .int d18, .int d19])), (wy, .inl (cyI, 1957, .inl fy)), (so, .inl (cyI, 1957, .inl fs)), (li, .inl (cyI, 1957, .inl fi)), (lt, .inl (cyI, 1957, .inl fl)), (es, .inl (cyI, 25857, .inl fe)), (sf, .inl (cyI, 25857, .inl ff)), (sl, .inl (cyI, 1957, .inl fc))]) [0, 5, 12, 14, 8, 9, 10, 11] rfl) (hD.sub (ws' := [(wk, .inr (4, [.ref mo, .ref wy, .ref nw, .ref ol, .ref lt, .ref es, .ref sf, .ref sl, .ref so, .ref la, .ref li, .ref ru, .int (nI n), .int sc, .int (nI z), .int (nI tt), .int (nI qn), .int d17, .int d18, .int d19])), (wy, .inl (cyI, 1957, .inl fy)), (so, .inl (cyI, 1957, .inl fs)), (li, .inl (cyI, 1957, .inl fi)), (lt, .inl (cyI, 1957, .inl fl)), (es, .inl (cyI, 25857, .inl fe)), (sf, .inl (cyI, 25857, .inl ff)), (sl, .inl (cyI, 1957, .inl fc))]) [0, 5, 12, 14, 8, 9, 10, 11] (by decide) rfl) 0 rfl rfl) rfl rfl hl.1 rfl (lv_room (Nat.le_of_ble_eq_true rfl)) dX6_walk_76 ⟨Nat.le_of_ble_eq_true rfl, Nat.le_of_ble_eq_true rfl⟩) hS (fun q _ h => f_2 q h) f_2 (fun uh_3 t H1 locs ht hvm h_3 hB1 hz1 hk1 hS => ?_)
        obtain ⟨v_4, g_5, g_6, g_7⟩ := uh_3
        have h_3 : v_4 ≤ 1957 := h_3
        obtain ⟨hP1, hD1⟩ := hB1
        rw [ht] at hP1
        obtain ⟨hP, hD⟩ := va_join (wr := [(mo, .inr (1, [.ref lk, .int j0, .int j1, .int j2])), (lk, .inr (0, [.int i0, .int i1, .int i2, .int i3, .int i4])), (ru, .inr (2, [.ref rt, .int (nI zz)])), (rt, .inl (cyI, 60, .inl tg)), (nw, .inl (cyI, 1024, .inl fn)), (ol, .inl (cyI, 1957, .inl fo)), (la, .inl (cyI, 1957, .inl fa))]) (w1 := [(wk, .inr (4, [.ref mo, .ref wy, .ref nw, .ref ol, .ref lt, .ref es, .ref sf, .ref sl, .ref so, .ref la, .ref li, .ref ru, .int (nI n), .int sc, .int (nI z), .int (nI tt), .int (nI v_4), .int d17, .int d18, .int d19])), (wy, .inl (cyI, 1957, .inl fy)), (so, .inl (cyI, 1957, .inl g_5)), (li, .inl (cyI, 1957, .inl g_6)), (lt, .inl (cyI, 1957, .inl fl)), (es, .inl (cyI, 25857, .inl fe)), (sf, .inl (cyI, 25857, .inl ff)), (sl, .inl (cyI, 1957, .inl g_7))]) hP hD [0, 5, 12, 14, 8, 9, 10, 11] [1, 2, 3, 4, 6, 7, 13] rfl rfl (by decide) (by decide) hk1 f_2 hP1 hD1
        generalize H1 = H at hP hS ⊢
        have hP : va_P (dC, dI) vwCl [(mo, .inr (1, [.ref lk, .int j0, .int j1, .int j2])), (lk, .inr (0, [.int i0, .int i1, .int i2, .int i3, .int i4])), (ru, .inr (2, [.ref rt, .int (nI zz)])), (rt, .inl (cyI, 60, .inl tg)), (nw, .inl (cyI, 1024, .inl fn)), (ol, .inl (cyI, 1957, .inl fo)), (la, .inl (cyI, 1957, .inl fa)), (wk, .inr (4, [.ref mo, .ref wy, .ref nw, .ref ol, .ref lt, .ref es, .ref sf, .ref sl, .ref so, .ref la, .ref li, .ref ru, .int (nI n), .int sc, .int (nI z), .int (nI tt), .int (nI v_4), .int d17, .int d18, .int d19])), (wy, .inl (cyI, 1957, .inl fy)), (so, .inl (cyI, 1957, .inl g_5)), (li, .inl (cyI, 1957, .inl g_6)), (lt, .inl (cyI, 1957, .inl fl)), (es, .inl (cyI, 25857, .inl fe)), (sf, .inl (cyI, 25857, .inl ff)), (sl, .inl (cyI, 1957, .inl g_7))] _ := hP
        have hD : va_D A [(mo, .inr (1, [.ref lk, .int j0, .int j1, .int j2])), (lk, .inr (0, [.int i0, .int i1, .int i2, .int i3, .int i4])), (ru, .inr (2, [.ref rt, .int (nI zz)])), (rt, .inl (cyI, 60, .inl tg)), (nw, .inl (cyI, 1024, .inl fn)), (ol, .inl (cyI, 1957, .inl fo)), (la, .inl (cyI, 1957, .inl fa)), (wk, .inr (4, [.ref mo, .ref wy, .ref nw, .ref ol, .ref lt, .ref es, .ref sf, .ref sl, .ref so, .ref la, .ref li, .ref ru, .int (nI n), .int sc, .int (nI z), .int (nI tt), .int (nI v_4), .int d17, .int d18, .int d19])), (wy, .inl (cyI, 1957, .inl fy)), (so, .inl (cyI, 1957, .inl g_5)), (li, .inl (cyI, 1957, .inl g_6)), (lt, .inl (cyI, 1957, .inl fl)), (es, .inl (cyI, 25857, .inl fe)), (sf, .inl (cyI, 25857, .inl ff)), (sl, .inl (cyI, 1957, .inl g_7))] := hD
        refine lv_aload_n hx hb dX6_walk_79 rfl (lv_at hl 0 rfl) ?_
        refine lv_aload_n hx hb dX6_walk_80 rfl (lv_at hl 0 rfl) ?_
        refine va_get (D := (dC, dI)) (ci := 4) (v := .ref la) (C := RX6) (T := TX6) (N := 20) hx hb hts hnX6_walk_X6 hown hK hP 7 rfl rfl 9 (by decide) (hts (.fieldLink RX6 43 "RingMeets$Walks" "late" "[I") (by decide +kernel)) (fun _ h9 => h9) rfl dX6_walk_81 ?_
        refine lv_iconst (v := 1) hx hb dX6_walk_84 (by decide) ?_
        have f_8 := va_free (wc := [(wk, .inr (4, [.ref mo, .ref wy, .ref nw, .ref ol, .ref lt, .ref es, .ref sf, .ref sl, .ref so, .ref la, .ref li, .ref ru, .int (nI n), .int sc, .int (nI z), .int (nI tt), .int (nI v_4), .int d17, .int d18, .int d19])), (wy, .inl (cyI, 1957, .inl fy)), (la, .inl (cyI, 1957, .inl fa)), (li, .inl (cyI, 1957, .inl g_6)), (lt, .inl (cyI, 1957, .inl fl)), (es, .inl (cyI, 25857, .inl fe)), (sf, .inl (cyI, 25857, .inl ff)), (sl, .inl (cyI, 1957, .inl g_7))]) hD hS hA [7, 8, 6, 10, 11, 12, 13, 14] rfl
        refine va_callv (va_runV (As := [.ref la, .int 1]) (rest := []) ⟨hx, hb, hml, hown, hts⟩ (mX6_tellBackwards l dC dI cyI cyZ wk mo wy nw ol lt es sf sl so la li ru n z tt v_4 sc d17 d18 d19 la fy fa g_6 fl fe ff g_7 1 (by omega) (by omega) (by omega) (by omega) _) (cwV 2 hts gX6_walk_X6_tellBackwards rfl rfl rfl (by decide +kernel) ⟨Nat.le_of_ble_eq_true rfl, Nat.le_of_ble_eq_true rfl⟩) (bs_WV hB (hP.sub (ws' := [(wk, .inr (4, [.ref mo, .ref wy, .ref nw, .ref ol, .ref lt, .ref es, .ref sf, .ref sl, .ref so, .ref la, .ref li, .ref ru, .int (nI n), .int sc, .int (nI z), .int (nI tt), .int (nI v_4), .int d17, .int d18, .int d19])), (wy, .inl (cyI, 1957, .inl fy)), (la, .inl (cyI, 1957, .inl fa)), (li, .inl (cyI, 1957, .inl g_6)), (lt, .inl (cyI, 1957, .inl fl)), (es, .inl (cyI, 25857, .inl fe)), (sf, .inl (cyI, 25857, .inl ff)), (sl, .inl (cyI, 1957, .inl g_7))]) [7, 8, 6, 10, 11, 12, 13, 14] rfl) (hD.sub (ws' := [(wk, .inr (4, [.ref mo, .ref wy, .ref nw, .ref ol, .ref lt, .ref es, .ref sf, .ref sl, .ref so, .ref la, .ref li, .ref ru, .int (nI n), .int sc, .int (nI z), .int (nI tt), .int (nI v_4), .int d17, .int d18, .int d19])), (wy, .inl (cyI, 1957, .inl fy)), (la, .inl (cyI, 1957, .inl fa)), (li, .inl (cyI, 1957, .inl g_6)), (lt, .inl (cyI, 1957, .inl fl)), (es, .inl (cyI, 25857, .inl fe)), (sf, .inl (cyI, 25857, .inl ff)), (sl, .inl (cyI, 1957, .inl g_7))]) [7, 8, 6, 10, 11, 12, 13, 14] (by decide) rfl) 0 rfl rfl) rfl rfl hl.1 rfl (lv_room (Nat.le_of_ble_eq_true rfl)) dX6_walk_85 ⟨Nat.le_of_ble_eq_true rfl, Nat.le_of_ble_eq_true rfl⟩) hS (fun q _ h => f_8 q h) f_8 (fun uh_9 t H1 locs ht hvm h_9 hB1 hz1 hk1 hS => ?_)
        obtain ⟨v_10, g_11, g_12, g_13⟩ := uh_9
        have h_9 : v_10 ≤ 1957 := h_9
        obtain ⟨hP1, hD1⟩ := hB1
        rw [ht] at hP1
        obtain ⟨hP, hD⟩ := va_join (wr := [(mo, .inr (1, [.ref lk, .int j0, .int j1, .int j2])), (lk, .inr (0, [.int i0, .int i1, .int i2, .int i3, .int i4])), (ru, .inr (2, [.ref rt, .int (nI zz)])), (rt, .inl (cyI, 60, .inl tg)), (nw, .inl (cyI, 1024, .inl fn)), (ol, .inl (cyI, 1957, .inl fo)), (so, .inl (cyI, 1957, .inl g_5))]) (w1 := [(wk, .inr (4, [.ref mo, .ref wy, .ref nw, .ref ol, .ref lt, .ref es, .ref sf, .ref sl, .ref so, .ref la, .ref li, .ref ru, .int (nI n), .int sc, .int (nI z), .int (nI tt), .int (nI v_10), .int d17, .int d18, .int d19])), (wy, .inl (cyI, 1957, .inl fy)), (la, .inl (cyI, 1957, .inl g_11)), (li, .inl (cyI, 1957, .inl g_12)), (lt, .inl (cyI, 1957, .inl fl)), (es, .inl (cyI, 25857, .inl fe)), (sf, .inl (cyI, 25857, .inl ff)), (sl, .inl (cyI, 1957, .inl g_13))]) hP hD [7, 8, 6, 10, 11, 12, 13, 14] [0, 1, 2, 3, 4, 5, 9] rfl rfl (by decide) (by decide) hk1 f_8 hP1 hD1
        generalize H1 = H at hP hS ⊢
        have hP : va_P (dC, dI) vwCl [(mo, .inr (1, [.ref lk, .int j0, .int j1, .int j2])), (lk, .inr (0, [.int i0, .int i1, .int i2, .int i3, .int i4])), (ru, .inr (2, [.ref rt, .int (nI zz)])), (rt, .inl (cyI, 60, .inl tg)), (nw, .inl (cyI, 1024, .inl fn)), (ol, .inl (cyI, 1957, .inl fo)), (so, .inl (cyI, 1957, .inl g_5)), (wk, .inr (4, [.ref mo, .ref wy, .ref nw, .ref ol, .ref lt, .ref es, .ref sf, .ref sl, .ref so, .ref la, .ref li, .ref ru, .int (nI n), .int sc, .int (nI z), .int (nI tt), .int (nI v_10), .int d17, .int d18, .int d19])), (wy, .inl (cyI, 1957, .inl fy)), (la, .inl (cyI, 1957, .inl g_11)), (li, .inl (cyI, 1957, .inl g_12)), (lt, .inl (cyI, 1957, .inl fl)), (es, .inl (cyI, 25857, .inl fe)), (sf, .inl (cyI, 25857, .inl ff)), (sl, .inl (cyI, 1957, .inl g_13))] _ := hP
        have hD : va_D A [(mo, .inr (1, [.ref lk, .int j0, .int j1, .int j2])), (lk, .inr (0, [.int i0, .int i1, .int i2, .int i3, .int i4])), (ru, .inr (2, [.ref rt, .int (nI zz)])), (rt, .inl (cyI, 60, .inl tg)), (nw, .inl (cyI, 1024, .inl fn)), (ol, .inl (cyI, 1957, .inl fo)), (so, .inl (cyI, 1957, .inl g_5)), (wk, .inr (4, [.ref mo, .ref wy, .ref nw, .ref ol, .ref lt, .ref es, .ref sf, .ref sl, .ref so, .ref la, .ref li, .ref ru, .int (nI n), .int sc, .int (nI z), .int (nI tt), .int (nI v_10), .int d17, .int d18, .int d19])), (wy, .inl (cyI, 1957, .inl fy)), (la, .inl (cyI, 1957, .inl g_11)), (li, .inl (cyI, 1957, .inl g_12)), (lt, .inl (cyI, 1957, .inl fl)), (es, .inl (cyI, 25857, .inl fe)), (sf, .inl (cyI, 25857, .inl ff)), (sl, .inl (cyI, 1957, .inl g_13))] := hD
        exact W.vret hx hb hr (fun t ht hW => ⟨⟨(z, tt, v_10, d17, d18, j0, j1, j2, i0, i1, i2, i3, i4, fy, fn, fo, fl, fe, ff, g_13, g_5, g_11, g_12), rfl, ⟨by omega, by omega, by omega⟩, ⟨by rw [ht]; exact hP.sub (ws' := [(wk, .inr (4, [.ref mo, .ref wy, .ref nw, .ref ol, .ref lt, .ref es, .ref sf, .ref sl, .ref so, .ref la, .ref li, .ref ru, .int (nI n), .int sc, .int (nI z), .int (nI tt), .int (nI v_10), .int d17, .int d18, .int d19])), (mo, .inr (1, [.ref lk, .int j0, .int j1, .int j2])), (lk, .inr (0, [.int i0, .int i1, .int i2, .int i3, .int i4])), (ru, .inr (2, [.ref rt, .int (nI zz)])), (rt, .inl (cyI, 60, .inl tg)), (wy, .inl (cyI, 1957, .inl fy)), (nw, .inl (cyI, 1024, .inl fn)), (ol, .inl (cyI, 1957, .inl fo)), (lt, .inl (cyI, 1957, .inl fl)), (es, .inl (cyI, 25857, .inl fe)), (sf, .inl (cyI, 25857, .inl ff)), (sl, .inl (cyI, 1957, .inl g_13)), (so, .inl (cyI, 1957, .inl g_5)), (la, .inl (cyI, 1957, .inl g_11)), (li, .inl (cyI, 1957, .inl g_12))]) [7, 0, 1, 2, 3, 8, 4, 5, 11, 12, 13, 14, 6, 9, 10] rfl, hD.sub (ws' := [(wk, .inr (4, [.ref mo, .ref wy, .ref nw, .ref ol, .ref lt, .ref es, .ref sf, .ref sl, .ref so, .ref la, .ref li, .ref ru, .int (nI n), .int sc, .int (nI z), .int (nI tt), .int (nI v_10), .int d17, .int d18, .int d19])), (mo, .inr (1, [.ref lk, .int j0, .int j1, .int j2])), (lk, .inr (0, [.int i0, .int i1, .int i2, .int i3, .int i4])), (ru, .inr (2, [.ref rt, .int (nI zz)])), (rt, .inl (cyI, 60, .inl tg)), (wy, .inl (cyI, 1957, .inl fy)), (nw, .inl (cyI, 1024, .inl fn)), (ol, .inl (cyI, 1957, .inl fo)), (lt, .inl (cyI, 1957, .inl fl)), (es, .inl (cyI, 25857, .inl fe)), (sf, .inl (cyI, 25857, .inl ff)), (sl, .inl (cyI, 1957, .inl g_13)), (so, .inl (cyI, 1957, .inl g_5)), (la, .inl (cyI, 1957, .inl g_11)), (li, .inl (cyI, 1957, .inl g_12))]) [7, 0, 1, 2, 3, 8, 4, 5, 11, 12, 13, 14, 6, 9, 10] (by decide) rfl⟩⟩, hS.F ht⟩) hS.2.2 dX6_walk_88
      · skip
        have ic_1 := ci_nle (nI_toInt (n := z) (by omega)) (nI_toInt (n := k) (by omega)) c_1
        refine lv_iload_n hx hb dX6_walk_10 rfl (lv_at hl 1 rfl) ?_
        refine lv_sipush (v := 1957) hx hb dX6_walk_11 (by decide) ?_
        refine lv_icmp_ge (tgt := 70) hx hb dX6_walk_14 (by decide) (fun c_14 => ?_) (fun c_14 => ?_)
        · skip
          have ic_14 := ci_le (show Int32.toInt 1957 = 1957 by decide) (nI_toInt (n := k) (by omega)) c_14
          refine lv_aload_n hx hb dX6_walk_70 rfl (lv_at hl 0 rfl) ?_
          refine lv_aload_n hx hb dX6_walk_71 rfl (lv_at hl 0 rfl) ?_
          refine va_get (D := (dC, dI)) (ci := 4) (v := .ref so) (C := RX6) (T := TX6) (N := 20) hx hb hts hnX6_walk_X6 hown hK hP 0 rfl rfl 8 (by decide) (hts (.fieldLink RX6 40 "RingMeets$Walks" "soon" "[I") (by decide +kernel)) (fun _ h9 => h9) rfl dX6_walk_72 ?_
          refine lv_iconst (v := 0) hx hb dX6_walk_75 (by decide) ?_
          have f_15 := va_free (wc := [(wk, .inr (4, [.ref mo, .ref wy, .ref nw, .ref ol, .ref lt, .ref es, .ref sf, .ref sl, .ref so, .ref la, .ref li, .ref ru, .int (nI n), .int sc, .int (nI z), .int (nI tt), .int (nI qn), .int d17, .int d18, .int d19])), (wy, .inl (cyI, 1957, .inl fy)), (so, .inl (cyI, 1957, .inl fs)), (li, .inl (cyI, 1957, .inl fi)), (lt, .inl (cyI, 1957, .inl fl)), (es, .inl (cyI, 25857, .inl fe)), (sf, .inl (cyI, 25857, .inl ff)), (sl, .inl (cyI, 1957, .inl fc))]) hD hS hA [0, 5, 12, 14, 8, 9, 10, 11] rfl
          refine va_callv (va_runV (As := [.ref so, .int 0]) (rest := []) ⟨hx, hb, hml, hown, hts⟩ (mX6_tellBackwards l dC dI cyI cyZ wk mo wy nw ol lt es sf sl so la li ru n z tt qn sc d17 d18 d19 so fy fs fi fl fe ff fc 0 (by omega) (by omega) (by omega) (by omega) _) (cwV 2 hts gX6_walk_X6_tellBackwards rfl rfl rfl (by decide +kernel) ⟨Nat.le_of_ble_eq_true rfl, Nat.le_of_ble_eq_true rfl⟩) (bs_WV hB (hP.sub (ws' := [(wk, .inr (4, [.ref mo, .ref wy, .ref nw, .ref ol, .ref lt, .ref es, .ref sf, .ref sl, .ref so, .ref la, .ref li, .ref ru, .int (nI n), .int sc, .int (nI z), .int (nI tt), .int (nI qn), .int d17, .int d18, .int d19])), (wy, .inl (cyI, 1957, .inl fy)), (so, .inl (cyI, 1957, .inl fs)), (li, .inl (cyI, 1957, .inl fi)), (lt, .inl (cyI, 1957, .inl fl)), (es, .inl (cyI, 25857, .inl fe)), (sf, .inl (cyI, 25857, .inl ff)), (sl, .inl (cyI, 1957, .inl fc))]) [0, 5, 12, 14, 8, 9, 10, 11] rfl) (hD.sub (ws' := [(wk, .inr (4, [.ref mo, .ref wy, .ref nw, .ref ol, .ref lt, .ref es, .ref sf, .ref sl, .ref so, .ref la, .ref li, .ref ru, .int (nI n), .int sc, .int (nI z), .int (nI tt), .int (nI qn), .int d17, .int d18, .int d19])), (wy, .inl (cyI, 1957, .inl fy)), (so, .inl (cyI, 1957, .inl fs)), (li, .inl (cyI, 1957, .inl fi)), (lt, .inl (cyI, 1957, .inl fl)), (es, .inl (cyI, 25857, .inl fe)), (sf, .inl (cyI, 25857, .inl ff)), (sl, .inl (cyI, 1957, .inl fc))]) [0, 5, 12, 14, 8, 9, 10, 11] (by decide) rfl) 0 rfl rfl) rfl rfl hl.1 rfl (lv_room (Nat.le_of_ble_eq_true rfl)) dX6_walk_76 ⟨Nat.le_of_ble_eq_true rfl, Nat.le_of_ble_eq_true rfl⟩) hS (fun q _ h => f_15 q h) f_15 (fun uh_16 t H1 locs ht hvm h_16 hB1 hz1 hk1 hS => ?_)
          obtain ⟨v_17, g_18, g_19, g_20⟩ := uh_16
          have h_16 : v_17 ≤ 1957 := h_16
          obtain ⟨hP1, hD1⟩ := hB1
          rw [ht] at hP1
          obtain ⟨hP, hD⟩ := va_join (wr := [(mo, .inr (1, [.ref lk, .int j0, .int j1, .int j2])), (lk, .inr (0, [.int i0, .int i1, .int i2, .int i3, .int i4])), (ru, .inr (2, [.ref rt, .int (nI zz)])), (rt, .inl (cyI, 60, .inl tg)), (nw, .inl (cyI, 1024, .inl fn)), (ol, .inl (cyI, 1957, .inl fo)), (la, .inl (cyI, 1957, .inl fa))]) (w1 := [(wk, .inr (4, [.ref mo, .ref wy, .ref nw, .ref ol, .ref lt, .ref es, .ref sf, .ref sl, .ref so, .ref la, .ref li, .ref ru, .int (nI n), .int sc, .int (nI z), .int (nI tt), .int (nI v_17), .int d17, .int d18, .int d19])), (wy, .inl (cyI, 1957, .inl fy)), (so, .inl (cyI, 1957, .inl g_18)), (li, .inl (cyI, 1957, .inl g_19)), (lt, .inl (cyI, 1957, .inl fl)), (es, .inl (cyI, 25857, .inl fe)), (sf, .inl (cyI, 25857, .inl ff)), (sl, .inl (cyI, 1957, .inl g_20))]) hP hD [0, 5, 12, 14, 8, 9, 10, 11] [1, 2, 3, 4, 6, 7, 13] rfl rfl (by decide) (by decide) hk1 f_15 hP1 hD1
          generalize H1 = H at hP hS ⊢
          have hP : va_P (dC, dI) vwCl [(mo, .inr (1, [.ref lk, .int j0, .int j1, .int j2])), (lk, .inr (0, [.int i0, .int i1, .int i2, .int i3, .int i4])), (ru, .inr (2, [.ref rt, .int (nI zz)])), (rt, .inl (cyI, 60, .inl tg)), (nw, .inl (cyI, 1024, .inl fn)), (ol, .inl (cyI, 1957, .inl fo)), (la, .inl (cyI, 1957, .inl fa)), (wk, .inr (4, [.ref mo, .ref wy, .ref nw, .ref ol, .ref lt, .ref es, .ref sf, .ref sl, .ref so, .ref la, .ref li, .ref ru, .int (nI n), .int sc, .int (nI z), .int (nI tt), .int (nI v_17), .int d17, .int d18, .int d19])), (wy, .inl (cyI, 1957, .inl fy)), (so, .inl (cyI, 1957, .inl g_18)), (li, .inl (cyI, 1957, .inl g_19)), (lt, .inl (cyI, 1957, .inl fl)), (es, .inl (cyI, 25857, .inl fe)), (sf, .inl (cyI, 25857, .inl ff)), (sl, .inl (cyI, 1957, .inl g_20))] _ := hP
          have hD : va_D A [(mo, .inr (1, [.ref lk, .int j0, .int j1, .int j2])), (lk, .inr (0, [.int i0, .int i1, .int i2, .int i3, .int i4])), (ru, .inr (2, [.ref rt, .int (nI zz)])), (rt, .inl (cyI, 60, .inl tg)), (nw, .inl (cyI, 1024, .inl fn)), (ol, .inl (cyI, 1957, .inl fo)), (la, .inl (cyI, 1957, .inl fa)), (wk, .inr (4, [.ref mo, .ref wy, .ref nw, .ref ol, .ref lt, .ref es, .ref sf, .ref sl, .ref so, .ref la, .ref li, .ref ru, .int (nI n), .int sc, .int (nI z), .int (nI tt), .int (nI v_17), .int d17, .int d18, .int d19])), (wy, .inl (cyI, 1957, .inl fy)), (so, .inl (cyI, 1957, .inl g_18)), (li, .inl (cyI, 1957, .inl g_19)), (lt, .inl (cyI, 1957, .inl fl)), (es, .inl (cyI, 25857, .inl fe)), (sf, .inl (cyI, 25857, .inl ff)), (sl, .inl (cyI, 1957, .inl g_20))] := hD
          refine lv_aload_n hx hb dX6_walk_79 rfl (lv_at hl 0 rfl) ?_
          refine lv_aload_n hx hb dX6_walk_80 rfl (lv_at hl 0 rfl) ?_
          refine va_get (D := (dC, dI)) (ci := 4) (v := .ref la) (C := RX6) (T := TX6) (N := 20) hx hb hts hnX6_walk_X6 hown hK hP 7 rfl rfl 9 (by decide) (hts (.fieldLink RX6 43 "RingMeets$Walks" "late" "[I") (by decide +kernel)) (fun _ h9 => h9) rfl dX6_walk_81 ?_
          refine lv_iconst (v := 1) hx hb dX6_walk_84 (by decide) ?_
          have f_21 := va_free (wc := [(wk, .inr (4, [.ref mo, .ref wy, .ref nw, .ref ol, .ref lt, .ref es, .ref sf, .ref sl, .ref so, .ref la, .ref li, .ref ru, .int (nI n), .int sc, .int (nI z), .int (nI tt), .int (nI v_17), .int d17, .int d18, .int d19])), (wy, .inl (cyI, 1957, .inl fy)), (la, .inl (cyI, 1957, .inl fa)), (li, .inl (cyI, 1957, .inl g_19)), (lt, .inl (cyI, 1957, .inl fl)), (es, .inl (cyI, 25857, .inl fe)), (sf, .inl (cyI, 25857, .inl ff)), (sl, .inl (cyI, 1957, .inl g_20))]) hD hS hA [7, 8, 6, 10, 11, 12, 13, 14] rfl
          refine va_callv (va_runV (As := [.ref la, .int 1]) (rest := []) ⟨hx, hb, hml, hown, hts⟩ (mX6_tellBackwards l dC dI cyI cyZ wk mo wy nw ol lt es sf sl so la li ru n z tt v_17 sc d17 d18 d19 la fy fa g_19 fl fe ff g_20 1 (by omega) (by omega) (by omega) (by omega) _) (cwV 2 hts gX6_walk_X6_tellBackwards rfl rfl rfl (by decide +kernel) ⟨Nat.le_of_ble_eq_true rfl, Nat.le_of_ble_eq_true rfl⟩) (bs_WV hB (hP.sub (ws' := [(wk, .inr (4, [.ref mo, .ref wy, .ref nw, .ref ol, .ref lt, .ref es, .ref sf, .ref sl, .ref so, .ref la, .ref li, .ref ru, .int (nI n), .int sc, .int (nI z), .int (nI tt), .int (nI v_17), .int d17, .int d18, .int d19])), (wy, .inl (cyI, 1957, .inl fy)), (la, .inl (cyI, 1957, .inl fa)), (li, .inl (cyI, 1957, .inl g_19)), (lt, .inl (cyI, 1957, .inl fl)), (es, .inl (cyI, 25857, .inl fe)), (sf, .inl (cyI, 25857, .inl ff)), (sl, .inl (cyI, 1957, .inl g_20))]) [7, 8, 6, 10, 11, 12, 13, 14] rfl) (hD.sub (ws' := [(wk, .inr (4, [.ref mo, .ref wy, .ref nw, .ref ol, .ref lt, .ref es, .ref sf, .ref sl, .ref so, .ref la, .ref li, .ref ru, .int (nI n), .int sc, .int (nI z), .int (nI tt), .int (nI v_17), .int d17, .int d18, .int d19])), (wy, .inl (cyI, 1957, .inl fy)), (la, .inl (cyI, 1957, .inl fa)), (li, .inl (cyI, 1957, .inl g_19)), (lt, .inl (cyI, 1957, .inl fl)), (es, .inl (cyI, 25857, .inl fe)), (sf, .inl (cyI, 25857, .inl ff)), (sl, .inl (cyI, 1957, .inl g_20))]) [7, 8, 6, 10, 11, 12, 13, 14] (by decide) rfl) 0 rfl rfl) rfl rfl hl.1 rfl (lv_room (Nat.le_of_ble_eq_true rfl)) dX6_walk_85 ⟨Nat.le_of_ble_eq_true rfl, Nat.le_of_ble_eq_true rfl⟩) hS (fun q _ h => f_21 q h) f_21 (fun uh_22 t H1 locs ht hvm h_22 hB1 hz1 hk1 hS => ?_)
          obtain ⟨v_23, g_24, g_25, g_26⟩ := uh_22
          have h_22 : v_23 ≤ 1957 := h_22
          obtain ⟨hP1, hD1⟩ := hB1
          rw [ht] at hP1
          obtain ⟨hP, hD⟩ := va_join (wr := [(mo, .inr (1, [.ref lk, .int j0, .int j1, .int j2])), (lk, .inr (0, [.int i0, .int i1, .int i2, .int i3, .int i4])), (ru, .inr (2, [.ref rt, .int (nI zz)])), (rt, .inl (cyI, 60, .inl tg)), (nw, .inl (cyI, 1024, .inl fn)), (ol, .inl (cyI, 1957, .inl fo)), (so, .inl (cyI, 1957, .inl g_18))]) (w1 := [(wk, .inr (4, [.ref mo, .ref wy, .ref nw, .ref ol, .ref lt, .ref es, .ref sf, .ref sl, .ref so, .ref la, .ref li, .ref ru, .int (nI n), .int sc, .int (nI z), .int (nI tt), .int (nI v_23), .int d17, .int d18, .int d19])), (wy, .inl (cyI, 1957, .inl fy)), (la, .inl (cyI, 1957, .inl g_24)), (li, .inl (cyI, 1957, .inl g_25)), (lt, .inl (cyI, 1957, .inl fl)), (es, .inl (cyI, 25857, .inl fe)), (sf, .inl (cyI, 25857, .inl ff)), (sl, .inl (cyI, 1957, .inl g_26))]) hP hD [7, 8, 6, 10, 11, 12, 13, 14] [0, 1, 2, 3, 4, 5, 9] rfl rfl (by decide) (by decide) hk1 f_21 hP1 hD1
          generalize H1 = H at hP hS ⊢
          have hP : va_P (dC, dI) vwCl [(mo, .inr (1, [.ref lk, .int j0, .int j1, .int j2])), (lk, .inr (0, [.int i0, .int i1, .int i2, .int i3, .int i4])), (ru, .inr (2, [.ref rt, .int (nI zz)])), (rt, .inl (cyI, 60, .inl tg)), (nw, .inl (cyI, 1024, .inl fn)), (ol, .inl (cyI, 1957, .inl fo)), (so, .inl (cyI, 1957, .inl g_18)), (wk, .inr (4, [.ref mo, .ref wy, .ref nw, .ref ol, .ref lt, .ref es, .ref sf, .ref sl, .ref so, .ref la, .ref li, .ref ru, .int (nI n), .int sc, .int (nI z), .int (nI tt), .int (nI v_23), .int d17, .int d18, .int d19])), (wy, .inl (cyI, 1957, .inl fy)), (la, .inl (cyI, 1957, .inl g_24)), (li, .inl (cyI, 1957, .inl g_25)), (lt, .inl (cyI, 1957, .inl fl)), (es, .inl (cyI, 25857, .inl fe)), (sf, .inl (cyI, 25857, .inl ff)), (sl, .inl (cyI, 1957, .inl g_26))] _ := hP
          have hD : va_D A [(mo, .inr (1, [.ref lk, .int j0, .int j1, .int j2])), (lk, .inr (0, [.int i0, .int i1, .int i2, .int i3, .int i4])), (ru, .inr (2, [.ref rt, .int (nI zz)])), (rt, .inl (cyI, 60, .inl tg)), (nw, .inl (cyI, 1024, .inl fn)), (ol, .inl (cyI, 1957, .inl fo)), (so, .inl (cyI, 1957, .inl g_18)), (wk, .inr (4, [.ref mo, .ref wy, .ref nw, .ref ol, .ref lt, .ref es, .ref sf, .ref sl, .ref so, .ref la, .ref li, .ref ru, .int (nI n), .int sc, .int (nI z), .int (nI tt), .int (nI v_23), .int d17, .int d18, .int d19])), (wy, .inl (cyI, 1957, .inl fy)), (la, .inl (cyI, 1957, .inl g_24)), (li, .inl (cyI, 1957, .inl g_25)), (lt, .inl (cyI, 1957, .inl fl)), (es, .inl (cyI, 25857, .inl fe)), (sf, .inl (cyI, 25857, .inl ff)), (sl, .inl (cyI, 1957, .inl g_26))] := hD
          exact W.vret hx hb hr (fun t ht hW => ⟨⟨(z, tt, v_23, d17, d18, j0, j1, j2, i0, i1, i2, i3, i4, fy, fn, fo, fl, fe, ff, g_26, g_18, g_24, g_25), rfl, ⟨by omega, by omega, by omega⟩, ⟨by rw [ht]; exact hP.sub (ws' := [(wk, .inr (4, [.ref mo, .ref wy, .ref nw, .ref ol, .ref lt, .ref es, .ref sf, .ref sl, .ref so, .ref la, .ref li, .ref ru, .int (nI n), .int sc, .int (nI z), .int (nI tt), .int (nI v_23), .int d17, .int d18, .int d19])), (mo, .inr (1, [.ref lk, .int j0, .int j1, .int j2])), (lk, .inr (0, [.int i0, .int i1, .int i2, .int i3, .int i4])), (ru, .inr (2, [.ref rt, .int (nI zz)])), (rt, .inl (cyI, 60, .inl tg)), (wy, .inl (cyI, 1957, .inl fy)), (nw, .inl (cyI, 1024, .inl fn)), (ol, .inl (cyI, 1957, .inl fo)), (lt, .inl (cyI, 1957, .inl fl)), (es, .inl (cyI, 25857, .inl fe)), (sf, .inl (cyI, 25857, .inl ff)), (sl, .inl (cyI, 1957, .inl g_26)), (so, .inl (cyI, 1957, .inl g_18)), (la, .inl (cyI, 1957, .inl g_24)), (li, .inl (cyI, 1957, .inl g_25))]) [7, 0, 1, 2, 3, 8, 4, 5, 11, 12, 13, 14, 6, 9, 10] rfl, hD.sub (ws' := [(wk, .inr (4, [.ref mo, .ref wy, .ref nw, .ref ol, .ref lt, .ref es, .ref sf, .ref sl, .ref so, .ref la, .ref li, .ref ru, .int (nI n), .int sc, .int (nI z), .int (nI tt), .int (nI v_23), .int d17, .int d18, .int d19])), (mo, .inr (1, [.ref lk, .int j0, .int j1, .int j2])), (lk, .inr (0, [.int i0, .int i1, .int i2, .int i3, .int i4])), (ru, .inr (2, [.ref rt, .int (nI zz)])), (rt, .inl (cyI, 60, .inl tg)), (wy, .inl (cyI, 1957, .inl fy)), (nw, .inl (cyI, 1024, .inl fn)), (ol, .inl (cyI, 1957, .inl fo)), (lt, .inl (cyI, 1957, .inl fl)), (es, .inl (cyI, 25857, .inl fe)), (sf, .inl (cyI, 25857, .inl ff)), (sl, .inl (cyI, 1957, .inl g_26)), (so, .inl (cyI, 1957, .inl g_18)), (la, .inl (cyI, 1957, .inl g_24)), (li, .inl (cyI, 1957, .inl g_25))]) [7, 0, 1, 2, 3, 8, 4, 5, 11, 12, 13, 14, 6, 9, 10] (by decide) rfl⟩⟩, hS.F ht⟩) hS.2.2 dX6_walk_88
        · skip
          have ic_14 := ci_nle (show Int32.toInt 1957 = 1957 by decide) (nI_toInt (n := k) (by omega)) c_14
          refine lv_aload_n hx hb dX6_walk_17 rfl (lv_at hl 0 rfl) ?_
          refine lv_iload_n hx hb dX6_walk_18 rfl (lv_at hl 1 rfl) ?_
          refine vp_callSi (va_Run.run (va_runV (As := [.int (nI k)]) (rest := []) ⟨hx, hb, hml, hown, hts⟩ (mX6_hasMet l dC dI cyI cyZ wk mo wy nw ol lt es sf sl so la li ru n z tt qn sc d17 d18 d19 fy (nI k) (by omega) (by omega) (by omega) (by omega)) (cwV 1 hts gX6_walk_X6_hasMet rfl rfl rfl (by decide +kernel) ⟨Nat.le_of_ble_eq_true rfl, Nat.le_of_ble_eq_true rfl⟩) (bs_RV hB (hP.sub (ws' := [(wk, .inr (4, [.ref mo, .ref wy, .ref nw, .ref ol, .ref lt, .ref es, .ref sf, .ref sl, .ref so, .ref la, .ref li, .ref ru, .int (nI n), .int sc, .int (nI z), .int (nI tt), .int (nI qn), .int d17, .int d18, .int d19])), (wy, .inl (cyI, 1957, .inl fy))]) [0, 5] rfl) 0 rfl rfl) rfl rfl hl.1 rfl (lv_room (Nat.le_of_ble_eq_true rfl)) dX6_walk_19 ⟨Nat.le_of_ble_eq_true rfl, Nat.le_of_ble_eq_true rfl⟩)) (fun r_27 hr_27 => ?_)
          refine lv_if_ne (tgt := 64) hx hb dX6_walk_22 (by decide) (fun c_28 => ?_) (fun c_28 => ?_)
          · skip
            have ic_28 := ci_ne (rfl : Int32.toInt r_27 = _) (show Int32.toInt 0 = 0 by decide) c_28
            refine lv_iinc (v := (nI (k + 1))) (lv' := [(1, .int (nI (k + 1))), (0, .ref wk)]) hx hb dX6_walk_64 hl (k := 1) rfl (nI_1 _) (by decide) rfl (fun ls hl => ?_)
            refine lv_goto (tgt := 2) hx hb dX6_walk_67 (by decide) ?_
            exact ih2 (k + 1) z tt d17 d18 j0 j1 j2 i0 i1 i2 i3 i4 fy fn fo fl fe ff fc ⟨by omega, by omega⟩ (by omega) (by omega) (by omega) _ _ (hP.sub [0, 1, 2, 3, 4, 5, 6, 7, 8, 9, 10, 11, 12, 13, 14] rfl) (hD.sub [0, 1, 2, 3, 4, 5, 6, 7, 8, 9, 10, 11, 12, 13, 14] (by decide) rfl) hS _ (lv_sub hl [1, 0] rfl)
          · skip
            have ic_28 := ci_eq (rfl : Int32.toInt r_27 = _) (show Int32.toInt 0 = 0 by decide) c_28
            refine lv_aload_n hx hb dX6_walk_25 rfl (lv_at hl 0 rfl) ?_
            refine va_get (D := (dC, dI)) (ci := 4) (v := .ref mo) (C := RX6) (T := TX6) (N := 20) hx hb hts hnX6_walk_X6 hown hK hP 0 rfl rfl 0 (by decide) (hts (.fieldLink RX6 12 "RingMeets$Walks" "moves" "LRingMeets$Moves;") (by decide +kernel)) (fun _ h9 => h9) rfl dX6_walk_26 ?_
            refine lv_aload_n hx hb dX6_walk_29 rfl (lv_at hl 0 rfl) ?_
            refine va_get (D := (dC, dI)) (ci := 4) (v := .ref ru) (C := RX6) (T := TX6) (N := 20) hx hb hts hnX6_walk_X6 hown hK hP 0 rfl rfl 11 (by decide) (hts (.fieldLink RX6 49 "RingMeets$Walks" "rules" "LRingMeets$Rules;") (by decide +kernel)) (fun _ h9 => h9) rfl dX6_walk_30 ?_
            refine lv_aload_n hx hb dX6_walk_33 rfl (lv_at hl 0 rfl) ?_
            refine va_get (D := (dC, dI)) (ci := 4) (v := .int (nI n)) (C := RX6) (T := TX6) (N := 20) hx hb hts hnX6_walk_X6 hown hK hP 0 rfl rfl 12 (by decide) (hts (.fieldLink RX6 53 "RingMeets$Walks" "cells" "I") (by decide +kernel)) (fun _ h9 => h9) rfl dX6_walk_34 ?_
            refine lv_aload_n hx hb dX6_walk_37 rfl (lv_at hl 0 rfl) ?_
            refine va_get (D := (dC, dI)) (ci := 4) (v := .ref wy) (C := RX6) (T := TX6) (N := 20) hx hb hts hnX6_walk_X6 hown hK hP 0 rfl rfl 1 (by decide) (hts (.fieldLink RX6 18 "RingMeets$Walks" "ways" "[I") (by decide +kernel)) (fun _ h9 => h9) rfl dX6_walk_38 ?_
            refine lv_iload_n hx hb dX6_walk_41 rfl (lv_at hl 1 rfl) ?_
            refine va_iald (D := (dC, dI)) hx hb hK hP 5 0 rfl rfl (vp_in_nI (n := k) (N := 1957) (by omega) (by omega)) dX6_walk_42 ?_
            refine lv_topi (fun x_29 ex_29 => ?_)
            rw [nI_clamp (n := k) (by omega)] at ex_29
            refine vp_callSi (va_Run.run (va_runS (As := [.int x_29]) (rest := [.int (nI n), .ref ru, .ref mo]) ⟨hx, hb, hml, hown, hts⟩ (mX5_standsOf l dC dI cyI cyZ x_29 ) (va_cwS 1 hts gX6_walk_X5_standsOf rfl rfl rfl (by decide +kernel) ⟨Nat.le_of_ble_eq_true rfl, Nat.le_of_ble_eq_true rfl⟩) (bs_RS hB (hP.sub (ws' := []) [] rfl)) rfl rfl hl.1 rfl (lv_room (Nat.le_of_ble_eq_true rfl)) dX6_walk_43 ⟨Nat.le_of_ble_eq_true rfl, Nat.le_of_ble_eq_true rfl⟩)) (fun r_30 hr_30 => ?_)
            refine lv_aload_n hx hb dX6_walk_46 rfl (lv_at hl 0 rfl) ?_
            refine lv_aload_n hx hb dX6_walk_47 rfl (lv_at hl 0 rfl) ?_
            refine va_get (D := (dC, dI)) (ci := 4) (v := .ref wy) (C := RX6) (T := TX6) (N := 20) hx hb hts hnX6_walk_X6 hown hK hP 0 rfl rfl 1 (by decide) (hts (.fieldLink RX6 18 "RingMeets$Walks" "ways" "[I") (by decide +kernel)) (fun _ h9 => h9) rfl dX6_walk_48 ?_
            refine lv_iload_n hx hb dX6_walk_51 rfl (lv_at hl 1 rfl) ?_
            refine va_iald (D := (dC, dI)) hx hb hK hP 5 0 rfl rfl (vp_in_nI (n := k) (N := 1957) (by omega) (by omega)) dX6_walk_52 ?_
            refine lv_topi (fun x_31 ex_31 => ?_)
            rw [nI_clamp (n := k) (by omega)] at ex_31
            refine vp_callSi (va_Run.run (va_runV (As := [.int x_31]) (rest := [.int r_30, .int (nI n), .ref ru, .ref mo]) ⟨hx, hb, hml, hown, hts⟩ (mX6_towersSeen l dC dI cyI cyZ wk mo wy nw ol lt es sf sl so la li ru n z tt qn sc d17 d18 d19 x_31 ) (cwV 1 hts gX6_walk_X6_towersSeen rfl rfl rfl (by decide +kernel) ⟨Nat.le_of_ble_eq_true rfl, Nat.le_of_ble_eq_true rfl⟩) (bs_RV hB (hP.sub (ws' := [(wk, .inr (4, [.ref mo, .ref wy, .ref nw, .ref ol, .ref lt, .ref es, .ref sf, .ref sl, .ref so, .ref la, .ref li, .ref ru, .int (nI n), .int sc, .int (nI z), .int (nI tt), .int (nI qn), .int d17, .int d18, .int d19]))]) [0] rfl) 0 rfl rfl) rfl rfl hl.1 rfl (lv_room (Nat.le_of_ble_eq_true rfl)) dX6_walk_53 ⟨Nat.le_of_ble_eq_true rfl, Nat.le_of_ble_eq_true rfl⟩)) (fun r_32 hr_32 => ?_)
            have f_33 := va_free (wc := [(mo, .inr (1, [.ref lk, .int j0, .int j1, .int j2])), (lk, .inr (0, [.int i0, .int i1, .int i2, .int i3, .int i4])), (ru, .inr (2, [.ref rt, .int (nI zz)])), (rt, .inl (cyI, 60, .inl tg))]) hD hS hA [1, 2, 3, 4] rfl
            refine va_callv (va_runV (As := [.ref ru, .int (nI n), .int r_30, .int r_32]) (rest := []) ⟨hx, hb, hml, hown, hts⟩ (mX2_from l dC dI cyI cyZ mo lk ru rt zz n j0 j1 j2 i0 i1 i2 i3 i4 tg r_30 r_32 (by omega) (by omega) _) (cwV 4 hts gX6_walk_X2_from rfl rfl rfl (by decide +kernel) ⟨Nat.le_of_ble_eq_true rfl, Nat.le_of_ble_eq_true rfl⟩) (bs_WV hB (hP.sub (ws' := [(mo, .inr (1, [.ref lk, .int j0, .int j1, .int j2])), (lk, .inr (0, [.int i0, .int i1, .int i2, .int i3, .int i4])), (ru, .inr (2, [.ref rt, .int (nI zz)])), (rt, .inl (cyI, 60, .inl tg))]) [1, 2, 3, 4] rfl) (hD.sub (ws' := [(mo, .inr (1, [.ref lk, .int j0, .int j1, .int j2])), (lk, .inr (0, [.int i0, .int i1, .int i2, .int i3, .int i4])), (ru, .inr (2, [.ref rt, .int (nI zz)])), (rt, .inl (cyI, 60, .inl tg))]) [1, 2, 3, 4] (by decide) rfl) 0 rfl rfl) rfl rfl hl.1 rfl (lv_room (Nat.le_of_ble_eq_true rfl)) dX6_walk_56 ⟨Nat.le_of_ble_eq_true rfl, Nat.le_of_ble_eq_true rfl⟩) hS (fun q _ h => f_33 q h) f_33 (fun uh_34 t H1 locs ht hvm h_34 hB1 hz1 hk1 hS => ?_)
            obtain ⟨i_35, i_36, i_37, i_38, i_39, i_40, i_41, i_42⟩ := uh_34
            obtain ⟨hP1, hD1⟩ := hB1
            rw [ht] at hP1
            obtain ⟨hP, hD⟩ := va_join (wr := [(wk, .inr (4, [.ref mo, .ref wy, .ref nw, .ref ol, .ref lt, .ref es, .ref sf, .ref sl, .ref so, .ref la, .ref li, .ref ru, .int (nI n), .int sc, .int (nI z), .int (nI tt), .int (nI qn), .int d17, .int d18, .int d19])), (wy, .inl (cyI, 1957, .inl fy)), (nw, .inl (cyI, 1024, .inl fn)), (ol, .inl (cyI, 1957, .inl fo)), (lt, .inl (cyI, 1957, .inl fl)), (es, .inl (cyI, 25857, .inl fe)), (sf, .inl (cyI, 25857, .inl ff)), (sl, .inl (cyI, 1957, .inl fc)), (so, .inl (cyI, 1957, .inl fs)), (la, .inl (cyI, 1957, .inl fa)), (li, .inl (cyI, 1957, .inl fi))]) (w1 := [(mo, .inr (1, [.ref lk, .int i_35, .int i_36, .int i_37])), (lk, .inr (0, [.int i_38, .int i_39, .int i_40, .int i_41, .int i_42])), (ru, .inr (2, [.ref rt, .int (nI zz)])), (rt, .inl (cyI, 60, .inl tg))]) hP hD [1, 2, 3, 4] [0, 5, 6, 7, 8, 9, 10, 11, 12, 13, 14] rfl rfl (by decide) (by decide) hk1 f_33 hP1 hD1
            generalize H1 = H at hP hS ⊢
            have hP : va_P (dC, dI) vwCl [(wk, .inr (4, [.ref mo, .ref wy, .ref nw, .ref ol, .ref lt, .ref es, .ref sf, .ref sl, .ref so, .ref la, .ref li, .ref ru, .int (nI n), .int sc, .int (nI z), .int (nI tt), .int (nI qn), .int d17, .int d18, .int d19])), (wy, .inl (cyI, 1957, .inl fy)), (nw, .inl (cyI, 1024, .inl fn)), (ol, .inl (cyI, 1957, .inl fo)), (lt, .inl (cyI, 1957, .inl fl)), (es, .inl (cyI, 25857, .inl fe)), (sf, .inl (cyI, 25857, .inl ff)), (sl, .inl (cyI, 1957, .inl fc)), (so, .inl (cyI, 1957, .inl fs)), (la, .inl (cyI, 1957, .inl fa)), (li, .inl (cyI, 1957, .inl fi)), (mo, .inr (1, [.ref lk, .int i_35, .int i_36, .int i_37])), (lk, .inr (0, [.int i_38, .int i_39, .int i_40, .int i_41, .int i_42])), (ru, .inr (2, [.ref rt, .int (nI zz)])), (rt, .inl (cyI, 60, .inl tg))] _ := hP
            have hD : va_D A [(wk, .inr (4, [.ref mo, .ref wy, .ref nw, .ref ol, .ref lt, .ref es, .ref sf, .ref sl, .ref so, .ref la, .ref li, .ref ru, .int (nI n), .int sc, .int (nI z), .int (nI tt), .int (nI qn), .int d17, .int d18, .int d19])), (wy, .inl (cyI, 1957, .inl fy)), (nw, .inl (cyI, 1024, .inl fn)), (ol, .inl (cyI, 1957, .inl fo)), (lt, .inl (cyI, 1957, .inl fl)), (es, .inl (cyI, 25857, .inl fe)), (sf, .inl (cyI, 25857, .inl ff)), (sl, .inl (cyI, 1957, .inl fc)), (so, .inl (cyI, 1957, .inl fs)), (la, .inl (cyI, 1957, .inl fa)), (li, .inl (cyI, 1957, .inl fi)), (mo, .inr (1, [.ref lk, .int i_35, .int i_36, .int i_37])), (lk, .inr (0, [.int i_38, .int i_39, .int i_40, .int i_41, .int i_42])), (ru, .inr (2, [.ref rt, .int (nI zz)])), (rt, .inl (cyI, 60, .inl tg))] := hD
            refine lv_aload_n hx hb dX6_walk_59 rfl (lv_at hl 0 rfl) ?_
            refine lv_iload_n hx hb dX6_walk_60 rfl (lv_at hl 1 rfl) ?_
            have f_43 := va_free (wc := [(wk, .inr (4, [.ref mo, .ref wy, .ref nw, .ref ol, .ref lt, .ref es, .ref sf, .ref sl, .ref so, .ref la, .ref li, .ref ru, .int (nI n), .int sc, .int (nI z), .int (nI tt), .int (nI qn), .int d17, .int d18, .int d19])), (mo, .inr (1, [.ref lk, .int i_35, .int i_36, .int i_37])), (wy, .inl (cyI, 1957, .inl fy)), (nw, .inl (cyI, 1024, .inl fn)), (ol, .inl (cyI, 1957, .inl fo)), (lt, .inl (cyI, 1957, .inl fl)), (es, .inl (cyI, 25857, .inl fe)), (sf, .inl (cyI, 25857, .inl ff)), (sl, .inl (cyI, 1957, .inl fc))]) hD hS hA [0, 11, 1, 2, 3, 4, 5, 6, 7] rfl
            refine va_callv (va_runV (As := [.int (nI k)]) (rest := []) ⟨hx, hb, hml, hown, hts⟩ (mX6_addStepsFrom l dC dI cyI cyZ wk mo wy nw ol lt es sf sl so la li ru n z tt qn sc d17 d18 d19 lk k i_35 i_36 i_37 fy fn fo fl fe ff fc (by omega) (by omega) (by omega) (by omega) (by omega) _) (cwV 1 hts gX6_walk_X6_addStepsFrom rfl rfl rfl (by decide +kernel) ⟨Nat.le_of_ble_eq_true rfl, Nat.le_of_ble_eq_true rfl⟩) (bs_WV hB (hP.sub (ws' := [(wk, .inr (4, [.ref mo, .ref wy, .ref nw, .ref ol, .ref lt, .ref es, .ref sf, .ref sl, .ref so, .ref la, .ref li, .ref ru, .int (nI n), .int sc, .int (nI z), .int (nI tt), .int (nI qn), .int d17, .int d18, .int d19])), (mo, .inr (1, [.ref lk, .int i_35, .int i_36, .int i_37])), (wy, .inl (cyI, 1957, .inl fy)), (nw, .inl (cyI, 1024, .inl fn)), (ol, .inl (cyI, 1957, .inl fo)), (lt, .inl (cyI, 1957, .inl fl)), (es, .inl (cyI, 25857, .inl fe)), (sf, .inl (cyI, 25857, .inl ff)), (sl, .inl (cyI, 1957, .inl fc))]) [0, 11, 1, 2, 3, 4, 5, 6, 7] rfl) (hD.sub (ws' := [(wk, .inr (4, [.ref mo, .ref wy, .ref nw, .ref ol, .ref lt, .ref es, .ref sf, .ref sl, .ref so, .ref la, .ref li, .ref ru, .int (nI n), .int sc, .int (nI z), .int (nI tt), .int (nI qn), .int d17, .int d18, .int d19])), (mo, .inr (1, [.ref lk, .int i_35, .int i_36, .int i_37])), (wy, .inl (cyI, 1957, .inl fy)), (nw, .inl (cyI, 1024, .inl fn)), (ol, .inl (cyI, 1957, .inl fo)), (lt, .inl (cyI, 1957, .inl fl)), (es, .inl (cyI, 25857, .inl fe)), (sf, .inl (cyI, 25857, .inl ff)), (sl, .inl (cyI, 1957, .inl fc))]) [0, 11, 1, 2, 3, 4, 5, 6, 7] (by decide) rfl) 0 rfl rfl) rfl rfl hl.1 rfl (lv_room (Nat.le_of_ble_eq_true rfl)) dX6_walk_61 ⟨Nat.le_of_ble_eq_true rfl, Nat.le_of_ble_eq_true rfl⟩) hS (fun q _ h => f_43 q h) f_43 (fun uh_44 t H1 locs ht hvm h_44 hB1 hz1 hk1 hS => ?_)
            obtain ⟨v_45, v_46, i_47, i_48, g_49, g_50, g_51, g_52, g_53, g_54, g_55⟩ := uh_44
            have h_44 : v_45 ≤ 1957 ∧ v_46 ≤ 25857 := h_44
            obtain ⟨hP1, hD1⟩ := hB1
            rw [ht] at hP1
            obtain ⟨hP, hD⟩ := va_join (wr := [(so, .inl (cyI, 1957, .inl fs)), (la, .inl (cyI, 1957, .inl fa)), (li, .inl (cyI, 1957, .inl fi)), (lk, .inr (0, [.int i_38, .int i_39, .int i_40, .int i_41, .int i_42])), (ru, .inr (2, [.ref rt, .int (nI zz)])), (rt, .inl (cyI, 60, .inl tg))]) (w1 := [(wk, .inr (4, [.ref mo, .ref wy, .ref nw, .ref ol, .ref lt, .ref es, .ref sf, .ref sl, .ref so, .ref la, .ref li, .ref ru, .int (nI n), .int sc, .int (nI v_45), .int (nI v_46), .int (nI qn), .int i_47, .int i_48, .int d19])), (mo, .inr (1, [.ref lk, .int i_35, .int i_36, .int i_37])), (wy, .inl (cyI, 1957, .inl g_49)), (nw, .inl (cyI, 1024, .inl g_50)), (ol, .inl (cyI, 1957, .inl g_51)), (lt, .inl (cyI, 1957, .inl g_52)), (es, .inl (cyI, 25857, .inl g_53)), (sf, .inl (cyI, 25857, .inl g_54)), (sl, .inl (cyI, 1957, .inl g_55))]) hP hD [0, 11, 1, 2, 3, 4, 5, 6, 7] [8, 9, 10, 12, 13, 14] rfl rfl (by decide) (by decide) hk1 f_43 hP1 hD1
            generalize H1 = H at hP hS ⊢
            have hP : va_P (dC, dI) vwCl [(so, .inl (cyI, 1957, .inl fs)), (la, .inl (cyI, 1957, .inl fa)), (li, .inl (cyI, 1957, .inl fi)), (lk, .inr (0, [.int i_38, .int i_39, .int i_40, .int i_41, .int i_42])), (ru, .inr (2, [.ref rt, .int (nI zz)])), (rt, .inl (cyI, 60, .inl tg)), (wk, .inr (4, [.ref mo, .ref wy, .ref nw, .ref ol, .ref lt, .ref es, .ref sf, .ref sl, .ref so, .ref la, .ref li, .ref ru, .int (nI n), .int sc, .int (nI v_45), .int (nI v_46), .int (nI qn), .int i_47, .int i_48, .int d19])), (mo, .inr (1, [.ref lk, .int i_35, .int i_36, .int i_37])), (wy, .inl (cyI, 1957, .inl g_49)), (nw, .inl (cyI, 1024, .inl g_50)), (ol, .inl (cyI, 1957, .inl g_51)), (lt, .inl (cyI, 1957, .inl g_52)), (es, .inl (cyI, 25857, .inl g_53)), (sf, .inl (cyI, 25857, .inl g_54)), (sl, .inl (cyI, 1957, .inl g_55))] _ := hP
            have hD : va_D A [(so, .inl (cyI, 1957, .inl fs)), (la, .inl (cyI, 1957, .inl fa)), (li, .inl (cyI, 1957, .inl fi)), (lk, .inr (0, [.int i_38, .int i_39, .int i_40, .int i_41, .int i_42])), (ru, .inr (2, [.ref rt, .int (nI zz)])), (rt, .inl (cyI, 60, .inl tg)), (wk, .inr (4, [.ref mo, .ref wy, .ref nw, .ref ol, .ref lt, .ref es, .ref sf, .ref sl, .ref so, .ref la, .ref li, .ref ru, .int (nI n), .int sc, .int (nI v_45), .int (nI v_46), .int (nI qn), .int i_47, .int i_48, .int d19])), (mo, .inr (1, [.ref lk, .int i_35, .int i_36, .int i_37])), (wy, .inl (cyI, 1957, .inl g_49)), (nw, .inl (cyI, 1024, .inl g_50)), (ol, .inl (cyI, 1957, .inl g_51)), (lt, .inl (cyI, 1957, .inl g_52)), (es, .inl (cyI, 25857, .inl g_53)), (sf, .inl (cyI, 25857, .inl g_54)), (sl, .inl (cyI, 1957, .inl g_55))] := hD
            refine lv_iinc (v := (nI (k + 1))) (lv' := [(1, .int (nI (k + 1))), (0, .ref wk)]) hx hb dX6_walk_64 hl (k := 1) rfl (nI_1 _) (by decide) rfl (fun ls hl => ?_)
            refine lv_goto (tgt := 2) hx hb dX6_walk_67 (by decide) ?_
            exact ih2 (k + 1) v_45 v_46 i_47 i_48 i_35 i_36 i_37 i_38 i_39 i_40 i_41 i_42 g_49 g_50 g_51 g_52 g_53 g_54 g_55 ⟨by omega, by omega⟩ (by omega) (by omega) (by omega) _ _ (hP.sub [6, 7, 3, 4, 5, 8, 9, 10, 11, 12, 13, 14, 0, 1, 2] rfl) (hD.sub [6, 7, 3, 4, 5, 8, 9, 10, 11, 12, 13, 14, 0, 1, 2] (by decide) rfl) hS _ (lv_sub hl [1, 0] rfl)
  exact L2 (1957 + 1) 0 z tt d17 d18 j0 j1 j2 i0 i1 i2 i3 i4 fy fn fo fl fe ff fc ⟨by omega, by omega⟩ (by omega) hz htt _ _ (hP.sub [0, 1, 2, 3, 4, 5, 6, 7, 8, 9, 10, 11, 12, 13, 14] rfl) (hD.sub [0, 1, 2, 3, 4, 5, 6, 7, 8, 9, 10, 11, 12, 13, 14] (by decide) rfl) hS _ (lv_sub hl [1, 0] rfl)

theorem hnX6_soonOf_X6 : ∀ w ∈ wsX60, w ∈ wsX6_soonOf := fun _ h => List.mem_cons_of_mem _ (List.mem_append_right _ h)
set_option maxHeartbeats 4000000 in
set_option maxRecDepth 100000 in
theorem mX6_soonOf (l : Launch) (dC : Nat → ClassId) (dI : Nat → Nat → Nat) (cyI cyZ : ClassId) (wk : Nat) (mo : Nat) (wy : Nat) (nw : Nat) (ol : Nat) (lt : Nat) (es : Nat) (sf : Nat) (sl : Nat) (so : Nat) (la : Nat) (li : Nat) (ru : Nat) (n : Nat) (z : Nat) (tt : Nat) (qn : Nat) (sc : Int32) (d17 : Int32) (d18 : Int32) (d19 : Int32) (fs : Nat → Int32) (p1 : Int32) (hn : n ≤ 10) (hz : z ≤ 1957) (htt : tt ≤ 25857) (hqn : qn ≤ 1957) : Met l yX6_soonOf wsX6_soonOf ({ frames := 1, cells := 0, slots := 0, locals := 21 }) (bs_R dC dI cyI cyZ [.ref wk, .int p1] [(wk, .inr (4, [.ref mo, .ref wy, .ref nw, .ref ol, .ref lt, .ref es, .ref sf, .ref sl, .ref so, .ref la, .ref li, .ref ru, .int (nI n), .int sc, .int (nI z), .int (nI tt), .int (nI qn), .int d17, .int d18, .int d19])), (so, .inl (cyI, 1957, .inl fs))]) (vp_Si (fun r : Int32 => True)) 0 0 (fun _ => False) := by
  refine Met.ofW (cc := cX6_soonOf) (maxL := 2) (ret := (some .int)) (by decide) rfl ?_
  intro p e s m args below meth c s₁ B hml hv
  obtain ⟨rfl, hB, hP⟩ := hv
  have hK := hB.1
  have hN := hB.2
  have hx := B.exec
  have hb := B.bytes
  have hr := B.returns
  have hts := atoms_spec (ws := wsX6_soonOf) B.pre
  have hown : s.vm.findClass RX6 = some m.cls := findClass_of_methodNamed B.named
  have hlocks := B.notSynchronized
  have hP : va_P (dC, dI) vwCl [(wk, .inr (4, [.ref mo, .ref wy, .ref nw, .ref ol, .ref lt, .ref es, .ref sf, .ref sl, .ref so, .ref la, .ref li, .ref ru, .int (nI n), .int sc, .int (nI z), .int (nI tt), .int (nI qn), .int d17, .int d18, .int d19])), (so, .inl (cyI, 1957, .inl fs))] s.heap := hP
  have hl := lv_entry ([.ref wk, .int p1]) (n := 2) (Nat.le_of_ble_eq_true rfl)
  rw [lg_entry_eq]
  generalize (lg_sl ([.ref wk, .int p1]) ++ List.replicate (2 - (lg_sl ([.ref wk, .int p1])).length) Slot.unset).toArray = ls at hl ⊢
  have hl : lv_has ls 2 [(0, .ref wk), (1, .int p1)] := hl
  refine lv_aload_n hx hb dX6_soonOf_0 rfl (lv_at hl 0 rfl) ?_
  refine lv_iload_n hx hb dX6_soonOf_1 rfl (lv_at hl 1 rfl) ?_
  refine vp_callSi (va_Run.run (va_runV (As := [.int p1]) (rest := []) ⟨hx, hb, hml, hown, hts⟩ (mX6_isWay l dC dI cyI cyZ wk mo wy nw ol lt es sf sl so la li ru n z tt qn sc d17 d18 d19 p1 (by omega)) (cwV 1 hts gX6_soonOf_X6_isWay rfl rfl rfl (by decide +kernel) ⟨Nat.le_of_ble_eq_true rfl, Nat.le_of_ble_eq_true rfl⟩) (bs_RV hB (hP.sub (ws' := [(wk, .inr (4, [.ref mo, .ref wy, .ref nw, .ref ol, .ref lt, .ref es, .ref sf, .ref sl, .ref so, .ref la, .ref li, .ref ru, .int (nI n), .int sc, .int (nI z), .int (nI tt), .int (nI qn), .int d17, .int d18, .int d19]))]) [0] rfl) 0 rfl rfl) rfl rfl hl.1 rfl (lv_room (Nat.le_of_ble_eq_true rfl)) dX6_soonOf_2 ⟨Nat.le_of_ble_eq_true rfl, Nat.le_of_ble_eq_true rfl⟩)) (fun r_1 hr_1 => ?_)
  refine lv_if_eq (tgt := 17) hx hb dX6_soonOf_5 (by decide) (fun c_2 => ?_) (fun c_2 => ?_)
  · skip
    have ic_2 := ci_eq (rfl : Int32.toInt r_1 = _) (show Int32.toInt 0 = 0 by decide) c_2
    refine lv_bipush (v := (-6)) hx hb dX6_soonOf_17 (by decide) ?_
    exact W.iret (v := (-6)) hx hb hr (fun t ht hW => ⟨(-6), rfl, trivial, ht⟩) (fun q h => by cases h) dX6_soonOf_19
  · skip
    have ic_2 := ci_ne (rfl : Int32.toInt r_1 = _) (show Int32.toInt 0 = 0 by decide) c_2
    obtain ⟨hwl, hwu⟩ := hr_1.2 (hr_1.1.resolve_left c_2)
    refine lv_aload_n hx hb dX6_soonOf_8 rfl (lv_at hl 0 rfl) ?_
    refine va_get (D := (dC, dI)) (ci := 4) (v := .ref so) (C := RX6) (T := TX6) (N := 20) hx hb hts hnX6_soonOf_X6 hown hK hP 0 rfl rfl 8 (by decide) (hts (.fieldLink RX6 40 "RingMeets$Walks" "soon" "[I") (by decide +kernel)) (fun _ h9 => h9) rfl dX6_soonOf_9 ?_
    refine lv_iload_n hx hb dX6_soonOf_12 rfl (lv_at hl 1 rfl) ?_
    refine va_iald (D := (dC, dI)) hx hb hK hP 1 0 rfl rfl (nb_in (x := p1) (n := 1957) (by omega) (by omega)) dX6_soonOf_13 ?_
    refine lv_topi (fun x_3 ex_3 => ?_)
    refine lv_goto (tgt := 19) hx hb dX6_soonOf_14 (by decide) ?_
    exact W.iret (v := x_3) hx hb hr (fun t ht hW => ⟨x_3, rfl, trivial, ht⟩) (fun q h => by cases h) dX6_soonOf_19

theorem hnX6_lateOf_X6 : ∀ w ∈ wsX60, w ∈ wsX6_lateOf := fun _ h => List.mem_cons_of_mem _ (List.mem_append_right _ h)
set_option maxHeartbeats 4000000 in
set_option maxRecDepth 100000 in
theorem mX6_lateOf (l : Launch) (dC : Nat → ClassId) (dI : Nat → Nat → Nat) (cyI cyZ : ClassId) (wk : Nat) (mo : Nat) (wy : Nat) (nw : Nat) (ol : Nat) (lt : Nat) (es : Nat) (sf : Nat) (sl : Nat) (so : Nat) (la : Nat) (li : Nat) (ru : Nat) (n : Nat) (z : Nat) (tt : Nat) (qn : Nat) (sc : Int32) (d17 : Int32) (d18 : Int32) (d19 : Int32) (fa : Nat → Int32) (p1 : Int32) (hn : n ≤ 10) (hz : z ≤ 1957) (htt : tt ≤ 25857) (hqn : qn ≤ 1957) : Met l yX6_lateOf wsX6_lateOf ({ frames := 1, cells := 0, slots := 0, locals := 21 }) (bs_R dC dI cyI cyZ [.ref wk, .int p1] [(wk, .inr (4, [.ref mo, .ref wy, .ref nw, .ref ol, .ref lt, .ref es, .ref sf, .ref sl, .ref so, .ref la, .ref li, .ref ru, .int (nI n), .int sc, .int (nI z), .int (nI tt), .int (nI qn), .int d17, .int d18, .int d19])), (la, .inl (cyI, 1957, .inl fa))]) (vp_Si (fun r : Int32 => True)) 0 0 (fun _ => False) := by
  refine Met.ofW (cc := cX6_lateOf) (maxL := 2) (ret := (some .int)) (by decide) rfl ?_
  intro p e s m args below meth c s₁ B hml hv
  obtain ⟨rfl, hB, hP⟩ := hv
  have hK := hB.1
  have hN := hB.2
  have hx := B.exec
  have hb := B.bytes
  have hr := B.returns
  have hts := atoms_spec (ws := wsX6_lateOf) B.pre
  have hown : s.vm.findClass RX6 = some m.cls := findClass_of_methodNamed B.named
  have hlocks := B.notSynchronized
  have hP : va_P (dC, dI) vwCl [(wk, .inr (4, [.ref mo, .ref wy, .ref nw, .ref ol, .ref lt, .ref es, .ref sf, .ref sl, .ref so, .ref la, .ref li, .ref ru, .int (nI n), .int sc, .int (nI z), .int (nI tt), .int (nI qn), .int d17, .int d18, .int d19])), (la, .inl (cyI, 1957, .inl fa))] s.heap := hP
  have hl := lv_entry ([.ref wk, .int p1]) (n := 2) (Nat.le_of_ble_eq_true rfl)
  rw [lg_entry_eq]
  generalize (lg_sl ([.ref wk, .int p1]) ++ List.replicate (2 - (lg_sl ([.ref wk, .int p1])).length) Slot.unset).toArray = ls at hl ⊢
  have hl : lv_has ls 2 [(0, .ref wk), (1, .int p1)] := hl
  refine lv_aload_n hx hb dX6_lateOf_0 rfl (lv_at hl 0 rfl) ?_
  refine lv_iload_n hx hb dX6_lateOf_1 rfl (lv_at hl 1 rfl) ?_
  refine vp_callSi (va_Run.run (va_runV (As := [.int p1]) (rest := []) ⟨hx, hb, hml, hown, hts⟩ (mX6_isWay l dC dI cyI cyZ wk mo wy nw ol lt es sf sl so la li ru n z tt qn sc d17 d18 d19 p1 (by omega)) (cwV 1 hts gX6_lateOf_X6_isWay rfl rfl rfl (by decide +kernel) ⟨Nat.le_of_ble_eq_true rfl, Nat.le_of_ble_eq_true rfl⟩) (bs_RV hB (hP.sub (ws' := [(wk, .inr (4, [.ref mo, .ref wy, .ref nw, .ref ol, .ref lt, .ref es, .ref sf, .ref sl, .ref so, .ref la, .ref li, .ref ru, .int (nI n), .int sc, .int (nI z), .int (nI tt), .int (nI qn), .int d17, .int d18, .int d19]))]) [0] rfl) 0 rfl rfl) rfl rfl hl.1 rfl (lv_room (Nat.le_of_ble_eq_true rfl)) dX6_lateOf_2 ⟨Nat.le_of_ble_eq_true rfl, Nat.le_of_ble_eq_true rfl⟩)) (fun r_1 hr_1 => ?_)
  refine lv_if_eq (tgt := 17) hx hb dX6_lateOf_5 (by decide) (fun c_2 => ?_) (fun c_2 => ?_)
  · skip
    have ic_2 := ci_eq (rfl : Int32.toInt r_1 = _) (show Int32.toInt 0 = 0 by decide) c_2
    refine lv_bipush (v := (-6)) hx hb dX6_lateOf_17 (by decide) ?_
    exact W.iret (v := (-6)) hx hb hr (fun t ht hW => ⟨(-6), rfl, trivial, ht⟩) (fun q h => by cases h) dX6_lateOf_19
  · skip
    have ic_2 := ci_ne (rfl : Int32.toInt r_1 = _) (show Int32.toInt 0 = 0 by decide) c_2
    obtain ⟨hwl, hwu⟩ := hr_1.2 (hr_1.1.resolve_left c_2)
    refine lv_aload_n hx hb dX6_lateOf_8 rfl (lv_at hl 0 rfl) ?_
    refine va_get (D := (dC, dI)) (ci := 4) (v := .ref la) (C := RX6) (T := TX6) (N := 20) hx hb hts hnX6_lateOf_X6 hown hK hP 0 rfl rfl 9 (by decide) (hts (.fieldLink RX6 43 "RingMeets$Walks" "late" "[I") (by decide +kernel)) (fun _ h9 => h9) rfl dX6_lateOf_9 ?_
    refine lv_iload_n hx hb dX6_lateOf_12 rfl (lv_at hl 1 rfl) ?_
    refine va_iald (D := (dC, dI)) hx hb hK hP 1 0 rfl rfl (nb_in (x := p1) (n := 1957) (by omega) (by omega)) dX6_lateOf_13 ?_
    refine lv_topi (fun x_3 ex_3 => ?_)
    refine lv_goto (tgt := 19) hx hb dX6_lateOf_14 (by decide) ?_
    exact W.iret (v := x_3) hx hb hr (fun t ht hW => ⟨x_3, rfl, trivial, ht⟩) (fun q h => by cases h) dX6_lateOf_19

set_option maxHeartbeats 4000000 in
set_option maxRecDepth 100000 in
theorem mX6_kindOf (l : Launch) (dC : Nat → ClassId) (dI : Nat → Nat → Nat) (cyI cyZ : ClassId) (wk : Nat) (mo : Nat) (wy : Nat) (nw : Nat) (ol : Nat) (lt : Nat) (es : Nat) (sf : Nat) (sl : Nat) (so : Nat) (la : Nat) (li : Nat) (ru : Nat) (n : Nat) (z : Nat) (tt : Nat) (qn : Nat) (sc : Int32) (d17 : Int32) (d18 : Int32) (d19 : Int32) (fy : Nat → Int32) (fs : Nat → Int32) (fa : Nat → Int32) (p1 : Int32) (hn : n ≤ 10) (hz : z ≤ 1957) (htt : tt ≤ 25857) (hqn : qn ≤ 1957) : Met l yX6_kindOf wsX6_kindOf ({ frames := 2, cells := 0, slots := 0, locals := 42 }) (bs_R dC dI cyI cyZ [.ref wk, .int p1] [(wk, .inr (4, [.ref mo, .ref wy, .ref nw, .ref ol, .ref lt, .ref es, .ref sf, .ref sl, .ref so, .ref la, .ref li, .ref ru, .int (nI n), .int sc, .int (nI z), .int (nI tt), .int (nI qn), .int d17, .int d18, .int d19])), (wy, .inl (cyI, 1957, .inl fy)), (so, .inl (cyI, 1957, .inl fs)), (la, .inl (cyI, 1957, .inl fa))]) (vp_Si (fun r : Int32 => True)) 0 0 (fun _ => False) := by
  refine Met.ofW (cc := cX6_kindOf) (maxL := 2) (ret := (some .int)) (by decide) rfl ?_
  intro p e s m args below meth c s₁ B hml hv
  obtain ⟨rfl, hB, hP⟩ := hv
  have hK := hB.1
  have hN := hB.2
  have hx := B.exec
  have hb := B.bytes
  have hr := B.returns
  have hts := atoms_spec (ws := wsX6_kindOf) B.pre
  have hown : s.vm.findClass RX6 = some m.cls := findClass_of_methodNamed B.named
  have hlocks := B.notSynchronized
  have hP : va_P (dC, dI) vwCl [(wk, .inr (4, [.ref mo, .ref wy, .ref nw, .ref ol, .ref lt, .ref es, .ref sf, .ref sl, .ref so, .ref la, .ref li, .ref ru, .int (nI n), .int sc, .int (nI z), .int (nI tt), .int (nI qn), .int d17, .int d18, .int d19])), (wy, .inl (cyI, 1957, .inl fy)), (so, .inl (cyI, 1957, .inl fs)), (la, .inl (cyI, 1957, .inl fa))] s.heap := hP
  have hl := lv_entry ([.ref wk, .int p1]) (n := 2) (Nat.le_of_ble_eq_true rfl)
  rw [lg_entry_eq]
  generalize (lg_sl ([.ref wk, .int p1]) ++ List.replicate (2 - (lg_sl ([.ref wk, .int p1])).length) Slot.unset).toArray = ls at hl ⊢
  have hl : lv_has ls 2 [(0, .ref wk), (1, .int p1)] := hl
  refine lv_aload_n hx hb dX6_kindOf_0 rfl (lv_at hl 0 rfl) ?_
  refine lv_iload_n hx hb dX6_kindOf_1 rfl (lv_at hl 1 rfl) ?_
  refine vp_callSi (va_Run.run (va_runV (As := [.int p1]) (rest := []) ⟨hx, hb, hml, hown, hts⟩ (mX6_hasMet l dC dI cyI cyZ wk mo wy nw ol lt es sf sl so la li ru n z tt qn sc d17 d18 d19 fy p1 (by omega) (by omega) (by omega) (by omega)) (cwV 1 hts gX6_kindOf_X6_hasMet rfl rfl rfl (by decide +kernel) ⟨Nat.le_of_ble_eq_true rfl, Nat.le_of_ble_eq_true rfl⟩) (bs_RV hB (hP.sub (ws' := [(wk, .inr (4, [.ref mo, .ref wy, .ref nw, .ref ol, .ref lt, .ref es, .ref sf, .ref sl, .ref so, .ref la, .ref li, .ref ru, .int (nI n), .int sc, .int (nI z), .int (nI tt), .int (nI qn), .int d17, .int d18, .int d19])), (wy, .inl (cyI, 1957, .inl fy))]) [0, 1] rfl) 0 rfl rfl) rfl rfl hl.1 rfl (lv_room (Nat.le_of_ble_eq_true rfl)) dX6_kindOf_2 ⟨Nat.le_of_ble_eq_true rfl, Nat.le_of_ble_eq_true rfl⟩)) (fun r_1 hr_1 => ?_)
  refine lv_if_eq (tgt := 10) hx hb dX6_kindOf_5 (by decide) (fun c_2 => ?_) (fun c_2 => ?_)
  · skip
    have ic_2 := ci_eq (rfl : Int32.toInt r_1 = _) (show Int32.toInt 0 = 0 by decide) c_2
    refine lv_aload_n hx hb dX6_kindOf_10 rfl (lv_at hl 0 rfl) ?_
    refine lv_iload_n hx hb dX6_kindOf_11 rfl (lv_at hl 1 rfl) ?_
    refine vp_callSi (va_Run.run (va_runV (As := [.int p1]) (rest := []) ⟨hx, hb, hml, hown, hts⟩ (mX6_lateOf l dC dI cyI cyZ wk mo wy nw ol lt es sf sl so la li ru n z tt qn sc d17 d18 d19 fa p1 (by omega) (by omega) (by omega) (by omega)) (cwV 1 hts gX6_kindOf_X6_lateOf rfl rfl rfl (by decide +kernel) ⟨Nat.le_of_ble_eq_true rfl, Nat.le_of_ble_eq_true rfl⟩) (bs_RV hB (hP.sub (ws' := [(wk, .inr (4, [.ref mo, .ref wy, .ref nw, .ref ol, .ref lt, .ref es, .ref sf, .ref sl, .ref so, .ref la, .ref li, .ref ru, .int (nI n), .int sc, .int (nI z), .int (nI tt), .int (nI qn), .int d17, .int d18, .int d19])), (la, .inl (cyI, 1957, .inl fa))]) [0, 3] rfl) 0 rfl rfl) rfl rfl hl.1 rfl (lv_room (Nat.le_of_ble_eq_true rfl)) dX6_kindOf_12 ⟨Nat.le_of_ble_eq_true rfl, Nat.le_of_ble_eq_true rfl⟩)) (fun r_3 hr_3 => ?_)
    refine lv_bipush (v := (-6)) hx hb dX6_kindOf_15 (by decide) ?_
    refine lv_icmp_eq (tgt := 22) hx hb dX6_kindOf_17 (by decide) (fun c_4 => ?_) (fun c_4 => ?_)
    · skip
      have ic_4 := ci_eq (rfl : Int32.toInt r_3 = _) (show Int32.toInt (-6) = -6 by decide) c_4
      refine lv_aload_n hx hb dX6_kindOf_22 rfl (lv_at hl 0 rfl) ?_
      refine lv_iload_n hx hb dX6_kindOf_23 rfl (lv_at hl 1 rfl) ?_
      refine vp_callSi (va_Run.run (va_runV (As := [.int p1]) (rest := []) ⟨hx, hb, hml, hown, hts⟩ (mX6_soonOf l dC dI cyI cyZ wk mo wy nw ol lt es sf sl so la li ru n z tt qn sc d17 d18 d19 fs p1 (by omega) (by omega) (by omega) (by omega)) (cwV 1 hts gX6_kindOf_X6_soonOf rfl rfl rfl (by decide +kernel) ⟨Nat.le_of_ble_eq_true rfl, Nat.le_of_ble_eq_true rfl⟩) (bs_RV hB (hP.sub (ws' := [(wk, .inr (4, [.ref mo, .ref wy, .ref nw, .ref ol, .ref lt, .ref es, .ref sf, .ref sl, .ref so, .ref la, .ref li, .ref ru, .int (nI n), .int sc, .int (nI z), .int (nI tt), .int (nI qn), .int d17, .int d18, .int d19])), (so, .inl (cyI, 1957, .inl fs))]) [0, 2] rfl) 0 rfl rfl) rfl rfl hl.1 rfl (lv_room (Nat.le_of_ble_eq_true rfl)) dX6_kindOf_24 ⟨Nat.le_of_ble_eq_true rfl, Nat.le_of_ble_eq_true rfl⟩)) (fun r_5 hr_5 => ?_)
      refine lv_bipush (v := (-6)) hx hb dX6_kindOf_27 (by decide) ?_
      refine lv_icmp_eq (tgt := 36) hx hb dX6_kindOf_29 (by decide) (fun c_6 => ?_) (fun c_6 => ?_)
      · skip
        have ic_6 := ci_eq (rfl : Int32.toInt r_5 = _) (show Int32.toInt (-6) = -6 by decide) c_6
        refine lv_iconst (v := 3) hx hb dX6_kindOf_36 (by decide) ?_
        exact W.iret (v := 3) hx hb hr (fun t ht hW => ⟨3, rfl, trivial, ht⟩) (fun q h => by cases h) dX6_kindOf_37
      · skip
        have ic_6 := ci_ne (rfl : Int32.toInt r_5 = _) (show Int32.toInt (-6) = -6 by decide) c_6
        refine lv_iconst (v := 2) hx hb dX6_kindOf_32 (by decide) ?_
        refine lv_goto (tgt := 37) hx hb dX6_kindOf_33 (by decide) ?_
        exact W.iret (v := 2) hx hb hr (fun t ht hW => ⟨2, rfl, trivial, ht⟩) (fun q h => by cases h) dX6_kindOf_37
    · skip
      have ic_4 := ci_ne (rfl : Int32.toInt r_3 = _) (show Int32.toInt (-6) = -6 by decide) c_4
      refine lv_iconst (v := 1) hx hb dX6_kindOf_20 (by decide) ?_
      exact W.iret (v := 1) hx hb hr (fun t ht hW => ⟨1, rfl, trivial, ht⟩) (fun q h => by cases h) dX6_kindOf_21
  · skip
    have ic_2 := ci_ne (rfl : Int32.toInt r_1 = _) (show Int32.toInt 0 = 0 by decide) c_2
    refine lv_iconst (v := 0) hx hb dX6_kindOf_8 (by decide) ?_
    exact W.iret (v := 0) hx hb hr (fun t ht hW => ⟨0, rfl, trivial, ht⟩) (fun q h => by cases h) dX6_kindOf_9

theorem hnX6_leastSetTowardsMeeting_X6 : ∀ w ∈ wsX60, w ∈ wsX6_leastSetTowardsMeeting := fun _ h => List.mem_cons_of_mem _ (List.mem_append_left _ (List.mem_append_left _ (List.mem_append_left _ (List.mem_append_right _ h))))
set_option maxHeartbeats 4000000 in
set_option maxRecDepth 100000 in
theorem mX6_leastSetTowardsMeeting (l : Launch) (dC : Nat → ClassId) (dI : Nat → Nat → Nat) (cyI cyZ : ClassId) (wk : Nat) (mo : Nat) (wy : Nat) (nw : Nat) (ol : Nat) (lt : Nat) (es : Nat) (sf : Nat) (sl : Nat) (so : Nat) (la : Nat) (li : Nat) (ru : Nat) (n : Nat) (z : Nat) (tt : Nat) (qn : Nat) (sc : Int32) (d17 : Int32) (d18 : Int32) (d19 : Int32) (lk : Nat) (rt : Nat) (zz : Nat) (j0 : Int32) (j1 : Int32) (j2 : Int32) (i0 : Int32) (i1 : Int32) (i2 : Int32) (i3 : Int32) (i4 : Int32) (tg : Nat → Int32) (fy : Nat → Int32) (fn : Nat → Int32) (fo : Nat → Int32) (fs : Nat → Int32) (p1 : Int32) (hn : n ≤ 10) (hz : z ≤ 1957) (htt : tt ≤ 25857) (hqn : qn ≤ 1957) (hzz : zz ≤ 10) (sz : Nat) : Met l yX6_leastSetTowardsMeeting wsX6_leastSetTowardsMeeting ({ frames := 5, cells := 0, slots := 0, locals := 126 }) (bs_W dC dI cyI cyZ [.ref wk, .int p1] [(wk, .inr (4, [.ref mo, .ref wy, .ref nw, .ref ol, .ref lt, .ref es, .ref sf, .ref sl, .ref so, .ref la, .ref li, .ref ru, .int (nI n), .int sc, .int (nI z), .int (nI tt), .int (nI qn), .int d17, .int d18, .int d19])), (mo, .inr (1, [.ref lk, .int j0, .int j1, .int j2])), (lk, .inr (0, [.int i0, .int i1, .int i2, .int i3, .int i4])), (ru, .inr (2, [.ref rt, .int (nI zz)])), (rt, .inl (cyI, 60, .inl tg)), (wy, .inl (cyI, 1957, .inl fy)), (nw, .inl (cyI, 1024, .inl fn)), (ol, .inl (cyI, 1957, .inl fo)), (so, .inl (cyI, 1957, .inl fs))] sz) (va_Qi (S := Int32 × Int32 × Int32 × Int32 × Int32 × Int32 × Int32 × Int32) (fun (r : Int32) (q : Int32 × Int32 × Int32 × Int32 × Int32 × Int32 × Int32 × Int32) => True) (fun q t => bs_E dC dI (va_A [(wk, .inr (4, [.ref mo, .ref wy, .ref nw, .ref ol, .ref lt, .ref es, .ref sf, .ref sl, .ref so, .ref la, .ref li, .ref ru, .int (nI n), .int sc, .int (nI z), .int (nI tt), .int (nI qn), .int d17, .int d18, .int d19])), (mo, .inr (1, [.ref lk, .int j0, .int j1, .int j2])), (lk, .inr (0, [.int i0, .int i1, .int i2, .int i3, .int i4])), (ru, .inr (2, [.ref rt, .int (nI zz)])), (rt, .inl (cyI, 60, .inl tg)), (wy, .inl (cyI, 1957, .inl fy)), (nw, .inl (cyI, 1024, .inl fn)), (ol, .inl (cyI, 1957, .inl fo)), (so, .inl (cyI, 1957, .inl fs))] sz) [(wk, .inr (4, [.ref mo, .ref wy, .ref nw, .ref ol, .ref lt, .ref es, .ref sf, .ref sl, .ref so, .ref la, .ref li, .ref ru, .int (nI n), .int sc, .int (nI z), .int (nI tt), .int (nI qn), .int d17, .int d18, .int d19])), (mo, .inr (1, [.ref lk, .int q.1, .int q.2.1, .int q.2.2.1])), (lk, .inr (0, [.int q.2.2.2.1, .int q.2.2.2.2.1, .int q.2.2.2.2.2.1, .int q.2.2.2.2.2.2.1, .int q.2.2.2.2.2.2.2])), (ru, .inr (2, [.ref rt, .int (nI zz)])), (rt, .inl (cyI, 60, .inl tg)), (wy, .inl (cyI, 1957, .inl fy)), (nw, .inl (cyI, 1024, .inl fn)), (ol, .inl (cyI, 1957, .inl fo)), (so, .inl (cyI, 1957, .inl fs))] t) (va_A [(wk, .inr (4, [.ref mo, .ref wy, .ref nw, .ref ol, .ref lt, .ref es, .ref sf, .ref sl, .ref so, .ref la, .ref li, .ref ru, .int (nI n), .int sc, .int (nI z), .int (nI tt), .int (nI qn), .int d17, .int d18, .int d19])), (mo, .inr (1, [.ref lk, .int j0, .int j1, .int j2])), (lk, .inr (0, [.int i0, .int i1, .int i2, .int i3, .int i4])), (ru, .inr (2, [.ref rt, .int (nI zz)])), (rt, .inl (cyI, 60, .inl tg)), (wy, .inl (cyI, 1957, .inl fy)), (nw, .inl (cyI, 1024, .inl fn)), (ol, .inl (cyI, 1957, .inl fo)), (so, .inl (cyI, 1957, .inl fs))] sz)) 0 0 (va_A [(wk, .inr (4, [.ref mo, .ref wy, .ref nw, .ref ol, .ref lt, .ref es, .ref sf, .ref sl, .ref so, .ref la, .ref li, .ref ru, .int (nI n), .int sc, .int (nI z), .int (nI tt), .int (nI qn), .int d17, .int d18, .int d19])), (mo, .inr (1, [.ref lk, .int j0, .int j1, .int j2])), (lk, .inr (0, [.int i0, .int i1, .int i2, .int i3, .int i4])), (ru, .inr (2, [.ref rt, .int (nI zz)])), (rt, .inl (cyI, 60, .inl tg)), (wy, .inl (cyI, 1957, .inl fy)), (nw, .inl (cyI, 1024, .inl fn)), (ol, .inl (cyI, 1957, .inl fo)), (so, .inl (cyI, 1957, .inl fs))] sz) := by
  refine Met.ofW (cc := cX6_leastSetTowardsMeeting) (maxL := 5) (ret := (some .int)) (by decide) rfl ?_
  intro p e s m args below meth c s₁ B hml hv
  obtain ⟨rfl, hsz, hB, hP, hD0⟩ := hv
  have hK := hB.1
  have hN := hB.2
  have hx := B.exec
  have hb := B.bytes
  have hr := B.returns
  have hts := atoms_spec (ws := wsX6_leastSetTowardsMeeting) B.pre
  have hown : s.vm.findClass RX6 = some m.cls := findClass_of_methodNamed B.named
  have hlocks := B.notSynchronized
  subst hsz
  have hD := hD0.self (sz := s.heap.size)
  generalize hAe : va_A [(wk, .inr (4, [.ref mo, .ref wy, .ref nw, .ref ol, .ref lt, .ref es, .ref sf, .ref sl, .ref so, .ref la, .ref li, .ref ru, .int (nI n), .int sc, .int (nI z), .int (nI tt), .int (nI qn), .int d17, .int d18, .int d19])), (mo, .inr (1, [.ref lk, .int j0, .int j1, .int j2])), (lk, .inr (0, [.int i0, .int i1, .int i2, .int i3, .int i4])), (ru, .inr (2, [.ref rt, .int (nI zz)])), (rt, .inl (cyI, 60, .inl tg)), (wy, .inl (cyI, 1957, .inl fy)), (nw, .inl (cyI, 1024, .inl fn)), (ol, .inl (cyI, 1957, .inl fo)), (so, .inl (cyI, 1957, .inl fs))] s.heap.size = A at hD ⊢
  have hA : ∀ q : Nat, s.heap.size ≤ q → A q := fun q h => by rw [← hAe]; exact Or.inr h
  have hS : va_S A s.heap s.heap [] := va_S.rf
  have hP : va_P (dC, dI) vwCl [(wk, .inr (4, [.ref mo, .ref wy, .ref nw, .ref ol, .ref lt, .ref es, .ref sf, .ref sl, .ref so, .ref la, .ref li, .ref ru, .int (nI n), .int sc, .int (nI z), .int (nI tt), .int (nI qn), .int d17, .int d18, .int d19])), (mo, .inr (1, [.ref lk, .int j0, .int j1, .int j2])), (lk, .inr (0, [.int i0, .int i1, .int i2, .int i3, .int i4])), (ru, .inr (2, [.ref rt, .int (nI zz)])), (rt, .inl (cyI, 60, .inl tg)), (wy, .inl (cyI, 1957, .inl fy)), (nw, .inl (cyI, 1024, .inl fn)), (ol, .inl (cyI, 1957, .inl fo)), (so, .inl (cyI, 1957, .inl fs))] s.heap := hP
  have hl := lv_entry ([.ref wk, .int p1]) (n := 5) (Nat.le_of_ble_eq_true rfl)
  rw [lg_entry_eq]
  generalize (lg_sl ([.ref wk, .int p1]) ++ List.replicate (5 - (lg_sl ([.ref wk, .int p1])).length) Slot.unset).toArray = ls at hl ⊢
  have hl : lv_has ls 5 [(0, .ref wk), (1, .int p1)] := hl
  refine lv_aload_n hx hb dX6_leastSetTowardsMeeting_0 rfl (lv_at hl 0 rfl) ?_
  refine lv_iload_n hx hb dX6_leastSetTowardsMeeting_1 rfl (lv_at hl 1 rfl) ?_
  refine vp_callSi (va_Run.run (va_runV (As := [.int p1]) (rest := []) ⟨hx, hb, hml, hown, hts⟩ (mX6_soonOf l dC dI cyI cyZ wk mo wy nw ol lt es sf sl so la li ru n z tt qn sc d17 d18 d19 fs p1 (by omega) (by omega) (by omega) (by omega)) (cwV 1 hts gX6_leastSetTowardsMeeting_X6_soonOf rfl rfl rfl (by decide +kernel) ⟨Nat.le_of_ble_eq_true rfl, Nat.le_of_ble_eq_true rfl⟩) (bs_RV hB (hP.sub (ws' := [(wk, .inr (4, [.ref mo, .ref wy, .ref nw, .ref ol, .ref lt, .ref es, .ref sf, .ref sl, .ref so, .ref la, .ref li, .ref ru, .int (nI n), .int sc, .int (nI z), .int (nI tt), .int (nI qn), .int d17, .int d18, .int d19])), (so, .inl (cyI, 1957, .inl fs))]) [0, 8] rfl) 0 rfl rfl) rfl rfl hl.1 rfl (lv_room (Nat.le_of_ble_eq_true rfl)) dX6_leastSetTowardsMeeting_2 ⟨Nat.le_of_ble_eq_true rfl, Nat.le_of_ble_eq_true rfl⟩)) (fun r_1 hr_1 => ?_)
  refine lv_istore_n (lv' := [(2, .int r_1), (0, .ref wk), (1, .int p1)]) hx hb dX6_leastSetTowardsMeeting_5 rfl hl (by decide) rfl (fun ls hl => ?_)
  refine lv_aload_n hx hb dX6_leastSetTowardsMeeting_6 rfl (lv_at hl 1 rfl) ?_
  refine lv_iload_n hx hb dX6_leastSetTowardsMeeting_7 rfl (lv_at hl 2 rfl) ?_
  refine vp_callSi (va_Run.run (va_runV (As := [.int p1]) (rest := []) ⟨hx, hb, hml, hown, hts⟩ (mX6_isWay l dC dI cyI cyZ wk mo wy nw ol lt es sf sl so la li ru n z tt qn sc d17 d18 d19 p1 (by omega)) (cwV 1 hts gX6_leastSetTowardsMeeting_X6_isWay rfl rfl rfl (by decide +kernel) ⟨Nat.le_of_ble_eq_true rfl, Nat.le_of_ble_eq_true rfl⟩) (bs_RV hB (hP.sub (ws' := [(wk, .inr (4, [.ref mo, .ref wy, .ref nw, .ref ol, .ref lt, .ref es, .ref sf, .ref sl, .ref so, .ref la, .ref li, .ref ru, .int (nI n), .int sc, .int (nI z), .int (nI tt), .int (nI qn), .int d17, .int d18, .int d19]))]) [0] rfl) 0 rfl rfl) rfl rfl hl.1 rfl (lv_room (Nat.le_of_ble_eq_true rfl)) dX6_leastSetTowardsMeeting_8 ⟨Nat.le_of_ble_eq_true rfl, Nat.le_of_ble_eq_true rfl⟩)) (fun r_2 hr_2 => ?_)
  refine lv_if_eq (tgt := 24) hx hb dX6_leastSetTowardsMeeting_11 (by decide) (fun c_3 => ?_) (fun c_3 => ?_)
  · skip
    have ic_3 := ci_eq (rfl : Int32.toInt r_2 = _) (show Int32.toInt 0 = 0 by decide) c_3
    refine lv_bipush (v := (-6)) hx hb dX6_leastSetTowardsMeeting_24 (by decide) ?_
    exact W.iret (v := (-6)) hx hb hr (fun t ht hW => ⟨⟨(-6), (j0, j1, j2, i0, i1, i2, i3, i4), rfl, trivial, ⟨by rw [ht]; exact hP.sub (ws' := [(wk, .inr (4, [.ref mo, .ref wy, .ref nw, .ref ol, .ref lt, .ref es, .ref sf, .ref sl, .ref so, .ref la, .ref li, .ref ru, .int (nI n), .int sc, .int (nI z), .int (nI tt), .int (nI qn), .int d17, .int d18, .int d19])), (mo, .inr (1, [.ref lk, .int j0, .int j1, .int j2])), (lk, .inr (0, [.int i0, .int i1, .int i2, .int i3, .int i4])), (ru, .inr (2, [.ref rt, .int (nI zz)])), (rt, .inl (cyI, 60, .inl tg)), (wy, .inl (cyI, 1957, .inl fy)), (nw, .inl (cyI, 1024, .inl fn)), (ol, .inl (cyI, 1957, .inl fo)), (so, .inl (cyI, 1957, .inl fs))]) [0, 1, 2, 3, 4, 5, 6, 7, 8] rfl, hD.sub (ws' := [(wk, .inr (4, [.ref mo, .ref wy, .ref nw, .ref ol, .ref lt, .ref es, .ref sf, .ref sl, .ref so, .ref la, .ref li, .ref ru, .int (nI n), .int sc, .int (nI z), .int (nI tt), .int (nI qn), .int d17, .int d18, .int d19])), (mo, .inr (1, [.ref lk, .int j0, .int j1, .int j2])), (lk, .inr (0, [.int i0, .int i1, .int i2, .int i3, .int i4])), (ru, .inr (2, [.ref rt, .int (nI zz)])), (rt, .inl (cyI, 60, .inl tg)), (wy, .inl (cyI, 1957, .inl fy)), (nw, .inl (cyI, 1024, .inl fn)), (ol, .inl (cyI, 1957, .inl fo)), (so, .inl (cyI, 1957, .inl fs))]) [0, 1, 2, 3, 4, 5, 6, 7, 8] (by decide) rfl⟩⟩, hS.F ht⟩) hS.2.2 dX6_leastSetTowardsMeeting_26
  · skip
    have ic_3 := ci_ne (rfl : Int32.toInt r_2 = _) (show Int32.toInt 0 = 0 by decide) c_3
    obtain ⟨hwl, hwu⟩ := hr_2.2 (hr_2.1.resolve_left c_3)
    refine lv_iload_n hx hb dX6_leastSetTowardsMeeting_14 rfl (lv_at hl 0 rfl) ?_
    refine lv_bipush (v := (-6)) hx hb dX6_leastSetTowardsMeeting_15 (by decide) ?_
    refine lv_icmp_eq (tgt := 24) hx hb dX6_leastSetTowardsMeeting_17 (by decide) (fun c_4 => ?_) (fun c_4 => ?_)
    · skip
      have ic_4 := ci_eq (rfl : Int32.toInt r_1 = _) (show Int32.toInt (-6) = -6 by decide) c_4
      refine lv_bipush (v := (-6)) hx hb dX6_leastSetTowardsMeeting_24 (by decide) ?_
      exact W.iret (v := (-6)) hx hb hr (fun t ht hW => ⟨⟨(-6), (j0, j1, j2, i0, i1, i2, i3, i4), rfl, trivial, ⟨by rw [ht]; exact hP.sub (ws' := [(wk, .inr (4, [.ref mo, .ref wy, .ref nw, .ref ol, .ref lt, .ref es, .ref sf, .ref sl, .ref so, .ref la, .ref li, .ref ru, .int (nI n), .int sc, .int (nI z), .int (nI tt), .int (nI qn), .int d17, .int d18, .int d19])), (mo, .inr (1, [.ref lk, .int j0, .int j1, .int j2])), (lk, .inr (0, [.int i0, .int i1, .int i2, .int i3, .int i4])), (ru, .inr (2, [.ref rt, .int (nI zz)])), (rt, .inl (cyI, 60, .inl tg)), (wy, .inl (cyI, 1957, .inl fy)), (nw, .inl (cyI, 1024, .inl fn)), (ol, .inl (cyI, 1957, .inl fo)), (so, .inl (cyI, 1957, .inl fs))]) [0, 1, 2, 3, 4, 5, 6, 7, 8] rfl, hD.sub (ws' := [(wk, .inr (4, [.ref mo, .ref wy, .ref nw, .ref ol, .ref lt, .ref es, .ref sf, .ref sl, .ref so, .ref la, .ref li, .ref ru, .int (nI n), .int sc, .int (nI z), .int (nI tt), .int (nI qn), .int d17, .int d18, .int d19])), (mo, .inr (1, [.ref lk, .int j0, .int j1, .int j2])), (lk, .inr (0, [.int i0, .int i1, .int i2, .int i3, .int i4])), (ru, .inr (2, [.ref rt, .int (nI zz)])), (rt, .inl (cyI, 60, .inl tg)), (wy, .inl (cyI, 1957, .inl fy)), (nw, .inl (cyI, 1024, .inl fn)), (ol, .inl (cyI, 1957, .inl fo)), (so, .inl (cyI, 1957, .inl fs))]) [0, 1, 2, 3, 4, 5, 6, 7, 8] (by decide) rfl⟩⟩, hS.F ht⟩) hS.2.2 dX6_leastSetTowardsMeeting_26
    · skip
      have ic_4 := ci_ne (rfl : Int32.toInt r_1 = _) (show Int32.toInt (-6) = -6 by decide) c_4
      refine lv_iload_n hx hb dX6_leastSetTowardsMeeting_20 rfl (lv_at hl 0 rfl) ?_
      refine lv_if_ne (tgt := 27) hx hb dX6_leastSetTowardsMeeting_21 (by decide) (fun c_5 => ?_) (fun c_5 => ?_)
      · skip
        have ic_5 := ci_ne (rfl : Int32.toInt r_1 = _) (show Int32.toInt 0 = 0 by decide) c_5
        refine lv_aload_n hx hb dX6_leastSetTowardsMeeting_27 rfl (lv_at hl 1 rfl) ?_
        refine va_get (D := (dC, dI)) (ci := 4) (v := .ref mo) (C := RX6) (T := TX6) (N := 20) hx hb hts hnX6_leastSetTowardsMeeting_X6 hown hK hP 0 rfl rfl 0 (by decide) (hts (.fieldLink RX6 12 "RingMeets$Walks" "moves" "LRingMeets$Moves;") (by decide +kernel)) (fun _ h9 => h9) rfl dX6_leastSetTowardsMeeting_28 ?_
        refine lv_aload_n hx hb dX6_leastSetTowardsMeeting_31 rfl (lv_at hl 1 rfl) ?_
        refine va_get (D := (dC, dI)) (ci := 4) (v := .ref ru) (C := RX6) (T := TX6) (N := 20) hx hb hts hnX6_leastSetTowardsMeeting_X6 hown hK hP 0 rfl rfl 11 (by decide) (hts (.fieldLink RX6 49 "RingMeets$Walks" "rules" "LRingMeets$Rules;") (by decide +kernel)) (fun _ h9 => h9) rfl dX6_leastSetTowardsMeeting_32 ?_
        refine lv_aload_n hx hb dX6_leastSetTowardsMeeting_35 rfl (lv_at hl 1 rfl) ?_
        refine va_get (D := (dC, dI)) (ci := 4) (v := .int (nI n)) (C := RX6) (T := TX6) (N := 20) hx hb hts hnX6_leastSetTowardsMeeting_X6 hown hK hP 0 rfl rfl 12 (by decide) (hts (.fieldLink RX6 53 "RingMeets$Walks" "cells" "I") (by decide +kernel)) (fun _ h9 => h9) rfl dX6_leastSetTowardsMeeting_36 ?_
        refine lv_aload_n hx hb dX6_leastSetTowardsMeeting_39 rfl (lv_at hl 1 rfl) ?_
        refine va_get (D := (dC, dI)) (ci := 4) (v := .ref wy) (C := RX6) (T := TX6) (N := 20) hx hb hts hnX6_leastSetTowardsMeeting_X6 hown hK hP 0 rfl rfl 1 (by decide) (hts (.fieldLink RX6 18 "RingMeets$Walks" "ways" "[I") (by decide +kernel)) (fun _ h9 => h9) rfl dX6_leastSetTowardsMeeting_40 ?_
        refine lv_iload_n hx hb dX6_leastSetTowardsMeeting_43 rfl (lv_at hl 2 rfl) ?_
        refine va_iald (D := (dC, dI)) hx hb hK hP 5 0 rfl rfl (nb_in (x := p1) (n := 1957) (by omega) (by omega)) dX6_leastSetTowardsMeeting_44 ?_
        refine lv_topi (fun x_6 ex_6 => ?_)
        refine vp_callSi (va_Run.run (va_runS (As := [.int x_6]) (rest := [.int (nI n), .ref ru, .ref mo]) ⟨hx, hb, hml, hown, hts⟩ (mX5_standsOf l dC dI cyI cyZ x_6 ) (va_cwS 1 hts gX6_leastSetTowardsMeeting_X5_standsOf rfl rfl rfl (by decide +kernel) ⟨Nat.le_of_ble_eq_true rfl, Nat.le_of_ble_eq_true rfl⟩) (bs_RS hB (hP.sub (ws' := []) [] rfl)) rfl rfl hl.1 rfl (lv_room (Nat.le_of_ble_eq_true rfl)) dX6_leastSetTowardsMeeting_45 ⟨Nat.le_of_ble_eq_true rfl, Nat.le_of_ble_eq_true rfl⟩)) (fun r_7 hr_7 => ?_)
        refine lv_aload_n hx hb dX6_leastSetTowardsMeeting_48 rfl (lv_at hl 1 rfl) ?_
        refine lv_aload_n hx hb dX6_leastSetTowardsMeeting_49 rfl (lv_at hl 1 rfl) ?_
        refine va_get (D := (dC, dI)) (ci := 4) (v := .ref wy) (C := RX6) (T := TX6) (N := 20) hx hb hts hnX6_leastSetTowardsMeeting_X6 hown hK hP 0 rfl rfl 1 (by decide) (hts (.fieldLink RX6 18 "RingMeets$Walks" "ways" "[I") (by decide +kernel)) (fun _ h9 => h9) rfl dX6_leastSetTowardsMeeting_50 ?_
        refine lv_iload_n hx hb dX6_leastSetTowardsMeeting_53 rfl (lv_at hl 2 rfl) ?_
        refine va_iald (D := (dC, dI)) hx hb hK hP 5 0 rfl rfl (nb_in (x := p1) (n := 1957) (by omega) (by omega)) dX6_leastSetTowardsMeeting_54 ?_
        refine lv_topi (fun x_8 ex_8 => ?_)
        refine vp_callSi (va_Run.run (va_runV (As := [.int x_8]) (rest := [.int r_7, .int (nI n), .ref ru, .ref mo]) ⟨hx, hb, hml, hown, hts⟩ (mX6_towersSeen l dC dI cyI cyZ wk mo wy nw ol lt es sf sl so la li ru n z tt qn sc d17 d18 d19 x_8 ) (cwV 1 hts gX6_leastSetTowardsMeeting_X6_towersSeen rfl rfl rfl (by decide +kernel) ⟨Nat.le_of_ble_eq_true rfl, Nat.le_of_ble_eq_true rfl⟩) (bs_RV hB (hP.sub (ws' := [(wk, .inr (4, [.ref mo, .ref wy, .ref nw, .ref ol, .ref lt, .ref es, .ref sf, .ref sl, .ref so, .ref la, .ref li, .ref ru, .int (nI n), .int sc, .int (nI z), .int (nI tt), .int (nI qn), .int d17, .int d18, .int d19]))]) [0] rfl) 0 rfl rfl) rfl rfl hl.1 rfl (lv_room (Nat.le_of_ble_eq_true rfl)) dX6_leastSetTowardsMeeting_55 ⟨Nat.le_of_ble_eq_true rfl, Nat.le_of_ble_eq_true rfl⟩)) (fun r_9 hr_9 => ?_)
        have f_10 := va_free (wc := [(mo, .inr (1, [.ref lk, .int j0, .int j1, .int j2])), (lk, .inr (0, [.int i0, .int i1, .int i2, .int i3, .int i4])), (ru, .inr (2, [.ref rt, .int (nI zz)])), (rt, .inl (cyI, 60, .inl tg))]) hD hS hA [1, 2, 3, 4] rfl
        refine va_callv (va_runV (As := [.ref ru, .int (nI n), .int r_7, .int r_9]) (rest := []) ⟨hx, hb, hml, hown, hts⟩ (mX2_from l dC dI cyI cyZ mo lk ru rt zz n j0 j1 j2 i0 i1 i2 i3 i4 tg r_7 r_9 (by omega) (by omega) _) (cwV 4 hts gX6_leastSetTowardsMeeting_X2_from rfl rfl rfl (by decide +kernel) ⟨Nat.le_of_ble_eq_true rfl, Nat.le_of_ble_eq_true rfl⟩) (bs_WV hB (hP.sub (ws' := [(mo, .inr (1, [.ref lk, .int j0, .int j1, .int j2])), (lk, .inr (0, [.int i0, .int i1, .int i2, .int i3, .int i4])), (ru, .inr (2, [.ref rt, .int (nI zz)])), (rt, .inl (cyI, 60, .inl tg))]) [1, 2, 3, 4] rfl) (hD.sub (ws' := [(mo, .inr (1, [.ref lk, .int j0, .int j1, .int j2])), (lk, .inr (0, [.int i0, .int i1, .int i2, .int i3, .int i4])), (ru, .inr (2, [.ref rt, .int (nI zz)])), (rt, .inl (cyI, 60, .inl tg))]) [1, 2, 3, 4] (by decide) rfl) 0 rfl rfl) rfl rfl hl.1 rfl (lv_room (Nat.le_of_ble_eq_true rfl)) dX6_leastSetTowardsMeeting_58 ⟨Nat.le_of_ble_eq_true rfl, Nat.le_of_ble_eq_true rfl⟩) hS (fun q _ h => f_10 q h) f_10 (fun uh_11 t H1 locs ht hvm h_11 hB1 hz1 hk1 hS => ?_)
        obtain ⟨i_12, i_13, i_14, i_15, i_16, i_17, i_18, i_19⟩ := uh_11
        obtain ⟨hP1, hD1⟩ := hB1
        rw [ht] at hP1
        obtain ⟨hP, hD⟩ := va_join (wr := [(wk, .inr (4, [.ref mo, .ref wy, .ref nw, .ref ol, .ref lt, .ref es, .ref sf, .ref sl, .ref so, .ref la, .ref li, .ref ru, .int (nI n), .int sc, .int (nI z), .int (nI tt), .int (nI qn), .int d17, .int d18, .int d19])), (wy, .inl (cyI, 1957, .inl fy)), (nw, .inl (cyI, 1024, .inl fn)), (ol, .inl (cyI, 1957, .inl fo)), (so, .inl (cyI, 1957, .inl fs))]) (w1 := [(mo, .inr (1, [.ref lk, .int i_12, .int i_13, .int i_14])), (lk, .inr (0, [.int i_15, .int i_16, .int i_17, .int i_18, .int i_19])), (ru, .inr (2, [.ref rt, .int (nI zz)])), (rt, .inl (cyI, 60, .inl tg))]) hP hD [1, 2, 3, 4] [0, 5, 6, 7, 8] rfl rfl (by decide) (by decide) hk1 f_10 hP1 hD1
        generalize H1 = H at hP hS ⊢
        have hP : va_P (dC, dI) vwCl [(wk, .inr (4, [.ref mo, .ref wy, .ref nw, .ref ol, .ref lt, .ref es, .ref sf, .ref sl, .ref so, .ref la, .ref li, .ref ru, .int (nI n), .int sc, .int (nI z), .int (nI tt), .int (nI qn), .int d17, .int d18, .int d19])), (wy, .inl (cyI, 1957, .inl fy)), (nw, .inl (cyI, 1024, .inl fn)), (ol, .inl (cyI, 1957, .inl fo)), (so, .inl (cyI, 1957, .inl fs)), (mo, .inr (1, [.ref lk, .int i_12, .int i_13, .int i_14])), (lk, .inr (0, [.int i_15, .int i_16, .int i_17, .int i_18, .int i_19])), (ru, .inr (2, [.ref rt, .int (nI zz)])), (rt, .inl (cyI, 60, .inl tg))] _ := hP
        have hD : va_D A [(wk, .inr (4, [.ref mo, .ref wy, .ref nw, .ref ol, .ref lt, .ref es, .ref sf, .ref sl, .ref so, .ref la, .ref li, .ref ru, .int (nI n), .int sc, .int (nI z), .int (nI tt), .int (nI qn), .int d17, .int d18, .int d19])), (wy, .inl (cyI, 1957, .inl fy)), (nw, .inl (cyI, 1024, .inl fn)), (ol, .inl (cyI, 1957, .inl fo)), (so, .inl (cyI, 1957, .inl fs)), (mo, .inr (1, [.ref lk, .int i_12, .int i_13, .int i_14])), (lk, .inr (0, [.int i_15, .int i_16, .int i_17, .int i_18, .int i_19])), (ru, .inr (2, [.ref rt, .int (nI zz)])), (rt, .inl (cyI, 60, .inl tg))] := hD
        refine lv_aload_n hx hb dX6_leastSetTowardsMeeting_61 rfl (lv_at hl 1 rfl) ?_
        refine lv_iconst (v := 0) hx hb dX6_leastSetTowardsMeeting_62 (by decide) ?_
        refine vp_callSi (va_Run.run (va_runV (As := [.int 0]) (rest := []) ⟨hx, hb, hml, hown, hts⟩ (mX6_setAfter l dC dI cyI cyZ wk mo wy nw ol lt es sf sl so la li ru n z tt qn sc d17 d18 d19 lk i_12 i_13 i_14 0 ) (cwV 1 hts gX6_leastSetTowardsMeeting_X6_setAfter rfl rfl rfl (by decide +kernel) ⟨Nat.le_of_ble_eq_true rfl, Nat.le_of_ble_eq_true rfl⟩) (bs_RV hB (hP.sub (ws' := [(wk, .inr (4, [.ref mo, .ref wy, .ref nw, .ref ol, .ref lt, .ref es, .ref sf, .ref sl, .ref so, .ref la, .ref li, .ref ru, .int (nI n), .int sc, .int (nI z), .int (nI tt), .int (nI qn), .int d17, .int d18, .int d19])), (mo, .inr (1, [.ref lk, .int i_12, .int i_13, .int i_14]))]) [0, 5] rfl) 0 rfl rfl) rfl rfl hl.1 rfl (lv_room (Nat.le_of_ble_eq_true rfl)) dX6_leastSetTowardsMeeting_63 ⟨Nat.le_of_ble_eq_true rfl, Nat.le_of_ble_eq_true rfl⟩)) (fun r_20 hr_20 => ?_)
        refine lv_istore_n (lv' := [(3, .int r_20), (2, .int r_1), (0, .ref wk), (1, .int p1)]) hx hb dX6_leastSetTowardsMeeting_66 rfl hl (by decide) rfl (fun ls hl => ?_)
        refine lv_iconst (v := 0) hx hb dX6_leastSetTowardsMeeting_67 (by decide) ?_
        refine lv_istore (lv' := [(4, .int 0), (3, .int r_20), (2, .int r_1), (0, .ref wk), (1, .int p1)]) hx hb dX6_leastSetTowardsMeeting_68 hl (by decide) rfl (fun ls hl => ?_)
        have L70 : ∀ (n70 : Nat), ∀ (k : Nat) (yb yc : Int32), (0 ≤ k ∧ k ≤ 31) → (31 + 1 ≤ k + n70) → ∀ (H : Heap) (locs : List Loc), va_P (dC, dI) vwCl [(wk, .inr (4, [.ref mo, .ref wy, .ref nw, .ref ol, .ref lt, .ref es, .ref sf, .ref sl, .ref so, .ref la, .ref li, .ref ru, .int (nI n), .int sc, .int (nI z), .int (nI tt), .int (nI qn), .int d17, .int d18, .int d19])), (wy, .inl (cyI, 1957, .inl fy)), (nw, .inl (cyI, 1024, .inl fn)), (ol, .inl (cyI, 1957, .inl fo)), (so, .inl (cyI, 1957, .inl fs)), (mo, .inr (1, [.ref lk, .int i_12, .int i_13, .int i_14])), (lk, .inr (0, [.int i_15, .int i_16, .int i_17, .int i_18, .int i_19])), (ru, .inr (2, [.ref rt, .int (nI zz)])), (rt, .inl (cyI, 60, .inl tg))] H → va_D A [(wk, .inr (4, [.ref mo, .ref wy, .ref nw, .ref ol, .ref lt, .ref es, .ref sf, .ref sl, .ref so, .ref la, .ref li, .ref ru, .int (nI n), .int sc, .int (nI z), .int (nI tt), .int (nI qn), .int d17, .int d18, .int d19])), (wy, .inl (cyI, 1957, .inl fy)), (nw, .inl (cyI, 1024, .inl fn)), (ol, .inl (cyI, 1957, .inl fo)), (so, .inl (cyI, 1957, .inl fs)), (mo, .inr (1, [.ref lk, .int i_12, .int i_13, .int i_14])), (lk, .inr (0, [.int i_15, .int i_16, .int i_17, .int i_18, .int i_19])), (ru, .inr (2, [.ref rt, .int (nI zz)])), (rt, .inl (cyI, 60, .inl tg))] → va_S A s.heap H locs → ∀ (ls : Array Slot), lv_has ls 5 [(0, .ref wk), (1, .int p1), (2, .int yb), (3, .int yc), (4, .int (nI k))] → W p l e (headSpec wsX6_leastSetTowardsMeeting ({ frames := 5, cells := 0, slots := 0, locals := 126 })).room s m ([.ref wk, .int p1] : List Value).toArray below meth c H locs 0 0 (MQ below (va_Qi (S := Int32 × Int32 × Int32 × Int32 × Int32 × Int32 × Int32 × Int32) (fun (r : Int32) (q : Int32 × Int32 × Int32 × Int32 × Int32 × Int32 × Int32 × Int32) => True) (fun q t => bs_E dC dI A [(wk, .inr (4, [.ref mo, .ref wy, .ref nw, .ref ol, .ref lt, .ref es, .ref sf, .ref sl, .ref so, .ref la, .ref li, .ref ru, .int (nI n), .int sc, .int (nI z), .int (nI tt), .int (nI qn), .int d17, .int d18, .int d19])), (mo, .inr (1, [.ref lk, .int q.1, .int q.2.1, .int q.2.2.1])), (lk, .inr (0, [.int q.2.2.2.1, .int q.2.2.2.2.1, .int q.2.2.2.2.2.1, .int q.2.2.2.2.2.2.1, .int q.2.2.2.2.2.2.2])), (ru, .inr (2, [.ref rt, .int (nI zz)])), (rt, .inl (cyI, 60, .inl tg)), (wy, .inl (cyI, 1957, .inl fy)), (nw, .inl (cyI, 1024, .inl fn)), (ol, .inl (cyI, 1957, .inl fo)), (so, .inl (cyI, 1957, .inl fs))] t) A) ([.ref wk, .int p1] : List Value).toArray s 0 0 A) (F0 m 70 ls []) := by
          intro n70
          induction n70 with
          | zero =>
            intro k yb yc hk70 hn70 H locs hP hD hS ls hl
            exfalso
            omega
          | succ n70 ih70 =>
            intro k yb yc hk70 hn70 H locs hP hD hS ls hl
            refine lv_iload hx hb dX6_leastSetTowardsMeeting_70 (lv_at hl 4 rfl) ?_
            refine lv_bipush (v := 31) hx hb dX6_leastSetTowardsMeeting_72 (by decide) ?_
            refine lv_icmp_ge (tgt := 127) hx hb dX6_leastSetTowardsMeeting_74 (by decide) (fun c_21 => ?_) (fun c_21 => ?_)
            · skip
              have ic_21 := ci_le (show Int32.toInt 31 = 31 by decide) (nI_toInt (n := k) (by omega)) c_21
              refine lv_bipush (v := (-6)) hx hb dX6_leastSetTowardsMeeting_127 (by decide) ?_
              exact W.iret (v := (-6)) hx hb hr (fun t ht hW => ⟨⟨(-6), (i_12, i_13, i_14, i_15, i_16, i_17, i_18, i_19), rfl, trivial, ⟨by rw [ht]; exact hP.sub (ws' := [(wk, .inr (4, [.ref mo, .ref wy, .ref nw, .ref ol, .ref lt, .ref es, .ref sf, .ref sl, .ref so, .ref la, .ref li, .ref ru, .int (nI n), .int sc, .int (nI z), .int (nI tt), .int (nI qn), .int d17, .int d18, .int d19])), (mo, .inr (1, [.ref lk, .int i_12, .int i_13, .int i_14])), (lk, .inr (0, [.int i_15, .int i_16, .int i_17, .int i_18, .int i_19])), (ru, .inr (2, [.ref rt, .int (nI zz)])), (rt, .inl (cyI, 60, .inl tg)), (wy, .inl (cyI, 1957, .inl fy)), (nw, .inl (cyI, 1024, .inl fn)), (ol, .inl (cyI, 1957, .inl fo)), (so, .inl (cyI, 1957, .inl fs))]) [0, 5, 6, 7, 8, 1, 2, 3, 4] rfl, hD.sub (ws' := [(wk, .inr (4, [.ref mo, .ref wy, .ref nw, .ref ol, .ref lt, .ref es, .ref sf, .ref sl, .ref so, .ref la, .ref li, .ref ru, .int (nI n), .int sc, .int (nI z), .int (nI tt), .int (nI qn), .int d17, .int d18, .int d19])), (mo, .inr (1, [.ref lk, .int i_12, .int i_13, .int i_14])), (lk, .inr (0, [.int i_15, .int i_16, .int i_17, .int i_18, .int i_19])), (ru, .inr (2, [.ref rt, .int (nI zz)])), (rt, .inl (cyI, 60, .inl tg)), (wy, .inl (cyI, 1957, .inl fy)), (nw, .inl (cyI, 1024, .inl fn)), (ol, .inl (cyI, 1957, .inl fo)), (so, .inl (cyI, 1957, .inl fs))]) [0, 5, 6, 7, 8, 1, 2, 3, 4] (by decide) rfl⟩⟩, hS.F ht⟩) hS.2.2 dX6_leastSetTowardsMeeting_129
            · skip
              have ic_21 := ci_nle (show Int32.toInt 31 = 31 by decide) (nI_toInt (n := k) (by omega)) c_21
              refine lv_iload_n hx hb dX6_leastSetTowardsMeeting_77 rfl (lv_at hl 3 rfl) ?_
              refine lv_if_eq (tgt := 127) hx hb dX6_leastSetTowardsMeeting_78 (by decide) (fun c_22 => ?_) (fun c_22 => ?_)
              · skip
                have ic_22 := ci_eq (rfl : Int32.toInt yc = _) (show Int32.toInt 0 = 0 by decide) c_22
                refine lv_bipush (v := (-6)) hx hb dX6_leastSetTowardsMeeting_127 (by decide) ?_
                exact W.iret (v := (-6)) hx hb hr (fun t ht hW => ⟨⟨(-6), (i_12, i_13, i_14, i_15, i_16, i_17, i_18, i_19), rfl, trivial, ⟨by rw [ht]; exact hP.sub (ws' := [(wk, .inr (4, [.ref mo, .ref wy, .ref nw, .ref ol, .ref lt, .ref es, .ref sf, .ref sl, .ref so, .ref la, .ref li, .ref ru, .int (nI n), .int sc, .int (nI z), .int (nI tt), .int (nI qn), .int d17, .int d18, .int d19])), (mo, .inr (1, [.ref lk, .int i_12, .int i_13, .int i_14])), (lk, .inr (0, [.int i_15, .int i_16, .int i_17, .int i_18, .int i_19])), (ru, .inr (2, [.ref rt, .int (nI zz)])), (rt, .inl (cyI, 60, .inl tg)), (wy, .inl (cyI, 1957, .inl fy)), (nw, .inl (cyI, 1024, .inl fn)), (ol, .inl (cyI, 1957, .inl fo)), (so, .inl (cyI, 1957, .inl fs))]) [0, 5, 6, 7, 8, 1, 2, 3, 4] rfl, hD.sub (ws' := [(wk, .inr (4, [.ref mo, .ref wy, .ref nw, .ref ol, .ref lt, .ref es, .ref sf, .ref sl, .ref so, .ref la, .ref li, .ref ru, .int (nI n), .int sc, .int (nI z), .int (nI tt), .int (nI qn), .int d17, .int d18, .int d19])), (mo, .inr (1, [.ref lk, .int i_12, .int i_13, .int i_14])), (lk, .inr (0, [.int i_15, .int i_16, .int i_17, .int i_18, .int i_19])), (ru, .inr (2, [.ref rt, .int (nI zz)])), (rt, .inl (cyI, 60, .inl tg)), (wy, .inl (cyI, 1957, .inl fy)), (nw, .inl (cyI, 1024, .inl fn)), (ol, .inl (cyI, 1957, .inl fo)), (so, .inl (cyI, 1957, .inl fs))]) [0, 5, 6, 7, 8, 1, 2, 3, 4] (by decide) rfl⟩⟩, hS.F ht⟩) hS.2.2 dX6_leastSetTowardsMeeting_129
              · skip
                have ic_22 := ci_ne (rfl : Int32.toInt yc = _) (show Int32.toInt 0 = 0 by decide) c_22
                refine lv_aload_n hx hb dX6_leastSetTowardsMeeting_81 rfl (lv_at hl 0 rfl) ?_
                refine lv_aload_n hx hb dX6_leastSetTowardsMeeting_82 rfl (lv_at hl 0 rfl) ?_
                refine lv_aload_n hx hb dX6_leastSetTowardsMeeting_83 rfl (lv_at hl 0 rfl) ?_
                refine va_get (D := (dC, dI)) (ci := 4) (v := .ref mo) (C := RX6) (T := TX6) (N := 20) hx hb hts hnX6_leastSetTowardsMeeting_X6 hown hK hP 0 rfl rfl 0 (by decide) (hts (.fieldLink RX6 12 "RingMeets$Walks" "moves" "LRingMeets$Moves;") (by decide +kernel)) (fun _ h9 => h9) rfl dX6_leastSetTowardsMeeting_84 ?_
                refine lv_aload_n hx hb dX6_leastSetTowardsMeeting_87 rfl (lv_at hl 0 rfl) ?_
                refine va_get (D := (dC, dI)) (ci := 4) (v := .int (nI n)) (C := RX6) (T := TX6) (N := 20) hx hb hts hnX6_leastSetTowardsMeeting_X6 hown hK hP 0 rfl rfl 12 (by decide) (hts (.fieldLink RX6 53 "RingMeets$Walks" "cells" "I") (by decide +kernel)) (fun _ h9 => h9) rfl dX6_leastSetTowardsMeeting_88 ?_
                refine lv_aload_n hx hb dX6_leastSetTowardsMeeting_91 rfl (lv_at hl 0 rfl) ?_
                refine va_get (D := (dC, dI)) (ci := 4) (v := .ref wy) (C := RX6) (T := TX6) (N := 20) hx hb hts hnX6_leastSetTowardsMeeting_X6 hown hK hP 0 rfl rfl 1 (by decide) (hts (.fieldLink RX6 18 "RingMeets$Walks" "ways" "[I") (by decide +kernel)) (fun _ h9 => h9) rfl dX6_leastSetTowardsMeeting_92 ?_
                refine lv_iload_n hx hb dX6_leastSetTowardsMeeting_95 rfl (lv_at hl 1 rfl) ?_
                refine va_iald (D := (dC, dI)) hx hb hK hP 1 0 rfl rfl (nb_in (x := p1) (n := 1957) (by omega) (by omega)) dX6_leastSetTowardsMeeting_96 ?_
                refine lv_topi (fun x_23 ex_23 => ?_)
                refine lv_iload_n hx hb dX6_leastSetTowardsMeeting_97 rfl (lv_at hl 3 rfl) ?_
                refine vp_callSi (va_Run.run (va_runV (As := [.int (nI n), .int x_23, .int yc]) (rest := [.ref wk, .ref wk]) ⟨hx, hb, hml, hown, hts⟩ (mX2_wayBehind l dC dI cyI cyZ mo lk i_12 i_13 i_14 (nI n) x_23 yc ) (cwV 3 hts gX6_leastSetTowardsMeeting_X2_wayBehind rfl rfl rfl (by decide +kernel) ⟨Nat.le_of_ble_eq_true rfl, Nat.le_of_ble_eq_true rfl⟩) (bs_RV hB (hP.sub (ws' := [(mo, .inr (1, [.ref lk, .int i_12, .int i_13, .int i_14]))]) [5] rfl) 0 rfl rfl) rfl rfl hl.1 rfl (lv_room (Nat.le_of_ble_eq_true rfl)) dX6_leastSetTowardsMeeting_98 ⟨Nat.le_of_ble_eq_true rfl, Nat.le_of_ble_eq_true rfl⟩)) (fun r_24 hr_24 => ?_)
                refine vp_callSi (va_Run.run (va_runV (As := [.int r_24]) (rest := [.ref wk]) ⟨hx, hb, hml, hown, hts⟩ (mX6_find l dC dI cyI cyZ wk mo wy nw ol lt es sf sl so la li ru n z tt qn sc d17 d18 d19 fy fn fo r_24 (by omega) (by omega) (by omega) (by omega)) (cwV 1 hts gX6_leastSetTowardsMeeting_X6_find rfl rfl rfl (by decide +kernel) ⟨Nat.le_of_ble_eq_true rfl, Nat.le_of_ble_eq_true rfl⟩) (bs_RV hB (hP.sub (ws' := [(wk, .inr (4, [.ref mo, .ref wy, .ref nw, .ref ol, .ref lt, .ref es, .ref sf, .ref sl, .ref so, .ref la, .ref li, .ref ru, .int (nI n), .int sc, .int (nI z), .int (nI tt), .int (nI qn), .int d17, .int d18, .int d19])), (wy, .inl (cyI, 1957, .inl fy)), (nw, .inl (cyI, 1024, .inl fn)), (ol, .inl (cyI, 1957, .inl fo))]) [0, 1, 2, 3] rfl) 0 rfl rfl) rfl rfl hl.1 rfl (lv_room (Nat.le_of_ble_eq_true rfl)) dX6_leastSetTowardsMeeting_101 ⟨Nat.le_of_ble_eq_true rfl, Nat.le_of_ble_eq_true rfl⟩)) (fun r_25 hr_25 => ?_)
                refine vp_callSi (va_Run.run (va_runV (As := [.int r_25]) (rest := []) ⟨hx, hb, hml, hown, hts⟩ (mX6_soonOf l dC dI cyI cyZ wk mo wy nw ol lt es sf sl so la li ru n z tt qn sc d17 d18 d19 fs r_25 (by omega) (by omega) (by omega) (by omega)) (cwV 1 hts gX6_leastSetTowardsMeeting_X6_soonOf rfl rfl rfl (by decide +kernel) ⟨Nat.le_of_ble_eq_true rfl, Nat.le_of_ble_eq_true rfl⟩) (bs_RV hB (hP.sub (ws' := [(wk, .inr (4, [.ref mo, .ref wy, .ref nw, .ref ol, .ref lt, .ref es, .ref sf, .ref sl, .ref so, .ref la, .ref li, .ref ru, .int (nI n), .int sc, .int (nI z), .int (nI tt), .int (nI qn), .int d17, .int d18, .int d19])), (so, .inl (cyI, 1957, .inl fs))]) [0, 4] rfl) 0 rfl rfl) rfl rfl hl.1 rfl (lv_room (Nat.le_of_ble_eq_true rfl)) dX6_leastSetTowardsMeeting_104 ⟨Nat.le_of_ble_eq_true rfl, Nat.le_of_ble_eq_true rfl⟩)) (fun r_26 hr_26 => ?_)
                refine lv_iload_n hx hb dX6_leastSetTowardsMeeting_107 rfl (lv_at hl 2 rfl) ?_
                refine lv_iconst (v := 1) hx hb dX6_leastSetTowardsMeeting_108 (by decide) ?_
                refine lv_isub hx hb dX6_leastSetTowardsMeeting_109 ?_
                refine lv_topi (fun x_27 ex_27 => ?_)
                refine lv_icmp_ne (tgt := 115) hx hb dX6_leastSetTowardsMeeting_110 (by decide) (fun c_28 => ?_) (fun c_28 => ?_)
                · skip
                  have ic_28 := ci_ne (rfl : Int32.toInt r_26 = _) (rfl : Int32.toInt x_27 = _) c_28
                  refine lv_aload_n hx hb dX6_leastSetTowardsMeeting_115 rfl (lv_at hl 0 rfl) ?_
                  refine lv_iload_n hx hb dX6_leastSetTowardsMeeting_116 rfl (lv_at hl 3 rfl) ?_
                  refine vp_callSi (va_Run.run (va_runV (As := [.int yc]) (rest := []) ⟨hx, hb, hml, hown, hts⟩ (mX6_setAfter l dC dI cyI cyZ wk mo wy nw ol lt es sf sl so la li ru n z tt qn sc d17 d18 d19 lk i_12 i_13 i_14 yc ) (cwV 1 hts gX6_leastSetTowardsMeeting_X6_setAfter rfl rfl rfl (by decide +kernel) ⟨Nat.le_of_ble_eq_true rfl, Nat.le_of_ble_eq_true rfl⟩) (bs_RV hB (hP.sub (ws' := [(wk, .inr (4, [.ref mo, .ref wy, .ref nw, .ref ol, .ref lt, .ref es, .ref sf, .ref sl, .ref so, .ref la, .ref li, .ref ru, .int (nI n), .int sc, .int (nI z), .int (nI tt), .int (nI qn), .int d17, .int d18, .int d19])), (mo, .inr (1, [.ref lk, .int i_12, .int i_13, .int i_14]))]) [0, 5] rfl) 0 rfl rfl) rfl rfl hl.1 rfl (lv_room (Nat.le_of_ble_eq_true rfl)) dX6_leastSetTowardsMeeting_117 ⟨Nat.le_of_ble_eq_true rfl, Nat.le_of_ble_eq_true rfl⟩)) (fun r_29 hr_29 => ?_)
                  refine lv_istore_n (lv' := [(3, .int r_29), (0, .ref wk), (1, .int p1), (2, .int yb), (4, .int (nI k))]) hx hb dX6_leastSetTowardsMeeting_120 rfl hl (by decide) rfl (fun ls hl => ?_)
                  refine lv_iinc (v := (nI (k + 1))) (lv' := [(4, .int (nI (k + 1))), (3, .int r_29), (0, .ref wk), (1, .int p1), (2, .int yb)]) hx hb dX6_leastSetTowardsMeeting_121 hl (k := 4) rfl (nI_1 _) (by decide) rfl (fun ls hl => ?_)
                  refine lv_goto (tgt := 70) hx hb dX6_leastSetTowardsMeeting_124 (by decide) ?_
                  exact ih70 (k + 1) yb r_29 ⟨by omega, by omega⟩ (by omega)  _ _ (hP.sub [0, 1, 2, 3, 4, 5, 6, 7, 8] rfl) (hD.sub [0, 1, 2, 3, 4, 5, 6, 7, 8] (by decide) rfl) hS _ (lv_sub hl [2, 3, 4, 1, 0] rfl)
                · skip
                  have ic_28 := ci_eq (rfl : Int32.toInt r_26 = _) (rfl : Int32.toInt x_27 = _) c_28
                  refine lv_iload_n hx hb dX6_leastSetTowardsMeeting_113 rfl (lv_at hl 3 rfl) ?_
                  exact W.iret (v := yc) hx hb hr (fun t ht hW => ⟨⟨yc, (i_12, i_13, i_14, i_15, i_16, i_17, i_18, i_19), rfl, trivial, ⟨by rw [ht]; exact hP.sub (ws' := [(wk, .inr (4, [.ref mo, .ref wy, .ref nw, .ref ol, .ref lt, .ref es, .ref sf, .ref sl, .ref so, .ref la, .ref li, .ref ru, .int (nI n), .int sc, .int (nI z), .int (nI tt), .int (nI qn), .int d17, .int d18, .int d19])), (mo, .inr (1, [.ref lk, .int i_12, .int i_13, .int i_14])), (lk, .inr (0, [.int i_15, .int i_16, .int i_17, .int i_18, .int i_19])), (ru, .inr (2, [.ref rt, .int (nI zz)])), (rt, .inl (cyI, 60, .inl tg)), (wy, .inl (cyI, 1957, .inl fy)), (nw, .inl (cyI, 1024, .inl fn)), (ol, .inl (cyI, 1957, .inl fo)), (so, .inl (cyI, 1957, .inl fs))]) [0, 5, 6, 7, 8, 1, 2, 3, 4] rfl, hD.sub (ws' := [(wk, .inr (4, [.ref mo, .ref wy, .ref nw, .ref ol, .ref lt, .ref es, .ref sf, .ref sl, .ref so, .ref la, .ref li, .ref ru, .int (nI n), .int sc, .int (nI z), .int (nI tt), .int (nI qn), .int d17, .int d18, .int d19])), (mo, .inr (1, [.ref lk, .int i_12, .int i_13, .int i_14])), (lk, .inr (0, [.int i_15, .int i_16, .int i_17, .int i_18, .int i_19])), (ru, .inr (2, [.ref rt, .int (nI zz)])), (rt, .inl (cyI, 60, .inl tg)), (wy, .inl (cyI, 1957, .inl fy)), (nw, .inl (cyI, 1024, .inl fn)), (ol, .inl (cyI, 1957, .inl fo)), (so, .inl (cyI, 1957, .inl fs))]) [0, 5, 6, 7, 8, 1, 2, 3, 4] (by decide) rfl⟩⟩, hS.F ht⟩) hS.2.2 dX6_leastSetTowardsMeeting_114
        exact L70 (31 + 1) 0 r_1 r_20 ⟨by omega, by omega⟩ (by omega)  _ _ (hP.sub [0, 1, 2, 3, 4, 5, 6, 7, 8] rfl) (hD.sub [0, 1, 2, 3, 4, 5, 6, 7, 8] (by decide) rfl) hS _ (lv_sub hl [3, 4, 2, 1, 0] rfl)
      · skip
        have ic_5 := ci_eq (rfl : Int32.toInt r_1 = _) (show Int32.toInt 0 = 0 by decide) c_5
        refine lv_bipush (v := (-6)) hx hb dX6_leastSetTowardsMeeting_24 (by decide) ?_
        exact W.iret (v := (-6)) hx hb hr (fun t ht hW => ⟨⟨(-6), (j0, j1, j2, i0, i1, i2, i3, i4), rfl, trivial, ⟨by rw [ht]; exact hP.sub (ws' := [(wk, .inr (4, [.ref mo, .ref wy, .ref nw, .ref ol, .ref lt, .ref es, .ref sf, .ref sl, .ref so, .ref la, .ref li, .ref ru, .int (nI n), .int sc, .int (nI z), .int (nI tt), .int (nI qn), .int d17, .int d18, .int d19])), (mo, .inr (1, [.ref lk, .int j0, .int j1, .int j2])), (lk, .inr (0, [.int i0, .int i1, .int i2, .int i3, .int i4])), (ru, .inr (2, [.ref rt, .int (nI zz)])), (rt, .inl (cyI, 60, .inl tg)), (wy, .inl (cyI, 1957, .inl fy)), (nw, .inl (cyI, 1024, .inl fn)), (ol, .inl (cyI, 1957, .inl fo)), (so, .inl (cyI, 1957, .inl fs))]) [0, 1, 2, 3, 4, 5, 6, 7, 8] rfl, hD.sub (ws' := [(wk, .inr (4, [.ref mo, .ref wy, .ref nw, .ref ol, .ref lt, .ref es, .ref sf, .ref sl, .ref so, .ref la, .ref li, .ref ru, .int (nI n), .int sc, .int (nI z), .int (nI tt), .int (nI qn), .int d17, .int d18, .int d19])), (mo, .inr (1, [.ref lk, .int j0, .int j1, .int j2])), (lk, .inr (0, [.int i0, .int i1, .int i2, .int i3, .int i4])), (ru, .inr (2, [.ref rt, .int (nI zz)])), (rt, .inl (cyI, 60, .inl tg)), (wy, .inl (cyI, 1957, .inl fy)), (nw, .inl (cyI, 1024, .inl fn)), (ol, .inl (cyI, 1957, .inl fo)), (so, .inl (cyI, 1957, .inl fs))]) [0, 1, 2, 3, 4, 5, 6, 7, 8] (by decide) rfl⟩⟩, hS.F ht⟩) hS.2.2 dX6_leastSetTowardsMeeting_26
