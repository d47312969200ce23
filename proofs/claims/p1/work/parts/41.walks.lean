set_option maxHeartbeats 4000000 in
set_option maxRecDepth 100000 in
theorem kX5_cellNextTo (l : Launch) (dC : Nat → ClassId) (dI : Nat → Nat → Nat) (cyI cyZ : ClassId) (p0 p1 p2 : Int32) : Met l yX5_cellNextTo wsX5_cellNextTo ({ frames := 0, cells := 0, slots := 0, locals := 0 }) (bs_R dC dI cyI cyZ [.int p0, .int p1, .int p2] []) (vp_Si (fun _ : Int32 => True)) 0 0 (fun _ => False) := by
  refine Met.ofW (cc := cX5_cellNextTo) (maxL := 3) (ret := (some .int)) (by decide) rfl ?_
  intro p e s m args below meth c s₁ B hml hv
  obtain ⟨rfl, hB, hP⟩ := hv
  have hK := hB.1
  have hN := hB.2
  have hx := B.exec
  have hb := B.bytes
  have hr := B.returns
  have hts := atoms_spec (ws := wsX5_cellNextTo) B.pre
  have hown : s.vm.findClass RX5 = some m.cls := findClass_of_methodNamed B.named
  have hlocks := B.notSynchronized
  have hP : va_P (dC, dI) vwCl [] s.heap := hP
  have hl := lv_entry ([.int p0, .int p1, .int p2]) (n := 3) (Nat.le_of_ble_eq_true rfl)
  rw [lg_entry_eq]
  generalize (lg_sl ([.int p0, .int p1, .int p2]) ++ List.replicate (3 - (lg_sl ([.int p0, .int p1, .int p2])).length) Slot.unset).toArray = ls at hl ⊢
  have hl : lv_has ls 3 [(0, .int p0), (1, .int p1), (2, .int p2)] := hl
  refine lv_iload_n hx hb dX5_cellNextTo_0 rfl (lv_at hl 2 rfl) ?_
  refine lv_if_ne (tgt := 19) hx hb dX5_cellNextTo_1 (by decide) (fun c_1 => ?_) (fun c_1 => ?_)
  · skip
    have ic_1 := ci_ne (rfl : Int32.toInt p2 = _) (show Int32.toInt 0 = 0 by decide) c_1
    refine lv_iload_n hx hb dX5_cellNextTo_19 rfl (lv_at hl 1 rfl) ?_
    refine lv_if_gt (tgt := 29) hx hb dX5_cellNextTo_20 (by decide) (fun c_2 => ?_) (fun c_2 => ?_)
    · skip
      have ic_2 := ci_lt (show Int32.toInt 0 = 0 by decide) (rfl : Int32.toInt p1 = _) c_2
      refine lv_iload_n hx hb dX5_cellNextTo_29 rfl (lv_at hl 1 rfl) ?_
      refine lv_iconst (v := 1) hx hb dX5_cellNextTo_30 (by decide) ?_
      refine lv_isub hx hb dX5_cellNextTo_31 ?_
      refine lv_topi (fun x_3 ex_3 => ?_)
      exact W.iret (v := x_3) hx hb hr (fun t ht hW => ⟨x_3, rfl, trivial, ht⟩) (fun q h => by cases h) dX5_cellNextTo_32
    · skip
      have ic_2 := ci_nlt (show Int32.toInt 0 = 0 by decide) (rfl : Int32.toInt p1 = _) c_2
      refine lv_iload_n hx hb dX5_cellNextTo_23 rfl (lv_at hl 0 rfl) ?_
      refine lv_iconst (v := 1) hx hb dX5_cellNextTo_24 (by decide) ?_
      refine lv_isub hx hb dX5_cellNextTo_25 ?_
      refine lv_topi (fun x_4 ex_4 => ?_)
      refine lv_goto (tgt := 32) hx hb dX5_cellNextTo_26 (by decide) ?_
      exact W.iret (v := x_4) hx hb hr (fun t ht hW => ⟨x_4, rfl, trivial, ht⟩) (fun q h => by cases h) dX5_cellNextTo_32
  · skip
    have ic_1 := ci_eq (rfl : Int32.toInt p2 = _) (show Int32.toInt 0 = 0 by decide) c_1
    refine lv_iload_n hx hb dX5_cellNextTo_4 rfl (lv_at hl 1 rfl) ?_
    refine lv_iconst (v := 1) hx hb dX5_cellNextTo_5 (by decide) ?_
    refine lv_iadd hx hb dX5_cellNextTo_6 ?_
    refine lv_topi (fun x_5 ex_5 => ?_)
    refine lv_iload_n hx hb dX5_cellNextTo_7 rfl (lv_at hl 0 rfl) ?_
    refine lv_icmp_lt (tgt := 15) hx hb dX5_cellNextTo_8 (by decide) (fun c_6 => ?_) (fun c_6 => ?_)
    · skip
      have ic_6 := ci_lt (rfl : Int32.toInt x_5 = _) (rfl : Int32.toInt p0 = _) c_6
      refine lv_iload_n hx hb dX5_cellNextTo_15 rfl (lv_at hl 1 rfl) ?_
      refine lv_iconst (v := 1) hx hb dX5_cellNextTo_16 (by decide) ?_
      refine lv_iadd hx hb dX5_cellNextTo_17 ?_
      refine lv_topi (fun x_7 ex_7 => ?_)
      exact W.iret (v := x_7) hx hb hr (fun t ht hW => ⟨x_7, rfl, trivial, ht⟩) (fun q h => by cases h) dX5_cellNextTo_18
    · skip
      have ic_6 := ci_nlt (rfl : Int32.toInt x_5 = _) (rfl : Int32.toInt p0 = _) c_6
      refine lv_iconst (v := 0) hx hb dX5_cellNextTo_11 (by decide) ?_
      refine lv_goto (tgt := 18) hx hb dX5_cellNextTo_12 (by decide) ?_
      exact W.iret (v := 0) hx hb hr (fun t ht hW => ⟨0, rfl, trivial, ht⟩) (fun q h => by cases h) dX5_cellNextTo_18

set_option maxHeartbeats 4000000 in
set_option maxRecDepth 100000 in
theorem kX0_row (l : Launch) (dC : Nat → ClassId) (dI : Nat → Nat → Nat) (cyI cyZ : ClassId) (p1 p2 p3 : Int32) : Met l yX0_row wsX0_row ({ frames := 1, cells := 0, slots := 0, locals := 22 }) (bs_R dC dI cyI cyZ [.int 8, .int p1, .int p2, .int p3] []) (vp_Si (fun _ : Int32 => True)) 0 0 (fun _ => False) := by
  refine Met.ofW (cc := cX0_row) (maxL := 8) (ret := (some .int)) (by decide) rfl ?_
  intro p e s m args below meth c s₁ B hml hv
  obtain ⟨rfl, hB, hP⟩ := hv
  have hK := hB.1
  have hN := hB.2
  have hx := B.exec
  have hb := B.bytes
  have hr := B.returns
  have hts := atoms_spec (ws := wsX0_row) B.pre
  have hown : s.vm.findClass RX0 = some m.cls := findClass_of_methodNamed B.named
  have hlocks := B.notSynchronized
  have hP : va_P (dC, dI) vwCl [] s.heap := hP
  have hl := lv_entry ([.int 8, .int p1, .int p2, .int p3]) (n := 8) (Nat.le_of_ble_eq_true rfl)
  rw [lg_entry_eq]
  generalize (lg_sl ([.int 8, .int p1, .int p2, .int p3]) ++ List.replicate (8 - (lg_sl ([.int 8, .int p1, .int p2, .int p3])).length) Slot.unset).toArray = ls at hl ⊢
  have hl : lv_has ls 8 [(0, .int 8), (1, .int p1), (2, .int p2), (3, .int p3)] := hl
  refine lv_iconst (v := 0) hx hb dX0_row_0 (by decide) ?_
  refine lv_istore (lv' := [(4, .int 0), (0, .int 8), (1, .int p1), (2, .int p2), (3, .int p3)]) hx hb dX0_row_1 hl (by decide) rfl (fun ls hl => ?_)
  refine lv_iconst (v := 0) hx hb dX0_row_3 (by decide) ?_
  refine lv_istore (lv' := [(5, .int 0), (4, .int 0), (0, .int 8), (1, .int p1), (2, .int p2), (3, .int p3)]) hx hb dX0_row_4 hl (by decide) rfl (fun ls hl => ?_)
  refine lv_iload_n hx hb dX0_row_6 rfl (lv_at hl 4 rfl) ?_
  refine lv_istore (lv' := [(6, .int p2), (5, .int 0), (4, .int 0), (0, .int 8), (1, .int p1), (2, .int p2), (3, .int p3)]) hx hb dX0_row_7 hl (by decide) rfl (fun ls hl => ?_)
  refine lv_iconst (v := 0) hx hb dX0_row_9 (by decide) ?_
  refine lv_istore (lv' := [(7, .int 0), (6, .int p2), (5, .int 0), (4, .int 0), (0, .int 8), (1, .int p1), (2, .int p2), (3, .int p3)]) hx hb dX0_row_10 hl (by decide) rfl (fun ls hl => ?_)
  have L12 : ∀ (n12 : Nat), ∀ (k : Nat) (ya yb yc : Int32), (0 ≤ k ∧ k ≤ 8) → (9 ≤ k + n12) → ∀ (ls : Array Slot), lv_has ls 8 [(0, .int 8), (1, .int p1), (3, .int p3), (4, .int ya), (5, .int yb), (6, .int yc), (7, .int (nI k))] → W p l e (headSpec wsX0_row ({ frames := 1, cells := 0, slots := 0, locals := 22 })).room s m ([.int 8, .int p1, .int p2, .int p3] : List Value).toArray below meth c s.heap [] 0 0 (MQ below (vp_Si (fun _ : Int32 => True)) ([.int 8, .int p1, .int p2, .int p3] : List Value).toArray s 0 0 (fun _ => False)) (F0 m 12 ls []) := by
    intro n12
    induction n12 with
    | zero =>
      intro k ya yb yc hk12 hn12 ls hl
      exfalso
      omega
    | succ n12 ih12 =>
      intro k ya yb yc hk12 hn12 ls hl
      refine lv_iload hx hb dX0_row_12 (lv_at hl 6 rfl) ?_
      refine lv_iload_n hx hb dX0_row_14 rfl (lv_at hl 0 rfl) ?_
      refine lv_icmp_ge (tgt := 57) hx hb dX0_row_15 (by decide) (fun c_1 => ?_) (fun c_1 => ?_)
      · skip
        have ic_1 := ci_le (show Int32.toInt 8 = 8 by decide) (nI_toInt (n := k) (by omega)) c_1
        refine lv_iload hx hb dX0_row_57 (lv_at hl 3 rfl) ?_
        exact W.iret (v := ya) hx hb hr (fun t ht hW => ⟨ya, rfl, trivial, ht⟩) (fun q h => by cases h) dX0_row_59
      · skip
        have ic_1 := ci_nle (show Int32.toInt 8 = 8 by decide) (nI_toInt (n := k) (by omega)) c_1
        refine lv_iload_n hx hb dX0_row_18 rfl (lv_at hl 0 rfl) ?_
        refine lv_iload hx hb dX0_row_19 (lv_at hl 5 rfl) ?_
        refine lv_iload_n hx hb dX0_row_21 rfl (lv_at hl 2 rfl) ?_
        refine vp_callSi (va_Run.run (va_runS (As := [.int 8, .int yc, .int p3]) (rest := []) ⟨hx, hb, hml, hown, hts⟩ (kX5_cellNextTo l dC dI cyI cyZ 8 yc p3) (va_cwS 3 hts gX0_row_X5_cellNextTo rfl rfl rfl (by decide +kernel) ⟨Nat.le_of_ble_eq_true rfl, Nat.le_of_ble_eq_true rfl⟩) (bs_RS hB (hP.sub (ws' := []) [] rfl)) rfl rfl hl.1 rfl (lv_room (Nat.le_of_ble_eq_true rfl)) dX0_row_22 ⟨Nat.le_of_ble_eq_true rfl, Nat.le_of_ble_eq_true rfl⟩)) (fun r_2 hr_2 => ?_)
        refine lv_istore (lv' := [(6, .int r_2), (0, .int 8), (1, .int p1), (3, .int p3), (4, .int ya), (5, .int yb), (7, .int (nI k))]) hx hb dX0_row_25 hl (by decide) rfl (fun ls hl => ?_)
        obtain ⟨x_3, ex_3⟩ : ∃ y : Int32, y = yb + 1 := ⟨_, rfl⟩
        refine lv_iinc (v := x_3) (lv' := [(5, .int x_3), (6, .int r_2), (0, .int 8), (1, .int p1), (3, .int p3), (4, .int ya), (7, .int (nI k))]) hx hb dX0_row_27 hl (k := 5) rfl (by rw [ex_3]; rfl) (by decide) rfl (fun ls hl => ?_)
        refine lv_iload_n hx hb dX0_row_30 rfl (lv_at hl 3 rfl) ?_
        refine lv_iload hx hb dX0_row_31 (lv_at hl 1 rfl) ?_
        refine vp_callSi (va_Run.run (va_runS (As := [.int p1, .int r_2]) (rest := []) ⟨hx, hb, hml, hown, hts⟩ (kX5_has l dC dI cyI cyZ p1 r_2) (va_cwS 2 hts gX0_row_X5_has rfl rfl rfl (by decide +kernel) ⟨Nat.le_of_ble_eq_true rfl, Nat.le_of_ble_eq_true rfl⟩) (bs_RS hB (hP.sub (ws' := []) [] rfl)) rfl rfl hl.1 rfl (lv_room (Nat.le_of_ble_eq_true rfl)) dX0_row_33 ⟨Nat.le_of_ble_eq_true rfl, Nat.le_of_ble_eq_true rfl⟩)) (fun r_4 hr_4 => ?_)
        refine lv_if_eq (tgt := 51) hx hb dX0_row_36 (by decide) (fun c_5 => ?_) (fun c_5 => ?_)
        · skip
          have ic_5 := ci_eq (rfl : Int32.toInt r_4 = _) (show Int32.toInt 0 = 0 by decide) c_5
          refine lv_iinc (v := (nI (k + 1))) (lv' := [(7, .int (nI (k + 1))), (5, .int x_3), (6, .int r_2), (0, .int 8), (1, .int p1), (3, .int p3), (4, .int ya)]) hx hb dX0_row_51 hl (k := 6) rfl (nI_1 _) (by decide) rfl (fun ls hl => ?_)
          refine lv_goto (tgt := 12) hx hb dX0_row_54 (by decide) ?_
          exact ih12 (k + 1) ya x_3 r_2 ⟨by omega, by omega⟩ (by omega)  _ (lv_sub hl [3, 4, 5, 6, 1, 2, 0] rfl)
        · skip
          have ic_5 := ci_ne (rfl : Int32.toInt r_4 = _) (show Int32.toInt 0 = 0 by decide) c_5
          refine lv_iload hx hb dX0_row_39 (lv_at hl 5 rfl) ?_
          refine lv_iconst (v := 4) hx hb dX0_row_41 (by decide) ?_
          refine lv_ishl hx hb dX0_row_42 ?_
          refine lv_topi (fun x_6 ex_6 => ?_)
          refine lv_iload hx hb dX0_row_43 (lv_at hl 0 rfl) ?_
          refine lv_ior hx hb dX0_row_45 ?_
          refine lv_topi (fun x_7 ex_7 => ?_)
          refine lv_istore (lv' := [(4, .int x_7), (5, .int x_3), (6, .int r_2), (0, .int 8), (1, .int p1), (3, .int p3), (7, .int (nI k))]) hx hb dX0_row_46 hl (by decide) rfl (fun ls hl => ?_)
          refine lv_iconst (v := 0) hx hb dX0_row_48 (by decide) ?_
          refine lv_istore (lv' := [(5, .int 0), (4, .int x_7), (6, .int r_2), (0, .int 8), (1, .int p1), (3, .int p3), (7, .int (nI k))]) hx hb dX0_row_49 hl (by decide) rfl (fun ls hl => ?_)
          refine lv_iinc (v := (nI (k + 1))) (lv' := [(7, .int (nI (k + 1))), (5, .int 0), (4, .int x_7), (6, .int r_2), (0, .int 8), (1, .int p1), (3, .int p3)]) hx hb dX0_row_51 hl (k := 6) rfl (nI_1 _) (by decide) rfl (fun ls hl => ?_)
          refine lv_goto (tgt := 12) hx hb dX0_row_54 (by decide) ?_
          exact ih12 (k + 1) x_7 0 r_2 ⟨by omega, by omega⟩ (by omega)  _ (lv_sub hl [4, 5, 6, 2, 1, 3, 0] rfl)
  exact L12 9 0 0 0 p2 ⟨by omega, by omega⟩ (by omega)  _ (lv_sub hl [4, 5, 7, 3, 2, 1, 0] rfl)

set_option maxHeartbeats 4000000 in
set_option maxRecDepth 100000 in
theorem kJ6_lowestOneBit_0f7a4 (l : Launch) (dC : Nat → ClassId) (dI : Nat → Nat → Nat) (cyI cyZ : ClassId)  : Met l yJ6_lowestOneBit_0f7a4 wsJ6_lowestOneBit_0f7a4 ({ frames := 0, cells := 0, slots := 0, locals := 0 }) (bs_R dC dI cyI cyZ [.int 0] []) (vp_Si (fun r : Int32 => r = 0)) 0 0 (fun _ => False) := by
  refine Met.ofW (cc := cJ6_lowestOneBit_0f7a4) (maxL := 1) (ret := (some .int)) (by decide) rfl ?_
  intro p e s m args below meth c s₁ B hml hv
  obtain ⟨rfl, hB, hP⟩ := hv
  have hK := hB.1
  have hN := hB.2
  have hx := B.exec
  have hb := B.bytes
  have hr := B.returns
  have hts := atoms_spec (ws := wsJ6_lowestOneBit_0f7a4) B.pre
  have hown : s.vm.findClass RJ6 = some m.cls := findClass_of_methodNamed B.named
  have hlocks := B.notSynchronized
  have hP : va_P (dC, dI) vwCl [] s.heap := hP
  have hl := lv_entry ([.int 0]) (n := 1) (Nat.le_of_ble_eq_true rfl)
  rw [lg_entry_eq]
  generalize (lg_sl ([.int 0]) ++ List.replicate (1 - (lg_sl ([.int 0])).length) Slot.unset).toArray = ls at hl ⊢
  have hl : lv_has ls 1 [(0, .int 0)] := hl
  refine lv_iload_n hx hb dJ6_lowestOneBit_0f7a4_0 rfl (lv_at hl 0 rfl) ?_
  refine lv_iload_n hx hb dJ6_lowestOneBit_0f7a4_1 rfl (lv_at hl 0 rfl) ?_
  refine lv_ineg hx hb dJ6_lowestOneBit_0f7a4_2 ?_
  refine lv_topi (fun x_1 ex_1 => ?_)
  obtain rfl : 0 = x_1 := (ex_1.trans (by decide)).symm
  refine lv_iand hx hb dJ6_lowestOneBit_0f7a4_3 ?_
  refine lv_topi (fun x_2 ex_2 => ?_)
  obtain rfl : 0 = x_2 := (ex_2.trans (by decide)).symm
  exact W.iret (v := 0) hx hb hr (fun t ht hW => ⟨0, rfl, rfl, ht⟩) (fun q h => by cases h) dJ6_lowestOneBit_0f7a4_4

theorem hnX3_firstThatFits_X3 : ∀ w ∈ wsX30, w ∈ wsX3_firstThatFits := fun _ h => List.mem_cons_of_mem _ (List.mem_append_right _ h)
set_option maxHeartbeats 4000000 in
set_option maxRecDepth 100000 in
theorem kX3_firstThatFits (l : Launch) (dC : Nat → ClassId) (dI : Nat → Nat → Nat) (cyI cyZ : ClassId) (ru rt : Nat) (p1 p2 p3 : Int32) : Met l yX3_firstThatFits wsX3_firstThatFits ({ frames := 0, cells := 0, slots := 0, locals := 0 }) (bs_R dC dI cyI cyZ [.ref ru, .int p1, .int p2, .int p3] [(ru, .inr (2, [.ref rt, .int 0]))]) (vp_Si (fun r : Int32 => r = -6)) 0 0 (fun _ => False) := by
  refine Met.ofW (cc := cX3_firstThatFits) (maxL := 5) (ret := (some .int)) (by decide) rfl ?_
  intro p e s m args below meth c s₁ B hml hv
  obtain ⟨rfl, hB, hP⟩ := hv
  have hK := hB.1
  have hN := hB.2
  have hx := B.exec
  have hb := B.bytes
  have hr := B.returns
  have hts := atoms_spec (ws := wsX3_firstThatFits) B.pre
  have hown : s.vm.findClass RX3 = some m.cls := findClass_of_methodNamed B.named
  have hlocks := B.notSynchronized
  have hP : va_P (dC, dI) vwCl [(ru, .inr (2, [.ref rt, .int 0]))] s.heap := hP
  have hl := lv_entry ([.ref ru, .int p1, .int p2, .int p3]) (n := 5) (Nat.le_of_ble_eq_true rfl)
  rw [lg_entry_eq]
  generalize (lg_sl ([.ref ru, .int p1, .int p2, .int p3]) ++ List.replicate (5 - (lg_sl ([.ref ru, .int p1, .int p2, .int p3])).length) Slot.unset).toArray = ls at hl ⊢
  have hl : lv_has ls 5 [(0, .ref ru), (1, .int p1), (2, .int p2), (3, .int p3)] := hl
  refine lv_iconst (v := 0) hx hb dX3_firstThatFits_0 (by decide) ?_
  refine lv_istore (lv' := [(4, .int 0), (0, .ref ru), (1, .int p1), (2, .int p2), (3, .int p3)]) hx hb dX3_firstThatFits_1 hl (by decide) rfl (fun ls hl => ?_)
  refine lv_iload hx hb dX3_firstThatFits_3 (lv_at hl 0 rfl) ?_
  refine lv_aload_n hx hb dX3_firstThatFits_5 rfl (lv_at hl 1 rfl) ?_
  refine va_get (D := (dC, dI)) (ci := 2) (v := .int 0) (C := RX3) (T := TX3) (N := 2) hx hb hts hnX3_firstThatFits_X3 hown hK hP 0 rfl rfl 1 (by decide) (hts (.fieldLink RX3 15 "RingMeets$Rules" "size" "I") (by decide +kernel)) (fun _ h9 => h9) rfl dX3_firstThatFits_6 ?_
  refine lv_icmp_ge (tgt := 40) hx hb dX3_firstThatFits_9 (by decide) (fun c_1 => ?_) (fun c_1 => ?_)
  · skip
    refine lv_bipush (v := (-6)) hx hb dX3_firstThatFits_40 (by decide) ?_
    exact W.iret (v := (-6)) hx hb hr (fun t ht hW => ⟨(-6), rfl, rfl, ht⟩) (fun q h => by cases h) dX3_firstThatFits_42
  · skip
    exact absurd c_1 (by decide)

theorem hnX1_goalFrom_X1 : ∀ w ∈ wsX10, w ∈ wsX1_goalFrom := fun _ h => List.mem_cons_of_mem _ (List.mem_append_right _ h)
set_option maxHeartbeats 4000000 in
set_option maxRecDepth 100000 in
theorem kX1_goalFrom (l : Launch) (dC : Nat → ClassId) (dI : Nat → Nat → Nat) (cyI cyZ : ClassId) (lk : Nat) (i0 i1 i3 i4 p1 p2 : Int32) : Met l yX1_goalFrom wsX1_goalFrom ({ frames := 0, cells := 0, slots := 0, locals := 0 }) (bs_R dC dI cyI cyZ [.ref lk, .int p1, .int p2] [(lk, .inr (0, [.int i0, .int i1, .int 0, .int i3, .int i4]))]) (vp_Si (fun r : Int32 => r = p2)) 0 0 (fun _ => False) := by
  refine Met.ofW (cc := cX1_goalFrom) (maxL := 3) (ret := (some .int)) (by decide) rfl ?_
  intro p e s m args below meth c s₁ B hml hv
  obtain ⟨rfl, hB, hP⟩ := hv
  have hK := hB.1
  have hN := hB.2
  have hx := B.exec
  have hb := B.bytes
  have hr := B.returns
  have hts := atoms_spec (ws := wsX1_goalFrom) B.pre
  have hown : s.vm.findClass RX1 = some m.cls := findClass_of_methodNamed B.named
  have hlocks := B.notSynchronized
  have hP : va_P (dC, dI) vwCl [(lk, .inr (0, [.int i0, .int i1, .int 0, .int i3, .int i4]))] s.heap := hP
  have hl := lv_entry ([.ref lk, .int p1, .int p2]) (n := 3) (Nat.le_of_ble_eq_true rfl)
  rw [lg_entry_eq]
  generalize (lg_sl ([.ref lk, .int p1, .int p2]) ++ List.replicate (3 - (lg_sl ([.ref lk, .int p1, .int p2])).length) Slot.unset).toArray = ls at hl ⊢
  have hl : lv_has ls 3 [(0, .ref lk), (1, .int p1), (2, .int p2)] := hl
  refine lv_aload_n hx hb dX1_goalFrom_0 rfl (lv_at hl 0 rfl) ?_
  refine va_get (D := (dC, dI)) (ci := 0) (v := .int 0) (C := RX1) (T := TX1) (N := 5) hx hb hts hnX1_goalFrom_X1 hown hK hP 0 rfl rfl 2 (by decide) (hts (.fieldLink RX1 58 "RingMeets$Look" "done" "I") (by decide +kernel)) (fun _ h9 => h9) rfl dX1_goalFrom_1 ?_
  refine lv_if_ne (tgt := 9) hx hb dX1_goalFrom_4 (by decide) (fun c_1 => ?_) (fun c_1 => ?_)
  · skip
    exact absurd c_1 (by decide)
  · skip
    refine lv_iload_n hx hb dX1_goalFrom_7 rfl (lv_at hl 2 rfl) ?_
    exact W.iret (v := p2) hx hb hr (fun t ht hW => ⟨p2, rfl, rfl, ht⟩) (fun q h => by cases h) dX1_goalFrom_8

theorem hnX1_from_X1 : ∀ w ∈ wsX10, w ∈ wsX1_from := fun _ h => List.mem_cons_of_mem _ (List.mem_append_left _ (List.mem_append_right _ h))
set_option maxHeartbeats 4000000 in
set_option maxRecDepth 100000 in
theorem kX1_from (l : Launch) (dC : Nat → ClassId) (dI : Nat → Nat → Nat) (cyI cyZ : ClassId) (lk ru rt : Nat) (i0 i1 i2 i3 i4 p3 p4 p5 : Int32) (sz : Nat) : Met l yX1_from wsX1_from ({ frames := 2, cells := 0, slots := 0, locals := 49 }) (bs_W dC dI cyI cyZ [.ref lk, .ref ru, .int 8, .int p3, .int p4, .int p5] [(lk, .inr (0, [.int i0, .int i1, .int i2, .int i3, .int i4])), (ru, .inr (2, [.ref rt, .int 0]))] sz) (va_Qv (S := Int32 × Int32 × Int32) (fun _ : Int32 × Int32 × Int32 => True) (fun q t => bs_E dC dI (va_A [(lk, .inr (0, [.int i0, .int i1, .int i2, .int i3, .int i4])), (ru, .inr (2, [.ref rt, .int 0]))] sz) [(lk, .inr (0, [.int q.1, .int (-6), .int 0, .int q.2.1, .int q.2.2])), (ru, .inr (2, [.ref rt, .int 0]))] t) (va_A [(lk, .inr (0, [.int i0, .int i1, .int i2, .int i3, .int i4])), (ru, .inr (2, [.ref rt, .int 0]))] sz)) 0 0 (va_A [(lk, .inr (0, [.int i0, .int i1, .int i2, .int i3, .int i4])), (ru, .inr (2, [.ref rt, .int 0]))] sz) := by
  refine Met.ofW (cc := cX1_from) (maxL := 9) (ret := none) (by decide) rfl ?_
  intro p e s m args below meth c s₁ B hml hv
  obtain ⟨rfl, hsz, hB, hP, hD0⟩ := hv
  have hK := hB.1
  have hN := hB.2
  have hx := B.exec
  have hb := B.bytes
  have hr := B.returns
  have hts := atoms_spec (ws := wsX1_from) B.pre
  have hown : s.vm.findClass RX1 = some m.cls := findClass_of_methodNamed B.named
  have hlocks := B.notSynchronized
  subst hsz
  have hD := hD0.self (sz := s.heap.size)
  generalize hAe : va_A [(lk, .inr (0, [.int i0, .int i1, .int i2, .int i3, .int i4])), (ru, .inr (2, [.ref rt, .int 0]))] s.heap.size = A at hD ⊢
  have hA : ∀ q : Nat, s.heap.size ≤ q → A q := fun q h => by rw [← hAe]; exact Or.inr h
  have hS : va_S A s.heap s.heap [] := va_S.rf
  have hP : va_P (dC, dI) vwCl [(lk, .inr (0, [.int i0, .int i1, .int i2, .int i3, .int i4])), (ru, .inr (2, [.ref rt, .int 0]))] s.heap := hP
  have hl := lv_entry ([.ref lk, .ref ru, .int 8, .int p3, .int p4, .int p5]) (n := 9) (Nat.le_of_ble_eq_true rfl)
  rw [lg_entry_eq]
  generalize (lg_sl ([.ref lk, .ref ru, .int 8, .int p3, .int p4, .int p5]) ++ List.replicate (9 - (lg_sl ([.ref lk, .ref ru, .int 8, .int p3, .int p4, .int p5])).length) Slot.unset).toArray = ls at hl ⊢
  have hl : lv_has ls 9 [(0, .ref lk), (1, .ref ru), (2, .int 8), (3, .int p3), (4, .int p4), (5, .int p5)] := hl
  refine lv_iload_n hx hb dX1_from_0 rfl (lv_at hl 2 rfl) ?_
  refine lv_iload_n hx hb dX1_from_1 rfl (lv_at hl 3 rfl) ?_
  refine lv_iload hx hb dX1_from_2 (lv_at hl 5 rfl) ?_
  refine lv_iconst (v := 0) hx hb dX1_from_4 (by decide) ?_
  refine vp_callSi (va_Run.run (va_runS (As := [.int 8, .int p3, .int p5, .int 0]) (rest := []) ⟨hx, hb, hml, hown, hts⟩ (kX0_row l dC dI cyI cyZ p3 p5 0) (va_cwS 4 hts gX1_from_X0_row rfl rfl rfl (by decide +kernel) ⟨Nat.le_of_ble_eq_true rfl, Nat.le_of_ble_eq_true rfl⟩) (bs_RS hB (hP.sub (ws' := []) [] rfl)) rfl rfl hl.1 rfl (lv_room (Nat.le_of_ble_eq_true rfl)) dX1_from_5 ⟨Nat.le_of_ble_eq_true rfl, Nat.le_of_ble_eq_true rfl⟩)) (fun r_1 hr_1 => ?_)
  refine lv_istore (lv' := [(6, .int r_1), (0, .ref lk), (1, .ref ru), (2, .int 8), (3, .int p3), (4, .int p4), (5, .int p5)]) hx hb dX1_from_8 hl (by decide) rfl (fun ls hl => ?_)
  refine lv_iload_n hx hb dX1_from_10 rfl (lv_at hl 3 rfl) ?_
  refine lv_iload_n hx hb dX1_from_11 rfl (lv_at hl 4 rfl) ?_
  refine lv_iload hx hb dX1_from_12 (lv_at hl 6 rfl) ?_
  refine lv_iconst (v := 1) hx hb dX1_from_14 (by decide) ?_
  refine vp_callSi (va_Run.run (va_runS (As := [.int 8, .int p3, .int p5, .int 1]) (rest := []) ⟨hx, hb, hml, hown, hts⟩ (kX0_row l dC dI cyI cyZ p3 p5 1) (va_cwS 4 hts gX1_from_X0_row rfl rfl rfl (by decide +kernel) ⟨Nat.le_of_ble_eq_true rfl, Nat.le_of_ble_eq_true rfl⟩) (bs_RS hB (hP.sub (ws' := []) [] rfl)) rfl rfl hl.1 rfl (lv_room (Nat.le_of_ble_eq_true rfl)) dX1_from_15 ⟨Nat.le_of_ble_eq_true rfl, Nat.le_of_ble_eq_true rfl⟩)) (fun r_2 hr_2 => ?_)
  refine lv_istore (lv' := [(7, .int r_2), (6, .int r_1), (0, .ref lk), (1, .ref ru), (2, .int 8), (3, .int p3), (4, .int p4), (5, .int p5)]) hx hb dX1_from_18 hl (by decide) rfl (fun ls hl => ?_)
  refine lv_aload_n hx hb dX1_from_20 rfl (lv_at hl 2 rfl) ?_
  refine lv_iload hx hb dX1_from_21 (lv_at hl 1 rfl) ?_
  refine lv_iload hx hb dX1_from_23 (lv_at hl 0 rfl) ?_
  refine lv_icmp_ne (tgt := 32) hx hb dX1_from_25 (by decide) (fun c_3 => ?_) (fun c_3 => ?_)
  · skip
    have ic_3 := ci_ne (rfl : Int32.toInt r_1 = _) (rfl : Int32.toInt r_2 = _) c_3
    refine lv_iconst (v := 0) hx hb dX1_from_32 (by decide) ?_
    refine va_put (D := (dC, dI)) (ci := 0) (v := .int 0) (ty := .boolean) (C := RX1) (T := TX1) (N := 5) hx hb hts hnX1_from_X1 tyX1 tyX1_ok nmX1 hown hK hP hD hS 0 rfl rfl 4 (by decide) (hts (.fieldLink RX1 15 "RingMeets$Look" "even" "Z") (by decide +kernel)) (fun _ h9 => h9) rfl (by decide +kernel) rfl rfl (Nat.le_of_ble_eq_true rfl) dX1_from_33 (fun H locs hP hD hS => ?_)
    have hP : va_P (dC, dI) vwCl [(lk, .inr (0, [.int i0, .int i1, .int i2, .int i3, .int 0])), (ru, .inr (2, [.ref rt, .int 0]))] _ := hP
    have hD : va_D A [(lk, .inr (0, [.int i0, .int i1, .int i2, .int i3, .int 0])), (ru, .inr (2, [.ref rt, .int 0]))] := hD
    refine lv_aload_n hx hb dX1_from_36 rfl (lv_at hl 2 rfl) ?_
    refine lv_iload hx hb dX1_from_37 (lv_at hl 1 rfl) ?_
    refine lv_iload hx hb dX1_from_39 (lv_at hl 0 rfl) ?_
    refine lv_icmp_gt (tgt := 48) hx hb dX1_from_41 (by decide) (fun c_4 => ?_) (fun c_4 => ?_)
    · skip
      have ic_4 := ci_lt (rfl : Int32.toInt r_2 = _) (rfl : Int32.toInt r_1 = _) c_4
      refine lv_iconst (v := 1) hx hb dX1_from_48 (by decide) ?_
      refine va_put (D := (dC, dI)) (ci := 0) (v := .int 1) (ty := .int) (C := RX1) (T := TX1) (N := 5) hx hb hts hnX1_from_X1 tyX1 tyX1_ok nmX1 hown hK hP hD hS 0 rfl rfl 0 (by decide) (hts (.fieldLink RX1 21 "RingMeets$Look" "side" "I") (by decide +kernel)) (fun _ h9 => h9) rfl (by decide +kernel) rfl rfl (Nat.le_of_ble_eq_true rfl) dX1_from_49 (fun H locs hP hD hS => ?_)
      have hP : va_P (dC, dI) vwCl [(lk, .inr (0, [.int 1, .int i1, .int i2, .int i3, .int 0])), (ru, .inr (2, [.ref rt, .int 0]))] _ := hP
      have hD : va_D A [(lk, .inr (0, [.int 1, .int i1, .int i2, .int i3, .int 0])), (ru, .inr (2, [.ref rt, .int 0]))] := hD
      refine lv_iload hx hb dX1_from_52 (lv_at hl 6 rfl) ?_
      refine lv_iload hx hb dX1_from_54 (lv_at hl 7 rfl) ?_
      refine vp_callSi (va_Run.run (va_runS (As := [.int p4, .int p5]) (rest := []) ⟨hx, hb, hml, hown, hts⟩ (kX5_has l dC dI cyI cyZ p4 p5) (va_cwS 2 hts gX1_from_X5_has rfl rfl rfl (by decide +kernel) ⟨Nat.le_of_ble_eq_true rfl, Nat.le_of_ble_eq_true rfl⟩) (bs_RS hB (hP.sub (ws' := []) [] rfl)) rfl rfl hl.1 rfl (lv_room (Nat.le_of_ble_eq_true rfl)) dX1_from_56 ⟨Nat.le_of_ble_eq_true rfl, Nat.le_of_ble_eq_true rfl⟩)) (fun r_5 hr_5 => ?_)
      refine lv_if_eq (tgt := 66) hx hb dX1_from_59 (by decide) (fun c_6 => ?_) (fun c_6 => ?_)
      · skip
        have ic_6 := ci_eq (rfl : Int32.toInt r_5 = _) (show Int32.toInt 0 = 0 by decide) c_6
        refine lv_iconst (v := 0) hx hb dX1_from_66 (by decide) ?_
        refine lv_istore (lv' := [(8, .int 0), (7, .int r_2), (6, .int r_1), (0, .ref lk), (1, .ref ru), (2, .int 8), (3, .int p3), (4, .int p4), (5, .int p5)]) hx hb dX1_from_67 hl (by decide) rfl (fun ls hl => ?_)
        refine lv_aload_n hx hb dX1_from_69 rfl (lv_at hl 3 rfl) ?_
        refine lv_aload_n hx hb dX1_from_70 rfl (lv_at hl 4 rfl) ?_
        refine lv_iload_n hx hb dX1_from_71 rfl (lv_at hl 6 rfl) ?_
        refine vp_callSi (va_Run.run (va_runS (As := [.int p3]) (rest := [.ref ru, .ref lk]) ⟨hx, hb, hml, hown, hts⟩ (kJ6_bitCount_0f7a4 l dC dI cyI cyZ p3) (va_cwS 1 hts gX1_from_J6_bitCount_0f7a4 rfl rfl rfl (by decide +kernel) ⟨Nat.le_of_ble_eq_true rfl, Nat.le_of_ble_eq_true rfl⟩) (bs_RS hB (hP.sub (ws' := []) [] rfl)) rfl rfl hl.1 rfl (lv_room (Nat.le_of_ble_eq_true rfl)) dX1_from_72 ⟨Nat.le_of_ble_eq_true rfl, Nat.le_of_ble_eq_true rfl⟩)) (fun r_7 hr_7 => ?_)
        refine lv_iload hx hb dX1_from_75 (lv_at hl 2 rfl) ?_
        refine lv_iload hx hb dX1_from_77 (lv_at hl 1 rfl) ?_
        refine va_mmin hx hb (by rw [hml]; exact hl.1.symm) hown (hts (.methodLink RX1 37 Lib.Math.min.name) (by decide +kernel)) (hts (.static Lib.Math.min.name) (by decide +kernel)) (hts (.initialized "java/lang/Math") (by decide +kernel)) (hts (.code Lib.Math.min.name Lib.Math.min.code 2 (some .int)) (by decide +kernel)) (Nat.le_of_ble_eq_true rfl) (Nat.le_of_ble_eq_true rfl) (Nat.le_of_ble_eq_true rfl) (Nat.le_of_ble_eq_true rfl) dX1_from_79 ?_
        refine lv_topi (fun x_8 ex_8 => ?_)
        refine lv_iload hx hb dX1_from_82 (lv_at hl 0 rfl) ?_
        refine vp_callSi (va_Run.run (va_runV (As := [.int r_7, .int x_8, .int 0]) (rest := [.ref lk]) ⟨hx, hb, hml, hown, hts⟩ (kX3_firstThatFits l dC dI cyI cyZ ru rt r_7 x_8 0) (cwV 3 hts gX1_from_X3_firstThatFits rfl rfl rfl (by decide +kernel) ⟨Nat.le_of_ble_eq_true rfl, Nat.le_of_ble_eq_true rfl⟩) (bs_RV hB (hP.sub (ws' := [(ru, .inr (2, [.ref rt, .int 0]))]) [1] rfl) 0 rfl rfl) rfl rfl hl.1 rfl (lv_room (Nat.le_of_ble_eq_true rfl)) dX1_from_84 ⟨Nat.le_of_ble_eq_true rfl, Nat.le_of_ble_eq_true rfl⟩)) (fun r_9 hr_9 => ?_)
        obtain rfl : (-6) = r_9 := Eq.symm hr_9
        refine va_put (D := (dC, dI)) (ci := 0) (v := .int (-6)) (ty := .int) (C := RX1) (T := TX1) (N := 5) hx hb hts hnX1_from_X1 tyX1 tyX1_ok nmX1 hown hK hP hD hS 0 rfl rfl 1 (by decide) (hts (.fieldLink RX1 49 "RingMeets$Look" "rule" "I") (by decide +kernel)) (fun _ h9 => h9) rfl (by decide +kernel) rfl rfl (Nat.le_of_ble_eq_true rfl) dX1_from_87 (fun H locs hP hD hS => ?_)
        have hP : va_P (dC, dI) vwCl [(lk, .inr (0, [.int 1, .int (-6), .int i2, .int i3, .int 0])), (ru, .inr (2, [.ref rt, .int 0]))] _ := hP
        have hD : va_D A [(lk, .inr (0, [.int 1, .int (-6), .int i2, .int i3, .int 0])), (ru, .inr (2, [.ref rt, .int 0]))] := hD
        refine lv_aload_n hx hb dX1_from_90 rfl (lv_at hl 3 rfl) ?_
        refine lv_aload_n hx hb dX1_from_91 rfl (lv_at hl 4 rfl) ?_
        refine lv_aload_n hx hb dX1_from_92 rfl (lv_at hl 3 rfl) ?_
        refine va_get (D := (dC, dI)) (ci := 0) (v := .int (-6)) (C := RX1) (T := TX1) (N := 5) hx hb hts hnX1_from_X1 hown hK hP 0 rfl rfl 1 (by decide) (hts (.fieldLink RX1 49 "RingMeets$Look" "rule" "I") (by decide +kernel)) (fun _ h9 => h9) rfl dX1_from_93 ?_
        refine vp_callSi (va_Run.run (va_runV (As := [.int (-6)]) (rest := [.ref lk]) ⟨hx, hb, hml, hown, hts⟩ (kX3_has l dC dI cyI cyZ ru rt 0 (-6)) (cwV 1 hts gX1_from_X3_has rfl rfl rfl (by decide +kernel) ⟨Nat.le_of_ble_eq_true rfl, Nat.le_of_ble_eq_true rfl⟩) (bs_RV hB (hP.sub (ws' := [(ru, .inr (2, [.ref rt, .int 0]))]) [1] rfl) 0 rfl rfl) rfl rfl hl.1 rfl (lv_room (Nat.le_of_ble_eq_true rfl)) dX1_from_96 ⟨Nat.le_of_ble_eq_true rfl, Nat.le_of_ble_eq_true rfl⟩)) (fun r_10 hr_10 => ?_)
        obtain rfl : r_10 = 0 := hr_10.2 (by decide)
        refine lv_if_eq (tgt := 114) hx hb dX1_from_99 (by decide) (fun c_11 => ?_) (fun c_11 => ?_)
        · skip
          refine lv_iconst (v := 0) hx hb dX1_from_114 (by decide) ?_
          refine va_put (D := (dC, dI)) (ci := 0) (v := .int 0) (ty := .int) (C := RX1) (T := TX1) (N := 5) hx hb hts hnX1_from_X1 tyX1 tyX1_ok nmX1 hown hK hP hD hS 0 rfl rfl 2 (by decide) (hts (.fieldLink RX1 58 "RingMeets$Look" "done" "I") (by decide +kernel)) (fun _ h9 => h9) rfl (by decide +kernel) rfl rfl (Nat.le_of_ble_eq_true rfl) dX1_from_115 (fun H locs hP hD hS => ?_)
          have hP : va_P (dC, dI) vwCl [(lk, .inr (0, [.int 1, .int (-6), .int 0, .int i3, .int 0])), (ru, .inr (2, [.ref rt, .int 0]))] _ := hP
          have hD : va_D A [(lk, .inr (0, [.int 1, .int (-6), .int 0, .int i3, .int 0])), (ru, .inr (2, [.ref rt, .int 0]))] := hD
          refine lv_aload_n hx hb dX1_from_118 rfl (lv_at hl 3 rfl) ?_
          refine lv_aload_n hx hb dX1_from_119 rfl (lv_at hl 3 rfl) ?_
          refine lv_iload_n hx hb dX1_from_120 rfl (lv_at hl 5 rfl) ?_
          refine lv_iload hx hb dX1_from_121 (lv_at hl 8 rfl) ?_
          refine vp_callSi (va_Run.run (va_runV (As := [.int 8, .int p5]) (rest := [.ref lk]) ⟨hx, hb, hml, hown, hts⟩ (kX1_goalFrom l dC dI cyI cyZ lk 1 (-6) i3 0 8 p5) (cwV 2 hts gX1_from_X1_goalFrom rfl rfl rfl (by decide +kernel) ⟨Nat.le_of_ble_eq_true rfl, Nat.le_of_ble_eq_true rfl⟩) (bs_RV hB (hP.sub (ws' := [(lk, .inr (0, [.int 1, .int (-6), .int 0, .int i3, .int 0]))]) [0] rfl) 0 rfl rfl) rfl rfl hl.1 rfl (lv_room (Nat.le_of_ble_eq_true rfl)) dX1_from_123 ⟨Nat.le_of_ble_eq_true rfl, Nat.le_of_ble_eq_true rfl⟩)) (fun r_12 hr_12 => ?_)
          obtain rfl : p5 = r_12 := Eq.symm hr_12
          refine va_put (D := (dC, dI)) (ci := 0) (v := .int p5) (ty := .int) (C := RX1) (T := TX1) (N := 5) hx hb hts hnX1_from_X1 tyX1 tyX1_ok nmX1 hown hK hP hD hS 0 rfl rfl 3 (by decide) (hts (.fieldLink RX1 64 "RingMeets$Look" "goal" "I") (by decide +kernel)) (fun _ h9 => h9) rfl (by decide +kernel) rfl rfl (Nat.le_of_ble_eq_true rfl) dX1_from_126 (fun H locs hP hD hS => ?_)
          have hP : va_P (dC, dI) vwCl [(lk, .inr (0, [.int 1, .int (-6), .int 0, .int p5, .int 0])), (ru, .inr (2, [.ref rt, .int 0]))] _ := hP
          have hD : va_D A [(lk, .inr (0, [.int 1, .int (-6), .int 0, .int p5, .int 0])), (ru, .inr (2, [.ref rt, .int 0]))] := hD
          exact W.vret hx hb hr (fun t ht hW => ⟨⟨(1, p5, 0), rfl, trivial, ⟨by rw [ht]; exact hP.sub (ws' := [(lk, .inr (0, [.int 1, .int (-6), .int 0, .int p5, .int 0])), (ru, .inr (2, [.ref rt, .int 0]))]) [0, 1] rfl, hD.sub (ws' := [(lk, .inr (0, [.int 1, .int (-6), .int 0, .int p5, .int 0])), (ru, .inr (2, [.ref rt, .int 0]))]) [0, 1] (by decide) rfl⟩⟩, hS.F ht⟩) hS.2.2 dX1_from_129
        · skip
          exact absurd c_11 (by decide)
      · skip
        have ic_6 := ci_ne (rfl : Int32.toInt r_5 = _) (show Int32.toInt 0 = 0 by decide) c_6
        refine lv_iconst (v := 1) hx hb dX1_from_62 (by decide) ?_
        refine lv_goto (tgt := 67) hx hb dX1_from_63 (by decide) ?_
        refine lv_istore (lv' := [(8, .int 1), (7, .int r_2), (6, .int r_1), (0, .ref lk), (1, .ref ru), (2, .int 8), (3, .int p3), (4, .int p4), (5, .int p5)]) hx hb dX1_from_67 hl (by decide) rfl (fun ls hl => ?_)
        refine lv_aload_n hx hb dX1_from_69 rfl (lv_at hl 3 rfl) ?_
        refine lv_aload_n hx hb dX1_from_70 rfl (lv_at hl 4 rfl) ?_
        refine lv_iload_n hx hb dX1_from_71 rfl (lv_at hl 6 rfl) ?_
        refine vp_callSi (va_Run.run (va_runS (As := [.int p3]) (rest := [.ref ru, .ref lk]) ⟨hx, hb, hml, hown, hts⟩ (kJ6_bitCount_0f7a4 l dC dI cyI cyZ p3) (va_cwS 1 hts gX1_from_J6_bitCount_0f7a4 rfl rfl rfl (by decide +kernel) ⟨Nat.le_of_ble_eq_true rfl, Nat.le_of_ble_eq_true rfl⟩) (bs_RS hB (hP.sub (ws' := []) [] rfl)) rfl rfl hl.1 rfl (lv_room (Nat.le_of_ble_eq_true rfl)) dX1_from_72 ⟨Nat.le_of_ble_eq_true rfl, Nat.le_of_ble_eq_true rfl⟩)) (fun r_13 hr_13 => ?_)
        refine lv_iload hx hb dX1_from_75 (lv_at hl 2 rfl) ?_
        refine lv_iload hx hb dX1_from_77 (lv_at hl 1 rfl) ?_
        refine va_mmin hx hb (by rw [hml]; exact hl.1.symm) hown (hts (.methodLink RX1 37 Lib.Math.min.name) (by decide +kernel)) (hts (.static Lib.Math.min.name) (by decide +kernel)) (hts (.initialized "java/lang/Math") (by decide +kernel)) (hts (.code Lib.Math.min.name Lib.Math.min.code 2 (some .int)) (by decide +kernel)) (Nat.le_of_ble_eq_true rfl) (Nat.le_of_ble_eq_true rfl) (Nat.le_of_ble_eq_true rfl) (Nat.le_of_ble_eq_true rfl) dX1_from_79 ?_
        refine lv_topi (fun x_14 ex_14 => ?_)
        refine lv_iload hx hb dX1_from_82 (lv_at hl 0 rfl) ?_
        refine vp_callSi (va_Run.run (va_runV (As := [.int r_13, .int x_14, .int 1]) (rest := [.ref lk]) ⟨hx, hb, hml, hown, hts⟩ (kX3_firstThatFits l dC dI cyI cyZ ru rt r_13 x_14 1) (cwV 3 hts gX1_from_X3_firstThatFits rfl rfl rfl (by decide +kernel) ⟨Nat.le_of_ble_eq_true rfl, Nat.le_of_ble_eq_true rfl⟩) (bs_RV hB (hP.sub (ws' := [(ru, .inr (2, [.ref rt, .int 0]))]) [1] rfl) 0 rfl rfl) rfl rfl hl.1 rfl (lv_room (Nat.le_of_ble_eq_true rfl)) dX1_from_84 ⟨Nat.le_of_ble_eq_true rfl, Nat.le_of_ble_eq_true rfl⟩)) (fun r_15 hr_15 => ?_)
        obtain rfl : (-6) = r_15 := Eq.symm hr_15
        refine va_put (D := (dC, dI)) (ci := 0) (v := .int (-6)) (ty := .int) (C := RX1) (T := TX1) (N := 5) hx hb hts hnX1_from_X1 tyX1 tyX1_ok nmX1 hown hK hP hD hS 0 rfl rfl 1 (by decide) (hts (.fieldLink RX1 49 "RingMeets$Look" "rule" "I") (by decide +kernel)) (fun _ h9 => h9) rfl (by decide +kernel) rfl rfl (Nat.le_of_ble_eq_true rfl) dX1_from_87 (fun H locs hP hD hS => ?_)
        have hP : va_P (dC, dI) vwCl [(lk, .inr (0, [.int 1, .int (-6), .int i2, .int i3, .int 0])), (ru, .inr (2, [.ref rt, .int 0]))] _ := hP
        have hD : va_D A [(lk, .inr (0, [.int 1, .int (-6), .int i2, .int i3, .int 0])), (ru, .inr (2, [.ref rt, .int 0]))] := hD
        refine lv_aload_n hx hb dX1_from_90 rfl (lv_at hl 3 rfl) ?_
        refine lv_aload_n hx hb dX1_from_91 rfl (lv_at hl 4 rfl) ?_
        refine lv_aload_n hx hb dX1_from_92 rfl (lv_at hl 3 rfl) ?_
        refine va_get (D := (dC, dI)) (ci := 0) (v := .int (-6)) (C := RX1) (T := TX1) (N := 5) hx hb hts hnX1_from_X1 hown hK hP 0 rfl rfl 1 (by decide) (hts (.fieldLink RX1 49 "RingMeets$Look" "rule" "I") (by decide +kernel)) (fun _ h9 => h9) rfl dX1_from_93 ?_
        refine vp_callSi (va_Run.run (va_runV (As := [.int (-6)]) (rest := [.ref lk]) ⟨hx, hb, hml, hown, hts⟩ (kX3_has l dC dI cyI cyZ ru rt 0 (-6)) (cwV 1 hts gX1_from_X3_has rfl rfl rfl (by decide +kernel) ⟨Nat.le_of_ble_eq_true rfl, Nat.le_of_ble_eq_true rfl⟩) (bs_RV hB (hP.sub (ws' := [(ru, .inr (2, [.ref rt, .int 0]))]) [1] rfl) 0 rfl rfl) rfl rfl hl.1 rfl (lv_room (Nat.le_of_ble_eq_true rfl)) dX1_from_96 ⟨Nat.le_of_ble_eq_true rfl, Nat.le_of_ble_eq_true rfl⟩)) (fun r_16 hr_16 => ?_)
        obtain rfl : r_16 = 0 := hr_16.2 (by decide)
        refine lv_if_eq (tgt := 114) hx hb dX1_from_99 (by decide) (fun c_17 => ?_) (fun c_17 => ?_)
        · skip
          refine lv_iconst (v := 0) hx hb dX1_from_114 (by decide) ?_
          refine va_put (D := (dC, dI)) (ci := 0) (v := .int 0) (ty := .int) (C := RX1) (T := TX1) (N := 5) hx hb hts hnX1_from_X1 tyX1 tyX1_ok nmX1 hown hK hP hD hS 0 rfl rfl 2 (by decide) (hts (.fieldLink RX1 58 "RingMeets$Look" "done" "I") (by decide +kernel)) (fun _ h9 => h9) rfl (by decide +kernel) rfl rfl (Nat.le_of_ble_eq_true rfl) dX1_from_115 (fun H locs hP hD hS => ?_)
          have hP : va_P (dC, dI) vwCl [(lk, .inr (0, [.int 1, .int (-6), .int 0, .int i3, .int 0])), (ru, .inr (2, [.ref rt, .int 0]))] _ := hP
          have hD : va_D A [(lk, .inr (0, [.int 1, .int (-6), .int 0, .int i3, .int 0])), (ru, .inr (2, [.ref rt, .int 0]))] := hD
          refine lv_aload_n hx hb dX1_from_118 rfl (lv_at hl 3 rfl) ?_
          refine lv_aload_n hx hb dX1_from_119 rfl (lv_at hl 3 rfl) ?_
          refine lv_iload_n hx hb dX1_from_120 rfl (lv_at hl 5 rfl) ?_
          refine lv_iload hx hb dX1_from_121 (lv_at hl 8 rfl) ?_
          refine vp_callSi (va_Run.run (va_runV (As := [.int 8, .int p5]) (rest := [.ref lk]) ⟨hx, hb, hml, hown, hts⟩ (kX1_goalFrom l dC dI cyI cyZ lk 1 (-6) i3 0 8 p5) (cwV 2 hts gX1_from_X1_goalFrom rfl rfl rfl (by decide +kernel) ⟨Nat.le_of_ble_eq_true rfl, Nat.le_of_ble_eq_true rfl⟩) (bs_RV hB (hP.sub (ws' := [(lk, .inr (0, [.int 1, .int (-6), .int 0, .int i3, .int 0]))]) [0] rfl) 0 rfl rfl) rfl rfl hl.1 rfl (lv_room (Nat.le_of_ble_eq_true rfl)) dX1_from_123 ⟨Nat.le_of_ble_eq_true rfl, Nat.le_of_ble_eq_true rfl⟩)) (fun r_18 hr_18 => ?_)
          obtain rfl : p5 = r_18 := Eq.symm hr_18
          refine va_put (D := (dC, dI)) (ci := 0) (v := .int p5) (ty := .int) (C := RX1) (T := TX1) (N := 5) hx hb hts hnX1_from_X1 tyX1 tyX1_ok nmX1 hown hK hP hD hS 0 rfl rfl 3 (by decide) (hts (.fieldLink RX1 64 "RingMeets$Look" "goal" "I") (by decide +kernel)) (fun _ h9 => h9) rfl (by decide +kernel) rfl rfl (Nat.le_of_ble_eq_true rfl) dX1_from_126 (fun H locs hP hD hS => ?_)
          have hP : va_P (dC, dI) vwCl [(lk, .inr (0, [.int 1, .int (-6), .int 0, .int p5, .int 0])), (ru, .inr (2, [.ref rt, .int 0]))] _ := hP
          have hD : va_D A [(lk, .inr (0, [.int 1, .int (-6), .int 0, .int p5, .int 0])), (ru, .inr (2, [.ref rt, .int 0]))] := hD
          exact W.vret hx hb hr (fun t ht hW => ⟨⟨(1, p5, 0), rfl, trivial, ⟨by rw [ht]; exact hP.sub (ws' := [(lk, .inr (0, [.int 1, .int (-6), .int 0, .int p5, .int 0])), (ru, .inr (2, [.ref rt, .int 0]))]) [0, 1] rfl, hD.sub (ws' := [(lk, .inr (0, [.int 1, .int (-6), .int 0, .int p5, .int 0])), (ru, .inr (2, [.ref rt, .int 0]))]) [0, 1] (by decide) rfl⟩⟩, hS.F ht⟩) hS.2.2 dX1_from_129
        · skip
          exact absurd c_17 (by decide)
    · skip
      have ic_4 := ci_nlt (rfl : Int32.toInt r_2 = _) (rfl : Int32.toInt r_1 = _) c_4
      refine lv_iconst (v := 0) hx hb dX1_from_44 (by decide) ?_
      refine lv_goto (tgt := 49) hx hb dX1_from_45 (by decide) ?_
      refine va_put (D := (dC, dI)) (ci := 0) (v := .int 0) (ty := .int) (C := RX1) (T := TX1) (N := 5) hx hb hts hnX1_from_X1 tyX1 tyX1_ok nmX1 hown hK hP hD hS 0 rfl rfl 0 (by decide) (hts (.fieldLink RX1 21 "RingMeets$Look" "side" "I") (by decide +kernel)) (fun _ h9 => h9) rfl (by decide +kernel) rfl rfl (Nat.le_of_ble_eq_true rfl) dX1_from_49 (fun H locs hP hD hS => ?_)
      have hP : va_P (dC, dI) vwCl [(lk, .inr (0, [.int 0, .int i1, .int i2, .int i3, .int 0])), (ru, .inr (2, [.ref rt, .int 0]))] _ := hP
      have hD : va_D A [(lk, .inr (0, [.int 0, .int i1, .int i2, .int i3, .int 0])), (ru, .inr (2, [.ref rt, .int 0]))] := hD
      refine lv_iload hx hb dX1_from_52 (lv_at hl 6 rfl) ?_
      refine lv_iload hx hb dX1_from_54 (lv_at hl 7 rfl) ?_
      refine vp_callSi (va_Run.run (va_runS (As := [.int p4, .int p5]) (rest := []) ⟨hx, hb, hml, hown, hts⟩ (kX5_has l dC dI cyI cyZ p4 p5) (va_cwS 2 hts gX1_from_X5_has rfl rfl rfl (by decide +kernel) ⟨Nat.le_of_ble_eq_true rfl, Nat.le_of_ble_eq_true rfl⟩) (bs_RS hB (hP.sub (ws' := []) [] rfl)) rfl rfl hl.1 rfl (lv_room (Nat.le_of_ble_eq_true rfl)) dX1_from_56 ⟨Nat.le_of_ble_eq_true rfl, Nat.le_of_ble_eq_true rfl⟩)) (fun r_19 hr_19 => ?_)
      refine lv_if_eq (tgt := 66) hx hb dX1_from_59 (by decide) (fun c_20 => ?_) (fun c_20 => ?_)
      · skip
        have ic_20 := ci_eq (rfl : Int32.toInt r_19 = _) (show Int32.toInt 0 = 0 by decide) c_20
        refine lv_iconst (v := 0) hx hb dX1_from_66 (by decide) ?_
        refine lv_istore (lv' := [(8, .int 0), (7, .int r_2), (6, .int r_1), (0, .ref lk), (1, .ref ru), (2, .int 8), (3, .int p3), (4, .int p4), (5, .int p5)]) hx hb dX1_from_67 hl (by decide) rfl (fun ls hl => ?_)
        refine lv_aload_n hx hb dX1_from_69 rfl (lv_at hl 3 rfl) ?_
        refine lv_aload_n hx hb dX1_from_70 rfl (lv_at hl 4 rfl) ?_
        refine lv_iload_n hx hb dX1_from_71 rfl (lv_at hl 6 rfl) ?_
        refine vp_callSi (va_Run.run (va_runS (As := [.int p3]) (rest := [.ref ru, .ref lk]) ⟨hx, hb, hml, hown, hts⟩ (kJ6_bitCount_0f7a4 l dC dI cyI cyZ p3) (va_cwS 1 hts gX1_from_J6_bitCount_0f7a4 rfl rfl rfl (by decide +kernel) ⟨Nat.le_of_ble_eq_true rfl, Nat.le_of_ble_eq_true rfl⟩) (bs_RS hB (hP.sub (ws' := []) [] rfl)) rfl rfl hl.1 rfl (lv_room (Nat.le_of_ble_eq_true rfl)) dX1_from_72 ⟨Nat.le_of_ble_eq_true rfl, Nat.le_of_ble_eq_true rfl⟩)) (fun r_21 hr_21 => ?_)
        refine lv_iload hx hb dX1_from_75 (lv_at hl 2 rfl) ?_
        refine lv_iload hx hb dX1_from_77 (lv_at hl 1 rfl) ?_
        refine va_mmin hx hb (by rw [hml]; exact hl.1.symm) hown (hts (.methodLink RX1 37 Lib.Math.min.name) (by decide +kernel)) (hts (.static Lib.Math.min.name) (by decide +kernel)) (hts (.initialized "java/lang/Math") (by decide +kernel)) (hts (.code Lib.Math.min.name Lib.Math.min.code 2 (some .int)) (by decide +kernel)) (Nat.le_of_ble_eq_true rfl) (Nat.le_of_ble_eq_true rfl) (Nat.le_of_ble_eq_true rfl) (Nat.le_of_ble_eq_true rfl) dX1_from_79 ?_
        refine lv_topi (fun x_22 ex_22 => ?_)
        refine lv_iload hx hb dX1_from_82 (lv_at hl 0 rfl) ?_
        refine vp_callSi (va_Run.run (va_runV (As := [.int r_21, .int x_22, .int 0]) (rest := [.ref lk]) ⟨hx, hb, hml, hown, hts⟩ (kX3_firstThatFits l dC dI cyI cyZ ru rt r_21 x_22 0) (cwV 3 hts gX1_from_X3_firstThatFits rfl rfl rfl (by decide +kernel) ⟨Nat.le_of_ble_eq_true rfl, Nat.le_of_ble_eq_true rfl⟩) (bs_RV hB (hP.sub (ws' := [(ru, .inr (2, [.ref rt, .int 0]))]) [1] rfl) 0 rfl rfl) rfl rfl hl.1 rfl (lv_room (Nat.le_of_ble_eq_true rfl)) dX1_from_84 ⟨Nat.le_of_ble_eq_true rfl, Nat.le_of_ble_eq_true rfl⟩)) (fun r_23 hr_23 => ?_)
        obtain rfl : (-6) = r_23 := Eq.symm hr_23
        refine va_put (D := (dC, dI)) (ci := 0) (v := .int (-6)) (ty := .int) (C := RX1) (T := TX1) (N := 5) hx hb hts hnX1_from_X1 tyX1 tyX1_ok nmX1 hown hK hP hD hS 0 rfl rfl 1 (by decide) (hts (.fieldLink RX1 49 "RingMeets$Look" "rule" "I") (by decide +kernel)) (fun _ h9 => h9) rfl (by decide +kernel) rfl rfl (Nat.le_of_ble_eq_true rfl) dX1_from_87 (fun H locs hP hD hS => ?_)
        have hP : va_P (dC, dI) vwCl [(lk, .inr (0, [.int 0, .int (-6), .int i2, .int i3, .int 0])), (ru, .inr (2, [.ref rt, .int 0]))] _ := hP
        have hD : va_D A [(lk, .inr (0, [.int 0, .int (-6), .int i2, .int i3, .int 0])), (ru, .inr (2, [.ref rt, .int 0]))] := hD
        refine lv_aload_n hx hb dX1_from_90 rfl (lv_at hl 3 rfl) ?_
        refine lv_aload_n hx hb dX1_from_91 rfl (lv_at hl 4 rfl) ?_
        refine lv_aload_n hx hb dX1_from_92 rfl (lv_at hl 3 rfl) ?_
        refine va_get (D := (dC, dI)) (ci := 0) (v := .int (-6)) (C := RX1) (T := TX1) (N := 5) hx hb hts hnX1_from_X1 hown hK hP 0 rfl rfl 1 (by decide) (hts (.fieldLink RX1 49 "RingMeets$Look" "rule" "I") (by decide +kernel)) (fun _ h9 => h9) rfl dX1_from_93 ?_
        refine vp_callSi (va_Run.run (va_runV (As := [.int (-6)]) (rest := [.ref lk]) ⟨hx, hb, hml, hown, hts⟩ (kX3_has l dC dI cyI cyZ ru rt 0 (-6)) (cwV 1 hts gX1_from_X3_has rfl rfl rfl (by decide +kernel) ⟨Nat.le_of_ble_eq_true rfl, Nat.le_of_ble_eq_true rfl⟩) (bs_RV hB (hP.sub (ws' := [(ru, .inr (2, [.ref rt, .int 0]))]) [1] rfl) 0 rfl rfl) rfl rfl hl.1 rfl (lv_room (Nat.le_of_ble_eq_true rfl)) dX1_from_96 ⟨Nat.le_of_ble_eq_true rfl, Nat.le_of_ble_eq_true rfl⟩)) (fun r_24 hr_24 => ?_)
        obtain rfl : r_24 = 0 := hr_24.2 (by decide)
        refine lv_if_eq (tgt := 114) hx hb dX1_from_99 (by decide) (fun c_25 => ?_) (fun c_25 => ?_)
        · skip
          refine lv_iconst (v := 0) hx hb dX1_from_114 (by decide) ?_
          refine va_put (D := (dC, dI)) (ci := 0) (v := .int 0) (ty := .int) (C := RX1) (T := TX1) (N := 5) hx hb hts hnX1_from_X1 tyX1 tyX1_ok nmX1 hown hK hP hD hS 0 rfl rfl 2 (by decide) (hts (.fieldLink RX1 58 "RingMeets$Look" "done" "I") (by decide +kernel)) (fun _ h9 => h9) rfl (by decide +kernel) rfl rfl (Nat.le_of_ble_eq_true rfl) dX1_from_115 (fun H locs hP hD hS => ?_)
          have hP : va_P (dC, dI) vwCl [(lk, .inr (0, [.int 0, .int (-6), .int 0, .int i3, .int 0])), (ru, .inr (2, [.ref rt, .int 0]))] _ := hP
          have hD : va_D A [(lk, .inr (0, [.int 0, .int (-6), .int 0, .int i3, .int 0])), (ru, .inr (2, [.ref rt, .int 0]))] := hD
          refine lv_aload_n hx hb dX1_from_118 rfl (lv_at hl 3 rfl) ?_
          refine lv_aload_n hx hb dX1_from_119 rfl (lv_at hl 3 rfl) ?_
          refine lv_iload_n hx hb dX1_from_120 rfl (lv_at hl 5 rfl) ?_
          refine lv_iload hx hb dX1_from_121 (lv_at hl 8 rfl) ?_
          refine vp_callSi (va_Run.run (va_runV (As := [.int 8, .int p5]) (rest := [.ref lk]) ⟨hx, hb, hml, hown, hts⟩ (kX1_goalFrom l dC dI cyI cyZ lk 0 (-6) i3 0 8 p5) (cwV 2 hts gX1_from_X1_goalFrom rfl rfl rfl (by decide +kernel) ⟨Nat.le_of_ble_eq_true rfl, Nat.le_of_ble_eq_true rfl⟩) (bs_RV hB (hP.sub (ws' := [(lk, .inr (0, [.int 0, .int (-6), .int 0, .int i3, .int 0]))]) [0] rfl) 0 rfl rfl) rfl rfl hl.1 rfl (lv_room (Nat.le_of_ble_eq_true rfl)) dX1_from_123 ⟨Nat.le_of_ble_eq_true rfl, Nat.le_of_ble_eq_true rfl⟩)) (fun r_26 hr_26 => ?_)
          obtain rfl : p5 = r_26 := Eq.symm hr_26
          refine va_put (D := (dC, dI)) (ci := 0) (v := .int p5) (ty := .int) (C := RX1) (T := TX1) (N := 5) hx hb hts hnX1_from_X1 tyX1 tyX1_ok nmX1 hown hK hP hD hS 0 rfl rfl 3 (by decide) (hts (.fieldLink RX1 64 "RingMeets$Look" "goal" "I") (by decide +kernel)) (fun _ h9 => h9) rfl (by decide +kernel) rfl rfl (Nat.le_of_ble_eq_true rfl) dX1_from_126 (fun H locs hP hD hS => ?_)
          have hP : va_P (dC, dI) vwCl [(lk, .inr (0, [.int 0, .int (-6), .int 0, .int p5, .int 0])), (ru, .inr (2, [.ref rt, .int 0]))] _ := hP
          have hD : va_D A [(lk, .inr (0, [.int 0, .int (-6), .int 0, .int p5, .int 0])), (ru, .inr (2, [.ref rt, .int 0]))] := hD
          exact W.vret hx hb hr (fun t ht hW => ⟨⟨(0, p5, 0), rfl, trivial, ⟨by rw [ht]; exact hP.sub (ws' := [(lk, .inr (0, [.int 0, .int (-6), .int 0, .int p5, .int 0])), (ru, .inr (2, [.ref rt, .int 0]))]) [0, 1] rfl, hD.sub (ws' := [(lk, .inr (0, [.int 0, .int (-6), .int 0, .int p5, .int 0])), (ru, .inr (2, [.ref rt, .int 0]))]) [0, 1] (by decide) rfl⟩⟩, hS.F ht⟩) hS.2.2 dX1_from_129
        · skip
          exact absurd c_25 (by decide)
      · skip
        have ic_20 := ci_ne (rfl : Int32.toInt r_19 = _) (show Int32.toInt 0 = 0 by decide) c_20
        refine lv_iconst (v := 1) hx hb dX1_from_62 (by decide) ?_
        refine lv_goto (tgt := 67) hx hb dX1_from_63 (by decide) ?_
        refine lv_istore (lv' := [(8, .int 1), (7, .int r_2), (6, .int r_1), (0, .ref lk), (1, .ref ru), (2, .int 8), (3, .int p3), (4, .int p4), (5, .int p5)]) hx hb dX1_from_67 hl (by decide) rfl (fun ls hl => ?_)
        refine lv_aload_n hx hb dX1_from_69 rfl (lv_at hl 3 rfl) ?_
        refine lv_aload_n hx hb dX1_from_70 rfl (lv_at hl 4 rfl) ?_
        refine lv_iload_n hx hb dX1_from_71 rfl (lv_at hl 6 rfl) ?_
        refine vp_callSi (va_Run.run (va_runS (As := [.int p3]) (rest := [.ref ru, .ref lk]) ⟨hx, hb, hml, hown, hts⟩ (kJ6_bitCount_0f7a4 l dC dI cyI cyZ p3) (va_cwS 1 hts gX1_from_J6_bitCount_0f7a4 rfl rfl rfl (by decide +kernel) ⟨Nat.le_of_ble_eq_true rfl, Nat.le_of_ble_eq_true rfl⟩) (bs_RS hB (hP.sub (ws' := []) [] rfl)) rfl rfl hl.1 rfl (lv_room (Nat.le_of_ble_eq_true rfl)) dX1_from_72 ⟨Nat.le_of_ble_eq_true rfl, Nat.le_of_ble_eq_true rfl⟩)) (fun r_27 hr_27 => ?_)
        refine lv_iload hx hb dX1_from_75 (lv_at hl 2 rfl) ?_
        refine lv_iload hx hb dX1_from_77 (lv_at hl 1 rfl) ?_
        refine va_mmin hx hb (by rw [hml]; exact hl.1.symm) hown (hts (.methodLink RX1 37 Lib.Math.min.name) (by decide +kernel)) (hts (.static Lib.Math.min.name) (by decide +kernel)) (hts (.initialized "java/lang/Math") (by decide +kernel)) (hts (.code Lib.Math.min.name Lib.Math.min.code 2 (some .int)) (by decide +kernel)) (Nat.le_of_ble_eq_true rfl) (Nat.le_of_ble_eq_true rfl) (Nat.le_of_ble_eq_true rfl) (Nat.le_of_ble_eq_true rfl) dX1_from_79 ?_
        refine lv_topi (fun x_28 ex_28 => ?_)
        refine lv_iload hx hb dX1_from_82 (lv_at hl 0 rfl) ?_
        refine vp_callSi (va_Run.run (va_runV (As := [.int r_27, .int x_28, .int 1]) (rest := [.ref lk]) ⟨hx, hb, hml, hown, hts⟩ (kX3_firstThatFits l dC dI cyI cyZ ru rt r_27 x_28 1) (cwV 3 hts gX1_from_X3_firstThatFits rfl rfl rfl (by decide +kernel) ⟨Nat.le_of_ble_eq_true rfl, Nat.le_of_ble_eq_true rfl⟩) (bs_RV hB (hP.sub (ws' := [(ru, .inr (2, [.ref rt, .int 0]))]) [1] rfl) 0 rfl rfl) rfl rfl hl.1 rfl (lv_room (Nat.le_of_ble_eq_true rfl)) dX1_from_84 ⟨Nat.le_of_ble_eq_true rfl, Nat.le_of_ble_eq_true rfl⟩)) (fun r_29 hr_29 => ?_)
        obtain rfl : (-6) = r_29 := Eq.symm hr_29
        refine va_put (D := (dC, dI)) (ci := 0) (v := .int (-6)) (ty := .int) (C := RX1) (T := TX1) (N := 5) hx hb hts hnX1_from_X1 tyX1 tyX1_ok nmX1 hown hK hP hD hS 0 rfl rfl 1 (by decide) (hts (.fieldLink RX1 49 "RingMeets$Look" "rule" "I") (by decide +kernel)) (fun _ h9 => h9) rfl (by decide +kernel) rfl rfl (Nat.le_of_ble_eq_true rfl) dX1_from_87 (fun H locs hP hD hS => ?_)
        have hP : va_P (dC, dI) vwCl [(lk, .inr (0, [.int 0, .int (-6), .int i2, .int i3, .int 0])), (ru, .inr (2, [.ref rt, .int 0]))] _ := hP
        have hD : va_D A [(lk, .inr (0, [.int 0, .int (-6), .int i2, .int i3, .int 0])), (ru, .inr (2, [.ref rt, .int 0]))] := hD
        refine lv_aload_n hx hb dX1_from_90 rfl (lv_at hl 3 rfl) ?_
        refine lv_aload_n hx hb dX1_from_91 rfl (lv_at hl 4 rfl) ?_
        refine lv_aload_n hx hb dX1_from_92 rfl (lv_at hl 3 rfl) ?_
        refine va_get (D := (dC, dI)) (ci := 0) (v := .int (-6)) (C := RX1) (T := TX1) (N := 5) hx hb hts hnX1_from_X1 hown hK hP 0 rfl rfl 1 (by decide) (hts (.fieldLink RX1 49 "RingMeets$Look" "rule" "I") (by decide +kernel)) (fun _ h9 => h9) rfl dX1_from_93 ?_
        refine vp_callSi (va_Run.run (va_runV (As := [.int (-6)]) (rest := [.ref lk]) ⟨hx, hb, hml, hown, hts⟩ (kX3_has l dC dI cyI cyZ ru rt 0 (-6)) (cwV 1 hts gX1_from_X3_has rfl rfl rfl (by decide +kernel) ⟨Nat.le_of_ble_eq_true rfl, Nat.le_of_ble_eq_true rfl⟩) (bs_RV hB (hP.sub (ws' := [(ru, .inr (2, [.ref rt, .int 0]))]) [1] rfl) 0 rfl rfl) rfl rfl hl.1 rfl (lv_room (Nat.le_of_ble_eq_true rfl)) dX1_from_96 ⟨Nat.le_of_ble_eq_true rfl, Nat.le_of_ble_eq_true rfl⟩)) (fun r_30 hr_30 => ?_)
        obtain rfl : r_30 = 0 := hr_30.2 (by decide)
        refine lv_if_eq (tgt := 114) hx hb dX1_from_99 (by decide) (fun c_31 => ?_) (fun c_31 => ?_)
        · skip
          refine lv_iconst (v := 0) hx hb dX1_from_114 (by decide) ?_
          refine va_put (D := (dC, dI)) (ci := 0) (v := .int 0) (ty := .int) (C := RX1) (T := TX1) (N := 5) hx hb hts hnX1_from_X1 tyX1 tyX1_ok nmX1 hown hK hP hD hS 0 rfl rfl 2 (by decide) (hts (.fieldLink RX1 58 "RingMeets$Look" "done" "I") (by decide +kernel)) (fun _ h9 => h9) rfl (by decide +kernel) rfl rfl (Nat.le_of_ble_eq_true rfl) dX1_from_115 (fun H locs hP hD hS => ?_)
          have hP : va_P (dC, dI) vwCl [(lk, .inr (0, [.int 0, .int (-6), .int 0, .int i3, .int 0])), (ru, .inr (2, [.ref rt, .int 0]))] _ := hP
          have hD : va_D A [(lk, .inr (0, [.int 0, .int (-6), .int 0, .int i3, .int 0])), (ru, .inr (2, [.ref rt, .int 0]))] := hD
          refine lv_aload_n hx hb dX1_from_118 rfl (lv_at hl 3 rfl) ?_
          refine lv_aload_n hx hb dX1_from_119 rfl (lv_at hl 3 rfl) ?_
          refine lv_iload_n hx hb dX1_from_120 rfl (lv_at hl 5 rfl) ?_
          refine lv_iload hx hb dX1_from_121 (lv_at hl 8 rfl) ?_
          refine vp_callSi (va_Run.run (va_runV (As := [.int 8, .int p5]) (rest := [.ref lk]) ⟨hx, hb, hml, hown, hts⟩ (kX1_goalFrom l dC dI cyI cyZ lk 0 (-6) i3 0 8 p5) (cwV 2 hts gX1_from_X1_goalFrom rfl rfl rfl (by decide +kernel) ⟨Nat.le_of_ble_eq_true rfl, Nat.le_of_ble_eq_true rfl⟩) (bs_RV hB (hP.sub (ws' := [(lk, .inr (0, [.int 0, .int (-6), .int 0, .int i3, .int 0]))]) [0] rfl) 0 rfl rfl) rfl rfl hl.1 rfl (lv_room (Nat.le_of_ble_eq_true rfl)) dX1_from_123 ⟨Nat.le_of_ble_eq_true rfl, Nat.le_of_ble_eq_true rfl⟩)) (fun r_32 hr_32 => ?_)
          obtain rfl : p5 = r_32 := Eq.symm hr_32
          refine va_put (D := (dC, dI)) (ci := 0) (v := .int p5) (ty := .int) (C := RX1) (T := TX1) (N := 5) hx hb hts hnX1_from_X1 tyX1 tyX1_ok nmX1 hown hK hP hD hS 0 rfl rfl 3 (by decide) (hts (.fieldLink RX1 64 "RingMeets$Look" "goal" "I") (by decide +kernel)) (fun _ h9 => h9) rfl (by decide +kernel) rfl rfl (Nat.le_of_ble_eq_true rfl) dX1_from_126 (fun H locs hP hD hS => ?_)
          have hP : va_P (dC, dI) vwCl [(lk, .inr (0, [.int 0, .int (-6), .int 0, .int p5, .int 0])), (ru, .inr (2, [.ref rt, .int 0]))] _ := hP
          have hD : va_D A [(lk, .inr (0, [.int 0, .int (-6), .int 0, .int p5, .int 0])), (ru, .inr (2, [.ref rt, .int 0]))] := hD
          exact W.vret hx hb hr (fun t ht hW => ⟨⟨(0, p5, 0), rfl, trivial, ⟨by rw [ht]; exact hP.sub (ws' := [(lk, .inr (0, [.int 0, .int (-6), .int 0, .int p5, .int 0])), (ru, .inr (2, [.ref rt, .int 0]))]) [0, 1] rfl, hD.sub (ws' := [(lk, .inr (0, [.int 0, .int (-6), .int 0, .int p5, .int 0])), (ru, .inr (2, [.ref rt, .int 0]))]) [0, 1] (by decide) rfl⟩⟩, hS.F ht⟩) hS.2.2 dX1_from_129
        · skip
          exact absurd c_31 (by decide)
  · skip
    have ic_3 := ci_eq (rfl : Int32.toInt r_1 = _) (rfl : Int32.toInt r_2 = _) c_3
    refine lv_iconst (v := 1) hx hb dX1_from_28 (by decide) ?_
    refine lv_goto (tgt := 33) hx hb dX1_from_29 (by decide) ?_
    refine va_put (D := (dC, dI)) (ci := 0) (v := .int 1) (ty := .boolean) (C := RX1) (T := TX1) (N := 5) hx hb hts hnX1_from_X1 tyX1 tyX1_ok nmX1 hown hK hP hD hS 0 rfl rfl 4 (by decide) (hts (.fieldLink RX1 15 "RingMeets$Look" "even" "Z") (by decide +kernel)) (fun _ h9 => h9) rfl (by decide +kernel) rfl rfl (Nat.le_of_ble_eq_true rfl) dX1_from_33 (fun H locs hP hD hS => ?_)
    have hP : va_P (dC, dI) vwCl [(lk, .inr (0, [.int i0, .int i1, .int i2, .int i3, .int 1])), (ru, .inr (2, [.ref rt, .int 0]))] _ := hP
    have hD : va_D A [(lk, .inr (0, [.int i0, .int i1, .int i2, .int i3, .int 1])), (ru, .inr (2, [.ref rt, .int 0]))] := hD
    refine lv_aload_n hx hb dX1_from_36 rfl (lv_at hl 2 rfl) ?_
    refine lv_iload hx hb dX1_from_37 (lv_at hl 1 rfl) ?_
    refine lv_iload hx hb dX1_from_39 (lv_at hl 0 rfl) ?_
    refine lv_icmp_gt (tgt := 48) hx hb dX1_from_41 (by decide) (fun c_33 => ?_) (fun c_33 => ?_)
    · skip
      have ic_33 := ci_lt (rfl : Int32.toInt r_2 = _) (rfl : Int32.toInt r_1 = _) c_33
      refine lv_iconst (v := 1) hx hb dX1_from_48 (by decide) ?_
      refine va_put (D := (dC, dI)) (ci := 0) (v := .int 1) (ty := .int) (C := RX1) (T := TX1) (N := 5) hx hb hts hnX1_from_X1 tyX1 tyX1_ok nmX1 hown hK hP hD hS 0 rfl rfl 0 (by decide) (hts (.fieldLink RX1 21 "RingMeets$Look" "side" "I") (by decide +kernel)) (fun _ h9 => h9) rfl (by decide +kernel) rfl rfl (Nat.le_of_ble_eq_true rfl) dX1_from_49 (fun H locs hP hD hS => ?_)
      have hP : va_P (dC, dI) vwCl [(lk, .inr (0, [.int 1, .int i1, .int i2, .int i3, .int 1])), (ru, .inr (2, [.ref rt, .int 0]))] _ := hP
      have hD : va_D A [(lk, .inr (0, [.int 1, .int i1, .int i2, .int i3, .int 1])), (ru, .inr (2, [.ref rt, .int 0]))] := hD
      refine lv_iload hx hb dX1_from_52 (lv_at hl 6 rfl) ?_
      refine lv_iload hx hb dX1_from_54 (lv_at hl 7 rfl) ?_
      refine vp_callSi (va_Run.run (va_runS (As := [.int p4, .int p5]) (rest := []) ⟨hx, hb, hml, hown, hts⟩ (kX5_has l dC dI cyI cyZ p4 p5) (va_cwS 2 hts gX1_from_X5_has rfl rfl rfl (by decide +kernel) ⟨Nat.le_of_ble_eq_true rfl, Nat.le_of_ble_eq_true rfl⟩) (bs_RS hB (hP.sub (ws' := []) [] rfl)) rfl rfl hl.1 rfl (lv_room (Nat.le_of_ble_eq_true rfl)) dX1_from_56 ⟨Nat.le_of_ble_eq_true rfl, Nat.le_of_ble_eq_true rfl⟩)) (fun r_34 hr_34 => ?_)
      refine lv_if_eq (tgt := 66) hx hb dX1_from_59 (by decide) (fun c_35 => ?_) (fun c_35 => ?_)
      · skip
        have ic_35 := ci_eq (rfl : Int32.toInt r_34 = _) (show Int32.toInt 0 = 0 by decide) c_35
        refine lv_iconst (v := 0) hx hb dX1_from_66 (by decide) ?_
        refine lv_istore (lv' := [(8, .int 0), (7, .int r_2), (6, .int r_1), (0, .ref lk), (1, .ref ru), (2, .int 8), (3, .int p3), (4, .int p4), (5, .int p5)]) hx hb dX1_from_67 hl (by decide) rfl (fun ls hl => ?_)
        refine lv_aload_n hx hb dX1_from_69 rfl (lv_at hl 3 rfl) ?_
        refine lv_aload_n hx hb dX1_from_70 rfl (lv_at hl 4 rfl) ?_
        refine lv_iload_n hx hb dX1_from_71 rfl (lv_at hl 6 rfl) ?_
        refine vp_callSi (va_Run.run (va_runS (As := [.int p3]) (rest := [.ref ru, .ref lk]) ⟨hx, hb, hml, hown, hts⟩ (kJ6_bitCount_0f7a4 l dC dI cyI cyZ p3) (va_cwS 1 hts gX1_from_J6_bitCount_0f7a4 rfl rfl rfl (by decide +kernel) ⟨Nat.le_of_ble_eq_true rfl, Nat.le_of_ble_eq_true rfl⟩) (bs_RS hB (hP.sub (ws' := []) [] rfl)) rfl rfl hl.1 rfl (lv_room (Nat.le_of_ble_eq_true rfl)) dX1_from_72 ⟨Nat.le_of_ble_eq_true rfl, Nat.le_of_ble_eq_true rfl⟩)) (fun r_36 hr_36 => ?_)
        refine lv_iload hx hb dX1_from_75 (lv_at hl 2 rfl) ?_
        refine lv_iload hx hb dX1_from_77 (lv_at hl 1 rfl) ?_
        refine va_mmin hx hb (by rw [hml]; exact hl.1.symm) hown (hts (.methodLink RX1 37 Lib.Math.min.name) (by decide +kernel)) (hts (.static Lib.Math.min.name) (by decide +kernel)) (hts (.initialized "java/lang/Math") (by decide +kernel)) (hts (.code Lib.Math.min.name Lib.Math.min.code 2 (some .int)) (by decide +kernel)) (Nat.le_of_ble_eq_true rfl) (Nat.le_of_ble_eq_true rfl) (Nat.le_of_ble_eq_true rfl) (Nat.le_of_ble_eq_true rfl) dX1_from_79 ?_
        refine lv_topi (fun x_37 ex_37 => ?_)
        refine lv_iload hx hb dX1_from_82 (lv_at hl 0 rfl) ?_
        refine vp_callSi (va_Run.run (va_runV (As := [.int r_36, .int x_37, .int 0]) (rest := [.ref lk]) ⟨hx, hb, hml, hown, hts⟩ (kX3_firstThatFits l dC dI cyI cyZ ru rt r_36 x_37 0) (cwV 3 hts gX1_from_X3_firstThatFits rfl rfl rfl (by decide +kernel) ⟨Nat.le_of_ble_eq_true rfl, Nat.le_of_ble_eq_true rfl⟩) (bs_RV hB (hP.sub (ws' := [(ru, .inr (2, [.ref rt, .int 0]))]) [1] rfl) 0 rfl rfl) rfl rfl hl.1 rfl (lv_room (Nat.le_of_ble_eq_true rfl)) dX1_from_84 ⟨Nat.le_of_ble_eq_true rfl, Nat.le_of_ble_eq_true rfl⟩)) (fun r_38 hr_38 => ?_)
        obtain rfl : (-6) = r_38 := Eq.symm hr_38
        refine va_put (D := (dC, dI)) (ci := 0) (v := .int (-6)) (ty := .int) (C := RX1) (T := TX1) (N := 5) hx hb hts hnX1_from_X1 tyX1 tyX1_ok nmX1 hown hK hP hD hS 0 rfl rfl 1 (by decide) (hts (.fieldLink RX1 49 "RingMeets$Look" "rule" "I") (by decide +kernel)) (fun _ h9 => h9) rfl (by decide +kernel) rfl rfl (Nat.le_of_ble_eq_true rfl) dX1_from_87 (fun H locs hP hD hS => ?_)
        have hP : va_P (dC, dI) vwCl [(lk, .inr (0, [.int 1, .int (-6), .int i2, .int i3, .int 1])), (ru, .inr (2, [.ref rt, .int 0]))] _ := hP
        have hD : va_D A [(lk, .inr (0, [.int 1, .int (-6), .int i2, .int i3, .int 1])), (ru, .inr (2, [.ref rt, .int 0]))] := hD
        refine lv_aload_n hx hb dX1_from_90 rfl (lv_at hl 3 rfl) ?_
        refine lv_aload_n hx hb dX1_from_91 rfl (lv_at hl 4 rfl) ?_
        refine lv_aload_n hx hb dX1_from_92 rfl (lv_at hl 3 rfl) ?_
        refine va_get (D := (dC, dI)) (ci := 0) (v := .int (-6)) (C := RX1) (T := TX1) (N := 5) hx hb hts hnX1_from_X1 hown hK hP 0 rfl rfl 1 (by decide) (hts (.fieldLink RX1 49 "RingMeets$Look" "rule" "I") (by decide +kernel)) (fun _ h9 => h9) rfl dX1_from_93 ?_
        refine vp_callSi (va_Run.run (va_runV (As := [.int (-6)]) (rest := [.ref lk]) ⟨hx, hb, hml, hown, hts⟩ (kX3_has l dC dI cyI cyZ ru rt 0 (-6)) (cwV 1 hts gX1_from_X3_has rfl rfl rfl (by decide +kernel) ⟨Nat.le_of_ble_eq_true rfl, Nat.le_of_ble_eq_true rfl⟩) (bs_RV hB (hP.sub (ws' := [(ru, .inr (2, [.ref rt, .int 0]))]) [1] rfl) 0 rfl rfl) rfl rfl hl.1 rfl (lv_room (Nat.le_of_ble_eq_true rfl)) dX1_from_96 ⟨Nat.le_of_ble_eq_true rfl, Nat.le_of_ble_eq_true rfl⟩)) (fun r_39 hr_39 => ?_)
        obtain rfl : r_39 = 0 := hr_39.2 (by decide)
        refine lv_if_eq (tgt := 114) hx hb dX1_from_99 (by decide) (fun c_40 => ?_) (fun c_40 => ?_)
        · skip
          refine lv_iconst (v := 0) hx hb dX1_from_114 (by decide) ?_
          refine va_put (D := (dC, dI)) (ci := 0) (v := .int 0) (ty := .int) (C := RX1) (T := TX1) (N := 5) hx hb hts hnX1_from_X1 tyX1 tyX1_ok nmX1 hown hK hP hD hS 0 rfl rfl 2 (by decide) (hts (.fieldLink RX1 58 "RingMeets$Look" "done" "I") (by decide +kernel)) (fun _ h9 => h9) rfl (by decide +kernel) rfl rfl (Nat.le_of_ble_eq_true rfl) dX1_from_115 (fun H locs hP hD hS => ?_)
          have hP : va_P (dC, dI) vwCl [(lk, .inr (0, [.int 1, .int (-6), .int 0, .int i3, .int 1])), (ru, .inr (2, [.ref rt, .int 0]))] _ := hP
          have hD : va_D A [(lk, .inr (0, [.int 1, .int (-6), .int 0, .int i3, .int 1])), (ru, .inr (2, [.ref rt, .int 0]))] := hD
          refine lv_aload_n hx hb dX1_from_118 rfl (lv_at hl 3 rfl) ?_
          refine lv_aload_n hx hb dX1_from_119 rfl (lv_at hl 3 rfl) ?_
          refine lv_iload_n hx hb dX1_from_120 rfl (lv_at hl 5 rfl) ?_
          refine lv_iload hx hb dX1_from_121 (lv_at hl 8 rfl) ?_
          refine vp_callSi (va_Run.run (va_runV (As := [.int 8, .int p5]) (rest := [.ref lk]) ⟨hx, hb, hml, hown, hts⟩ (kX1_goalFrom l dC dI cyI cyZ lk 1 (-6) i3 1 8 p5) (cwV 2 hts gX1_from_X1_goalFrom rfl rfl rfl (by decide +kernel) ⟨Nat.le_of_ble_eq_true rfl, Nat.le_of_ble_eq_true rfl⟩) (bs_RV hB (hP.sub (ws' := [(lk, .inr (0, [.int 1, .int (-6), .int 0, .int i3, .int 1]))]) [0] rfl) 0 rfl rfl) rfl rfl hl.1 rfl (lv_room (Nat.le_of_ble_eq_true rfl)) dX1_from_123 ⟨Nat.le_of_ble_eq_true rfl, Nat.le_of_ble_eq_true rfl⟩)) (fun r_41 hr_41 => ?_)
          obtain rfl : p5 = r_41 := Eq.symm hr_41
          refine va_put (D := (dC, dI)) (ci := 0) (v := .int p5) (ty := .int) (C := RX1) (T := TX1) (N := 5) hx hb hts hnX1_from_X1 tyX1 tyX1_ok nmX1 hown hK hP hD hS 0 rfl rfl 3 (by decide) (hts (.fieldLink RX1 64 "RingMeets$Look" "goal" "I") (by decide +kernel)) (fun _ h9 => h9) rfl (by decide +kernel) rfl rfl (Nat.le_of_ble_eq_true rfl) dX1_from_126 (fun H locs hP hD hS => ?_)
          have hP : va_P (dC, dI) vwCl [(lk, .inr (0, [.int 1, .int (-6), .int 0, .int p5, .int 1])), (ru, .inr (2, [.ref rt, .int 0]))] _ := hP
          have hD : va_D A [(lk, .inr (0, [.int 1, .int (-6), .int 0, .int p5, .int 1])), (ru, .inr (2, [.ref rt, .int 0]))] := hD
          exact W.vret hx hb hr (fun t ht hW => ⟨⟨(1, p5, 1), rfl, trivial, ⟨by rw [ht]; exact hP.sub (ws' := [(lk, .inr (0, [.int 1, .int (-6), .int 0, .int p5, .int 1])), (ru, .inr (2, [.ref rt, .int 0]))]) [0, 1] rfl, hD.sub (ws' := [(lk, .inr (0, [.int 1, .int (-6), .int 0, .int p5, .int 1])), (ru, .inr (2, [.ref rt, .int 0]))]) [0, 1] (by decide) rfl⟩⟩, hS.F ht⟩) hS.2.2 dX1_from_129
        · skip
          exact absurd c_40 (by decide)
      · skip
        have ic_35 := ci_ne (rfl : Int32.toInt r_34 = _) (show Int32.toInt 0 = 0 by decide) c_35
        refine lv_iconst (v := 1) hx hb dX1_from_62 (by decide) ?_
        refine lv_goto (tgt := 67) hx hb dX1_from_63 (by decide) ?_
        refine lv_istore (lv' := [(8, .int 1), (7, .int r_2), (6, .int r_1), (0, .ref lk), (1, .ref ru), (2, .int 8), (3, .int p3), (4, .int p4), (5, .int p5)]) hx hb dX1_from_67 hl (by decide) rfl (fun ls hl => ?_)
        refine lv_aload_n hx hb dX1_from_69 rfl (lv_at hl 3 rfl) ?_
        refine lv_aload_n hx hb dX1_from_70 rfl (lv_at hl 4 rfl) ?_
        refine lv_iload_n hx hb dX1_from_71 rfl (lv_at hl 6 rfl) ?_
        refine vp_callSi (va_Run.run (va_runS (As := [.int p3]) (rest := [.ref ru, .ref lk]) ⟨hx, hb, hml, hown, hts⟩ (kJ6_bitCount_0f7a4 l dC dI cyI cyZ p3) (va_cwS 1 hts gX1_from_J6_bitCount_0f7a4 rfl rfl rfl (by decide +kernel) ⟨Nat.le_of_ble_eq_true rfl, Nat.le_of_ble_eq_true rfl⟩) (bs_RS hB (hP.sub (ws' := []) [] rfl)) rfl rfl hl.1 rfl (lv_room (Nat.le_of_ble_eq_true rfl)) dX1_from_72 ⟨Nat.le_of_ble_eq_true rfl, Nat.le_of_ble_eq_true rfl⟩)) (fun r_42 hr_42 => ?_)
        refine lv_iload hx hb dX1_from_75 (lv_at hl 2 rfl) ?_
        refine lv_iload hx hb dX1_from_77 (lv_at hl 1 rfl) ?_
        refine va_mmin hx hb (by rw [hml]; exact hl.1.symm) hown (hts (.methodLink RX1 37 Lib.Math.min.name) (by decide +kernel)) (hts (.static Lib.Math.min.name) (by decide +kernel)) (hts (.initialized "java/lang/Math") (by decide +kernel)) (hts (.code Lib.Math.min.name Lib.Math.min.code 2 (some .int)) (by decide +kernel)) (Nat.le_of_ble_eq_true rfl) (Nat.le_of_ble_eq_true rfl) (Nat.le_of_ble_eq_true rfl) (Nat.le_of_ble_eq_true rfl) dX1_from_79 ?_
        refine lv_topi (fun x_43 ex_43 => ?_)
        refine lv_iload hx hb dX1_from_82 (lv_at hl 0 rfl) ?_
        refine vp_callSi (va_Run.run (va_runV (As := [.int r_42, .int x_43, .int 1]) (rest := [.ref lk]) ⟨hx, hb, hml, hown, hts⟩ (kX3_firstThatFits l dC dI cyI cyZ ru rt r_42 x_43 1) (cwV 3 hts gX1_from_X3_firstThatFits rfl rfl rfl (by decide +kernel) ⟨Nat.le_of_ble_eq_true rfl, Nat.le_of_ble_eq_true rfl⟩) (bs_RV hB (hP.sub (ws' := [(ru, .inr (2, [.ref rt, .int 0]))]) [1] rfl) 0 rfl rfl) rfl rfl hl.1 rfl (lv_room (Nat.le_of_ble_eq_true rfl)) dX1_from_84 ⟨Nat.le_of_ble_eq_true rfl, Nat.le_of_ble_eq_true rfl⟩)) (fun r_44 hr_44 => ?_)
        obtain rfl : (-6) = r_44 := Eq.symm hr_44
        refine va_put (D := (dC, dI)) (ci := 0) (v := .int (-6)) (ty := .int) (C := RX1) (T := TX1) (N := 5) hx hb hts hnX1_from_X1 tyX1 tyX1_ok nmX1 hown hK hP hD hS 0 rfl rfl 1 (by decide) (hts (.fieldLink RX1 49 "RingMeets$Look" "rule" "I") (by decide +kernel)) (fun _ h9 => h9) rfl (by decide +kernel) rfl rfl (Nat.le_of_ble_eq_true rfl) dX1_from_87 (fun H locs hP hD hS => ?_)
        have hP : va_P (dC, dI) vwCl [(lk, .inr (0, [.int 1, .int (-6), .int i2, .int i3, .int 1])), (ru, .inr (2, [.ref rt, .int 0]))] _ := hP
        have hD : va_D A [(lk, .inr (0, [.int 1, .int (-6), .int i2, .int i3, .int 1])), (ru, .inr (2, [.ref rt, .int 0]))] := hD
        refine lv_aload_n hx hb dX1_from_90 rfl (lv_at hl 3 rfl) ?_
        refine lv_aload_n hx hb dX1_from_91 rfl (lv_at hl 4 rfl) ?_
        refine lv_aload_n hx hb dX1_from_92 rfl (lv_at hl 3 rfl) ?_
        refine va_get (D := (dC, dI)) (ci := 0) (v := .int (-6)) (C := RX1) (T := TX1) (N := 5) hx hb hts hnX1_from_X1 hown hK hP 0 rfl rfl 1 (by decide) (hts (.fieldLink RX1 49 "RingMeets$Look" "rule" "I") (by decide +kernel)) (fun _ h9 => h9) rfl dX1_from_93 ?_
        refine vp_callSi (va_Run.run (va_runV (As := [.int (-6)]) (rest := [.ref lk]) ⟨hx, hb, hml, hown, hts⟩ (kX3_has l dC dI cyI cyZ ru rt 0 (-6)) (cwV 1 hts gX1_from_X3_has rfl rfl rfl (by decide +kernel) ⟨Nat.le_of_ble_eq_true rfl, Nat.le_of_ble_eq_true rfl⟩) (bs_RV hB (hP.sub (ws' := [(ru, .inr (2, [.ref rt, .int 0]))]) [1] rfl) 0 rfl rfl) rfl rfl hl.1 rfl (lv_room (Nat.le_of_ble_eq_true rfl)) dX1_from_96 ⟨Nat.le_of_ble_eq_true rfl, Nat.le_of_ble_eq_true rfl⟩)) (fun r_45 hr_45 => ?_)
        obtain rfl : r_45 = 0 := hr_45.2 (by decide)
        refine lv_if_eq (tgt := 114) hx hb dX1_from_99 (by decide) (fun c_46 => ?_) (fun c_46 => ?_)
        · skip
          refine lv_iconst (v := 0) hx hb dX1_from_114 (by decide) ?_
          refine va_put (D := (dC, dI)) (ci := 0) (v := .int 0) (ty := .int) (C := RX1) (T := TX1) (N := 5) hx hb hts hnX1_from_X1 tyX1 tyX1_ok nmX1 hown hK hP hD hS 0 rfl rfl 2 (by decide) (hts (.fieldLink RX1 58 "RingMeets$Look" "done" "I") (by decide +kernel)) (fun _ h9 => h9) rfl (by decide +kernel) rfl rfl (Nat.le_of_ble_eq_true rfl) dX1_from_115 (fun H locs hP hD hS => ?_)
          have hP : va_P (dC, dI) vwCl [(lk, .inr (0, [.int 1, .int (-6), .int 0, .int i3, .int 1])), (ru, .inr (2, [.ref rt, .int 0]))] _ := hP
          have hD : va_D A [(lk, .inr (0, [.int 1, .int (-6), .int 0, .int i3, .int 1])), (ru, .inr (2, [.ref rt, .int 0]))] := hD
          refine lv_aload_n hx hb dX1_from_118 rfl (lv_at hl 3 rfl) ?_
          refine lv_aload_n hx hb dX1_from_119 rfl (lv_at hl 3 rfl) ?_
          refine lv_iload_n hx hb dX1_from_120 rfl (lv_at hl 5 rfl) ?_
          refine lv_iload hx hb dX1_from_121 (lv_at hl 8 rfl) ?_
          refine vp_callSi (va_Run.run (va_runV (As := [.int 8, .int p5]) (rest := [.ref lk]) ⟨hx, hb, hml, hown, hts⟩ (kX1_goalFrom l dC dI cyI cyZ lk 1 (-6) i3 1 8 p5) (cwV 2 hts gX1_from_X1_goalFrom rfl rfl rfl (by decide +kernel) ⟨Nat.le_of_ble_eq_true rfl, Nat.le_of_ble_eq_true rfl⟩) (bs_RV hB (hP.sub (ws' := [(lk, .inr (0, [.int 1, .int (-6), .int 0, .int i3, .int 1]))]) [0] rfl) 0 rfl rfl) rfl rfl hl.1 rfl (lv_room (Nat.le_of_ble_eq_true rfl)) dX1_from_123 ⟨Nat.le_of_ble_eq_true rfl, Nat.le_of_ble_eq_true rfl⟩)) (fun r_47 hr_47 => ?_)
          obtain rfl : p5 = r_47 := Eq.symm hr_47
          refine va_put (D := (dC, dI)) (ci := 0) (v := .int p5) (ty := .int) (C := RX1) (T := TX1) (N := 5) hx hb hts hnX1_from_X1 tyX1 tyX1_ok nmX1 hown hK hP hD hS 0 rfl rfl 3 (by decide) (hts (.fieldLink RX1 64 "RingMeets$Look" "goal" "I") (by decide +kernel)) (fun _ h9 => h9) rfl (by decide +kernel) rfl rfl (Nat.le_of_ble_eq_true rfl) dX1_from_126 (fun H locs hP hD hS => ?_)
          have hP : va_P (dC, dI) vwCl [(lk, .inr (0, [.int 1, .int (-6), .int 0, .int p5, .int 1])), (ru, .inr (2, [.ref rt, .int 0]))] _ := hP
          have hD : va_D A [(lk, .inr (0, [.int 1, .int (-6), .int 0, .int p5, .int 1])), (ru, .inr (2, [.ref rt, .int 0]))] := hD
          exact W.vret hx hb hr (fun t ht hW => ⟨⟨(1, p5, 1), rfl, trivial, ⟨by rw [ht]; exact hP.sub (ws' := [(lk, .inr (0, [.int 1, .int (-6), .int 0, .int p5, .int 1])), (ru, .inr (2, [.ref rt, .int 0]))]) [0, 1] rfl, hD.sub (ws' := [(lk, .inr (0, [.int 1, .int (-6), .int 0, .int p5, .int 1])), (ru, .inr (2, [.ref rt, .int 0]))]) [0, 1] (by decide) rfl⟩⟩, hS.F ht⟩) hS.2.2 dX1_from_129
        · skip
          exact absurd c_46 (by decide)
    · skip
      have ic_33 := ci_nlt (rfl : Int32.toInt r_2 = _) (rfl : Int32.toInt r_1 = _) c_33
      refine lv_iconst (v := 0) hx hb dX1_from_44 (by decide) ?_
      refine lv_goto (tgt := 49) hx hb dX1_from_45 (by decide) ?_
      refine va_put (D := (dC, dI)) (ci := 0) (v := .int 0) (ty := .int) (C := RX1) (T := TX1) (N := 5) hx hb hts hnX1_from_X1 tyX1 tyX1_ok nmX1 hown hK hP hD hS 0 rfl rfl 0 (by decide) (hts (.fieldLink RX1 21 "RingMeets$Look" "side" "I") (by decide +kernel)) (fun _ h9 => h9) rfl (by decide +kernel) rfl rfl (Nat.le_of_ble_eq_true rfl) dX1_from_49 (fun H locs hP hD hS => ?_)
      have hP : va_P (dC, dI) vwCl [(lk, .inr (0, [.int 0, .int i1, .int i2, .int i3, .int 1])), (ru, .inr (2, [.ref rt, .int 0]))] _ := hP
      have hD : va_D A [(lk, .inr (0, [.int 0, .int i1, .int i2, .int i3, .int 1])), (ru, .inr (2, [.ref rt, .int 0]))] := hD
      refine lv_iload hx hb dX1_from_52 (lv_at hl 6 rfl) ?_
      refine lv_iload hx hb dX1_from_54 (lv_at hl 7 rfl) ?_
      refine vp_callSi (va_Run.run (va_runS (As := [.int p4, .int p5]) (rest := []) ⟨hx, hb, hml, hown, hts⟩ (kX5_has l dC dI cyI cyZ p4 p5) (va_cwS 2 hts gX1_from_X5_has rfl rfl rfl (by decide +kernel) ⟨Nat.le_of_ble_eq_true rfl, Nat.le_of_ble_eq_true rfl⟩) (bs_RS hB (hP.sub (ws' := []) [] rfl)) rfl rfl hl.1 rfl (lv_room (Nat.le_of_ble_eq_true rfl)) dX1_from_56 ⟨Nat.le_of_ble_eq_true rfl, Nat.le_of_ble_eq_true rfl⟩)) (fun r_48 hr_48 => ?_)
      refine lv_if_eq (tgt := 66) hx hb dX1_from_59 (by decide) (fun c_49 => ?_) (fun c_49 => ?_)
      · skip
        have ic_49 := ci_eq (rfl : Int32.toInt r_48 = _) (show Int32.toInt 0 = 0 by decide) c_49
        refine lv_iconst (v := 0) hx hb dX1_from_66 (by decide) ?_
        refine lv_istore (lv' := [(8, .int 0), (7, .int r_2), (6, .int r_1), (0, .ref lk), (1, .ref ru), (2, .int 8), (3, .int p3), (4, .int p4), (5, .int p5)]) hx hb dX1_from_67 hl (by decide) rfl (fun ls hl => ?_)
        refine lv_aload_n hx hb dX1_from_69 rfl (lv_at hl 3 rfl) ?_
        refine lv_aload_n hx hb dX1_from_70 rfl (lv_at hl 4 rfl) ?_
        refine lv_iload_n hx hb dX1_from_71 rfl (lv_at hl 6 rfl) ?_
        refine vp_callSi (va_Run.run (va_runS (As := [.int p3]) (rest := [.ref ru, .ref lk]) ⟨hx, hb, hml, hown, hts⟩ (kJ6_bitCount_0f7a4 l dC dI cyI cyZ p3) (va_cwS 1 hts gX1_from_J6_bitCount_0f7a4 rfl rfl rfl (by decide +kernel) ⟨Nat.le_of_ble_eq_true rfl, Nat.le_of_ble_eq_true rfl⟩) (bs_RS hB (hP.sub (ws' := []) [] rfl)) rfl rfl hl.1 rfl (lv_room (Nat.le_of_ble_eq_true rfl)) dX1_from_72 ⟨Nat.le_of_ble_eq_true rfl, Nat.le_of_ble_eq_true rfl⟩)) (fun r_50 hr_50 => ?_)
        refine lv_iload hx hb dX1_from_75 (lv_at hl 2 rfl) ?_
        refine lv_iload hx hb dX1_from_77 (lv_at hl 1 rfl) ?_
        refine va_mmin hx hb (by rw [hml]; exact hl.1.symm) hown (hts (.methodLink RX1 37 Lib.Math.min.name) (by decide +kernel)) (hts (.static Lib.Math.min.name) (by decide +kernel)) (hts (.initialized "java/lang/Math") (by decide +kernel)) (hts (.code Lib.Math.min.name Lib.Math.min.code 2 (some .int)) (by decide +kernel)) (Nat.le_of_ble_eq_true rfl) (Nat.le_of_ble_eq_true rfl) (Nat.le_of_ble_eq_true rfl) (Nat.le_of_ble_eq_true rfl) dX1_from_79 ?_
        refine lv_topi (fun x_51 ex_51 => ?_)
        refine lv_iload hx hb dX1_from_82 (lv_at hl 0 rfl) ?_
        refine vp_callSi (va_Run.run (va_runV (As := [.int r_50, .int x_51, .int 0]) (rest := [.ref lk]) ⟨hx, hb, hml, hown, hts⟩ (kX3_firstThatFits l dC dI cyI cyZ ru rt r_50 x_51 0) (cwV 3 hts gX1_from_X3_firstThatFits rfl rfl rfl (by decide +kernel) ⟨Nat.le_of_ble_eq_true rfl, Nat.le_of_ble_eq_true rfl⟩) (bs_RV hB (hP.sub (ws' := [(ru, .inr (2, [.ref rt, .int 0]))]) [1] rfl) 0 rfl rfl) rfl rfl hl.1 rfl (lv_room (Nat.le_of_ble_eq_true rfl)) dX1_from_84 ⟨Nat.le_of_ble_eq_true rfl, Nat.le_of_ble_eq_true rfl⟩)) (fun r_52 hr_52 => ?_)
        obtain rfl : (-6) = r_52 := Eq.symm hr_52
        refine va_put (D := (dC, dI)) (ci := 0) (v := .int (-6)) (ty := .int) (C := RX1) (T := TX1) (N := 5) hx hb hts hnX1_from_X1 tyX1 tyX1_ok nmX1 hown hK hP hD hS 0 rfl rfl 1 (by decide) (hts (.fieldLink RX1 49 "RingMeets$Look" "rule" "I") (by decide +kernel)) (fun _ h9 => h9) rfl (by decide +kernel) rfl rfl (Nat.le_of_ble_eq_true rfl) dX1_from_87 (fun H locs hP hD hS => ?_)
        have hP : va_P (dC, dI) vwCl [(lk, .inr (0, [.int 0, .int (-6), .int i2, .int i3, .int 1])), (ru, .inr (2, [.ref rt, .int 0]))] _ := hP
        have hD : va_D A [(lk, .inr (0, [.int 0, .int (-6), .int i2, .int i3, .int 1])), (ru, .inr (2, [.ref rt, .int 0]))] := hD
        refine lv_aload_n hx hb dX1_from_90 rfl (lv_at hl 3 rfl) ?_
        refine lv_aload_n hx hb dX1_from_91 rfl (lv_at hl 4 rfl) ?_
        refine lv_aload_n hx hb dX1_from_92 rfl (lv_at hl 3 rfl) ?_
        refine va_get (D := (dC, dI)) (ci := 0) (v := .int (-6)) (C := RX1) (T := TX1) (N := 5) hx hb hts hnX1_from_X1 hown hK hP 0 rfl rfl 1 (by decide) (hts (.fieldLink RX1 49 "RingMeets$Look" "rule" "I") (by decide +kernel)) (fun _ h9 => h9) rfl dX1_from_93 ?_
        refine vp_callSi (va_Run.run (va_runV (As := [.int (-6)]) (rest := [.ref lk]) ⟨hx, hb, hml, hown, hts⟩ (kX3_has l dC dI cyI cyZ ru rt 0 (-6)) (cwV 1 hts gX1_from_X3_has rfl rfl rfl (by decide +kernel) ⟨Nat.le_of_ble_eq_true rfl, Nat.le_of_ble_eq_true rfl⟩) (bs_RV hB (hP.sub (ws' := [(ru, .inr (2, [.ref rt, .int 0]))]) [1] rfl) 0 rfl rfl) rfl rfl hl.1 rfl (lv_room (Nat.le_of_ble_eq_true rfl)) dX1_from_96 ⟨Nat.le_of_ble_eq_true rfl, Nat.le_of_ble_eq_true rfl⟩)) (fun r_53 hr_53 => ?_)
        obtain rfl : r_53 = 0 := hr_53.2 (by decide)
        refine lv_if_eq (tgt := 114) hx hb dX1_from_99 (by decide) (fun c_54 => ?_) (fun c_54 => ?_)
        · skip
          refine lv_iconst (v := 0) hx hb dX1_from_114 (by decide) ?_
          refine va_put (D := (dC, dI)) (ci := 0) (v := .int 0) (ty := .int) (C := RX1) (T := TX1) (N := 5) hx hb hts hnX1_from_X1 tyX1 tyX1_ok nmX1 hown hK hP hD hS 0 rfl rfl 2 (by decide) (hts (.fieldLink RX1 58 "RingMeets$Look" "done" "I") (by decide +kernel)) (fun _ h9 => h9) rfl (by decide +kernel) rfl rfl (Nat.le_of_ble_eq_true rfl) dX1_from_115 (fun H locs hP hD hS => ?_)
          have hP : va_P (dC, dI) vwCl [(lk, .inr (0, [.int 0, .int (-6), .int 0, .int i3, .int 1])), (ru, .inr (2, [.ref rt, .int 0]))] _ := hP
          have hD : va_D A [(lk, .inr (0, [.int 0, .int (-6), .int 0, .int i3, .int 1])), (ru, .inr (2, [.ref rt, .int 0]))] := hD
          refine lv_aload_n hx hb dX1_from_118 rfl (lv_at hl 3 rfl) ?_
          refine lv_aload_n hx hb dX1_from_119 rfl (lv_at hl 3 rfl) ?_
          refine lv_iload_n hx hb dX1_from_120 rfl (lv_at hl 5 rfl) ?_
          refine lv_iload hx hb dX1_from_121 (lv_at hl 8 rfl) ?_
          refine vp_callSi (va_Run.run (va_runV (As := [.int 8, .int p5]) (rest := [.ref lk]) ⟨hx, hb, hml, hown, hts⟩ (kX1_goalFrom l dC dI cyI cyZ lk 0 (-6) i3 1 8 p5) (cwV 2 hts gX1_from_X1_goalFrom rfl rfl rfl (by decide +kernel) ⟨Nat.le_of_ble_eq_true rfl, Nat.le_of_ble_eq_true rfl⟩) (bs_RV hB (hP.sub (ws' := [(lk, .inr (0, [.int 0, .int (-6), .int 0, .int i3, .int 1]))]) [0] rfl) 0 rfl rfl) rfl rfl hl.1 rfl (lv_room (Nat.le_of_ble_eq_true rfl)) dX1_from_123 ⟨Nat.le_of_ble_eq_true rfl, Nat.le_of_ble_eq_true rfl⟩)) (fun r_55 hr_55 => ?_)
          obtain rfl : p5 = r_55 := Eq.symm hr_55
          refine va_put (D := (dC, dI)) (ci := 0) (v := .int p5) (ty := .int) (C := RX1) (T := TX1) (N := 5) hx hb hts hnX1_from_X1 tyX1 tyX1_ok nmX1 hown hK hP hD hS 0 rfl rfl 3 (by decide) (hts (.fieldLink RX1 64 "RingMeets$Look" "goal" "I") (by decide +kernel)) (fun _ h9 => h9) rfl (by decide +kernel) rfl rfl (Nat.le_of_ble_eq_true rfl) dX1_from_126 (fun H locs hP hD hS => ?_)
          have hP : va_P (dC, dI) vwCl [(lk, .inr (0, [.int 0, .int (-6), .int 0, .int p5, .int 1])), (ru, .inr (2, [.ref rt, .int 0]))] _ := hP
          have hD : va_D A [(lk, .inr (0, [.int 0, .int (-6), .int 0, .int p5, .int 1])), (ru, .inr (2, [.ref rt, .int 0]))] := hD
          exact W.vret hx hb hr (fun t ht hW => ⟨⟨(0, p5, 1), rfl, trivial, ⟨by rw [ht]; exact hP.sub (ws' := [(lk, .inr (0, [.int 0, .int (-6), .int 0, .int p5, .int 1])), (ru, .inr (2, [.ref rt, .int 0]))]) [0, 1] rfl, hD.sub (ws' := [(lk, .inr (0, [.int 0, .int (-6), .int 0, .int p5, .int 1])), (ru, .inr (2, [.ref rt, .int 0]))]) [0, 1] (by decide) rfl⟩⟩, hS.F ht⟩) hS.2.2 dX1_from_129
        · skip
          exact absurd c_54 (by decide)
      · skip
        have ic_49 := ci_ne (rfl : Int32.toInt r_48 = _) (show Int32.toInt 0 = 0 by decide) c_49
        refine lv_iconst (v := 1) hx hb dX1_from_62 (by decide) ?_
        refine lv_goto (tgt := 67) hx hb dX1_from_63 (by decide) ?_
        refine lv_istore (lv' := [(8, .int 1), (7, .int r_2), (6, .int r_1), (0, .ref lk), (1, .ref ru), (2, .int 8), (3, .int p3), (4, .int p4), (5, .int p5)]) hx hb dX1_from_67 hl (by decide) rfl (fun ls hl => ?_)
        refine lv_aload_n hx hb dX1_from_69 rfl (lv_at hl 3 rfl) ?_
        refine lv_aload_n hx hb dX1_from_70 rfl (lv_at hl 4 rfl) ?_
        refine lv_iload_n hx hb dX1_from_71 rfl (lv_at hl 6 rfl) ?_
        refine vp_callSi (va_Run.run (va_runS (As := [.int p3]) (rest := [.ref ru, .ref lk]) ⟨hx, hb, hml, hown, hts⟩ (kJ6_bitCount_0f7a4 l dC dI cyI cyZ p3) (va_cwS 1 hts gX1_from_J6_bitCount_0f7a4 rfl rfl rfl (by decide +kernel) ⟨Nat.le_of_ble_eq_true rfl, Nat.le_of_ble_eq_true rfl⟩) (bs_RS hB (hP.sub (ws' := []) [] rfl)) rfl rfl hl.1 rfl (lv_room (Nat.le_of_ble_eq_true rfl)) dX1_from_72 ⟨Nat.le_of_ble_eq_true rfl, Nat.le_of_ble_eq_true rfl⟩)) (fun r_56 hr_56 => ?_)
        refine lv_iload hx hb dX1_from_75 (lv_at hl 2 rfl) ?_
        refine lv_iload hx hb dX1_from_77 (lv_at hl 1 rfl) ?_
        refine va_mmin hx hb (by rw [hml]; exact hl.1.symm) hown (hts (.methodLink RX1 37 Lib.Math.min.name) (by decide +kernel)) (hts (.static Lib.Math.min.name) (by decide +kernel)) (hts (.initialized "java/lang/Math") (by decide +kernel)) (hts (.code Lib.Math.min.name Lib.Math.min.code 2 (some .int)) (by decide +kernel)) (Nat.le_of_ble_eq_true rfl) (Nat.le_of_ble_eq_true rfl) (Nat.le_of_ble_eq_true rfl) (Nat.le_of_ble_eq_true rfl) dX1_from_79 ?_
        refine lv_topi (fun x_57 ex_57 => ?_)
        refine lv_iload hx hb dX1_from_82 (lv_at hl 0 rfl) ?_
        refine vp_callSi (va_Run.run (va_runV (As := [.int r_56, .int x_57, .int 1]) (rest := [.ref lk]) ⟨hx, hb, hml, hown, hts⟩ (kX3_firstThatFits l dC dI cyI cyZ ru rt r_56 x_57 1) (cwV 3 hts gX1_from_X3_firstThatFits rfl rfl rfl (by decide +kernel) ⟨Nat.le_of_ble_eq_true rfl, Nat.le_of_ble_eq_true rfl⟩) (bs_RV hB (hP.sub (ws' := [(ru, .inr (2, [.ref rt, .int 0]))]) [1] rfl) 0 rfl rfl) rfl rfl hl.1 rfl (lv_room (Nat.le_of_ble_eq_true rfl)) dX1_from_84 ⟨Nat.le_of_ble_eq_true rfl, Nat.le_of_ble_eq_true rfl⟩)) (fun r_58 hr_58 => ?_)
        obtain rfl : (-6) = r_58 := Eq.symm hr_58
        refine va_put (D := (dC, dI)) (ci := 0) (v := .int (-6)) (ty := .int) (C := RX1) (T := TX1) (N := 5) hx hb hts hnX1_from_X1 tyX1 tyX1_ok nmX1 hown hK hP hD hS 0 rfl rfl 1 (by decide) (hts (.fieldLink RX1 49 "RingMeets$Look" "rule" "I") (by decide +kernel)) (fun _ h9 => h9) rfl (by decide +kernel) rfl rfl (Nat.le_of_ble_eq_true rfl) dX1_from_87 (fun H locs hP hD hS => ?_)
        have hP : va_P (dC, dI) vwCl [(lk, .inr (0, [.int 0, .int (-6), .int i2, .int i3, .int 1])), (ru, .inr (2, [.ref rt, .int 0]))] _ := hP
        have hD : va_D A [(lk, .inr (0, [.int 0, .int (-6), .int i2, .int i3, .int 1])), (ru, .inr (2, [.ref rt, .int 0]))] := hD
        refine lv_aload_n hx hb dX1_from_90 rfl (lv_at hl 3 rfl) ?_
        refine lv_aload_n hx hb dX1_from_91 rfl (lv_at hl 4 rfl) ?_
        refine lv_aload_n hx hb dX1_from_92 rfl (lv_at hl 3 rfl) ?_
        refine va_get (D := (dC, dI)) (ci := 0) (v := .int (-6)) (C := RX1) (T := TX1) (N := 5) hx hb hts hnX1_from_X1 hown hK hP 0 rfl rfl 1 (by decide) (hts (.fieldLink RX1 49 "RingMeets$Look" "rule" "I") (by decide +kernel)) (fun _ h9 => h9) rfl dX1_from_93 ?_
        refine vp_callSi (va_Run.run (va_runV (As := [.int (-6)]) (rest := [.ref lk]) ⟨hx, hb, hml, hown, hts⟩ (kX3_has l dC dI cyI cyZ ru rt 0 (-6)) (cwV 1 hts gX1_from_X3_has rfl rfl rfl (by decide +kernel) ⟨Nat.le_of_ble_eq_true rfl, Nat.le_of_ble_eq_true rfl⟩) (bs_RV hB (hP.sub (ws' := [(ru, .inr (2, [.ref rt, .int 0]))]) [1] rfl) 0 rfl rfl) rfl rfl hl.1 rfl (lv_room (Nat.le_of_ble_eq_true rfl)) dX1_from_96 ⟨Nat.le_of_ble_eq_true rfl, Nat.le_of_ble_eq_true rfl⟩)) (fun r_59 hr_59 => ?_)
        obtain rfl : r_59 = 0 := hr_59.2 (by decide)
        refine lv_if_eq (tgt := 114) hx hb dX1_from_99 (by decide) (fun c_60 => ?_) (fun c_60 => ?_)
        · skip
          refine lv_iconst (v := 0) hx hb dX1_from_114 (by decide) ?_
          refine va_put (D := (dC, dI)) (ci := 0) (v := .int 0) (ty := .int) (C := RX1) (T := TX1) (N := 5) hx hb hts hnX1_from_X1 tyX1 tyX1_ok nmX1 hown hK hP hD hS 0 rfl rfl 2 (by decide) (hts (.fieldLink RX1 58 "RingMeets$Look" "done" "I") (by decide +kernel)) (fun _ h9 => h9) rfl (by decide +kernel) rfl rfl (Nat.le_of_ble_eq_true rfl) dX1_from_115 (fun H locs hP hD hS => ?_)
          have hP : va_P (dC, dI) vwCl [(lk, .inr (0, [.int 0, .int (-6), .int 0, .int i3, .int 1])), (ru, .inr (2, [.ref rt, .int 0]))] _ := hP
          have hD : va_D A [(lk, .inr (0, [.int 0, .int (-6), .int 0, .int i3, .int 1])), (ru, .inr (2, [.ref rt, .int 0]))] := hD
          refine lv_aload_n hx hb dX1_from_118 rfl (lv_at hl 3 rfl) ?_
          refine lv_aload_n hx hb dX1_from_119 rfl (lv_at hl 3 rfl) ?_
          refine lv_iload_n hx hb dX1_from_120 rfl (lv_at hl 5 rfl) ?_
          refine lv_iload hx hb dX1_from_121 (lv_at hl 8 rfl) ?_
          refine vp_callSi (va_Run.run (va_runV (As := [.int 8, .int p5]) (rest := [.ref lk]) ⟨hx, hb, hml, hown, hts⟩ (kX1_goalFrom l dC dI cyI cyZ lk 0 (-6) i3 1 8 p5) (cwV 2 hts gX1_from_X1_goalFrom rfl rfl rfl (by decide +kernel) ⟨Nat.le_of_ble_eq_true rfl, Nat.le_of_ble_eq_true rfl⟩) (bs_RV hB (hP.sub (ws' := [(lk, .inr (0, [.int 0, .int (-6), .int 0, .int i3, .int 1]))]) [0] rfl) 0 rfl rfl) rfl rfl hl.1 rfl (lv_room (Nat.le_of_ble_eq_true rfl)) dX1_from_123 ⟨Nat.le_of_ble_eq_true rfl, Nat.le_of_ble_eq_true rfl⟩)) (fun r_61 hr_61 => ?_)
          obtain rfl : p5 = r_61 := Eq.symm hr_61
          refine va_put (D := (dC, dI)) (ci := 0) (v := .int p5) (ty := .int) (C := RX1) (T := TX1) (N := 5) hx hb hts hnX1_from_X1 tyX1 tyX1_ok nmX1 hown hK hP hD hS 0 rfl rfl 3 (by decide) (hts (.fieldLink RX1 64 "RingMeets$Look" "goal" "I") (by decide +kernel)) (fun _ h9 => h9) rfl (by decide +kernel) rfl rfl (Nat.le_of_ble_eq_true rfl) dX1_from_126 (fun H locs hP hD hS => ?_)
          have hP : va_P (dC, dI) vwCl [(lk, .inr (0, [.int 0, .int (-6), .int 0, .int p5, .int 1])), (ru, .inr (2, [.ref rt, .int 0]))] _ := hP
          have hD : va_D A [(lk, .inr (0, [.int 0, .int (-6), .int 0, .int p5, .int 1])), (ru, .inr (2, [.ref rt, .int 0]))] := hD
          exact W.vret hx hb hr (fun t ht hW => ⟨⟨(0, p5, 1), rfl, trivial, ⟨by rw [ht]; exact hP.sub (ws' := [(lk, .inr (0, [.int 0, .int (-6), .int 0, .int p5, .int 1])), (ru, .inr (2, [.ref rt, .int 0]))]) [0, 1] rfl, hD.sub (ws' := [(lk, .inr (0, [.int 0, .int (-6), .int 0, .int p5, .int 1])), (ru, .inr (2, [.ref rt, .int 0]))]) [0, 1] (by decide) rfl⟩⟩, hS.F ht⟩) hS.2.2 dX1_from_129
        · skip
          exact absurd c_60 (by decide)

theorem hnX2_enter_X1 : ∀ w ∈ wsX10, w ∈ wsX2_enter := fun _ h => List.mem_cons_of_mem _ (List.mem_append_right _ h)
theorem hnX2_enter_X2 : ∀ w ∈ wsX20, w ∈ wsX2_enter := fun _ h => List.mem_cons_of_mem _ (List.mem_append_left _ (List.mem_append_right _ h))
set_option maxHeartbeats 4000000 in
set_option maxRecDepth 100000 in
theorem kX2_enter (l : Launch) (dC : Nat → ClassId) (dI : Nat → Nat → Nat) (cyI cyZ : ClassId) (mo lk : Nat) (j0 j1 j2 i0 i3 i4 p1 : Int32) : Met l yX2_enter wsX2_enter ({ frames := 0, cells := 0, slots := 0, locals := 0 }) (bs_R dC dI cyI cyZ [.ref mo, .int p1] [(mo, .inr (1, [.ref lk, .int j0, .int j1, .int j2])), (lk, .inr (0, [.int i0, .int (-6), .int 0, .int i3, .int i4]))]) (va_Sv (fun _ : Unit => True)) 0 0 (fun _ => False) := by
  refine Met.ofW (cc := cX2_enter) (maxL := 2) (ret := none) (by decide) rfl ?_
  intro p e s m args below meth c s₁ B hml hv
  obtain ⟨rfl, hB, hP⟩ := hv
  have hK := hB.1
  have hN := hB.2
  have hx := B.exec
  have hb := B.bytes
  have hr := B.returns
  have hts := atoms_spec (ws := wsX2_enter) B.pre
  have hown : s.vm.findClass RX2 = some m.cls := findClass_of_methodNamed B.named
  have hlocks := B.notSynchronized
  have hP : va_P (dC, dI) vwCl [(mo, .inr (1, [.ref lk, .int j0, .int j1, .int j2])), (lk, .inr (0, [.int i0, .int (-6), .int 0, .int i3, .int i4]))] s.heap := hP
  have hl := lv_entry ([.ref mo, .int p1]) (n := 2) (Nat.le_of_ble_eq_true rfl)
  rw [lg_entry_eq]
  generalize (lg_sl ([.ref mo, .int p1]) ++ List.replicate (2 - (lg_sl ([.ref mo, .int p1])).length) Slot.unset).toArray = ls at hl ⊢
  have hl : lv_has ls 2 [(0, .ref mo), (1, .int p1)] := hl
  refine lv_aload_n hx hb dX2_enter_0 rfl (lv_at hl 0 rfl) ?_
  refine va_get (D := (dC, dI)) (ci := 1) (v := .ref lk) (C := RX2) (T := TX2) (N := 4) hx hb hts hnX2_enter_X2 hown hK hP 0 rfl rfl 0 (by decide) (hts (.fieldLink RX2 12 "RingMeets$Moves" "look" "LRingMeets$Look;") (by decide +kernel)) (fun _ h9 => h9) rfl dX2_enter_1 ?_
  refine va_getN (D := (dC, dI)) (ci := 0) (v := .int (-6)) (C := RX1) (T := TX1) (N := 5) hx hb hts hnX2_enter_X1 hown hK hP 1 rfl rfl 1 (by decide) (hN.fld 7 rfl) (fun _ h9 => h9) rfl dX2_enter_4 ?_
  refine lv_if_lt (tgt := 28) hx hb dX2_enter_7 (by decide) (fun c_1 => ?_) (fun c_1 => ?_)
  · skip
    refine lv_aload_n hx hb dX2_enter_28 rfl (lv_at hl 0 rfl) ?_
    refine va_get (D := (dC, dI)) (ci := 1) (v := .ref lk) (C := RX2) (T := TX2) (N := 4) hx hb hts hnX2_enter_X2 hown hK hP 0 rfl rfl 0 (by decide) (hts (.fieldLink RX2 12 "RingMeets$Moves" "look" "LRingMeets$Look;") (by decide +kernel)) (fun _ h9 => h9) rfl dX2_enter_29 ?_
    refine va_getN (D := (dC, dI)) (ci := 0) (v := .int 0) (C := RX1) (T := TX1) (N := 5) hx hb hts hnX2_enter_X1 hown hK hP 1 rfl rfl 2 (by decide) (hN.fld 9 rfl) (fun _ h9 => h9) rfl dX2_enter_32 ?_
    refine lv_if_ne (tgt := 39) hx hb dX2_enter_35 (by decide) (fun c_2 => ?_) (fun c_2 => ?_)
    · skip
      exact absurd c_2 (by decide)
    · skip
      exact W.vret hx hb hr (fun t ht hW => ⟨rfl, trivial, ht⟩) (fun q h => by cases h) dX2_enter_38
  · skip
    exact absurd c_1 (by decide)

theorem hnX2_from_X2 : ∀ w ∈ wsX20, w ∈ wsX2_from := fun _ h => List.mem_cons_of_mem _ (List.mem_append_left _ (List.mem_append_left _ (List.mem_append_right _ h)))
set_option maxHeartbeats 4000000 in
set_option maxRecDepth 100000 in
theorem kX2_from (l : Launch) (dC : Nat → ClassId) (dI : Nat → Nat → Nat) (cyI cyZ : ClassId) (mo lk ru rt : Nat) (j0 j1 j2 i0 i1 i2 i3 i4 p3 p4 : Int32) (sz : Nat) : Met l yX2_from wsX2_from ({ frames := 3, cells := 0, slots := 0, locals := 77 }) (bs_W dC dI cyI cyZ [.ref mo, .ref ru, .int 8, .int p3, .int p4] [(mo, .inr (1, [.ref lk, .int j0, .int j1, .int j2])), (lk, .inr (0, [.int i0, .int i1, .int i2, .int i3, .int i4])), (ru, .inr (2, [.ref rt, .int 0]))] sz) (va_Qv (S := Int32 × Int32 × Int32 × Int32 × Int32) (fun _ : Int32 × Int32 × Int32 × Int32 × Int32 => True) (fun q t => bs_E dC dI (va_A [(mo, .inr (1, [.ref lk, .int j0, .int j1, .int j2])), (lk, .inr (0, [.int i0, .int i1, .int i2, .int i3, .int i4])), (ru, .inr (2, [.ref rt, .int 0]))] sz) [(mo, .inr (1, [.ref lk, .int 0, .int 0, .int 0])), (lk, .inr (0, [.int q.1, .int q.2.1, .int q.2.2.1, .int q.2.2.2.1, .int q.2.2.2.2])), (ru, .inr (2, [.ref rt, .int 0]))] t) (va_A [(mo, .inr (1, [.ref lk, .int j0, .int j1, .int j2])), (lk, .inr (0, [.int i0, .int i1, .int i2, .int i3, .int i4])), (ru, .inr (2, [.ref rt, .int 0]))] sz)) 0 0 (va_A [(mo, .inr (1, [.ref lk, .int j0, .int j1, .int j2])), (lk, .inr (0, [.int i0, .int i1, .int i2, .int i3, .int i4])), (ru, .inr (2, [.ref rt, .int 0]))] sz) := by
  refine Met.ofW (cc := cX2_from) (maxL := 6) (ret := none) (by decide) rfl ?_
  intro p e s m args below meth c s₁ B hml hv
  obtain ⟨rfl, hsz, hB, hP, hD0⟩ := hv
  have hK := hB.1
  have hN := hB.2
  have hx := B.exec
  have hb := B.bytes
  have hr := B.returns
  have hts := atoms_spec (ws := wsX2_from) B.pre
  have hown : s.vm.findClass RX2 = some m.cls := findClass_of_methodNamed B.named
  have hlocks := B.notSynchronized
  subst hsz
  have hD := hD0.self (sz := s.heap.size)
  generalize hAe : va_A [(mo, .inr (1, [.ref lk, .int j0, .int j1, .int j2])), (lk, .inr (0, [.int i0, .int i1, .int i2, .int i3, .int i4])), (ru, .inr (2, [.ref rt, .int 0]))] s.heap.size = A at hD ⊢
  have hA : ∀ q : Nat, s.heap.size ≤ q → A q := fun q h => by rw [← hAe]; exact Or.inr h
  have hS : va_S A s.heap s.heap [] := va_S.rf
  have hP : va_P (dC, dI) vwCl [(mo, .inr (1, [.ref lk, .int j0, .int j1, .int j2])), (lk, .inr (0, [.int i0, .int i1, .int i2, .int i3, .int i4])), (ru, .inr (2, [.ref rt, .int 0]))] s.heap := hP
  have hl := lv_entry ([.ref mo, .ref ru, .int 8, .int p3, .int p4]) (n := 6) (Nat.le_of_ble_eq_true rfl)
  rw [lg_entry_eq]
  generalize (lg_sl ([.ref mo, .ref ru, .int 8, .int p3, .int p4]) ++ List.replicate (6 - (lg_sl ([.ref mo, .ref ru, .int 8, .int p3, .int p4])).length) Slot.unset).toArray = ls at hl ⊢
  have hl : lv_has ls 6 [(0, .ref mo), (1, .ref ru), (2, .int 8), (3, .int p3), (4, .int p4)] := hl
  refine lv_aload_n hx hb dX2_from_0 rfl (lv_at hl 0 rfl) ?_
  refine lv_iconst (v := 0) hx hb dX2_from_1 (by decide) ?_
  refine va_put (D := (dC, dI)) (ci := 1) (v := .int 0) (ty := .int) (C := RX2) (T := TX2) (N := 4) hx hb hts hnX2_from_X2 tyX2 tyX2_ok nmX2 hown hK hP hD hS 0 rfl rfl 1 (by decide) (hts (.fieldLink RX2 18 "RingMeets$Moves" "ups" "I") (by decide +kernel)) (fun _ h9 => h9) rfl (by decide +kernel) rfl rfl (Nat.le_of_ble_eq_true rfl) dX2_from_2 (fun H locs hP hD hS => ?_)
  have hP : va_P (dC, dI) vwCl [(mo, .inr (1, [.ref lk, .int 0, .int j1, .int j2])), (lk, .inr (0, [.int i0, .int i1, .int i2, .int i3, .int i4])), (ru, .inr (2, [.ref rt, .int 0]))] _ := hP
  have hD : va_D A [(mo, .inr (1, [.ref lk, .int 0, .int j1, .int j2])), (lk, .inr (0, [.int i0, .int i1, .int i2, .int i3, .int i4])), (ru, .inr (2, [.ref rt, .int 0]))] := hD
  refine lv_aload_n hx hb dX2_from_5 rfl (lv_at hl 0 rfl) ?_
  refine lv_iconst (v := 0) hx hb dX2_from_6 (by decide) ?_
  refine va_put (D := (dC, dI)) (ci := 1) (v := .int 0) (ty := .int) (C := RX2) (T := TX2) (N := 4) hx hb hts hnX2_from_X2 tyX2 tyX2_ok nmX2 hown hK hP hD hS 0 rfl rfl 2 (by decide) (hts (.fieldLink RX2 22 "RingMeets$Moves" "downs" "I") (by decide +kernel)) (fun _ h9 => h9) rfl (by decide +kernel) rfl rfl (Nat.le_of_ble_eq_true rfl) dX2_from_7 (fun H locs hP hD hS => ?_)
  have hP : va_P (dC, dI) vwCl [(mo, .inr (1, [.ref lk, .int 0, .int 0, .int j2])), (lk, .inr (0, [.int i0, .int i1, .int i2, .int i3, .int i4])), (ru, .inr (2, [.ref rt, .int 0]))] _ := hP
  have hD : va_D A [(mo, .inr (1, [.ref lk, .int 0, .int 0, .int j2])), (lk, .inr (0, [.int i0, .int i1, .int i2, .int i3, .int i4])), (ru, .inr (2, [.ref rt, .int 0]))] := hD
  refine lv_aload_n hx hb dX2_from_10 rfl (lv_at hl 0 rfl) ?_
  refine lv_iconst (v := 0) hx hb dX2_from_11 (by decide) ?_
  refine va_put (D := (dC, dI)) (ci := 1) (v := .int 0) (ty := .int) (C := RX2) (T := TX2) (N := 4) hx hb hts hnX2_from_X2 tyX2 tyX2_ok nmX2 hown hK hP hD hS 0 rfl rfl 3 (by decide) (hts (.fieldLink RX2 25 "RingMeets$Moves" "rulesUsed" "I") (by decide +kernel)) (fun _ h9 => h9) rfl (by decide +kernel) rfl rfl (Nat.le_of_ble_eq_true rfl) dX2_from_12 (fun H locs hP hD hS => ?_)
  have hP : va_P (dC, dI) vwCl [(mo, .inr (1, [.ref lk, .int 0, .int 0, .int 0])), (lk, .inr (0, [.int i0, .int i1, .int i2, .int i3, .int i4])), (ru, .inr (2, [.ref rt, .int 0]))] _ := hP
  have hD : va_D A [(mo, .inr (1, [.ref lk, .int 0, .int 0, .int 0])), (lk, .inr (0, [.int i0, .int i1, .int i2, .int i3, .int i4])), (ru, .inr (2, [.ref rt, .int 0]))] := hD
  refine lv_iconst (v := 0) hx hb dX2_from_15 (by decide) ?_
  refine lv_istore (lv' := [(5, .int 0), (0, .ref mo), (1, .ref ru), (2, .int 8), (3, .int p3), (4, .int p4)]) hx hb dX2_from_16 hl (by decide) rfl (fun ls hl => ?_)
  have L18 : ∀ (n18 : Nat), ∀ (k : Nat) (i0 i1 i2 i3 i4 : Int32), (0 ≤ k ∧ k ≤ 8) → (9 ≤ k + n18) → ∀ (H : Heap) (locs : List Loc), va_P (dC, dI) vwCl [(mo, .inr (1, [.ref lk, .int 0, .int 0, .int 0])), (lk, .inr (0, [.int i0, .int i1, .int i2, .int i3, .int i4])), (ru, .inr (2, [.ref rt, .int 0]))] H → va_D A [(mo, .inr (1, [.ref lk, .int 0, .int 0, .int 0])), (lk, .inr (0, [.int i0, .int i1, .int i2, .int i3, .int i4])), (ru, .inr (2, [.ref rt, .int 0]))] → va_S A s.heap H locs → ∀ (ls : Array Slot), lv_has ls 6 [(0, .ref mo), (1, .ref ru), (2, .int 8), (3, .int p3), (4, .int p4), (5, .int (nI k))] → W p l e (headSpec wsX2_from ({ frames := 3, cells := 0, slots := 0, locals := 77 })).room s m ([.ref mo, .ref ru, .int 8, .int p3, .int p4] : List Value).toArray below meth c H locs 0 0 (MQ below (va_Qv (S := Int32 × Int32 × Int32 × Int32 × Int32) (fun _ : Int32 × Int32 × Int32 × Int32 × Int32 => True) (fun q t => bs_E dC dI A [(mo, .inr (1, [.ref lk, .int 0, .int 0, .int 0])), (lk, .inr (0, [.int q.1, .int q.2.1, .int q.2.2.1, .int q.2.2.2.1, .int q.2.2.2.2])), (ru, .inr (2, [.ref rt, .int 0]))] t) A) ([.ref mo, .ref ru, .int 8, .int p3, .int p4] : List Value).toArray s 0 0 A) (F0 m 18 ls []) := by
    intro n18
    induction n18 with
    | zero =>
      intro k i0 i1 i2 i3 i4 hk18 hn18 H locs hP hD hS ls hl
      exfalso
      omega
    | succ n18 ih18 =>
      intro k i0 i1 i2 i3 i4 hk18 hn18 H locs hP hD hS ls hl
      refine lv_iload hx hb dX2_from_18 (lv_at hl 5 rfl) ?_
      refine lv_iload_n hx hb dX2_from_20 rfl (lv_at hl 2 rfl) ?_
      refine lv_icmp_ge (tgt := 59) hx hb dX2_from_21 (by decide) (fun c_1 => ?_) (fun c_1 => ?_)
      · skip
        have ic_1 := ci_le (show Int32.toInt 8 = 8 by decide) (nI_toInt (n := k) (by omega)) c_1
        exact W.vret hx hb hr (fun t ht hW => ⟨⟨(i0, i1, i2, i3, i4), rfl, trivial, ⟨by rw [ht]; exact hP.sub (ws' := [(mo, .inr (1, [.ref lk, .int 0, .int 0, .int 0])), (lk, .inr (0, [.int i0, .int i1, .int i2, .int i3, .int i4])), (ru, .inr (2, [.ref rt, .int 0]))]) [0, 1, 2] rfl, hD.sub (ws' := [(mo, .inr (1, [.ref lk, .int 0, .int 0, .int 0])), (lk, .inr (0, [.int i0, .int i1, .int i2, .int i3, .int i4])), (ru, .inr (2, [.ref rt, .int 0]))]) [0, 1, 2] (by decide) rfl⟩⟩, hS.F ht⟩) hS.2.2 dX2_from_59
      · skip
        have ic_1 := ci_nle (show Int32.toInt 8 = 8 by decide) (nI_toInt (n := k) (by omega)) c_1
        refine lv_iload_n hx hb dX2_from_24 rfl (lv_at hl 3 rfl) ?_
        refine lv_iload hx hb dX2_from_25 (lv_at hl 5 rfl) ?_
        refine vp_callSi (va_Run.run (va_runS (As := [.int p3, .int (nI k)]) (rest := []) ⟨hx, hb, hml, hown, hts⟩ (kX5_has l dC dI cyI cyZ p3 (nI k)) (va_cwS 2 hts gX2_from_X5_has rfl rfl rfl (by decide +kernel) ⟨Nat.le_of_ble_eq_true rfl, Nat.le_of_ble_eq_true rfl⟩) (bs_RS hB (hP.sub (ws' := []) [] rfl)) rfl rfl hl.1 rfl (lv_room (Nat.le_of_ble_eq_true rfl)) dX2_from_27 ⟨Nat.le_of_ble_eq_true rfl, Nat.le_of_ble_eq_true rfl⟩)) (fun r_2 hr_2 => ?_)
        refine lv_if_eq (tgt := 53) hx hb dX2_from_30 (by decide) (fun c_3 => ?_) (fun c_3 => ?_)
        · skip
          have ic_3 := ci_eq (rfl : Int32.toInt r_2 = _) (show Int32.toInt 0 = 0 by decide) c_3
          refine lv_iinc (v := (nI (k + 1))) (lv' := [(5, .int (nI (k + 1))), (0, .ref mo), (1, .ref ru), (2, .int 8), (3, .int p3), (4, .int p4)]) hx hb dX2_from_53 hl (k := 5) rfl (nI_1 _) (by decide) rfl (fun ls hl => ?_)
          refine lv_goto (tgt := 18) hx hb dX2_from_56 (by decide) ?_
          exact ih18 (k + 1) i0 i1 i2 i3 i4 ⟨by omega, by omega⟩ (by omega)  _ _ (hP.sub [0, 1, 2] rfl) (hD.sub [0, 1, 2] (by decide) rfl) hS _ (lv_sub hl [1, 2, 3, 4, 5, 0] rfl)
        · skip
          have ic_3 := ci_ne (rfl : Int32.toInt r_2 = _) (show Int32.toInt 0 = 0 by decide) c_3
          refine lv_aload_n hx hb dX2_from_33 rfl (lv_at hl 0 rfl) ?_
          refine va_get (D := (dC, dI)) (ci := 1) (v := .ref lk) (C := RX2) (T := TX2) (N := 4) hx hb hts hnX2_from_X2 hown hK hP 0 rfl rfl 0 (by decide) (hts (.fieldLink RX2 12 "RingMeets$Moves" "look" "LRingMeets$Look;") (by decide +kernel)) (fun _ h9 => h9) rfl dX2_from_34 ?_
          refine lv_aload_n hx hb dX2_from_37 rfl (lv_at hl 1 rfl) ?_
          refine lv_iload_n hx hb dX2_from_38 rfl (lv_at hl 2 rfl) ?_
          refine lv_iload_n hx hb dX2_from_39 rfl (lv_at hl 3 rfl) ?_
          refine lv_iload hx hb dX2_from_40 (lv_at hl 4 rfl) ?_
          refine lv_iload hx hb dX2_from_42 (lv_at hl 5 rfl) ?_
          have f_4 := va_free (wc := [(lk, .inr (0, [.int i0, .int i1, .int i2, .int i3, .int i4])), (ru, .inr (2, [.ref rt, .int 0]))]) hD hS hA [1, 2] rfl
          refine va_callv (va_runV (As := [.ref ru, .int 8, .int p3, .int p4, .int (nI k)]) (rest := []) ⟨hx, hb, hml, hown, hts⟩ (kX1_from l dC dI cyI cyZ lk ru rt i0 i1 i2 i3 i4 p3 p4 (nI k) _) (cwV 5 hts gX2_from_X1_from rfl rfl rfl (by decide +kernel) ⟨Nat.le_of_ble_eq_true rfl, Nat.le_of_ble_eq_true rfl⟩) (bs_WV hB (hP.sub (ws' := [(lk, .inr (0, [.int i0, .int i1, .int i2, .int i3, .int i4])), (ru, .inr (2, [.ref rt, .int 0]))]) [1, 2] rfl) (hD.sub (ws' := [(lk, .inr (0, [.int i0, .int i1, .int i2, .int i3, .int i4])), (ru, .inr (2, [.ref rt, .int 0]))]) [1, 2] (by decide) rfl) 0 rfl rfl) rfl rfl hl.1 rfl (lv_room (Nat.le_of_ble_eq_true rfl)) dX2_from_44 ⟨Nat.le_of_ble_eq_true rfl, Nat.le_of_ble_eq_true rfl⟩) hS (fun q _ h => f_4 q h) f_4 (fun uh_5 t H1 locs ht hvm h_5 hB1 hz1 hk1 hS => ?_)
          obtain ⟨i_6, i_7, i_8⟩ := uh_5
          obtain ⟨hP1, hD1⟩ := hB1
          rw [ht] at hP1
          obtain ⟨hP, hD⟩ := va_join (wr := [(mo, .inr (1, [.ref lk, .int 0, .int 0, .int 0]))]) (w1 := [(lk, .inr (0, [.int i_6, .int (-6), .int 0, .int i_7, .int i_8])), (ru, .inr (2, [.ref rt, .int 0]))]) hP hD [1, 2] [0] rfl rfl (by decide) (by decide) hk1 f_4 hP1 hD1
          generalize H1 = H at hP hS ⊢
          have hP : va_P (dC, dI) vwCl [(mo, .inr (1, [.ref lk, .int 0, .int 0, .int 0])), (lk, .inr (0, [.int i_6, .int (-6), .int 0, .int i_7, .int i_8])), (ru, .inr (2, [.ref rt, .int 0]))] _ := hP
          have hD : va_D A [(mo, .inr (1, [.ref lk, .int 0, .int 0, .int 0])), (lk, .inr (0, [.int i_6, .int (-6), .int 0, .int i_7, .int i_8])), (ru, .inr (2, [.ref rt, .int 0]))] := hD
          refine lv_aload_n hx hb dX2_from_47 rfl (lv_at hl 0 rfl) ?_
          refine lv_iload hx hb dX2_from_48 (lv_at hl 5 rfl) ?_
          refine va_csv (va_Run.run (va_runV (As := [.int (nI k)]) (rest := []) ⟨hx, hb, hml, hown, hts⟩ (kX2_enter l dC dI cyI cyZ mo lk 0 0 0 i_6 i_7 i_8 (nI k)) (cwV 1 hts gX2_from_X2_enter rfl rfl rfl (by decide +kernel) ⟨Nat.le_of_ble_eq_true rfl, Nat.le_of_ble_eq_true rfl⟩) (bs_RV hB (hP.sub (ws' := [(mo, .inr (1, [.ref lk, .int 0, .int 0, .int 0])), (lk, .inr (0, [.int i_6, .int (-6), .int 0, .int i_7, .int i_8]))]) [0, 1] rfl) 0 rfl rfl) rfl rfl hl.1 rfl (lv_room (Nat.le_of_ble_eq_true rfl)) dX2_from_50 ⟨Nat.le_of_ble_eq_true rfl, Nat.le_of_ble_eq_true rfl⟩)) (fun h_9 => ?_)
          refine lv_iinc (v := (nI (k + 1))) (lv' := [(5, .int (nI (k + 1))), (0, .ref mo), (1, .ref ru), (2, .int 8), (3, .int p3), (4, .int p4)]) hx hb dX2_from_53 hl (k := 5) rfl (nI_1 _) (by decide) rfl (fun ls hl => ?_)
          refine lv_goto (tgt := 18) hx hb dX2_from_56 (by decide) ?_
          exact ih18 (k + 1) i_6 (-6) 0 i_7 i_8 ⟨by omega, by omega⟩ (by omega)  _ _ (hP.sub [0, 1, 2] rfl) (hD.sub [0, 1, 2] (by decide) rfl) hS _ (lv_sub hl [1, 2, 3, 4, 5, 0] rfl)
  exact L18 9 0 i0 i1 i2 i3 i4 ⟨by omega, by omega⟩ (by omega)  _ _ (hP.sub [0, 1, 2] rfl) (hD.sub [0, 1, 2] (by decide) rfl) hS _ (lv_sub hl [1, 2, 3, 4, 5, 0] rfl)

theorem hnX2_movers_X2 : ∀ w ∈ wsX20, w ∈ wsX2_movers := fun _ h => List.mem_cons_of_mem _ (List.mem_append_right _ h)
set_option maxHeartbeats 4000000 in
set_option maxRecDepth 100000 in
theorem kX2_movers (l : Launch) (dC : Nat → ClassId) (dI : Nat → Nat → Nat) (cyI cyZ : ClassId) (mo lk : Nat) (j2 : Int32) : Met l yX2_movers wsX2_movers ({ frames := 0, cells := 0, slots := 0, locals := 0 }) (bs_R dC dI cyI cyZ [.ref mo] [(mo, .inr (1, [.ref lk, .int 0, .int 0, .int j2]))]) (vp_Si (fun r : Int32 => r = 0)) 0 0 (fun _ => False) := by
  refine Met.ofW (cc := cX2_movers) (maxL := 1) (ret := (some .int)) (by decide) rfl ?_
  intro p e s m args below meth c s₁ B hml hv
  obtain ⟨rfl, hB, hP⟩ := hv
  have hK := hB.1
  have hN := hB.2
  have hx := B.exec
  have hb := B.bytes
  have hr := B.returns
  have hts := atoms_spec (ws := wsX2_movers) B.pre
  have hown : s.vm.findClass RX2 = some m.cls := findClass_of_methodNamed B.named
  have hlocks := B.notSynchronized
  have hP : va_P (dC, dI) vwCl [(mo, .inr (1, [.ref lk, .int 0, .int 0, .int j2]))] s.heap := hP
  have hl := lv_entry ([.ref mo]) (n := 1) (Nat.le_of_ble_eq_true rfl)
  rw [lg_entry_eq]
  generalize (lg_sl ([.ref mo]) ++ List.replicate (1 - (lg_sl ([.ref mo])).length) Slot.unset).toArray = ls at hl ⊢
  have hl : lv_has ls 1 [(0, .ref mo)] := hl
  refine lv_aload_n hx hb dX2_movers_0 rfl (lv_at hl 0 rfl) ?_
  refine va_get (D := (dC, dI)) (ci := 1) (v := .int 0) (C := RX2) (T := TX2) (N := 4) hx hb hts hnX2_movers_X2 hown hK hP 0 rfl rfl 1 (by decide) (hts (.fieldLink RX2 18 "RingMeets$Moves" "ups" "I") (by decide +kernel)) (fun _ h9 => h9) rfl dX2_movers_1 ?_
  refine lv_aload_n hx hb dX2_movers_4 rfl (lv_at hl 0 rfl) ?_
  refine va_get (D := (dC, dI)) (ci := 1) (v := .int 0) (C := RX2) (T := TX2) (N := 4) hx hb hts hnX2_movers_X2 hown hK hP 0 rfl rfl 2 (by decide) (hts (.fieldLink RX2 22 "RingMeets$Moves" "downs" "I") (by decide +kernel)) (fun _ h9 => h9) rfl dX2_movers_5 ?_
  refine lv_ior hx hb dX2_movers_8 ?_
  refine lv_topi (fun x_1 ex_1 => ?_)
  obtain rfl : 0 = x_1 := (ex_1.trans (by decide)).symm
  exact W.iret (v := 0) hx hb hr (fun t ht hW => ⟨0, rfl, rfl, ht⟩) (fun q h => by cases h) dX2_movers_9

set_option maxHeartbeats 4000000 in
set_option maxRecDepth 100000 in
theorem kX5_way (l : Launch) (dC : Nat → ClassId) (dI : Nat → Nat → Nat) (cyI cyZ : ClassId) (p0 : Int32) : Met l yX5_way wsX5_way ({ frames := 0, cells := 0, slots := 0, locals := 0 }) (bs_R dC dI cyI cyZ [.int p0, .int 0] []) (vp_Si (fun r : Int32 => r = p0)) 0 0 (fun _ => False) := by
  refine Met.ofW (cc := cX5_way) (maxL := 2) (ret := (some .int)) (by decide) rfl ?_
  intro p e s m args below meth c s₁ B hml hv
  obtain ⟨rfl, hB, hP⟩ := hv
  have hK := hB.1
  have hN := hB.2
  have hx := B.exec
  have hb := B.bytes
  have hr := B.returns
  have hts := atoms_spec (ws := wsX5_way) B.pre
  have hown : s.vm.findClass RX5 = some m.cls := findClass_of_methodNamed B.named
  have hlocks := B.notSynchronized
  have hP : va_P (dC, dI) vwCl [] s.heap := hP
  have hl := lv_entry ([.int p0, .int 0]) (n := 2) (Nat.le_of_ble_eq_true rfl)
  rw [lg_entry_eq]
  generalize (lg_sl ([.int p0, .int 0]) ++ List.replicate (2 - (lg_sl ([.int p0, .int 0])).length) Slot.unset).toArray = ls at hl ⊢
  have hl : lv_has ls 2 [(0, .int p0), (1, .int 0)] := hl
  refine lv_iload_n hx hb dX5_way_0 rfl (lv_at hl 0 rfl) ?_
  refine lv_iload_n hx hb dX5_way_1 rfl (lv_at hl 1 rfl) ?_
  refine lv_bipush (v := 10) hx hb dX5_way_2 (by decide) ?_
  refine lv_ishl hx hb dX5_way_4 ?_
  refine lv_topi (fun x_1 ex_1 => ?_)
  obtain rfl : 0 = x_1 := (ex_1.trans (by decide)).symm
  refine lv_ior hx hb dX5_way_5 ?_
  refine lv_topi (fun x_2 ex_2 => ?_)
  obtain rfl : p0 = x_2 := (ex_2.trans (Int32.or_zero)).symm
  exact W.iret (v := p0) hx hb hr (fun t ht hW => ⟨p0, rfl, rfl, ht⟩) (fun q h => by cases h) dX5_way_6

set_option maxHeartbeats 4000000 in
set_option maxRecDepth 100000 in
theorem kX5_standsOf (l : Launch) (dC : Nat → ClassId) (dI : Nat → Nat → Nat) (cyI cyZ : ClassId) (x : Nat) (hx9 : x < 256) : Met l yX5_standsOf wsX5_standsOf ({ frames := 0, cells := 0, slots := 0, locals := 0 }) (bs_R dC dI cyI cyZ [.int (nI x)] []) (vp_Si (fun r : Int32 => r = nI x)) 0 0 (fun _ => False) := by
  refine Met.ofW (cc := cX5_standsOf) (maxL := 1) (ret := (some .int)) (by decide) rfl ?_
  intro p e s m args below meth c s₁ B hml hv
  obtain ⟨rfl, hB, hP⟩ := hv
  have hK := hB.1
  have hN := hB.2
  have hx := B.exec
  have hb := B.bytes
  have hr := B.returns
  have hts := atoms_spec (ws := wsX5_standsOf) B.pre
  have hown : s.vm.findClass RX5 = some m.cls := findClass_of_methodNamed B.named
  have hlocks := B.notSynchronized
  have hP : va_P (dC, dI) vwCl [] s.heap := hP
  have hl := lv_entry ([.int (nI x)]) (n := 1) (Nat.le_of_ble_eq_true rfl)
  rw [lg_entry_eq]
  generalize (lg_sl ([.int (nI x)]) ++ List.replicate (1 - (lg_sl ([.int (nI x)])).length) Slot.unset).toArray = ls at hl ⊢
  have hl : lv_has ls 1 [(0, .int (nI x))] := hl
  refine lv_iload_n hx hb dX5_standsOf_0 rfl (lv_at hl 0 rfl) ?_
  refine lv_sipush (v := 1023) hx hb dX5_standsOf_1 (by decide) ?_
  refine lv_iand hx hb dX5_standsOf_4 ?_
  refine lv_topi (fun x_1 ex_1 => ?_)
  obtain rfl : (nI x) = x_1 := (ex_1.trans (nb_stand hx9)).symm
  exact W.iret (v := (nI x)) hx hb hr (fun t ht hW => ⟨(nI x), rfl, rfl, ht⟩) (fun q h => by cases h) dX5_standsOf_5

set_option maxHeartbeats 4000000 in
set_option maxRecDepth 100000 in
theorem kX5_towersOf (l : Launch) (dC : Nat → ClassId) (dI : Nat → Nat → Nat) (cyI cyZ : ClassId) (p0 : Int32) : Met l yX5_towersOf wsX5_towersOf ({ frames := 0, cells := 0, slots := 0, locals := 0 }) (bs_R dC dI cyI cyZ [.int p0] []) (vp_Si (fun _ : Int32 => True)) 0 0 (fun _ => False) := by
  refine Met.ofW (cc := cX5_towersOf) (maxL := 1) (ret := (some .int)) (by decide) rfl ?_
  intro p e s m args below meth c s₁ B hml hv
  obtain ⟨rfl, hB, hP⟩ := hv
  have hK := hB.1
  have hN := hB.2
  have hx := B.exec
  have hb := B.bytes
  have hr := B.returns
  have hts := atoms_spec (ws := wsX5_towersOf) B.pre
  have hown : s.vm.findClass RX5 = some m.cls := findClass_of_methodNamed B.named
  have hlocks := B.notSynchronized
  have hP : va_P (dC, dI) vwCl [] s.heap := hP
  have hl := lv_entry ([.int p0]) (n := 1) (Nat.le_of_ble_eq_true rfl)
  rw [lg_entry_eq]
  generalize (lg_sl ([.int p0]) ++ List.replicate (1 - (lg_sl ([.int p0])).length) Slot.unset).toArray = ls at hl ⊢
  have hl : lv_has ls 1 [(0, .int p0)] := hl
  refine lv_iload_n hx hb dX5_towersOf_0 rfl (lv_at hl 0 rfl) ?_
  refine lv_bipush (v := 10) hx hb dX5_towersOf_1 (by decide) ?_
  refine lv_ishr hx hb dX5_towersOf_3 ?_
  refine lv_topi (fun x_1 ex_1 => ?_)
  exact W.iret (v := x_1) hx hb hr (fun t ht hW => ⟨x_1, rfl, trivial, ht⟩) (fun q h => by cases h) dX5_towersOf_4

theorem hnX6_isWay_X6 : ∀ w ∈ wsX60, w ∈ wsX6_isWay := fun _ h => List.mem_cons_of_mem _ (List.mem_append_right _ h)
set_option maxHeartbeats 4000000 in
set_option maxRecDepth 100000 in
theorem kX6_isWay (l : Launch) (dC : Nat → ClassId) (dI : Nat → Nat → Nat) (cyI cyZ : ClassId) (wk mo wy nw ol lt es sf sl so la li ru : Nat) (sc d14 d15 d16 d17 d18 : Int32) (p1 : Int32) : Met l yX6_isWay wsX6_isWay ({ frames := 0, cells := 0, slots := 0, locals := 0 }) (bs_R dC dI cyI cyZ [.ref wk, .int p1] [(wk, .inr (4, [.ref mo, .ref wy, .ref nw, .ref ol, .ref lt, .ref es, .ref sf, .ref sl, .ref so, .ref la, .ref li, .ref ru, .int 8, .int sc, .int d14, .int d15, .int d16, .int d17, .int d18, .int 0]))]) (vp_Si (fun r : Int32 => (r = 0 ∨ r = 1) ∧ (r = 1 → 0 ≤ p1.toInt ∧ p1.toInt < 1957) ∧ (0 ≤ p1.toInt → p1.toInt < d14.toInt → p1.toInt < 1957 → r = 1) ∧ (p1.toInt < 0 → r = 0))) 0 0 (fun _ => False) := by
  refine Met.ofW (cc := cX6_isWay) (maxL := 2) (ret := (some .boolean)) (by decide) rfl ?_
  intro p e s m args below meth c s₁ B hml hv
  obtain ⟨rfl, hB, hP⟩ := hv
  have hK := hB.1
  have hN := hB.2
  have hx := B.exec
  have hb := B.bytes
  have hr := B.returns
  have hts := atoms_spec (ws := wsX6_isWay) B.pre
  have hown : s.vm.findClass RX6 = some m.cls := findClass_of_methodNamed B.named
  have hlocks := B.notSynchronized
  have hP : va_P (dC, dI) vwCl [(wk, .inr (4, [.ref mo, .ref wy, .ref nw, .ref ol, .ref lt, .ref es, .ref sf, .ref sl, .ref so, .ref la, .ref li, .ref ru, .int 8, .int sc, .int d14, .int d15, .int d16, .int d17, .int d18, .int 0]))] s.heap := hP
  have hl := lv_entry ([.ref wk, .int p1]) (n := 2) (Nat.le_of_ble_eq_true rfl)
  rw [lg_entry_eq]
  generalize (lg_sl ([.ref wk, .int p1]) ++ List.replicate (2 - (lg_sl ([.ref wk, .int p1])).length) Slot.unset).toArray = ls at hl ⊢
  have hl : lv_has ls 2 [(0, .ref wk), (1, .int p1)] := hl
  refine lv_iload_n hx hb dX6_isWay_0 rfl (lv_at hl 1 rfl) ?_
  refine lv_if_lt (tgt := 23) hx hb dX6_isWay_1 (by decide) (fun c_1 => ?_) (fun c_1 => ?_)
  · skip
    have ic_1 := ci_lt (rfl : Int32.toInt p1 = _) (show Int32.toInt 0 = 0 by decide) c_1
    refine lv_iconst (v := 0) hx hb dX6_isWay_23 (by decide) ?_
    exact W.zret (v := 0) hx hb hr (show narrow .boolean (.int 0) = .int 0 from rfl) (fun t ht hW => ⟨0, rfl, ⟨Or.inl rfl, fun h => absurd h (by decide), fun _ _ _ => by exfalso; omega, fun _ => rfl⟩, ht⟩) (fun q h => by cases h) dX6_isWay_24
  · skip
    have ic_1 := ci_nlt (rfl : Int32.toInt p1 = _) (show Int32.toInt 0 = 0 by decide) c_1
    refine lv_iload_n hx hb dX6_isWay_4 rfl (lv_at hl 1 rfl) ?_
    refine lv_aload_n hx hb dX6_isWay_5 rfl (lv_at hl 0 rfl) ?_
    refine va_get (D := (dC, dI)) (ci := 4) (v := .int d14) (C := RX6) (T := TX6) (N := 20) hx hb hts hnX6_isWay_X6 hown hK hP 0 rfl rfl 14 (by decide) (hts (.fieldLink RX6 64 "RingMeets$Walks" "size" "I") (by decide +kernel)) (fun _ h9 => h9) rfl dX6_isWay_6 ?_
    refine lv_icmp_ge (tgt := 23) hx hb dX6_isWay_9 (by decide) (fun c_2 => ?_) (fun c_2 => ?_)
    · skip
      have ic_2 := ci_le (rfl : Int32.toInt d14 = _) (rfl : Int32.toInt p1 = _) c_2
      refine lv_iconst (v := 0) hx hb dX6_isWay_23 (by decide) ?_
      exact W.zret (v := 0) hx hb hr (show narrow .boolean (.int 0) = .int 0 from rfl) (fun t ht hW => ⟨0, rfl, ⟨Or.inl rfl, fun h => absurd h (by decide), fun _ _ _ => by exfalso; omega, fun _ => rfl⟩, ht⟩) (fun q h => by cases h) dX6_isWay_24
    · skip
      have ic_2 := ci_nle (rfl : Int32.toInt d14 = _) (rfl : Int32.toInt p1 = _) c_2
      refine lv_iload_n hx hb dX6_isWay_12 rfl (lv_at hl 1 rfl) ?_
      refine lv_sipush (v := 1957) hx hb dX6_isWay_13 (by decide) ?_
      refine lv_icmp_ge (tgt := 23) hx hb dX6_isWay_16 (by decide) (fun c_3 => ?_) (fun c_3 => ?_)
      · skip
        have ic_3 := ci_le (show Int32.toInt 1957 = 1957 by decide) (rfl : Int32.toInt p1 = _) c_3
        refine lv_iconst (v := 0) hx hb dX6_isWay_23 (by decide) ?_
        exact W.zret (v := 0) hx hb hr (show narrow .boolean (.int 0) = .int 0 from rfl) (fun t ht hW => ⟨0, rfl, ⟨Or.inl rfl, fun h => absurd h (by decide), fun _ _ _ => by exfalso; omega, fun _ => rfl⟩, ht⟩) (fun q h => by cases h) dX6_isWay_24
      · skip
        have ic_3 := ci_nle (show Int32.toInt 1957 = 1957 by decide) (rfl : Int32.toInt p1 = _) c_3
        refine lv_iconst (v := 1) hx hb dX6_isWay_19 (by decide) ?_
        refine lv_goto (tgt := 24) hx hb dX6_isWay_20 (by decide) ?_
        exact W.zret (v := 1) hx hb hr (show narrow .boolean (.int 1) = .int 1 from rfl) (fun t ht hW => ⟨1, rfl, ⟨Or.inr rfl, fun _ => ⟨by omega, by omega⟩, fun _ _ _ => rfl, fun _ => by exfalso; omega⟩, ht⟩) (fun q h => by cases h) dX6_isWay_24

theorem hnX6_hasMet_X6 : ∀ w ∈ wsX60, w ∈ wsX6_hasMet := fun _ h => List.mem_cons_of_mem _ (List.mem_append_right _ h)
set_option maxHeartbeats 4000000 in
set_option maxRecDepth 100000 in
theorem kX6_hasMet (l : Launch) (dC : Nat → ClassId) (dI : Nat → Nat → Nat) (cyI cyZ : ClassId) (wk mo wy nw ol lt es sf sl so la li ru : Nat) (sc d15 d16 d17 d18 : Int32) (z : Nat) (hz : z ≤ 256) (nn : Int32) (wf : Nat → Int32) (hw : ∀ i, i < z → ∃ x, x < 256 ∧ nb_bc (nI x) = nn ∧ wf i = nI x) (i : Nat) (hi : i < z) : Met l yX6_hasMet wsX6_hasMet ({ frames := 1, cells := 0, slots := 0, locals := 21 }) (bs_R dC dI cyI cyZ [.ref wk, .int (nI i)] [(wk, .inr (4, [.ref mo, .ref wy, .ref nw, .ref ol, .ref lt, .ref es, .ref sf, .ref sl, .ref so, .ref la, .ref li, .ref ru, .int 8, .int sc, .int (nI z), .int d15, .int d16, .int d17, .int d18, .int 0])), (wy, .inl (cyI, 1957, .inl wf))]) (vp_Si (fun r : Int32 => r = if nn = 1 then 1 else 0)) 0 0 (fun _ => False) := by
  refine Met.ofW (cc := cX6_hasMet) (maxL := 2) (ret := (some .boolean)) (by decide) rfl ?_
  intro p e s m args below meth c s₁ B hml hv
  obtain ⟨rfl, hB, hP⟩ := hv
  have hK := hB.1
  have hN := hB.2
  have hx := B.exec
  have hb := B.bytes
  have hr := B.returns
  have hts := atoms_spec (ws := wsX6_hasMet) B.pre
  have hown : s.vm.findClass RX6 = some m.cls := findClass_of_methodNamed B.named
  have hlocks := B.notSynchronized
  have hP : va_P (dC, dI) vwCl [(wk, .inr (4, [.ref mo, .ref wy, .ref nw, .ref ol, .ref lt, .ref es, .ref sf, .ref sl, .ref so, .ref la, .ref li, .ref ru, .int 8, .int sc, .int (nI z), .int d15, .int d16, .int d17, .int d18, .int 0])), (wy, .inl (cyI, 1957, .inl wf))] s.heap := hP
  have hl := lv_entry ([.ref wk, .int (nI i)]) (n := 2) (Nat.le_of_ble_eq_true rfl)
  rw [lg_entry_eq]
  generalize (lg_sl ([.ref wk, .int (nI i)]) ++ List.replicate (2 - (lg_sl ([.ref wk, .int (nI i)])).length) Slot.unset).toArray = ls at hl ⊢
  have hl : lv_has ls 2 [(0, .ref wk), (1, .int (nI i))] := hl
  obtain ⟨x, hx9, hbx, hwx⟩ := hw i hi
  refine lv_aload_n hx hb dX6_hasMet_0 rfl (lv_at hl 0 rfl) ?_
  refine lv_iload_n hx hb dX6_hasMet_1 rfl (lv_at hl 1 rfl) ?_
  refine vp_callSi (va_Run.run (va_runV (As := [.int (nI i)]) (rest := []) ⟨hx, hb, hml, hown, hts⟩ (kX6_isWay l dC dI cyI cyZ wk mo wy nw ol lt es sf sl so la li ru sc (nI z) d15 d16 d17 d18 (nI i)) (cwV 1 hts gX6_hasMet_X6_isWay rfl rfl rfl (by decide +kernel) ⟨Nat.le_of_ble_eq_true rfl, Nat.le_of_ble_eq_true rfl⟩) (bs_RV hB (hP.sub (ws' := [(wk, .inr (4, [.ref mo, .ref wy, .ref nw, .ref ol, .ref lt, .ref es, .ref sf, .ref sl, .ref so, .ref la, .ref li, .ref ru, .int 8, .int sc, .int (nI z), .int d15, .int d16, .int d17, .int d18, .int 0]))]) [0] rfl) 0 rfl rfl) rfl rfl hl.1 rfl (lv_room (Nat.le_of_ble_eq_true rfl)) dX6_hasMet_2 ⟨Nat.le_of_ble_eq_true rfl, Nat.le_of_ble_eq_true rfl⟩)) (fun r_1 hr_1 => ?_)
  obtain rfl : 1 = r_1 := Eq.symm (hr_1.2.2.1 (by rw [nI_toInt (n := i) (by omega)]; omega) (by rw [nI_toInt (n := i) (by omega), nI_toInt (n := z) (by omega)]; omega) (by rw [nI_toInt (n := i) (by omega)]; omega))
  refine lv_if_eq (tgt := 28) hx hb dX6_hasMet_5 (by decide) (fun c_2 => ?_) (fun c_2 => ?_)
  · skip
    exact absurd c_2 (by decide)
  · skip
    refine lv_aload_n hx hb dX6_hasMet_8 rfl (lv_at hl 0 rfl) ?_
    refine va_get (D := (dC, dI)) (ci := 4) (v := .ref wy) (C := RX6) (T := TX6) (N := 20) hx hb hts hnX6_hasMet_X6 hown hK hP 0 rfl rfl 1 (by decide) (hts (.fieldLink RX6 18 "RingMeets$Walks" "ways" "[I") (by decide +kernel)) (fun _ h9 => h9) rfl dX6_hasMet_9 ?_
    refine lv_iload_n hx hb dX6_hasMet_12 rfl (lv_at hl 1 rfl) ?_
    refine va_iald (D := (dC, dI)) hx hb hK hP 1 0 rfl rfl (vp_in_nI (n := i) (N := 1957) (by omega) (by omega)) dX6_hasMet_13 ?_
    refine lv_topi (fun x_3 ex_3 => ?_)
    rw [nI_clamp (n := i) (by omega)] at ex_3
    obtain rfl : (nI x) = x_3 := (ex_3.trans (hwx)).symm
    refine vp_callSi (va_Run.run (va_runS (As := [.int (nI x)]) (rest := []) ⟨hx, hb, hml, hown, hts⟩ (kX5_standsOf l dC dI cyI cyZ x (by omega)) (va_cwS 1 hts gX6_hasMet_X5_standsOf rfl rfl rfl (by decide +kernel) ⟨Nat.le_of_ble_eq_true rfl, Nat.le_of_ble_eq_true rfl⟩) (bs_RS hB (hP.sub (ws' := []) [] rfl)) rfl rfl hl.1 rfl (lv_room (Nat.le_of_ble_eq_true rfl)) dX6_hasMet_14 ⟨Nat.le_of_ble_eq_true rfl, Nat.le_of_ble_eq_true rfl⟩)) (fun r_4 hr_4 => ?_)
    obtain rfl : (nI x) = r_4 := Eq.symm hr_4
    refine vp_callSi (va_Run.run (va_runS (As := [.int (nI x)]) (rest := []) ⟨hx, hb, hml, hown, hts⟩ (kJ6_bitCount_0f7a4 l dC dI cyI cyZ (nI x)) (va_cwS 1 hts gX6_hasMet_J6_bitCount_0f7a4 rfl rfl rfl (by decide +kernel) ⟨Nat.le_of_ble_eq_true rfl, Nat.le_of_ble_eq_true rfl⟩) (bs_RS hB (hP.sub (ws' := []) [] rfl)) rfl rfl hl.1 rfl (lv_room (Nat.le_of_ble_eq_true rfl)) dX6_hasMet_17 ⟨Nat.le_of_ble_eq_true rfl, Nat.le_of_ble_eq_true rfl⟩)) (fun r_5 hr_5 => ?_)
    refine lv_iconst (v := 1) hx hb dX6_hasMet_20 (by decide) ?_
    refine lv_icmp_ne (tgt := 28) hx hb dX6_hasMet_21 (by decide) (fun c_6 => ?_) (fun c_6 => ?_)
    · skip
      have ic_6 := ci_ne (rfl : Int32.toInt r_5 = _) (show Int32.toInt 1 = 1 by decide) c_6
      refine lv_iconst (v := 0) hx hb dX6_hasMet_28 (by decide) ?_
      exact W.zret (v := 0) hx hb hr (show narrow .boolean (.int 0) = .int 0 from rfl) (fun t ht hW => ⟨0, rfl, (show (0 : Int32) = if nn = 1 then 1 else 0 by rw [if_neg (by rw [← hbx, ← hr_5]; exact c_6)]), ht⟩) (fun q h => by cases h) dX6_hasMet_29
    · skip
      have ic_6 := ci_eq (rfl : Int32.toInt r_5 = _) (show Int32.toInt 1 = 1 by decide) c_6
      refine lv_iconst (v := 1) hx hb dX6_hasMet_24 (by decide) ?_
      refine lv_goto (tgt := 29) hx hb dX6_hasMet_25 (by decide) ?_
      exact W.zret (v := 1) hx hb hr (show narrow .boolean (.int 1) = .int 1 from rfl) (fun t ht hW => ⟨1, rfl, (show (1 : Int32) = if nn = 1 then 1 else 0 by rw [if_pos (by rw [← hbx, ← hr_5]; exact c_6)]), ht⟩) (fun q h => by cases h) dX6_hasMet_29

theorem hnX6_find_X6 : ∀ w ∈ wsX60, w ∈ wsX6_find := fun _ h => List.mem_cons_of_mem _ (List.mem_append_right _ h)
set_option maxHeartbeats 4000000 in
set_option maxRecDepth 100000 in
theorem kX6_find (l : Launch) (dC : Nat → ClassId) (dI : Nat → Nat → Nat) (cyI cyZ : ClassId) (wk mo wy nw ol lt es sf sl so la li ru : Nat) (sc d15 d16 d17 d18 : Int32) (z : Nat) (hz : z ≤ 256) (nf : Nat → Int32) (x : Nat) (hx9 : x < 256) (hnx : nf x = -1) : Met l yX6_find wsX6_find ({ frames := 1, cells := 0, slots := 0, locals := 21 }) (bs_R dC dI cyI cyZ [.ref wk, .int (nI x)] [(wk, .inr (4, [.ref mo, .ref wy, .ref nw, .ref ol, .ref lt, .ref es, .ref sf, .ref sl, .ref so, .ref la, .ref li, .ref ru, .int 8, .int sc, .int (nI z), .int d15, .int d16, .int d17, .int d18, .int 0])), (nw, .inl (cyI, 1024, .inl nf))]) (vp_Si (fun r : Int32 => r = -1)) 0 0 (fun _ => False) := by
  refine Met.ofW (cc := cX6_find) (maxL := 4) (ret := (some .int)) (by decide) rfl ?_
  intro p e s m args below meth c s₁ B hml hv
  obtain ⟨rfl, hB, hP⟩ := hv
  have hK := hB.1
  have hN := hB.2
  have hx := B.exec
  have hb := B.bytes
  have hr := B.returns
  have hts := atoms_spec (ws := wsX6_find) B.pre
  have hown : s.vm.findClass RX6 = some m.cls := findClass_of_methodNamed B.named
  have hlocks := B.notSynchronized
  have hP : va_P (dC, dI) vwCl [(wk, .inr (4, [.ref mo, .ref wy, .ref nw, .ref ol, .ref lt, .ref es, .ref sf, .ref sl, .ref so, .ref la, .ref li, .ref ru, .int 8, .int sc, .int (nI z), .int d15, .int d16, .int d17, .int d18, .int 0])), (nw, .inl (cyI, 1024, .inl nf))] s.heap := hP
  have hl := lv_entry ([.ref wk, .int (nI x)]) (n := 4) (Nat.le_of_ble_eq_true rfl)
  rw [lg_entry_eq]
  generalize (lg_sl ([.ref wk, .int (nI x)]) ++ List.replicate (4 - (lg_sl ([.ref wk, .int (nI x)])).length) Slot.unset).toArray = ls at hl ⊢
  have hl : lv_has ls 4 [(0, .ref wk), (1, .int (nI x))] := hl
  refine lv_aload_n hx hb dX6_find_0 rfl (lv_at hl 0 rfl) ?_
  refine va_get (D := (dC, dI)) (ci := 4) (v := .ref nw) (C := RX6) (T := TX6) (N := 20) hx hb hts hnX6_find_X6 hown hK hP 0 rfl rfl 2 (by decide) (hts (.fieldLink RX6 22 "RingMeets$Walks" "newest" "[I") (by decide +kernel)) (fun _ h9 => h9) rfl dX6_find_1 ?_
  refine lv_iload_n hx hb dX6_find_4 rfl (lv_at hl 1 rfl) ?_
  refine vp_callSi (va_Run.run (va_runS (As := [.int (nI x)]) (rest := [.ref nw]) ⟨hx, hb, hml, hown, hts⟩ (kX5_standsOf l dC dI cyI cyZ x (by omega)) (va_cwS 1 hts gX6_find_X5_standsOf rfl rfl rfl (by decide +kernel) ⟨Nat.le_of_ble_eq_true rfl, Nat.le_of_ble_eq_true rfl⟩) (bs_RS hB (hP.sub (ws' := []) [] rfl)) rfl rfl hl.1 rfl (lv_room (Nat.le_of_ble_eq_true rfl)) dX6_find_5 ⟨Nat.le_of_ble_eq_true rfl, Nat.le_of_ble_eq_true rfl⟩)) (fun r_1 hr_1 => ?_)
  obtain rfl : (nI x) = r_1 := Eq.symm hr_1
  refine va_iald (D := (dC, dI)) hx hb hK hP 1 0 rfl rfl (vp_in_nI (n := x) (N := 1024) (by omega) (by omega)) dX6_find_8 ?_
  refine lv_topi (fun x_2 ex_2 => ?_)
  rw [nI_clamp (n := x) (by omega)] at ex_2
  obtain rfl : (-1) = x_2 := (ex_2.trans (hnx)).symm
  refine lv_istore_n (lv' := [(2, .int (-1)), (0, .ref wk), (1, .int (nI x))]) hx hb dX6_find_9 rfl hl (by decide) rfl (fun ls hl => ?_)
  refine lv_iconst (v := 0) hx hb dX6_find_10 (by decide) ?_
  refine lv_istore_n (lv' := [(3, .int 0), (2, .int (-1)), (0, .ref wk), (1, .int (nI x))]) hx hb dX6_find_11 rfl hl (by decide) rfl (fun ls hl => ?_)
  refine lv_iload_n hx hb dX6_find_12 rfl (lv_at hl 0 rfl) ?_
  refine lv_aload_n hx hb dX6_find_13 rfl (lv_at hl 2 rfl) ?_
  refine va_get (D := (dC, dI)) (ci := 4) (v := .int (nI z)) (C := RX6) (T := TX6) (N := 20) hx hb hts hnX6_find_X6 hown hK hP 0 rfl rfl 14 (by decide) (hts (.fieldLink RX6 64 "RingMeets$Walks" "size" "I") (by decide +kernel)) (fun _ h9 => h9) rfl dX6_find_14 ?_
  refine lv_icmp_ge (tgt := 53) hx hb dX6_find_17 (by decide) (fun c_3 => ?_) (fun c_3 => ?_)
  · skip
    have ic_3 := ci_le (nI_toInt (n := z) (by omega)) (show Int32.toInt 0 = 0 by decide) c_3
    refine lv_iconst (v := (-1)) hx hb dX6_find_53 (by decide) ?_
    exact W.iret (v := (-1)) hx hb hr (fun t ht hW => ⟨(-1), rfl, rfl, ht⟩) (fun q h => by cases h) dX6_find_54
  · skip
    have ic_3 := ci_nle (nI_toInt (n := z) (by omega)) (show Int32.toInt 0 = 0 by decide) c_3
    refine lv_aload_n hx hb dX6_find_20 rfl (lv_at hl 2 rfl) ?_
    refine lv_iload_n hx hb dX6_find_21 rfl (lv_at hl 1 rfl) ?_
    refine vp_callSi (va_Run.run (va_runV (As := [.int (-1)]) (rest := []) ⟨hx, hb, hml, hown, hts⟩ (kX6_isWay l dC dI cyI cyZ wk mo wy nw ol lt es sf sl so la li ru sc (nI z) d15 d16 d17 d18 (-1)) (cwV 1 hts gX6_find_X6_isWay rfl rfl rfl (by decide +kernel) ⟨Nat.le_of_ble_eq_true rfl, Nat.le_of_ble_eq_true rfl⟩) (bs_RV hB (hP.sub (ws' := [(wk, .inr (4, [.ref mo, .ref wy, .ref nw, .ref ol, .ref lt, .ref es, .ref sf, .ref sl, .ref so, .ref la, .ref li, .ref ru, .int 8, .int sc, .int (nI z), .int d15, .int d16, .int d17, .int d18, .int 0]))]) [0] rfl) 0 rfl rfl) rfl rfl hl.1 rfl (lv_room (Nat.le_of_ble_eq_true rfl)) dX6_find_22 ⟨Nat.le_of_ble_eq_true rfl, Nat.le_of_ble_eq_true rfl⟩)) (fun r_4 hr_4 => ?_)
    obtain rfl : 0 = r_4 := Eq.symm (hr_4.2.2.2 (by decide))
    refine lv_if_eq (tgt := 53) hx hb dX6_find_25 (by decide) (fun c_5 => ?_) (fun c_5 => ?_)
    · skip
      refine lv_iconst (v := (-1)) hx hb dX6_find_53 (by decide) ?_
      exact W.iret (v := (-1)) hx hb hr (fun t ht hW => ⟨(-1), rfl, rfl, ht⟩) (fun q h => by cases h) dX6_find_54
    · skip
      exact absurd c_5 (by decide)

theorem hnX6_add_X6 : ∀ w ∈ wsX60, w ∈ wsX6_add := fun _ h => List.mem_cons_of_mem _ (List.mem_append_right _ h)
set_option maxHeartbeats 4000000 in
set_option maxRecDepth 100000 in
theorem kX6_add (l : Launch) (dC : Nat → ClassId) (dI : Nat → Nat → Nat) (cyI cyZ : ClassId) (wk mo wy nw ol lt es sf sl so la li ru : Nat) (sc d15 d16 d17 d18 : Int32) (z : Nat) (hz : z ≤ 256) (wf nf of lf sv : Nat → Int32) (x : Nat) (hx9 : x < 256) (hnx : nf x = -1) (sz : Nat) : Met l yX6_add wsX6_add ({ frames := 2, cells := 0, slots := 0, locals := 44 }) (bs_W dC dI cyI cyZ [.ref wk, .int (nI x)] [(wk, .inr (4, [.ref mo, .ref wy, .ref nw, .ref ol, .ref lt, .ref es, .ref sf, .ref sl, .ref so, .ref la, .ref li, .ref ru, .int 8, .int sc, .int (nI z), .int d15, .int d16, .int d17, .int d18, .int 0])), (wy, .inl (cyI, 1957, .inl wf)), (nw, .inl (cyI, 1024, .inl nf)), (ol, .inl (cyI, 1957, .inl of)), (lt, .inl (cyI, 1957, .inl lf)), (sl, .inl (cyI, 1957, .inl sv))] sz) (va_Qi (S := (Nat → Int32) × (Nat → Int32) × (Nat → Int32) × (Nat → Int32) × (Nat → Int32)) (fun (_ : Int32) (q : (Nat → Int32) × (Nat → Int32) × (Nat → Int32) × (Nat → Int32) × (Nat → Int32)) => q.1 = upd wf z (nI x) ∧ q.2.1 = upd nf x (nI z)) (fun q t => bs_E dC dI (va_A [(wk, .inr (4, [.ref mo, .ref wy, .ref nw, .ref ol, .ref lt, .ref es, .ref sf, .ref sl, .ref so, .ref la, .ref li, .ref ru, .int 8, .int sc, .int (nI z), .int d15, .int d16, .int d17, .int d18, .int 0])), (wy, .inl (cyI, 1957, .inl wf)), (nw, .inl (cyI, 1024, .inl nf)), (ol, .inl (cyI, 1957, .inl of)), (lt, .inl (cyI, 1957, .inl lf)), (sl, .inl (cyI, 1957, .inl sv))] sz) [(wk, .inr (4, [.ref mo, .ref wy, .ref nw, .ref ol, .ref lt, .ref es, .ref sf, .ref sl, .ref so, .ref la, .ref li, .ref ru, .int 8, .int sc, .int (nI (z + 1)), .int d15, .int d16, .int d17, .int d18, .int 0])), (wy, .inl (cyI, 1957, .inl q.1)), (nw, .inl (cyI, 1024, .inl q.2.1)), (ol, .inl (cyI, 1957, .inl q.2.2.1)), (lt, .inl (cyI, 1957, .inl q.2.2.2.1)), (sl, .inl (cyI, 1957, .inl q.2.2.2.2))] t) (va_A [(wk, .inr (4, [.ref mo, .ref wy, .ref nw, .ref ol, .ref lt, .ref es, .ref sf, .ref sl, .ref so, .ref la, .ref li, .ref ru, .int 8, .int sc, .int (nI z), .int d15, .int d16, .int d17, .int d18, .int 0])), (wy, .inl (cyI, 1957, .inl wf)), (nw, .inl (cyI, 1024, .inl nf)), (ol, .inl (cyI, 1957, .inl of)), (lt, .inl (cyI, 1957, .inl lf)), (sl, .inl (cyI, 1957, .inl sv))] sz)) 0 0 (va_A [(wk, .inr (4, [.ref mo, .ref wy, .ref nw, .ref ol, .ref lt, .ref es, .ref sf, .ref sl, .ref so, .ref la, .ref li, .ref ru, .int 8, .int sc, .int (nI z), .int d15, .int d16, .int d17, .int d18, .int 0])), (wy, .inl (cyI, 1957, .inl wf)), (nw, .inl (cyI, 1024, .inl nf)), (ol, .inl (cyI, 1957, .inl of)), (lt, .inl (cyI, 1957, .inl lf)), (sl, .inl (cyI, 1957, .inl sv))] sz) := by
  refine Met.ofW (cc := cX6_add) (maxL := 5) (ret := (some .int)) (by decide) rfl ?_
  intro p e s m args below meth c s₁ B hml hv
  obtain ⟨rfl, hsz, hB, hP, hD0⟩ := hv
  have hK := hB.1
  have hN := hB.2
  have hx := B.exec
  have hb := B.bytes
  have hr := B.returns
  have hts := atoms_spec (ws := wsX6_add) B.pre
  have hown : s.vm.findClass RX6 = some m.cls := findClass_of_methodNamed B.named
  have hlocks := B.notSynchronized
  subst hsz
  have hD := hD0.self (sz := s.heap.size)
  generalize hAe : va_A [(wk, .inr (4, [.ref mo, .ref wy, .ref nw, .ref ol, .ref lt, .ref es, .ref sf, .ref sl, .ref so, .ref la, .ref li, .ref ru, .int 8, .int sc, .int (nI z), .int d15, .int d16, .int d17, .int d18, .int 0])), (wy, .inl (cyI, 1957, .inl wf)), (nw, .inl (cyI, 1024, .inl nf)), (ol, .inl (cyI, 1957, .inl of)), (lt, .inl (cyI, 1957, .inl lf)), (sl, .inl (cyI, 1957, .inl sv))] s.heap.size = A at hD ⊢
  have hA : ∀ q : Nat, s.heap.size ≤ q → A q := fun q h => by rw [← hAe]; exact Or.inr h
  have hS : va_S A s.heap s.heap [] := va_S.rf
  have hP : va_P (dC, dI) vwCl [(wk, .inr (4, [.ref mo, .ref wy, .ref nw, .ref ol, .ref lt, .ref es, .ref sf, .ref sl, .ref so, .ref la, .ref li, .ref ru, .int 8, .int sc, .int (nI z), .int d15, .int d16, .int d17, .int d18, .int 0])), (wy, .inl (cyI, 1957, .inl wf)), (nw, .inl (cyI, 1024, .inl nf)), (ol, .inl (cyI, 1957, .inl of)), (lt, .inl (cyI, 1957, .inl lf)), (sl, .inl (cyI, 1957, .inl sv))] s.heap := hP
  have hl := lv_entry ([.ref wk, .int (nI x)]) (n := 5) (Nat.le_of_ble_eq_true rfl)
  rw [lg_entry_eq]
  generalize (lg_sl ([.ref wk, .int (nI x)]) ++ List.replicate (5 - (lg_sl ([.ref wk, .int (nI x)])).length) Slot.unset).toArray = ls at hl ⊢
  have hl : lv_has ls 5 [(0, .ref wk), (1, .int (nI x))] := hl
  refine lv_aload_n hx hb dX6_add_0 rfl (lv_at hl 0 rfl) ?_
  refine lv_iload_n hx hb dX6_add_1 rfl (lv_at hl 1 rfl) ?_
  refine vp_callSi (va_Run.run (va_runV (As := [.int (nI x)]) (rest := []) ⟨hx, hb, hml, hown, hts⟩ (kX6_find l dC dI cyI cyZ wk mo wy nw ol lt es sf sl so la li ru sc d15 d16 d17 d18 z hz nf x hx9 hnx) (cwV 1 hts gX6_add_X6_find rfl rfl rfl (by decide +kernel) ⟨Nat.le_of_ble_eq_true rfl, Nat.le_of_ble_eq_true rfl⟩) (bs_RV hB (hP.sub (ws' := [(wk, .inr (4, [.ref mo, .ref wy, .ref nw, .ref ol, .ref lt, .ref es, .ref sf, .ref sl, .ref so, .ref la, .ref li, .ref ru, .int 8, .int sc, .int (nI z), .int d15, .int d16, .int d17, .int d18, .int 0])), (nw, .inl (cyI, 1024, .inl nf))]) [0, 2] rfl) 0 rfl rfl) rfl rfl hl.1 rfl (lv_room (Nat.le_of_ble_eq_true rfl)) dX6_add_2 ⟨Nat.le_of_ble_eq_true rfl, Nat.le_of_ble_eq_true rfl⟩)) (fun r_1 hr_1 => ?_)
  obtain rfl : (-1) = r_1 := Eq.symm hr_1
  refine lv_istore_n (lv' := [(2, .int (-1)), (0, .ref wk), (1, .int (nI x))]) hx hb dX6_add_5 rfl hl (by decide) rfl (fun ls hl => ?_)
  refine lv_iload_n hx hb dX6_add_6 rfl (lv_at hl 0 rfl) ?_
  refine lv_if_ge (tgt := 20) hx hb dX6_add_7 (by decide) (fun c_2 => ?_) (fun c_2 => ?_)
  · skip
    exact absurd c_2 (by decide)
  · skip
    refine lv_aload_n hx hb dX6_add_10 rfl (lv_at hl 1 rfl) ?_
    refine va_get (D := (dC, dI)) (ci := 4) (v := .int (nI z)) (C := RX6) (T := TX6) (N := 20) hx hb hts hnX6_add_X6 hown hK hP 0 rfl rfl 14 (by decide) (hts (.fieldLink RX6 64 "RingMeets$Walks" "size" "I") (by decide +kernel)) (fun _ h9 => h9) rfl dX6_add_11 ?_
    refine lv_sipush (v := 1957) hx hb dX6_add_14 (by decide) ?_
    refine lv_icmp_lt (tgt := 22) hx hb dX6_add_17 (by decide) (fun c_3 => ?_) (fun c_3 => ?_)
    · skip
      have ic_3 := ci_lt (nI_toInt (n := z) (by omega)) (show Int32.toInt 1957 = 1957 by decide) c_3
      refine lv_aload_n hx hb dX6_add_22 rfl (lv_at hl 1 rfl) ?_
      refine va_get (D := (dC, dI)) (ci := 4) (v := .int (nI z)) (C := RX6) (T := TX6) (N := 20) hx hb hts hnX6_add_X6 hown hK hP 0 rfl rfl 14 (by decide) (hts (.fieldLink RX6 64 "RingMeets$Walks" "size" "I") (by decide +kernel)) (fun _ h9 => h9) rfl dX6_add_23 ?_
      refine lv_istore_n (lv' := [(3, .int (nI z)), (2, .int (-1)), (0, .ref wk), (1, .int (nI x))]) hx hb dX6_add_26 rfl hl (by decide) rfl (fun ls hl => ?_)
      refine lv_iload_n hx hb dX6_add_27 rfl (lv_at hl 3 rfl) ?_
      refine vp_callSi (va_Run.run (va_runS (As := [.int (nI x)]) (rest := []) ⟨hx, hb, hml, hown, hts⟩ (kX5_standsOf l dC dI cyI cyZ x (by omega)) (va_cwS 1 hts gX6_add_X5_standsOf rfl rfl rfl (by decide +kernel) ⟨Nat.le_of_ble_eq_true rfl, Nat.le_of_ble_eq_true rfl⟩) (bs_RS hB (hP.sub (ws' := []) [] rfl)) rfl rfl hl.1 rfl (lv_room (Nat.le_of_ble_eq_true rfl)) dX6_add_28 ⟨Nat.le_of_ble_eq_true rfl, Nat.le_of_ble_eq_true rfl⟩)) (fun r_4 hr_4 => ?_)
      obtain rfl : (nI x) = r_4 := Eq.symm hr_4
      refine lv_istore (lv' := [(4, .int (nI x)), (3, .int (nI z)), (2, .int (-1)), (0, .ref wk), (1, .int (nI x))]) hx hb dX6_add_31 hl (by decide) rfl (fun ls hl => ?_)
      refine lv_aload_n hx hb dX6_add_33 rfl (lv_at hl 3 rfl) ?_
      refine lv_dup hx hb dX6_add_34 rfl ?_
      refine va_get (D := (dC, dI)) (ci := 4) (v := .int (nI z)) (C := RX6) (T := TX6) (N := 20) hx hb hts hnX6_add_X6 hown hK hP 0 rfl rfl 14 (by decide) (hts (.fieldLink RX6 64 "RingMeets$Walks" "size" "I") (by decide +kernel)) (fun _ h9 => h9) rfl dX6_add_35 ?_
      refine lv_iconst (v := 1) hx hb dX6_add_38 (by decide) ?_
      refine lv_iadd hx hb dX6_add_39 ?_
      refine lv_topi (fun x_5 ex_5 => ?_)
      obtain rfl : (nI (z + 1)) = x_5 := (ex_5.trans (nI_1 _)).symm
      refine va_put (D := (dC, dI)) (ci := 4) (v := .int (nI (z + 1))) (ty := .int) (C := RX6) (T := TX6) (N := 20) hx hb hts hnX6_add_X6 tyX6 tyX6_ok nmX6 hown hK hP hD hS 0 rfl rfl 14 (by decide) (hts (.fieldLink RX6 64 "RingMeets$Walks" "size" "I") (by decide +kernel)) (fun _ h9 => h9) rfl (by decide +kernel) rfl rfl (Nat.le_of_ble_eq_true rfl) dX6_add_40 (fun H locs hP hD hS => ?_)
      have hP : va_P (dC, dI) vwCl [(wk, .inr (4, [.ref mo, .ref wy, .ref nw, .ref ol, .ref lt, .ref es, .ref sf, .ref sl, .ref so, .ref la, .ref li, .ref ru, .int 8, .int sc, .int (nI (z + 1)), .int d15, .int d16, .int d17, .int d18, .int 0])), (wy, .inl (cyI, 1957, .inl wf)), (nw, .inl (cyI, 1024, .inl nf)), (ol, .inl (cyI, 1957, .inl of)), (lt, .inl (cyI, 1957, .inl lf)), (sl, .inl (cyI, 1957, .inl sv))] _ := hP
      have hD : va_D A [(wk, .inr (4, [.ref mo, .ref wy, .ref nw, .ref ol, .ref lt, .ref es, .ref sf, .ref sl, .ref so, .ref la, .ref li, .ref ru, .int 8, .int sc, .int (nI (z + 1)), .int d15, .int d16, .int d17, .int d18, .int 0])), (wy, .inl (cyI, 1957, .inl wf)), (nw, .inl (cyI, 1024, .inl nf)), (ol, .inl (cyI, 1957, .inl of)), (lt, .inl (cyI, 1957, .inl lf)), (sl, .inl (cyI, 1957, .inl sv))] := hD
      refine lv_aload_n hx hb dX6_add_43 rfl (lv_at hl 3 rfl) ?_
      refine va_get (D := (dC, dI)) (ci := 4) (v := .ref wy) (C := RX6) (T := TX6) (N := 20) hx hb hts hnX6_add_X6 hown hK hP 0 rfl rfl 1 (by decide) (hts (.fieldLink RX6 18 "RingMeets$Walks" "ways" "[I") (by decide +kernel)) (fun _ h9 => h9) rfl dX6_add_44 ?_
      refine lv_iload_n hx hb dX6_add_47 rfl (lv_at hl 1 rfl) ?_
      refine lv_iload_n hx hb dX6_add_48 rfl (lv_at hl 4 rfl) ?_
      refine va_iast (D := (dC, dI)) hx hb hK hP hD hS 1 0 rfl rfl (vp_in_nI (n := z) (N := 1957) (by omega) (by omega)) dX6_add_49 (fun H locs hP hD hS => ?_)
      obtain ⟨g_6, eg_6⟩ : ∃ y : Nat → Int32, y = upd wf (Int32.toNatClampNeg (nI z)) (nI x) := ⟨_, rfl⟩
      have hP : va_P (dC, dI) vwCl [(wk, .inr (4, [.ref mo, .ref wy, .ref nw, .ref ol, .ref lt, .ref es, .ref sf, .ref sl, .ref so, .ref la, .ref li, .ref ru, .int 8, .int sc, .int (nI (z + 1)), .int d15, .int d16, .int d17, .int d18, .int 0])), (wy, .inl (cyI, 1957, .inl g_6)), (nw, .inl (cyI, 1024, .inl nf)), (ol, .inl (cyI, 1957, .inl of)), (lt, .inl (cyI, 1957, .inl lf)), (sl, .inl (cyI, 1957, .inl sv))] H := by rw [eg_6]; exact hP
      have hD : va_D A [(wk, .inr (4, [.ref mo, .ref wy, .ref nw, .ref ol, .ref lt, .ref es, .ref sf, .ref sl, .ref so, .ref la, .ref li, .ref ru, .int 8, .int sc, .int (nI (z + 1)), .int d15, .int d16, .int d17, .int d18, .int 0])), (wy, .inl (cyI, 1957, .inl g_6)), (nw, .inl (cyI, 1024, .inl nf)), (ol, .inl (cyI, 1957, .inl of)), (lt, .inl (cyI, 1957, .inl lf)), (sl, .inl (cyI, 1957, .inl sv))] := by rw [eg_6]; exact hD
      rw [nI_clamp (n := z) (by omega)] at eg_6
      refine lv_aload_n hx hb dX6_add_50 rfl (lv_at hl 3 rfl) ?_
      refine va_get (D := (dC, dI)) (ci := 4) (v := .ref ol) (C := RX6) (T := TX6) (N := 20) hx hb hts hnX6_add_X6 hown hK hP 0 rfl rfl 3 (by decide) (hts (.fieldLink RX6 25 "RingMeets$Walks" "older" "[I") (by decide +kernel)) (fun _ h9 => h9) rfl dX6_add_51 ?_
      refine lv_iload_n hx hb dX6_add_54 rfl (lv_at hl 1 rfl) ?_
      refine lv_aload_n hx hb dX6_add_55 rfl (lv_at hl 3 rfl) ?_
      refine va_get (D := (dC, dI)) (ci := 4) (v := .ref nw) (C := RX6) (T := TX6) (N := 20) hx hb hts hnX6_add_X6 hown hK hP 0 rfl rfl 2 (by decide) (hts (.fieldLink RX6 22 "RingMeets$Walks" "newest" "[I") (by decide +kernel)) (fun _ h9 => h9) rfl dX6_add_56 ?_
      refine lv_iload hx hb dX6_add_59 (lv_at hl 0 rfl) ?_
      refine va_iald (D := (dC, dI)) hx hb hK hP 2 0 rfl rfl (vp_in_nI (n := x) (N := 1024) (by omega) (by omega)) dX6_add_61 ?_
      refine lv_topi (fun x_7 ex_7 => ?_)
      rw [nI_clamp (n := x) (by omega)] at ex_7
      obtain rfl : (-1) = x_7 := (ex_7.trans (hnx)).symm
      refine va_iast (D := (dC, dI)) hx hb hK hP hD hS 3 0 rfl rfl (vp_in_nI (n := z) (N := 1957) (by omega) (by omega)) dX6_add_62 (fun H locs hP hD hS => ?_)
      obtain ⟨g_8, eg_8⟩ : ∃ y : Nat → Int32, y = upd of (Int32.toNatClampNeg (nI z)) (-1) := ⟨_, rfl⟩
      have hP : va_P (dC, dI) vwCl [(wk, .inr (4, [.ref mo, .ref wy, .ref nw, .ref ol, .ref lt, .ref es, .ref sf, .ref sl, .ref so, .ref la, .ref li, .ref ru, .int 8, .int sc, .int (nI (z + 1)), .int d15, .int d16, .int d17, .int d18, .int 0])), (wy, .inl (cyI, 1957, .inl g_6)), (nw, .inl (cyI, 1024, .inl nf)), (ol, .inl (cyI, 1957, .inl g_8)), (lt, .inl (cyI, 1957, .inl lf)), (sl, .inl (cyI, 1957, .inl sv))] H := by rw [eg_8]; exact hP
      have hD : va_D A [(wk, .inr (4, [.ref mo, .ref wy, .ref nw, .ref ol, .ref lt, .ref es, .ref sf, .ref sl, .ref so, .ref la, .ref li, .ref ru, .int 8, .int sc, .int (nI (z + 1)), .int d15, .int d16, .int d17, .int d18, .int 0])), (wy, .inl (cyI, 1957, .inl g_6)), (nw, .inl (cyI, 1024, .inl nf)), (ol, .inl (cyI, 1957, .inl g_8)), (lt, .inl (cyI, 1957, .inl lf)), (sl, .inl (cyI, 1957, .inl sv))] := by rw [eg_8]; exact hD
      rw [nI_clamp (n := z) (by omega)] at eg_8
      refine lv_aload_n hx hb dX6_add_63 rfl (lv_at hl 3 rfl) ?_
      refine va_get (D := (dC, dI)) (ci := 4) (v := .ref nw) (C := RX6) (T := TX6) (N := 20) hx hb hts hnX6_add_X6 hown hK hP 0 rfl rfl 2 (by decide) (hts (.fieldLink RX6 22 "RingMeets$Walks" "newest" "[I") (by decide +kernel)) (fun _ h9 => h9) rfl dX6_add_64 ?_
      refine lv_iload hx hb dX6_add_67 (lv_at hl 0 rfl) ?_
      refine lv_iload_n hx hb dX6_add_69 rfl (lv_at hl 1 rfl) ?_
      refine va_iast (D := (dC, dI)) hx hb hK hP hD hS 2 0 rfl rfl (vp_in_nI (n := x) (N := 1024) (by omega) (by omega)) dX6_add_70 (fun H locs hP hD hS => ?_)
      obtain ⟨g_9, eg_9⟩ : ∃ y : Nat → Int32, y = upd nf (Int32.toNatClampNeg (nI x)) (nI z) := ⟨_, rfl⟩
      have hP : va_P (dC, dI) vwCl [(wk, .inr (4, [.ref mo, .ref wy, .ref nw, .ref ol, .ref lt, .ref es, .ref sf, .ref sl, .ref so, .ref la, .ref li, .ref ru, .int 8, .int sc, .int (nI (z + 1)), .int d15, .int d16, .int d17, .int d18, .int 0])), (wy, .inl (cyI, 1957, .inl g_6)), (nw, .inl (cyI, 1024, .inl g_9)), (ol, .inl (cyI, 1957, .inl g_8)), (lt, .inl (cyI, 1957, .inl lf)), (sl, .inl (cyI, 1957, .inl sv))] H := by rw [eg_9]; exact hP
      have hD : va_D A [(wk, .inr (4, [.ref mo, .ref wy, .ref nw, .ref ol, .ref lt, .ref es, .ref sf, .ref sl, .ref so, .ref la, .ref li, .ref ru, .int 8, .int sc, .int (nI (z + 1)), .int d15, .int d16, .int d17, .int d18, .int 0])), (wy, .inl (cyI, 1957, .inl g_6)), (nw, .inl (cyI, 1024, .inl g_9)), (ol, .inl (cyI, 1957, .inl g_8)), (lt, .inl (cyI, 1957, .inl lf)), (sl, .inl (cyI, 1957, .inl sv))] := by rw [eg_9]; exact hD
      rw [nI_clamp (n := x) (by omega)] at eg_9
      refine lv_aload_n hx hb dX6_add_71 rfl (lv_at hl 3 rfl) ?_
      refine va_get (D := (dC, dI)) (ci := 4) (v := .ref lt) (C := RX6) (T := TX6) (N := 20) hx hb hts hnX6_add_X6 hown hK hP 0 rfl rfl 4 (by decide) (hts (.fieldLink RX6 28 "RingMeets$Walks" "lastStepTo" "[I") (by decide +kernel)) (fun _ h9 => h9) rfl dX6_add_72 ?_
      refine lv_iload_n hx hb dX6_add_75 rfl (lv_at hl 1 rfl) ?_
      refine lv_iconst (v := (-1)) hx hb dX6_add_76 (by decide) ?_
      refine va_iast (D := (dC, dI)) hx hb hK hP hD hS 4 0 rfl rfl (vp_in_nI (n := z) (N := 1957) (by omega) (by omega)) dX6_add_77 (fun H locs hP hD hS => ?_)
      obtain ⟨g_10, eg_10⟩ : ∃ y : Nat → Int32, y = upd lf (Int32.toNatClampNeg (nI z)) (-1) := ⟨_, rfl⟩
      have hP : va_P (dC, dI) vwCl [(wk, .inr (4, [.ref mo, .ref wy, .ref nw, .ref ol, .ref lt, .ref es, .ref sf, .ref sl, .ref so, .ref la, .ref li, .ref ru, .int 8, .int sc, .int (nI (z + 1)), .int d15, .int d16, .int d17, .int d18, .int 0])), (wy, .inl (cyI, 1957, .inl g_6)), (nw, .inl (cyI, 1024, .inl g_9)), (ol, .inl (cyI, 1957, .inl g_8)), (lt, .inl (cyI, 1957, .inl g_10)), (sl, .inl (cyI, 1957, .inl sv))] H := by rw [eg_10]; exact hP
      have hD : va_D A [(wk, .inr (4, [.ref mo, .ref wy, .ref nw, .ref ol, .ref lt, .ref es, .ref sf, .ref sl, .ref so, .ref la, .ref li, .ref ru, .int 8, .int sc, .int (nI (z + 1)), .int d15, .int d16, .int d17, .int d18, .int 0])), (wy, .inl (cyI, 1957, .inl g_6)), (nw, .inl (cyI, 1024, .inl g_9)), (ol, .inl (cyI, 1957, .inl g_8)), (lt, .inl (cyI, 1957, .inl g_10)), (sl, .inl (cyI, 1957, .inl sv))] := by rw [eg_10]; exact hD
      rw [nI_clamp (n := z) (by omega)] at eg_10
      refine lv_aload_n hx hb dX6_add_78 rfl (lv_at hl 3 rfl) ?_
      refine va_get (D := (dC, dI)) (ci := 4) (v := .ref sl) (C := RX6) (T := TX6) (N := 20) hx hb hts hnX6_add_X6 hown hK hP 0 rfl rfl 7 (by decide) (hts (.fieldLink RX6 37 "RingMeets$Walks" "stepsLeft" "[I") (by decide +kernel)) (fun _ h9 => h9) rfl dX6_add_79 ?_
      refine lv_iload_n hx hb dX6_add_82 rfl (lv_at hl 1 rfl) ?_
      refine lv_iconst (v := 0) hx hb dX6_add_83 (by decide) ?_
      refine va_iast (D := (dC, dI)) hx hb hK hP hD hS 5 0 rfl rfl (vp_in_nI (n := z) (N := 1957) (by omega) (by omega)) dX6_add_84 (fun H locs hP hD hS => ?_)
      obtain ⟨g_11, eg_11⟩ : ∃ y : Nat → Int32, y = upd sv (Int32.toNatClampNeg (nI z)) 0 := ⟨_, rfl⟩
      have hP : va_P (dC, dI) vwCl [(wk, .inr (4, [.ref mo, .ref wy, .ref nw, .ref ol, .ref lt, .ref es, .ref sf, .ref sl, .ref so, .ref la, .ref li, .ref ru, .int 8, .int sc, .int (nI (z + 1)), .int d15, .int d16, .int d17, .int d18, .int 0])), (wy, .inl (cyI, 1957, .inl g_6)), (nw, .inl (cyI, 1024, .inl g_9)), (ol, .inl (cyI, 1957, .inl g_8)), (lt, .inl (cyI, 1957, .inl g_10)), (sl, .inl (cyI, 1957, .inl g_11))] H := by rw [eg_11]; exact hP
      have hD : va_D A [(wk, .inr (4, [.ref mo, .ref wy, .ref nw, .ref ol, .ref lt, .ref es, .ref sf, .ref sl, .ref so, .ref la, .ref li, .ref ru, .int 8, .int sc, .int (nI (z + 1)), .int d15, .int d16, .int d17, .int d18, .int 0])), (wy, .inl (cyI, 1957, .inl g_6)), (nw, .inl (cyI, 1024, .inl g_9)), (ol, .inl (cyI, 1957, .inl g_8)), (lt, .inl (cyI, 1957, .inl g_10)), (sl, .inl (cyI, 1957, .inl g_11))] := by rw [eg_11]; exact hD
      rw [nI_clamp (n := z) (by omega)] at eg_11
      refine lv_iload_n hx hb dX6_add_85 rfl (lv_at hl 1 rfl) ?_
      exact W.iret (v := (nI z)) hx hb hr (fun t ht hW => ⟨⟨(nI z), (g_6, g_9, g_8, g_10, g_11), rfl, ⟨eg_6, eg_9⟩, ⟨by rw [ht]; exact hP.sub (ws' := [(wk, .inr (4, [.ref mo, .ref wy, .ref nw, .ref ol, .ref lt, .ref es, .ref sf, .ref sl, .ref so, .ref la, .ref li, .ref ru, .int 8, .int sc, .int (nI (z + 1)), .int d15, .int d16, .int d17, .int d18, .int 0])), (wy, .inl (cyI, 1957, .inl g_6)), (nw, .inl (cyI, 1024, .inl g_9)), (ol, .inl (cyI, 1957, .inl g_8)), (lt, .inl (cyI, 1957, .inl g_10)), (sl, .inl (cyI, 1957, .inl g_11))]) [0, 1, 2, 3, 4, 5] rfl, hD.sub (ws' := [(wk, .inr (4, [.ref mo, .ref wy, .ref nw, .ref ol, .ref lt, .ref es, .ref sf, .ref sl, .ref so, .ref la, .ref li, .ref ru, .int 8, .int sc, .int (nI (z + 1)), .int d15, .int d16, .int d17, .int d18, .int 0])), (wy, .inl (cyI, 1957, .inl g_6)), (nw, .inl (cyI, 1024, .inl g_9)), (ol, .inl (cyI, 1957, .inl g_8)), (lt, .inl (cyI, 1957, .inl g_10)), (sl, .inl (cyI, 1957, .inl g_11))]) [0, 1, 2, 3, 4, 5] (by decide) rfl⟩⟩, hS.F ht⟩) hS.2.2 dX6_add_86
    · skip
      have ic_3 := ci_nlt (nI_toInt (n := z) (by omega)) (show Int32.toInt 1957 = 1957 by decide) c_3
      exfalso; omega

theorem hnX2_init_X1 : ∀ w ∈ wsX10, w ∈ wsX2_init := fun _ h => List.mem_cons_of_mem _ (List.mem_append_left _ (List.mem_append_right _ h))
theorem hnX2_init_X2 : ∀ w ∈ wsX20, w ∈ wsX2_init := fun _ h => List.mem_cons_of_mem _ (List.mem_append_right _ h)
set_option maxHeartbeats 4000000 in
set_option maxRecDepth 100000 in
theorem kX2_init (l : Launch) (dC : Nat → ClassId) (dI : Nat → Nat → Nat) (cyI cyZ : ClassId) (mo : Nat) (sz : Nat) : Met l yX2_init wsX2_init ({ frames := 2, cells := 1, slots := 5, locals := 40 }) (bs_W dC dI cyI cyZ [.ref mo] [(mo, .inr (1, [.null, .int 0, .int 0, .int 0]))] sz) (va_Qv (S := Nat) (fun _ : Nat => True) (fun q t => bs_E dC dI (va_A [(mo, .inr (1, [.null, .int 0, .int 0, .int 0]))] sz) [(mo, .inr (1, [.ref q, .int 0, .int 0, .int 0])), (q, .inr (0, [.int 0, .int 0, .int 0, .int 0, .int 0]))] t) (va_A [(mo, .inr (1, [.null, .int 0, .int 0, .int 0]))] sz)) 1 5 (va_A [(mo, .inr (1, [.null, .int 0, .int 0, .int 0]))] sz) := by
  refine Met.ofW (cc := cX2_init) (maxL := 1) (ret := none) (by decide) rfl ?_
  intro p e s m args below meth c s₁ B hml hv
  obtain ⟨rfl, hsz, hB, hP, hD0⟩ := hv
  have hK := hB.1
  have hN := hB.2
  have hx := B.exec
  have hb := B.bytes
  have hr := B.returns
  have hts := atoms_spec (ws := wsX2_init) B.pre
  have hown : s.vm.findClass RX2 = some m.cls := findClass_of_methodNamed B.named
  have hlocks := B.notSynchronized
  have hin : meth.name = "<init>" := (name_of_methodNamed B.named B.method).1
  subst hsz
  have hD := hD0.self (sz := s.heap.size)
  generalize hAe : va_A [(mo, .inr (1, [.null, .int 0, .int 0, .int 0]))] s.heap.size = A at hD ⊢
  have hA : ∀ q : Nat, s.heap.size ≤ q → A q := fun q h => by rw [← hAe]; exact Or.inr h
  have hS : va_S A s.heap s.heap [] := va_S.rf
  have hP : va_P (dC, dI) vwCl [(mo, .inr (1, [.null, .int 0, .int 0, .int 0]))] s.heap := hP
  have hl := lv_entry ([.ref mo]) (n := 1) (Nat.le_of_ble_eq_true rfl)
  rw [lg_entry_eq]
  generalize (lg_sl ([.ref mo]) ++ List.replicate (1 - (lg_sl ([.ref mo])).length) Slot.unset).toArray = ls at hl ⊢
  have hl : lv_has ls 1 [(0, .ref mo)] := hl
  refine lv_aload_n hx hb dX2_init_0 rfl (lv_at hl 0 rfl) ?_
  refine W.objInit hx hb hown (hts (.methodLink RX2 3 objectInit) (by decide +kernel)) (hts (.instanceMethod objectInit) (by decide +kernel)) (hts (.code objectInit ⟨#[0xb1]⟩ 1 none) (by decide +kernel)) rfl (by rw [hml]; exact hl.1) rfl dX2_init_1 (Nat.le_of_ble_eq_true rfl) (Nat.le_of_ble_eq_true rfl) ?_
  refine W.eq (g2 := F0 m 4 ls []) rfl ?_
  refine lv_aload_n hx hb dX2_init_4 rfl (lv_at hl 0 rfl) ?_
  refine va_new (ci := 0) (fs := [.int 0, .int 0, .int 0, .int 0, .int 0]) (C := RX1) (T := TX1) (N := 5) hx hb hts hnX2_init_X1 tyX1 tyX1_ok hown (hts (.classLink RX2 9 RX1) (by decide +kernel)) (hts (.instantiable RX1 5) (by decide +kernel)) (hts (.initialized RX1) (by decide +kernel)) hK hP hD hS hA rfl (fun j hj => by rcases (show j = 0 ∨ j = 1 ∨ j = 2 ∨ j = 3 ∨ j = 4 by omega) with rfl | rfl | rfl | rfl | rfl <;> rfl) (Nat.le_of_ble_eq_true rfl) (Nat.le_of_ble_eq_true rfl) dX2_init_5 (fun q_1 H hP hD hS => ?_)
  refine W.widen (k := 1) (n := 5) (Nat.le_of_ble_eq_true rfl) (Nat.le_of_ble_eq_true rfl) ?_
  have hP : va_P (dC, dI) vwCl [(mo, .inr (1, [.null, .int 0, .int 0, .int 0])), (q_1, .inr (0, [.int 0, .int 0, .int 0, .int 0, .int 0]))] _ := hP
  have hD : va_D A [(mo, .inr (1, [.null, .int 0, .int 0, .int 0])), (q_1, .inr (0, [.int 0, .int 0, .int 0, .int 0, .int 0]))] := hD
  refine lv_dup hx hb dX2_init_8 rfl ?_
  refine va_csv (va_Run.run (va_runIN (As := []) (rest := [.ref q_1, .ref mo]) ⟨hx, hb, hml, hown, hts⟩ (kX1_init l dC dI cyI cyZ q_1) ⟨va_cnB 0 hts gX2_init_X1_init_n11 rfl rfl rfl (hN.at 14 rfl) (hts (.initialized RX1) (by decide +kernel)) (by decide +kernel) ⟨Nat.le_of_ble_eq_true rfl, Nat.le_of_ble_eq_true rfl⟩, rfl, (hts (.instanceMethod yX1_init) (by decide +kernel))⟩ (bs_RS hB (hP.sub (ws' := []) [] rfl)) rfl rfl hl.1 rfl (lv_room (Nat.le_of_ble_eq_true rfl)) dX2_init_9 ⟨Nat.le_of_ble_eq_true rfl, Nat.le_of_ble_eq_true rfl⟩)) (fun h_2 => ?_)
  refine va_putF (D := (dC, dI)) (ci := 1) (v := .ref q_1) (ty := (.object "RingMeets$Look")) (C := RX2) (T := TX2) (N := 4) hx hb hts hnX2_init_X2 tyX2 tyX2_ok nmX2 hown hK hP hD hS 0 rfl rfl 0 (by decide) (hts (.fieldLink RX2 12 "RingMeets$Moves" "look" "LRingMeets$Look;") (by decide +kernel)) (fun _ h9 => h9) rfl hin rfl (by decide +kernel) rfl rfl (Nat.le_of_ble_eq_true rfl) dX2_init_12 (fun H locs hP hD hS => ?_)
  have hP : va_P (dC, dI) vwCl [(mo, .inr (1, [.ref q_1, .int 0, .int 0, .int 0])), (q_1, .inr (0, [.int 0, .int 0, .int 0, .int 0, .int 0]))] _ := hP
  have hD : va_D A [(mo, .inr (1, [.ref q_1, .int 0, .int 0, .int 0])), (q_1, .inr (0, [.int 0, .int 0, .int 0, .int 0, .int 0]))] := hD
  exact W.vret hx hb hr (fun t ht hW => ⟨⟨q_1, rfl, trivial, ⟨by rw [ht]; exact hP.sub (ws' := [(mo, .inr (1, [.ref q_1, .int 0, .int 0, .int 0])), (q_1, .inr (0, [.int 0, .int 0, .int 0, .int 0, .int 0]))]) [0, 1] rfl, hD.sub (ws' := [(mo, .inr (1, [.ref q_1, .int 0, .int 0, .int 0])), (q_1, .inr (0, [.int 0, .int 0, .int 0, .int 0, .int 0]))]) [0, 1] (by decide) rfl⟩⟩, hS.F ht⟩) hS.2.2 dX2_init_15

theorem hnX6_init_X2 : ∀ w ∈ wsX20, w ∈ wsX6_init := fun _ h => List.mem_cons_of_mem _ (List.mem_append_left _ (List.mem_append_left _ (List.mem_append_right _ h)))
theorem hnX6_init_X6 : ∀ w ∈ wsX60, w ∈ wsX6_init := fun _ h => List.mem_cons_of_mem _ (List.mem_append_left _ (List.mem_append_right _ h))
set_option maxHeartbeats 4000000 in
set_option maxRecDepth 100000 in
theorem kX6_init (l : Launch) (dC : Nat → ClassId) (dI : Nat → Nat → Nat) (cyI cyZ : ClassId) (wk ru : Nat) (sz : Nat) : Met l yX6_init wsX6_init ({ frames := 3, cells := 12, slots := 66446, locals := 60 }) (bs_W dC dI cyI cyZ [.ref wk, .ref ru] [(wk, .inr (4, [.null, .null, .null, .null, .null, .null, .null, .null, .null, .null, .null, .null, .int 0, .int 0, .int 0, .int 0, .int 0, .int 0, .int 0, .int 0]))] sz) (va_Qv (S := Nat × Nat × Nat × Nat × Nat × Nat × Nat × Nat × Nat × Nat × Nat × Nat) (fun _ : Nat × Nat × Nat × Nat × Nat × Nat × Nat × Nat × Nat × Nat × Nat × Nat => True) (fun q t => bs_E dC dI (va_A [(wk, .inr (4, [.null, .null, .null, .null, .null, .null, .null, .null, .null, .null, .null, .null, .int 0, .int 0, .int 0, .int 0, .int 0, .int 0, .int 0, .int 0]))] sz) [(wk, .inr (4, [.ref q.1, .ref q.2.2.1, .ref q.2.2.2.1, .ref q.2.2.2.2.1, .ref q.2.2.2.2.2.1, .ref q.2.2.2.2.2.2.1, .ref q.2.2.2.2.2.2.2.1, .ref q.2.2.2.2.2.2.2.2.1, .ref q.2.2.2.2.2.2.2.2.2.1, .ref q.2.2.2.2.2.2.2.2.2.2.1, .ref q.2.2.2.2.2.2.2.2.2.2.2, .ref ru, .int 0, .int 0, .int 0, .int 0, .int 0, .int 0, .int 0, .int 0])), (q.1, .inr (1, [.ref q.2.1, .int 0, .int 0, .int 0])), (q.2.1, .inr (0, [.int 0, .int 0, .int 0, .int 0, .int 0])), (q.2.2.1, .inl (cyI, 1957, .inl (fun _ => (0 : Int32)))), (q.2.2.2.1, .inl (cyI, 1024, .inl (fun _ => (0 : Int32)))), (q.2.2.2.2.1, .inl (cyI, 1957, .inl (fun _ => (0 : Int32)))), (q.2.2.2.2.2.1, .inl (cyI, 1957, .inl (fun _ => (0 : Int32)))), (q.2.2.2.2.2.2.1, .inl (cyI, 25857, .inl (fun _ => (0 : Int32)))), (q.2.2.2.2.2.2.2.1, .inl (cyI, 25857, .inl (fun _ => (0 : Int32)))), (q.2.2.2.2.2.2.2.2.1, .inl (cyI, 1957, .inl (fun _ => (0 : Int32)))), (q.2.2.2.2.2.2.2.2.2.1, .inl (cyI, 1957, .inl (fun _ => (0 : Int32)))), (q.2.2.2.2.2.2.2.2.2.2.1, .inl (cyI, 1957, .inl (fun _ => (0 : Int32)))), (q.2.2.2.2.2.2.2.2.2.2.2, .inl (cyI, 1957, .inl (fun _ => (0 : Int32))))] t) (va_A [(wk, .inr (4, [.null, .null, .null, .null, .null, .null, .null, .null, .null, .null, .null, .null, .int 0, .int 0, .int 0, .int 0, .int 0, .int 0, .int 0, .int 0]))] sz)) 12 66446 (va_A [(wk, .inr (4, [.null, .null, .null, .null, .null, .null, .null, .null, .null, .null, .null, .null, .int 0, .int 0, .int 0, .int 0, .int 0, .int 0, .int 0, .int 0]))] sz) := by
  refine Met.ofW (cc := cX6_init) (maxL := 2) (ret := none) (by decide) rfl ?_
  intro p e s m args below meth c s₁ B hml hv
  obtain ⟨rfl, hsz, hB, hP, hD0⟩ := hv
  have hK := hB.1
  have hN := hB.2
  have hx := B.exec
  have hb := B.bytes
  have hr := B.returns
  have hts := atoms_spec (ws := wsX6_init) B.pre
  have hown : s.vm.findClass RX6 = some m.cls := findClass_of_methodNamed B.named
  have hlocks := B.notSynchronized
  have hin : meth.name = "<init>" := (name_of_methodNamed B.named B.method).1
  subst hsz
  have hD := hD0.self (sz := s.heap.size)
  generalize hAe : va_A [(wk, .inr (4, [.null, .null, .null, .null, .null, .null, .null, .null, .null, .null, .null, .null, .int 0, .int 0, .int 0, .int 0, .int 0, .int 0, .int 0, .int 0]))] s.heap.size = A at hD ⊢
  have hA : ∀ q : Nat, s.heap.size ≤ q → A q := fun q h => by rw [← hAe]; exact Or.inr h
  have hS : va_S A s.heap s.heap [] := va_S.rf
  have hP : va_P (dC, dI) vwCl [(wk, .inr (4, [.null, .null, .null, .null, .null, .null, .null, .null, .null, .null, .null, .null, .int 0, .int 0, .int 0, .int 0, .int 0, .int 0, .int 0, .int 0]))] s.heap := hP
  have hl := lv_entry ([.ref wk, .ref ru]) (n := 2) (Nat.le_of_ble_eq_true rfl)
  rw [lg_entry_eq]
  generalize (lg_sl ([.ref wk, .ref ru]) ++ List.replicate (2 - (lg_sl ([.ref wk, .ref ru])).length) Slot.unset).toArray = ls at hl ⊢
  have hl : lv_has ls 2 [(0, .ref wk), (1, .ref ru)] := hl
  refine lv_aload_n hx hb dX6_init_0 rfl (lv_at hl 0 rfl) ?_
  refine W.objInit hx hb hown (hts (.methodLink RX6 3 objectInit) (by decide +kernel)) (hts (.instanceMethod objectInit) (by decide +kernel)) (hts (.code objectInit ⟨#[0xb1]⟩ 1 none) (by decide +kernel)) rfl (by rw [hml]; exact hl.1) rfl dX6_init_1 (Nat.le_of_ble_eq_true rfl) (Nat.le_of_ble_eq_true rfl) ?_
  refine W.eq (g2 := F0 m 4 ls []) rfl ?_
  refine lv_aload_n hx hb dX6_init_4 rfl (lv_at hl 0 rfl) ?_
  refine va_new (ci := 1) (fs := [.null, .int 0, .int 0, .int 0]) (C := RX2) (T := TX2) (N := 4) hx hb hts hnX6_init_X2 tyX2 tyX2_ok hown (hts (.classLink RX6 9 RX2) (by decide +kernel)) (hts (.instantiable RX2 4) (by decide +kernel)) (hts (.initialized RX2) (by decide +kernel)) hK hP hD hS hA rfl (fun j hj => by rcases (show j = 0 ∨ j = 1 ∨ j = 2 ∨ j = 3 by omega) with rfl | rfl | rfl | rfl <;> rfl) (Nat.le_of_ble_eq_true rfl) (Nat.le_of_ble_eq_true rfl) dX6_init_5 (fun q_1 H hP hD hS => ?_)
  refine W.widen (k := 1) (n := 4) (Nat.le_of_ble_eq_true rfl) (Nat.le_of_ble_eq_true rfl) ?_
  have hP : va_P (dC, dI) vwCl [(wk, .inr (4, [.null, .null, .null, .null, .null, .null, .null, .null, .null, .null, .null, .null, .int 0, .int 0, .int 0, .int 0, .int 0, .int 0, .int 0, .int 0])), (q_1, .inr (1, [.null, .int 0, .int 0, .int 0]))] _ := hP
  have hD : va_D A [(wk, .inr (4, [.null, .null, .null, .null, .null, .null, .null, .null, .null, .null, .null, .null, .int 0, .int 0, .int 0, .int 0, .int 0, .int 0, .int 0, .int 0])), (q_1, .inr (1, [.null, .int 0, .int 0, .int 0]))] := hD
  refine lv_dup hx hb dX6_init_8 rfl ?_
  have f_2 := va_free (wc := [(q_1, .inr (1, [.null, .int 0, .int 0, .int 0]))]) hD hS hA [1] rfl
  refine va_callv (va_runIN (As := []) (rest := [.ref q_1, .ref wk]) ⟨hx, hb, hml, hown, hts⟩ (kX2_init l dC dI cyI cyZ q_1 _) ⟨va_cnB 0 hts gX6_init_X2_init_n11 rfl rfl rfl (hN.at 13 rfl) (hts (.initialized RX2) (by decide +kernel)) (by decide +kernel) ⟨Nat.le_of_ble_eq_true rfl, Nat.le_of_ble_eq_true rfl⟩, rfl, (hts (.instanceMethod yX2_init) (by decide +kernel))⟩ (bs_WS hB (hP.sub (ws' := [(q_1, .inr (1, [.null, .int 0, .int 0, .int 0]))]) [1] rfl) (hD.sub (ws' := [(q_1, .inr (1, [.null, .int 0, .int 0, .int 0]))]) [1] (by decide) rfl)) rfl rfl hl.1 rfl (lv_room (Nat.le_of_ble_eq_true rfl)) dX6_init_9 ⟨Nat.le_of_ble_eq_true rfl, Nat.le_of_ble_eq_true rfl⟩) hS (fun q _ h => f_2 q h) f_2 (fun uh_3 t H1 locs ht hvm h_3 hB1 hz1 hk1 hS => ?_)
  obtain ⟨hP1, hD1⟩ := hB1
  rw [ht] at hP1
  obtain ⟨hP, hD⟩ := va_join (wr := [(wk, .inr (4, [.null, .null, .null, .null, .null, .null, .null, .null, .null, .null, .null, .null, .int 0, .int 0, .int 0, .int 0, .int 0, .int 0, .int 0, .int 0]))]) (w1 := [(q_1, .inr (1, [.ref uh_3, .int 0, .int 0, .int 0])), (uh_3, .inr (0, [.int 0, .int 0, .int 0, .int 0, .int 0]))]) hP hD [1] [0] rfl rfl (by decide) (by decide) hk1 f_2 hP1 hD1
  generalize H1 = H at hP hS ⊢
  have hP : va_P (dC, dI) vwCl [(wk, .inr (4, [.null, .null, .null, .null, .null, .null, .null, .null, .null, .null, .null, .null, .int 0, .int 0, .int 0, .int 0, .int 0, .int 0, .int 0, .int 0])), (q_1, .inr (1, [.ref uh_3, .int 0, .int 0, .int 0])), (uh_3, .inr (0, [.int 0, .int 0, .int 0, .int 0, .int 0]))] _ := hP
  have hD : va_D A [(wk, .inr (4, [.null, .null, .null, .null, .null, .null, .null, .null, .null, .null, .null, .null, .int 0, .int 0, .int 0, .int 0, .int 0, .int 0, .int 0, .int 0])), (q_1, .inr (1, [.ref uh_3, .int 0, .int 0, .int 0])), (uh_3, .inr (0, [.int 0, .int 0, .int 0, .int 0, .int 0]))] := hD
  refine W.widen (k := 2) (n := 9) (Nat.le_of_ble_eq_true rfl) (Nat.le_of_ble_eq_true rfl) ?_
  refine va_putF (D := (dC, dI)) (ci := 4) (v := .ref q_1) (ty := (.object "RingMeets$Moves")) (C := RX6) (T := TX6) (N := 20) hx hb hts hnX6_init_X6 tyX6 tyX6_ok nmX6 hown hK hP hD hS 0 rfl rfl 0 (by decide) (hts (.fieldLink RX6 12 "RingMeets$Walks" "moves" "LRingMeets$Moves;") (by decide +kernel)) (fun _ h9 => h9) rfl hin rfl (by decide +kernel) rfl rfl (Nat.le_of_ble_eq_true rfl) dX6_init_12 (fun H locs hP hD hS => ?_)
  have hP : va_P (dC, dI) vwCl [(wk, .inr (4, [.ref q_1, .null, .null, .null, .null, .null, .null, .null, .null, .null, .null, .null, .int 0, .int 0, .int 0, .int 0, .int 0, .int 0, .int 0, .int 0])), (q_1, .inr (1, [.ref uh_3, .int 0, .int 0, .int 0])), (uh_3, .inr (0, [.int 0, .int 0, .int 0, .int 0, .int 0]))] _ := hP
  have hD : va_D A [(wk, .inr (4, [.ref q_1, .null, .null, .null, .null, .null, .null, .null, .null, .null, .null, .null, .int 0, .int 0, .int 0, .int 0, .int 0, .int 0, .int 0, .int 0])), (q_1, .inr (1, [.ref uh_3, .int 0, .int 0, .int 0])), (uh_3, .inr (0, [.int 0, .int 0, .int 0, .int 0, .int 0]))] := hD
  refine lv_aload_n hx hb dX6_init_15 rfl (lv_at hl 0 rfl) ?_
  refine lv_sipush (v := 1957) hx hb dX6_init_16 (by decide) ?_
  refine bs_newI (n := 1957) hx hb (hts (.arrayClass .int) (by decide +kernel)) hB hP hD hS hA 1957 (by decide) (by decide) (Nat.le_of_ble_eq_true rfl) (Nat.le_of_ble_eq_true rfl) (Nat.le_of_ble_eq_true rfl) dX6_init_19 (fun q_4 H hP hD hS => ?_)
  refine W.widen (k := 3) (n := 1966) (Nat.le_of_ble_eq_true rfl) (Nat.le_of_ble_eq_true rfl) ?_
  have hP : va_P (dC, dI) vwCl [(wk, .inr (4, [.ref q_1, .null, .null, .null, .null, .null, .null, .null, .null, .null, .null, .null, .int 0, .int 0, .int 0, .int 0, .int 0, .int 0, .int 0, .int 0])), (q_1, .inr (1, [.ref uh_3, .int 0, .int 0, .int 0])), (uh_3, .inr (0, [.int 0, .int 0, .int 0, .int 0, .int 0])), (q_4, .inl (cyI, 1957, .inl (fun _ => (0 : Int32))))] _ := hP
  have hD : va_D A [(wk, .inr (4, [.ref q_1, .null, .null, .null, .null, .null, .null, .null, .null, .null, .null, .null, .int 0, .int 0, .int 0, .int 0, .int 0, .int 0, .int 0, .int 0])), (q_1, .inr (1, [.ref uh_3, .int 0, .int 0, .int 0])), (uh_3, .inr (0, [.int 0, .int 0, .int 0, .int 0, .int 0])), (q_4, .inl (cyI, 1957, .inl (fun _ => (0 : Int32))))] := hD
  refine va_putF (D := (dC, dI)) (ci := 4) (v := .ref q_4) (ty := (.array .int)) (C := RX6) (T := TX6) (N := 20) hx hb hts hnX6_init_X6 tyX6 tyX6_ok nmX6 hown hK hP hD hS 0 rfl rfl 1 (by decide) (hts (.fieldLink RX6 18 "RingMeets$Walks" "ways" "[I") (by decide +kernel)) (fun _ h9 => h9) rfl hin rfl (by decide +kernel) rfl rfl (Nat.le_of_ble_eq_true rfl) dX6_init_21 (fun H locs hP hD hS => ?_)
  have hP : va_P (dC, dI) vwCl [(wk, .inr (4, [.ref q_1, .ref q_4, .null, .null, .null, .null, .null, .null, .null, .null, .null, .null, .int 0, .int 0, .int 0, .int 0, .int 0, .int 0, .int 0, .int 0])), (q_1, .inr (1, [.ref uh_3, .int 0, .int 0, .int 0])), (uh_3, .inr (0, [.int 0, .int 0, .int 0, .int 0, .int 0])), (q_4, .inl (cyI, 1957, .inl (fun _ => (0 : Int32))))] _ := hP
  have hD : va_D A [(wk, .inr (4, [.ref q_1, .ref q_4, .null, .null, .null, .null, .null, .null, .null, .null, .null, .null, .int 0, .int 0, .int 0, .int 0, .int 0, .int 0, .int 0, .int 0])), (q_1, .inr (1, [.ref uh_3, .int 0, .int 0, .int 0])), (uh_3, .inr (0, [.int 0, .int 0, .int 0, .int 0, .int 0])), (q_4, .inl (cyI, 1957, .inl (fun _ => (0 : Int32))))] := hD
  refine lv_aload_n hx hb dX6_init_24 rfl (lv_at hl 0 rfl) ?_
  refine lv_sipush (v := 1024) hx hb dX6_init_25 (by decide) ?_
  refine bs_newI (n := 1024) hx hb (hts (.arrayClass .int) (by decide +kernel)) hB hP hD hS hA 1024 (by decide) (by decide) (Nat.le_of_ble_eq_true rfl) (Nat.le_of_ble_eq_true rfl) (Nat.le_of_ble_eq_true rfl) dX6_init_28 (fun q_5 H hP hD hS => ?_)
  refine W.widen (k := 4) (n := 2990) (Nat.le_of_ble_eq_true rfl) (Nat.le_of_ble_eq_true rfl) ?_
  have hP : va_P (dC, dI) vwCl [(wk, .inr (4, [.ref q_1, .ref q_4, .null, .null, .null, .null, .null, .null, .null, .null, .null, .null, .int 0, .int 0, .int 0, .int 0, .int 0, .int 0, .int 0, .int 0])), (q_1, .inr (1, [.ref uh_3, .int 0, .int 0, .int 0])), (uh_3, .inr (0, [.int 0, .int 0, .int 0, .int 0, .int 0])), (q_4, .inl (cyI, 1957, .inl (fun _ => (0 : Int32)))), (q_5, .inl (cyI, 1024, .inl (fun _ => (0 : Int32))))] _ := hP
  have hD : va_D A [(wk, .inr (4, [.ref q_1, .ref q_4, .null, .null, .null, .null, .null, .null, .null, .null, .null, .null, .int 0, .int 0, .int 0, .int 0, .int 0, .int 0, .int 0, .int 0])), (q_1, .inr (1, [.ref uh_3, .int 0, .int 0, .int 0])), (uh_3, .inr (0, [.int 0, .int 0, .int 0, .int 0, .int 0])), (q_4, .inl (cyI, 1957, .inl (fun _ => (0 : Int32)))), (q_5, .inl (cyI, 1024, .inl (fun _ => (0 : Int32))))] := hD
  refine va_putF (D := (dC, dI)) (ci := 4) (v := .ref q_5) (ty := (.array .int)) (C := RX6) (T := TX6) (N := 20) hx hb hts hnX6_init_X6 tyX6 tyX6_ok nmX6 hown hK hP hD hS 0 rfl rfl 2 (by decide) (hts (.fieldLink RX6 22 "RingMeets$Walks" "newest" "[I") (by decide +kernel)) (fun _ h9 => h9) rfl hin rfl (by decide +kernel) rfl rfl (Nat.le_of_ble_eq_true rfl) dX6_init_30 (fun H locs hP hD hS => ?_)
  have hP : va_P (dC, dI) vwCl [(wk, .inr (4, [.ref q_1, .ref q_4, .ref q_5, .null, .null, .null, .null, .null, .null, .null, .null, .null, .int 0, .int 0, .int 0, .int 0, .int 0, .int 0, .int 0, .int 0])), (q_1, .inr (1, [.ref uh_3, .int 0, .int 0, .int 0])), (uh_3, .inr (0, [.int 0, .int 0, .int 0, .int 0, .int 0])), (q_4, .inl (cyI, 1957, .inl (fun _ => (0 : Int32)))), (q_5, .inl (cyI, 1024, .inl (fun _ => (0 : Int32))))] _ := hP
  have hD : va_D A [(wk, .inr (4, [.ref q_1, .ref q_4, .ref q_5, .null, .null, .null, .null, .null, .null, .null, .null, .null, .int 0, .int 0, .int 0, .int 0, .int 0, .int 0, .int 0, .int 0])), (q_1, .inr (1, [.ref uh_3, .int 0, .int 0, .int 0])), (uh_3, .inr (0, [.int 0, .int 0, .int 0, .int 0, .int 0])), (q_4, .inl (cyI, 1957, .inl (fun _ => (0 : Int32)))), (q_5, .inl (cyI, 1024, .inl (fun _ => (0 : Int32))))] := hD
  refine lv_aload_n hx hb dX6_init_33 rfl (lv_at hl 0 rfl) ?_
  refine lv_sipush (v := 1957) hx hb dX6_init_34 (by decide) ?_
  refine bs_newI (n := 1957) hx hb (hts (.arrayClass .int) (by decide +kernel)) hB hP hD hS hA 1957 (by decide) (by decide) (Nat.le_of_ble_eq_true rfl) (Nat.le_of_ble_eq_true rfl) (Nat.le_of_ble_eq_true rfl) dX6_init_37 (fun q_6 H hP hD hS => ?_)
  refine W.widen (k := 5) (n := 4947) (Nat.le_of_ble_eq_true rfl) (Nat.le_of_ble_eq_true rfl) ?_
  have hP : va_P (dC, dI) vwCl [(wk, .inr (4, [.ref q_1, .ref q_4, .ref q_5, .null, .null, .null, .null, .null, .null, .null, .null, .null, .int 0, .int 0, .int 0, .int 0, .int 0, .int 0, .int 0, .int 0])), (q_1, .inr (1, [.ref uh_3, .int 0, .int 0, .int 0])), (uh_3, .inr (0, [.int 0, .int 0, .int 0, .int 0, .int 0])), (q_4, .inl (cyI, 1957, .inl (fun _ => (0 : Int32)))), (q_5, .inl (cyI, 1024, .inl (fun _ => (0 : Int32)))), (q_6, .inl (cyI, 1957, .inl (fun _ => (0 : Int32))))] _ := hP
  have hD : va_D A [(wk, .inr (4, [.ref q_1, .ref q_4, .ref q_5, .null, .null, .null, .null, .null, .null, .null, .null, .null, .int 0, .int 0, .int 0, .int 0, .int 0, .int 0, .int 0, .int 0])), (q_1, .inr (1, [.ref uh_3, .int 0, .int 0, .int 0])), (uh_3, .inr (0, [.int 0, .int 0, .int 0, .int 0, .int 0])), (q_4, .inl (cyI, 1957, .inl (fun _ => (0 : Int32)))), (q_5, .inl (cyI, 1024, .inl (fun _ => (0 : Int32)))), (q_6, .inl (cyI, 1957, .inl (fun _ => (0 : Int32))))] := hD
  refine va_putF (D := (dC, dI)) (ci := 4) (v := .ref q_6) (ty := (.array .int)) (C := RX6) (T := TX6) (N := 20) hx hb hts hnX6_init_X6 tyX6 tyX6_ok nmX6 hown hK hP hD hS 0 rfl rfl 3 (by decide) (hts (.fieldLink RX6 25 "RingMeets$Walks" "older" "[I") (by decide +kernel)) (fun _ h9 => h9) rfl hin rfl (by decide +kernel) rfl rfl (Nat.le_of_ble_eq_true rfl) dX6_init_39 (fun H locs hP hD hS => ?_)
  have hP : va_P (dC, dI) vwCl [(wk, .inr (4, [.ref q_1, .ref q_4, .ref q_5, .ref q_6, .null, .null, .null, .null, .null, .null, .null, .null, .int 0, .int 0, .int 0, .int 0, .int 0, .int 0, .int 0, .int 0])), (q_1, .inr (1, [.ref uh_3, .int 0, .int 0, .int 0])), (uh_3, .inr (0, [.int 0, .int 0, .int 0, .int 0, .int 0])), (q_4, .inl (cyI, 1957, .inl (fun _ => (0 : Int32)))), (q_5, .inl (cyI, 1024, .inl (fun _ => (0 : Int32)))), (q_6, .inl (cyI, 1957, .inl (fun _ => (0 : Int32))))] _ := hP
  have hD : va_D A [(wk, .inr (4, [.ref q_1, .ref q_4, .ref q_5, .ref q_6, .null, .null, .null, .null, .null, .null, .null, .null, .int 0, .int 0, .int 0, .int 0, .int 0, .int 0, .int 0, .int 0])), (q_1, .inr (1, [.ref uh_3, .int 0, .int 0, .int 0])), (uh_3, .inr (0, [.int 0, .int 0, .int 0, .int 0, .int 0])), (q_4, .inl (cyI, 1957, .inl (fun _ => (0 : Int32)))), (q_5, .inl (cyI, 1024, .inl (fun _ => (0 : Int32)))), (q_6, .inl (cyI, 1957, .inl (fun _ => (0 : Int32))))] := hD
  refine lv_aload_n hx hb dX6_init_42 rfl (lv_at hl 0 rfl) ?_
  refine lv_sipush (v := 1957) hx hb dX6_init_43 (by decide) ?_
  refine bs_newI (n := 1957) hx hb (hts (.arrayClass .int) (by decide +kernel)) hB hP hD hS hA 1957 (by decide) (by decide) (Nat.le_of_ble_eq_true rfl) (Nat.le_of_ble_eq_true rfl) (Nat.le_of_ble_eq_true rfl) dX6_init_46 (fun q_7 H hP hD hS => ?_)
  refine W.widen (k := 6) (n := 6904) (Nat.le_of_ble_eq_true rfl) (Nat.le_of_ble_eq_true rfl) ?_
  have hP : va_P (dC, dI) vwCl [(wk, .inr (4, [.ref q_1, .ref q_4, .ref q_5, .ref q_6, .null, .null, .null, .null, .null, .null, .null, .null, .int 0, .int 0, .int 0, .int 0, .int 0, .int 0, .int 0, .int 0])), (q_1, .inr (1, [.ref uh_3, .int 0, .int 0, .int 0])), (uh_3, .inr (0, [.int 0, .int 0, .int 0, .int 0, .int 0])), (q_4, .inl (cyI, 1957, .inl (fun _ => (0 : Int32)))), (q_5, .inl (cyI, 1024, .inl (fun _ => (0 : Int32)))), (q_6, .inl (cyI, 1957, .inl (fun _ => (0 : Int32)))), (q_7, .inl (cyI, 1957, .inl (fun _ => (0 : Int32))))] _ := hP
  have hD : va_D A [(wk, .inr (4, [.ref q_1, .ref q_4, .ref q_5, .ref q_6, .null, .null, .null, .null, .null, .null, .null, .null, .int 0, .int 0, .int 0, .int 0, .int 0, .int 0, .int 0, .int 0])), (q_1, .inr (1, [.ref uh_3, .int 0, .int 0, .int 0])), (uh_3, .inr (0, [.int 0, .int 0, .int 0, .int 0, .int 0])), (q_4, .inl (cyI, 1957, .inl (fun _ => (0 : Int32)))), (q_5, .inl (cyI, 1024, .inl (fun _ => (0 : Int32)))), (q_6, .inl (cyI, 1957, .inl (fun _ => (0 : Int32)))), (q_7, .inl (cyI, 1957, .inl (fun _ => (0 : Int32))))] := hD
  refine va_putF (D := (dC, dI)) (ci := 4) (v := .ref q_7) (ty := (.array .int)) (C := RX6) (T := TX6) (N := 20) hx hb hts hnX6_init_X6 tyX6 tyX6_ok nmX6 hown hK hP hD hS 0 rfl rfl 4 (by decide) (hts (.fieldLink RX6 28 "RingMeets$Walks" "lastStepTo" "[I") (by decide +kernel)) (fun _ h9 => h9) rfl hin rfl (by decide +kernel) rfl rfl (Nat.le_of_ble_eq_true rfl) dX6_init_48 (fun H locs hP hD hS => ?_)
  have hP : va_P (dC, dI) vwCl [(wk, .inr (4, [.ref q_1, .ref q_4, .ref q_5, .ref q_6, .ref q_7, .null, .null, .null, .null, .null, .null, .null, .int 0, .int 0, .int 0, .int 0, .int 0, .int 0, .int 0, .int 0])), (q_1, .inr (1, [.ref uh_3, .int 0, .int 0, .int 0])), (uh_3, .inr (0, [.int 0, .int 0, .int 0, .int 0, .int 0])), (q_4, .inl (cyI, 1957, .inl (fun _ => (0 : Int32)))), (q_5, .inl (cyI, 1024, .inl (fun _ => (0 : Int32)))), (q_6, .inl (cyI, 1957, .inl (fun _ => (0 : Int32)))), (q_7, .inl (cyI, 1957, .inl (fun _ => (0 : Int32))))] _ := hP
  have hD : va_D A [(wk, .inr (4, [.ref q_1, .ref q_4, .ref q_5, .ref q_6, .ref q_7, .null, .null, .null, .null, .null, .null, .null, .int 0, .int 0, .int 0, .int 0, .int 0, .int 0, .int 0, .int 0])), (q_1, .inr (1, [.ref uh_3, .int 0, .int 0, .int 0])), (uh_3, .inr (0, [.int 0, .int 0, .int 0, .int 0, .int 0])), (q_4, .inl (cyI, 1957, .inl (fun _ => (0 : Int32)))), (q_5, .inl (cyI, 1024, .inl (fun _ => (0 : Int32)))), (q_6, .inl (cyI, 1957, .inl (fun _ => (0 : Int32)))), (q_7, .inl (cyI, 1957, .inl (fun _ => (0 : Int32))))] := hD
  refine lv_aload_n hx hb dX6_init_51 rfl (lv_at hl 0 rfl) ?_
  refine lv_sipush (v := 25857) hx hb dX6_init_52 (by decide) ?_
  refine bs_newI (n := 25857) hx hb (hts (.arrayClass .int) (by decide +kernel)) hB hP hD hS hA 25857 (by decide) (by decide) (Nat.le_of_ble_eq_true rfl) (Nat.le_of_ble_eq_true rfl) (Nat.le_of_ble_eq_true rfl) dX6_init_55 (fun q_8 H hP hD hS => ?_)
  refine W.widen (k := 7) (n := 32761) (Nat.le_of_ble_eq_true rfl) (Nat.le_of_ble_eq_true rfl) ?_
  have hP : va_P (dC, dI) vwCl [(wk, .inr (4, [.ref q_1, .ref q_4, .ref q_5, .ref q_6, .ref q_7, .null, .null, .null, .null, .null, .null, .null, .int 0, .int 0, .int 0, .int 0, .int 0, .int 0, .int 0, .int 0])), (q_1, .inr (1, [.ref uh_3, .int 0, .int 0, .int 0])), (uh_3, .inr (0, [.int 0, .int 0, .int 0, .int 0, .int 0])), (q_4, .inl (cyI, 1957, .inl (fun _ => (0 : Int32)))), (q_5, .inl (cyI, 1024, .inl (fun _ => (0 : Int32)))), (q_6, .inl (cyI, 1957, .inl (fun _ => (0 : Int32)))), (q_7, .inl (cyI, 1957, .inl (fun _ => (0 : Int32)))), (q_8, .inl (cyI, 25857, .inl (fun _ => (0 : Int32))))] _ := hP
  have hD : va_D A [(wk, .inr (4, [.ref q_1, .ref q_4, .ref q_5, .ref q_6, .ref q_7, .null, .null, .null, .null, .null, .null, .null, .int 0, .int 0, .int 0, .int 0, .int 0, .int 0, .int 0, .int 0])), (q_1, .inr (1, [.ref uh_3, .int 0, .int 0, .int 0])), (uh_3, .inr (0, [.int 0, .int 0, .int 0, .int 0, .int 0])), (q_4, .inl (cyI, 1957, .inl (fun _ => (0 : Int32)))), (q_5, .inl (cyI, 1024, .inl (fun _ => (0 : Int32)))), (q_6, .inl (cyI, 1957, .inl (fun _ => (0 : Int32)))), (q_7, .inl (cyI, 1957, .inl (fun _ => (0 : Int32)))), (q_8, .inl (cyI, 25857, .inl (fun _ => (0 : Int32))))] := hD
  refine va_putF (D := (dC, dI)) (ci := 4) (v := .ref q_8) (ty := (.array .int)) (C := RX6) (T := TX6) (N := 20) hx hb hts hnX6_init_X6 tyX6 tyX6_ok nmX6 hown hK hP hD hS 0 rfl rfl 5 (by decide) (hts (.fieldLink RX6 31 "RingMeets$Walks" "earlierStep" "[I") (by decide +kernel)) (fun _ h9 => h9) rfl hin rfl (by decide +kernel) rfl rfl (Nat.le_of_ble_eq_true rfl) dX6_init_57 (fun H locs hP hD hS => ?_)
  have hP : va_P (dC, dI) vwCl [(wk, .inr (4, [.ref q_1, .ref q_4, .ref q_5, .ref q_6, .ref q_7, .ref q_8, .null, .null, .null, .null, .null, .null, .int 0, .int 0, .int 0, .int 0, .int 0, .int 0, .int 0, .int 0])), (q_1, .inr (1, [.ref uh_3, .int 0, .int 0, .int 0])), (uh_3, .inr (0, [.int 0, .int 0, .int 0, .int 0, .int 0])), (q_4, .inl (cyI, 1957, .inl (fun _ => (0 : Int32)))), (q_5, .inl (cyI, 1024, .inl (fun _ => (0 : Int32)))), (q_6, .inl (cyI, 1957, .inl (fun _ => (0 : Int32)))), (q_7, .inl (cyI, 1957, .inl (fun _ => (0 : Int32)))), (q_8, .inl (cyI, 25857, .inl (fun _ => (0 : Int32))))] _ := hP
  have hD : va_D A [(wk, .inr (4, [.ref q_1, .ref q_4, .ref q_5, .ref q_6, .ref q_7, .ref q_8, .null, .null, .null, .null, .null, .null, .int 0, .int 0, .int 0, .int 0, .int 0, .int 0, .int 0, .int 0])), (q_1, .inr (1, [.ref uh_3, .int 0, .int 0, .int 0])), (uh_3, .inr (0, [.int 0, .int 0, .int 0, .int 0, .int 0])), (q_4, .inl (cyI, 1957, .inl (fun _ => (0 : Int32)))), (q_5, .inl (cyI, 1024, .inl (fun _ => (0 : Int32)))), (q_6, .inl (cyI, 1957, .inl (fun _ => (0 : Int32)))), (q_7, .inl (cyI, 1957, .inl (fun _ => (0 : Int32)))), (q_8, .inl (cyI, 25857, .inl (fun _ => (0 : Int32))))] := hD
  refine lv_aload_n hx hb dX6_init_60 rfl (lv_at hl 0 rfl) ?_
  refine lv_sipush (v := 25857) hx hb dX6_init_61 (by decide) ?_
  refine bs_newI (n := 25857) hx hb (hts (.arrayClass .int) (by decide +kernel)) hB hP hD hS hA 25857 (by decide) (by decide) (Nat.le_of_ble_eq_true rfl) (Nat.le_of_ble_eq_true rfl) (Nat.le_of_ble_eq_true rfl) dX6_init_64 (fun q_9 H hP hD hS => ?_)
  refine W.widen (k := 8) (n := 58618) (Nat.le_of_ble_eq_true rfl) (Nat.le_of_ble_eq_true rfl) ?_
  have hP : va_P (dC, dI) vwCl [(wk, .inr (4, [.ref q_1, .ref q_4, .ref q_5, .ref q_6, .ref q_7, .ref q_8, .null, .null, .null, .null, .null, .null, .int 0, .int 0, .int 0, .int 0, .int 0, .int 0, .int 0, .int 0])), (q_1, .inr (1, [.ref uh_3, .int 0, .int 0, .int 0])), (uh_3, .inr (0, [.int 0, .int 0, .int 0, .int 0, .int 0])), (q_4, .inl (cyI, 1957, .inl (fun _ => (0 : Int32)))), (q_5, .inl (cyI, 1024, .inl (fun _ => (0 : Int32)))), (q_6, .inl (cyI, 1957, .inl (fun _ => (0 : Int32)))), (q_7, .inl (cyI, 1957, .inl (fun _ => (0 : Int32)))), (q_8, .inl (cyI, 25857, .inl (fun _ => (0 : Int32)))), (q_9, .inl (cyI, 25857, .inl (fun _ => (0 : Int32))))] _ := hP
  have hD : va_D A [(wk, .inr (4, [.ref q_1, .ref q_4, .ref q_5, .ref q_6, .ref q_7, .ref q_8, .null, .null, .null, .null, .null, .null, .int 0, .int 0, .int 0, .int 0, .int 0, .int 0, .int 0, .int 0])), (q_1, .inr (1, [.ref uh_3, .int 0, .int 0, .int 0])), (uh_3, .inr (0, [.int 0, .int 0, .int 0, .int 0, .int 0])), (q_4, .inl (cyI, 1957, .inl (fun _ => (0 : Int32)))), (q_5, .inl (cyI, 1024, .inl (fun _ => (0 : Int32)))), (q_6, .inl (cyI, 1957, .inl (fun _ => (0 : Int32)))), (q_7, .inl (cyI, 1957, .inl (fun _ => (0 : Int32)))), (q_8, .inl (cyI, 25857, .inl (fun _ => (0 : Int32)))), (q_9, .inl (cyI, 25857, .inl (fun _ => (0 : Int32))))] := hD
  refine va_putF (D := (dC, dI)) (ci := 4) (v := .ref q_9) (ty := (.array .int)) (C := RX6) (T := TX6) (N := 20) hx hb hts hnX6_init_X6 tyX6 tyX6_ok nmX6 hown hK hP hD hS 0 rfl rfl 6 (by decide) (hts (.fieldLink RX6 34 "RingMeets$Walks" "stepFrom" "[I") (by decide +kernel)) (fun _ h9 => h9) rfl hin rfl (by decide +kernel) rfl rfl (Nat.le_of_ble_eq_true rfl) dX6_init_66 (fun H locs hP hD hS => ?_)
  have hP : va_P (dC, dI) vwCl [(wk, .inr (4, [.ref q_1, .ref q_4, .ref q_5, .ref q_6, .ref q_7, .ref q_8, .ref q_9, .null, .null, .null, .null, .null, .int 0, .int 0, .int 0, .int 0, .int 0, .int 0, .int 0, .int 0])), (q_1, .inr (1, [.ref uh_3, .int 0, .int 0, .int 0])), (uh_3, .inr (0, [.int 0, .int 0, .int 0, .int 0, .int 0])), (q_4, .inl (cyI, 1957, .inl (fun _ => (0 : Int32)))), (q_5, .inl (cyI, 1024, .inl (fun _ => (0 : Int32)))), (q_6, .inl (cyI, 1957, .inl (fun _ => (0 : Int32)))), (q_7, .inl (cyI, 1957, .inl (fun _ => (0 : Int32)))), (q_8, .inl (cyI, 25857, .inl (fun _ => (0 : Int32)))), (q_9, .inl (cyI, 25857, .inl (fun _ => (0 : Int32))))] _ := hP
  have hD : va_D A [(wk, .inr (4, [.ref q_1, .ref q_4, .ref q_5, .ref q_6, .ref q_7, .ref q_8, .ref q_9, .null, .null, .null, .null, .null, .int 0, .int 0, .int 0, .int 0, .int 0, .int 0, .int 0, .int 0])), (q_1, .inr (1, [.ref uh_3, .int 0, .int 0, .int 0])), (uh_3, .inr (0, [.int 0, .int 0, .int 0, .int 0, .int 0])), (q_4, .inl (cyI, 1957, .inl (fun _ => (0 : Int32)))), (q_5, .inl (cyI, 1024, .inl (fun _ => (0 : Int32)))), (q_6, .inl (cyI, 1957, .inl (fun _ => (0 : Int32)))), (q_7, .inl (cyI, 1957, .inl (fun _ => (0 : Int32)))), (q_8, .inl (cyI, 25857, .inl (fun _ => (0 : Int32)))), (q_9, .inl (cyI, 25857, .inl (fun _ => (0 : Int32))))] := hD
  refine lv_aload_n hx hb dX6_init_69 rfl (lv_at hl 0 rfl) ?_
  refine lv_sipush (v := 1957) hx hb dX6_init_70 (by decide) ?_
  refine bs_newI (n := 1957) hx hb (hts (.arrayClass .int) (by decide +kernel)) hB hP hD hS hA 1957 (by decide) (by decide) (Nat.le_of_ble_eq_true rfl) (Nat.le_of_ble_eq_true rfl) (Nat.le_of_ble_eq_true rfl) dX6_init_73 (fun q_10 H hP hD hS => ?_)
  refine W.widen (k := 9) (n := 60575) (Nat.le_of_ble_eq_true rfl) (Nat.le_of_ble_eq_true rfl) ?_
  have hP : va_P (dC, dI) vwCl [(wk, .inr (4, [.ref q_1, .ref q_4, .ref q_5, .ref q_6, .ref q_7, .ref q_8, .ref q_9, .null, .null, .null, .null, .null, .int 0, .int 0, .int 0, .int 0, .int 0, .int 0, .int 0, .int 0])), (q_1, .inr (1, [.ref uh_3, .int 0, .int 0, .int 0])), (uh_3, .inr (0, [.int 0, .int 0, .int 0, .int 0, .int 0])), (q_4, .inl (cyI, 1957, .inl (fun _ => (0 : Int32)))), (q_5, .inl (cyI, 1024, .inl (fun _ => (0 : Int32)))), (q_6, .inl (cyI, 1957, .inl (fun _ => (0 : Int32)))), (q_7, .inl (cyI, 1957, .inl (fun _ => (0 : Int32)))), (q_8, .inl (cyI, 25857, .inl (fun _ => (0 : Int32)))), (q_9, .inl (cyI, 25857, .inl (fun _ => (0 : Int32)))), (q_10, .inl (cyI, 1957, .inl (fun _ => (0 : Int32))))] _ := hP
  have hD : va_D A [(wk, .inr (4, [.ref q_1, .ref q_4, .ref q_5, .ref q_6, .ref q_7, .ref q_8, .ref q_9, .null, .null, .null, .null, .null, .int 0, .int 0, .int 0, .int 0, .int 0, .int 0, .int 0, .int 0])), (q_1, .inr (1, [.ref uh_3, .int 0, .int 0, .int 0])), (uh_3, .inr (0, [.int 0, .int 0, .int 0, .int 0, .int 0])), (q_4, .inl (cyI, 1957, .inl (fun _ => (0 : Int32)))), (q_5, .inl (cyI, 1024, .inl (fun _ => (0 : Int32)))), (q_6, .inl (cyI, 1957, .inl (fun _ => (0 : Int32)))), (q_7, .inl (cyI, 1957, .inl (fun _ => (0 : Int32)))), (q_8, .inl (cyI, 25857, .inl (fun _ => (0 : Int32)))), (q_9, .inl (cyI, 25857, .inl (fun _ => (0 : Int32)))), (q_10, .inl (cyI, 1957, .inl (fun _ => (0 : Int32))))] := hD
  refine va_putF (D := (dC, dI)) (ci := 4) (v := .ref q_10) (ty := (.array .int)) (C := RX6) (T := TX6) (N := 20) hx hb hts hnX6_init_X6 tyX6 tyX6_ok nmX6 hown hK hP hD hS 0 rfl rfl 7 (by decide) (hts (.fieldLink RX6 37 "RingMeets$Walks" "stepsLeft" "[I") (by decide +kernel)) (fun _ h9 => h9) rfl hin rfl (by decide +kernel) rfl rfl (Nat.le_of_ble_eq_true rfl) dX6_init_75 (fun H locs hP hD hS => ?_)
  have hP : va_P (dC, dI) vwCl [(wk, .inr (4, [.ref q_1, .ref q_4, .ref q_5, .ref q_6, .ref q_7, .ref q_8, .ref q_9, .ref q_10, .null, .null, .null, .null, .int 0, .int 0, .int 0, .int 0, .int 0, .int 0, .int 0, .int 0])), (q_1, .inr (1, [.ref uh_3, .int 0, .int 0, .int 0])), (uh_3, .inr (0, [.int 0, .int 0, .int 0, .int 0, .int 0])), (q_4, .inl (cyI, 1957, .inl (fun _ => (0 : Int32)))), (q_5, .inl (cyI, 1024, .inl (fun _ => (0 : Int32)))), (q_6, .inl (cyI, 1957, .inl (fun _ => (0 : Int32)))), (q_7, .inl (cyI, 1957, .inl (fun _ => (0 : Int32)))), (q_8, .inl (cyI, 25857, .inl (fun _ => (0 : Int32)))), (q_9, .inl (cyI, 25857, .inl (fun _ => (0 : Int32)))), (q_10, .inl (cyI, 1957, .inl (fun _ => (0 : Int32))))] _ := hP
  have hD : va_D A [(wk, .inr (4, [.ref q_1, .ref q_4, .ref q_5, .ref q_6, .ref q_7, .ref q_8, .ref q_9, .ref q_10, .null, .null, .null, .null, .int 0, .int 0, .int 0, .int 0, .int 0, .int 0, .int 0, .int 0])), (q_1, .inr (1, [.ref uh_3, .int 0, .int 0, .int 0])), (uh_3, .inr (0, [.int 0, .int 0, .int 0, .int 0, .int 0])), (q_4, .inl (cyI, 1957, .inl (fun _ => (0 : Int32)))), (q_5, .inl (cyI, 1024, .inl (fun _ => (0 : Int32)))), (q_6, .inl (cyI, 1957, .inl (fun _ => (0 : Int32)))), (q_7, .inl (cyI, 1957, .inl (fun _ => (0 : Int32)))), (q_8, .inl (cyI, 25857, .inl (fun _ => (0 : Int32)))), (q_9, .inl (cyI, 25857, .inl (fun _ => (0 : Int32)))), (q_10, .inl (cyI, 1957, .inl (fun _ => (0 : Int32))))] := hD
  refine lv_aload_n hx hb dX6_init_78 rfl (lv_at hl 0 rfl) ?_
  refine lv_sipush (v := 1957) hx hb dX6_init_79 (by decide) ?_
  refine bs_newI (n := 1957) hx hb (hts (.arrayClass .int) (by decide +kernel)) hB hP hD hS hA 1957 (by decide) (by decide) (Nat.le_of_ble_eq_true rfl) (Nat.le_of_ble_eq_true rfl) (Nat.le_of_ble_eq_true rfl) dX6_init_82 (fun q_11 H hP hD hS => ?_)
  refine W.widen (k := 10) (n := 62532) (Nat.le_of_ble_eq_true rfl) (Nat.le_of_ble_eq_true rfl) ?_
  have hP : va_P (dC, dI) vwCl [(wk, .inr (4, [.ref q_1, .ref q_4, .ref q_5, .ref q_6, .ref q_7, .ref q_8, .ref q_9, .ref q_10, .null, .null, .null, .null, .int 0, .int 0, .int 0, .int 0, .int 0, .int 0, .int 0, .int 0])), (q_1, .inr (1, [.ref uh_3, .int 0, .int 0, .int 0])), (uh_3, .inr (0, [.int 0, .int 0, .int 0, .int 0, .int 0])), (q_4, .inl (cyI, 1957, .inl (fun _ => (0 : Int32)))), (q_5, .inl (cyI, 1024, .inl (fun _ => (0 : Int32)))), (q_6, .inl (cyI, 1957, .inl (fun _ => (0 : Int32)))), (q_7, .inl (cyI, 1957, .inl (fun _ => (0 : Int32)))), (q_8, .inl (cyI, 25857, .inl (fun _ => (0 : Int32)))), (q_9, .inl (cyI, 25857, .inl (fun _ => (0 : Int32)))), (q_10, .inl (cyI, 1957, .inl (fun _ => (0 : Int32)))), (q_11, .inl (cyI, 1957, .inl (fun _ => (0 : Int32))))] _ := hP
  have hD : va_D A [(wk, .inr (4, [.ref q_1, .ref q_4, .ref q_5, .ref q_6, .ref q_7, .ref q_8, .ref q_9, .ref q_10, .null, .null, .null, .null, .int 0, .int 0, .int 0, .int 0, .int 0, .int 0, .int 0, .int 0])), (q_1, .inr (1, [.ref uh_3, .int 0, .int 0, .int 0])), (uh_3, .inr (0, [.int 0, .int 0, .int 0, .int 0, .int 0])), (q_4, .inl (cyI, 1957, .inl (fun _ => (0 : Int32)))), (q_5, .inl (cyI, 1024, .inl (fun _ => (0 : Int32)))), (q_6, .inl (cyI, 1957, .inl (fun _ => (0 : Int32)))), (q_7, .inl (cyI, 1957, .inl (fun _ => (0 : Int32)))), (q_8, .inl (cyI, 25857, .inl (fun _ => (0 : Int32)))), (q_9, .inl (cyI, 25857, .inl (fun _ => (0 : Int32)))), (q_10, .inl (cyI, 1957, .inl (fun _ => (0 : Int32)))), (q_11, .inl (cyI, 1957, .inl (fun _ => (0 : Int32))))] := hD
  refine va_putF (D := (dC, dI)) (ci := 4) (v := .ref q_11) (ty := (.array .int)) (C := RX6) (T := TX6) (N := 20) hx hb hts hnX6_init_X6 tyX6 tyX6_ok nmX6 hown hK hP hD hS 0 rfl rfl 8 (by decide) (hts (.fieldLink RX6 40 "RingMeets$Walks" "soon" "[I") (by decide +kernel)) (fun _ h9 => h9) rfl hin rfl (by decide +kernel) rfl rfl (Nat.le_of_ble_eq_true rfl) dX6_init_84 (fun H locs hP hD hS => ?_)
  have hP : va_P (dC, dI) vwCl [(wk, .inr (4, [.ref q_1, .ref q_4, .ref q_5, .ref q_6, .ref q_7, .ref q_8, .ref q_9, .ref q_10, .ref q_11, .null, .null, .null, .int 0, .int 0, .int 0, .int 0, .int 0, .int 0, .int 0, .int 0])), (q_1, .inr (1, [.ref uh_3, .int 0, .int 0, .int 0])), (uh_3, .inr (0, [.int 0, .int 0, .int 0, .int 0, .int 0])), (q_4, .inl (cyI, 1957, .inl (fun _ => (0 : Int32)))), (q_5, .inl (cyI, 1024, .inl (fun _ => (0 : Int32)))), (q_6, .inl (cyI, 1957, .inl (fun _ => (0 : Int32)))), (q_7, .inl (cyI, 1957, .inl (fun _ => (0 : Int32)))), (q_8, .inl (cyI, 25857, .inl (fun _ => (0 : Int32)))), (q_9, .inl (cyI, 25857, .inl (fun _ => (0 : Int32)))), (q_10, .inl (cyI, 1957, .inl (fun _ => (0 : Int32)))), (q_11, .inl (cyI, 1957, .inl (fun _ => (0 : Int32))))] _ := hP
  have hD : va_D A [(wk, .inr (4, [.ref q_1, .ref q_4, .ref q_5, .ref q_6, .ref q_7, .ref q_8, .ref q_9, .ref q_10, .ref q_11, .null, .null, .null, .int 0, .int 0, .int 0, .int 0, .int 0, .int 0, .int 0, .int 0])), (q_1, .inr (1, [.ref uh_3, .int 0, .int 0, .int 0])), (uh_3, .inr (0, [.int 0, .int 0, .int 0, .int 0, .int 0])), (q_4, .inl (cyI, 1957, .inl (fun _ => (0 : Int32)))), (q_5, .inl (cyI, 1024, .inl (fun _ => (0 : Int32)))), (q_6, .inl (cyI, 1957, .inl (fun _ => (0 : Int32)))), (q_7, .inl (cyI, 1957, .inl (fun _ => (0 : Int32)))), (q_8, .inl (cyI, 25857, .inl (fun _ => (0 : Int32)))), (q_9, .inl (cyI, 25857, .inl (fun _ => (0 : Int32)))), (q_10, .inl (cyI, 1957, .inl (fun _ => (0 : Int32)))), (q_11, .inl (cyI, 1957, .inl (fun _ => (0 : Int32))))] := hD
  refine lv_aload_n hx hb dX6_init_87 rfl (lv_at hl 0 rfl) ?_
  refine lv_sipush (v := 1957) hx hb dX6_init_88 (by decide) ?_
  refine bs_newI (n := 1957) hx hb (hts (.arrayClass .int) (by decide +kernel)) hB hP hD hS hA 1957 (by decide) (by decide) (Nat.le_of_ble_eq_true rfl) (Nat.le_of_ble_eq_true rfl) (Nat.le_of_ble_eq_true rfl) dX6_init_91 (fun q_12 H hP hD hS => ?_)
  refine W.widen (k := 11) (n := 64489) (Nat.le_of_ble_eq_true rfl) (Nat.le_of_ble_eq_true rfl) ?_
  have hP : va_P (dC, dI) vwCl [(wk, .inr (4, [.ref q_1, .ref q_4, .ref q_5, .ref q_6, .ref q_7, .ref q_8, .ref q_9, .ref q_10, .ref q_11, .null, .null, .null, .int 0, .int 0, .int 0, .int 0, .int 0, .int 0, .int 0, .int 0])), (q_1, .inr (1, [.ref uh_3, .int 0, .int 0, .int 0])), (uh_3, .inr (0, [.int 0, .int 0, .int 0, .int 0, .int 0])), (q_4, .inl (cyI, 1957, .inl (fun _ => (0 : Int32)))), (q_5, .inl (cyI, 1024, .inl (fun _ => (0 : Int32)))), (q_6, .inl (cyI, 1957, .inl (fun _ => (0 : Int32)))), (q_7, .inl (cyI, 1957, .inl (fun _ => (0 : Int32)))), (q_8, .inl (cyI, 25857, .inl (fun _ => (0 : Int32)))), (q_9, .inl (cyI, 25857, .inl (fun _ => (0 : Int32)))), (q_10, .inl (cyI, 1957, .inl (fun _ => (0 : Int32)))), (q_11, .inl (cyI, 1957, .inl (fun _ => (0 : Int32)))), (q_12, .inl (cyI, 1957, .inl (fun _ => (0 : Int32))))] _ := hP
  have hD : va_D A [(wk, .inr (4, [.ref q_1, .ref q_4, .ref q_5, .ref q_6, .ref q_7, .ref q_8, .ref q_9, .ref q_10, .ref q_11, .null, .null, .null, .int 0, .int 0, .int 0, .int 0, .int 0, .int 0, .int 0, .int 0])), (q_1, .inr (1, [.ref uh_3, .int 0, .int 0, .int 0])), (uh_3, .inr (0, [.int 0, .int 0, .int 0, .int 0, .int 0])), (q_4, .inl (cyI, 1957, .inl (fun _ => (0 : Int32)))), (q_5, .inl (cyI, 1024, .inl (fun _ => (0 : Int32)))), (q_6, .inl (cyI, 1957, .inl (fun _ => (0 : Int32)))), (q_7, .inl (cyI, 1957, .inl (fun _ => (0 : Int32)))), (q_8, .inl (cyI, 25857, .inl (fun _ => (0 : Int32)))), (q_9, .inl (cyI, 25857, .inl (fun _ => (0 : Int32)))), (q_10, .inl (cyI, 1957, .inl (fun _ => (0 : Int32)))), (q_11, .inl (cyI, 1957, .inl (fun _ => (0 : Int32)))), (q_12, .inl (cyI, 1957, .inl (fun _ => (0 : Int32))))] := hD
  refine va_putF (D := (dC, dI)) (ci := 4) (v := .ref q_12) (ty := (.array .int)) (C := RX6) (T := TX6) (N := 20) hx hb hts hnX6_init_X6 tyX6 tyX6_ok nmX6 hown hK hP hD hS 0 rfl rfl 9 (by decide) (hts (.fieldLink RX6 43 "RingMeets$Walks" "late" "[I") (by decide +kernel)) (fun _ h9 => h9) rfl hin rfl (by decide +kernel) rfl rfl (Nat.le_of_ble_eq_true rfl) dX6_init_93 (fun H locs hP hD hS => ?_)
  have hP : va_P (dC, dI) vwCl [(wk, .inr (4, [.ref q_1, .ref q_4, .ref q_5, .ref q_6, .ref q_7, .ref q_8, .ref q_9, .ref q_10, .ref q_11, .ref q_12, .null, .null, .int 0, .int 0, .int 0, .int 0, .int 0, .int 0, .int 0, .int 0])), (q_1, .inr (1, [.ref uh_3, .int 0, .int 0, .int 0])), (uh_3, .inr (0, [.int 0, .int 0, .int 0, .int 0, .int 0])), (q_4, .inl (cyI, 1957, .inl (fun _ => (0 : Int32)))), (q_5, .inl (cyI, 1024, .inl (fun _ => (0 : Int32)))), (q_6, .inl (cyI, 1957, .inl (fun _ => (0 : Int32)))), (q_7, .inl (cyI, 1957, .inl (fun _ => (0 : Int32)))), (q_8, .inl (cyI, 25857, .inl (fun _ => (0 : Int32)))), (q_9, .inl (cyI, 25857, .inl (fun _ => (0 : Int32)))), (q_10, .inl (cyI, 1957, .inl (fun _ => (0 : Int32)))), (q_11, .inl (cyI, 1957, .inl (fun _ => (0 : Int32)))), (q_12, .inl (cyI, 1957, .inl (fun _ => (0 : Int32))))] _ := hP
  have hD : va_D A [(wk, .inr (4, [.ref q_1, .ref q_4, .ref q_5, .ref q_6, .ref q_7, .ref q_8, .ref q_9, .ref q_10, .ref q_11, .ref q_12, .null, .null, .int 0, .int 0, .int 0, .int 0, .int 0, .int 0, .int 0, .int 0])), (q_1, .inr (1, [.ref uh_3, .int 0, .int 0, .int 0])), (uh_3, .inr (0, [.int 0, .int 0, .int 0, .int 0, .int 0])), (q_4, .inl (cyI, 1957, .inl (fun _ => (0 : Int32)))), (q_5, .inl (cyI, 1024, .inl (fun _ => (0 : Int32)))), (q_6, .inl (cyI, 1957, .inl (fun _ => (0 : Int32)))), (q_7, .inl (cyI, 1957, .inl (fun _ => (0 : Int32)))), (q_8, .inl (cyI, 25857, .inl (fun _ => (0 : Int32)))), (q_9, .inl (cyI, 25857, .inl (fun _ => (0 : Int32)))), (q_10, .inl (cyI, 1957, .inl (fun _ => (0 : Int32)))), (q_11, .inl (cyI, 1957, .inl (fun _ => (0 : Int32)))), (q_12, .inl (cyI, 1957, .inl (fun _ => (0 : Int32))))] := hD
  refine lv_aload_n hx hb dX6_init_96 rfl (lv_at hl 0 rfl) ?_
  refine lv_sipush (v := 1957) hx hb dX6_init_97 (by decide) ?_
  refine bs_newI (n := 1957) hx hb (hts (.arrayClass .int) (by decide +kernel)) hB hP hD hS hA 1957 (by decide) (by decide) (Nat.le_of_ble_eq_true rfl) (Nat.le_of_ble_eq_true rfl) (Nat.le_of_ble_eq_true rfl) dX6_init_100 (fun q_13 H hP hD hS => ?_)
  refine W.widen (k := 12) (n := 66446) (Nat.le_of_ble_eq_true rfl) (Nat.le_of_ble_eq_true rfl) ?_
  have hP : va_P (dC, dI) vwCl [(wk, .inr (4, [.ref q_1, .ref q_4, .ref q_5, .ref q_6, .ref q_7, .ref q_8, .ref q_9, .ref q_10, .ref q_11, .ref q_12, .null, .null, .int 0, .int 0, .int 0, .int 0, .int 0, .int 0, .int 0, .int 0])), (q_1, .inr (1, [.ref uh_3, .int 0, .int 0, .int 0])), (uh_3, .inr (0, [.int 0, .int 0, .int 0, .int 0, .int 0])), (q_4, .inl (cyI, 1957, .inl (fun _ => (0 : Int32)))), (q_5, .inl (cyI, 1024, .inl (fun _ => (0 : Int32)))), (q_6, .inl (cyI, 1957, .inl (fun _ => (0 : Int32)))), (q_7, .inl (cyI, 1957, .inl (fun _ => (0 : Int32)))), (q_8, .inl (cyI, 25857, .inl (fun _ => (0 : Int32)))), (q_9, .inl (cyI, 25857, .inl (fun _ => (0 : Int32)))), (q_10, .inl (cyI, 1957, .inl (fun _ => (0 : Int32)))), (q_11, .inl (cyI, 1957, .inl (fun _ => (0 : Int32)))), (q_12, .inl (cyI, 1957, .inl (fun _ => (0 : Int32)))), (q_13, .inl (cyI, 1957, .inl (fun _ => (0 : Int32))))] _ := hP
  have hD : va_D A [(wk, .inr (4, [.ref q_1, .ref q_4, .ref q_5, .ref q_6, .ref q_7, .ref q_8, .ref q_9, .ref q_10, .ref q_11, .ref q_12, .null, .null, .int 0, .int 0, .int 0, .int 0, .int 0, .int 0, .int 0, .int 0])), (q_1, .inr (1, [.ref uh_3, .int 0, .int 0, .int 0])), (uh_3, .inr (0, [.int 0, .int 0, .int 0, .int 0, .int 0])), (q_4, .inl (cyI, 1957, .inl (fun _ => (0 : Int32)))), (q_5, .inl (cyI, 1024, .inl (fun _ => (0 : Int32)))), (q_6, .inl (cyI, 1957, .inl (fun _ => (0 : Int32)))), (q_7, .inl (cyI, 1957, .inl (fun _ => (0 : Int32)))), (q_8, .inl (cyI, 25857, .inl (fun _ => (0 : Int32)))), (q_9, .inl (cyI, 25857, .inl (fun _ => (0 : Int32)))), (q_10, .inl (cyI, 1957, .inl (fun _ => (0 : Int32)))), (q_11, .inl (cyI, 1957, .inl (fun _ => (0 : Int32)))), (q_12, .inl (cyI, 1957, .inl (fun _ => (0 : Int32)))), (q_13, .inl (cyI, 1957, .inl (fun _ => (0 : Int32))))] := hD
  refine va_putF (D := (dC, dI)) (ci := 4) (v := .ref q_13) (ty := (.array .int)) (C := RX6) (T := TX6) (N := 20) hx hb hts hnX6_init_X6 tyX6 tyX6_ok nmX6 hown hK hP hD hS 0 rfl rfl 10 (by decide) (hts (.fieldLink RX6 46 "RingMeets$Walks" "line" "[I") (by decide +kernel)) (fun _ h9 => h9) rfl hin rfl (by decide +kernel) rfl rfl (Nat.le_of_ble_eq_true rfl) dX6_init_102 (fun H locs hP hD hS => ?_)
  have hP : va_P (dC, dI) vwCl [(wk, .inr (4, [.ref q_1, .ref q_4, .ref q_5, .ref q_6, .ref q_7, .ref q_8, .ref q_9, .ref q_10, .ref q_11, .ref q_12, .ref q_13, .null, .int 0, .int 0, .int 0, .int 0, .int 0, .int 0, .int 0, .int 0])), (q_1, .inr (1, [.ref uh_3, .int 0, .int 0, .int 0])), (uh_3, .inr (0, [.int 0, .int 0, .int 0, .int 0, .int 0])), (q_4, .inl (cyI, 1957, .inl (fun _ => (0 : Int32)))), (q_5, .inl (cyI, 1024, .inl (fun _ => (0 : Int32)))), (q_6, .inl (cyI, 1957, .inl (fun _ => (0 : Int32)))), (q_7, .inl (cyI, 1957, .inl (fun _ => (0 : Int32)))), (q_8, .inl (cyI, 25857, .inl (fun _ => (0 : Int32)))), (q_9, .inl (cyI, 25857, .inl (fun _ => (0 : Int32)))), (q_10, .inl (cyI, 1957, .inl (fun _ => (0 : Int32)))), (q_11, .inl (cyI, 1957, .inl (fun _ => (0 : Int32)))), (q_12, .inl (cyI, 1957, .inl (fun _ => (0 : Int32)))), (q_13, .inl (cyI, 1957, .inl (fun _ => (0 : Int32))))] _ := hP
  have hD : va_D A [(wk, .inr (4, [.ref q_1, .ref q_4, .ref q_5, .ref q_6, .ref q_7, .ref q_8, .ref q_9, .ref q_10, .ref q_11, .ref q_12, .ref q_13, .null, .int 0, .int 0, .int 0, .int 0, .int 0, .int 0, .int 0, .int 0])), (q_1, .inr (1, [.ref uh_3, .int 0, .int 0, .int 0])), (uh_3, .inr (0, [.int 0, .int 0, .int 0, .int 0, .int 0])), (q_4, .inl (cyI, 1957, .inl (fun _ => (0 : Int32)))), (q_5, .inl (cyI, 1024, .inl (fun _ => (0 : Int32)))), (q_6, .inl (cyI, 1957, .inl (fun _ => (0 : Int32)))), (q_7, .inl (cyI, 1957, .inl (fun _ => (0 : Int32)))), (q_8, .inl (cyI, 25857, .inl (fun _ => (0 : Int32)))), (q_9, .inl (cyI, 25857, .inl (fun _ => (0 : Int32)))), (q_10, .inl (cyI, 1957, .inl (fun _ => (0 : Int32)))), (q_11, .inl (cyI, 1957, .inl (fun _ => (0 : Int32)))), (q_12, .inl (cyI, 1957, .inl (fun _ => (0 : Int32)))), (q_13, .inl (cyI, 1957, .inl (fun _ => (0 : Int32))))] := hD
  refine lv_aload_n hx hb dX6_init_105 rfl (lv_at hl 0 rfl) ?_
  refine lv_aload_n hx hb dX6_init_106 rfl (lv_at hl 1 rfl) ?_
  refine va_putF (D := (dC, dI)) (ci := 4) (v := .ref ru) (ty := (.object "RingMeets$Rules")) (C := RX6) (T := TX6) (N := 20) hx hb hts hnX6_init_X6 tyX6 tyX6_ok nmX6 hown hK hP hD hS 0 rfl rfl 11 (by decide) (hts (.fieldLink RX6 49 "RingMeets$Walks" "rules" "LRingMeets$Rules;") (by decide +kernel)) (fun _ h9 => h9) rfl hin rfl (by decide +kernel) rfl rfl (Nat.le_of_ble_eq_true rfl) dX6_init_107 (fun H locs hP hD hS => ?_)
  have hP : va_P (dC, dI) vwCl [(wk, .inr (4, [.ref q_1, .ref q_4, .ref q_5, .ref q_6, .ref q_7, .ref q_8, .ref q_9, .ref q_10, .ref q_11, .ref q_12, .ref q_13, .ref ru, .int 0, .int 0, .int 0, .int 0, .int 0, .int 0, .int 0, .int 0])), (q_1, .inr (1, [.ref uh_3, .int 0, .int 0, .int 0])), (uh_3, .inr (0, [.int 0, .int 0, .int 0, .int 0, .int 0])), (q_4, .inl (cyI, 1957, .inl (fun _ => (0 : Int32)))), (q_5, .inl (cyI, 1024, .inl (fun _ => (0 : Int32)))), (q_6, .inl (cyI, 1957, .inl (fun _ => (0 : Int32)))), (q_7, .inl (cyI, 1957, .inl (fun _ => (0 : Int32)))), (q_8, .inl (cyI, 25857, .inl (fun _ => (0 : Int32)))), (q_9, .inl (cyI, 25857, .inl (fun _ => (0 : Int32)))), (q_10, .inl (cyI, 1957, .inl (fun _ => (0 : Int32)))), (q_11, .inl (cyI, 1957, .inl (fun _ => (0 : Int32)))), (q_12, .inl (cyI, 1957, .inl (fun _ => (0 : Int32)))), (q_13, .inl (cyI, 1957, .inl (fun _ => (0 : Int32))))] _ := hP
  have hD : va_D A [(wk, .inr (4, [.ref q_1, .ref q_4, .ref q_5, .ref q_6, .ref q_7, .ref q_8, .ref q_9, .ref q_10, .ref q_11, .ref q_12, .ref q_13, .ref ru, .int 0, .int 0, .int 0, .int 0, .int 0, .int 0, .int 0, .int 0])), (q_1, .inr (1, [.ref uh_3, .int 0, .int 0, .int 0])), (uh_3, .inr (0, [.int 0, .int 0, .int 0, .int 0, .int 0])), (q_4, .inl (cyI, 1957, .inl (fun _ => (0 : Int32)))), (q_5, .inl (cyI, 1024, .inl (fun _ => (0 : Int32)))), (q_6, .inl (cyI, 1957, .inl (fun _ => (0 : Int32)))), (q_7, .inl (cyI, 1957, .inl (fun _ => (0 : Int32)))), (q_8, .inl (cyI, 25857, .inl (fun _ => (0 : Int32)))), (q_9, .inl (cyI, 25857, .inl (fun _ => (0 : Int32)))), (q_10, .inl (cyI, 1957, .inl (fun _ => (0 : Int32)))), (q_11, .inl (cyI, 1957, .inl (fun _ => (0 : Int32)))), (q_12, .inl (cyI, 1957, .inl (fun _ => (0 : Int32)))), (q_13, .inl (cyI, 1957, .inl (fun _ => (0 : Int32))))] := hD
  exact W.vret hx hb hr (fun t ht hW => ⟨⟨(q_1, uh_3, q_4, q_5, q_6, q_7, q_8, q_9, q_10, q_11, q_12, q_13), rfl, trivial, ⟨by rw [ht]; exact hP.sub (ws' := [(wk, .inr (4, [.ref q_1, .ref q_4, .ref q_5, .ref q_6, .ref q_7, .ref q_8, .ref q_9, .ref q_10, .ref q_11, .ref q_12, .ref q_13, .ref ru, .int 0, .int 0, .int 0, .int 0, .int 0, .int 0, .int 0, .int 0])), (q_1, .inr (1, [.ref uh_3, .int 0, .int 0, .int 0])), (uh_3, .inr (0, [.int 0, .int 0, .int 0, .int 0, .int 0])), (q_4, .inl (cyI, 1957, .inl (fun _ => (0 : Int32)))), (q_5, .inl (cyI, 1024, .inl (fun _ => (0 : Int32)))), (q_6, .inl (cyI, 1957, .inl (fun _ => (0 : Int32)))), (q_7, .inl (cyI, 1957, .inl (fun _ => (0 : Int32)))), (q_8, .inl (cyI, 25857, .inl (fun _ => (0 : Int32)))), (q_9, .inl (cyI, 25857, .inl (fun _ => (0 : Int32)))), (q_10, .inl (cyI, 1957, .inl (fun _ => (0 : Int32)))), (q_11, .inl (cyI, 1957, .inl (fun _ => (0 : Int32)))), (q_12, .inl (cyI, 1957, .inl (fun _ => (0 : Int32)))), (q_13, .inl (cyI, 1957, .inl (fun _ => (0 : Int32))))]) [0, 1, 2, 3, 4, 5, 6, 7, 8, 9, 10, 11, 12] rfl, hD.sub (ws' := [(wk, .inr (4, [.ref q_1, .ref q_4, .ref q_5, .ref q_6, .ref q_7, .ref q_8, .ref q_9, .ref q_10, .ref q_11, .ref q_12, .ref q_13, .ref ru, .int 0, .int 0, .int 0, .int 0, .int 0, .int 0, .int 0, .int 0])), (q_1, .inr (1, [.ref uh_3, .int 0, .int 0, .int 0])), (uh_3, .inr (0, [.int 0, .int 0, .int 0, .int 0, .int 0])), (q_4, .inl (cyI, 1957, .inl (fun _ => (0 : Int32)))), (q_5, .inl (cyI, 1024, .inl (fun _ => (0 : Int32)))), (q_6, .inl (cyI, 1957, .inl (fun _ => (0 : Int32)))), (q_7, .inl (cyI, 1957, .inl (fun _ => (0 : Int32)))), (q_8, .inl (cyI, 25857, .inl (fun _ => (0 : Int32)))), (q_9, .inl (cyI, 25857, .inl (fun _ => (0 : Int32)))), (q_10, .inl (cyI, 1957, .inl (fun _ => (0 : Int32)))), (q_11, .inl (cyI, 1957, .inl (fun _ => (0 : Int32)))), (q_12, .inl (cyI, 1957, .inl (fun _ => (0 : Int32)))), (q_13, .inl (cyI, 1957, .inl (fun _ => (0 : Int32))))]) [0, 1, 2, 3, 4, 5, 6, 7, 8, 9, 10, 11, 12] (by decide) rfl⟩⟩, hS.F ht⟩) hS.2.2 dX6_init_110

theorem hnX6_begin_X6 : ∀ w ∈ wsX60, w ∈ wsX6_begin := fun _ h => List.mem_cons_of_mem _ (List.mem_append_right _ h)
set_option maxHeartbeats 4000000 in
set_option maxRecDepth 100000 in
theorem kX6_begin (l : Launch) (dC : Nat → ClassId) (dI : Nat → Nat → Nat) (cyI cyZ : ClassId) (wk mo wy nw ol lt es sf sl so la li ru : Nat) (nf : Nat → Int32) (p2 : Int32) (sz : Nat) : Met l yX6_begin wsX6_begin ({ frames := 0, cells := 0, slots := 0, locals := 0 }) (bs_W dC dI cyI cyZ [.ref wk, .int 8, .int p2, .int 0] [(wk, .inr (4, [.ref mo, .ref wy, .ref nw, .ref ol, .ref lt, .ref es, .ref sf, .ref sl, .ref so, .ref la, .ref li, .ref ru, .int 0, .int 0, .int 0, .int 0, .int 0, .int 0, .int 0, .int 0])), (nw, .inl (cyI, 1024, .inl nf))] sz) (va_Qv (S := Nat → Int32) (fun q : Nat → Int32 => ∀ j, j < 1024 → q j = -1) (fun q t => bs_E dC dI (va_A [(wk, .inr (4, [.ref mo, .ref wy, .ref nw, .ref ol, .ref lt, .ref es, .ref sf, .ref sl, .ref so, .ref la, .ref li, .ref ru, .int 0, .int 0, .int 0, .int 0, .int 0, .int 0, .int 0, .int 0])), (nw, .inl (cyI, 1024, .inl nf))] sz) [(wk, .inr (4, [.ref mo, .ref wy, .ref nw, .ref ol, .ref lt, .ref es, .ref sf, .ref sl, .ref so, .ref la, .ref li, .ref ru, .int 8, .int p2, .int 0, .int 0, .int 0, .int 0, .int 0, .int 0])), (nw, .inl (cyI, 1024, .inl q))] t) (va_A [(wk, .inr (4, [.ref mo, .ref wy, .ref nw, .ref ol, .ref lt, .ref es, .ref sf, .ref sl, .ref so, .ref la, .ref li, .ref ru, .int 0, .int 0, .int 0, .int 0, .int 0, .int 0, .int 0, .int 0])), (nw, .inl (cyI, 1024, .inl nf))] sz)) 0 0 (va_A [(wk, .inr (4, [.ref mo, .ref wy, .ref nw, .ref ol, .ref lt, .ref es, .ref sf, .ref sl, .ref so, .ref la, .ref li, .ref ru, .int 0, .int 0, .int 0, .int 0, .int 0, .int 0, .int 0, .int 0])), (nw, .inl (cyI, 1024, .inl nf))] sz) := by
  refine Met.ofW (cc := cX6_begin) (maxL := 5) (ret := none) (by decide) rfl ?_
  intro p e s m args below meth c s₁ B hml hv
  obtain ⟨rfl, hsz, hB, hP, hD0⟩ := hv
  have hK := hB.1
  have hN := hB.2
  have hx := B.exec
  have hb := B.bytes
  have hr := B.returns
  have hts := atoms_spec (ws := wsX6_begin) B.pre
  have hown : s.vm.findClass RX6 = some m.cls := findClass_of_methodNamed B.named
  have hlocks := B.notSynchronized
  subst hsz
  have hD := hD0.self (sz := s.heap.size)
  generalize hAe : va_A [(wk, .inr (4, [.ref mo, .ref wy, .ref nw, .ref ol, .ref lt, .ref es, .ref sf, .ref sl, .ref so, .ref la, .ref li, .ref ru, .int 0, .int 0, .int 0, .int 0, .int 0, .int 0, .int 0, .int 0])), (nw, .inl (cyI, 1024, .inl nf))] s.heap.size = A at hD ⊢
  have hA : ∀ q : Nat, s.heap.size ≤ q → A q := fun q h => by rw [← hAe]; exact Or.inr h
  have hS : va_S A s.heap s.heap [] := va_S.rf
  have hP : va_P (dC, dI) vwCl [(wk, .inr (4, [.ref mo, .ref wy, .ref nw, .ref ol, .ref lt, .ref es, .ref sf, .ref sl, .ref so, .ref la, .ref li, .ref ru, .int 0, .int 0, .int 0, .int 0, .int 0, .int 0, .int 0, .int 0])), (nw, .inl (cyI, 1024, .inl nf))] s.heap := hP
  have hl := lv_entry ([.ref wk, .int 8, .int p2, .int 0]) (n := 5) (Nat.le_of_ble_eq_true rfl)
  rw [lg_entry_eq]
  generalize (lg_sl ([.ref wk, .int 8, .int p2, .int 0]) ++ List.replicate (5 - (lg_sl ([.ref wk, .int 8, .int p2, .int 0])).length) Slot.unset).toArray = ls at hl ⊢
  have hl : lv_has ls 5 [(0, .ref wk), (1, .int 8), (2, .int p2), (3, .int 0)] := hl
  refine lv_aload_n hx hb dX6_begin_0 rfl (lv_at hl 0 rfl) ?_
  refine lv_iload_n hx hb dX6_begin_1 rfl (lv_at hl 1 rfl) ?_
  refine va_put (D := (dC, dI)) (ci := 4) (v := .int 8) (ty := .int) (C := RX6) (T := TX6) (N := 20) hx hb hts hnX6_begin_X6 tyX6 tyX6_ok nmX6 hown hK hP hD hS 0 rfl rfl 12 (by decide) (hts (.fieldLink RX6 53 "RingMeets$Walks" "cells" "I") (by decide +kernel)) (fun _ h9 => h9) rfl (by decide +kernel) rfl rfl (Nat.le_of_ble_eq_true rfl) dX6_begin_2 (fun H locs hP hD hS => ?_)
  have hP : va_P (dC, dI) vwCl [(wk, .inr (4, [.ref mo, .ref wy, .ref nw, .ref ol, .ref lt, .ref es, .ref sf, .ref sl, .ref so, .ref la, .ref li, .ref ru, .int 8, .int 0, .int 0, .int 0, .int 0, .int 0, .int 0, .int 0])), (nw, .inl (cyI, 1024, .inl nf))] _ := hP
  have hD : va_D A [(wk, .inr (4, [.ref mo, .ref wy, .ref nw, .ref ol, .ref lt, .ref es, .ref sf, .ref sl, .ref so, .ref la, .ref li, .ref ru, .int 8, .int 0, .int 0, .int 0, .int 0, .int 0, .int 0, .int 0])), (nw, .inl (cyI, 1024, .inl nf))] := hD
  refine lv_aload_n hx hb dX6_begin_5 rfl (lv_at hl 0 rfl) ?_
  refine lv_iload_n hx hb dX6_begin_6 rfl (lv_at hl 2 rfl) ?_
  refine va_put (D := (dC, dI)) (ci := 4) (v := .int p2) (ty := .int) (C := RX6) (T := TX6) (N := 20) hx hb hts hnX6_begin_X6 tyX6 tyX6_ok nmX6 hown hK hP hD hS 0 rfl rfl 13 (by decide) (hts (.fieldLink RX6 57 "RingMeets$Walks" "schedule" "I") (by decide +kernel)) (fun _ h9 => h9) rfl (by decide +kernel) rfl rfl (Nat.le_of_ble_eq_true rfl) dX6_begin_7 (fun H locs hP hD hS => ?_)
  have hP : va_P (dC, dI) vwCl [(wk, .inr (4, [.ref mo, .ref wy, .ref nw, .ref ol, .ref lt, .ref es, .ref sf, .ref sl, .ref so, .ref la, .ref li, .ref ru, .int 8, .int p2, .int 0, .int 0, .int 0, .int 0, .int 0, .int 0])), (nw, .inl (cyI, 1024, .inl nf))] _ := hP
  have hD : va_D A [(wk, .inr (4, [.ref mo, .ref wy, .ref nw, .ref ol, .ref lt, .ref es, .ref sf, .ref sl, .ref so, .ref la, .ref li, .ref ru, .int 8, .int p2, .int 0, .int 0, .int 0, .int 0, .int 0, .int 0])), (nw, .inl (cyI, 1024, .inl nf))] := hD
  refine lv_aload_n hx hb dX6_begin_10 rfl (lv_at hl 0 rfl) ?_
  refine lv_iload_n hx hb dX6_begin_11 rfl (lv_at hl 3 rfl) ?_
  refine va_put (D := (dC, dI)) (ci := 4) (v := .int 0) (ty := .boolean) (C := RX6) (T := TX6) (N := 20) hx hb hts hnX6_begin_X6 tyX6 tyX6_ok nmX6 hown hK hP hD hS 0 rfl rfl 19 (by decide) (hts (.fieldLink RX6 60 "RingMeets$Walks" "blindly" "Z") (by decide +kernel)) (fun _ h9 => h9) rfl (by decide +kernel) rfl rfl (Nat.le_of_ble_eq_true rfl) dX6_begin_12 (fun H locs hP hD hS => ?_)
  have hP : va_P (dC, dI) vwCl [(wk, .inr (4, [.ref mo, .ref wy, .ref nw, .ref ol, .ref lt, .ref es, .ref sf, .ref sl, .ref so, .ref la, .ref li, .ref ru, .int 8, .int p2, .int 0, .int 0, .int 0, .int 0, .int 0, .int 0])), (nw, .inl (cyI, 1024, .inl nf))] _ := hP
  have hD : va_D A [(wk, .inr (4, [.ref mo, .ref wy, .ref nw, .ref ol, .ref lt, .ref es, .ref sf, .ref sl, .ref so, .ref la, .ref li, .ref ru, .int 8, .int p2, .int 0, .int 0, .int 0, .int 0, .int 0, .int 0])), (nw, .inl (cyI, 1024, .inl nf))] := hD
  refine lv_aload_n hx hb dX6_begin_15 rfl (lv_at hl 0 rfl) ?_
  refine lv_iconst (v := 0) hx hb dX6_begin_16 (by decide) ?_
  refine va_put (D := (dC, dI)) (ci := 4) (v := .int 0) (ty := .int) (C := RX6) (T := TX6) (N := 20) hx hb hts hnX6_begin_X6 tyX6 tyX6_ok nmX6 hown hK hP hD hS 0 rfl rfl 14 (by decide) (hts (.fieldLink RX6 64 "RingMeets$Walks" "size" "I") (by decide +kernel)) (fun _ h9 => h9) rfl (by decide +kernel) rfl rfl (Nat.le_of_ble_eq_true rfl) dX6_begin_17 (fun H locs hP hD hS => ?_)
  have hP : va_P (dC, dI) vwCl [(wk, .inr (4, [.ref mo, .ref wy, .ref nw, .ref ol, .ref lt, .ref es, .ref sf, .ref sl, .ref so, .ref la, .ref li, .ref ru, .int 8, .int p2, .int 0, .int 0, .int 0, .int 0, .int 0, .int 0])), (nw, .inl (cyI, 1024, .inl nf))] _ := hP
  have hD : va_D A [(wk, .inr (4, [.ref mo, .ref wy, .ref nw, .ref ol, .ref lt, .ref es, .ref sf, .ref sl, .ref so, .ref la, .ref li, .ref ru, .int 8, .int p2, .int 0, .int 0, .int 0, .int 0, .int 0, .int 0])), (nw, .inl (cyI, 1024, .inl nf))] := hD
  refine lv_aload_n hx hb dX6_begin_20 rfl (lv_at hl 0 rfl) ?_
  refine lv_iconst (v := 0) hx hb dX6_begin_21 (by decide) ?_
  refine va_put (D := (dC, dI)) (ci := 4) (v := .int 0) (ty := .int) (C := RX6) (T := TX6) (N := 20) hx hb hts hnX6_begin_X6 tyX6 tyX6_ok nmX6 hown hK hP hD hS 0 rfl rfl 15 (by decide) (hts (.fieldLink RX6 67 "RingMeets$Walks" "steps" "I") (by decide +kernel)) (fun _ h9 => h9) rfl (by decide +kernel) rfl rfl (Nat.le_of_ble_eq_true rfl) dX6_begin_22 (fun H locs hP hD hS => ?_)
  have hP : va_P (dC, dI) vwCl [(wk, .inr (4, [.ref mo, .ref wy, .ref nw, .ref ol, .ref lt, .ref es, .ref sf, .ref sl, .ref so, .ref la, .ref li, .ref ru, .int 8, .int p2, .int 0, .int 0, .int 0, .int 0, .int 0, .int 0])), (nw, .inl (cyI, 1024, .inl nf))] _ := hP
  have hD : va_D A [(wk, .inr (4, [.ref mo, .ref wy, .ref nw, .ref ol, .ref lt, .ref es, .ref sf, .ref sl, .ref so, .ref la, .ref li, .ref ru, .int 8, .int p2, .int 0, .int 0, .int 0, .int 0, .int 0, .int 0])), (nw, .inl (cyI, 1024, .inl nf))] := hD
  refine lv_aload_n hx hb dX6_begin_25 rfl (lv_at hl 0 rfl) ?_
  refine lv_iconst (v := 0) hx hb dX6_begin_26 (by decide) ?_
  refine va_put (D := (dC, dI)) (ci := 4) (v := .int 0) (ty := .int) (C := RX6) (T := TX6) (N := 20) hx hb hts hnX6_begin_X6 tyX6 tyX6_ok nmX6 hown hK hP hD hS 0 rfl rfl 17 (by decide) (hts (.fieldLink RX6 70 "RingMeets$Walks" "stuck" "I") (by decide +kernel)) (fun _ h9 => h9) rfl (by decide +kernel) rfl rfl (Nat.le_of_ble_eq_true rfl) dX6_begin_27 (fun H locs hP hD hS => ?_)
  have hP : va_P (dC, dI) vwCl [(wk, .inr (4, [.ref mo, .ref wy, .ref nw, .ref ol, .ref lt, .ref es, .ref sf, .ref sl, .ref so, .ref la, .ref li, .ref ru, .int 8, .int p2, .int 0, .int 0, .int 0, .int 0, .int 0, .int 0])), (nw, .inl (cyI, 1024, .inl nf))] _ := hP
  have hD : va_D A [(wk, .inr (4, [.ref mo, .ref wy, .ref nw, .ref ol, .ref lt, .ref es, .ref sf, .ref sl, .ref so, .ref la, .ref li, .ref ru, .int 8, .int p2, .int 0, .int 0, .int 0, .int 0, .int 0, .int 0])), (nw, .inl (cyI, 1024, .inl nf))] := hD
  refine lv_aload_n hx hb dX6_begin_30 rfl (lv_at hl 0 rfl) ?_
  refine lv_iconst (v := 0) hx hb dX6_begin_31 (by decide) ?_
  refine va_put (D := (dC, dI)) (ci := 4) (v := .int 0) (ty := .int) (C := RX6) (T := TX6) (N := 20) hx hb hts hnX6_begin_X6 tyX6 tyX6_ok nmX6 hown hK hP hD hS 0 rfl rfl 18 (by decide) (hts (.fieldLink RX6 73 "RingMeets$Walks" "rulesUsed" "I") (by decide +kernel)) (fun _ h9 => h9) rfl (by decide +kernel) rfl rfl (Nat.le_of_ble_eq_true rfl) dX6_begin_32 (fun H locs hP hD hS => ?_)
  have hP : va_P (dC, dI) vwCl [(wk, .inr (4, [.ref mo, .ref wy, .ref nw, .ref ol, .ref lt, .ref es, .ref sf, .ref sl, .ref so, .ref la, .ref li, .ref ru, .int 8, .int p2, .int 0, .int 0, .int 0, .int 0, .int 0, .int 0])), (nw, .inl (cyI, 1024, .inl nf))] _ := hP
  have hD : va_D A [(wk, .inr (4, [.ref mo, .ref wy, .ref nw, .ref ol, .ref lt, .ref es, .ref sf, .ref sl, .ref so, .ref la, .ref li, .ref ru, .int 8, .int p2, .int 0, .int 0, .int 0, .int 0, .int 0, .int 0])), (nw, .inl (cyI, 1024, .inl nf))] := hD
  refine lv_iconst (v := 0) hx hb dX6_begin_35 (by decide) ?_
  refine lv_istore (lv' := [(4, .int 0), (0, .ref wk), (1, .int 8), (2, .int p2), (3, .int 0)]) hx hb dX6_begin_36 hl (by decide) rfl (fun ls hl => ?_)
  have L38 : ∀ (n38 : Nat), ∀ (k : Nat) (nf : Nat → Int32), (0 ≤ k ∧ k ≤ 1024) → (1025 ≤ k + n38) → (∀ j, j < k → nf j = -1) → ∀ (H : Heap) (locs : List Loc), va_P (dC, dI) vwCl [(wk, .inr (4, [.ref mo, .ref wy, .ref nw, .ref ol, .ref lt, .ref es, .ref sf, .ref sl, .ref so, .ref la, .ref li, .ref ru, .int 8, .int p2, .int 0, .int 0, .int 0, .int 0, .int 0, .int 0])), (nw, .inl (cyI, 1024, .inl nf))] H → va_D A [(wk, .inr (4, [.ref mo, .ref wy, .ref nw, .ref ol, .ref lt, .ref es, .ref sf, .ref sl, .ref so, .ref la, .ref li, .ref ru, .int 8, .int p2, .int 0, .int 0, .int 0, .int 0, .int 0, .int 0])), (nw, .inl (cyI, 1024, .inl nf))] → va_S A s.heap H locs → ∀ (ls : Array Slot), lv_has ls 5 [(0, .ref wk), (4, .int (nI k))] → W p l e (headSpec wsX6_begin ({ frames := 0, cells := 0, slots := 0, locals := 0 })).room s m ([.ref wk, .int 8, .int p2, .int 0] : List Value).toArray below meth c H locs 0 0 (MQ below (va_Qv (S := Nat → Int32) (fun q : Nat → Int32 => ∀ j, j < 1024 → q j = -1) (fun q t => bs_E dC dI A [(wk, .inr (4, [.ref mo, .ref wy, .ref nw, .ref ol, .ref lt, .ref es, .ref sf, .ref sl, .ref so, .ref la, .ref li, .ref ru, .int 8, .int p2, .int 0, .int 0, .int 0, .int 0, .int 0, .int 0])), (nw, .inl (cyI, 1024, .inl q))] t) A) ([.ref wk, .int 8, .int p2, .int 0] : List Value).toArray s 0 0 A) (F0 m 38 ls []) := by
    intro n38
    induction n38 with
    | zero =>
      intro k nf hk38 hn38 hnf H locs hP hD hS ls hl
      exfalso
      omega
    | succ n38 ih38 =>
      intro k nf hk38 hn38 hnf H locs hP hD hS ls hl
      refine lv_iload hx hb dX6_begin_38 (lv_at hl 1 rfl) ?_
      refine lv_sipush (v := 1024) hx hb dX6_begin_40 (by decide) ?_
      refine lv_icmp_ge (tgt := 60) hx hb dX6_begin_43 (by decide) (fun c_1 => ?_) (fun c_1 => ?_)
      · skip
        have ic_1 := ci_le (show Int32.toInt 1024 = 1024 by decide) (nI_toInt (n := k) (by omega)) c_1
        exact W.vret hx hb hr (fun t ht hW => ⟨⟨nf, rfl, (fun j hj => hnf j (by omega)), ⟨by rw [ht]; exact hP.sub (ws' := [(wk, .inr (4, [.ref mo, .ref wy, .ref nw, .ref ol, .ref lt, .ref es, .ref sf, .ref sl, .ref so, .ref la, .ref li, .ref ru, .int 8, .int p2, .int 0, .int 0, .int 0, .int 0, .int 0, .int 0])), (nw, .inl (cyI, 1024, .inl nf))]) [0, 1] rfl, hD.sub (ws' := [(wk, .inr (4, [.ref mo, .ref wy, .ref nw, .ref ol, .ref lt, .ref es, .ref sf, .ref sl, .ref so, .ref la, .ref li, .ref ru, .int 8, .int p2, .int 0, .int 0, .int 0, .int 0, .int 0, .int 0])), (nw, .inl (cyI, 1024, .inl nf))]) [0, 1] (by decide) rfl⟩⟩, hS.F ht⟩) hS.2.2 dX6_begin_60
      · skip
        have ic_1 := ci_nle (show Int32.toInt 1024 = 1024 by decide) (nI_toInt (n := k) (by omega)) c_1
        refine lv_aload_n hx hb dX6_begin_46 rfl (lv_at hl 0 rfl) ?_
        refine va_get (D := (dC, dI)) (ci := 4) (v := .ref nw) (C := RX6) (T := TX6) (N := 20) hx hb hts hnX6_begin_X6 hown hK hP 0 rfl rfl 2 (by decide) (hts (.fieldLink RX6 22 "RingMeets$Walks" "newest" "[I") (by decide +kernel)) (fun _ h9 => h9) rfl dX6_begin_47 ?_
        refine lv_iload hx hb dX6_begin_50 (lv_at hl 1 rfl) ?_
        refine lv_iconst (v := (-1)) hx hb dX6_begin_52 (by decide) ?_
        refine va_iast (D := (dC, dI)) hx hb hK hP hD hS 1 0 rfl rfl (vp_in_nI (n := k) (N := 1024) (by omega) (by omega)) dX6_begin_53 (fun H locs hP hD hS => ?_)
        obtain ⟨g_2, eg_2⟩ : ∃ y : Nat → Int32, y = upd nf (Int32.toNatClampNeg (nI k)) (-1) := ⟨_, rfl⟩
        have hP : va_P (dC, dI) vwCl [(wk, .inr (4, [.ref mo, .ref wy, .ref nw, .ref ol, .ref lt, .ref es, .ref sf, .ref sl, .ref so, .ref la, .ref li, .ref ru, .int 8, .int p2, .int 0, .int 0, .int 0, .int 0, .int 0, .int 0])), (nw, .inl (cyI, 1024, .inl g_2))] H := by rw [eg_2]; exact hP
        have hD : va_D A [(wk, .inr (4, [.ref mo, .ref wy, .ref nw, .ref ol, .ref lt, .ref es, .ref sf, .ref sl, .ref so, .ref la, .ref li, .ref ru, .int 8, .int p2, .int 0, .int 0, .int 0, .int 0, .int 0, .int 0])), (nw, .inl (cyI, 1024, .inl g_2))] := by rw [eg_2]; exact hD
        rw [nI_clamp (n := k) (by omega)] at eg_2
        refine lv_iinc (v := (nI (k + 1))) (lv' := [(4, .int (nI (k + 1))), (0, .ref wk)]) hx hb dX6_begin_54 hl (k := 1) rfl (nI_1 _) (by decide) rfl (fun ls hl => ?_)
        refine lv_goto (tgt := 38) hx hb dX6_begin_57 (by decide) ?_
        exact ih38 (k + 1) g_2 ⟨by omega, by omega⟩ (by omega) (fun j hj => by rw [eg_2]; unfold upd; split; rfl; exact hnf j (by omega)) _ _ (hP.sub [0, 1] rfl) (hD.sub [0, 1] (by decide) rfl) hS _ (lv_sub hl [1, 0] rfl)
  exact L38 1025 0 nf ⟨by omega, by omega⟩ (by omega) (fun j hj => by omega) _ _ (hP.sub [0, 1] rfl) (hD.sub [0, 1] (by decide) rfl) hS _ (lv_sub hl [1, 0] rfl)

theorem hnX7_newWalks_X4 : ∀ w ∈ wsX40, w ∈ wsX7_newWalks := fun _ h => List.mem_cons_of_mem _ (List.mem_append_left _ (List.mem_append_left _ (List.mem_append_right _ h)))
theorem hnX7_newWalks_X6 : ∀ w ∈ wsX60, w ∈ wsX7_newWalks := fun _ h => List.mem_cons_of_mem _ (List.mem_append_left _ (List.mem_append_left _ (List.mem_append_left _ (List.mem_append_right _ h))))
theorem hnX7_newWalks_X7 : ∀ w ∈ wsX70, w ∈ wsX7_newWalks := fun _ h => List.mem_cons_of_mem _ (List.mem_append_left _ (List.mem_append_left _ (List.mem_append_left _ (List.mem_append_left _ (List.mem_append_right _ h)))))
set_option maxHeartbeats 4000000 in
set_option maxRecDepth 100000 in
theorem kX7_newWalks (l : Launch) (dC : Nat → ClassId) (dI : Nat → Nat → Nat) (cyI cyZ : ClassId) (h0 a1 b1 c1 lk bh a2 a3 a4 : Nat) (p1 : Int32) (sz : Nat) : Met l yX7_newWalks wsX7_newWalks ({ frames := 4, cells := 13, slots := 66466, locals := 81 }) (bs_W dC dI cyI cyZ [.ref h0, .int p1, .int 0] [(h0, .inr (5, [.ref a1, .ref b1, .ref c1, .ref lk, .ref bh, .int 0, .null])), (a1, .inr (3, [.ref a2, .ref a3, .int 8]))] sz) (va_Qr (S := (Nat × Nat × Nat × Nat × Nat × Nat × Nat × Nat × Nat × Nat × Nat × Nat) × (Nat → Int32)) (fun q : (Nat × Nat × Nat × Nat × Nat × Nat × Nat × Nat × Nat × Nat × Nat × Nat) × (Nat → Int32) => ∀ j, j < 1024 → q.2 j = -1) (fun q wk t => bs_E dC dI (va_A [(h0, .inr (5, [.ref a1, .ref b1, .ref c1, .ref lk, .ref bh, .int 0, .null])), (a1, .inr (3, [.ref a2, .ref a3, .int 8]))] sz) [(h0, .inr (5, [.ref a1, .ref b1, .ref c1, .ref lk, .ref bh, .int 0, .ref wk])), (a1, .inr (3, [.ref a2, .ref a3, .int 8])), (wk, .inr (4, [.ref q.1.1, .ref q.1.2.2.1, .ref q.1.2.2.2.1, .ref q.1.2.2.2.2.1, .ref q.1.2.2.2.2.2.1, .ref q.1.2.2.2.2.2.2.1, .ref q.1.2.2.2.2.2.2.2.1, .ref q.1.2.2.2.2.2.2.2.2.1, .ref q.1.2.2.2.2.2.2.2.2.2.1, .ref q.1.2.2.2.2.2.2.2.2.2.2.1, .ref q.1.2.2.2.2.2.2.2.2.2.2.2, .ref a3, .int 8, .int p1, .int 0, .int 0, .int 0, .int 0, .int 0, .int 0])), (q.1.1, .inr (1, [.ref q.1.2.1, .int 0, .int 0, .int 0])), (q.1.2.1, .inr (0, [.int 0, .int 0, .int 0, .int 0, .int 0])), (q.1.2.2.1, .inl (cyI, 1957, .inl (fun _ => (0 : Int32)))), (q.1.2.2.2.1, .inl (cyI, 1024, .inl q.2)), (q.1.2.2.2.2.1, .inl (cyI, 1957, .inl (fun _ => (0 : Int32)))), (q.1.2.2.2.2.2.1, .inl (cyI, 1957, .inl (fun _ => (0 : Int32)))), (q.1.2.2.2.2.2.2.1, .inl (cyI, 25857, .inl (fun _ => (0 : Int32)))), (q.1.2.2.2.2.2.2.2.1, .inl (cyI, 25857, .inl (fun _ => (0 : Int32)))), (q.1.2.2.2.2.2.2.2.2.1, .inl (cyI, 1957, .inl (fun _ => (0 : Int32)))), (q.1.2.2.2.2.2.2.2.2.2.1, .inl (cyI, 1957, .inl (fun _ => (0 : Int32)))), (q.1.2.2.2.2.2.2.2.2.2.2.1, .inl (cyI, 1957, .inl (fun _ => (0 : Int32)))), (q.1.2.2.2.2.2.2.2.2.2.2.2, .inl (cyI, 1957, .inl (fun _ => (0 : Int32))))] t) (va_A [(h0, .inr (5, [.ref a1, .ref b1, .ref c1, .ref lk, .ref bh, .int 0, .null])), (a1, .inr (3, [.ref a2, .ref a3, .int 8]))] sz)) 13 66466 (va_A [(h0, .inr (5, [.ref a1, .ref b1, .ref c1, .ref lk, .ref bh, .int 0, .null])), (a1, .inr (3, [.ref a2, .ref a3, .int 8]))] sz) := by
  refine Met.ofW (cc := cX7_newWalks) (maxL := 3) (ret := (some (.object "RingMeets$Walks"))) (by decide) rfl ?_
  intro p e s m args below meth c s₁ B hml hv
  obtain ⟨rfl, hsz, hB, hP, hD0⟩ := hv
  have hK := hB.1
  have hN := hB.2
  have hx := B.exec
  have hb := B.bytes
  have hr := B.returns
  have hts := atoms_spec (ws := wsX7_newWalks) B.pre
  have hown : s.vm.findClass RX7 = some m.cls := findClass_of_methodNamed B.named
  have hlocks := B.notSynchronized
  subst hsz
  have hD := hD0.self (sz := s.heap.size)
  generalize hAe : va_A [(h0, .inr (5, [.ref a1, .ref b1, .ref c1, .ref lk, .ref bh, .int 0, .null])), (a1, .inr (3, [.ref a2, .ref a3, .int 8]))] s.heap.size = A at hD ⊢
  have hA : ∀ q : Nat, s.heap.size ≤ q → A q := fun q h => by rw [← hAe]; exact Or.inr h
  have hS : va_S A s.heap s.heap [] := va_S.rf
  have hP : va_P (dC, dI) vwCl [(h0, .inr (5, [.ref a1, .ref b1, .ref c1, .ref lk, .ref bh, .int 0, .null])), (a1, .inr (3, [.ref a2, .ref a3, .int 8]))] s.heap := hP
  have hl := lv_entry ([.ref h0, .int p1, .int 0]) (n := 3) (Nat.le_of_ble_eq_true rfl)
  rw [lg_entry_eq]
  generalize (lg_sl ([.ref h0, .int p1, .int 0]) ++ List.replicate (3 - (lg_sl ([.ref h0, .int p1, .int 0])).length) Slot.unset).toArray = ls at hl ⊢
  have hl : lv_has ls 3 [(0, .ref h0), (1, .int p1), (2, .int 0)] := hl
  refine lv_aload_n hx hb dX7_newWalks_0 rfl (lv_at hl 0 rfl) ?_
  refine va_get (D := (dC, dI)) (ci := 5) (v := .null) (C := RX7) (T := TX7) (N := 7) hx hb hts hnX7_newWalks_X7 hown hK hP 0 rfl rfl 6 (by decide) (hts (.fieldLink RX7 202 "RingMeets" "walks" "LRingMeets$Walks;") (by decide +kernel)) (fun _ h9 => h9) rfl dX7_newWalks_1 ?_
  refine lv_ifnonnullN hx hb dX7_newWalks_4 ?_
  refine lv_aload_n hx hb dX7_newWalks_7 rfl (lv_at hl 0 rfl) ?_
  refine va_new (ci := 4) (fs := [.null, .null, .null, .null, .null, .null, .null, .null, .null, .null, .null, .null, .int 0, .int 0, .int 0, .int 0, .int 0, .int 0, .int 0, .int 0]) (C := RX6) (T := TX6) (N := 20) hx hb hts hnX7_newWalks_X6 tyX6 tyX6_ok hown (hts (.classLink RX7 156 RX6) (by decide +kernel)) (hts (.instantiable RX6 20) (by decide +kernel)) (hts (.initialized RX6) (by decide +kernel)) hK hP hD hS hA rfl (fun j hj => by rcases (show j = 0 ∨ j = 1 ∨ j = 2 ∨ j = 3 ∨ j = 4 ∨ j = 5 ∨ j = 6 ∨ j = 7 ∨ j = 8 ∨ j = 9 ∨ j = 10 ∨ j = 11 ∨ j = 12 ∨ j = 13 ∨ j = 14 ∨ j = 15 ∨ j = 16 ∨ j = 17 ∨ j = 18 ∨ j = 19 by omega) with rfl | rfl | rfl | rfl | rfl | rfl | rfl | rfl | rfl | rfl | rfl | rfl | rfl | rfl | rfl | rfl | rfl | rfl | rfl | rfl <;> rfl) (Nat.le_of_ble_eq_true rfl) (Nat.le_of_ble_eq_true rfl) dX7_newWalks_8 (fun q_1 H hP hD hS => ?_)
  refine W.widen (k := 1) (n := 20) (Nat.le_of_ble_eq_true rfl) (Nat.le_of_ble_eq_true rfl) ?_
  have hP : va_P (dC, dI) vwCl [(h0, .inr (5, [.ref a1, .ref b1, .ref c1, .ref lk, .ref bh, .int 0, .null])), (a1, .inr (3, [.ref a2, .ref a3, .int 8])), (q_1, .inr (4, [.null, .null, .null, .null, .null, .null, .null, .null, .null, .null, .null, .null, .int 0, .int 0, .int 0, .int 0, .int 0, .int 0, .int 0, .int 0]))] _ := hP
  have hD : va_D A [(h0, .inr (5, [.ref a1, .ref b1, .ref c1, .ref lk, .ref bh, .int 0, .null])), (a1, .inr (3, [.ref a2, .ref a3, .int 8])), (q_1, .inr (4, [.null, .null, .null, .null, .null, .null, .null, .null, .null, .null, .null, .null, .int 0, .int 0, .int 0, .int 0, .int 0, .int 0, .int 0, .int 0]))] := hD
  refine lv_dup hx hb dX7_newWalks_11 rfl ?_
  refine lv_aload_n hx hb dX7_newWalks_12 rfl (lv_at hl 0 rfl) ?_
  refine va_get (D := (dC, dI)) (ci := 5) (v := .ref a1) (C := RX7) (T := TX7) (N := 7) hx hb hts hnX7_newWalks_X7 hown hK hP 0 rfl rfl 0 (by decide) (hts (.fieldLink RX7 10 "RingMeets" "now" "LRingMeets$Scene;") (by decide +kernel)) (fun _ h9 => h9) rfl dX7_newWalks_13 ?_
  refine va_getN (D := (dC, dI)) (ci := 3) (v := .ref a3) (C := RX4) (T := TX4) (N := 3) hx hb hts hnX7_newWalks_X4 hown hK hP 1 rfl rfl 1 (by decide) (hN.fld 3 rfl) (fun _ h9 => h9) rfl dX7_newWalks_16 ?_
  have f_2 := va_free (wc := [(q_1, .inr (4, [.null, .null, .null, .null, .null, .null, .null, .null, .null, .null, .null, .null, .int 0, .int 0, .int 0, .int 0, .int 0, .int 0, .int 0, .int 0]))]) hD hS hA [2] rfl
  refine va_callv (va_runI (As := [.ref a3]) (rest := [.ref q_1, .ref h0]) ⟨hx, hb, hml, hown, hts⟩ (kX6_init l dC dI cyI cyZ q_1 a3 _) (cwI 1 hts gX7_newWalks_X6_init rfl rfl rfl (hts (.initialized RX6) (by decide +kernel)) (hts (.methodLink RX7 206 yX6_init) (by decide +kernel)) (hts (.instanceMethod yX6_init) (by decide +kernel)) rfl (by decide +kernel) ⟨Nat.le_of_ble_eq_true rfl, Nat.le_of_ble_eq_true rfl⟩) (bs_WS hB (hP.sub (ws' := [(q_1, .inr (4, [.null, .null, .null, .null, .null, .null, .null, .null, .null, .null, .null, .null, .int 0, .int 0, .int 0, .int 0, .int 0, .int 0, .int 0, .int 0]))]) [2] rfl) (hD.sub (ws' := [(q_1, .inr (4, [.null, .null, .null, .null, .null, .null, .null, .null, .null, .null, .null, .null, .int 0, .int 0, .int 0, .int 0, .int 0, .int 0, .int 0, .int 0]))]) [2] (by decide) rfl)) rfl rfl hl.1 rfl (lv_room (Nat.le_of_ble_eq_true rfl)) dX7_newWalks_19 ⟨Nat.le_of_ble_eq_true rfl, Nat.le_of_ble_eq_true rfl⟩) hS (fun q _ h => f_2 q h) f_2 (fun uh_3 t H1 locs ht hvm h_3 hB1 hz1 hk1 hS => ?_)
  obtain ⟨a_4, a_5, a_6, a_7, a_8, a_9, a_10, a_11, a_12, a_13, a_14, a_15⟩ := uh_3
  obtain ⟨hP1, hD1⟩ := hB1
  rw [ht] at hP1
  obtain ⟨hP, hD⟩ := va_join (wr := [(h0, .inr (5, [.ref a1, .ref b1, .ref c1, .ref lk, .ref bh, .int 0, .null])), (a1, .inr (3, [.ref a2, .ref a3, .int 8]))]) (w1 := [(q_1, .inr (4, [.ref a_4, .ref a_6, .ref a_7, .ref a_8, .ref a_9, .ref a_10, .ref a_11, .ref a_12, .ref a_13, .ref a_14, .ref a_15, .ref a3, .int 0, .int 0, .int 0, .int 0, .int 0, .int 0, .int 0, .int 0])), (a_4, .inr (1, [.ref a_5, .int 0, .int 0, .int 0])), (a_5, .inr (0, [.int 0, .int 0, .int 0, .int 0, .int 0])), (a_6, .inl (cyI, 1957, .inl (fun _ => (0 : Int32)))), (a_7, .inl (cyI, 1024, .inl (fun _ => (0 : Int32)))), (a_8, .inl (cyI, 1957, .inl (fun _ => (0 : Int32)))), (a_9, .inl (cyI, 1957, .inl (fun _ => (0 : Int32)))), (a_10, .inl (cyI, 25857, .inl (fun _ => (0 : Int32)))), (a_11, .inl (cyI, 25857, .inl (fun _ => (0 : Int32)))), (a_12, .inl (cyI, 1957, .inl (fun _ => (0 : Int32)))), (a_13, .inl (cyI, 1957, .inl (fun _ => (0 : Int32)))), (a_14, .inl (cyI, 1957, .inl (fun _ => (0 : Int32)))), (a_15, .inl (cyI, 1957, .inl (fun _ => (0 : Int32))))]) hP hD [2] [0, 1] rfl rfl (by decide) (by decide) hk1 f_2 hP1 hD1
  generalize H1 = H at hP hS ⊢
  have hP : va_P (dC, dI) vwCl [(h0, .inr (5, [.ref a1, .ref b1, .ref c1, .ref lk, .ref bh, .int 0, .null])), (a1, .inr (3, [.ref a2, .ref a3, .int 8])), (q_1, .inr (4, [.ref a_4, .ref a_6, .ref a_7, .ref a_8, .ref a_9, .ref a_10, .ref a_11, .ref a_12, .ref a_13, .ref a_14, .ref a_15, .ref a3, .int 0, .int 0, .int 0, .int 0, .int 0, .int 0, .int 0, .int 0])), (a_4, .inr (1, [.ref a_5, .int 0, .int 0, .int 0])), (a_5, .inr (0, [.int 0, .int 0, .int 0, .int 0, .int 0])), (a_6, .inl (cyI, 1957, .inl (fun _ => (0 : Int32)))), (a_7, .inl (cyI, 1024, .inl (fun _ => (0 : Int32)))), (a_8, .inl (cyI, 1957, .inl (fun _ => (0 : Int32)))), (a_9, .inl (cyI, 1957, .inl (fun _ => (0 : Int32)))), (a_10, .inl (cyI, 25857, .inl (fun _ => (0 : Int32)))), (a_11, .inl (cyI, 25857, .inl (fun _ => (0 : Int32)))), (a_12, .inl (cyI, 1957, .inl (fun _ => (0 : Int32)))), (a_13, .inl (cyI, 1957, .inl (fun _ => (0 : Int32)))), (a_14, .inl (cyI, 1957, .inl (fun _ => (0 : Int32)))), (a_15, .inl (cyI, 1957, .inl (fun _ => (0 : Int32))))] _ := hP
  have hD : va_D A [(h0, .inr (5, [.ref a1, .ref b1, .ref c1, .ref lk, .ref bh, .int 0, .null])), (a1, .inr (3, [.ref a2, .ref a3, .int 8])), (q_1, .inr (4, [.ref a_4, .ref a_6, .ref a_7, .ref a_8, .ref a_9, .ref a_10, .ref a_11, .ref a_12, .ref a_13, .ref a_14, .ref a_15, .ref a3, .int 0, .int 0, .int 0, .int 0, .int 0, .int 0, .int 0, .int 0])), (a_4, .inr (1, [.ref a_5, .int 0, .int 0, .int 0])), (a_5, .inr (0, [.int 0, .int 0, .int 0, .int 0, .int 0])), (a_6, .inl (cyI, 1957, .inl (fun _ => (0 : Int32)))), (a_7, .inl (cyI, 1024, .inl (fun _ => (0 : Int32)))), (a_8, .inl (cyI, 1957, .inl (fun _ => (0 : Int32)))), (a_9, .inl (cyI, 1957, .inl (fun _ => (0 : Int32)))), (a_10, .inl (cyI, 25857, .inl (fun _ => (0 : Int32)))), (a_11, .inl (cyI, 25857, .inl (fun _ => (0 : Int32)))), (a_12, .inl (cyI, 1957, .inl (fun _ => (0 : Int32)))), (a_13, .inl (cyI, 1957, .inl (fun _ => (0 : Int32)))), (a_14, .inl (cyI, 1957, .inl (fun _ => (0 : Int32)))), (a_15, .inl (cyI, 1957, .inl (fun _ => (0 : Int32))))] := hD
  refine W.widen (k := 13) (n := 66466) (Nat.le_of_ble_eq_true rfl) (Nat.le_of_ble_eq_true rfl) ?_
  refine va_put (D := (dC, dI)) (ci := 5) (v := .ref q_1) (ty := (.object "RingMeets$Walks")) (C := RX7) (T := TX7) (N := 7) hx hb hts hnX7_newWalks_X7 tyX7 tyX7_ok nmX7 hown hK hP hD hS 0 rfl rfl 6 (by decide) (hts (.fieldLink RX7 202 "RingMeets" "walks" "LRingMeets$Walks;") (by decide +kernel)) (fun _ h9 => h9) rfl (by decide +kernel) rfl rfl (Nat.le_of_ble_eq_true rfl) dX7_newWalks_22 (fun H locs hP hD hS => ?_)
  have hP : va_P (dC, dI) vwCl [(h0, .inr (5, [.ref a1, .ref b1, .ref c1, .ref lk, .ref bh, .int 0, .ref q_1])), (a1, .inr (3, [.ref a2, .ref a3, .int 8])), (q_1, .inr (4, [.ref a_4, .ref a_6, .ref a_7, .ref a_8, .ref a_9, .ref a_10, .ref a_11, .ref a_12, .ref a_13, .ref a_14, .ref a_15, .ref a3, .int 0, .int 0, .int 0, .int 0, .int 0, .int 0, .int 0, .int 0])), (a_4, .inr (1, [.ref a_5, .int 0, .int 0, .int 0])), (a_5, .inr (0, [.int 0, .int 0, .int 0, .int 0, .int 0])), (a_6, .inl (cyI, 1957, .inl (fun _ => (0 : Int32)))), (a_7, .inl (cyI, 1024, .inl (fun _ => (0 : Int32)))), (a_8, .inl (cyI, 1957, .inl (fun _ => (0 : Int32)))), (a_9, .inl (cyI, 1957, .inl (fun _ => (0 : Int32)))), (a_10, .inl (cyI, 25857, .inl (fun _ => (0 : Int32)))), (a_11, .inl (cyI, 25857, .inl (fun _ => (0 : Int32)))), (a_12, .inl (cyI, 1957, .inl (fun _ => (0 : Int32)))), (a_13, .inl (cyI, 1957, .inl (fun _ => (0 : Int32)))), (a_14, .inl (cyI, 1957, .inl (fun _ => (0 : Int32)))), (a_15, .inl (cyI, 1957, .inl (fun _ => (0 : Int32))))] _ := hP
  have hD : va_D A [(h0, .inr (5, [.ref a1, .ref b1, .ref c1, .ref lk, .ref bh, .int 0, .ref q_1])), (a1, .inr (3, [.ref a2, .ref a3, .int 8])), (q_1, .inr (4, [.ref a_4, .ref a_6, .ref a_7, .ref a_8, .ref a_9, .ref a_10, .ref a_11, .ref a_12, .ref a_13, .ref a_14, .ref a_15, .ref a3, .int 0, .int 0, .int 0, .int 0, .int 0, .int 0, .int 0, .int 0])), (a_4, .inr (1, [.ref a_5, .int 0, .int 0, .int 0])), (a_5, .inr (0, [.int 0, .int 0, .int 0, .int 0, .int 0])), (a_6, .inl (cyI, 1957, .inl (fun _ => (0 : Int32)))), (a_7, .inl (cyI, 1024, .inl (fun _ => (0 : Int32)))), (a_8, .inl (cyI, 1957, .inl (fun _ => (0 : Int32)))), (a_9, .inl (cyI, 1957, .inl (fun _ => (0 : Int32)))), (a_10, .inl (cyI, 25857, .inl (fun _ => (0 : Int32)))), (a_11, .inl (cyI, 25857, .inl (fun _ => (0 : Int32)))), (a_12, .inl (cyI, 1957, .inl (fun _ => (0 : Int32)))), (a_13, .inl (cyI, 1957, .inl (fun _ => (0 : Int32)))), (a_14, .inl (cyI, 1957, .inl (fun _ => (0 : Int32)))), (a_15, .inl (cyI, 1957, .inl (fun _ => (0 : Int32))))] := hD
  refine lv_aload_n hx hb dX7_newWalks_25 rfl (lv_at hl 0 rfl) ?_
  refine va_get (D := (dC, dI)) (ci := 5) (v := .ref q_1) (C := RX7) (T := TX7) (N := 7) hx hb hts hnX7_newWalks_X7 hown hK hP 0 rfl rfl 6 (by decide) (hts (.fieldLink RX7 202 "RingMeets" "walks" "LRingMeets$Walks;") (by decide +kernel)) (fun _ h9 => h9) rfl dX7_newWalks_26 ?_
  refine lv_aload_n hx hb dX7_newWalks_29 rfl (lv_at hl 0 rfl) ?_
  refine va_get (D := (dC, dI)) (ci := 5) (v := .ref a1) (C := RX7) (T := TX7) (N := 7) hx hb hts hnX7_newWalks_X7 hown hK hP 0 rfl rfl 0 (by decide) (hts (.fieldLink RX7 10 "RingMeets" "now" "LRingMeets$Scene;") (by decide +kernel)) (fun _ h9 => h9) rfl dX7_newWalks_30 ?_
  refine va_getN (D := (dC, dI)) (ci := 3) (v := .int 8) (C := RX4) (T := TX4) (N := 3) hx hb hts hnX7_newWalks_X4 hown hK hP 1 rfl rfl 2 (by decide) (hN.fld 4 rfl) (fun _ h9 => h9) rfl dX7_newWalks_33 ?_
  refine lv_iload_n hx hb dX7_newWalks_36 rfl (lv_at hl 1 rfl) ?_
  refine lv_iload_n hx hb dX7_newWalks_37 rfl (lv_at hl 2 rfl) ?_
  have f_16 := va_free (wc := [(q_1, .inr (4, [.ref a_4, .ref a_6, .ref a_7, .ref a_8, .ref a_9, .ref a_10, .ref a_11, .ref a_12, .ref a_13, .ref a_14, .ref a_15, .ref a3, .int 0, .int 0, .int 0, .int 0, .int 0, .int 0, .int 0, .int 0])), (a_7, .inl (cyI, 1024, .inl (fun _ => (0 : Int32))))]) hD hS hA [2, 6] rfl
  refine va_callv (va_runV (As := [.int 8, .int p1, .int 0]) (rest := []) ⟨hx, hb, hml, hown, hts⟩ (kX6_begin l dC dI cyI cyZ q_1 a_4 a_6 a_7 a_8 a_9 a_10 a_11 a_12 a_13 a_14 a_15 a3 (fun _ => (0 : Int32)) p1 _) (cwV 3 hts gX7_newWalks_X6_begin rfl rfl rfl (by decide +kernel) ⟨Nat.le_of_ble_eq_true rfl, Nat.le_of_ble_eq_true rfl⟩) (bs_WV hB (hP.sub (ws' := [(q_1, .inr (4, [.ref a_4, .ref a_6, .ref a_7, .ref a_8, .ref a_9, .ref a_10, .ref a_11, .ref a_12, .ref a_13, .ref a_14, .ref a_15, .ref a3, .int 0, .int 0, .int 0, .int 0, .int 0, .int 0, .int 0, .int 0])), (a_7, .inl (cyI, 1024, .inl (fun _ => (0 : Int32))))]) [2, 6] rfl) (hD.sub (ws' := [(q_1, .inr (4, [.ref a_4, .ref a_6, .ref a_7, .ref a_8, .ref a_9, .ref a_10, .ref a_11, .ref a_12, .ref a_13, .ref a_14, .ref a_15, .ref a3, .int 0, .int 0, .int 0, .int 0, .int 0, .int 0, .int 0, .int 0])), (a_7, .inl (cyI, 1024, .inl (fun _ => (0 : Int32))))]) [2, 6] (by decide) rfl) 0 rfl rfl) rfl rfl hl.1 rfl (lv_room (Nat.le_of_ble_eq_true rfl)) dX7_newWalks_38 ⟨Nat.le_of_ble_eq_true rfl, Nat.le_of_ble_eq_true rfl⟩) hS (fun q _ h => f_16 q h) f_16 (fun uh_17 t H1 locs ht hvm h_17 hB1 hz1 hk1 hS => ?_)
  obtain ⟨hP1, hD1⟩ := hB1
  rw [ht] at hP1
  obtain ⟨hP, hD⟩ := va_join (wr := [(h0, .inr (5, [.ref a1, .ref b1, .ref c1, .ref lk, .ref bh, .int 0, .ref q_1])), (a1, .inr (3, [.ref a2, .ref a3, .int 8])), (a_4, .inr (1, [.ref a_5, .int 0, .int 0, .int 0])), (a_5, .inr (0, [.int 0, .int 0, .int 0, .int 0, .int 0])), (a_6, .inl (cyI, 1957, .inl (fun _ => (0 : Int32)))), (a_8, .inl (cyI, 1957, .inl (fun _ => (0 : Int32)))), (a_9, .inl (cyI, 1957, .inl (fun _ => (0 : Int32)))), (a_10, .inl (cyI, 25857, .inl (fun _ => (0 : Int32)))), (a_11, .inl (cyI, 25857, .inl (fun _ => (0 : Int32)))), (a_12, .inl (cyI, 1957, .inl (fun _ => (0 : Int32)))), (a_13, .inl (cyI, 1957, .inl (fun _ => (0 : Int32)))), (a_14, .inl (cyI, 1957, .inl (fun _ => (0 : Int32)))), (a_15, .inl (cyI, 1957, .inl (fun _ => (0 : Int32))))]) (w1 := [(q_1, .inr (4, [.ref a_4, .ref a_6, .ref a_7, .ref a_8, .ref a_9, .ref a_10, .ref a_11, .ref a_12, .ref a_13, .ref a_14, .ref a_15, .ref a3, .int 8, .int p1, .int 0, .int 0, .int 0, .int 0, .int 0, .int 0])), (a_7, .inl (cyI, 1024, .inl uh_17))]) hP hD [2, 6] [0, 1, 3, 4, 5, 7, 8, 9, 10, 11, 12, 13, 14] rfl rfl (by decide) (by decide) hk1 f_16 hP1 hD1
  generalize H1 = H at hP hS ⊢
  have hP : va_P (dC, dI) vwCl [(h0, .inr (5, [.ref a1, .ref b1, .ref c1, .ref lk, .ref bh, .int 0, .ref q_1])), (a1, .inr (3, [.ref a2, .ref a3, .int 8])), (a_4, .inr (1, [.ref a_5, .int 0, .int 0, .int 0])), (a_5, .inr (0, [.int 0, .int 0, .int 0, .int 0, .int 0])), (a_6, .inl (cyI, 1957, .inl (fun _ => (0 : Int32)))), (a_8, .inl (cyI, 1957, .inl (fun _ => (0 : Int32)))), (a_9, .inl (cyI, 1957, .inl (fun _ => (0 : Int32)))), (a_10, .inl (cyI, 25857, .inl (fun _ => (0 : Int32)))), (a_11, .inl (cyI, 25857, .inl (fun _ => (0 : Int32)))), (a_12, .inl (cyI, 1957, .inl (fun _ => (0 : Int32)))), (a_13, .inl (cyI, 1957, .inl (fun _ => (0 : Int32)))), (a_14, .inl (cyI, 1957, .inl (fun _ => (0 : Int32)))), (a_15, .inl (cyI, 1957, .inl (fun _ => (0 : Int32)))), (q_1, .inr (4, [.ref a_4, .ref a_6, .ref a_7, .ref a_8, .ref a_9, .ref a_10, .ref a_11, .ref a_12, .ref a_13, .ref a_14, .ref a_15, .ref a3, .int 8, .int p1, .int 0, .int 0, .int 0, .int 0, .int 0, .int 0])), (a_7, .inl (cyI, 1024, .inl uh_17))] _ := hP
  have hD : va_D A [(h0, .inr (5, [.ref a1, .ref b1, .ref c1, .ref lk, .ref bh, .int 0, .ref q_1])), (a1, .inr (3, [.ref a2, .ref a3, .int 8])), (a_4, .inr (1, [.ref a_5, .int 0, .int 0, .int 0])), (a_5, .inr (0, [.int 0, .int 0, .int 0, .int 0, .int 0])), (a_6, .inl (cyI, 1957, .inl (fun _ => (0 : Int32)))), (a_8, .inl (cyI, 1957, .inl (fun _ => (0 : Int32)))), (a_9, .inl (cyI, 1957, .inl (fun _ => (0 : Int32)))), (a_10, .inl (cyI, 25857, .inl (fun _ => (0 : Int32)))), (a_11, .inl (cyI, 25857, .inl (fun _ => (0 : Int32)))), (a_12, .inl (cyI, 1957, .inl (fun _ => (0 : Int32)))), (a_13, .inl (cyI, 1957, .inl (fun _ => (0 : Int32)))), (a_14, .inl (cyI, 1957, .inl (fun _ => (0 : Int32)))), (a_15, .inl (cyI, 1957, .inl (fun _ => (0 : Int32)))), (q_1, .inr (4, [.ref a_4, .ref a_6, .ref a_7, .ref a_8, .ref a_9, .ref a_10, .ref a_11, .ref a_12, .ref a_13, .ref a_14, .ref a_15, .ref a3, .int 8, .int p1, .int 0, .int 0, .int 0, .int 0, .int 0, .int 0])), (a_7, .inl (cyI, 1024, .inl uh_17))] := hD
  refine lv_aload_n hx hb dX7_newWalks_41 rfl (lv_at hl 0 rfl) ?_
  refine va_get (D := (dC, dI)) (ci := 5) (v := .ref q_1) (C := RX7) (T := TX7) (N := 7) hx hb hts hnX7_newWalks_X7 hown hK hP 0 rfl rfl 6 (by decide) (hts (.fieldLink RX7 202 "RingMeets" "walks" "LRingMeets$Walks;") (by decide +kernel)) (fun _ h9 => h9) rfl dX7_newWalks_42 ?_
  exact W.aret hx hb hr (Or.inl ⟨_, rfl⟩) (Or.inr ⟨_, rfl⟩) (fun t ht hW => ⟨⟨((a_4, a_5, a_6, a_7, a_8, a_9, a_10, a_11, a_12, a_13, a_14, a_15), uh_17), q_1, rfl, h_17, ⟨by rw [ht]; exact hP.sub (ws' := [(h0, .inr (5, [.ref a1, .ref b1, .ref c1, .ref lk, .ref bh, .int 0, .ref q_1])), (a1, .inr (3, [.ref a2, .ref a3, .int 8])), (q_1, .inr (4, [.ref a_4, .ref a_6, .ref a_7, .ref a_8, .ref a_9, .ref a_10, .ref a_11, .ref a_12, .ref a_13, .ref a_14, .ref a_15, .ref a3, .int 8, .int p1, .int 0, .int 0, .int 0, .int 0, .int 0, .int 0])), (a_4, .inr (1, [.ref a_5, .int 0, .int 0, .int 0])), (a_5, .inr (0, [.int 0, .int 0, .int 0, .int 0, .int 0])), (a_6, .inl (cyI, 1957, .inl (fun _ => (0 : Int32)))), (a_7, .inl (cyI, 1024, .inl uh_17)), (a_8, .inl (cyI, 1957, .inl (fun _ => (0 : Int32)))), (a_9, .inl (cyI, 1957, .inl (fun _ => (0 : Int32)))), (a_10, .inl (cyI, 25857, .inl (fun _ => (0 : Int32)))), (a_11, .inl (cyI, 25857, .inl (fun _ => (0 : Int32)))), (a_12, .inl (cyI, 1957, .inl (fun _ => (0 : Int32)))), (a_13, .inl (cyI, 1957, .inl (fun _ => (0 : Int32)))), (a_14, .inl (cyI, 1957, .inl (fun _ => (0 : Int32)))), (a_15, .inl (cyI, 1957, .inl (fun _ => (0 : Int32))))]) [0, 1, 13, 2, 3, 4, 14, 5, 6, 7, 8, 9, 10, 11, 12] rfl, hD.sub (ws' := [(h0, .inr (5, [.ref a1, .ref b1, .ref c1, .ref lk, .ref bh, .int 0, .ref q_1])), (a1, .inr (3, [.ref a2, .ref a3, .int 8])), (q_1, .inr (4, [.ref a_4, .ref a_6, .ref a_7, .ref a_8, .ref a_9, .ref a_10, .ref a_11, .ref a_12, .ref a_13, .ref a_14, .ref a_15, .ref a3, .int 8, .int p1, .int 0, .int 0, .int 0, .int 0, .int 0, .int 0])), (a_4, .inr (1, [.ref a_5, .int 0, .int 0, .int 0])), (a_5, .inr (0, [.int 0, .int 0, .int 0, .int 0, .int 0])), (a_6, .inl (cyI, 1957, .inl (fun _ => (0 : Int32)))), (a_7, .inl (cyI, 1024, .inl uh_17)), (a_8, .inl (cyI, 1957, .inl (fun _ => (0 : Int32)))), (a_9, .inl (cyI, 1957, .inl (fun _ => (0 : Int32)))), (a_10, .inl (cyI, 25857, .inl (fun _ => (0 : Int32)))), (a_11, .inl (cyI, 25857, .inl (fun _ => (0 : Int32)))), (a_12, .inl (cyI, 1957, .inl (fun _ => (0 : Int32)))), (a_13, .inl (cyI, 1957, .inl (fun _ => (0 : Int32)))), (a_14, .inl (cyI, 1957, .inl (fun _ => (0 : Int32)))), (a_15, .inl (cyI, 1957, .inl (fun _ => (0 : Int32))))]) [0, 1, 13, 2, 3, 4, 14, 5, 6, 7, 8, 9, 10, 11, 12] (by decide) rfl⟩⟩, hS.F ht⟩) hS.2.2 dX7_newWalks_45

theorem hnX6_towersSeen_X6 : ∀ w ∈ wsX60, w ∈ wsX6_towersSeen := fun _ h => List.mem_cons_of_mem _ (List.mem_append_right _ h)
set_option maxHeartbeats 4000000 in
set_option maxRecDepth 100000 in
theorem kX6_towersSeen (l : Launch) (dC : Nat → ClassId) (dI : Nat → Nat → Nat) (cyI cyZ : ClassId) (wk mo wy nw ol lt es sf sl so la li ru : Nat) (sc d14 d15 d16 d17 d18 : Int32) (p1 : Int32) : Met l yX6_towersSeen wsX6_towersSeen ({ frames := 1, cells := 0, slots := 0, locals := 20 }) (bs_R dC dI cyI cyZ [.ref wk, .int p1] [(wk, .inr (4, [.ref mo, .ref wy, .ref nw, .ref ol, .ref lt, .ref es, .ref sf, .ref sl, .ref so, .ref la, .ref li, .ref ru, .int 8, .int sc, .int d14, .int d15, .int d16, .int d17, .int d18, .int 0]))]) (vp_Si (fun _ : Int32 => True)) 0 0 (fun _ => False) := by
  refine Met.ofW (cc := cX6_towersSeen) (maxL := 2) (ret := (some .int)) (by decide) rfl ?_
  intro p e s m args below meth c s₁ B hml hv
  obtain ⟨rfl, hB, hP⟩ := hv
  have hK := hB.1
  have hN := hB.2
  have hx := B.exec
  have hb := B.bytes
  have hr := B.returns
  have hts := atoms_spec (ws := wsX6_towersSeen) B.pre
  have hown : s.vm.findClass RX6 = some m.cls := findClass_of_methodNamed B.named
  have hlocks := B.notSynchronized
  have hP : va_P (dC, dI) vwCl [(wk, .inr (4, [.ref mo, .ref wy, .ref nw, .ref ol, .ref lt, .ref es, .ref sf, .ref sl, .ref so, .ref la, .ref li, .ref ru, .int 8, .int sc, .int d14, .int d15, .int d16, .int d17, .int d18, .int 0]))] s.heap := hP
  have hl := lv_entry ([.ref wk, .int p1]) (n := 2) (Nat.le_of_ble_eq_true rfl)
  rw [lg_entry_eq]
  generalize (lg_sl ([.ref wk, .int p1]) ++ List.replicate (2 - (lg_sl ([.ref wk, .int p1])).length) Slot.unset).toArray = ls at hl ⊢
  have hl : lv_has ls 2 [(0, .ref wk), (1, .int p1)] := hl
  refine lv_aload_n hx hb dX6_towersSeen_0 rfl (lv_at hl 0 rfl) ?_
  refine va_get (D := (dC, dI)) (ci := 4) (v := .int 0) (C := RX6) (T := TX6) (N := 20) hx hb hts hnX6_towersSeen_X6 hown hK hP 0 rfl rfl 19 (by decide) (hts (.fieldLink RX6 60 "RingMeets$Walks" "blindly" "Z") (by decide +kernel)) (fun _ h9 => h9) rfl dX6_towersSeen_1 ?_
  refine lv_if_eq (tgt := 11) hx hb dX6_towersSeen_4 (by decide) (fun c_1 => ?_) (fun c_1 => ?_)
  · skip
    refine lv_iload_n hx hb dX6_towersSeen_11 rfl (lv_at hl 1 rfl) ?_
    refine vp_callSi (va_Run.run (va_runS (As := [.int p1]) (rest := []) ⟨hx, hb, hml, hown, hts⟩ (kX5_towersOf l dC dI cyI cyZ p1) (va_cwS 1 hts gX6_towersSeen_X5_towersOf rfl rfl rfl (by decide +kernel) ⟨Nat.le_of_ble_eq_true rfl, Nat.le_of_ble_eq_true rfl⟩) (bs_RS hB (hP.sub (ws' := []) [] rfl)) rfl rfl hl.1 rfl (lv_room (Nat.le_of_ble_eq_true rfl)) dX6_towersSeen_12 ⟨Nat.le_of_ble_eq_true rfl, Nat.le_of_ble_eq_true rfl⟩)) (fun r_2 hr_2 => ?_)
    exact W.iret (v := r_2) hx hb hr (fun t ht hW => ⟨r_2, rfl, trivial, ht⟩) (fun q h => by cases h) dX6_towersSeen_15
  · skip
    exact absurd c_1 (by decide)

theorem hnX6_setAfter_X6 : ∀ w ∈ wsX60, w ∈ wsX6_setAfter := fun _ h => List.mem_cons_of_mem _ (List.mem_append_left _ (List.mem_append_right _ h))
set_option maxHeartbeats 4000000 in
set_option maxRecDepth 100000 in
theorem kX6_setAfter (l : Launch) (dC : Nat → ClassId) (dI : Nat → Nat → Nat) (cyI cyZ : ClassId) (wk mo wy nw ol lt es sf sl so la li ru : Nat) (lk : Nat) (sc d14 d15 d16 d17 d18 : Int32) : Met l yX6_setAfter wsX6_setAfter ({ frames := 1, cells := 0, slots := 0, locals := 20 }) (bs_R dC dI cyI cyZ [.ref wk, .int 0] [(wk, .inr (4, [.ref mo, .ref wy, .ref nw, .ref ol, .ref lt, .ref es, .ref sf, .ref sl, .ref so, .ref la, .ref li, .ref ru, .int 8, .int sc, .int d14, .int d15, .int d16, .int d17, .int d18, .int 0])), (mo, .inr (1, [.ref lk, .int 0, .int 0, .int 0]))]) (vp_Si (fun r : Int32 => r = 0)) 0 0 (fun _ => False) := by
  refine Met.ofW (cc := cX6_setAfter) (maxL := 3) (ret := (some .int)) (by decide) rfl ?_
  intro p e s m args below meth c s₁ B hml hv
  obtain ⟨rfl, hB, hP⟩ := hv
  have hK := hB.1
  have hN := hB.2
  have hx := B.exec
  have hb := B.bytes
  have hr := B.returns
  have hts := atoms_spec (ws := wsX6_setAfter) B.pre
  have hown : s.vm.findClass RX6 = some m.cls := findClass_of_methodNamed B.named
  have hlocks := B.notSynchronized
  have hP : va_P (dC, dI) vwCl [(wk, .inr (4, [.ref mo, .ref wy, .ref nw, .ref ol, .ref lt, .ref es, .ref sf, .ref sl, .ref so, .ref la, .ref li, .ref ru, .int 8, .int sc, .int d14, .int d15, .int d16, .int d17, .int d18, .int 0])), (mo, .inr (1, [.ref lk, .int 0, .int 0, .int 0]))] s.heap := hP
  have hl := lv_entry ([.ref wk, .int 0]) (n := 3) (Nat.le_of_ble_eq_true rfl)
  rw [lg_entry_eq]
  generalize (lg_sl ([.ref wk, .int 0]) ++ List.replicate (3 - (lg_sl ([.ref wk, .int 0])).length) Slot.unset).toArray = ls at hl ⊢
  have hl : lv_has ls 3 [(0, .ref wk), (1, .int 0)] := hl
  refine lv_aload_n hx hb dX6_setAfter_0 rfl (lv_at hl 0 rfl) ?_
  refine va_get (D := (dC, dI)) (ci := 4) (v := .ref mo) (C := RX6) (T := TX6) (N := 20) hx hb hts hnX6_setAfter_X6 hown hK hP 0 rfl rfl 0 (by decide) (hts (.fieldLink RX6 12 "RingMeets$Walks" "moves" "LRingMeets$Moves;") (by decide +kernel)) (fun _ h9 => h9) rfl dX6_setAfter_1 ?_
  refine vp_callSi (va_Run.run (va_runV (As := []) (rest := []) ⟨hx, hb, hml, hown, hts⟩ (kX2_movers l dC dI cyI cyZ mo lk 0) (cwV 0 hts gX6_setAfter_X2_movers rfl rfl rfl (by decide +kernel) ⟨Nat.le_of_ble_eq_true rfl, Nat.le_of_ble_eq_true rfl⟩) (bs_RV hB (hP.sub (ws' := [(mo, .inr (1, [.ref lk, .int 0, .int 0, .int 0]))]) [1] rfl) 0 rfl rfl) rfl rfl hl.1 rfl (lv_room (Nat.le_of_ble_eq_true rfl)) dX6_setAfter_4 ⟨Nat.le_of_ble_eq_true rfl, Nat.le_of_ble_eq_true rfl⟩)) (fun r_1 hr_1 => ?_)
  obtain rfl : r_1 = 0 := hr_1
  refine lv_istore_n (lv' := [(2, .int 0), (0, .ref wk), (1, .int 0)]) hx hb dX6_setAfter_7 rfl hl (by decide) rfl (fun ls hl => ?_)
  refine lv_aload_n hx hb dX6_setAfter_8 rfl (lv_at hl 1 rfl) ?_
  refine va_get (D := (dC, dI)) (ci := 4) (v := .int sc) (C := RX6) (T := TX6) (N := 20) hx hb hts hnX6_setAfter_X6 hown hK hP 0 rfl rfl 13 (by decide) (hts (.fieldLink RX6 57 "RingMeets$Walks" "schedule" "I") (by decide +kernel)) (fun _ h9 => h9) rfl dX6_setAfter_9 ?_
  refine lv_iconst (v := 2) hx hb dX6_setAfter_12 (by decide) ?_
  refine lv_icmp_ne (tgt := 22) hx hb dX6_setAfter_13 (by decide) (fun c_2 => ?_) (fun c_2 => ?_)
  · skip
    have ic_2 := ci_ne (rfl : Int32.toInt sc = _) (show Int32.toInt 2 = 2 by decide) c_2
    refine lv_aload_n hx hb dX6_setAfter_22 rfl (lv_at hl 1 rfl) ?_
    refine va_get (D := (dC, dI)) (ci := 4) (v := .int sc) (C := RX6) (T := TX6) (N := 20) hx hb hts hnX6_setAfter_X6 hown hK hP 0 rfl rfl 13 (by decide) (hts (.fieldLink RX6 57 "RingMeets$Walks" "schedule" "I") (by decide +kernel)) (fun _ h9 => h9) rfl dX6_setAfter_23 ?_
    refine lv_iconst (v := 1) hx hb dX6_setAfter_26 (by decide) ?_
    refine lv_icmp_ne (tgt := 40) hx hb dX6_setAfter_27 (by decide) (fun c_3 => ?_) (fun c_3 => ?_)
    · skip
      have ic_3 := ci_ne (rfl : Int32.toInt sc = _) (show Int32.toInt 1 = 1 by decide) c_3
      refine lv_iload_n hx hb dX6_setAfter_40 rfl (lv_at hl 2 rfl) ?_
      refine lv_if_ne (tgt := 48) hx hb dX6_setAfter_41 (by decide) (fun c_4 => ?_) (fun c_4 => ?_)
      · skip
        exact absurd c_4 (by decide)
      · skip
        refine lv_iload_n hx hb dX6_setAfter_44 rfl (lv_at hl 0 rfl) ?_
        refine lv_goto (tgt := 54) hx hb dX6_setAfter_45 (by decide) ?_
        refine vp_callSi (va_Run.run (va_runS (As := [.int 0]) (rest := []) ⟨hx, hb, hml, hown, hts⟩ (kJ6_lowestOneBit_0f7a4 l dC dI cyI cyZ) (va_cwS 1 hts gX6_setAfter_J6_lowestOneBit_0f7a4 rfl rfl rfl (by decide +kernel) ⟨Nat.le_of_ble_eq_true rfl, Nat.le_of_ble_eq_true rfl⟩) (bs_RS hB (hP.sub (ws' := []) [] rfl)) rfl rfl hl.1 rfl (lv_room (Nat.le_of_ble_eq_true rfl)) dX6_setAfter_54 ⟨Nat.le_of_ble_eq_true rfl, Nat.le_of_ble_eq_true rfl⟩)) (fun r_5 hr_5 => ?_)
        obtain rfl : r_5 = 0 := hr_5
        exact W.iret (v := 0) hx hb hr (fun t ht hW => ⟨0, rfl, rfl, ht⟩) (fun q h => by cases h) dX6_setAfter_57
    · skip
      have ic_3 := ci_eq (rfl : Int32.toInt sc = _) (show Int32.toInt 1 = 1 by decide) c_3
      refine lv_iload_n hx hb dX6_setAfter_30 rfl (lv_at hl 2 rfl) ?_
      refine lv_if_ne (tgt := 38) hx hb dX6_setAfter_31 (by decide) (fun c_6 => ?_) (fun c_6 => ?_)
      · skip
        exact absurd c_6 (by decide)
      · skip
        refine lv_iload_n hx hb dX6_setAfter_34 rfl (lv_at hl 0 rfl) ?_
        refine lv_goto (tgt := 39) hx hb dX6_setAfter_35 (by decide) ?_
        exact W.iret (v := 0) hx hb hr (fun t ht hW => ⟨0, rfl, rfl, ht⟩) (fun q h => by cases h) dX6_setAfter_39
  · skip
    have ic_2 := ci_eq (rfl : Int32.toInt sc = _) (show Int32.toInt 2 = 2 by decide) c_2
    refine lv_iload_n hx hb dX6_setAfter_16 rfl (lv_at hl 2 rfl) ?_
    refine lv_iload_n hx hb dX6_setAfter_17 rfl (lv_at hl 0 rfl) ?_
    refine lv_isub hx hb dX6_setAfter_18 ?_
    refine lv_topi (fun x_7 ex_7 => ?_)
    obtain rfl : 0 = x_7 := (ex_7.trans (by decide)).symm
    refine lv_iload_n hx hb dX6_setAfter_19 rfl (lv_at hl 0 rfl) ?_
    refine lv_iand hx hb dX6_setAfter_20 ?_
    refine lv_topi (fun x_8 ex_8 => ?_)
    obtain rfl : 0 = x_8 := (ex_8.trans (by decide)).symm
    exact W.iret (v := 0) hx hb hr (fun t ht hW => ⟨0, rfl, rfl, ht⟩) (fun q h => by cases h) dX6_setAfter_21

theorem hnX6_addStepsFrom_X2 : ∀ w ∈ wsX20, w ∈ wsX6_addStepsFrom := fun _ h => List.mem_cons_of_mem _ (List.mem_append_right _ h)
theorem hnX6_addStepsFrom_X6 : ∀ w ∈ wsX60, w ∈ wsX6_addStepsFrom := fun _ h => List.mem_cons_of_mem _ (List.mem_append_left _ (List.mem_append_right _ h))
set_option maxHeartbeats 4000000 in
set_option maxRecDepth 100000 in
theorem kX6_addStepsFrom (l : Launch) (dC : Nat → ClassId) (dI : Nat → Nat → Nat) (cyI cyZ : ClassId) (wk mo wy nw ol lt es sf sl so la li ru : Nat) (lk : Nat) (sc d14 d15 d16 d17 d18 : Int32) (p1 : Int32) (sz : Nat) : Met l yX6_addStepsFrom wsX6_addStepsFrom ({ frames := 2, cells := 0, slots := 0, locals := 42 }) (bs_W dC dI cyI cyZ [.ref wk, .int p1] [(wk, .inr (4, [.ref mo, .ref wy, .ref nw, .ref ol, .ref lt, .ref es, .ref sf, .ref sl, .ref so, .ref la, .ref li, .ref ru, .int 8, .int sc, .int d14, .int d15, .int d16, .int d17, .int d18, .int 0])), (mo, .inr (1, [.ref lk, .int 0, .int 0, .int 0]))] sz) (va_Qv (S := Int32 × Int32) (fun _ : Int32 × Int32 => True) (fun q t => bs_E dC dI (va_A [(wk, .inr (4, [.ref mo, .ref wy, .ref nw, .ref ol, .ref lt, .ref es, .ref sf, .ref sl, .ref so, .ref la, .ref li, .ref ru, .int 8, .int sc, .int d14, .int d15, .int d16, .int d17, .int d18, .int 0])), (mo, .inr (1, [.ref lk, .int 0, .int 0, .int 0]))] sz) [(wk, .inr (4, [.ref mo, .ref wy, .ref nw, .ref ol, .ref lt, .ref es, .ref sf, .ref sl, .ref so, .ref la, .ref li, .ref ru, .int 8, .int sc, .int d14, .int d15, .int d16, .int q.1, .int q.2, .int 0])), (mo, .inr (1, [.ref lk, .int 0, .int 0, .int 0]))] t) (va_A [(wk, .inr (4, [.ref mo, .ref wy, .ref nw, .ref ol, .ref lt, .ref es, .ref sf, .ref sl, .ref so, .ref la, .ref li, .ref ru, .int 8, .int sc, .int d14, .int d15, .int d16, .int d17, .int d18, .int 0])), (mo, .inr (1, [.ref lk, .int 0, .int 0, .int 0]))] sz)) 0 0 (va_A [(wk, .inr (4, [.ref mo, .ref wy, .ref nw, .ref ol, .ref lt, .ref es, .ref sf, .ref sl, .ref so, .ref la, .ref li, .ref ru, .int 8, .int sc, .int d14, .int d15, .int d16, .int d17, .int d18, .int 0])), (mo, .inr (1, [.ref lk, .int 0, .int 0, .int 0]))] sz) := by
  refine Met.ofW (cc := cX6_addStepsFrom) (maxL := 4) (ret := none) (by decide) rfl ?_
  intro p e s m args below meth c s₁ B hml hv
  obtain ⟨rfl, hsz, hB, hP, hD0⟩ := hv
  have hK := hB.1
  have hN := hB.2
  have hx := B.exec
  have hb := B.bytes
  have hr := B.returns
  have hts := atoms_spec (ws := wsX6_addStepsFrom) B.pre
  have hown : s.vm.findClass RX6 = some m.cls := findClass_of_methodNamed B.named
  have hlocks := B.notSynchronized
  subst hsz
  have hD := hD0.self (sz := s.heap.size)
  generalize hAe : va_A [(wk, .inr (4, [.ref mo, .ref wy, .ref nw, .ref ol, .ref lt, .ref es, .ref sf, .ref sl, .ref so, .ref la, .ref li, .ref ru, .int 8, .int sc, .int d14, .int d15, .int d16, .int d17, .int d18, .int 0])), (mo, .inr (1, [.ref lk, .int 0, .int 0, .int 0]))] s.heap.size = A at hD ⊢
  have hA : ∀ q : Nat, s.heap.size ≤ q → A q := fun q h => by rw [← hAe]; exact Or.inr h
  have hS : va_S A s.heap s.heap [] := va_S.rf
  have hP : va_P (dC, dI) vwCl [(wk, .inr (4, [.ref mo, .ref wy, .ref nw, .ref ol, .ref lt, .ref es, .ref sf, .ref sl, .ref so, .ref la, .ref li, .ref ru, .int 8, .int sc, .int d14, .int d15, .int d16, .int d17, .int d18, .int 0])), (mo, .inr (1, [.ref lk, .int 0, .int 0, .int 0]))] s.heap := hP
  have hl := lv_entry ([.ref wk, .int p1]) (n := 4) (Nat.le_of_ble_eq_true rfl)
  rw [lg_entry_eq]
  generalize (lg_sl ([.ref wk, .int p1]) ++ List.replicate (4 - (lg_sl ([.ref wk, .int p1])).length) Slot.unset).toArray = ls at hl ⊢
  have hl : lv_has ls 4 [(0, .ref wk), (1, .int p1)] := hl
  refine lv_aload_n hx hb dX6_addStepsFrom_0 rfl (lv_at hl 0 rfl) ?_
  refine lv_dup hx hb dX6_addStepsFrom_1 rfl ?_
  refine va_get (D := (dC, dI)) (ci := 4) (v := .int d18) (C := RX6) (T := TX6) (N := 20) hx hb hts hnX6_addStepsFrom_X6 hown hK hP 0 rfl rfl 18 (by decide) (hts (.fieldLink RX6 73 "RingMeets$Walks" "rulesUsed" "I") (by decide +kernel)) (fun _ h9 => h9) rfl dX6_addStepsFrom_2 ?_
  refine lv_aload_n hx hb dX6_addStepsFrom_5 rfl (lv_at hl 0 rfl) ?_
  refine va_get (D := (dC, dI)) (ci := 4) (v := .ref mo) (C := RX6) (T := TX6) (N := 20) hx hb hts hnX6_addStepsFrom_X6 hown hK hP 0 rfl rfl 0 (by decide) (hts (.fieldLink RX6 12 "RingMeets$Walks" "moves" "LRingMeets$Moves;") (by decide +kernel)) (fun _ h9 => h9) rfl dX6_addStepsFrom_6 ?_
  refine va_getN (D := (dC, dI)) (ci := 1) (v := .int 0) (C := RX2) (T := TX2) (N := 4) hx hb hts hnX6_addStepsFrom_X2 hown hK hP 1 rfl rfl 3 (by decide) (hN.fld 15 rfl) (fun _ h9 => h9) rfl dX6_addStepsFrom_9 ?_
  refine lv_ior hx hb dX6_addStepsFrom_12 ?_
  refine lv_topi (fun x_1 ex_1 => ?_)
  obtain rfl : d18 = x_1 := (ex_1.trans (Int32.or_zero)).symm
  refine va_put (D := (dC, dI)) (ci := 4) (v := .int d18) (ty := .int) (C := RX6) (T := TX6) (N := 20) hx hb hts hnX6_addStepsFrom_X6 tyX6 tyX6_ok nmX6 hown hK hP hD hS 0 rfl rfl 18 (by decide) (hts (.fieldLink RX6 73 "RingMeets$Walks" "rulesUsed" "I") (by decide +kernel)) (fun _ h9 => h9) rfl (by decide +kernel) rfl rfl (Nat.le_of_ble_eq_true rfl) dX6_addStepsFrom_13 (fun H locs hP hD hS => ?_)
  have hP : va_P (dC, dI) vwCl [(wk, .inr (4, [.ref mo, .ref wy, .ref nw, .ref ol, .ref lt, .ref es, .ref sf, .ref sl, .ref so, .ref la, .ref li, .ref ru, .int 8, .int sc, .int d14, .int d15, .int d16, .int d17, .int d18, .int 0])), (mo, .inr (1, [.ref lk, .int 0, .int 0, .int 0]))] _ := hP
  have hD : va_D A [(wk, .inr (4, [.ref mo, .ref wy, .ref nw, .ref ol, .ref lt, .ref es, .ref sf, .ref sl, .ref so, .ref la, .ref li, .ref ru, .int 8, .int sc, .int d14, .int d15, .int d16, .int d17, .int d18, .int 0])), (mo, .inr (1, [.ref lk, .int 0, .int 0, .int 0]))] := hD
  refine lv_aload_n hx hb dX6_addStepsFrom_16 rfl (lv_at hl 0 rfl) ?_
  refine va_get (D := (dC, dI)) (ci := 4) (v := .ref mo) (C := RX6) (T := TX6) (N := 20) hx hb hts hnX6_addStepsFrom_X6 hown hK hP 0 rfl rfl 0 (by decide) (hts (.fieldLink RX6 12 "RingMeets$Walks" "moves" "LRingMeets$Moves;") (by decide +kernel)) (fun _ h9 => h9) rfl dX6_addStepsFrom_17 ?_
  refine vp_callSi (va_Run.run (va_runV (As := []) (rest := []) ⟨hx, hb, hml, hown, hts⟩ (kX2_movers l dC dI cyI cyZ mo lk 0) (cwV 0 hts gX6_addStepsFrom_X2_movers rfl rfl rfl (by decide +kernel) ⟨Nat.le_of_ble_eq_true rfl, Nat.le_of_ble_eq_true rfl⟩) (bs_RV hB (hP.sub (ws' := [(mo, .inr (1, [.ref lk, .int 0, .int 0, .int 0]))]) [1] rfl) 0 rfl rfl) rfl rfl hl.1 rfl (lv_room (Nat.le_of_ble_eq_true rfl)) dX6_addStepsFrom_20 ⟨Nat.le_of_ble_eq_true rfl, Nat.le_of_ble_eq_true rfl⟩)) (fun r_2 hr_2 => ?_)
  obtain rfl : r_2 = 0 := hr_2
  refine lv_if_ne (tgt := 36) hx hb dX6_addStepsFrom_23 (by decide) (fun c_3 => ?_) (fun c_3 => ?_)
  · skip
    exact absurd c_3 (by decide)
  · skip
    refine lv_aload_n hx hb dX6_addStepsFrom_26 rfl (lv_at hl 0 rfl) ?_
    refine lv_dup hx hb dX6_addStepsFrom_27 rfl ?_
    refine va_get (D := (dC, dI)) (ci := 4) (v := .int d17) (C := RX6) (T := TX6) (N := 20) hx hb hts hnX6_addStepsFrom_X6 hown hK hP 0 rfl rfl 17 (by decide) (hts (.fieldLink RX6 70 "RingMeets$Walks" "stuck" "I") (by decide +kernel)) (fun _ h9 => h9) rfl dX6_addStepsFrom_28 ?_
    refine lv_iconst (v := 1) hx hb dX6_addStepsFrom_31 (by decide) ?_
    refine lv_iadd hx hb dX6_addStepsFrom_32 ?_
    refine lv_topi (fun x_4 ex_4 => ?_)
    refine va_put (D := (dC, dI)) (ci := 4) (v := .int x_4) (ty := .int) (C := RX6) (T := TX6) (N := 20) hx hb hts hnX6_addStepsFrom_X6 tyX6 tyX6_ok nmX6 hown hK hP hD hS 0 rfl rfl 17 (by decide) (hts (.fieldLink RX6 70 "RingMeets$Walks" "stuck" "I") (by decide +kernel)) (fun _ h9 => h9) rfl (by decide +kernel) rfl rfl (Nat.le_of_ble_eq_true rfl) dX6_addStepsFrom_33 (fun H locs hP hD hS => ?_)
    have hP : va_P (dC, dI) vwCl [(wk, .inr (4, [.ref mo, .ref wy, .ref nw, .ref ol, .ref lt, .ref es, .ref sf, .ref sl, .ref so, .ref la, .ref li, .ref ru, .int 8, .int sc, .int d14, .int d15, .int d16, .int x_4, .int d18, .int 0])), (mo, .inr (1, [.ref lk, .int 0, .int 0, .int 0]))] _ := hP
    have hD : va_D A [(wk, .inr (4, [.ref mo, .ref wy, .ref nw, .ref ol, .ref lt, .ref es, .ref sf, .ref sl, .ref so, .ref la, .ref li, .ref ru, .int 8, .int sc, .int d14, .int d15, .int d16, .int x_4, .int d18, .int 0])), (mo, .inr (1, [.ref lk, .int 0, .int 0, .int 0]))] := hD
    refine lv_aload_n hx hb dX6_addStepsFrom_36 rfl (lv_at hl 0 rfl) ?_
    refine lv_iconst (v := 0) hx hb dX6_addStepsFrom_37 (by decide) ?_
    refine vp_callSi (va_Run.run (va_runV (As := [.int 0]) (rest := []) ⟨hx, hb, hml, hown, hts⟩ (kX6_setAfter l dC dI cyI cyZ wk mo wy nw ol lt es sf sl so la li ru lk sc d14 d15 d16 x_4 d18) (cwV 1 hts gX6_addStepsFrom_X6_setAfter rfl rfl rfl (by decide +kernel) ⟨Nat.le_of_ble_eq_true rfl, Nat.le_of_ble_eq_true rfl⟩) (bs_RV hB (hP.sub (ws' := [(wk, .inr (4, [.ref mo, .ref wy, .ref nw, .ref ol, .ref lt, .ref es, .ref sf, .ref sl, .ref so, .ref la, .ref li, .ref ru, .int 8, .int sc, .int d14, .int d15, .int d16, .int x_4, .int d18, .int 0])), (mo, .inr (1, [.ref lk, .int 0, .int 0, .int 0]))]) [0, 1] rfl) 0 rfl rfl) rfl rfl hl.1 rfl (lv_room (Nat.le_of_ble_eq_true rfl)) dX6_addStepsFrom_38 ⟨Nat.le_of_ble_eq_true rfl, Nat.le_of_ble_eq_true rfl⟩)) (fun r_5 hr_5 => ?_)
    obtain rfl : r_5 = 0 := hr_5
    refine lv_istore_n (lv' := [(2, .int 0), (0, .ref wk), (1, .int p1)]) hx hb dX6_addStepsFrom_41 rfl hl (by decide) rfl (fun ls hl => ?_)
    refine lv_iconst (v := 0) hx hb dX6_addStepsFrom_42 (by decide) ?_
    refine lv_istore_n (lv' := [(3, .int 0), (2, .int 0), (0, .ref wk), (1, .int p1)]) hx hb dX6_addStepsFrom_43 rfl hl (by decide) rfl (fun ls hl => ?_)
    refine lv_iload_n hx hb dX6_addStepsFrom_44 rfl (lv_at hl 0 rfl) ?_
    refine lv_bipush (v := 31) hx hb dX6_addStepsFrom_45 (by decide) ?_
    refine lv_icmp_ge (tgt := 93) hx hb dX6_addStepsFrom_47 (by decide) (fun c_6 => ?_) (fun c_6 => ?_)
    · skip
      exact absurd c_6 (by decide)
    · skip
      refine lv_iload_n hx hb dX6_addStepsFrom_50 rfl (lv_at hl 1 rfl) ?_
      refine lv_if_eq (tgt := 93) hx hb dX6_addStepsFrom_51 (by decide) (fun c_7 => ?_) (fun c_7 => ?_)
      · skip
        exact W.vret hx hb hr (fun t ht hW => ⟨⟨(x_4, d18), rfl, trivial, ⟨by rw [ht]; exact hP.sub (ws' := [(wk, .inr (4, [.ref mo, .ref wy, .ref nw, .ref ol, .ref lt, .ref es, .ref sf, .ref sl, .ref so, .ref la, .ref li, .ref ru, .int 8, .int sc, .int d14, .int d15, .int d16, .int x_4, .int d18, .int 0])), (mo, .inr (1, [.ref lk, .int 0, .int 0, .int 0]))]) [0, 1] rfl, hD.sub (ws' := [(wk, .inr (4, [.ref mo, .ref wy, .ref nw, .ref ol, .ref lt, .ref es, .ref sf, .ref sl, .ref so, .ref la, .ref li, .ref ru, .int 8, .int sc, .int d14, .int d15, .int d16, .int x_4, .int d18, .int 0])), (mo, .inr (1, [.ref lk, .int 0, .int 0, .int 0]))]) [0, 1] (by decide) rfl⟩⟩, hS.F ht⟩) hS.2.2 dX6_addStepsFrom_93
      · skip
        exact absurd c_7 (by decide)

theorem hnX6_lineUp_X6 : ∀ w ∈ wsX60, w ∈ wsX6_lineUp := fun _ h => List.mem_cons_of_mem _ (List.mem_append_right _ h)
set_option maxHeartbeats 4000000 in
set_option maxRecDepth 100000 in
theorem kX6_lineUp (l : Launch) (dC : Nat → ClassId) (dI : Nat → Nat → Nat) (cyI cyZ : ClassId) (wk mo wy nw ol lt es sf sl so la li ru : Nat) (tt : Nat) (sc d15 d17 d18 : Int32) (z : Nat) (hz : z ≤ 256) (qn : Nat) (hq9 : qn ≤ 256) (ft fl : Nat → Int32) (i : Nat) (hi : i < z) (sz : Nat) : Met l yX6_lineUp wsX6_lineUp ({ frames := 1, cells := 0, slots := 0, locals := 21 }) (bs_W dC dI cyI cyZ [.ref wk, .ref tt, .int (nI i), .int 0] [(wk, .inr (4, [.ref mo, .ref wy, .ref nw, .ref ol, .ref lt, .ref es, .ref sf, .ref sl, .ref so, .ref la, .ref li, .ref ru, .int 8, .int sc, .int (nI z), .int d15, .int (nI qn), .int d17, .int d18, .int 0])), (tt, .inl (cyI, 1957, .inl ft)), (li, .inl (cyI, 1957, .inl fl))] sz) (va_Qv (S := (Nat → Int32) × (Nat → Int32)) (fun q : (Nat → Int32) × (Nat → Int32) => q.1 = upd ft i 0) (fun q t => bs_E dC dI (va_A [(wk, .inr (4, [.ref mo, .ref wy, .ref nw, .ref ol, .ref lt, .ref es, .ref sf, .ref sl, .ref so, .ref la, .ref li, .ref ru, .int 8, .int sc, .int (nI z), .int d15, .int (nI qn), .int d17, .int d18, .int 0])), (tt, .inl (cyI, 1957, .inl ft)), (li, .inl (cyI, 1957, .inl fl))] sz) [(wk, .inr (4, [.ref mo, .ref wy, .ref nw, .ref ol, .ref lt, .ref es, .ref sf, .ref sl, .ref so, .ref la, .ref li, .ref ru, .int 8, .int sc, .int (nI z), .int d15, .int (nI (qn + 1)), .int d17, .int d18, .int 0])), (tt, .inl (cyI, 1957, .inl q.1)), (li, .inl (cyI, 1957, .inl q.2))] t) (va_A [(wk, .inr (4, [.ref mo, .ref wy, .ref nw, .ref ol, .ref lt, .ref es, .ref sf, .ref sl, .ref so, .ref la, .ref li, .ref ru, .int 8, .int sc, .int (nI z), .int d15, .int (nI qn), .int d17, .int d18, .int 0])), (tt, .inl (cyI, 1957, .inl ft)), (li, .inl (cyI, 1957, .inl fl))] sz)) 0 0 (va_A [(wk, .inr (4, [.ref mo, .ref wy, .ref nw, .ref ol, .ref lt, .ref es, .ref sf, .ref sl, .ref so, .ref la, .ref li, .ref ru, .int 8, .int sc, .int (nI z), .int d15, .int (nI qn), .int d17, .int d18, .int 0])), (tt, .inl (cyI, 1957, .inl ft)), (li, .inl (cyI, 1957, .inl fl))] sz) := by
  refine Met.ofW (cc := cX6_lineUp) (maxL := 4) (ret := none) (by decide) rfl ?_
  intro p e s m args below meth c s₁ B hml hv
  obtain ⟨rfl, hsz, hB, hP, hD0⟩ := hv
  have hK := hB.1
  have hN := hB.2
  have hx := B.exec
  have hb := B.bytes
  have hr := B.returns
  have hts := atoms_spec (ws := wsX6_lineUp) B.pre
  have hown : s.vm.findClass RX6 = some m.cls := findClass_of_methodNamed B.named
  have hlocks := B.notSynchronized
  subst hsz
  have hD := hD0.self (sz := s.heap.size)
  generalize hAe : va_A [(wk, .inr (4, [.ref mo, .ref wy, .ref nw, .ref ol, .ref lt, .ref es, .ref sf, .ref sl, .ref so, .ref la, .ref li, .ref ru, .int 8, .int sc, .int (nI z), .int d15, .int (nI qn), .int d17, .int d18, .int 0])), (tt, .inl (cyI, 1957, .inl ft)), (li, .inl (cyI, 1957, .inl fl))] s.heap.size = A at hD ⊢
  have hA : ∀ q : Nat, s.heap.size ≤ q → A q := fun q h => by rw [← hAe]; exact Or.inr h
  have hS : va_S A s.heap s.heap [] := va_S.rf
  have hP : va_P (dC, dI) vwCl [(wk, .inr (4, [.ref mo, .ref wy, .ref nw, .ref ol, .ref lt, .ref es, .ref sf, .ref sl, .ref so, .ref la, .ref li, .ref ru, .int 8, .int sc, .int (nI z), .int d15, .int (nI qn), .int d17, .int d18, .int 0])), (tt, .inl (cyI, 1957, .inl ft)), (li, .inl (cyI, 1957, .inl fl))] s.heap := hP
  have hl := lv_entry ([.ref wk, .ref tt, .int (nI i), .int 0]) (n := 4) (Nat.le_of_ble_eq_true rfl)
  rw [lg_entry_eq]
  generalize (lg_sl ([.ref wk, .ref tt, .int (nI i), .int 0]) ++ List.replicate (4 - (lg_sl ([.ref wk, .ref tt, .int (nI i), .int 0])).length) Slot.unset).toArray = ls at hl ⊢
  have hl : lv_has ls 4 [(0, .ref wk), (1, .ref tt), (2, .int (nI i)), (3, .int 0)] := hl
  refine lv_aload_n hx hb dX6_lineUp_0 rfl (lv_at hl 0 rfl) ?_
  refine lv_iload_n hx hb dX6_lineUp_1 rfl (lv_at hl 2 rfl) ?_
  refine vp_callSi (va_Run.run (va_runV (As := [.int (nI i)]) (rest := []) ⟨hx, hb, hml, hown, hts⟩ (kX6_isWay l dC dI cyI cyZ wk mo wy nw ol lt es sf sl so la li ru sc (nI z) d15 (nI qn) d17 d18 (nI i)) (cwV 1 hts gX6_lineUp_X6_isWay rfl rfl rfl (by decide +kernel) ⟨Nat.le_of_ble_eq_true rfl, Nat.le_of_ble_eq_true rfl⟩) (bs_RV hB (hP.sub (ws' := [(wk, .inr (4, [.ref mo, .ref wy, .ref nw, .ref ol, .ref lt, .ref es, .ref sf, .ref sl, .ref so, .ref la, .ref li, .ref ru, .int 8, .int sc, .int (nI z), .int d15, .int (nI qn), .int d17, .int d18, .int 0]))]) [0] rfl) 0 rfl rfl) rfl rfl hl.1 rfl (lv_room (Nat.le_of_ble_eq_true rfl)) dX6_lineUp_2 ⟨Nat.le_of_ble_eq_true rfl, Nat.le_of_ble_eq_true rfl⟩)) (fun r_1 hr_1 => ?_)
  obtain rfl : 1 = r_1 := Eq.symm (hr_1.2.2.1 (by rw [nI_toInt (n := i) (by omega)]; omega) (by rw [nI_toInt (n := i) (by omega), nI_toInt (n := z) (by omega)]; omega) (by rw [nI_toInt (n := i) (by omega)]; omega))
  refine lv_if_eq (tgt := 42) hx hb dX6_lineUp_5 (by decide) (fun c_2 => ?_) (fun c_2 => ?_)
  · skip
    exact absurd c_2 (by decide)
  · skip
    refine lv_aload_n hx hb dX6_lineUp_8 rfl (lv_at hl 0 rfl) ?_
    refine va_get (D := (dC, dI)) (ci := 4) (v := .int (nI qn)) (C := RX6) (T := TX6) (N := 20) hx hb hts hnX6_lineUp_X6 hown hK hP 0 rfl rfl 16 (by decide) (hts (.fieldLink RX6 141 "RingMeets$Walks" "lineSize" "I") (by decide +kernel)) (fun _ h9 => h9) rfl dX6_lineUp_9 ?_
    refine lv_sipush (v := 1957) hx hb dX6_lineUp_12 (by decide) ?_
    refine lv_icmp_ge (tgt := 42) hx hb dX6_lineUp_15 (by decide) (fun c_3 => ?_) (fun c_3 => ?_)
    · skip
      have ic_3 := ci_le (show Int32.toInt 1957 = 1957 by decide) (nI_toInt (n := qn) (by omega)) c_3
      exfalso; omega
    · skip
      have ic_3 := ci_nle (show Int32.toInt 1957 = 1957 by decide) (nI_toInt (n := qn) (by omega)) c_3
      refine lv_aload_n hx hb dX6_lineUp_18 rfl (lv_at hl 1 rfl) ?_
      refine lv_iload_n hx hb dX6_lineUp_19 rfl (lv_at hl 2 rfl) ?_
      refine lv_iload_n hx hb dX6_lineUp_20 rfl (lv_at hl 3 rfl) ?_
      refine va_iast (D := (dC, dI)) hx hb hK hP hD hS 1 0 rfl rfl (vp_in_nI (n := i) (N := 1957) (by omega) (by omega)) dX6_lineUp_21 (fun H locs hP hD hS => ?_)
      obtain ⟨g_4, eg_4⟩ : ∃ y : Nat → Int32, y = upd ft (Int32.toNatClampNeg (nI i)) 0 := ⟨_, rfl⟩
      have hP : va_P (dC, dI) vwCl [(wk, .inr (4, [.ref mo, .ref wy, .ref nw, .ref ol, .ref lt, .ref es, .ref sf, .ref sl, .ref so, .ref la, .ref li, .ref ru, .int 8, .int sc, .int (nI z), .int d15, .int (nI qn), .int d17, .int d18, .int 0])), (tt, .inl (cyI, 1957, .inl g_4)), (li, .inl (cyI, 1957, .inl fl))] H := by rw [eg_4]; exact hP
      have hD : va_D A [(wk, .inr (4, [.ref mo, .ref wy, .ref nw, .ref ol, .ref lt, .ref es, .ref sf, .ref sl, .ref so, .ref la, .ref li, .ref ru, .int 8, .int sc, .int (nI z), .int d15, .int (nI qn), .int d17, .int d18, .int 0])), (tt, .inl (cyI, 1957, .inl g_4)), (li, .inl (cyI, 1957, .inl fl))] := by rw [eg_4]; exact hD
      rw [nI_clamp (n := i) (by omega)] at eg_4
      refine lv_aload_n hx hb dX6_lineUp_22 rfl (lv_at hl 0 rfl) ?_
      refine va_get (D := (dC, dI)) (ci := 4) (v := .ref li) (C := RX6) (T := TX6) (N := 20) hx hb hts hnX6_lineUp_X6 hown hK hP 0 rfl rfl 10 (by decide) (hts (.fieldLink RX6 46 "RingMeets$Walks" "line" "[I") (by decide +kernel)) (fun _ h9 => h9) rfl dX6_lineUp_23 ?_
      refine lv_aload_n hx hb dX6_lineUp_26 rfl (lv_at hl 0 rfl) ?_
      refine va_get (D := (dC, dI)) (ci := 4) (v := .int (nI qn)) (C := RX6) (T := TX6) (N := 20) hx hb hts hnX6_lineUp_X6 hown hK hP 0 rfl rfl 16 (by decide) (hts (.fieldLink RX6 141 "RingMeets$Walks" "lineSize" "I") (by decide +kernel)) (fun _ h9 => h9) rfl dX6_lineUp_27 ?_
      refine lv_iload_n hx hb dX6_lineUp_30 rfl (lv_at hl 2 rfl) ?_
      refine va_iast (D := (dC, dI)) hx hb hK hP hD hS 2 0 rfl rfl (vp_in_nI (n := qn) (N := 1957) (by omega) (by omega)) dX6_lineUp_31 (fun H locs hP hD hS => ?_)
      obtain ⟨g_5, eg_5⟩ : ∃ y : Nat → Int32, y = upd fl (Int32.toNatClampNeg (nI qn)) (nI i) := ⟨_, rfl⟩
      have hP : va_P (dC, dI) vwCl [(wk, .inr (4, [.ref mo, .ref wy, .ref nw, .ref ol, .ref lt, .ref es, .ref sf, .ref sl, .ref so, .ref la, .ref li, .ref ru, .int 8, .int sc, .int (nI z), .int d15, .int (nI qn), .int d17, .int d18, .int 0])), (tt, .inl (cyI, 1957, .inl g_4)), (li, .inl (cyI, 1957, .inl g_5))] H := by rw [eg_5]; exact hP
      have hD : va_D A [(wk, .inr (4, [.ref mo, .ref wy, .ref nw, .ref ol, .ref lt, .ref es, .ref sf, .ref sl, .ref so, .ref la, .ref li, .ref ru, .int 8, .int sc, .int (nI z), .int d15, .int (nI qn), .int d17, .int d18, .int 0])), (tt, .inl (cyI, 1957, .inl g_4)), (li, .inl (cyI, 1957, .inl g_5))] := by rw [eg_5]; exact hD
      rw [nI_clamp (n := qn) (by omega)] at eg_5
      refine lv_aload_n hx hb dX6_lineUp_32 rfl (lv_at hl 0 rfl) ?_
      refine lv_dup hx hb dX6_lineUp_33 rfl ?_
      refine va_get (D := (dC, dI)) (ci := 4) (v := .int (nI qn)) (C := RX6) (T := TX6) (N := 20) hx hb hts hnX6_lineUp_X6 hown hK hP 0 rfl rfl 16 (by decide) (hts (.fieldLink RX6 141 "RingMeets$Walks" "lineSize" "I") (by decide +kernel)) (fun _ h9 => h9) rfl dX6_lineUp_34 ?_
      refine lv_iconst (v := 1) hx hb dX6_lineUp_37 (by decide) ?_
      refine lv_iadd hx hb dX6_lineUp_38 ?_
      refine lv_topi (fun x_6 ex_6 => ?_)
      obtain rfl : (nI (qn + 1)) = x_6 := (ex_6.trans (nI_1 _)).symm
      refine va_put (D := (dC, dI)) (ci := 4) (v := .int (nI (qn + 1))) (ty := .int) (C := RX6) (T := TX6) (N := 20) hx hb hts hnX6_lineUp_X6 tyX6 tyX6_ok nmX6 hown hK hP hD hS 0 rfl rfl 16 (by decide) (hts (.fieldLink RX6 141 "RingMeets$Walks" "lineSize" "I") (by decide +kernel)) (fun _ h9 => h9) rfl (by decide +kernel) rfl rfl (Nat.le_of_ble_eq_true rfl) dX6_lineUp_39 (fun H locs hP hD hS => ?_)
      have hP : va_P (dC, dI) vwCl [(wk, .inr (4, [.ref mo, .ref wy, .ref nw, .ref ol, .ref lt, .ref es, .ref sf, .ref sl, .ref so, .ref la, .ref li, .ref ru, .int 8, .int sc, .int (nI z), .int d15, .int (nI (qn + 1)), .int d17, .int d18, .int 0])), (tt, .inl (cyI, 1957, .inl g_4)), (li, .inl (cyI, 1957, .inl g_5))] _ := hP
      have hD : va_D A [(wk, .inr (4, [.ref mo, .ref wy, .ref nw, .ref ol, .ref lt, .ref es, .ref sf, .ref sl, .ref so, .ref la, .ref li, .ref ru, .int 8, .int sc, .int (nI z), .int d15, .int (nI (qn + 1)), .int d17, .int d18, .int 0])), (tt, .inl (cyI, 1957, .inl g_4)), (li, .inl (cyI, 1957, .inl g_5))] := hD
      exact W.vret hx hb hr (fun t ht hW => ⟨⟨(g_4, g_5), rfl, eg_4, ⟨by rw [ht]; exact hP.sub (ws' := [(wk, .inr (4, [.ref mo, .ref wy, .ref nw, .ref ol, .ref lt, .ref es, .ref sf, .ref sl, .ref so, .ref la, .ref li, .ref ru, .int 8, .int sc, .int (nI z), .int d15, .int (nI (qn + 1)), .int d17, .int d18, .int 0])), (tt, .inl (cyI, 1957, .inl g_4)), (li, .inl (cyI, 1957, .inl g_5))]) [0, 1, 2] rfl, hD.sub (ws' := [(wk, .inr (4, [.ref mo, .ref wy, .ref nw, .ref ol, .ref lt, .ref es, .ref sf, .ref sl, .ref so, .ref la, .ref li, .ref ru, .int 8, .int sc, .int (nI z), .int d15, .int (nI (qn + 1)), .int d17, .int d18, .int 0])), (tt, .inl (cyI, 1957, .inl g_4)), (li, .inl (cyI, 1957, .inl g_5))]) [0, 1, 2] (by decide) rfl⟩⟩, hS.F ht⟩) hS.2.2 dX6_lineUp_42

theorem hnX6_lineUpWhatHasMet_X6 : ∀ w ∈ wsX60, w ∈ wsX6_lineUpWhatHasMet := fun _ h => List.mem_cons_of_mem _ (List.mem_append_right _ h)
set_option maxHeartbeats 4000000 in
set_option maxRecDepth 100000 in
theorem kX6_lineUpWhatHasMet (l : Launch) (dC : Nat → ClassId) (dI : Nat → Nat → Nat) (cyI cyZ : ClassId) (wk mo wy nw ol lt es sf sl so la li ru : Nat) (tt : Nat) (sc d15 d16 d17 d18 : Int32) (z : Nat) (hz : z ≤ 256) (nn : Int32) (wf : Nat → Int32) (hw : ∀ i, i < z → ∃ x, x < 256 ∧ nb_bc (nI x) = nn ∧ wf i = nI x) (ft fl : Nat → Int32) (sz : Nat) : Met l yX6_lineUpWhatHasMet wsX6_lineUpWhatHasMet ({ frames := 2, cells := 0, slots := 0, locals := 44 }) (bs_W dC dI cyI cyZ [.ref wk, .ref tt] [(wk, .inr (4, [.ref mo, .ref wy, .ref nw, .ref ol, .ref lt, .ref es, .ref sf, .ref sl, .ref so, .ref la, .ref li, .ref ru, .int 8, .int sc, .int (nI z), .int d15, .int d16, .int d17, .int d18, .int 0])), (wy, .inl (cyI, 1957, .inl wf)), (tt, .inl (cyI, 1957, .inl ft)), (li, .inl (cyI, 1957, .inl fl))] sz) (va_Qv (S := Nat × (Nat → Int32) × (Nat → Int32)) (fun q : Nat × (Nat → Int32) × (Nat → Int32) => q.1 ≤ 256 ∧ ∀ i, i < z → q.2.1 i = sp_tk nn) (fun q t => bs_E dC dI (va_A [(wk, .inr (4, [.ref mo, .ref wy, .ref nw, .ref ol, .ref lt, .ref es, .ref sf, .ref sl, .ref so, .ref la, .ref li, .ref ru, .int 8, .int sc, .int (nI z), .int d15, .int d16, .int d17, .int d18, .int 0])), (wy, .inl (cyI, 1957, .inl wf)), (tt, .inl (cyI, 1957, .inl ft)), (li, .inl (cyI, 1957, .inl fl))] sz) [(wk, .inr (4, [.ref mo, .ref wy, .ref nw, .ref ol, .ref lt, .ref es, .ref sf, .ref sl, .ref so, .ref la, .ref li, .ref ru, .int 8, .int sc, .int (nI z), .int d15, .int (nI q.1), .int d17, .int d18, .int 0])), (wy, .inl (cyI, 1957, .inl wf)), (tt, .inl (cyI, 1957, .inl q.2.1)), (li, .inl (cyI, 1957, .inl q.2.2))] t) (va_A [(wk, .inr (4, [.ref mo, .ref wy, .ref nw, .ref ol, .ref lt, .ref es, .ref sf, .ref sl, .ref so, .ref la, .ref li, .ref ru, .int 8, .int sc, .int (nI z), .int d15, .int d16, .int d17, .int d18, .int 0])), (wy, .inl (cyI, 1957, .inl wf)), (tt, .inl (cyI, 1957, .inl ft)), (li, .inl (cyI, 1957, .inl fl))] sz)) 0 0 (va_A [(wk, .inr (4, [.ref mo, .ref wy, .ref nw, .ref ol, .ref lt, .ref es, .ref sf, .ref sl, .ref so, .ref la, .ref li, .ref ru, .int 8, .int sc, .int (nI z), .int d15, .int d16, .int d17, .int d18, .int 0])), (wy, .inl (cyI, 1957, .inl wf)), (tt, .inl (cyI, 1957, .inl ft)), (li, .inl (cyI, 1957, .inl fl))] sz) := by
  refine Met.ofW (cc := cX6_lineUpWhatHasMet) (maxL := 3) (ret := none) (by decide) rfl ?_
  intro p e s m args below meth c s₁ B hml hv
  obtain ⟨rfl, hsz, hB, hP, hD0⟩ := hv
  have hK := hB.1
  have hN := hB.2
  have hx := B.exec
  have hb := B.bytes
  have hr := B.returns
  have hts := atoms_spec (ws := wsX6_lineUpWhatHasMet) B.pre
  have hown : s.vm.findClass RX6 = some m.cls := findClass_of_methodNamed B.named
  have hlocks := B.notSynchronized
  subst hsz
  have hD := hD0.self (sz := s.heap.size)
  generalize hAe : va_A [(wk, .inr (4, [.ref mo, .ref wy, .ref nw, .ref ol, .ref lt, .ref es, .ref sf, .ref sl, .ref so, .ref la, .ref li, .ref ru, .int 8, .int sc, .int (nI z), .int d15, .int d16, .int d17, .int d18, .int 0])), (wy, .inl (cyI, 1957, .inl wf)), (tt, .inl (cyI, 1957, .inl ft)), (li, .inl (cyI, 1957, .inl fl))] s.heap.size = A at hD ⊢
  have hA : ∀ q : Nat, s.heap.size ≤ q → A q := fun q h => by rw [← hAe]; exact Or.inr h
  have hS : va_S A s.heap s.heap [] := va_S.rf
  have hP : va_P (dC, dI) vwCl [(wk, .inr (4, [.ref mo, .ref wy, .ref nw, .ref ol, .ref lt, .ref es, .ref sf, .ref sl, .ref so, .ref la, .ref li, .ref ru, .int 8, .int sc, .int (nI z), .int d15, .int d16, .int d17, .int d18, .int 0])), (wy, .inl (cyI, 1957, .inl wf)), (tt, .inl (cyI, 1957, .inl ft)), (li, .inl (cyI, 1957, .inl fl))] s.heap := hP
  have hl := lv_entry ([.ref wk, .ref tt]) (n := 3) (Nat.le_of_ble_eq_true rfl)
  rw [lg_entry_eq]
  generalize (lg_sl ([.ref wk, .ref tt]) ++ List.replicate (3 - (lg_sl ([.ref wk, .ref tt])).length) Slot.unset).toArray = ls at hl ⊢
  have hl : lv_has ls 3 [(0, .ref wk), (1, .ref tt)] := hl
  refine lv_aload_n hx hb dX6_lineUpWhatHasMet_0 rfl (lv_at hl 0 rfl) ?_
  refine lv_iconst (v := 0) hx hb dX6_lineUpWhatHasMet_1 (by decide) ?_
  refine va_put (D := (dC, dI)) (ci := 4) (v := .int 0) (ty := .int) (C := RX6) (T := TX6) (N := 20) hx hb hts hnX6_lineUpWhatHasMet_X6 tyX6 tyX6_ok nmX6 hown hK hP hD hS 0 rfl rfl 16 (by decide) (hts (.fieldLink RX6 141 "RingMeets$Walks" "lineSize" "I") (by decide +kernel)) (fun _ h9 => h9) rfl (by decide +kernel) rfl rfl (Nat.le_of_ble_eq_true rfl) dX6_lineUpWhatHasMet_2 (fun H locs hP hD hS => ?_)
  have hP : va_P (dC, dI) vwCl [(wk, .inr (4, [.ref mo, .ref wy, .ref nw, .ref ol, .ref lt, .ref es, .ref sf, .ref sl, .ref so, .ref la, .ref li, .ref ru, .int 8, .int sc, .int (nI z), .int d15, .int 0, .int d17, .int d18, .int 0])), (wy, .inl (cyI, 1957, .inl wf)), (tt, .inl (cyI, 1957, .inl ft)), (li, .inl (cyI, 1957, .inl fl))] _ := hP
  have hD : va_D A [(wk, .inr (4, [.ref mo, .ref wy, .ref nw, .ref ol, .ref lt, .ref es, .ref sf, .ref sl, .ref so, .ref la, .ref li, .ref ru, .int 8, .int sc, .int (nI z), .int d15, .int 0, .int d17, .int d18, .int 0])), (wy, .inl (cyI, 1957, .inl wf)), (tt, .inl (cyI, 1957, .inl ft)), (li, .inl (cyI, 1957, .inl fl))] := hD
  refine lv_iconst (v := 0) hx hb dX6_lineUpWhatHasMet_5 (by decide) ?_
  refine lv_istore_n (lv' := [(2, .int 0), (0, .ref wk), (1, .ref tt)]) hx hb dX6_lineUpWhatHasMet_6 rfl hl (by decide) rfl (fun ls hl => ?_)
  have L7 : ∀ (n7 : Nat), ∀ (k : Nat) (qn : Nat) (ft fl : Nat → Int32), (k ≤ z) → (z + 1 ≤ k + n7) → (qn ≤ k) → (∀ i, i < k → ft i = sp_tk nn) → ∀ (H : Heap) (locs : List Loc), va_P (dC, dI) vwCl [(wk, .inr (4, [.ref mo, .ref wy, .ref nw, .ref ol, .ref lt, .ref es, .ref sf, .ref sl, .ref so, .ref la, .ref li, .ref ru, .int 8, .int sc, .int (nI z), .int d15, .int (nI qn), .int d17, .int d18, .int 0])), (wy, .inl (cyI, 1957, .inl wf)), (tt, .inl (cyI, 1957, .inl ft)), (li, .inl (cyI, 1957, .inl fl))] H → va_D A [(wk, .inr (4, [.ref mo, .ref wy, .ref nw, .ref ol, .ref lt, .ref es, .ref sf, .ref sl, .ref so, .ref la, .ref li, .ref ru, .int 8, .int sc, .int (nI z), .int d15, .int (nI qn), .int d17, .int d18, .int 0])), (wy, .inl (cyI, 1957, .inl wf)), (tt, .inl (cyI, 1957, .inl ft)), (li, .inl (cyI, 1957, .inl fl))] → va_S A s.heap H locs → ∀ (ls : Array Slot), lv_has ls 3 [(0, .ref wk), (1, .ref tt), (2, .int (nI k))] → W p l e (headSpec wsX6_lineUpWhatHasMet ({ frames := 2, cells := 0, slots := 0, locals := 44 })).room s m ([.ref wk, .ref tt] : List Value).toArray below meth c H locs 0 0 (MQ below (va_Qv (S := Nat × (Nat → Int32) × (Nat → Int32)) (fun q : Nat × (Nat → Int32) × (Nat → Int32) => q.1 ≤ 256 ∧ ∀ i, i < z → q.2.1 i = sp_tk nn) (fun q t => bs_E dC dI A [(wk, .inr (4, [.ref mo, .ref wy, .ref nw, .ref ol, .ref lt, .ref es, .ref sf, .ref sl, .ref so, .ref la, .ref li, .ref ru, .int 8, .int sc, .int (nI z), .int d15, .int (nI q.1), .int d17, .int d18, .int 0])), (wy, .inl (cyI, 1957, .inl wf)), (tt, .inl (cyI, 1957, .inl q.2.1)), (li, .inl (cyI, 1957, .inl q.2.2))] t) A) ([.ref wk, .ref tt] : List Value).toArray s 0 0 A) (F0 m 7 ls []) := by
    intro n7
    induction n7 with
    | zero =>
      intro k qn ft fl hk7 hn7 hq9 hft H locs hP hD hS ls hl
      exfalso
      omega
    | succ n7 ih7 =>
      intro k qn ft fl hk7 hn7 hq9 hft H locs hP hD hS ls hl
      refine lv_iload_n hx hb dX6_lineUpWhatHasMet_7 rfl (lv_at hl 2 rfl) ?_
      refine lv_aload_n hx hb dX6_lineUpWhatHasMet_8 rfl (lv_at hl 0 rfl) ?_
      refine va_get (D := (dC, dI)) (ci := 4) (v := .int (nI z)) (C := RX6) (T := TX6) (N := 20) hx hb hts hnX6_lineUpWhatHasMet_X6 hown hK hP 0 rfl rfl 14 (by decide) (hts (.fieldLink RX6 64 "RingMeets$Walks" "size" "I") (by decide +kernel)) (fun _ h9 => h9) rfl dX6_lineUpWhatHasMet_9 ?_
      refine lv_icmp_ge (tgt := 48) hx hb dX6_lineUpWhatHasMet_12 (by decide) (fun c_1 => ?_) (fun c_1 => ?_)
      · skip
        have ic_1 := ci_le (nI_toInt (n := z) (by omega)) (nI_toInt (n := k) (by omega)) c_1
        exact W.vret hx hb hr (fun t ht hW => ⟨⟨(qn, ft, fl), rfl, ⟨by omega, fun i hi => hft i (by omega)⟩, ⟨by rw [ht]; exact hP.sub (ws' := [(wk, .inr (4, [.ref mo, .ref wy, .ref nw, .ref ol, .ref lt, .ref es, .ref sf, .ref sl, .ref so, .ref la, .ref li, .ref ru, .int 8, .int sc, .int (nI z), .int d15, .int (nI qn), .int d17, .int d18, .int 0])), (wy, .inl (cyI, 1957, .inl wf)), (tt, .inl (cyI, 1957, .inl ft)), (li, .inl (cyI, 1957, .inl fl))]) [0, 1, 2, 3] rfl, hD.sub (ws' := [(wk, .inr (4, [.ref mo, .ref wy, .ref nw, .ref ol, .ref lt, .ref es, .ref sf, .ref sl, .ref so, .ref la, .ref li, .ref ru, .int 8, .int sc, .int (nI z), .int d15, .int (nI qn), .int d17, .int d18, .int 0])), (wy, .inl (cyI, 1957, .inl wf)), (tt, .inl (cyI, 1957, .inl ft)), (li, .inl (cyI, 1957, .inl fl))]) [0, 1, 2, 3] (by decide) rfl⟩⟩, hS.F ht⟩) hS.2.2 dX6_lineUpWhatHasMet_48
      · skip
        have ic_1 := ci_nle (nI_toInt (n := z) (by omega)) (nI_toInt (n := k) (by omega)) c_1
        refine lv_iload_n hx hb dX6_lineUpWhatHasMet_15 rfl (lv_at hl 2 rfl) ?_
        refine lv_sipush (v := 1957) hx hb dX6_lineUpWhatHasMet_16 (by decide) ?_
        refine lv_icmp_ge (tgt := 48) hx hb dX6_lineUpWhatHasMet_19 (by decide) (fun c_2 => ?_) (fun c_2 => ?_)
        · skip
          have ic_2 := ci_le (show Int32.toInt 1957 = 1957 by decide) (nI_toInt (n := k) (by omega)) c_2
          exfalso; omega
        · skip
          have ic_2 := ci_nle (show Int32.toInt 1957 = 1957 by decide) (nI_toInt (n := k) (by omega)) c_2
          refine lv_aload_n hx hb dX6_lineUpWhatHasMet_22 rfl (lv_at hl 1 rfl) ?_
          refine lv_iload_n hx hb dX6_lineUpWhatHasMet_23 rfl (lv_at hl 2 rfl) ?_
          refine lv_bipush (v := (-6)) hx hb dX6_lineUpWhatHasMet_24 (by decide) ?_
          refine va_iast (D := (dC, dI)) hx hb hK hP hD hS 2 0 rfl rfl (vp_in_nI (n := k) (N := 1957) (by omega) (by omega)) dX6_lineUpWhatHasMet_26 (fun H locs hP hD hS => ?_)
          obtain ⟨g_3, eg_3⟩ : ∃ y : Nat → Int32, y = upd ft (Int32.toNatClampNeg (nI k)) (-6) := ⟨_, rfl⟩
          have hP : va_P (dC, dI) vwCl [(wk, .inr (4, [.ref mo, .ref wy, .ref nw, .ref ol, .ref lt, .ref es, .ref sf, .ref sl, .ref so, .ref la, .ref li, .ref ru, .int 8, .int sc, .int (nI z), .int d15, .int (nI qn), .int d17, .int d18, .int 0])), (wy, .inl (cyI, 1957, .inl wf)), (tt, .inl (cyI, 1957, .inl g_3)), (li, .inl (cyI, 1957, .inl fl))] H := by rw [eg_3]; exact hP
          have hD : va_D A [(wk, .inr (4, [.ref mo, .ref wy, .ref nw, .ref ol, .ref lt, .ref es, .ref sf, .ref sl, .ref so, .ref la, .ref li, .ref ru, .int 8, .int sc, .int (nI z), .int d15, .int (nI qn), .int d17, .int d18, .int 0])), (wy, .inl (cyI, 1957, .inl wf)), (tt, .inl (cyI, 1957, .inl g_3)), (li, .inl (cyI, 1957, .inl fl))] := by rw [eg_3]; exact hD
          rw [nI_clamp (n := k) (by omega)] at eg_3
          refine lv_aload_n hx hb dX6_lineUpWhatHasMet_27 rfl (lv_at hl 0 rfl) ?_
          refine lv_iload_n hx hb dX6_lineUpWhatHasMet_28 rfl (lv_at hl 2 rfl) ?_
          refine vp_callSi (va_Run.run (va_runV (As := [.int (nI k)]) (rest := []) ⟨hx, hb, hml, hown, hts⟩ (kX6_hasMet l dC dI cyI cyZ wk mo wy nw ol lt es sf sl so la li ru sc d15 (nI qn) d17 d18 z hz nn wf hw k (by omega)) (cwV 1 hts gX6_lineUpWhatHasMet_X6_hasMet rfl rfl rfl (by decide +kernel) ⟨Nat.le_of_ble_eq_true rfl, Nat.le_of_ble_eq_true rfl⟩) (bs_RV hB (hP.sub (ws' := [(wk, .inr (4, [.ref mo, .ref wy, .ref nw, .ref ol, .ref lt, .ref es, .ref sf, .ref sl, .ref so, .ref la, .ref li, .ref ru, .int 8, .int sc, .int (nI z), .int d15, .int (nI qn), .int d17, .int d18, .int 0])), (wy, .inl (cyI, 1957, .inl wf))]) [0, 1] rfl) 0 rfl rfl) rfl rfl hl.1 rfl (lv_room (Nat.le_of_ble_eq_true rfl)) dX6_lineUpWhatHasMet_29 ⟨Nat.le_of_ble_eq_true rfl, Nat.le_of_ble_eq_true rfl⟩)) (fun r_4 hr_4 => ?_)
          refine lv_if_eq (tgt := 42) hx hb dX6_lineUpWhatHasMet_32 (by decide) (fun c_5 => ?_) (fun c_5 => ?_)
          · skip
            have ic_5 := ci_eq (rfl : Int32.toInt r_4 = _) (show Int32.toInt 0 = 0 by decide) c_5
            have hn1 : ¬ nn = 1 := fun q => absurd c_5 (by rw [hr_4, if_pos q]; decide)
            refine lv_iinc (v := (nI (k + 1))) (lv' := [(2, .int (nI (k + 1))), (0, .ref wk), (1, .ref tt)]) hx hb dX6_lineUpWhatHasMet_42 hl (k := 2) rfl (nI_1 _) (by decide) rfl (fun ls hl => ?_)
            refine lv_goto (tgt := 7) hx hb dX6_lineUpWhatHasMet_45 (by decide) ?_
            exact ih7 (k + 1) qn g_3 fl (by omega) (by omega) (by omega) (fun i hi => by rw [eg_3]; unfold upd; split; (unfold sp_tk; rw [if_neg hn1]); exact hft i (by omega)) _ _ (hP.sub [0, 1, 2, 3] rfl) (hD.sub [0, 1, 2, 3] (by decide) rfl) hS _ (lv_sub hl [1, 2, 0] rfl)
          · skip
            have ic_5 := ci_ne (rfl : Int32.toInt r_4 = _) (show Int32.toInt 0 = 0 by decide) c_5
            have hn1 : nn = 1 := by by_cases q : nn = 1; exact q; exact absurd (by rw [hr_4, if_neg q]) c_5
            refine lv_aload_n hx hb dX6_lineUpWhatHasMet_35 rfl (lv_at hl 0 rfl) ?_
            refine lv_aload_n hx hb dX6_lineUpWhatHasMet_36 rfl (lv_at hl 1 rfl) ?_
            refine lv_iload_n hx hb dX6_lineUpWhatHasMet_37 rfl (lv_at hl 2 rfl) ?_
            refine lv_iconst (v := 0) hx hb dX6_lineUpWhatHasMet_38 (by decide) ?_
            have f_6 := va_free (wc := [(wk, .inr (4, [.ref mo, .ref wy, .ref nw, .ref ol, .ref lt, .ref es, .ref sf, .ref sl, .ref so, .ref la, .ref li, .ref ru, .int 8, .int sc, .int (nI z), .int d15, .int (nI qn), .int d17, .int d18, .int 0])), (tt, .inl (cyI, 1957, .inl g_3)), (li, .inl (cyI, 1957, .inl fl))]) hD hS hA [0, 2, 3] rfl
            refine va_callv (va_runV (As := [.ref tt, .int (nI k), .int 0]) (rest := []) ⟨hx, hb, hml, hown, hts⟩ (kX6_lineUp l dC dI cyI cyZ wk mo wy nw ol lt es sf sl so la li ru tt sc d15 d17 d18 z hz qn (by omega) g_3 fl k (by omega) _) (cwV 3 hts gX6_lineUpWhatHasMet_X6_lineUp rfl rfl rfl (by decide +kernel) ⟨Nat.le_of_ble_eq_true rfl, Nat.le_of_ble_eq_true rfl⟩) (bs_WV hB (hP.sub (ws' := [(wk, .inr (4, [.ref mo, .ref wy, .ref nw, .ref ol, .ref lt, .ref es, .ref sf, .ref sl, .ref so, .ref la, .ref li, .ref ru, .int 8, .int sc, .int (nI z), .int d15, .int (nI qn), .int d17, .int d18, .int 0])), (tt, .inl (cyI, 1957, .inl g_3)), (li, .inl (cyI, 1957, .inl fl))]) [0, 2, 3] rfl) (hD.sub (ws' := [(wk, .inr (4, [.ref mo, .ref wy, .ref nw, .ref ol, .ref lt, .ref es, .ref sf, .ref sl, .ref so, .ref la, .ref li, .ref ru, .int 8, .int sc, .int (nI z), .int d15, .int (nI qn), .int d17, .int d18, .int 0])), (tt, .inl (cyI, 1957, .inl g_3)), (li, .inl (cyI, 1957, .inl fl))]) [0, 2, 3] (by decide) rfl) 0 rfl rfl) rfl rfl hl.1 rfl (lv_room (Nat.le_of_ble_eq_true rfl)) dX6_lineUpWhatHasMet_39 ⟨Nat.le_of_ble_eq_true rfl, Nat.le_of_ble_eq_true rfl⟩) hS (fun q _ h => f_6 q h) f_6 (fun uh_7 t H1 locs ht hvm h_7 hB1 hz1 hk1 hS => ?_)
            obtain ⟨g_8, g_9⟩ := uh_7
            obtain ⟨hP1, hD1⟩ := hB1
            rw [ht] at hP1
            obtain ⟨hP, hD⟩ := va_join (wr := [(wy, .inl (cyI, 1957, .inl wf))]) (w1 := [(wk, .inr (4, [.ref mo, .ref wy, .ref nw, .ref ol, .ref lt, .ref es, .ref sf, .ref sl, .ref so, .ref la, .ref li, .ref ru, .int 8, .int sc, .int (nI z), .int d15, .int (nI (qn + 1)), .int d17, .int d18, .int 0])), (tt, .inl (cyI, 1957, .inl g_8)), (li, .inl (cyI, 1957, .inl g_9))]) hP hD [0, 2, 3] [1] rfl rfl (by decide) (by decide) hk1 f_6 hP1 hD1
            generalize H1 = H at hP hS ⊢
            have hP : va_P (dC, dI) vwCl [(wy, .inl (cyI, 1957, .inl wf)), (wk, .inr (4, [.ref mo, .ref wy, .ref nw, .ref ol, .ref lt, .ref es, .ref sf, .ref sl, .ref so, .ref la, .ref li, .ref ru, .int 8, .int sc, .int (nI z), .int d15, .int (nI (qn + 1)), .int d17, .int d18, .int 0])), (tt, .inl (cyI, 1957, .inl g_8)), (li, .inl (cyI, 1957, .inl g_9))] _ := hP
            have hD : va_D A [(wy, .inl (cyI, 1957, .inl wf)), (wk, .inr (4, [.ref mo, .ref wy, .ref nw, .ref ol, .ref lt, .ref es, .ref sf, .ref sl, .ref so, .ref la, .ref li, .ref ru, .int 8, .int sc, .int (nI z), .int d15, .int (nI (qn + 1)), .int d17, .int d18, .int 0])), (tt, .inl (cyI, 1957, .inl g_8)), (li, .inl (cyI, 1957, .inl g_9))] := hD
            refine lv_iinc (v := (nI (k + 1))) (lv' := [(2, .int (nI (k + 1))), (0, .ref wk), (1, .ref tt)]) hx hb dX6_lineUpWhatHasMet_42 hl (k := 2) rfl (nI_1 _) (by decide) rfl (fun ls hl => ?_)
            refine lv_goto (tgt := 7) hx hb dX6_lineUpWhatHasMet_45 (by decide) ?_
            exact ih7 (k + 1) (qn + 1) g_8 g_9 (by omega) (by omega) (by omega) (fun i hi => by rw [show g_8 = _ from h_7]; unfold upd; split; (unfold sp_tk; rw [if_pos hn1]); (rw [eg_3]; unfold upd; split; (exfalso; omega); exact hft i (by omega))) _ _ (hP.sub [1, 0, 2, 3] rfl) (hD.sub [1, 0, 2, 3] (by decide) rfl) hS _ (lv_sub hl [1, 2, 0] rfl)
  exact L7 (z + 1) 0 0 ft fl (by omega) (by omega) (by omega) (fun i hi => by omega) _ _ (hP.sub [0, 1, 2, 3] rfl) (hD.sub [0, 1, 2, 3] (by decide) rfl) hS _ (lv_sub hl [1, 2, 0] rfl)

theorem hnX6_tellBackwards_X6 : ∀ w ∈ wsX60, w ∈ wsX6_tellBackwards := fun _ h => List.mem_cons_of_mem _ (List.mem_append_right _ h)
set_option maxHeartbeats 4000000 in
set_option maxRecDepth 100000 in
theorem kX6_tellBackwards (l : Launch) (dC : Nat → ClassId) (dI : Nat → Nat → Nat) (cyI cyZ : ClassId) (wk mo wy nw ol lt es sf sl so la li ru : Nat) (tt : Nat) (sc d16 d17 d18 : Int32) (z : Nat) (hz : z ≤ 256) (nn : Int32) (wf : Nat → Int32) (hw : ∀ i, i < z → ∃ x, x < 256 ∧ nb_bc (nI x) = nn ∧ wf i = nI x) (ft fl lf : Nat → Int32) (p2 : Int32) (sz : Nat) : Met l yX6_tellBackwards wsX6_tellBackwards ({ frames := 3, cells := 0, slots := 0, locals := 66 }) (bs_W dC dI cyI cyZ [.ref wk, .ref tt, .int p2] [(wk, .inr (4, [.ref mo, .ref wy, .ref nw, .ref ol, .ref lt, .ref es, .ref sf, .ref sl, .ref so, .ref la, .ref li, .ref ru, .int 8, .int sc, .int (nI z), .int 0, .int d16, .int d17, .int d18, .int 0])), (wy, .inl (cyI, 1957, .inl wf)), (tt, .inl (cyI, 1957, .inl ft)), (li, .inl (cyI, 1957, .inl fl)), (lt, .inl (cyI, 1957, .inl lf))] sz) (va_Qv (S := Nat × (Nat → Int32) × (Nat → Int32)) (fun q : Nat × (Nat → Int32) × (Nat → Int32) => ∀ i, i < z → q.2.1 i = sp_tk nn) (fun q t => bs_E dC dI (va_A [(wk, .inr (4, [.ref mo, .ref wy, .ref nw, .ref ol, .ref lt, .ref es, .ref sf, .ref sl, .ref so, .ref la, .ref li, .ref ru, .int 8, .int sc, .int (nI z), .int 0, .int d16, .int d17, .int d18, .int 0])), (wy, .inl (cyI, 1957, .inl wf)), (tt, .inl (cyI, 1957, .inl ft)), (li, .inl (cyI, 1957, .inl fl)), (lt, .inl (cyI, 1957, .inl lf))] sz) [(wk, .inr (4, [.ref mo, .ref wy, .ref nw, .ref ol, .ref lt, .ref es, .ref sf, .ref sl, .ref so, .ref la, .ref li, .ref ru, .int 8, .int sc, .int (nI z), .int 0, .int (nI q.1), .int d17, .int d18, .int 0])), (wy, .inl (cyI, 1957, .inl wf)), (tt, .inl (cyI, 1957, .inl q.2.1)), (li, .inl (cyI, 1957, .inl q.2.2)), (lt, .inl (cyI, 1957, .inl lf))] t) (va_A [(wk, .inr (4, [.ref mo, .ref wy, .ref nw, .ref ol, .ref lt, .ref es, .ref sf, .ref sl, .ref so, .ref la, .ref li, .ref ru, .int 8, .int sc, .int (nI z), .int 0, .int d16, .int d17, .int d18, .int 0])), (wy, .inl (cyI, 1957, .inl wf)), (tt, .inl (cyI, 1957, .inl ft)), (li, .inl (cyI, 1957, .inl fl)), (lt, .inl (cyI, 1957, .inl lf))] sz)) 0 0 (va_A [(wk, .inr (4, [.ref mo, .ref wy, .ref nw, .ref ol, .ref lt, .ref es, .ref sf, .ref sl, .ref so, .ref la, .ref li, .ref ru, .int 8, .int sc, .int (nI z), .int 0, .int d16, .int d17, .int d18, .int 0])), (wy, .inl (cyI, 1957, .inl wf)), (tt, .inl (cyI, 1957, .inl ft)), (li, .inl (cyI, 1957, .inl fl)), (lt, .inl (cyI, 1957, .inl lf))] sz) := by
  refine Met.ofW (cc := cX6_tellBackwards) (maxL := 8) (ret := none) (by decide) rfl ?_
  intro p e s m args below meth c s₁ B hml hv
  obtain ⟨rfl, hsz, hB, hP, hD0⟩ := hv
  have hK := hB.1
  have hN := hB.2
  have hx := B.exec
  have hb := B.bytes
  have hr := B.returns
  have hts := atoms_spec (ws := wsX6_tellBackwards) B.pre
  have hown : s.vm.findClass RX6 = some m.cls := findClass_of_methodNamed B.named
  have hlocks := B.notSynchronized
  subst hsz
  have hD := hD0.self (sz := s.heap.size)
  generalize hAe : va_A [(wk, .inr (4, [.ref mo, .ref wy, .ref nw, .ref ol, .ref lt, .ref es, .ref sf, .ref sl, .ref so, .ref la, .ref li, .ref ru, .int 8, .int sc, .int (nI z), .int 0, .int d16, .int d17, .int d18, .int 0])), (wy, .inl (cyI, 1957, .inl wf)), (tt, .inl (cyI, 1957, .inl ft)), (li, .inl (cyI, 1957, .inl fl)), (lt, .inl (cyI, 1957, .inl lf))] s.heap.size = A at hD ⊢
  have hA : ∀ q : Nat, s.heap.size ≤ q → A q := fun q h => by rw [← hAe]; exact Or.inr h
  have hS : va_S A s.heap s.heap [] := va_S.rf
  have hP : va_P (dC, dI) vwCl [(wk, .inr (4, [.ref mo, .ref wy, .ref nw, .ref ol, .ref lt, .ref es, .ref sf, .ref sl, .ref so, .ref la, .ref li, .ref ru, .int 8, .int sc, .int (nI z), .int 0, .int d16, .int d17, .int d18, .int 0])), (wy, .inl (cyI, 1957, .inl wf)), (tt, .inl (cyI, 1957, .inl ft)), (li, .inl (cyI, 1957, .inl fl)), (lt, .inl (cyI, 1957, .inl lf))] s.heap := hP
  have hl := lv_entry ([.ref wk, .ref tt, .int p2]) (n := 8) (Nat.le_of_ble_eq_true rfl)
  rw [lg_entry_eq]
  generalize (lg_sl ([.ref wk, .ref tt, .int p2]) ++ List.replicate (8 - (lg_sl ([.ref wk, .ref tt, .int p2])).length) Slot.unset).toArray = ls at hl ⊢
  have hl : lv_has ls 8 [(0, .ref wk), (1, .ref tt), (2, .int p2)] := hl
  refine lv_aload_n hx hb dX6_tellBackwards_0 rfl (lv_at hl 0 rfl) ?_
  refine lv_aload_n hx hb dX6_tellBackwards_1 rfl (lv_at hl 1 rfl) ?_
  have f_1 := va_free (wc := [(wk, .inr (4, [.ref mo, .ref wy, .ref nw, .ref ol, .ref lt, .ref es, .ref sf, .ref sl, .ref so, .ref la, .ref li, .ref ru, .int 8, .int sc, .int (nI z), .int 0, .int d16, .int d17, .int d18, .int 0])), (wy, .inl (cyI, 1957, .inl wf)), (tt, .inl (cyI, 1957, .inl ft)), (li, .inl (cyI, 1957, .inl fl))]) hD hS hA [0, 1, 2, 3] rfl
  refine va_callv (va_runV (As := [.ref tt]) (rest := []) ⟨hx, hb, hml, hown, hts⟩ (kX6_lineUpWhatHasMet l dC dI cyI cyZ wk mo wy nw ol lt es sf sl so la li ru tt sc 0 d16 d17 d18 z hz nn wf hw ft fl _) (cwV 1 hts gX6_tellBackwards_X6_lineUpWhatHasMet rfl rfl rfl (by decide +kernel) ⟨Nat.le_of_ble_eq_true rfl, Nat.le_of_ble_eq_true rfl⟩) (bs_WV hB (hP.sub (ws' := [(wk, .inr (4, [.ref mo, .ref wy, .ref nw, .ref ol, .ref lt, .ref es, .ref sf, .ref sl, .ref so, .ref la, .ref li, .ref ru, .int 8, .int sc, .int (nI z), .int 0, .int d16, .int d17, .int d18, .int 0])), (wy, .inl (cyI, 1957, .inl wf)), (tt, .inl (cyI, 1957, .inl ft)), (li, .inl (cyI, 1957, .inl fl))]) [0, 1, 2, 3] rfl) (hD.sub (ws' := [(wk, .inr (4, [.ref mo, .ref wy, .ref nw, .ref ol, .ref lt, .ref es, .ref sf, .ref sl, .ref so, .ref la, .ref li, .ref ru, .int 8, .int sc, .int (nI z), .int 0, .int d16, .int d17, .int d18, .int 0])), (wy, .inl (cyI, 1957, .inl wf)), (tt, .inl (cyI, 1957, .inl ft)), (li, .inl (cyI, 1957, .inl fl))]) [0, 1, 2, 3] (by decide) rfl) 0 rfl rfl) rfl rfl hl.1 rfl (lv_room (Nat.le_of_ble_eq_true rfl)) dX6_tellBackwards_2 ⟨Nat.le_of_ble_eq_true rfl, Nat.le_of_ble_eq_true rfl⟩) hS (fun q _ h => f_1 q h) f_1 (fun uh_2 t H1 locs ht hvm h_2 hB1 hz1 hk1 hS => ?_)
  obtain ⟨v_3, g_4, g_5⟩ := uh_2
  obtain ⟨hP1, hD1⟩ := hB1
  rw [ht] at hP1
  obtain ⟨hP, hD⟩ := va_join (wr := [(lt, .inl (cyI, 1957, .inl lf))]) (w1 := [(wk, .inr (4, [.ref mo, .ref wy, .ref nw, .ref ol, .ref lt, .ref es, .ref sf, .ref sl, .ref so, .ref la, .ref li, .ref ru, .int 8, .int sc, .int (nI z), .int 0, .int (nI v_3), .int d17, .int d18, .int 0])), (wy, .inl (cyI, 1957, .inl wf)), (tt, .inl (cyI, 1957, .inl g_4)), (li, .inl (cyI, 1957, .inl g_5))]) hP hD [0, 1, 2, 3] [4] rfl rfl (by decide) (by decide) hk1 f_1 hP1 hD1
  generalize H1 = H at hP hS ⊢
  have hP : va_P (dC, dI) vwCl [(lt, .inl (cyI, 1957, .inl lf)), (wk, .inr (4, [.ref mo, .ref wy, .ref nw, .ref ol, .ref lt, .ref es, .ref sf, .ref sl, .ref so, .ref la, .ref li, .ref ru, .int 8, .int sc, .int (nI z), .int 0, .int (nI v_3), .int d17, .int d18, .int 0])), (wy, .inl (cyI, 1957, .inl wf)), (tt, .inl (cyI, 1957, .inl g_4)), (li, .inl (cyI, 1957, .inl g_5))] _ := hP
  have hD : va_D A [(lt, .inl (cyI, 1957, .inl lf)), (wk, .inr (4, [.ref mo, .ref wy, .ref nw, .ref ol, .ref lt, .ref es, .ref sf, .ref sl, .ref so, .ref la, .ref li, .ref ru, .int 8, .int sc, .int (nI z), .int 0, .int (nI v_3), .int d17, .int d18, .int 0])), (wy, .inl (cyI, 1957, .inl wf)), (tt, .inl (cyI, 1957, .inl g_4)), (li, .inl (cyI, 1957, .inl g_5))] := hD
  refine lv_iconst (v := 0) hx hb dX6_tellBackwards_5 (by decide) ?_
  refine lv_istore_n (lv' := [(3, .int 0), (0, .ref wk), (1, .ref tt), (2, .int p2)]) hx hb dX6_tellBackwards_6 rfl hl (by decide) rfl (fun ls hl => ?_)
  have L7 : ∀ (n7 : Nat), ∀ (k : Nat), (0 ≤ k ∧ k ≤ 1957) → (1958 ≤ k + n7) → ∀ (H : Heap) (locs : List Loc), va_P (dC, dI) vwCl [(lt, .inl (cyI, 1957, .inl lf)), (wk, .inr (4, [.ref mo, .ref wy, .ref nw, .ref ol, .ref lt, .ref es, .ref sf, .ref sl, .ref so, .ref la, .ref li, .ref ru, .int 8, .int sc, .int (nI z), .int 0, .int (nI v_3), .int d17, .int d18, .int 0])), (wy, .inl (cyI, 1957, .inl wf)), (tt, .inl (cyI, 1957, .inl g_4)), (li, .inl (cyI, 1957, .inl g_5))] H → va_D A [(lt, .inl (cyI, 1957, .inl lf)), (wk, .inr (4, [.ref mo, .ref wy, .ref nw, .ref ol, .ref lt, .ref es, .ref sf, .ref sl, .ref so, .ref la, .ref li, .ref ru, .int 8, .int sc, .int (nI z), .int 0, .int (nI v_3), .int d17, .int d18, .int 0])), (wy, .inl (cyI, 1957, .inl wf)), (tt, .inl (cyI, 1957, .inl g_4)), (li, .inl (cyI, 1957, .inl g_5))] → va_S A s.heap H locs → ∀ (ls : Array Slot), lv_has ls 8 [(0, .ref wk), (1, .ref tt), (2, .int p2), (3, .int (nI k))] → W p l e (headSpec wsX6_tellBackwards ({ frames := 3, cells := 0, slots := 0, locals := 66 })).room s m ([.ref wk, .ref tt, .int p2] : List Value).toArray below meth c H locs 0 0 (MQ below (va_Qv (S := Nat × (Nat → Int32) × (Nat → Int32)) (fun q : Nat × (Nat → Int32) × (Nat → Int32) => ∀ i, i < z → q.2.1 i = sp_tk nn) (fun q t => bs_E dC dI A [(wk, .inr (4, [.ref mo, .ref wy, .ref nw, .ref ol, .ref lt, .ref es, .ref sf, .ref sl, .ref so, .ref la, .ref li, .ref ru, .int 8, .int sc, .int (nI z), .int 0, .int (nI q.1), .int d17, .int d18, .int 0])), (wy, .inl (cyI, 1957, .inl wf)), (tt, .inl (cyI, 1957, .inl q.2.1)), (li, .inl (cyI, 1957, .inl q.2.2)), (lt, .inl (cyI, 1957, .inl lf))] t) A) ([.ref wk, .ref tt, .int p2] : List Value).toArray s 0 0 A) (F0 m 7 ls []) := by
    intro n7
    induction n7 with
    | zero =>
      intro k hk7 hn7 H locs hP hD hS ls hl
      exfalso
      omega
    | succ n7 ih7 =>
      intro k hk7 hn7 H locs hP hD hS ls hl
      refine lv_iload_n hx hb dX6_tellBackwards_7 rfl (lv_at hl 3 rfl) ?_
      refine lv_aload_n hx hb dX6_tellBackwards_8 rfl (lv_at hl 0 rfl) ?_
      refine va_get (D := (dC, dI)) (ci := 4) (v := .int (nI v_3)) (C := RX6) (T := TX6) (N := 20) hx hb hts hnX6_tellBackwards_X6 hown hK hP 1 rfl rfl 16 (by decide) (hts (.fieldLink RX6 141 "RingMeets$Walks" "lineSize" "I") (by decide +kernel)) (fun _ h9 => h9) rfl dX6_tellBackwards_9 ?_
      refine lv_icmp_ge (tgt := 150) hx hb dX6_tellBackwards_12 (by decide) (fun c_6 => ?_) (fun c_6 => ?_)
      · skip
        have ic_6 := ci_le (nI_toInt (n := v_3) (by omega)) (nI_toInt (n := k) (by omega)) c_6
        exact W.vret hx hb hr (fun t ht hW => ⟨⟨(v_3, g_4, g_5), rfl, h_2.2, ⟨by rw [ht]; exact hP.sub (ws' := [(wk, .inr (4, [.ref mo, .ref wy, .ref nw, .ref ol, .ref lt, .ref es, .ref sf, .ref sl, .ref so, .ref la, .ref li, .ref ru, .int 8, .int sc, .int (nI z), .int 0, .int (nI v_3), .int d17, .int d18, .int 0])), (wy, .inl (cyI, 1957, .inl wf)), (tt, .inl (cyI, 1957, .inl g_4)), (li, .inl (cyI, 1957, .inl g_5)), (lt, .inl (cyI, 1957, .inl lf))]) [1, 2, 3, 4, 0] rfl, hD.sub (ws' := [(wk, .inr (4, [.ref mo, .ref wy, .ref nw, .ref ol, .ref lt, .ref es, .ref sf, .ref sl, .ref so, .ref la, .ref li, .ref ru, .int 8, .int sc, .int (nI z), .int 0, .int (nI v_3), .int d17, .int d18, .int 0])), (wy, .inl (cyI, 1957, .inl wf)), (tt, .inl (cyI, 1957, .inl g_4)), (li, .inl (cyI, 1957, .inl g_5)), (lt, .inl (cyI, 1957, .inl lf))]) [1, 2, 3, 4, 0] (by decide) rfl⟩⟩, hS.F ht⟩) hS.2.2 dX6_tellBackwards_150
      · skip
        have ic_6 := ci_nle (nI_toInt (n := v_3) (by omega)) (nI_toInt (n := k) (by omega)) c_6
        refine lv_iload_n hx hb dX6_tellBackwards_15 rfl (lv_at hl 3 rfl) ?_
        refine lv_sipush (v := 1957) hx hb dX6_tellBackwards_16 (by decide) ?_
        refine lv_icmp_ge (tgt := 150) hx hb dX6_tellBackwards_19 (by decide) (fun c_7 => ?_) (fun c_7 => ?_)
        · skip
          have ic_7 := ci_le (show Int32.toInt 1957 = 1957 by decide) (nI_toInt (n := k) (by omega)) c_7
          exact W.vret hx hb hr (fun t ht hW => ⟨⟨(v_3, g_4, g_5), rfl, h_2.2, ⟨by rw [ht]; exact hP.sub (ws' := [(wk, .inr (4, [.ref mo, .ref wy, .ref nw, .ref ol, .ref lt, .ref es, .ref sf, .ref sl, .ref so, .ref la, .ref li, .ref ru, .int 8, .int sc, .int (nI z), .int 0, .int (nI v_3), .int d17, .int d18, .int 0])), (wy, .inl (cyI, 1957, .inl wf)), (tt, .inl (cyI, 1957, .inl g_4)), (li, .inl (cyI, 1957, .inl g_5)), (lt, .inl (cyI, 1957, .inl lf))]) [1, 2, 3, 4, 0] rfl, hD.sub (ws' := [(wk, .inr (4, [.ref mo, .ref wy, .ref nw, .ref ol, .ref lt, .ref es, .ref sf, .ref sl, .ref so, .ref la, .ref li, .ref ru, .int 8, .int sc, .int (nI z), .int 0, .int (nI v_3), .int d17, .int d18, .int 0])), (wy, .inl (cyI, 1957, .inl wf)), (tt, .inl (cyI, 1957, .inl g_4)), (li, .inl (cyI, 1957, .inl g_5)), (lt, .inl (cyI, 1957, .inl lf))]) [1, 2, 3, 4, 0] (by decide) rfl⟩⟩, hS.F ht⟩) hS.2.2 dX6_tellBackwards_150
        · skip
          have ic_7 := ci_nle (show Int32.toInt 1957 = 1957 by decide) (nI_toInt (n := k) (by omega)) c_7
          refine lv_aload_n hx hb dX6_tellBackwards_22 rfl (lv_at hl 0 rfl) ?_
          refine va_get (D := (dC, dI)) (ci := 4) (v := .ref li) (C := RX6) (T := TX6) (N := 20) hx hb hts hnX6_tellBackwards_X6 hown hK hP 1 rfl rfl 10 (by decide) (hts (.fieldLink RX6 46 "RingMeets$Walks" "line" "[I") (by decide +kernel)) (fun _ h9 => h9) rfl dX6_tellBackwards_23 ?_
          refine lv_iload_n hx hb dX6_tellBackwards_26 rfl (lv_at hl 3 rfl) ?_
          refine va_iald (D := (dC, dI)) hx hb hK hP 4 0 rfl rfl (vp_in_nI (n := k) (N := 1957) (by omega) (by omega)) dX6_tellBackwards_27 ?_
          refine lv_topi (fun x_8 ex_8 => ?_)
          rw [nI_clamp (n := k) (by omega)] at ex_8
          refine lv_istore (lv' := [(4, .int x_8), (0, .ref wk), (1, .ref tt), (2, .int p2), (3, .int (nI k))]) hx hb dX6_tellBackwards_28 hl (by decide) rfl (fun ls hl => ?_)
          refine lv_aload_n hx hb dX6_tellBackwards_30 rfl (lv_at hl 1 rfl) ?_
          refine lv_iload hx hb dX6_tellBackwards_31 (lv_at hl 0 rfl) ?_
          refine vp_callSi (va_Run.run (va_runV (As := [.int x_8]) (rest := []) ⟨hx, hb, hml, hown, hts⟩ (kX6_isWay l dC dI cyI cyZ wk mo wy nw ol lt es sf sl so la li ru sc (nI z) 0 (nI v_3) d17 d18 x_8) (cwV 1 hts gX6_tellBackwards_X6_isWay rfl rfl rfl (by decide +kernel) ⟨Nat.le_of_ble_eq_true rfl, Nat.le_of_ble_eq_true rfl⟩) (bs_RV hB (hP.sub (ws' := [(wk, .inr (4, [.ref mo, .ref wy, .ref nw, .ref ol, .ref lt, .ref es, .ref sf, .ref sl, .ref so, .ref la, .ref li, .ref ru, .int 8, .int sc, .int (nI z), .int 0, .int (nI v_3), .int d17, .int d18, .int 0]))]) [1] rfl) 0 rfl rfl) rfl rfl hl.1 rfl (lv_room (Nat.le_of_ble_eq_true rfl)) dX6_tellBackwards_33 ⟨Nat.le_of_ble_eq_true rfl, Nat.le_of_ble_eq_true rfl⟩)) (fun r_9 hr_9 => ?_)
          refine lv_if_eq (tgt := 49) hx hb dX6_tellBackwards_36 (by decide) (fun c_10 => ?_) (fun c_10 => ?_)
          · skip
            have ic_10 := ci_eq (rfl : Int32.toInt r_9 = _) (show Int32.toInt 0 = 0 by decide) c_10
            refine lv_iconst (v := (-1)) hx hb dX6_tellBackwards_49 (by decide) ?_
            refine lv_istore (lv' := [(5, .int (-1)), (4, .int x_8), (0, .ref wk), (1, .ref tt), (2, .int p2), (3, .int (nI k))]) hx hb dX6_tellBackwards_50 hl (by decide) rfl (fun ls hl => ?_)
            refine lv_iconst (v := 0) hx hb dX6_tellBackwards_52 (by decide) ?_
            refine lv_istore (lv' := [(6, .int 0), (5, .int (-1)), (4, .int x_8), (0, .ref wk), (1, .ref tt), (2, .int p2), (3, .int (nI k))]) hx hb dX6_tellBackwards_53 hl (by decide) rfl (fun ls hl => ?_)
            refine lv_iload hx hb dX6_tellBackwards_55 (lv_at hl 0 rfl) ?_
            refine lv_aload_n hx hb dX6_tellBackwards_57 rfl (lv_at hl 3 rfl) ?_
            refine va_get (D := (dC, dI)) (ci := 4) (v := .int 0) (C := RX6) (T := TX6) (N := 20) hx hb hts hnX6_tellBackwards_X6 hown hK hP 1 rfl rfl 15 (by decide) (hts (.fieldLink RX6 67 "RingMeets$Walks" "steps" "I") (by decide +kernel)) (fun _ h9 => h9) rfl dX6_tellBackwards_58 ?_
            refine lv_icmp_ge (tgt := 144) hx hb dX6_tellBackwards_61 (by decide) (fun c_11 => ?_) (fun c_11 => ?_)
            · skip
              refine lv_iinc (v := (nI (k + 1))) (lv' := [(3, .int (nI (k + 1))), (6, .int 0), (5, .int (-1)), (4, .int x_8), (0, .ref wk), (1, .ref tt), (2, .int p2)]) hx hb dX6_tellBackwards_144 hl (k := 6) rfl (nI_1 _) (by decide) rfl (fun ls hl => ?_)
              refine lv_goto (tgt := 7) hx hb dX6_tellBackwards_147 (by decide) ?_
              exact ih7 (k + 1)  ⟨by omega, by omega⟩ (by omega)  _ _ (hP.sub [0, 1, 2, 3, 4] rfl) (hD.sub [0, 1, 2, 3, 4] (by decide) rfl) hS _ (lv_sub hl [4, 5, 6, 0] rfl)
            · skip
              exact absurd c_11 (by decide)
          · skip
            have ic_10 := ci_ne (rfl : Int32.toInt r_9 = _) (show Int32.toInt 0 = 0 by decide) c_10
            have hs9 := hr_9.2.1 (hr_9.1.resolve_left c_10)
            refine lv_aload_n hx hb dX6_tellBackwards_39 rfl (lv_at hl 1 rfl) ?_
            refine va_get (D := (dC, dI)) (ci := 4) (v := .ref lt) (C := RX6) (T := TX6) (N := 20) hx hb hts hnX6_tellBackwards_X6 hown hK hP 1 rfl rfl 4 (by decide) (hts (.fieldLink RX6 28 "RingMeets$Walks" "lastStepTo" "[I") (by decide +kernel)) (fun _ h9 => h9) rfl dX6_tellBackwards_40 ?_
            refine lv_iload hx hb dX6_tellBackwards_43 (lv_at hl 0 rfl) ?_
            refine va_iald (D := (dC, dI)) hx hb hK hP 0 0 rfl rfl (nb_in (x := x_8) (n := 1957) (by omega) (by omega)) dX6_tellBackwards_45 ?_
            refine lv_topi (fun x_12 ex_12 => ?_)
            refine lv_goto (tgt := 50) hx hb dX6_tellBackwards_46 (by decide) ?_
            refine lv_istore (lv' := [(5, .int x_12), (4, .int x_8), (0, .ref wk), (1, .ref tt), (2, .int p2), (3, .int (nI k))]) hx hb dX6_tellBackwards_50 hl (by decide) rfl (fun ls hl => ?_)
            refine lv_iconst (v := 0) hx hb dX6_tellBackwards_52 (by decide) ?_
            refine lv_istore (lv' := [(6, .int 0), (5, .int x_12), (4, .int x_8), (0, .ref wk), (1, .ref tt), (2, .int p2), (3, .int (nI k))]) hx hb dX6_tellBackwards_53 hl (by decide) rfl (fun ls hl => ?_)
            refine lv_iload hx hb dX6_tellBackwards_55 (lv_at hl 0 rfl) ?_
            refine lv_aload_n hx hb dX6_tellBackwards_57 rfl (lv_at hl 3 rfl) ?_
            refine va_get (D := (dC, dI)) (ci := 4) (v := .int 0) (C := RX6) (T := TX6) (N := 20) hx hb hts hnX6_tellBackwards_X6 hown hK hP 1 rfl rfl 15 (by decide) (hts (.fieldLink RX6 67 "RingMeets$Walks" "steps" "I") (by decide +kernel)) (fun _ h9 => h9) rfl dX6_tellBackwards_58 ?_
            refine lv_icmp_ge (tgt := 144) hx hb dX6_tellBackwards_61 (by decide) (fun c_13 => ?_) (fun c_13 => ?_)
            · skip
              refine lv_iinc (v := (nI (k + 1))) (lv' := [(3, .int (nI (k + 1))), (6, .int 0), (5, .int x_12), (4, .int x_8), (0, .ref wk), (1, .ref tt), (2, .int p2)]) hx hb dX6_tellBackwards_144 hl (k := 6) rfl (nI_1 _) (by decide) rfl (fun ls hl => ?_)
              refine lv_goto (tgt := 7) hx hb dX6_tellBackwards_147 (by decide) ?_
              exact ih7 (k + 1)  ⟨by omega, by omega⟩ (by omega)  _ _ (hP.sub [0, 1, 2, 3, 4] rfl) (hD.sub [0, 1, 2, 3, 4] (by decide) rfl) hS _ (lv_sub hl [4, 5, 6, 0] rfl)
            · skip
              exact absurd c_13 (by decide)
  exact L7 1958 0  ⟨by omega, by omega⟩ (by omega)  _ _ (hP.sub [0, 1, 2, 3, 4] rfl) (hD.sub [0, 1, 2, 3, 4] (by decide) rfl) hS _ (lv_sub hl [1, 2, 3, 0] rfl)

theorem hnX6_walk_X6 : ∀ w ∈ wsX60, w ∈ wsX6_walk := fun _ h => List.mem_cons_of_mem _ (List.mem_append_left _ (List.mem_append_left _ (List.mem_append_left _ (List.mem_append_right _ h))))
set_option maxHeartbeats 4000000 in
set_option maxRecDepth 100000 in
theorem kX6_walk (l : Launch) (dC : Nat → ClassId) (dI : Nat → Nat → Nat) (cyI cyZ : ClassId) (wk mo wy nw ol lt es sf sl so la li ru : Nat) (lk rt : Nat) (sc d16 d17 d18 : Int32) (j0 j1 j2 i0 i1 i2 i3 i4 : Int32) (z : Nat) (hz : z ≤ 256) (nn : Int32) (wf : Nat → Int32) (hw : ∀ i, i < z → ∃ x, x < 256 ∧ nb_bc (nI x) = nn ∧ wf i = nI x) (fso fla fl lf : Nat → Int32) (sz : Nat) : Met l yX6_walk wsX6_walk ({ frames := 4, cells := 0, slots := 0, locals := 102 }) (bs_W dC dI cyI cyZ [.ref wk] [(wk, .inr (4, [.ref mo, .ref wy, .ref nw, .ref ol, .ref lt, .ref es, .ref sf, .ref sl, .ref so, .ref la, .ref li, .ref ru, .int 8, .int sc, .int (nI z), .int 0, .int d16, .int d17, .int d18, .int 0])), (mo, .inr (1, [.ref lk, .int j0, .int j1, .int j2])), (lk, .inr (0, [.int i0, .int i1, .int i2, .int i3, .int i4])), (ru, .inr (2, [.ref rt, .int 0])), (wy, .inl (cyI, 1957, .inl wf)), (so, .inl (cyI, 1957, .inl fso)), (la, .inl (cyI, 1957, .inl fla)), (li, .inl (cyI, 1957, .inl fl)), (lt, .inl (cyI, 1957, .inl lf))] sz) (va_Qv (S := Int32 × Int32 × Int32 × (Nat → Int32) × (Nat → Int32)) (fun q : Int32 × Int32 × Int32 × (Nat → Int32) × (Nat → Int32) => (∀ i, i < z → q.2.2.2.1 i = sp_tk nn) ∧ (∀ i, i < z → q.2.2.2.2 i = sp_tk nn)) (fun q t => bs_E dC dI (va_A [(wk, .inr (4, [.ref mo, .ref wy, .ref nw, .ref ol, .ref lt, .ref es, .ref sf, .ref sl, .ref so, .ref la, .ref li, .ref ru, .int 8, .int sc, .int (nI z), .int 0, .int d16, .int d17, .int d18, .int 0])), (mo, .inr (1, [.ref lk, .int j0, .int j1, .int j2])), (lk, .inr (0, [.int i0, .int i1, .int i2, .int i3, .int i4])), (ru, .inr (2, [.ref rt, .int 0])), (wy, .inl (cyI, 1957, .inl wf)), (so, .inl (cyI, 1957, .inl fso)), (la, .inl (cyI, 1957, .inl fla)), (li, .inl (cyI, 1957, .inl fl)), (lt, .inl (cyI, 1957, .inl lf))] sz) [(wk, .inr (4, [.ref mo, .ref wy, .ref nw, .ref ol, .ref lt, .ref es, .ref sf, .ref sl, .ref so, .ref la, .ref li, .ref ru, .int 8, .int sc, .int (nI z), .int 0, .int q.1, .int q.2.1, .int q.2.2.1, .int 0])), (wy, .inl (cyI, 1957, .inl wf)), (so, .inl (cyI, 1957, .inl q.2.2.2.1)), (la, .inl (cyI, 1957, .inl q.2.2.2.2))] t) (va_A [(wk, .inr (4, [.ref mo, .ref wy, .ref nw, .ref ol, .ref lt, .ref es, .ref sf, .ref sl, .ref so, .ref la, .ref li, .ref ru, .int 8, .int sc, .int (nI z), .int 0, .int d16, .int d17, .int d18, .int 0])), (mo, .inr (1, [.ref lk, .int j0, .int j1, .int j2])), (lk, .inr (0, [.int i0, .int i1, .int i2, .int i3, .int i4])), (ru, .inr (2, [.ref rt, .int 0])), (wy, .inl (cyI, 1957, .inl wf)), (so, .inl (cyI, 1957, .inl fso)), (la, .inl (cyI, 1957, .inl fla)), (li, .inl (cyI, 1957, .inl fl)), (lt, .inl (cyI, 1957, .inl lf))] sz)) 0 0 (va_A [(wk, .inr (4, [.ref mo, .ref wy, .ref nw, .ref ol, .ref lt, .ref es, .ref sf, .ref sl, .ref so, .ref la, .ref li, .ref ru, .int 8, .int sc, .int (nI z), .int 0, .int d16, .int d17, .int d18, .int 0])), (mo, .inr (1, [.ref lk, .int j0, .int j1, .int j2])), (lk, .inr (0, [.int i0, .int i1, .int i2, .int i3, .int i4])), (ru, .inr (2, [.ref rt, .int 0])), (wy, .inl (cyI, 1957, .inl wf)), (so, .inl (cyI, 1957, .inl fso)), (la, .inl (cyI, 1957, .inl fla)), (li, .inl (cyI, 1957, .inl fl)), (lt, .inl (cyI, 1957, .inl lf))] sz) := by
  refine Met.ofW (cc := cX6_walk) (maxL := 2) (ret := none) (by decide) rfl ?_
  intro p e s m args below meth c s₁ B hml hv
  obtain ⟨rfl, hsz, hB, hP, hD0⟩ := hv
  have hK := hB.1
  have hN := hB.2
  have hx := B.exec
  have hb := B.bytes
  have hr := B.returns
  have hts := atoms_spec (ws := wsX6_walk) B.pre
  have hown : s.vm.findClass RX6 = some m.cls := findClass_of_methodNamed B.named
  have hlocks := B.notSynchronized
  subst hsz
  have hD := hD0.self (sz := s.heap.size)
  generalize hAe : va_A [(wk, .inr (4, [.ref mo, .ref wy, .ref nw, .ref ol, .ref lt, .ref es, .ref sf, .ref sl, .ref so, .ref la, .ref li, .ref ru, .int 8, .int sc, .int (nI z), .int 0, .int d16, .int d17, .int d18, .int 0])), (mo, .inr (1, [.ref lk, .int j0, .int j1, .int j2])), (lk, .inr (0, [.int i0, .int i1, .int i2, .int i3, .int i4])), (ru, .inr (2, [.ref rt, .int 0])), (wy, .inl (cyI, 1957, .inl wf)), (so, .inl (cyI, 1957, .inl fso)), (la, .inl (cyI, 1957, .inl fla)), (li, .inl (cyI, 1957, .inl fl)), (lt, .inl (cyI, 1957, .inl lf))] s.heap.size = A at hD ⊢
  have hA : ∀ q : Nat, s.heap.size ≤ q → A q := fun q h => by rw [← hAe]; exact Or.inr h
  have hS : va_S A s.heap s.heap [] := va_S.rf
  have hP : va_P (dC, dI) vwCl [(wk, .inr (4, [.ref mo, .ref wy, .ref nw, .ref ol, .ref lt, .ref es, .ref sf, .ref sl, .ref so, .ref la, .ref li, .ref ru, .int 8, .int sc, .int (nI z), .int 0, .int d16, .int d17, .int d18, .int 0])), (mo, .inr (1, [.ref lk, .int j0, .int j1, .int j2])), (lk, .inr (0, [.int i0, .int i1, .int i2, .int i3, .int i4])), (ru, .inr (2, [.ref rt, .int 0])), (wy, .inl (cyI, 1957, .inl wf)), (so, .inl (cyI, 1957, .inl fso)), (la, .inl (cyI, 1957, .inl fla)), (li, .inl (cyI, 1957, .inl fl)), (lt, .inl (cyI, 1957, .inl lf))] s.heap := hP
  have hl := lv_entry ([.ref wk]) (n := 2) (Nat.le_of_ble_eq_true rfl)
  rw [lg_entry_eq]
  generalize (lg_sl ([.ref wk]) ++ List.replicate (2 - (lg_sl ([.ref wk])).length) Slot.unset).toArray = ls at hl ⊢
  have hl : lv_has ls 2 [(0, .ref wk)] := hl
  refine lv_iconst (v := 0) hx hb dX6_walk_0 (by decide) ?_
  refine lv_istore_n (lv' := [(1, .int 0), (0, .ref wk)]) hx hb dX6_walk_1 rfl hl (by decide) rfl (fun ls hl => ?_)
  have L2 : ∀ (n2 : Nat), ∀ (k : Nat) (u7 u8 j0 j1 j2 i0 i1 i2 i3 i4 : Int32), (k ≤ z) → (z + 1 ≤ k + n2) → ∀ (H : Heap) (locs : List Loc), va_P (dC, dI) vwCl [(wk, .inr (4, [.ref mo, .ref wy, .ref nw, .ref ol, .ref lt, .ref es, .ref sf, .ref sl, .ref so, .ref la, .ref li, .ref ru, .int 8, .int sc, .int (nI z), .int 0, .int d16, .int u7, .int u8, .int 0])), (mo, .inr (1, [.ref lk, .int j0, .int j1, .int j2])), (lk, .inr (0, [.int i0, .int i1, .int i2, .int i3, .int i4])), (ru, .inr (2, [.ref rt, .int 0])), (wy, .inl (cyI, 1957, .inl wf)), (so, .inl (cyI, 1957, .inl fso)), (la, .inl (cyI, 1957, .inl fla)), (li, .inl (cyI, 1957, .inl fl)), (lt, .inl (cyI, 1957, .inl lf))] H → va_D A [(wk, .inr (4, [.ref mo, .ref wy, .ref nw, .ref ol, .ref lt, .ref es, .ref sf, .ref sl, .ref so, .ref la, .ref li, .ref ru, .int 8, .int sc, .int (nI z), .int 0, .int d16, .int u7, .int u8, .int 0])), (mo, .inr (1, [.ref lk, .int j0, .int j1, .int j2])), (lk, .inr (0, [.int i0, .int i1, .int i2, .int i3, .int i4])), (ru, .inr (2, [.ref rt, .int 0])), (wy, .inl (cyI, 1957, .inl wf)), (so, .inl (cyI, 1957, .inl fso)), (la, .inl (cyI, 1957, .inl fla)), (li, .inl (cyI, 1957, .inl fl)), (lt, .inl (cyI, 1957, .inl lf))] → va_S A s.heap H locs → ∀ (ls : Array Slot), lv_has ls 2 [(0, .ref wk), (1, .int (nI k))] → W p l e (headSpec wsX6_walk ({ frames := 4, cells := 0, slots := 0, locals := 102 })).room s m ([.ref wk] : List Value).toArray below meth c H locs 0 0 (MQ below (va_Qv (S := Int32 × Int32 × Int32 × (Nat → Int32) × (Nat → Int32)) (fun q : Int32 × Int32 × Int32 × (Nat → Int32) × (Nat → Int32) => (∀ i, i < z → q.2.2.2.1 i = sp_tk nn) ∧ (∀ i, i < z → q.2.2.2.2 i = sp_tk nn)) (fun q t => bs_E dC dI A [(wk, .inr (4, [.ref mo, .ref wy, .ref nw, .ref ol, .ref lt, .ref es, .ref sf, .ref sl, .ref so, .ref la, .ref li, .ref ru, .int 8, .int sc, .int (nI z), .int 0, .int q.1, .int q.2.1, .int q.2.2.1, .int 0])), (wy, .inl (cyI, 1957, .inl wf)), (so, .inl (cyI, 1957, .inl q.2.2.2.1)), (la, .inl (cyI, 1957, .inl q.2.2.2.2))] t) A) ([.ref wk] : List Value).toArray s 0 0 A) (F0 m 2 ls []) := by
    intro n2
    induction n2 with
    | zero =>
      intro k u7 u8 j0 j1 j2 i0 i1 i2 i3 i4 hk2 hn2 H locs hP hD hS ls hl
      exfalso
      omega
    | succ n2 ih2 =>
      intro k u7 u8 j0 j1 j2 i0 i1 i2 i3 i4 hk2 hn2 H locs hP hD hS ls hl
      refine lv_iload_n hx hb dX6_walk_2 rfl (lv_at hl 1 rfl) ?_
      refine lv_aload_n hx hb dX6_walk_3 rfl (lv_at hl 0 rfl) ?_
      refine va_get (D := (dC, dI)) (ci := 4) (v := .int (nI z)) (C := RX6) (T := TX6) (N := 20) hx hb hts hnX6_walk_X6 hown hK hP 0 rfl rfl 14 (by decide) (hts (.fieldLink RX6 64 "RingMeets$Walks" "size" "I") (by decide +kernel)) (fun _ h9 => h9) rfl dX6_walk_4 ?_
      refine lv_icmp_ge (tgt := 70) hx hb dX6_walk_7 (by decide) (fun c_1 => ?_) (fun c_1 => ?_)
      · skip
        have ic_1 := ci_le (nI_toInt (n := z) (by omega)) (nI_toInt (n := k) (by omega)) c_1
        refine lv_aload_n hx hb dX6_walk_70 rfl (lv_at hl 0 rfl) ?_
        refine lv_aload_n hx hb dX6_walk_71 rfl (lv_at hl 0 rfl) ?_
        refine va_get (D := (dC, dI)) (ci := 4) (v := .ref so) (C := RX6) (T := TX6) (N := 20) hx hb hts hnX6_walk_X6 hown hK hP 0 rfl rfl 8 (by decide) (hts (.fieldLink RX6 40 "RingMeets$Walks" "soon" "[I") (by decide +kernel)) (fun _ h9 => h9) rfl dX6_walk_72 ?_
        refine lv_iconst (v := 0) hx hb dX6_walk_75 (by decide) ?_
        have f_2 := va_free (wc := [(wk, .inr (4, [.ref mo, .ref wy, .ref nw, .ref ol, .ref lt, .ref es, .ref sf, .ref sl, .ref so, .ref la, .ref li, .ref ru, .int 8, .int sc, .int (nI z), .int 0, .int d16, .int u7, .int u8, .int 0])), (wy, .inl (cyI, 1957, .inl wf)), (so, .inl (cyI, 1957, .inl fso)), (li, .inl (cyI, 1957, .inl fl)), (lt, .inl (cyI, 1957, .inl lf))]) hD hS hA [0, 4, 5, 7, 8] rfl
        refine va_callv (va_runV (As := [.ref so, .int 0]) (rest := []) ⟨hx, hb, hml, hown, hts⟩ (kX6_tellBackwards l dC dI cyI cyZ wk mo wy nw ol lt es sf sl so la li ru so sc d16 u7 u8 z hz nn wf hw fso fl lf 0 _) (cwV 2 hts gX6_walk_X6_tellBackwards rfl rfl rfl (by decide +kernel) ⟨Nat.le_of_ble_eq_true rfl, Nat.le_of_ble_eq_true rfl⟩) (bs_WV hB (hP.sub (ws' := [(wk, .inr (4, [.ref mo, .ref wy, .ref nw, .ref ol, .ref lt, .ref es, .ref sf, .ref sl, .ref so, .ref la, .ref li, .ref ru, .int 8, .int sc, .int (nI z), .int 0, .int d16, .int u7, .int u8, .int 0])), (wy, .inl (cyI, 1957, .inl wf)), (so, .inl (cyI, 1957, .inl fso)), (li, .inl (cyI, 1957, .inl fl)), (lt, .inl (cyI, 1957, .inl lf))]) [0, 4, 5, 7, 8] rfl) (hD.sub (ws' := [(wk, .inr (4, [.ref mo, .ref wy, .ref nw, .ref ol, .ref lt, .ref es, .ref sf, .ref sl, .ref so, .ref la, .ref li, .ref ru, .int 8, .int sc, .int (nI z), .int 0, .int d16, .int u7, .int u8, .int 0])), (wy, .inl (cyI, 1957, .inl wf)), (so, .inl (cyI, 1957, .inl fso)), (li, .inl (cyI, 1957, .inl fl)), (lt, .inl (cyI, 1957, .inl lf))]) [0, 4, 5, 7, 8] (by decide) rfl) 0 rfl rfl) rfl rfl hl.1 rfl (lv_room (Nat.le_of_ble_eq_true rfl)) dX6_walk_76 ⟨Nat.le_of_ble_eq_true rfl, Nat.le_of_ble_eq_true rfl⟩) hS (fun q _ h => f_2 q h) f_2 (fun uh_3 t H1 locs ht hvm h_3 hB1 hz1 hk1 hS => ?_)
        obtain ⟨v_4, g_5, g_6⟩ := uh_3
        obtain ⟨hP1, hD1⟩ := hB1
        rw [ht] at hP1
        obtain ⟨hP, hD⟩ := va_join (wr := [(mo, .inr (1, [.ref lk, .int j0, .int j1, .int j2])), (lk, .inr (0, [.int i0, .int i1, .int i2, .int i3, .int i4])), (ru, .inr (2, [.ref rt, .int 0])), (la, .inl (cyI, 1957, .inl fla))]) (w1 := [(wk, .inr (4, [.ref mo, .ref wy, .ref nw, .ref ol, .ref lt, .ref es, .ref sf, .ref sl, .ref so, .ref la, .ref li, .ref ru, .int 8, .int sc, .int (nI z), .int 0, .int (nI v_4), .int u7, .int u8, .int 0])), (wy, .inl (cyI, 1957, .inl wf)), (so, .inl (cyI, 1957, .inl g_5)), (li, .inl (cyI, 1957, .inl g_6)), (lt, .inl (cyI, 1957, .inl lf))]) hP hD [0, 4, 5, 7, 8] [1, 2, 3, 6] rfl rfl (by decide) (by decide) hk1 f_2 hP1 hD1
        generalize H1 = H at hP hS ⊢
        have hP : va_P (dC, dI) vwCl [(mo, .inr (1, [.ref lk, .int j0, .int j1, .int j2])), (lk, .inr (0, [.int i0, .int i1, .int i2, .int i3, .int i4])), (ru, .inr (2, [.ref rt, .int 0])), (la, .inl (cyI, 1957, .inl fla)), (wk, .inr (4, [.ref mo, .ref wy, .ref nw, .ref ol, .ref lt, .ref es, .ref sf, .ref sl, .ref so, .ref la, .ref li, .ref ru, .int 8, .int sc, .int (nI z), .int 0, .int (nI v_4), .int u7, .int u8, .int 0])), (wy, .inl (cyI, 1957, .inl wf)), (so, .inl (cyI, 1957, .inl g_5)), (li, .inl (cyI, 1957, .inl g_6)), (lt, .inl (cyI, 1957, .inl lf))] _ := hP
        have hD : va_D A [(mo, .inr (1, [.ref lk, .int j0, .int j1, .int j2])), (lk, .inr (0, [.int i0, .int i1, .int i2, .int i3, .int i4])), (ru, .inr (2, [.ref rt, .int 0])), (la, .inl (cyI, 1957, .inl fla)), (wk, .inr (4, [.ref mo, .ref wy, .ref nw, .ref ol, .ref lt, .ref es, .ref sf, .ref sl, .ref so, .ref la, .ref li, .ref ru, .int 8, .int sc, .int (nI z), .int 0, .int (nI v_4), .int u7, .int u8, .int 0])), (wy, .inl (cyI, 1957, .inl wf)), (so, .inl (cyI, 1957, .inl g_5)), (li, .inl (cyI, 1957, .inl g_6)), (lt, .inl (cyI, 1957, .inl lf))] := hD
        refine lv_aload_n hx hb dX6_walk_79 rfl (lv_at hl 0 rfl) ?_
        refine lv_aload_n hx hb dX6_walk_80 rfl (lv_at hl 0 rfl) ?_
        refine va_get (D := (dC, dI)) (ci := 4) (v := .ref la) (C := RX6) (T := TX6) (N := 20) hx hb hts hnX6_walk_X6 hown hK hP 4 rfl rfl 9 (by decide) (hts (.fieldLink RX6 43 "RingMeets$Walks" "late" "[I") (by decide +kernel)) (fun _ h9 => h9) rfl dX6_walk_81 ?_
        refine lv_iconst (v := 1) hx hb dX6_walk_84 (by decide) ?_
        have f_7 := va_free (wc := [(wk, .inr (4, [.ref mo, .ref wy, .ref nw, .ref ol, .ref lt, .ref es, .ref sf, .ref sl, .ref so, .ref la, .ref li, .ref ru, .int 8, .int sc, .int (nI z), .int 0, .int (nI v_4), .int u7, .int u8, .int 0])), (wy, .inl (cyI, 1957, .inl wf)), (la, .inl (cyI, 1957, .inl fla)), (li, .inl (cyI, 1957, .inl g_6)), (lt, .inl (cyI, 1957, .inl lf))]) hD hS hA [4, 5, 3, 7, 8] rfl
        refine va_callv (va_runV (As := [.ref la, .int 1]) (rest := []) ⟨hx, hb, hml, hown, hts⟩ (kX6_tellBackwards l dC dI cyI cyZ wk mo wy nw ol lt es sf sl so la li ru la sc (nI v_4) u7 u8 z hz nn wf hw fla g_6 lf 1 _) (cwV 2 hts gX6_walk_X6_tellBackwards rfl rfl rfl (by decide +kernel) ⟨Nat.le_of_ble_eq_true rfl, Nat.le_of_ble_eq_true rfl⟩) (bs_WV hB (hP.sub (ws' := [(wk, .inr (4, [.ref mo, .ref wy, .ref nw, .ref ol, .ref lt, .ref es, .ref sf, .ref sl, .ref so, .ref la, .ref li, .ref ru, .int 8, .int sc, .int (nI z), .int 0, .int (nI v_4), .int u7, .int u8, .int 0])), (wy, .inl (cyI, 1957, .inl wf)), (la, .inl (cyI, 1957, .inl fla)), (li, .inl (cyI, 1957, .inl g_6)), (lt, .inl (cyI, 1957, .inl lf))]) [4, 5, 3, 7, 8] rfl) (hD.sub (ws' := [(wk, .inr (4, [.ref mo, .ref wy, .ref nw, .ref ol, .ref lt, .ref es, .ref sf, .ref sl, .ref so, .ref la, .ref li, .ref ru, .int 8, .int sc, .int (nI z), .int 0, .int (nI v_4), .int u7, .int u8, .int 0])), (wy, .inl (cyI, 1957, .inl wf)), (la, .inl (cyI, 1957, .inl fla)), (li, .inl (cyI, 1957, .inl g_6)), (lt, .inl (cyI, 1957, .inl lf))]) [4, 5, 3, 7, 8] (by decide) rfl) 0 rfl rfl) rfl rfl hl.1 rfl (lv_room (Nat.le_of_ble_eq_true rfl)) dX6_walk_85 ⟨Nat.le_of_ble_eq_true rfl, Nat.le_of_ble_eq_true rfl⟩) hS (fun q _ h => f_7 q h) f_7 (fun uh_8 t H1 locs ht hvm h_8 hB1 hz1 hk1 hS => ?_)
        obtain ⟨v_9, g_10, g_11⟩ := uh_8
        obtain ⟨hP1, hD1⟩ := hB1
        rw [ht] at hP1
        obtain ⟨hP, hD⟩ := va_join (wr := [(mo, .inr (1, [.ref lk, .int j0, .int j1, .int j2])), (lk, .inr (0, [.int i0, .int i1, .int i2, .int i3, .int i4])), (ru, .inr (2, [.ref rt, .int 0])), (so, .inl (cyI, 1957, .inl g_5))]) (w1 := [(wk, .inr (4, [.ref mo, .ref wy, .ref nw, .ref ol, .ref lt, .ref es, .ref sf, .ref sl, .ref so, .ref la, .ref li, .ref ru, .int 8, .int sc, .int (nI z), .int 0, .int (nI v_9), .int u7, .int u8, .int 0])), (wy, .inl (cyI, 1957, .inl wf)), (la, .inl (cyI, 1957, .inl g_10)), (li, .inl (cyI, 1957, .inl g_11)), (lt, .inl (cyI, 1957, .inl lf))]) hP hD [4, 5, 3, 7, 8] [0, 1, 2, 6] rfl rfl (by decide) (by decide) hk1 f_7 hP1 hD1
        generalize H1 = H at hP hS ⊢
        have hP : va_P (dC, dI) vwCl [(mo, .inr (1, [.ref lk, .int j0, .int j1, .int j2])), (lk, .inr (0, [.int i0, .int i1, .int i2, .int i3, .int i4])), (ru, .inr (2, [.ref rt, .int 0])), (so, .inl (cyI, 1957, .inl g_5)), (wk, .inr (4, [.ref mo, .ref wy, .ref nw, .ref ol, .ref lt, .ref es, .ref sf, .ref sl, .ref so, .ref la, .ref li, .ref ru, .int 8, .int sc, .int (nI z), .int 0, .int (nI v_9), .int u7, .int u8, .int 0])), (wy, .inl (cyI, 1957, .inl wf)), (la, .inl (cyI, 1957, .inl g_10)), (li, .inl (cyI, 1957, .inl g_11)), (lt, .inl (cyI, 1957, .inl lf))] _ := hP
        have hD : va_D A [(mo, .inr (1, [.ref lk, .int j0, .int j1, .int j2])), (lk, .inr (0, [.int i0, .int i1, .int i2, .int i3, .int i4])), (ru, .inr (2, [.ref rt, .int 0])), (so, .inl (cyI, 1957, .inl g_5)), (wk, .inr (4, [.ref mo, .ref wy, .ref nw, .ref ol, .ref lt, .ref es, .ref sf, .ref sl, .ref so, .ref la, .ref li, .ref ru, .int 8, .int sc, .int (nI z), .int 0, .int (nI v_9), .int u7, .int u8, .int 0])), (wy, .inl (cyI, 1957, .inl wf)), (la, .inl (cyI, 1957, .inl g_10)), (li, .inl (cyI, 1957, .inl g_11)), (lt, .inl (cyI, 1957, .inl lf))] := hD
        exact W.vret hx hb hr (fun t ht hW => ⟨⟨((nI v_9), u7, u8, g_5, g_10), rfl, ⟨h_3, h_8⟩, ⟨by rw [ht]; exact hP.sub (ws' := [(wk, .inr (4, [.ref mo, .ref wy, .ref nw, .ref ol, .ref lt, .ref es, .ref sf, .ref sl, .ref so, .ref la, .ref li, .ref ru, .int 8, .int sc, .int (nI z), .int 0, .int (nI v_9), .int u7, .int u8, .int 0])), (wy, .inl (cyI, 1957, .inl wf)), (so, .inl (cyI, 1957, .inl g_5)), (la, .inl (cyI, 1957, .inl g_10))]) [4, 5, 3, 6] rfl, hD.sub (ws' := [(wk, .inr (4, [.ref mo, .ref wy, .ref nw, .ref ol, .ref lt, .ref es, .ref sf, .ref sl, .ref so, .ref la, .ref li, .ref ru, .int 8, .int sc, .int (nI z), .int 0, .int (nI v_9), .int u7, .int u8, .int 0])), (wy, .inl (cyI, 1957, .inl wf)), (so, .inl (cyI, 1957, .inl g_5)), (la, .inl (cyI, 1957, .inl g_10))]) [4, 5, 3, 6] (by decide) rfl⟩⟩, hS.F ht⟩) hS.2.2 dX6_walk_88
      · skip
        have ic_1 := ci_nle (nI_toInt (n := z) (by omega)) (nI_toInt (n := k) (by omega)) c_1
        refine lv_iload_n hx hb dX6_walk_10 rfl (lv_at hl 1 rfl) ?_
        refine lv_sipush (v := 1957) hx hb dX6_walk_11 (by decide) ?_
        refine lv_icmp_ge (tgt := 70) hx hb dX6_walk_14 (by decide) (fun c_12 => ?_) (fun c_12 => ?_)
        · skip
          have ic_12 := ci_le (show Int32.toInt 1957 = 1957 by decide) (nI_toInt (n := k) (by omega)) c_12
          exfalso; omega
        · skip
          have ic_12 := ci_nle (show Int32.toInt 1957 = 1957 by decide) (nI_toInt (n := k) (by omega)) c_12
          refine lv_aload_n hx hb dX6_walk_17 rfl (lv_at hl 0 rfl) ?_
          refine lv_iload_n hx hb dX6_walk_18 rfl (lv_at hl 1 rfl) ?_
          refine vp_callSi (va_Run.run (va_runV (As := [.int (nI k)]) (rest := []) ⟨hx, hb, hml, hown, hts⟩ (kX6_hasMet l dC dI cyI cyZ wk mo wy nw ol lt es sf sl so la li ru sc 0 d16 u7 u8 z hz nn wf hw k (by omega)) (cwV 1 hts gX6_walk_X6_hasMet rfl rfl rfl (by decide +kernel) ⟨Nat.le_of_ble_eq_true rfl, Nat.le_of_ble_eq_true rfl⟩) (bs_RV hB (hP.sub (ws' := [(wk, .inr (4, [.ref mo, .ref wy, .ref nw, .ref ol, .ref lt, .ref es, .ref sf, .ref sl, .ref so, .ref la, .ref li, .ref ru, .int 8, .int sc, .int (nI z), .int 0, .int d16, .int u7, .int u8, .int 0])), (wy, .inl (cyI, 1957, .inl wf))]) [0, 4] rfl) 0 rfl rfl) rfl rfl hl.1 rfl (lv_room (Nat.le_of_ble_eq_true rfl)) dX6_walk_19 ⟨Nat.le_of_ble_eq_true rfl, Nat.le_of_ble_eq_true rfl⟩)) (fun r_13 hr_13 => ?_)
          refine lv_if_ne (tgt := 64) hx hb dX6_walk_22 (by decide) (fun c_14 => ?_) (fun c_14 => ?_)
          · skip
            have ic_14 := ci_ne (rfl : Int32.toInt r_13 = _) (show Int32.toInt 0 = 0 by decide) c_14
            refine lv_iinc (v := (nI (k + 1))) (lv' := [(1, .int (nI (k + 1))), (0, .ref wk)]) hx hb dX6_walk_64 hl (k := 1) rfl (nI_1 _) (by decide) rfl (fun ls hl => ?_)
            refine lv_goto (tgt := 2) hx hb dX6_walk_67 (by decide) ?_
            exact ih2 (k + 1) u7 u8 j0 j1 j2 i0 i1 i2 i3 i4 (by omega) (by omega) _ _ (hP.sub [0, 1, 2, 3, 4, 5, 6, 7, 8] rfl) (hD.sub [0, 1, 2, 3, 4, 5, 6, 7, 8] (by decide) rfl) hS _ (lv_sub hl [1, 0] rfl)
          · skip
            have ic_14 := ci_eq (rfl : Int32.toInt r_13 = _) (show Int32.toInt 0 = 0 by decide) c_14
            obtain ⟨x, hx9, hbx, hwx⟩ := hw k (by omega)
            refine lv_aload_n hx hb dX6_walk_25 rfl (lv_at hl 0 rfl) ?_
            refine va_get (D := (dC, dI)) (ci := 4) (v := .ref mo) (C := RX6) (T := TX6) (N := 20) hx hb hts hnX6_walk_X6 hown hK hP 0 rfl rfl 0 (by decide) (hts (.fieldLink RX6 12 "RingMeets$Walks" "moves" "LRingMeets$Moves;") (by decide +kernel)) (fun _ h9 => h9) rfl dX6_walk_26 ?_
            refine lv_aload_n hx hb dX6_walk_29 rfl (lv_at hl 0 rfl) ?_
            refine va_get (D := (dC, dI)) (ci := 4) (v := .ref ru) (C := RX6) (T := TX6) (N := 20) hx hb hts hnX6_walk_X6 hown hK hP 0 rfl rfl 11 (by decide) (hts (.fieldLink RX6 49 "RingMeets$Walks" "rules" "LRingMeets$Rules;") (by decide +kernel)) (fun _ h9 => h9) rfl dX6_walk_30 ?_
            refine lv_aload_n hx hb dX6_walk_33 rfl (lv_at hl 0 rfl) ?_
            refine va_get (D := (dC, dI)) (ci := 4) (v := .int 8) (C := RX6) (T := TX6) (N := 20) hx hb hts hnX6_walk_X6 hown hK hP 0 rfl rfl 12 (by decide) (hts (.fieldLink RX6 53 "RingMeets$Walks" "cells" "I") (by decide +kernel)) (fun _ h9 => h9) rfl dX6_walk_34 ?_
            refine lv_aload_n hx hb dX6_walk_37 rfl (lv_at hl 0 rfl) ?_
            refine va_get (D := (dC, dI)) (ci := 4) (v := .ref wy) (C := RX6) (T := TX6) (N := 20) hx hb hts hnX6_walk_X6 hown hK hP 0 rfl rfl 1 (by decide) (hts (.fieldLink RX6 18 "RingMeets$Walks" "ways" "[I") (by decide +kernel)) (fun _ h9 => h9) rfl dX6_walk_38 ?_
            refine lv_iload_n hx hb dX6_walk_41 rfl (lv_at hl 1 rfl) ?_
            refine va_iald (D := (dC, dI)) hx hb hK hP 4 0 rfl rfl (vp_in_nI (n := k) (N := 1957) (by omega) (by omega)) dX6_walk_42 ?_
            refine lv_topi (fun x_15 ex_15 => ?_)
            rw [nI_clamp (n := k) (by omega)] at ex_15
            obtain rfl : (nI x) = x_15 := (ex_15.trans (hwx)).symm
            refine vp_callSi (va_Run.run (va_runS (As := [.int (nI x)]) (rest := [.int 8, .ref ru, .ref mo]) ⟨hx, hb, hml, hown, hts⟩ (kX5_standsOf l dC dI cyI cyZ x (by omega)) (va_cwS 1 hts gX6_walk_X5_standsOf rfl rfl rfl (by decide +kernel) ⟨Nat.le_of_ble_eq_true rfl, Nat.le_of_ble_eq_true rfl⟩) (bs_RS hB (hP.sub (ws' := []) [] rfl)) rfl rfl hl.1 rfl (lv_room (Nat.le_of_ble_eq_true rfl)) dX6_walk_43 ⟨Nat.le_of_ble_eq_true rfl, Nat.le_of_ble_eq_true rfl⟩)) (fun r_16 hr_16 => ?_)
            obtain rfl : (nI x) = r_16 := Eq.symm hr_16
            refine lv_aload_n hx hb dX6_walk_46 rfl (lv_at hl 0 rfl) ?_
            refine lv_aload_n hx hb dX6_walk_47 rfl (lv_at hl 0 rfl) ?_
            refine va_get (D := (dC, dI)) (ci := 4) (v := .ref wy) (C := RX6) (T := TX6) (N := 20) hx hb hts hnX6_walk_X6 hown hK hP 0 rfl rfl 1 (by decide) (hts (.fieldLink RX6 18 "RingMeets$Walks" "ways" "[I") (by decide +kernel)) (fun _ h9 => h9) rfl dX6_walk_48 ?_
            refine lv_iload_n hx hb dX6_walk_51 rfl (lv_at hl 1 rfl) ?_
            refine va_iald (D := (dC, dI)) hx hb hK hP 4 0 rfl rfl (vp_in_nI (n := k) (N := 1957) (by omega) (by omega)) dX6_walk_52 ?_
            refine lv_topi (fun x_17 ex_17 => ?_)
            rw [nI_clamp (n := k) (by omega)] at ex_17
            obtain rfl : (nI x) = x_17 := (ex_17.trans (hwx)).symm
            refine vp_callSi (va_Run.run (va_runV (As := [.int (nI x)]) (rest := [.int (nI x), .int 8, .ref ru, .ref mo]) ⟨hx, hb, hml, hown, hts⟩ (kX6_towersSeen l dC dI cyI cyZ wk mo wy nw ol lt es sf sl so la li ru sc (nI z) 0 d16 u7 u8 (nI x)) (cwV 1 hts gX6_walk_X6_towersSeen rfl rfl rfl (by decide +kernel) ⟨Nat.le_of_ble_eq_true rfl, Nat.le_of_ble_eq_true rfl⟩) (bs_RV hB (hP.sub (ws' := [(wk, .inr (4, [.ref mo, .ref wy, .ref nw, .ref ol, .ref lt, .ref es, .ref sf, .ref sl, .ref so, .ref la, .ref li, .ref ru, .int 8, .int sc, .int (nI z), .int 0, .int d16, .int u7, .int u8, .int 0]))]) [0] rfl) 0 rfl rfl) rfl rfl hl.1 rfl (lv_room (Nat.le_of_ble_eq_true rfl)) dX6_walk_53 ⟨Nat.le_of_ble_eq_true rfl, Nat.le_of_ble_eq_true rfl⟩)) (fun r_18 hr_18 => ?_)
            have f_19 := va_free (wc := [(mo, .inr (1, [.ref lk, .int j0, .int j1, .int j2])), (lk, .inr (0, [.int i0, .int i1, .int i2, .int i3, .int i4])), (ru, .inr (2, [.ref rt, .int 0]))]) hD hS hA [1, 2, 3] rfl
            refine va_callv (va_runV (As := [.ref ru, .int 8, .int (nI x), .int r_18]) (rest := []) ⟨hx, hb, hml, hown, hts⟩ (kX2_from l dC dI cyI cyZ mo lk ru rt j0 j1 j2 i0 i1 i2 i3 i4 (nI x) r_18 _) (cwV 4 hts gX6_walk_X2_from rfl rfl rfl (by decide +kernel) ⟨Nat.le_of_ble_eq_true rfl, Nat.le_of_ble_eq_true rfl⟩) (bs_WV hB (hP.sub (ws' := [(mo, .inr (1, [.ref lk, .int j0, .int j1, .int j2])), (lk, .inr (0, [.int i0, .int i1, .int i2, .int i3, .int i4])), (ru, .inr (2, [.ref rt, .int 0]))]) [1, 2, 3] rfl) (hD.sub (ws' := [(mo, .inr (1, [.ref lk, .int j0, .int j1, .int j2])), (lk, .inr (0, [.int i0, .int i1, .int i2, .int i3, .int i4])), (ru, .inr (2, [.ref rt, .int 0]))]) [1, 2, 3] (by decide) rfl) 0 rfl rfl) rfl rfl hl.1 rfl (lv_room (Nat.le_of_ble_eq_true rfl)) dX6_walk_56 ⟨Nat.le_of_ble_eq_true rfl, Nat.le_of_ble_eq_true rfl⟩) hS (fun q _ h => f_19 q h) f_19 (fun uh_20 t H1 locs ht hvm h_20 hB1 hz1 hk1 hS => ?_)
            obtain ⟨i_21, i_22, i_23, i_24, i_25⟩ := uh_20
            obtain ⟨hP1, hD1⟩ := hB1
            rw [ht] at hP1
            obtain ⟨hP, hD⟩ := va_join (wr := [(wk, .inr (4, [.ref mo, .ref wy, .ref nw, .ref ol, .ref lt, .ref es, .ref sf, .ref sl, .ref so, .ref la, .ref li, .ref ru, .int 8, .int sc, .int (nI z), .int 0, .int d16, .int u7, .int u8, .int 0])), (wy, .inl (cyI, 1957, .inl wf)), (so, .inl (cyI, 1957, .inl fso)), (la, .inl (cyI, 1957, .inl fla)), (li, .inl (cyI, 1957, .inl fl)), (lt, .inl (cyI, 1957, .inl lf))]) (w1 := [(mo, .inr (1, [.ref lk, .int 0, .int 0, .int 0])), (lk, .inr (0, [.int i_21, .int i_22, .int i_23, .int i_24, .int i_25])), (ru, .inr (2, [.ref rt, .int 0]))]) hP hD [1, 2, 3] [0, 4, 5, 6, 7, 8] rfl rfl (by decide) (by decide) hk1 f_19 hP1 hD1
            generalize H1 = H at hP hS ⊢
            have hP : va_P (dC, dI) vwCl [(wk, .inr (4, [.ref mo, .ref wy, .ref nw, .ref ol, .ref lt, .ref es, .ref sf, .ref sl, .ref so, .ref la, .ref li, .ref ru, .int 8, .int sc, .int (nI z), .int 0, .int d16, .int u7, .int u8, .int 0])), (wy, .inl (cyI, 1957, .inl wf)), (so, .inl (cyI, 1957, .inl fso)), (la, .inl (cyI, 1957, .inl fla)), (li, .inl (cyI, 1957, .inl fl)), (lt, .inl (cyI, 1957, .inl lf)), (mo, .inr (1, [.ref lk, .int 0, .int 0, .int 0])), (lk, .inr (0, [.int i_21, .int i_22, .int i_23, .int i_24, .int i_25])), (ru, .inr (2, [.ref rt, .int 0]))] _ := hP
            have hD : va_D A [(wk, .inr (4, [.ref mo, .ref wy, .ref nw, .ref ol, .ref lt, .ref es, .ref sf, .ref sl, .ref so, .ref la, .ref li, .ref ru, .int 8, .int sc, .int (nI z), .int 0, .int d16, .int u7, .int u8, .int 0])), (wy, .inl (cyI, 1957, .inl wf)), (so, .inl (cyI, 1957, .inl fso)), (la, .inl (cyI, 1957, .inl fla)), (li, .inl (cyI, 1957, .inl fl)), (lt, .inl (cyI, 1957, .inl lf)), (mo, .inr (1, [.ref lk, .int 0, .int 0, .int 0])), (lk, .inr (0, [.int i_21, .int i_22, .int i_23, .int i_24, .int i_25])), (ru, .inr (2, [.ref rt, .int 0]))] := hD
            refine lv_aload_n hx hb dX6_walk_59 rfl (lv_at hl 0 rfl) ?_
            refine lv_iload_n hx hb dX6_walk_60 rfl (lv_at hl 1 rfl) ?_
            have f_26 := va_free (wc := [(wk, .inr (4, [.ref mo, .ref wy, .ref nw, .ref ol, .ref lt, .ref es, .ref sf, .ref sl, .ref so, .ref la, .ref li, .ref ru, .int 8, .int sc, .int (nI z), .int 0, .int d16, .int u7, .int u8, .int 0])), (mo, .inr (1, [.ref lk, .int 0, .int 0, .int 0]))]) hD hS hA [0, 6] rfl
            refine va_callv (va_runV (As := [.int (nI k)]) (rest := []) ⟨hx, hb, hml, hown, hts⟩ (kX6_addStepsFrom l dC dI cyI cyZ wk mo wy nw ol lt es sf sl so la li ru lk sc (nI z) 0 d16 u7 u8 (nI k) _) (cwV 1 hts gX6_walk_X6_addStepsFrom rfl rfl rfl (by decide +kernel) ⟨Nat.le_of_ble_eq_true rfl, Nat.le_of_ble_eq_true rfl⟩) (bs_WV hB (hP.sub (ws' := [(wk, .inr (4, [.ref mo, .ref wy, .ref nw, .ref ol, .ref lt, .ref es, .ref sf, .ref sl, .ref so, .ref la, .ref li, .ref ru, .int 8, .int sc, .int (nI z), .int 0, .int d16, .int u7, .int u8, .int 0])), (mo, .inr (1, [.ref lk, .int 0, .int 0, .int 0]))]) [0, 6] rfl) (hD.sub (ws' := [(wk, .inr (4, [.ref mo, .ref wy, .ref nw, .ref ol, .ref lt, .ref es, .ref sf, .ref sl, .ref so, .ref la, .ref li, .ref ru, .int 8, .int sc, .int (nI z), .int 0, .int d16, .int u7, .int u8, .int 0])), (mo, .inr (1, [.ref lk, .int 0, .int 0, .int 0]))]) [0, 6] (by decide) rfl) 0 rfl rfl) rfl rfl hl.1 rfl (lv_room (Nat.le_of_ble_eq_true rfl)) dX6_walk_61 ⟨Nat.le_of_ble_eq_true rfl, Nat.le_of_ble_eq_true rfl⟩) hS (fun q _ h => f_26 q h) f_26 (fun uh_27 t H1 locs ht hvm h_27 hB1 hz1 hk1 hS => ?_)
            obtain ⟨i_28, i_29⟩ := uh_27
            obtain ⟨hP1, hD1⟩ := hB1
            rw [ht] at hP1
            obtain ⟨hP, hD⟩ := va_join (wr := [(wy, .inl (cyI, 1957, .inl wf)), (so, .inl (cyI, 1957, .inl fso)), (la, .inl (cyI, 1957, .inl fla)), (li, .inl (cyI, 1957, .inl fl)), (lt, .inl (cyI, 1957, .inl lf)), (lk, .inr (0, [.int i_21, .int i_22, .int i_23, .int i_24, .int i_25])), (ru, .inr (2, [.ref rt, .int 0]))]) (w1 := [(wk, .inr (4, [.ref mo, .ref wy, .ref nw, .ref ol, .ref lt, .ref es, .ref sf, .ref sl, .ref so, .ref la, .ref li, .ref ru, .int 8, .int sc, .int (nI z), .int 0, .int d16, .int i_28, .int i_29, .int 0])), (mo, .inr (1, [.ref lk, .int 0, .int 0, .int 0]))]) hP hD [0, 6] [1, 2, 3, 4, 5, 7, 8] rfl rfl (by decide) (by decide) hk1 f_26 hP1 hD1
            generalize H1 = H at hP hS ⊢
            have hP : va_P (dC, dI) vwCl [(wy, .inl (cyI, 1957, .inl wf)), (so, .inl (cyI, 1957, .inl fso)), (la, .inl (cyI, 1957, .inl fla)), (li, .inl (cyI, 1957, .inl fl)), (lt, .inl (cyI, 1957, .inl lf)), (lk, .inr (0, [.int i_21, .int i_22, .int i_23, .int i_24, .int i_25])), (ru, .inr (2, [.ref rt, .int 0])), (wk, .inr (4, [.ref mo, .ref wy, .ref nw, .ref ol, .ref lt, .ref es, .ref sf, .ref sl, .ref so, .ref la, .ref li, .ref ru, .int 8, .int sc, .int (nI z), .int 0, .int d16, .int i_28, .int i_29, .int 0])), (mo, .inr (1, [.ref lk, .int 0, .int 0, .int 0]))] _ := hP
            have hD : va_D A [(wy, .inl (cyI, 1957, .inl wf)), (so, .inl (cyI, 1957, .inl fso)), (la, .inl (cyI, 1957, .inl fla)), (li, .inl (cyI, 1957, .inl fl)), (lt, .inl (cyI, 1957, .inl lf)), (lk, .inr (0, [.int i_21, .int i_22, .int i_23, .int i_24, .int i_25])), (ru, .inr (2, [.ref rt, .int 0])), (wk, .inr (4, [.ref mo, .ref wy, .ref nw, .ref ol, .ref lt, .ref es, .ref sf, .ref sl, .ref so, .ref la, .ref li, .ref ru, .int 8, .int sc, .int (nI z), .int 0, .int d16, .int i_28, .int i_29, .int 0])), (mo, .inr (1, [.ref lk, .int 0, .int 0, .int 0]))] := hD
            refine lv_iinc (v := (nI (k + 1))) (lv' := [(1, .int (nI (k + 1))), (0, .ref wk)]) hx hb dX6_walk_64 hl (k := 1) rfl (nI_1 _) (by decide) rfl (fun ls hl => ?_)
            refine lv_goto (tgt := 2) hx hb dX6_walk_67 (by decide) ?_
            exact ih2 (k + 1) i_28 i_29 0 0 0 i_21 i_22 i_23 i_24 i_25 (by omega) (by omega) _ _ (hP.sub [7, 8, 5, 6, 0, 1, 2, 3, 4] rfl) (hD.sub [7, 8, 5, 6, 0, 1, 2, 3, 4] (by decide) rfl) hS _ (lv_sub hl [1, 0] rfl)
  exact L2 (z + 1) 0 d17 d18 j0 j1 j2 i0 i1 i2 i3 i4 (by omega) (by omega) _ _ (hP.sub [0, 1, 2, 3, 4, 5, 6, 7, 8] rfl) (hD.sub [0, 1, 2, 3, 4, 5, 6, 7, 8] (by decide) rfl) hS _ (lv_sub hl [1, 0] rfl)

theorem hnX6_lateOf_X6 : ∀ w ∈ wsX60, w ∈ wsX6_lateOf := fun _ h => List.mem_cons_of_mem _ (List.mem_append_right _ h)
set_option maxHeartbeats 4000000 in
set_option maxRecDepth 100000 in
theorem kX6_lateOf (l : Launch) (dC : Nat → ClassId) (dI : Nat → Nat → Nat) (cyI cyZ : ClassId) (wk mo wy nw ol lt es sf sl so la li ru : Nat) (sc d15 d16 d17 d18 : Int32) (z : Nat) (hz : z ≤ 256) (ff : Nat → Int32) (i : Nat) (hi : i < z) : Met l yX6_lateOf wsX6_lateOf ({ frames := 1, cells := 0, slots := 0, locals := 21 }) (bs_R dC dI cyI cyZ [.ref wk, .int (nI i)] [(wk, .inr (4, [.ref mo, .ref wy, .ref nw, .ref ol, .ref lt, .ref es, .ref sf, .ref sl, .ref so, .ref la, .ref li, .ref ru, .int 8, .int sc, .int (nI z), .int d15, .int d16, .int d17, .int d18, .int 0])), (la, .inl (cyI, 1957, .inl ff))]) (vp_Si (fun r : Int32 => r = ff i)) 0 0 (fun _ => False) := by
  refine Met.ofW (cc := cX6_lateOf) (maxL := 2) (ret := (some .int)) (by decide) rfl ?_
  intro p e s m args below meth c s₁ B hml hv
  obtain ⟨rfl, hB, hP⟩ := hv
  have hK := hB.1
  have hN := hB.2
  have hx := B.exec
  have hb := B.bytes
  have hr := B.returns
  have hts := atoms_spec (ws := wsX6_lateOf) B.pre
  have hown : s.vm.findClass RX6 = some m.cls := findClass_of_methodNamed B.named
  have hlocks := B.notSynchronized
  have hP : va_P (dC, dI) vwCl [(wk, .inr (4, [.ref mo, .ref wy, .ref nw, .ref ol, .ref lt, .ref es, .ref sf, .ref sl, .ref so, .ref la, .ref li, .ref ru, .int 8, .int sc, .int (nI z), .int d15, .int d16, .int d17, .int d18, .int 0])), (la, .inl (cyI, 1957, .inl ff))] s.heap := hP
  have hl := lv_entry ([.ref wk, .int (nI i)]) (n := 2) (Nat.le_of_ble_eq_true rfl)
  rw [lg_entry_eq]
  generalize (lg_sl ([.ref wk, .int (nI i)]) ++ List.replicate (2 - (lg_sl ([.ref wk, .int (nI i)])).length) Slot.unset).toArray = ls at hl ⊢
  have hl : lv_has ls 2 [(0, .ref wk), (1, .int (nI i))] := hl
  refine lv_aload_n hx hb dX6_lateOf_0 rfl (lv_at hl 0 rfl) ?_
  refine lv_iload_n hx hb dX6_lateOf_1 rfl (lv_at hl 1 rfl) ?_
  refine vp_callSi (va_Run.run (va_runV (As := [.int (nI i)]) (rest := []) ⟨hx, hb, hml, hown, hts⟩ (kX6_isWay l dC dI cyI cyZ wk mo wy nw ol lt es sf sl so la li ru sc (nI z) d15 d16 d17 d18 (nI i)) (cwV 1 hts gX6_lateOf_X6_isWay rfl rfl rfl (by decide +kernel) ⟨Nat.le_of_ble_eq_true rfl, Nat.le_of_ble_eq_true rfl⟩) (bs_RV hB (hP.sub (ws' := [(wk, .inr (4, [.ref mo, .ref wy, .ref nw, .ref ol, .ref lt, .ref es, .ref sf, .ref sl, .ref so, .ref la, .ref li, .ref ru, .int 8, .int sc, .int (nI z), .int d15, .int d16, .int d17, .int d18, .int 0]))]) [0] rfl) 0 rfl rfl) rfl rfl hl.1 rfl (lv_room (Nat.le_of_ble_eq_true rfl)) dX6_lateOf_2 ⟨Nat.le_of_ble_eq_true rfl, Nat.le_of_ble_eq_true rfl⟩)) (fun r_1 hr_1 => ?_)
  obtain rfl : 1 = r_1 := Eq.symm (hr_1.2.2.1 (by rw [nI_toInt (n := i) (by omega)]; omega) (by rw [nI_toInt (n := i) (by omega), nI_toInt (n := z) (by omega)]; omega) (by rw [nI_toInt (n := i) (by omega)]; omega))
  refine lv_if_eq (tgt := 17) hx hb dX6_lateOf_5 (by decide) (fun c_2 => ?_) (fun c_2 => ?_)
  · skip
    exact absurd c_2 (by decide)
  · skip
    refine lv_aload_n hx hb dX6_lateOf_8 rfl (lv_at hl 0 rfl) ?_
    refine va_get (D := (dC, dI)) (ci := 4) (v := .ref la) (C := RX6) (T := TX6) (N := 20) hx hb hts hnX6_lateOf_X6 hown hK hP 0 rfl rfl 9 (by decide) (hts (.fieldLink RX6 43 "RingMeets$Walks" "late" "[I") (by decide +kernel)) (fun _ h9 => h9) rfl dX6_lateOf_9 ?_
    refine lv_iload_n hx hb dX6_lateOf_12 rfl (lv_at hl 1 rfl) ?_
    refine va_iald (D := (dC, dI)) hx hb hK hP 1 0 rfl rfl (vp_in_nI (n := i) (N := 1957) (by omega) (by omega)) dX6_lateOf_13 ?_
    refine lv_topi (fun x_3 ex_3 => ?_)
    rw [nI_clamp (n := i) (by omega)] at ex_3
    refine lv_goto (tgt := 19) hx hb dX6_lateOf_14 (by decide) ?_
    exact W.iret (v := x_3) hx hb hr (fun t ht hW => ⟨x_3, rfl, ex_3, ht⟩) (fun q h => by cases h) dX6_lateOf_19

theorem hnX6_soonOf_X6 : ∀ w ∈ wsX60, w ∈ wsX6_soonOf := fun _ h => List.mem_cons_of_mem _ (List.mem_append_right _ h)
set_option maxHeartbeats 4000000 in
set_option maxRecDepth 100000 in
theorem kX6_soonOf (l : Launch) (dC : Nat → ClassId) (dI : Nat → Nat → Nat) (cyI cyZ : ClassId) (wk mo wy nw ol lt es sf sl so la li ru : Nat) (sc d15 d16 d17 d18 : Int32) (z : Nat) (hz : z ≤ 256) (ff : Nat → Int32) (i : Nat) (hi : i < z) : Met l yX6_soonOf wsX6_soonOf ({ frames := 1, cells := 0, slots := 0, locals := 21 }) (bs_R dC dI cyI cyZ [.ref wk, .int (nI i)] [(wk, .inr (4, [.ref mo, .ref wy, .ref nw, .ref ol, .ref lt, .ref es, .ref sf, .ref sl, .ref so, .ref la, .ref li, .ref ru, .int 8, .int sc, .int (nI z), .int d15, .int d16, .int d17, .int d18, .int 0])), (so, .inl (cyI, 1957, .inl ff))]) (vp_Si (fun r : Int32 => r = ff i)) 0 0 (fun _ => False) := by
  refine Met.ofW (cc := cX6_soonOf) (maxL := 2) (ret := (some .int)) (by decide) rfl ?_
  intro p e s m args below meth c s₁ B hml hv
  obtain ⟨rfl, hB, hP⟩ := hv
  have hK := hB.1
  have hN := hB.2
  have hx := B.exec
  have hb := B.bytes
  have hr := B.returns
  have hts := atoms_spec (ws := wsX6_soonOf) B.pre
  have hown : s.vm.findClass RX6 = some m.cls := findClass_of_methodNamed B.named
  have hlocks := B.notSynchronized
  have hP : va_P (dC, dI) vwCl [(wk, .inr (4, [.ref mo, .ref wy, .ref nw, .ref ol, .ref lt, .ref es, .ref sf, .ref sl, .ref so, .ref la, .ref li, .ref ru, .int 8, .int sc, .int (nI z), .int d15, .int d16, .int d17, .int d18, .int 0])), (so, .inl (cyI, 1957, .inl ff))] s.heap := hP
  have hl := lv_entry ([.ref wk, .int (nI i)]) (n := 2) (Nat.le_of_ble_eq_true rfl)
  rw [lg_entry_eq]
  generalize (lg_sl ([.ref wk, .int (nI i)]) ++ List.replicate (2 - (lg_sl ([.ref wk, .int (nI i)])).length) Slot.unset).toArray = ls at hl ⊢
  have hl : lv_has ls 2 [(0, .ref wk), (1, .int (nI i))] := hl
  refine lv_aload_n hx hb dX6_soonOf_0 rfl (lv_at hl 0 rfl) ?_
  refine lv_iload_n hx hb dX6_soonOf_1 rfl (lv_at hl 1 rfl) ?_
  refine vp_callSi (va_Run.run (va_runV (As := [.int (nI i)]) (rest := []) ⟨hx, hb, hml, hown, hts⟩ (kX6_isWay l dC dI cyI cyZ wk mo wy nw ol lt es sf sl so la li ru sc (nI z) d15 d16 d17 d18 (nI i)) (cwV 1 hts gX6_soonOf_X6_isWay rfl rfl rfl (by decide +kernel) ⟨Nat.le_of_ble_eq_true rfl, Nat.le_of_ble_eq_true rfl⟩) (bs_RV hB (hP.sub (ws' := [(wk, .inr (4, [.ref mo, .ref wy, .ref nw, .ref ol, .ref lt, .ref es, .ref sf, .ref sl, .ref so, .ref la, .ref li, .ref ru, .int 8, .int sc, .int (nI z), .int d15, .int d16, .int d17, .int d18, .int 0]))]) [0] rfl) 0 rfl rfl) rfl rfl hl.1 rfl (lv_room (Nat.le_of_ble_eq_true rfl)) dX6_soonOf_2 ⟨Nat.le_of_ble_eq_true rfl, Nat.le_of_ble_eq_true rfl⟩)) (fun r_1 hr_1 => ?_)
  obtain rfl : 1 = r_1 := Eq.symm (hr_1.2.2.1 (by rw [nI_toInt (n := i) (by omega)]; omega) (by rw [nI_toInt (n := i) (by omega), nI_toInt (n := z) (by omega)]; omega) (by rw [nI_toInt (n := i) (by omega)]; omega))
  refine lv_if_eq (tgt := 17) hx hb dX6_soonOf_5 (by decide) (fun c_2 => ?_) (fun c_2 => ?_)
  · skip
    exact absurd c_2 (by decide)
  · skip
    refine lv_aload_n hx hb dX6_soonOf_8 rfl (lv_at hl 0 rfl) ?_
    refine va_get (D := (dC, dI)) (ci := 4) (v := .ref so) (C := RX6) (T := TX6) (N := 20) hx hb hts hnX6_soonOf_X6 hown hK hP 0 rfl rfl 8 (by decide) (hts (.fieldLink RX6 40 "RingMeets$Walks" "soon" "[I") (by decide +kernel)) (fun _ h9 => h9) rfl dX6_soonOf_9 ?_
    refine lv_iload_n hx hb dX6_soonOf_12 rfl (lv_at hl 1 rfl) ?_
    refine va_iald (D := (dC, dI)) hx hb hK hP 1 0 rfl rfl (vp_in_nI (n := i) (N := 1957) (by omega) (by omega)) dX6_soonOf_13 ?_
    refine lv_topi (fun x_3 ex_3 => ?_)
    rw [nI_clamp (n := i) (by omega)] at ex_3
    refine lv_goto (tgt := 19) hx hb dX6_soonOf_14 (by decide) ?_
    exact W.iret (v := x_3) hx hb hr (fun t ht hW => ⟨x_3, rfl, ex_3, ht⟩) (fun q h => by cases h) dX6_soonOf_19

set_option maxHeartbeats 4000000 in
set_option maxRecDepth 100000 in
theorem kX6_kindOf (l : Launch) (dC : Nat → ClassId) (dI : Nat → Nat → Nat) (cyI cyZ : ClassId) (wk mo wy nw ol lt es sf sl so la li ru : Nat) (sc d15 d16 d17 d18 : Int32) (z : Nat) (hz : z ≤ 256) (nn : Int32) (wf : Nat → Int32) (hw : ∀ i, i < z → ∃ x, x < 256 ∧ nb_bc (nI x) = nn ∧ wf i = nI x) (fso fla : Nat → Int32) (hso : ∀ i, i < z → fso i = sp_tk nn) (hla : ∀ i, i < z → fla i = sp_tk nn) (i : Nat) (hi : i < z) : Met l yX6_kindOf wsX6_kindOf ({ frames := 2, cells := 0, slots := 0, locals := 42 }) (bs_R dC dI cyI cyZ [.ref wk, .int (nI i)] [(wk, .inr (4, [.ref mo, .ref wy, .ref nw, .ref ol, .ref lt, .ref es, .ref sf, .ref sl, .ref so, .ref la, .ref li, .ref ru, .int 8, .int sc, .int (nI z), .int d15, .int d16, .int d17, .int d18, .int 0])), (wy, .inl (cyI, 1957, .inl wf)), (so, .inl (cyI, 1957, .inl fso)), (la, .inl (cyI, 1957, .inl fla))]) (vp_Si (fun r : Int32 => r = sp_kd nn)) 0 0 (fun _ => False) := by
  refine Met.ofW (cc := cX6_kindOf) (maxL := 2) (ret := (some .int)) (by decide) rfl ?_
  intro p e s m args below meth c s₁ B hml hv
  obtain ⟨rfl, hB, hP⟩ := hv
  have hK := hB.1
  have hN := hB.2
  have hx := B.exec
  have hb := B.bytes
  have hr := B.returns
  have hts := atoms_spec (ws := wsX6_kindOf) B.pre
  have hown : s.vm.findClass RX6 = some m.cls := findClass_of_methodNamed B.named
  have hlocks := B.notSynchronized
  have hP : va_P (dC, dI) vwCl [(wk, .inr (4, [.ref mo, .ref wy, .ref nw, .ref ol, .ref lt, .ref es, .ref sf, .ref sl, .ref so, .ref la, .ref li, .ref ru, .int 8, .int sc, .int (nI z), .int d15, .int d16, .int d17, .int d18, .int 0])), (wy, .inl (cyI, 1957, .inl wf)), (so, .inl (cyI, 1957, .inl fso)), (la, .inl (cyI, 1957, .inl fla))] s.heap := hP
  have hl := lv_entry ([.ref wk, .int (nI i)]) (n := 2) (Nat.le_of_ble_eq_true rfl)
  rw [lg_entry_eq]
  generalize (lg_sl ([.ref wk, .int (nI i)]) ++ List.replicate (2 - (lg_sl ([.ref wk, .int (nI i)])).length) Slot.unset).toArray = ls at hl ⊢
  have hl : lv_has ls 2 [(0, .ref wk), (1, .int (nI i))] := hl
  refine lv_aload_n hx hb dX6_kindOf_0 rfl (lv_at hl 0 rfl) ?_
  refine lv_iload_n hx hb dX6_kindOf_1 rfl (lv_at hl 1 rfl) ?_
  refine vp_callSi (va_Run.run (va_runV (As := [.int (nI i)]) (rest := []) ⟨hx, hb, hml, hown, hts⟩ (kX6_hasMet l dC dI cyI cyZ wk mo wy nw ol lt es sf sl so la li ru sc d15 d16 d17 d18 z hz nn wf hw i (by omega)) (cwV 1 hts gX6_kindOf_X6_hasMet rfl rfl rfl (by decide +kernel) ⟨Nat.le_of_ble_eq_true rfl, Nat.le_of_ble_eq_true rfl⟩) (bs_RV hB (hP.sub (ws' := [(wk, .inr (4, [.ref mo, .ref wy, .ref nw, .ref ol, .ref lt, .ref es, .ref sf, .ref sl, .ref so, .ref la, .ref li, .ref ru, .int 8, .int sc, .int (nI z), .int d15, .int d16, .int d17, .int d18, .int 0])), (wy, .inl (cyI, 1957, .inl wf))]) [0, 1] rfl) 0 rfl rfl) rfl rfl hl.1 rfl (lv_room (Nat.le_of_ble_eq_true rfl)) dX6_kindOf_2 ⟨Nat.le_of_ble_eq_true rfl, Nat.le_of_ble_eq_true rfl⟩)) (fun r_1 hr_1 => ?_)
  refine lv_if_eq (tgt := 10) hx hb dX6_kindOf_5 (by decide) (fun c_2 => ?_) (fun c_2 => ?_)
  · skip
    have ic_2 := ci_eq (rfl : Int32.toInt r_1 = _) (show Int32.toInt 0 = 0 by decide) c_2
    have hn1 : ¬ nn = 1 := fun q => absurd c_2 (by rw [hr_1, if_pos q]; decide)
    refine lv_aload_n hx hb dX6_kindOf_10 rfl (lv_at hl 0 rfl) ?_
    refine lv_iload_n hx hb dX6_kindOf_11 rfl (lv_at hl 1 rfl) ?_
    refine vp_callSi (va_Run.run (va_runV (As := [.int (nI i)]) (rest := []) ⟨hx, hb, hml, hown, hts⟩ (kX6_lateOf l dC dI cyI cyZ wk mo wy nw ol lt es sf sl so la li ru sc d15 d16 d17 d18 z hz fla i (by omega)) (cwV 1 hts gX6_kindOf_X6_lateOf rfl rfl rfl (by decide +kernel) ⟨Nat.le_of_ble_eq_true rfl, Nat.le_of_ble_eq_true rfl⟩) (bs_RV hB (hP.sub (ws' := [(wk, .inr (4, [.ref mo, .ref wy, .ref nw, .ref ol, .ref lt, .ref es, .ref sf, .ref sl, .ref so, .ref la, .ref li, .ref ru, .int 8, .int sc, .int (nI z), .int d15, .int d16, .int d17, .int d18, .int 0])), (la, .inl (cyI, 1957, .inl fla))]) [0, 3] rfl) 0 rfl rfl) rfl rfl hl.1 rfl (lv_room (Nat.le_of_ble_eq_true rfl)) dX6_kindOf_12 ⟨Nat.le_of_ble_eq_true rfl, Nat.le_of_ble_eq_true rfl⟩)) (fun r_3 hr_3 => ?_)
    have thr_3 := hr_3.trans (hla _ hi)
    refine lv_bipush (v := (-6)) hx hb dX6_kindOf_15 (by decide) ?_
    refine lv_icmp_eq (tgt := 22) hx hb dX6_kindOf_17 (by decide) (fun c_4 => ?_) (fun c_4 => ?_)
    · skip
      have ic_4 := ci_eq (rfl : Int32.toInt r_3 = _) (show Int32.toInt (-6) = -6 by decide) c_4
      refine lv_aload_n hx hb dX6_kindOf_22 rfl (lv_at hl 0 rfl) ?_
      refine lv_iload_n hx hb dX6_kindOf_23 rfl (lv_at hl 1 rfl) ?_
      refine vp_callSi (va_Run.run (va_runV (As := [.int (nI i)]) (rest := []) ⟨hx, hb, hml, hown, hts⟩ (kX6_soonOf l dC dI cyI cyZ wk mo wy nw ol lt es sf sl so la li ru sc d15 d16 d17 d18 z hz fso i (by omega)) (cwV 1 hts gX6_kindOf_X6_soonOf rfl rfl rfl (by decide +kernel) ⟨Nat.le_of_ble_eq_true rfl, Nat.le_of_ble_eq_true rfl⟩) (bs_RV hB (hP.sub (ws' := [(wk, .inr (4, [.ref mo, .ref wy, .ref nw, .ref ol, .ref lt, .ref es, .ref sf, .ref sl, .ref so, .ref la, .ref li, .ref ru, .int 8, .int sc, .int (nI z), .int d15, .int d16, .int d17, .int d18, .int 0])), (so, .inl (cyI, 1957, .inl fso))]) [0, 2] rfl) 0 rfl rfl) rfl rfl hl.1 rfl (lv_room (Nat.le_of_ble_eq_true rfl)) dX6_kindOf_24 ⟨Nat.le_of_ble_eq_true rfl, Nat.le_of_ble_eq_true rfl⟩)) (fun r_5 hr_5 => ?_)
      have thr_5 := hr_5.trans (hso _ hi)
      refine lv_bipush (v := (-6)) hx hb dX6_kindOf_27 (by decide) ?_
      refine lv_icmp_eq (tgt := 36) hx hb dX6_kindOf_29 (by decide) (fun c_6 => ?_) (fun c_6 => ?_)
      · skip
        have ic_6 := ci_eq (rfl : Int32.toInt r_5 = _) (show Int32.toInt (-6) = -6 by decide) c_6
        refine lv_iconst (v := 3) hx hb dX6_kindOf_36 (by decide) ?_
        exact W.iret (v := 3) hx hb hr (fun t ht hW => ⟨3, rfl, (show (3 : Int32) = sp_kd nn by unfold sp_kd; rw [if_neg hn1]), ht⟩) (fun q h => by cases h) dX6_kindOf_37
      · skip
        have ic_6 := ci_ne (rfl : Int32.toInt r_5 = _) (show Int32.toInt (-6) = -6 by decide) c_6
        exact absurd (by rw [thr_5]; unfold sp_tk; rw [if_neg hn1]) c_6
    · skip
      have ic_4 := ci_ne (rfl : Int32.toInt r_3 = _) (show Int32.toInt (-6) = -6 by decide) c_4
      exact absurd (by rw [thr_3]; unfold sp_tk; rw [if_neg hn1]) c_4
  · skip
    have ic_2 := ci_ne (rfl : Int32.toInt r_1 = _) (show Int32.toInt 0 = 0 by decide) c_2
    refine lv_iconst (v := 0) hx hb dX6_kindOf_8 (by decide) ?_
    exact W.iret (v := 0) hx hb hr (fun t ht hW => ⟨0, rfl, (show (0 : Int32) = sp_kd nn by unfold sp_kd; by_cases q : nn = 1; rw [if_pos q]; exact absurd (by rw [hr_1, if_neg q]) c_2), ht⟩) (fun q h => by cases h) dX6_kindOf_9
