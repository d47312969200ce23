set_option maxHeartbeats 4000000 in
set_option maxRecDepth 100000 in
theorem mX5_has (l : Launch) (dC : Nat → ClassId) (dI : Nat → Nat → Nat) (cyI cyZ : ClassId) (p0 : Int32) (p1 : Int32)  : Met l yX5_has wsX5_has ({ frames := 0, cells := 0, slots := 0, locals := 0 }) (bs_R dC dI cyI cyZ [.int p0, .int p1] []) (vp_Si (fun r : Int32 => r = 0 ∨ r = 1)) 0 0 (fun _ => False) := by
  refine Met.ofW (cc := cX5_has) (maxL := 2) (ret := (some .boolean)) (by decide) rfl ?_
  intro p e s m args below meth c s₁ B hml hv
  obtain ⟨rfl, hB, hP⟩ := hv
  have hK := hB.1
  have hN := hB.2
  have hx := B.exec
  have hb := B.bytes
  have hr := B.returns
  have hts := atoms_spec (ws := wsX5_has) B.pre
  have hown : s.vm.findClass RX5 = some m.cls := findClass_of_methodNamed B.named
  have hlocks := B.notSynchronized
  have hP : va_P (dC, dI) vwCl [] s.heap := hP
  have hl := lv_entry ([.int p0, .int p1]) (n := 2) (Nat.le_of_ble_eq_true rfl)
  rw [lg_entry_eq]
  generalize (lg_sl ([.int p0, .int p1]) ++ List.replicate (2 - (lg_sl ([.int p0, .int p1])).length) Slot.unset).toArray = ls at hl ⊢
  have hl : lv_has ls 2 [(0, .int p0), (1, .int p1)] := hl
  refine lv_iload_n hx hb dX5_has_0 rfl (lv_at hl 1 rfl) ?_
  refine lv_if_lt (tgt := 22) hx hb dX5_has_1 (by decide) (fun c_1 => ?_) (fun c_1 => ?_)
  · skip
    have ic_1 := ci_lt (rfl : Int32.toInt p1 = _) (show Int32.toInt 0 = 0 by decide) c_1
    refine lv_iconst (v := 0) hx hb dX5_has_22 (by decide) ?_
    exact W.zret (v := 0) hx hb hr (show narrow .boolean (.int 0) = .int 0 from rfl) (fun t ht hW => ⟨0, rfl, Or.inl rfl, ht⟩) (fun q h => by cases h) dX5_has_23
  · skip
    have ic_1 := ci_nlt (rfl : Int32.toInt p1 = _) (show Int32.toInt 0 = 0 by decide) c_1
    refine lv_iload_n hx hb dX5_has_4 rfl (lv_at hl 1 rfl) ?_
    refine lv_bipush (v := 10) hx hb dX5_has_5 (by decide) ?_
    refine lv_icmp_ge (tgt := 22) hx hb dX5_has_7 (by decide) (fun c_2 => ?_) (fun c_2 => ?_)
    · skip
      have ic_2 := ci_le (show Int32.toInt 10 = 10 by decide) (rfl : Int32.toInt p1 = _) c_2
      refine lv_iconst (v := 0) hx hb dX5_has_22 (by decide) ?_
      exact W.zret (v := 0) hx hb hr (show narrow .boolean (.int 0) = .int 0 from rfl) (fun t ht hW => ⟨0, rfl, Or.inl rfl, ht⟩) (fun q h => by cases h) dX5_has_23
    · skip
      have ic_2 := ci_nle (show Int32.toInt 10 = 10 by decide) (rfl : Int32.toInt p1 = _) c_2
      refine lv_iload_n hx hb dX5_has_10 rfl (lv_at hl 0 rfl) ?_
      refine lv_iload_n hx hb dX5_has_11 rfl (lv_at hl 1 rfl) ?_
      refine lv_ishr hx hb dX5_has_12 ?_
      refine lv_topi (fun x_3 ex_3 => ?_)
      refine lv_iconst (v := 1) hx hb dX5_has_13 (by decide) ?_
      refine lv_iand hx hb dX5_has_14 ?_
      refine lv_topi (fun x_4 ex_4 => ?_)
      refine lv_if_eq (tgt := 22) hx hb dX5_has_15 (by decide) (fun c_5 => ?_) (fun c_5 => ?_)
      · skip
        have ic_5 := ci_eq (rfl : Int32.toInt x_4 = _) (show Int32.toInt 0 = 0 by decide) c_5
        refine lv_iconst (v := 0) hx hb dX5_has_22 (by decide) ?_
        exact W.zret (v := 0) hx hb hr (show narrow .boolean (.int 0) = .int 0 from rfl) (fun t ht hW => ⟨0, rfl, Or.inl rfl, ht⟩) (fun q h => by cases h) dX5_has_23
      · skip
        have ic_5 := ci_ne (rfl : Int32.toInt x_4 = _) (show Int32.toInt 0 = 0 by decide) c_5
        refine lv_iconst (v := 1) hx hb dX5_has_18 (by decide) ?_
        refine lv_goto (tgt := 23) hx hb dX5_has_19 (by decide) ?_
        exact W.zret (v := 1) hx hb hr (show narrow .boolean (.int 1) = .int 1 from rfl) (fun t ht hW => ⟨1, rfl, Or.inr rfl, ht⟩) (fun q h => by cases h) dX5_has_23

set_option maxHeartbeats 4000000 in
set_option maxRecDepth 100000 in
theorem mX5_cellNextTo (l : Launch) (dC : Nat → ClassId) (dI : Nat → Nat → Nat) (cyI cyZ : ClassId) (p0 : Int32) (p1 : Int32) (p2 : Int32)  : Met l yX5_cellNextTo wsX5_cellNextTo ({ frames := 0, cells := 0, slots := 0, locals := 0 }) (bs_R dC dI cyI cyZ [.int p0, .int p1, .int p2] []) (vp_Si (fun r : Int32 => True)) 0 0 (fun _ => False) := by
  refine Met.ofW (cc := cX5_cellNextTo) (maxL := 3) (ret := (some .int)) (by decide) rfl ?_
  intro p e s m args below meth c s₁ B hml hv
  obtain ⟨rfl, hB, hP⟩ := hv
  have hK := hB.1
  have hN := hB.2
  have hx := B.exec
  have hb := B.bytes
  have hr := B.returns
  have hts := atoms_spec (ws := wsX5_cellNextTo) B.pre
  have hown : s.vm.findClass RX5 = some m.cls := findClass_of_methodNamed B.named
  have hlocks := B.notSynchronized
  have hP : va_P (dC, dI) vwCl [] s.heap := hP
  have hl := lv_entry ([.int p0, .int p1, .int p2]) (n := 3) (Nat.le_of_ble_eq_true rfl)
  rw [lg_entry_eq]
  generalize (lg_sl ([.int p0, .int p1, .int p2]) ++ List.replicate (3 - (lg_sl ([.int p0, .int p1, .int p2])).length) Slot.unset).toArray = ls at hl ⊢
  have hl : lv_has ls 3 [(0, .int p0), (1, .int p1), (2, .int p2)] := hl
  refine lv_iload_n hx hb dX5_cellNextTo_0 rfl (lv_at hl 2 rfl) ?_
  refine lv_if_ne (tgt := 19) hx hb dX5_cellNextTo_1 (by decide) (fun c_1 => ?_) (fun c_1 => ?_)
  · skip
    have ic_1 := ci_ne (rfl : Int32.toInt p2 = _) (show Int32.toInt 0 = 0 by decide) c_1
    refine lv_iload_n hx hb dX5_cellNextTo_19 rfl (lv_at hl 1 rfl) ?_
    refine lv_if_gt (tgt := 29) hx hb dX5_cellNextTo_20 (by decide) (fun c_2 => ?_) (fun c_2 => ?_)
    · skip
      have ic_2 := ci_lt (show Int32.toInt 0 = 0 by decide) (rfl : Int32.toInt p1 = _) c_2
      refine lv_iload_n hx hb dX5_cellNextTo_29 rfl (lv_at hl 1 rfl) ?_
      refine lv_iconst (v := 1) hx hb dX5_cellNextTo_30 (by decide) ?_
      refine lv_isub hx hb dX5_cellNextTo_31 ?_
      refine lv_topi (fun x_3 ex_3 => ?_)
      exact W.iret (v := x_3) hx hb hr (fun t ht hW => ⟨x_3, rfl, trivial, ht⟩) (fun q h => by cases h) dX5_cellNextTo_32
    · skip
      have ic_2 := ci_nlt (show Int32.toInt 0 = 0 by decide) (rfl : Int32.toInt p1 = _) c_2
      refine lv_iload_n hx hb dX5_cellNextTo_23 rfl (lv_at hl 0 rfl) ?_
      refine lv_iconst (v := 1) hx hb dX5_cellNextTo_24 (by decide) ?_
      refine lv_isub hx hb dX5_cellNextTo_25 ?_
      refine lv_topi (fun x_4 ex_4 => ?_)
      refine lv_goto (tgt := 32) hx hb dX5_cellNextTo_26 (by decide) ?_
      exact W.iret (v := x_4) hx hb hr (fun t ht hW => ⟨x_4, rfl, trivial, ht⟩) (fun q h => by cases h) dX5_cellNextTo_32
  · skip
    have ic_1 := ci_eq (rfl : Int32.toInt p2 = _) (show Int32.toInt 0 = 0 by decide) c_1
    refine lv_iload_n hx hb dX5_cellNextTo_4 rfl (lv_at hl 1 rfl) ?_
    refine lv_iconst (v := 1) hx hb dX5_cellNextTo_5 (by decide) ?_
    refine lv_iadd hx hb dX5_cellNextTo_6 ?_
    refine lv_topi (fun x_5 ex_5 => ?_)
    refine lv_iload_n hx hb dX5_cellNextTo_7 rfl (lv_at hl 0 rfl) ?_
    refine lv_icmp_lt (tgt := 15) hx hb dX5_cellNextTo_8 (by decide) (fun c_6 => ?_) (fun c_6 => ?_)
    · skip
      have ic_6 := ci_lt (rfl : Int32.toInt x_5 = _) (rfl : Int32.toInt p0 = _) c_6
      refine lv_iload_n hx hb dX5_cellNextTo_15 rfl (lv_at hl 1 rfl) ?_
      refine lv_iconst (v := 1) hx hb dX5_cellNextTo_16 (by decide) ?_
      refine lv_iadd hx hb dX5_cellNextTo_17 ?_
      refine lv_topi (fun x_7 ex_7 => ?_)
      exact W.iret (v := x_7) hx hb hr (fun t ht hW => ⟨x_7, rfl, trivial, ht⟩) (fun q h => by cases h) dX5_cellNextTo_18
    · skip
      have ic_6 := ci_nlt (rfl : Int32.toInt x_5 = _) (rfl : Int32.toInt p0 = _) c_6
      refine lv_iconst (v := 0) hx hb dX5_cellNextTo_11 (by decide) ?_
      refine lv_goto (tgt := 18) hx hb dX5_cellNextTo_12 (by decide) ?_
      exact W.iret (v := 0) hx hb hr (fun t ht hW => ⟨0, rfl, trivial, ht⟩) (fun q h => by cases h) dX5_cellNextTo_18

set_option maxHeartbeats 4000000 in
set_option maxRecDepth 100000 in
theorem mX5_standsOf (l : Launch) (dC : Nat → ClassId) (dI : Nat → Nat → Nat) (cyI cyZ : ClassId) (p0 : Int32)  : Met l yX5_standsOf wsX5_standsOf ({ frames := 0, cells := 0, slots := 0, locals := 0 }) (bs_R dC dI cyI cyZ [.int p0] []) (vp_Si (fun r : Int32 => 0 ≤ r.toInt ∧ r.toInt < 1024)) 0 0 (fun _ => False) := by
  refine Met.ofW (cc := cX5_standsOf) (maxL := 1) (ret := (some .int)) (by decide) rfl ?_
  intro p e s m args below meth c s₁ B hml hv
  obtain ⟨rfl, hB, hP⟩ := hv
  have hK := hB.1
  have hN := hB.2
  have hx := B.exec
  have hb := B.bytes
  have hr := B.returns
  have hts := atoms_spec (ws := wsX5_standsOf) B.pre
  have hown : s.vm.findClass RX5 = some m.cls := findClass_of_methodNamed B.named
  have hlocks := B.notSynchronized
  have hP : va_P (dC, dI) vwCl [] s.heap := hP
  have hl := lv_entry ([.int p0]) (n := 1) (Nat.le_of_ble_eq_true rfl)
  rw [lg_entry_eq]
  generalize (lg_sl ([.int p0]) ++ List.replicate (1 - (lg_sl ([.int p0])).length) Slot.unset).toArray = ls at hl ⊢
  have hl : lv_has ls 1 [(0, .int p0)] := hl
  refine lv_iload_n hx hb dX5_standsOf_0 rfl (lv_at hl 0 rfl) ?_
  refine lv_sipush (v := 1023) hx hb dX5_standsOf_1 (by decide) ?_
  refine lv_iand hx hb dX5_standsOf_4 ?_
  refine lv_topi (fun x_1 ex_1 => ?_)
  exact W.iret (v := x_1) hx hb hr (fun t ht hW => ⟨x_1, rfl, (by rw [ex_1]; exact nb_1023 p0), ht⟩) (fun q h => by cases h) dX5_standsOf_5

set_option maxHeartbeats 4000000 in
set_option maxRecDepth 100000 in
theorem mX5_towersOf (l : Launch) (dC : Nat → ClassId) (dI : Nat → Nat → Nat) (cyI cyZ : ClassId) (p0 : Int32)  : Met l yX5_towersOf wsX5_towersOf ({ frames := 0, cells := 0, slots := 0, locals := 0 }) (bs_R dC dI cyI cyZ [.int p0] []) (vp_Si (fun r : Int32 => True)) 0 0 (fun _ => False) := by
  refine Met.ofW (cc := cX5_towersOf) (maxL := 1) (ret := (some .int)) (by decide) rfl ?_
  intro p e s m args below meth c s₁ B hml hv
  obtain ⟨rfl, hB, hP⟩ := hv
  have hK := hB.1
  have hN := hB.2
  have hx := B.exec
  have hb := B.bytes
  have hr := B.returns
  have hts := atoms_spec (ws := wsX5_towersOf) B.pre
  have hown : s.vm.findClass RX5 = some m.cls := findClass_of_methodNamed B.named
  have hlocks := B.notSynchronized
  have hP : va_P (dC, dI) vwCl [] s.heap := hP
  have hl := lv_entry ([.int p0]) (n := 1) (Nat.le_of_ble_eq_true rfl)
  rw [lg_entry_eq]
  generalize (lg_sl ([.int p0]) ++ List.replicate (1 - (lg_sl ([.int p0])).length) Slot.unset).toArray = ls at hl ⊢
  have hl : lv_has ls 1 [(0, .int p0)] := hl
  refine lv_iload_n hx hb dX5_towersOf_0 rfl (lv_at hl 0 rfl) ?_
  refine lv_bipush (v := 10) hx hb dX5_towersOf_1 (by decide) ?_
  refine lv_ishr hx hb dX5_towersOf_3 ?_
  refine lv_topi (fun x_1 ex_1 => ?_)
  exact W.iret (v := x_1) hx hb hr (fun t ht hW => ⟨x_1, rfl, trivial, ht⟩) (fun q h => by cases h) dX5_towersOf_4

set_option maxHeartbeats 4000000 in
set_option maxRecDepth 100000 in
theorem mX5_turnedUp (l : Launch) (dC : Nat → ClassId) (dI : Nat → Nat → Nat) (cyI cyZ : ClassId) (p0 : Int32) (p1 : Int32)  : Met l yX5_turnedUp wsX5_turnedUp ({ frames := 0, cells := 0, slots := 0, locals := 0 }) (bs_R dC dI cyI cyZ [.int p0, .int p1] []) (vp_Si (fun r : Int32 => True)) 0 0 (fun _ => False) := by
  refine Met.ofW (cc := cX5_turnedUp) (maxL := 2) (ret := (some .int)) (by decide) rfl ?_
  intro p e s m args below meth c s₁ B hml hv
  obtain ⟨rfl, hB, hP⟩ := hv
  have hK := hB.1
  have hN := hB.2
  have hx := B.exec
  have hb := B.bytes
  have hr := B.returns
  have hts := atoms_spec (ws := wsX5_turnedUp) B.pre
  have hown : s.vm.findClass RX5 = some m.cls := findClass_of_methodNamed B.named
  have hlocks := B.notSynchronized
  have hP : va_P (dC, dI) vwCl [] s.heap := hP
  have hl := lv_entry ([.int p0, .int p1]) (n := 2) (Nat.le_of_ble_eq_true rfl)
  rw [lg_entry_eq]
  generalize (lg_sl ([.int p0, .int p1]) ++ List.replicate (2 - (lg_sl ([.int p0, .int p1])).length) Slot.unset).toArray = ls at hl ⊢
  have hl : lv_has ls 2 [(0, .int p0), (1, .int p1)] := hl
  refine lv_iload_n hx hb dX5_turnedUp_0 rfl (lv_at hl 1 rfl) ?_
  refine lv_iconst (v := 1) hx hb dX5_turnedUp_1 (by decide) ?_
  refine lv_ishl hx hb dX5_turnedUp_2 ?_
  refine lv_topi (fun x_1 ex_1 => ?_)
  refine lv_iload_n hx hb dX5_turnedUp_3 rfl (lv_at hl 1 rfl) ?_
  refine lv_iload_n hx hb dX5_turnedUp_4 rfl (lv_at hl 0 rfl) ?_
  refine lv_iconst (v := 1) hx hb dX5_turnedUp_5 (by decide) ?_
  refine lv_isub hx hb dX5_turnedUp_6 ?_
  refine lv_topi (fun x_2 ex_2 => ?_)
  refine lv_ishr hx hb dX5_turnedUp_7 ?_
  refine lv_topi (fun x_3 ex_3 => ?_)
  refine lv_ior hx hb dX5_turnedUp_8 ?_
  refine lv_topi (fun x_4 ex_4 => ?_)
  refine lv_iconst (v := 1) hx hb dX5_turnedUp_9 (by decide) ?_
  refine lv_iload_n hx hb dX5_turnedUp_10 rfl (lv_at hl 0 rfl) ?_
  refine lv_ishl hx hb dX5_turnedUp_11 ?_
  refine lv_topi (fun x_5 ex_5 => ?_)
  refine lv_iconst (v := 1) hx hb dX5_turnedUp_12 (by decide) ?_
  refine lv_isub hx hb dX5_turnedUp_13 ?_
  refine lv_topi (fun x_6 ex_6 => ?_)
  refine lv_iand hx hb dX5_turnedUp_14 ?_
  refine lv_topi (fun x_7 ex_7 => ?_)
  exact W.iret (v := x_7) hx hb hr (fun t ht hW => ⟨x_7, rfl, trivial, ht⟩) (fun q h => by cases h) dX5_turnedUp_15

set_option maxHeartbeats 4000000 in
set_option maxRecDepth 100000 in
theorem mX5_turnedDown (l : Launch) (dC : Nat → ClassId) (dI : Nat → Nat → Nat) (cyI cyZ : ClassId) (p0 : Int32) (p1 : Int32)  : Met l yX5_turnedDown wsX5_turnedDown ({ frames := 0, cells := 0, slots := 0, locals := 0 }) (bs_R dC dI cyI cyZ [.int p0, .int p1] []) (vp_Si (fun r : Int32 => True)) 0 0 (fun _ => False) := by
  refine Met.ofW (cc := cX5_turnedDown) (maxL := 2) (ret := (some .int)) (by decide) rfl ?_
  intro p e s m args below meth c s₁ B hml hv
  obtain ⟨rfl, hB, hP⟩ := hv
  have hK := hB.1
  have hN := hB.2
  have hx := B.exec
  have hb := B.bytes
  have hr := B.returns
  have hts := atoms_spec (ws := wsX5_turnedDown) B.pre
  have hown : s.vm.findClass RX5 = some m.cls := findClass_of_methodNamed B.named
  have hlocks := B.notSynchronized
  have hP : va_P (dC, dI) vwCl [] s.heap := hP
  have hl := lv_entry ([.int p0, .int p1]) (n := 2) (Nat.le_of_ble_eq_true rfl)
  rw [lg_entry_eq]
  generalize (lg_sl ([.int p0, .int p1]) ++ List.replicate (2 - (lg_sl ([.int p0, .int p1])).length) Slot.unset).toArray = ls at hl ⊢
  have hl : lv_has ls 2 [(0, .int p0), (1, .int p1)] := hl
  refine lv_iload_n hx hb dX5_turnedDown_0 rfl (lv_at hl 1 rfl) ?_
  refine lv_iconst (v := 1) hx hb dX5_turnedDown_1 (by decide) ?_
  refine lv_ishr hx hb dX5_turnedDown_2 ?_
  refine lv_topi (fun x_1 ex_1 => ?_)
  refine lv_iload_n hx hb dX5_turnedDown_3 rfl (lv_at hl 1 rfl) ?_
  refine lv_iload_n hx hb dX5_turnedDown_4 rfl (lv_at hl 0 rfl) ?_
  refine lv_iconst (v := 1) hx hb dX5_turnedDown_5 (by decide) ?_
  refine lv_isub hx hb dX5_turnedDown_6 ?_
  refine lv_topi (fun x_2 ex_2 => ?_)
  refine lv_ishl hx hb dX5_turnedDown_7 ?_
  refine lv_topi (fun x_3 ex_3 => ?_)
  refine lv_ior hx hb dX5_turnedDown_8 ?_
  refine lv_topi (fun x_4 ex_4 => ?_)
  refine lv_iconst (v := 1) hx hb dX5_turnedDown_9 (by decide) ?_
  refine lv_iload_n hx hb dX5_turnedDown_10 rfl (lv_at hl 0 rfl) ?_
  refine lv_ishl hx hb dX5_turnedDown_11 ?_
  refine lv_topi (fun x_5 ex_5 => ?_)
  refine lv_iconst (v := 1) hx hb dX5_turnedDown_12 (by decide) ?_
  refine lv_isub hx hb dX5_turnedDown_13 ?_
  refine lv_topi (fun x_6 ex_6 => ?_)
  refine lv_iand hx hb dX5_turnedDown_14 ?_
  refine lv_topi (fun x_7 ex_7 => ?_)
  exact W.iret (v := x_7) hx hb hr (fun t ht hW => ⟨x_7, rfl, trivial, ht⟩) (fun q h => by cases h) dX5_turnedDown_15

set_option maxHeartbeats 4000000 in
set_option maxRecDepth 100000 in
theorem mX5_way (l : Launch) (dC : Nat → ClassId) (dI : Nat → Nat → Nat) (cyI cyZ : ClassId) (p0 : Int32) (p1 : Int32)  : Met l yX5_way wsX5_way ({ frames := 0, cells := 0, slots := 0, locals := 0 }) (bs_R dC dI cyI cyZ [.int p0, .int p1] []) (vp_Si (fun r : Int32 => True)) 0 0 (fun _ => False) := by
  refine Met.ofW (cc := cX5_way) (maxL := 2) (ret := (some .int)) (by decide) rfl ?_
  intro p e s m args below meth c s₁ B hml hv
  obtain ⟨rfl, hB, hP⟩ := hv
  have hK := hB.1
  have hN := hB.2
  have hx := B.exec
  have hb := B.bytes
  have hr := B.returns
  have hts := atoms_spec (ws := wsX5_way) B.pre
  have hown : s.vm.findClass RX5 = some m.cls := findClass_of_methodNamed B.named
  have hlocks := B.notSynchronized
  have hP : va_P (dC, dI) vwCl [] s.heap := hP
  have hl := lv_entry ([.int p0, .int p1]) (n := 2) (Nat.le_of_ble_eq_true rfl)
  rw [lg_entry_eq]
  generalize (lg_sl ([.int p0, .int p1]) ++ List.replicate (2 - (lg_sl ([.int p0, .int p1])).length) Slot.unset).toArray = ls at hl ⊢
  have hl : lv_has ls 2 [(0, .int p0), (1, .int p1)] := hl
  refine lv_iload_n hx hb dX5_way_0 rfl (lv_at hl 0 rfl) ?_
  refine lv_iload_n hx hb dX5_way_1 rfl (lv_at hl 1 rfl) ?_
  refine lv_bipush (v := 10) hx hb dX5_way_2 (by decide) ?_
  refine lv_ishl hx hb dX5_way_4 ?_
  refine lv_topi (fun x_1 ex_1 => ?_)
  refine lv_ior hx hb dX5_way_5 ?_
  refine lv_topi (fun x_2 ex_2 => ?_)
  exact W.iret (v := x_2) hx hb hr (fun t ht hW => ⟨x_2, rfl, trivial, ht⟩) (fun q h => by cases h) dX5_way_6

set_option maxHeartbeats 4000000 in
set_option maxRecDepth 100000 in
theorem mX0_at (l : Launch) (dC : Nat → ClassId) (dI : Nat → Nat → Nat) (cyI cyZ : ClassId) (p0 : Int32) (p1 : Int32) (p2 : Int32)  : Met l yX0_at wsX0_at ({ frames := 0, cells := 0, slots := 0, locals := 0 }) (bs_R dC dI cyI cyZ [.int p0, .int p1, .int p2] []) (vp_Si (fun r : Int32 => True)) 0 0 (fun _ => False) := by
  refine Met.ofW (cc := cX0_at) (maxL := 3) (ret := (some .int)) (by decide) rfl ?_
  intro p e s m args below meth c s₁ B hml hv
  obtain ⟨rfl, hB, hP⟩ := hv
  have hK := hB.1
  have hN := hB.2
  have hx := B.exec
  have hb := B.bytes
  have hr := B.returns
  have hts := atoms_spec (ws := wsX0_at) B.pre
  have hown : s.vm.findClass RX0 = some m.cls := findClass_of_methodNamed B.named
  have hlocks := B.notSynchronized
  have hP : va_P (dC, dI) vwCl [] s.heap := hP
  have hl := lv_entry ([.int p0, .int p1, .int p2]) (n := 3) (Nat.le_of_ble_eq_true rfl)
  rw [lg_entry_eq]
  generalize (lg_sl ([.int p0, .int p1, .int p2]) ++ List.replicate (3 - (lg_sl ([.int p0, .int p1, .int p2])).length) Slot.unset).toArray = ls at hl ⊢
  have hl : lv_has ls 3 [(0, .int p0), (1, .int p1), (2, .int p2)] := hl
  refine lv_iload_n hx hb dX0_at_0 rfl (lv_at hl 0 rfl) ?_
  refine lv_iconst (v := 4) hx hb dX0_at_1 (by decide) ?_
  refine lv_iload_n hx hb dX0_at_2 rfl (lv_at hl 1 rfl) ?_
  refine lv_iconst (v := 1) hx hb dX0_at_3 (by decide) ?_
  refine lv_isub hx hb dX0_at_4 ?_
  refine lv_topi (fun x_1 ex_1 => ?_)
  refine lv_iload_n hx hb dX0_at_5 rfl (lv_at hl 2 rfl) ?_
  refine lv_isub hx hb dX0_at_6 ?_
  refine lv_topi (fun x_2 ex_2 => ?_)
  refine lv_imul hx hb dX0_at_7 ?_
  refine lv_topi (fun x_3 ex_3 => ?_)
  refine lv_ishr hx hb dX0_at_8 ?_
  refine lv_topi (fun x_4 ex_4 => ?_)
  refine lv_bipush (v := 15) hx hb dX0_at_9 (by decide) ?_
  refine lv_iand hx hb dX0_at_11 ?_
  refine lv_topi (fun x_5 ex_5 => ?_)
  exact W.iret (v := x_5) hx hb hr (fun t ht hW => ⟨x_5, rfl, trivial, ht⟩) (fun q h => by cases h) dX0_at_12

set_option maxHeartbeats 4000000 in
set_option maxRecDepth 100000 in
theorem mJ6_bitCount_0f7a4 (l : Launch) (dC : Nat → ClassId) (dI : Nat → Nat → Nat) (cyI cyZ : ClassId) (p0 : Int32)  : Met l yJ6_bitCount_0f7a4 wsJ6_bitCount_0f7a4 ({ frames := 0, cells := 0, slots := 0, locals := 0 }) (bs_R dC dI cyI cyZ [.int p0] []) (vp_Si (fun r : Int32 => True)) 0 0 (fun _ => False) := by
  refine Met.ofW (cc := cJ6_bitCount_0f7a4) (maxL := 1) (ret := (some .int)) (by decide) rfl ?_
  intro p e s m args below meth c s₁ B hml hv
  obtain ⟨rfl, hB, hP⟩ := hv
  have hK := hB.1
  have hN := hB.2
  have hx := B.exec
  have hb := B.bytes
  have hr := B.returns
  have hts := atoms_spec (ws := wsJ6_bitCount_0f7a4) B.pre
  have hown : s.vm.findClass RJ6 = some m.cls := findClass_of_methodNamed B.named
  have hlocks := B.notSynchronized
  have hP : va_P (dC, dI) vwCl [] s.heap := hP
  have hl := lv_entry ([.int p0]) (n := 1) (Nat.le_of_ble_eq_true rfl)
  rw [lg_entry_eq]
  generalize (lg_sl ([.int p0]) ++ List.replicate (1 - (lg_sl ([.int p0])).length) Slot.unset).toArray = ls at hl ⊢
  have hl : lv_has ls 1 [(0, .int p0)] := hl
  refine lv_iload_n hx hb dJ6_bitCount_0f7a4_0 rfl (lv_at hl 0 rfl) ?_
  refine lv_iload_n hx hb dJ6_bitCount_0f7a4_1 rfl (lv_at hl 0 rfl) ?_
  refine lv_iconst (v := 1) hx hb dJ6_bitCount_0f7a4_2 (by decide) ?_
  refine lv_iushr hx hb dJ6_bitCount_0f7a4_3 rfl ?_
  refine lv_topi (fun x_1 ex_1 => ?_)
  refine lv_ldcw (v := 1431655765) hx hb hown (hts (.constant RJ6 265 (1431655765)) (by decide +kernel)) dJ6_bitCount_0f7a4_4 ?_
  refine lv_iand hx hb dJ6_bitCount_0f7a4_7 ?_
  refine lv_topi (fun x_2 ex_2 => ?_)
  refine lv_isub hx hb dJ6_bitCount_0f7a4_8 ?_
  refine lv_topi (fun x_3 ex_3 => ?_)
  refine lv_istore_n (lv' := [(0, .int x_3)]) hx hb dJ6_bitCount_0f7a4_9 rfl hl (by decide) rfl (fun ls hl => ?_)
  refine lv_iload_n hx hb dJ6_bitCount_0f7a4_10 rfl (lv_at hl 0 rfl) ?_
  refine lv_ldcw (v := 858993459) hx hb hown (hts (.constant RJ6 266 (858993459)) (by decide +kernel)) dJ6_bitCount_0f7a4_11 ?_
  refine lv_iand hx hb dJ6_bitCount_0f7a4_14 ?_
  refine lv_topi (fun x_4 ex_4 => ?_)
  refine lv_iload_n hx hb dJ6_bitCount_0f7a4_15 rfl (lv_at hl 0 rfl) ?_
  refine lv_iconst (v := 2) hx hb dJ6_bitCount_0f7a4_16 (by decide) ?_
  refine lv_iushr hx hb dJ6_bitCount_0f7a4_17 rfl ?_
  refine lv_topi (fun x_5 ex_5 => ?_)
  refine lv_ldcw (v := 858993459) hx hb hown (hts (.constant RJ6 266 (858993459)) (by decide +kernel)) dJ6_bitCount_0f7a4_18 ?_
  refine lv_iand hx hb dJ6_bitCount_0f7a4_21 ?_
  refine lv_topi (fun x_6 ex_6 => ?_)
  refine lv_iadd hx hb dJ6_bitCount_0f7a4_22 ?_
  refine lv_topi (fun x_7 ex_7 => ?_)
  refine lv_istore_n (lv' := [(0, .int x_7)]) hx hb dJ6_bitCount_0f7a4_23 rfl hl (by decide) rfl (fun ls hl => ?_)
  refine lv_iload_n hx hb dJ6_bitCount_0f7a4_24 rfl (lv_at hl 0 rfl) ?_
  refine lv_iload_n hx hb dJ6_bitCount_0f7a4_25 rfl (lv_at hl 0 rfl) ?_
  refine lv_iconst (v := 4) hx hb dJ6_bitCount_0f7a4_26 (by decide) ?_
  refine lv_iushr hx hb dJ6_bitCount_0f7a4_27 rfl ?_
  refine lv_topi (fun x_8 ex_8 => ?_)
  refine lv_iadd hx hb dJ6_bitCount_0f7a4_28 ?_
  refine lv_topi (fun x_9 ex_9 => ?_)
  refine lv_ldcw (v := 252645135) hx hb hown (hts (.constant RJ6 267 (252645135)) (by decide +kernel)) dJ6_bitCount_0f7a4_29 ?_
  refine lv_iand hx hb dJ6_bitCount_0f7a4_32 ?_
  refine lv_topi (fun x_10 ex_10 => ?_)
  refine lv_istore_n (lv' := [(0, .int x_10)]) hx hb dJ6_bitCount_0f7a4_33 rfl hl (by decide) rfl (fun ls hl => ?_)
  refine lv_iload_n hx hb dJ6_bitCount_0f7a4_34 rfl (lv_at hl 0 rfl) ?_
  refine lv_iload_n hx hb dJ6_bitCount_0f7a4_35 rfl (lv_at hl 0 rfl) ?_
  refine lv_bipush (v := 8) hx hb dJ6_bitCount_0f7a4_36 (by decide) ?_
  refine lv_iushr hx hb dJ6_bitCount_0f7a4_38 rfl ?_
  refine lv_topi (fun x_11 ex_11 => ?_)
  refine lv_iadd hx hb dJ6_bitCount_0f7a4_39 ?_
  refine lv_topi (fun x_12 ex_12 => ?_)
  refine lv_istore_n (lv' := [(0, .int x_12)]) hx hb dJ6_bitCount_0f7a4_40 rfl hl (by decide) rfl (fun ls hl => ?_)
  refine lv_iload_n hx hb dJ6_bitCount_0f7a4_41 rfl (lv_at hl 0 rfl) ?_
  refine lv_iload_n hx hb dJ6_bitCount_0f7a4_42 rfl (lv_at hl 0 rfl) ?_
  refine lv_bipush (v := 16) hx hb dJ6_bitCount_0f7a4_43 (by decide) ?_
  refine lv_iushr hx hb dJ6_bitCount_0f7a4_45 rfl ?_
  refine lv_topi (fun x_13 ex_13 => ?_)
  refine lv_iadd hx hb dJ6_bitCount_0f7a4_46 ?_
  refine lv_topi (fun x_14 ex_14 => ?_)
  refine lv_istore_n (lv' := [(0, .int x_14)]) hx hb dJ6_bitCount_0f7a4_47 rfl hl (by decide) rfl (fun ls hl => ?_)
  refine lv_iload_n hx hb dJ6_bitCount_0f7a4_48 rfl (lv_at hl 0 rfl) ?_
  refine lv_bipush (v := 63) hx hb dJ6_bitCount_0f7a4_49 (by decide) ?_
  refine lv_iand hx hb dJ6_bitCount_0f7a4_51 ?_
  refine lv_topi (fun x_15 ex_15 => ?_)
  exact W.iret (v := x_15) hx hb hr (fun t ht hW => ⟨x_15, rfl, trivial, ht⟩) (fun q h => by cases h) dJ6_bitCount_0f7a4_52

set_option maxHeartbeats 4000000 in
set_option maxRecDepth 100000 in
theorem mJ6_lowestOneBit_0f7a4 (l : Launch) (dC : Nat → ClassId) (dI : Nat → Nat → Nat) (cyI cyZ : ClassId) (p0 : Int32)  : Met l yJ6_lowestOneBit_0f7a4 wsJ6_lowestOneBit_0f7a4 ({ frames := 0, cells := 0, slots := 0, locals := 0 }) (bs_R dC dI cyI cyZ [.int p0] []) (vp_Si (fun r : Int32 => True)) 0 0 (fun _ => False) := by
  refine Met.ofW (cc := cJ6_lowestOneBit_0f7a4) (maxL := 1) (ret := (some .int)) (by decide) rfl ?_
  intro p e s m args below meth c s₁ B hml hv
  obtain ⟨rfl, hB, hP⟩ := hv
  have hK := hB.1
  have hN := hB.2
  have hx := B.exec
  have hb := B.bytes
  have hr := B.returns
  have hts := atoms_spec (ws := wsJ6_lowestOneBit_0f7a4) B.pre
  have hown : s.vm.findClass RJ6 = some m.cls := findClass_of_methodNamed B.named
  have hlocks := B.notSynchronized
  have hP : va_P (dC, dI) vwCl [] s.heap := hP
  have hl := lv_entry ([.int p0]) (n := 1) (Nat.le_of_ble_eq_true rfl)
  rw [lg_entry_eq]
  generalize (lg_sl ([.int p0]) ++ List.replicate (1 - (lg_sl ([.int p0])).length) Slot.unset).toArray = ls at hl ⊢
  have hl : lv_has ls 1 [(0, .int p0)] := hl
  refine lv_iload_n hx hb dJ6_lowestOneBit_0f7a4_0 rfl (lv_at hl 0 rfl) ?_
  refine lv_iload_n hx hb dJ6_lowestOneBit_0f7a4_1 rfl (lv_at hl 0 rfl) ?_
  refine lv_ineg hx hb dJ6_lowestOneBit_0f7a4_2 ?_
  refine lv_topi (fun x_1 ex_1 => ?_)
  refine lv_iand hx hb dJ6_lowestOneBit_0f7a4_3 ?_
  refine lv_topi (fun x_2 ex_2 => ?_)
  exact W.iret (v := x_2) hx hb hr (fun t ht hW => ⟨x_2, rfl, trivial, ht⟩) (fun q h => by cases h) dJ6_lowestOneBit_0f7a4_4

set_option maxHeartbeats 4000000 in
set_option maxRecDepth 100000 in
theorem mX3_isSo (l : Launch) (dC : Nat → ClassId) (dI : Nat → Nat → Nat) (cyI cyZ : ClassId) (p0 : Int32) (p1 : Int32) (p2 : Int32)  : Met l yX3_isSo wsX3_isSo ({ frames := 0, cells := 0, slots := 0, locals := 0 }) (bs_R dC dI cyI cyZ [.int p0, .int p1, .int p2] []) (vp_Si (fun r : Int32 => r = 0 ∨ r = 1)) 0 0 (fun _ => False) := by
  refine Met.ofW (cc := cX3_isSo) (maxL := 3) (ret := (some .boolean)) (by decide) rfl ?_
  intro p e s m args below meth c s₁ B hml hv
  obtain ⟨rfl, hB, hP⟩ := hv
  have hK := hB.1
  have hN := hB.2
  have hx := B.exec
  have hb := B.bytes
  have hr := B.returns
  have hts := atoms_spec (ws := wsX3_isSo) B.pre
  have hown : s.vm.findClass RX3 = some m.cls := findClass_of_methodNamed B.named
  have hlocks := B.notSynchronized
  have hP : va_P (dC, dI) vwCl [] s.heap := hP
  have hl := lv_entry ([.int p0, .int p1, .int p2]) (n := 3) (Nat.le_of_ble_eq_true rfl)
  rw [lg_entry_eq]
  generalize (lg_sl ([.int p0, .int p1, .int p2]) ++ List.replicate (3 - (lg_sl ([.int p0, .int p1, .int p2])).length) Slot.unset).toArray = ls at hl ⊢
  have hl : lv_has ls 3 [(0, .int p0), (1, .int p1), (2, .int p2)] := hl
  refine lv_iload_n hx hb dX3_isSo_0 rfl (lv_at hl 1 rfl) ?_
  refine lv_if_ne (tgt := 15) hx hb dX3_isSo_1 (by decide) (fun c_1 => ?_) (fun c_1 => ?_)
  · skip
    have ic_1 := ci_ne (rfl : Int32.toInt p1 = _) (show Int32.toInt 0 = 0 by decide) c_1
    refine lv_iload_n hx hb dX3_isSo_15 rfl (lv_at hl 1 rfl) ?_
    refine lv_iconst (v := 1) hx hb dX3_isSo_16 (by decide) ?_
    refine lv_icmp_ne (tgt := 33) hx hb dX3_isSo_17 (by decide) (fun c_2 => ?_) (fun c_2 => ?_)
    · skip
      have ic_2 := ci_ne (rfl : Int32.toInt p1 = _) (show Int32.toInt 1 = 1 by decide) c_2
      refine lv_iload_n hx hb dX3_isSo_33 rfl (lv_at hl 0 rfl) ?_
      refine lv_iload_n hx hb dX3_isSo_34 rfl (lv_at hl 2 rfl) ?_
      refine lv_icmp_le (tgt := 42) hx hb dX3_isSo_35 (by decide) (fun c_3 => ?_) (fun c_3 => ?_)
      · skip
        have ic_3 := ci_le (rfl : Int32.toInt p0 = _) (rfl : Int32.toInt p2 = _) c_3
        refine lv_iconst (v := 0) hx hb dX3_isSo_42 (by decide) ?_
        exact W.zret (v := 0) hx hb hr (show narrow .boolean (.int 0) = .int 0 from rfl) (fun t ht hW => ⟨0, rfl, Or.inl rfl, ht⟩) (fun q h => by cases h) dX3_isSo_43
      · skip
        have ic_3 := ci_nle (rfl : Int32.toInt p0 = _) (rfl : Int32.toInt p2 = _) c_3
        refine lv_iconst (v := 1) hx hb dX3_isSo_38 (by decide) ?_
        refine lv_goto (tgt := 43) hx hb dX3_isSo_39 (by decide) ?_
        exact W.zret (v := 1) hx hb hr (show narrow .boolean (.int 1) = .int 1 from rfl) (fun t ht hW => ⟨1, rfl, Or.inr rfl, ht⟩) (fun q h => by cases h) dX3_isSo_43
    · skip
      have ic_2 := ci_eq (rfl : Int32.toInt p1 = _) (show Int32.toInt 1 = 1 by decide) c_2
      refine lv_iload_n hx hb dX3_isSo_20 rfl (lv_at hl 0 rfl) ?_
      refine lv_iload_n hx hb dX3_isSo_21 rfl (lv_at hl 2 rfl) ?_
      refine lv_icmp_ne (tgt := 29) hx hb dX3_isSo_22 (by decide) (fun c_4 => ?_) (fun c_4 => ?_)
      · skip
        have ic_4 := ci_ne (rfl : Int32.toInt p0 = _) (rfl : Int32.toInt p2 = _) c_4
        refine lv_iconst (v := 0) hx hb dX3_isSo_29 (by decide) ?_
        refine lv_goto (tgt := 43) hx hb dX3_isSo_30 (by decide) ?_
        exact W.zret (v := 0) hx hb hr (show narrow .boolean (.int 0) = .int 0 from rfl) (fun t ht hW => ⟨0, rfl, Or.inl rfl, ht⟩) (fun q h => by cases h) dX3_isSo_43
      · skip
        have ic_4 := ci_eq (rfl : Int32.toInt p0 = _) (rfl : Int32.toInt p2 = _) c_4
        refine lv_iconst (v := 1) hx hb dX3_isSo_25 (by decide) ?_
        refine lv_goto (tgt := 43) hx hb dX3_isSo_26 (by decide) ?_
        exact W.zret (v := 1) hx hb hr (show narrow .boolean (.int 1) = .int 1 from rfl) (fun t ht hW => ⟨1, rfl, Or.inr rfl, ht⟩) (fun q h => by cases h) dX3_isSo_43
  · skip
    have ic_1 := ci_eq (rfl : Int32.toInt p1 = _) (show Int32.toInt 0 = 0 by decide) c_1
    refine lv_iload_n hx hb dX3_isSo_4 rfl (lv_at hl 0 rfl) ?_
    refine lv_iload_n hx hb dX3_isSo_5 rfl (lv_at hl 2 rfl) ?_
    refine lv_icmp_ge (tgt := 13) hx hb dX3_isSo_6 (by decide) (fun c_5 => ?_) (fun c_5 => ?_)
    · skip
      have ic_5 := ci_le (rfl : Int32.toInt p2 = _) (rfl : Int32.toInt p0 = _) c_5
      refine lv_iconst (v := 0) hx hb dX3_isSo_13 (by decide) ?_
      exact W.zret (v := 0) hx hb hr (show narrow .boolean (.int 0) = .int 0 from rfl) (fun t ht hW => ⟨0, rfl, Or.inl rfl, ht⟩) (fun q h => by cases h) dX3_isSo_14
    · skip
      have ic_5 := ci_nle (rfl : Int32.toInt p2 = _) (rfl : Int32.toInt p0 = _) c_5
      refine lv_iconst (v := 1) hx hb dX3_isSo_9 (by decide) ?_
      refine lv_goto (tgt := 14) hx hb dX3_isSo_10 (by decide) ?_
      exact W.zret (v := 1) hx hb hr (show narrow .boolean (.int 1) = .int 1 from rfl) (fun t ht hW => ⟨1, rfl, Or.inr rfl, ht⟩) (fun q h => by cases h) dX3_isSo_14

set_option maxHeartbeats 4000000 in
set_option maxRecDepth 100000 in
theorem mX0_row (l : Launch) (dC : Nat → ClassId) (dI : Nat → Nat → Nat) (cyI cyZ : ClassId) (n : Nat) (p1 : Int32) (p2 : Int32) (p3 : Int32) (hn : n ≤ 10) : Met l yX0_row wsX0_row ({ frames := 1, cells := 0, slots := 0, locals := 22 }) (bs_R dC dI cyI cyZ [.int (nI n), .int p1, .int p2, .int p3] []) (vp_Si (fun r : Int32 => True)) 0 0 (fun _ => False) := by
  refine Met.ofW (cc := cX0_row) (maxL := 8) (ret := (some .int)) (by decide) rfl ?_
  intro p e s m args below meth c s₁ B hml hv
  obtain ⟨rfl, hB, hP⟩ := hv
  have hK := hB.1
  have hN := hB.2
  have hx := B.exec
  have hb := B.bytes
  have hr := B.returns
  have hts := atoms_spec (ws := wsX0_row) B.pre
  have hown : s.vm.findClass RX0 = some m.cls := findClass_of_methodNamed B.named
  have hlocks := B.notSynchronized
  have hP : va_P (dC, dI) vwCl [] s.heap := hP
  have hl := lv_entry ([.int (nI n), .int p1, .int p2, .int p3]) (n := 8) (Nat.le_of_ble_eq_true rfl)
  rw [lg_entry_eq]
  generalize (lg_sl ([.int (nI n), .int p1, .int p2, .int p3]) ++ List.replicate (8 - (lg_sl ([.int (nI n), .int p1, .int p2, .int p3])).length) Slot.unset).toArray = ls at hl ⊢
  have hl : lv_has ls 8 [(0, .int (nI n)), (1, .int p1), (2, .int p2), (3, .int p3)] := hl
  refine lv_iconst (v := 0) hx hb dX0_row_0 (by decide) ?_
  refine lv_istore (lv' := [(4, .int 0), (0, .int (nI n)), (1, .int p1), (2, .int p2), (3, .int p3)]) hx hb dX0_row_1 hl (by decide) rfl (fun ls hl => ?_)
  refine lv_iconst (v := 0) hx hb dX0_row_3 (by decide) ?_
  refine lv_istore (lv' := [(5, .int 0), (4, .int 0), (0, .int (nI n)), (1, .int p1), (2, .int p2), (3, .int p3)]) hx hb dX0_row_4 hl (by decide) rfl (fun ls hl => ?_)
  refine lv_iload_n hx hb dX0_row_6 rfl (lv_at hl 4 rfl) ?_
  refine lv_istore (lv' := [(6, .int p2), (5, .int 0), (4, .int 0), (0, .int (nI n)), (1, .int p1), (2, .int p2), (3, .int p3)]) hx hb dX0_row_7 hl (by decide) rfl (fun ls hl => ?_)
  refine lv_iconst (v := 0) hx hb dX0_row_9 (by decide) ?_
  refine lv_istore (lv' := [(7, .int 0), (6, .int p2), (5, .int 0), (4, .int 0), (0, .int (nI n)), (1, .int p1), (2, .int p2), (3, .int p3)]) hx hb dX0_row_10 hl (by decide) rfl (fun ls hl => ?_)
  have L12 : ∀ (n12 : Nat), ∀ (k : Nat) (ya yb yc : Int32), (0 ≤ k ∧ k ≤ n) → (n + 1 ≤ k + n12) → ∀ (ls : Array Slot), lv_has ls 8 [(0, .int (nI n)), (1, .int p1), (3, .int p3), (4, .int ya), (5, .int yb), (6, .int yc), (7, .int (nI k))] → W p l e (headSpec wsX0_row ({ frames := 1, cells := 0, slots := 0, locals := 22 })).room s m ([.int (nI n), .int p1, .int p2, .int p3] : List Value).toArray below meth c s.heap [] 0 0 (MQ below (vp_Si (fun r : Int32 => True)) ([.int (nI n), .int p1, .int p2, .int p3] : List Value).toArray s 0 0 (fun _ => False)) (F0 m 12 ls []) := by
    intro n12
    induction n12 with
    | zero =>
      intro k ya yb yc hk12 hn12 ls hl
      exfalso
      omega
    | succ n12 ih12 =>
      intro k ya yb yc hk12 hn12 ls hl
      refine lv_iload hx hb dX0_row_12 (lv_at hl 6 rfl) ?_
      refine lv_iload_n hx hb dX0_row_14 rfl (lv_at hl 0 rfl) ?_
      refine lv_icmp_ge (tgt := 57) hx hb dX0_row_15 (by decide) (fun c_1 => ?_) (fun c_1 => ?_)
      · skip
        have ic_1 := ci_le (nI_toInt (n := n) (by omega)) (nI_toInt (n := k) (by omega)) c_1
        refine lv_iload hx hb dX0_row_57 (lv_at hl 3 rfl) ?_
        exact W.iret (v := ya) hx hb hr (fun t ht hW => ⟨ya, rfl, trivial, ht⟩) (fun q h => by cases h) dX0_row_59
      · skip
        have ic_1 := ci_nle (nI_toInt (n := n) (by omega)) (nI_toInt (n := k) (by omega)) c_1
        refine lv_iload_n hx hb dX0_row_18 rfl (lv_at hl 0 rfl) ?_
        refine lv_iload hx hb dX0_row_19 (lv_at hl 5 rfl) ?_
        refine lv_iload_n hx hb dX0_row_21 rfl (lv_at hl 2 rfl) ?_
        refine vp_callSi (va_Run.run (va_runS (As := [.int (nI n), .int yc, .int p3]) (rest := []) ⟨hx, hb, hml, hown, hts⟩ (mX5_cellNextTo l dC dI cyI cyZ (nI n) yc p3 ) (va_cwS 3 hts gX0_row_X5_cellNextTo rfl rfl rfl (by decide +kernel) ⟨Nat.le_of_ble_eq_true rfl, Nat.le_of_ble_eq_true rfl⟩) (bs_RS hB (hP.sub (ws' := []) [] rfl)) rfl rfl hl.1 rfl (lv_room (Nat.le_of_ble_eq_true rfl)) dX0_row_22 ⟨Nat.le_of_ble_eq_true rfl, Nat.le_of_ble_eq_true rfl⟩)) (fun r_2 hr_2 => ?_)
        refine lv_istore (lv' := [(6, .int r_2), (0, .int (nI n)), (1, .int p1), (3, .int p3), (4, .int ya), (5, .int yb), (7, .int (nI k))]) hx hb dX0_row_25 hl (by decide) rfl (fun ls hl => ?_)
        obtain ⟨x_3, ex_3⟩ : ∃ y : Int32, y = yb + 1 := ⟨_, rfl⟩
        refine lv_iinc (v := x_3) (lv' := [(5, .int x_3), (6, .int r_2), (0, .int (nI n)), (1, .int p1), (3, .int p3), (4, .int ya), (7, .int (nI k))]) hx hb dX0_row_27 hl (k := 5) rfl (by rw [ex_3]; rfl) (by decide) rfl (fun ls hl => ?_)
        refine lv_iload_n hx hb dX0_row_30 rfl (lv_at hl 3 rfl) ?_
        refine lv_iload hx hb dX0_row_31 (lv_at hl 1 rfl) ?_
        refine vp_callSi (va_Run.run (va_runS (As := [.int p1, .int r_2]) (rest := []) ⟨hx, hb, hml, hown, hts⟩ (mX5_has l dC dI cyI cyZ p1 r_2 ) (va_cwS 2 hts gX0_row_X5_has rfl rfl rfl (by decide +kernel) ⟨Nat.le_of_ble_eq_true rfl, Nat.le_of_ble_eq_true rfl⟩) (bs_RS hB (hP.sub (ws' := []) [] rfl)) rfl rfl hl.1 rfl (lv_room (Nat.le_of_ble_eq_true rfl)) dX0_row_33 ⟨Nat.le_of_ble_eq_true rfl, Nat.le_of_ble_eq_true rfl⟩)) (fun r_4 hr_4 => ?_)
        refine lv_if_eq (tgt := 51) hx hb dX0_row_36 (by decide) (fun c_5 => ?_) (fun c_5 => ?_)
        · skip
          have ic_5 := ci_eq (rfl : Int32.toInt r_4 = _) (show Int32.toInt 0 = 0 by decide) c_5
          refine lv_iinc (v := (nI (k + 1))) (lv' := [(7, .int (nI (k + 1))), (5, .int x_3), (6, .int r_2), (0, .int (nI n)), (1, .int p1), (3, .int p3), (4, .int ya)]) hx hb dX0_row_51 hl (k := 6) rfl (nI_1 _) (by decide) rfl (fun ls hl => ?_)
          refine lv_goto (tgt := 12) hx hb dX0_row_54 (by decide) ?_
          exact ih12 (k + 1) ya x_3 r_2 ⟨by omega, by omega⟩ (by omega)  _ (lv_sub hl [3, 4, 5, 6, 1, 2, 0] rfl)
        · skip
          have ic_5 := ci_ne (rfl : Int32.toInt r_4 = _) (show Int32.toInt 0 = 0 by decide) c_5
          refine lv_iload hx hb dX0_row_39 (lv_at hl 5 rfl) ?_
          refine lv_iconst (v := 4) hx hb dX0_row_41 (by decide) ?_
          refine lv_ishl hx hb dX0_row_42 ?_
          refine lv_topi (fun x_6 ex_6 => ?_)
          refine lv_iload hx hb dX0_row_43 (lv_at hl 0 rfl) ?_
          refine lv_ior hx hb dX0_row_45 ?_
          refine lv_topi (fun x_7 ex_7 => ?_)
          refine lv_istore (lv' := [(4, .int x_7), (5, .int x_3), (6, .int r_2), (0, .int (nI n)), (1, .int p1), (3, .int p3), (7, .int (nI k))]) hx hb dX0_row_46 hl (by decide) rfl (fun ls hl => ?_)
          refine lv_iconst (v := 0) hx hb dX0_row_48 (by decide) ?_
          refine lv_istore (lv' := [(5, .int 0), (4, .int x_7), (6, .int r_2), (0, .int (nI n)), (1, .int p1), (3, .int p3), (7, .int (nI k))]) hx hb dX0_row_49 hl (by decide) rfl (fun ls hl => ?_)
          refine lv_iinc (v := (nI (k + 1))) (lv' := [(7, .int (nI (k + 1))), (5, .int 0), (4, .int x_7), (6, .int r_2), (0, .int (nI n)), (1, .int p1), (3, .int p3)]) hx hb dX0_row_51 hl (k := 6) rfl (nI_1 _) (by decide) rfl (fun ls hl => ?_)
          refine lv_goto (tgt := 12) hx hb dX0_row_54 (by decide) ?_
          exact ih12 (k + 1) x_7 0 r_2 ⟨by omega, by omega⟩ (by omega)  _ (lv_sub hl [4, 5, 6, 2, 1, 3, 0] rfl)
  exact L12 (n + 1) 0 0 0 p2 ⟨by omega, by omega⟩ (by omega)  _ (lv_sub hl [4, 5, 7, 3, 2, 1, 0] rfl)

set_option maxHeartbeats 4000000 in
set_option maxRecDepth 100000 in
theorem mX0_view (l : Launch) (dC : Nat → ClassId) (dI : Nat → Nat → Nat) (cyI cyZ : ClassId) (n : Nat) (p1 : Int32) (p2 : Int32) (hn : n ≤ 10) : Met l yX0_view wsX0_view ({ frames := 2, cells := 0, slots := 0, locals := 49 }) (bs_R dC dI cyI cyZ [.int (nI n), .int p1, .int p2] []) (vp_Si (fun r : Int32 => True)) 0 0 (fun _ => False) := by
  refine Met.ofW (cc := cX0_view) (maxL := 3) (ret := (some .int)) (by decide) rfl ?_
  intro p e s m args below meth c s₁ B hml hv
  obtain ⟨rfl, hB, hP⟩ := hv
  have hK := hB.1
  have hN := hB.2
  have hx := B.exec
  have hb := B.bytes
  have hr := B.returns
  have hts := atoms_spec (ws := wsX0_view) B.pre
  have hown : s.vm.findClass RX0 = some m.cls := findClass_of_methodNamed B.named
  have hlocks := B.notSynchronized
  have hP : va_P (dC, dI) vwCl [] s.heap := hP
  have hl := lv_entry ([.int (nI n), .int p1, .int p2]) (n := 3) (Nat.le_of_ble_eq_true rfl)
  rw [lg_entry_eq]
  generalize (lg_sl ([.int (nI n), .int p1, .int p2]) ++ List.replicate (3 - (lg_sl ([.int (nI n), .int p1, .int p2])).length) Slot.unset).toArray = ls at hl ⊢
  have hl : lv_has ls 3 [(0, .int (nI n)), (1, .int p1), (2, .int p2)] := hl
  refine lv_iload_n hx hb dX0_view_0 rfl (lv_at hl 0 rfl) ?_
  refine lv_iload_n hx hb dX0_view_1 rfl (lv_at hl 1 rfl) ?_
  refine lv_iload_n hx hb dX0_view_2 rfl (lv_at hl 2 rfl) ?_
  refine lv_iconst (v := 0) hx hb dX0_view_3 (by decide) ?_
  refine vp_callSi (va_Run.run (va_runS (As := [.int (nI n), .int p1, .int p2, .int 0]) (rest := []) ⟨hx, hb, hml, hown, hts⟩ (mX0_row l dC dI cyI cyZ n p1 p2 0 (by omega)) (va_cwS 4 hts gX0_view_X0_row rfl rfl rfl (by decide +kernel) ⟨Nat.le_of_ble_eq_true rfl, Nat.le_of_ble_eq_true rfl⟩) (bs_RS hB (hP.sub (ws' := []) [] rfl)) rfl rfl hl.1 rfl (lv_room (Nat.le_of_ble_eq_true rfl)) dX0_view_4 ⟨Nat.le_of_ble_eq_true rfl, Nat.le_of_ble_eq_true rfl⟩)) (fun r_1 hr_1 => ?_)
  refine lv_iload_n hx hb dX0_view_7 rfl (lv_at hl 0 rfl) ?_
  refine lv_iload_n hx hb dX0_view_8 rfl (lv_at hl 1 rfl) ?_
  refine lv_iload_n hx hb dX0_view_9 rfl (lv_at hl 2 rfl) ?_
  refine lv_iconst (v := 1) hx hb dX0_view_10 (by decide) ?_
  refine vp_callSi (va_Run.run (va_runS (As := [.int (nI n), .int p1, .int p2, .int 1]) (rest := [.int r_1]) ⟨hx, hb, hml, hown, hts⟩ (mX0_row l dC dI cyI cyZ n p1 p2 1 (by omega)) (va_cwS 4 hts gX0_view_X0_row rfl rfl rfl (by decide +kernel) ⟨Nat.le_of_ble_eq_true rfl, Nat.le_of_ble_eq_true rfl⟩) (bs_RS hB (hP.sub (ws' := []) [] rfl)) rfl rfl hl.1 rfl (lv_room (Nat.le_of_ble_eq_true rfl)) dX0_view_11 ⟨Nat.le_of_ble_eq_true rfl, Nat.le_of_ble_eq_true rfl⟩)) (fun r_2 hr_2 => ?_)
  refine va_mmin hx hb (by rw [hml]; exact hl.1.symm) hown (hts (.methodLink RX0 25 Lib.Math.min.name) (by decide +kernel)) (hts (.static Lib.Math.min.name) (by decide +kernel)) (hts (.initialized "java/lang/Math") (by decide +kernel)) (hts (.code Lib.Math.min.name Lib.Math.min.code 2 (some .int)) (by decide +kernel)) (Nat.le_of_ble_eq_true rfl) (Nat.le_of_ble_eq_true rfl) (Nat.le_of_ble_eq_true rfl) (Nat.le_of_ble_eq_true rfl) dX0_view_14 ?_
  refine lv_topi (fun x_3 ex_3 => ?_)
  exact W.iret (v := x_3) hx hb hr (fun t ht hW => ⟨x_3, rfl, trivial, ht⟩) (fun q h => by cases h) dX0_view_17

set_option maxHeartbeats 4000000 in
set_option maxRecDepth 100000 in
theorem mX0_turned (l : Launch) (dC : Nat → ClassId) (dI : Nat → Nat → Nat) (cyI cyZ : ClassId) (n : Nat) (p1 : Int32) (hn : n ≤ 10) : Met l yX0_turned wsX0_turned ({ frames := 2, cells := 0, slots := 0, locals := 49 }) (bs_R dC dI cyI cyZ [.int (nI n), .int p1] []) (vp_Si (fun r : Int32 => r = 0 ∨ r = 1)) 0 0 (fun _ => False) := by
  refine Met.ofW (cc := cX0_turned) (maxL := 4) (ret := (some .boolean)) (by decide) rfl ?_
  intro p e s m args below meth c s₁ B hml hv
  obtain ⟨rfl, hB, hP⟩ := hv
  have hK := hB.1
  have hN := hB.2
  have hx := B.exec
  have hb := B.bytes
  have hr := B.returns
  have hts := atoms_spec (ws := wsX0_turned) B.pre
  have hown : s.vm.findClass RX0 = some m.cls := findClass_of_methodNamed B.named
  have hlocks := B.notSynchronized
  have hP : va_P (dC, dI) vwCl [] s.heap := hP
  have hl := lv_entry ([.int (nI n), .int p1]) (n := 4) (Nat.le_of_ble_eq_true rfl)
  rw [lg_entry_eq]
  generalize (lg_sl ([.int (nI n), .int p1]) ++ List.replicate (4 - (lg_sl ([.int (nI n), .int p1])).length) Slot.unset).toArray = ls at hl ⊢
  have hl : lv_has ls 4 [(0, .int (nI n)), (1, .int p1)] := hl
  refine lv_iconst (v := 0) hx hb dX0_turned_0 (by decide) ?_
  refine lv_istore_n (lv' := [(2, .int 0), (0, .int (nI n)), (1, .int p1)]) hx hb dX0_turned_1 rfl hl (by decide) rfl (fun ls hl => ?_)
  have L2 : ∀ (n2 : Nat), ∀ (k : Nat), (0 ≤ k ∧ k ≤ n) → (n + 1 ≤ k + n2) → ∀ (ls : Array Slot), lv_has ls 4 [(0, .int (nI n)), (1, .int p1), (2, .int (nI k))] → W p l e (headSpec wsX0_turned ({ frames := 2, cells := 0, slots := 0, locals := 49 })).room s m ([.int (nI n), .int p1] : List Value).toArray below meth c s.heap [] 0 0 (MQ below (vp_Si (fun r : Int32 => r = 0 ∨ r = 1)) ([.int (nI n), .int p1] : List Value).toArray s 0 0 (fun _ => False)) (F0 m 2 ls []) := by
    intro n2
    induction n2 with
    | zero =>
      intro k hk2 hn2 ls hl
      exfalso
      omega
    | succ n2 ih2 =>
      intro k hk2 hn2 ls hl
      refine lv_iload_n hx hb dX0_turned_2 rfl (lv_at hl 2 rfl) ?_
      refine lv_iload_n hx hb dX0_turned_3 rfl (lv_at hl 0 rfl) ?_
      refine lv_icmp_ge (tgt := 61) hx hb dX0_turned_4 (by decide) (fun c_1 => ?_) (fun c_1 => ?_)
      · skip
        have ic_1 := ci_le (nI_toInt (n := n) (by omega)) (nI_toInt (n := k) (by omega)) c_1
        refine lv_iconst (v := 0) hx hb dX0_turned_61 (by decide) ?_
        exact W.zret (v := 0) hx hb hr (show narrow .boolean (.int 0) = .int 0 from rfl) (fun t ht hW => ⟨0, rfl, Or.inl rfl, ht⟩) (fun q h => by cases h) dX0_turned_62
      · skip
        have ic_1 := ci_nle (nI_toInt (n := n) (by omega)) (nI_toInt (n := k) (by omega)) c_1
        refine lv_iconst (v := 0) hx hb dX0_turned_7 (by decide) ?_
        refine lv_istore_n (lv' := [(3, .int 0), (0, .int (nI n)), (1, .int p1), (2, .int (nI k))]) hx hb dX0_turned_8 rfl hl (by decide) rfl (fun ls hl => ?_)
        have L9 : ∀ (n9 : Nat), ∀ (j : Nat), (0 ≤ j ∧ j ≤ k) → (k + 1 ≤ j + n9) → ∀ (ls : Array Slot), lv_has ls 4 [(0, .int (nI n)), (1, .int p1), (2, .int (nI k)), (3, .int (nI j))] → W p l e (headSpec wsX0_turned ({ frames := 2, cells := 0, slots := 0, locals := 49 })).room s m ([.int (nI n), .int p1] : List Value).toArray below meth c s.heap [] 0 0 (MQ below (vp_Si (fun r : Int32 => r = 0 ∨ r = 1)) ([.int (nI n), .int p1] : List Value).toArray s 0 0 (fun _ => False)) (F0 m 9 ls []) := by
          intro n9
          induction n9 with
          | zero =>
            intro j hk9 hn9 ls hl
            exfalso
            omega
          | succ n9 ih9 =>
            intro j hk9 hn9 ls hl
            refine lv_iload_n hx hb dX0_turned_9 rfl (lv_at hl 3 rfl) ?_
            refine lv_iload_n hx hb dX0_turned_10 rfl (lv_at hl 2 rfl) ?_
            refine lv_icmp_ge (tgt := 55) hx hb dX0_turned_11 (by decide) (fun c_2 => ?_) (fun c_2 => ?_)
            · skip
              have ic_2 := ci_le (nI_toInt (n := k) (by omega)) (nI_toInt (n := j) (by omega)) c_2
              refine lv_iinc (v := (nI (k + 1))) (lv' := [(2, .int (nI (k + 1))), (0, .int (nI n)), (1, .int p1), (3, .int (nI j))]) hx hb dX0_turned_55 hl (k := 2) rfl (nI_1 _) (by decide) rfl (fun ls hl => ?_)
              refine lv_goto (tgt := 2) hx hb dX0_turned_58 (by decide) ?_
              exact ih2 (k + 1)  ⟨by omega, by omega⟩ (by omega)  _ (lv_sub hl [1, 2, 0] rfl)
            · skip
              have ic_2 := ci_nle (nI_toInt (n := k) (by omega)) (nI_toInt (n := j) (by omega)) c_2
              refine lv_iload_n hx hb dX0_turned_14 rfl (lv_at hl 1 rfl) ?_
              refine lv_iload_n hx hb dX0_turned_15 rfl (lv_at hl 2 rfl) ?_
              refine vp_callSi (va_Run.run (va_runS (As := [.int p1, .int (nI k)]) (rest := []) ⟨hx, hb, hml, hown, hts⟩ (mX5_has l dC dI cyI cyZ p1 (nI k) ) (va_cwS 2 hts gX0_turned_X5_has rfl rfl rfl (by decide +kernel) ⟨Nat.le_of_ble_eq_true rfl, Nat.le_of_ble_eq_true rfl⟩) (bs_RS hB (hP.sub (ws' := []) [] rfl)) rfl rfl hl.1 rfl (lv_room (Nat.le_of_ble_eq_true rfl)) dX0_turned_16 ⟨Nat.le_of_ble_eq_true rfl, Nat.le_of_ble_eq_true rfl⟩)) (fun r_3 hr_3 => ?_)
              refine lv_if_eq (tgt := 49) hx hb dX0_turned_19 (by decide) (fun c_4 => ?_) (fun c_4 => ?_)
              · skip
                have ic_4 := ci_eq (rfl : Int32.toInt r_3 = _) (show Int32.toInt 0 = 0 by decide) c_4
                refine lv_iinc (v := (nI (j + 1))) (lv' := [(3, .int (nI (j + 1))), (0, .int (nI n)), (1, .int p1), (2, .int (nI k))]) hx hb dX0_turned_49 hl (k := 3) rfl (nI_1 _) (by decide) rfl (fun ls hl => ?_)
                refine lv_goto (tgt := 9) hx hb dX0_turned_52 (by decide) ?_
                exact ih9 (j + 1)  ⟨by omega, by omega⟩ (by omega)  _ (lv_sub hl [1, 2, 3, 0] rfl)
              · skip
                have ic_4 := ci_ne (rfl : Int32.toInt r_3 = _) (show Int32.toInt 0 = 0 by decide) c_4
                refine lv_iload_n hx hb dX0_turned_22 rfl (lv_at hl 1 rfl) ?_
                refine lv_iload_n hx hb dX0_turned_23 rfl (lv_at hl 3 rfl) ?_
                refine vp_callSi (va_Run.run (va_runS (As := [.int p1, .int (nI j)]) (rest := []) ⟨hx, hb, hml, hown, hts⟩ (mX5_has l dC dI cyI cyZ p1 (nI j) ) (va_cwS 2 hts gX0_turned_X5_has rfl rfl rfl (by decide +kernel) ⟨Nat.le_of_ble_eq_true rfl, Nat.le_of_ble_eq_true rfl⟩) (bs_RS hB (hP.sub (ws' := []) [] rfl)) rfl rfl hl.1 rfl (lv_room (Nat.le_of_ble_eq_true rfl)) dX0_turned_24 ⟨Nat.le_of_ble_eq_true rfl, Nat.le_of_ble_eq_true rfl⟩)) (fun r_5 hr_5 => ?_)
                refine lv_if_eq (tgt := 49) hx hb dX0_turned_27 (by decide) (fun c_6 => ?_) (fun c_6 => ?_)
                · skip
                  have ic_6 := ci_eq (rfl : Int32.toInt r_5 = _) (show Int32.toInt 0 = 0 by decide) c_6
                  refine lv_iinc (v := (nI (j + 1))) (lv' := [(3, .int (nI (j + 1))), (0, .int (nI n)), (1, .int p1), (2, .int (nI k))]) hx hb dX0_turned_49 hl (k := 3) rfl (nI_1 _) (by decide) rfl (fun ls hl => ?_)
                  refine lv_goto (tgt := 9) hx hb dX0_turned_52 (by decide) ?_
                  exact ih9 (j + 1)  ⟨by omega, by omega⟩ (by omega)  _ (lv_sub hl [1, 2, 3, 0] rfl)
                · skip
                  have ic_6 := ci_ne (rfl : Int32.toInt r_5 = _) (show Int32.toInt 0 = 0 by decide) c_6
                  refine lv_iload_n hx hb dX0_turned_30 rfl (lv_at hl 0 rfl) ?_
                  refine lv_iload_n hx hb dX0_turned_31 rfl (lv_at hl 1 rfl) ?_
                  refine lv_iload_n hx hb dX0_turned_32 rfl (lv_at hl 2 rfl) ?_
                  refine lv_iconst (v := 0) hx hb dX0_turned_33 (by decide) ?_
                  refine vp_callSi (va_Run.run (va_runS (As := [.int (nI n), .int p1, .int (nI k), .int 0]) (rest := []) ⟨hx, hb, hml, hown, hts⟩ (mX0_row l dC dI cyI cyZ n p1 (nI k) 0 (by omega)) (va_cwS 4 hts gX0_turned_X0_row rfl rfl rfl (by decide +kernel) ⟨Nat.le_of_ble_eq_true rfl, Nat.le_of_ble_eq_true rfl⟩) (bs_RS hB (hP.sub (ws' := []) [] rfl)) rfl rfl hl.1 rfl (lv_room (Nat.le_of_ble_eq_true rfl)) dX0_turned_34 ⟨Nat.le_of_ble_eq_true rfl, Nat.le_of_ble_eq_true rfl⟩)) (fun r_7 hr_7 => ?_)
                  refine lv_iload_n hx hb dX0_turned_37 rfl (lv_at hl 0 rfl) ?_
                  refine lv_iload_n hx hb dX0_turned_38 rfl (lv_at hl 1 rfl) ?_
                  refine lv_iload_n hx hb dX0_turned_39 rfl (lv_at hl 3 rfl) ?_
                  refine lv_iconst (v := 0) hx hb dX0_turned_40 (by decide) ?_
                  refine vp_callSi (va_Run.run (va_runS (As := [.int (nI n), .int p1, .int (nI j), .int 0]) (rest := [.int r_7]) ⟨hx, hb, hml, hown, hts⟩ (mX0_row l dC dI cyI cyZ n p1 (nI j) 0 (by omega)) (va_cwS 4 hts gX0_turned_X0_row rfl rfl rfl (by decide +kernel) ⟨Nat.le_of_ble_eq_true rfl, Nat.le_of_ble_eq_true rfl⟩) (bs_RS hB (hP.sub (ws' := []) [] rfl)) rfl rfl hl.1 rfl (lv_room (Nat.le_of_ble_eq_true rfl)) dX0_turned_41 ⟨Nat.le_of_ble_eq_true rfl, Nat.le_of_ble_eq_true rfl⟩)) (fun r_8 hr_8 => ?_)
                  refine lv_icmp_ne (tgt := 49) hx hb dX0_turned_44 (by decide) (fun c_9 => ?_) (fun c_9 => ?_)
                  · skip
                    have ic_9 := ci_ne (rfl : Int32.toInt r_7 = _) (rfl : Int32.toInt r_8 = _) c_9
                    refine lv_iinc (v := (nI (j + 1))) (lv' := [(3, .int (nI (j + 1))), (0, .int (nI n)), (1, .int p1), (2, .int (nI k))]) hx hb dX0_turned_49 hl (k := 3) rfl (nI_1 _) (by decide) rfl (fun ls hl => ?_)
                    refine lv_goto (tgt := 9) hx hb dX0_turned_52 (by decide) ?_
                    exact ih9 (j + 1)  ⟨by omega, by omega⟩ (by omega)  _ (lv_sub hl [1, 2, 3, 0] rfl)
                  · skip
                    have ic_9 := ci_eq (rfl : Int32.toInt r_7 = _) (rfl : Int32.toInt r_8 = _) c_9
                    refine lv_iconst (v := 1) hx hb dX0_turned_47 (by decide) ?_
                    exact W.zret (v := 1) hx hb hr (show narrow .boolean (.int 1) = .int 1 from rfl) (fun t ht hW => ⟨1, rfl, Or.inr rfl, ht⟩) (fun q h => by cases h) dX0_turned_48
        exact L9 (k + 1) 0  ⟨by omega, by omega⟩ (by omega)  _ (lv_sub hl [1, 2, 3, 0] rfl)
  exact L2 (n + 1) 0  ⟨by omega, by omega⟩ (by omega)  _ (lv_sub hl [1, 2, 0] rfl)

set_option maxHeartbeats 4000000 in
set_option maxRecDepth 100000 in
theorem mX0_mirrored (l : Launch) (dC : Nat → ClassId) (dI : Nat → Nat → Nat) (cyI cyZ : ClassId) (n : Nat) (p1 : Int32) (hn : n ≤ 10) : Met l yX0_mirrored wsX0_mirrored ({ frames := 2, cells := 0, slots := 0, locals := 49 }) (bs_R dC dI cyI cyZ [.int (nI n), .int p1] []) (vp_Si (fun r : Int32 => r = 0 ∨ r = 1)) 0 0 (fun _ => False) := by
  refine Met.ofW (cc := cX0_mirrored) (maxL := 4) (ret := (some .boolean)) (by decide) rfl ?_
  intro p e s m args below meth c s₁ B hml hv
  obtain ⟨rfl, hB, hP⟩ := hv
  have hK := hB.1
  have hN := hB.2
  have hx := B.exec
  have hb := B.bytes
  have hr := B.returns
  have hts := atoms_spec (ws := wsX0_mirrored) B.pre
  have hown : s.vm.findClass RX0 = some m.cls := findClass_of_methodNamed B.named
  have hlocks := B.notSynchronized
  have hP : va_P (dC, dI) vwCl [] s.heap := hP
  have hl := lv_entry ([.int (nI n), .int p1]) (n := 4) (Nat.le_of_ble_eq_true rfl)
  rw [lg_entry_eq]
  generalize (lg_sl ([.int (nI n), .int p1]) ++ List.replicate (4 - (lg_sl ([.int (nI n), .int p1])).length) Slot.unset).toArray = ls at hl ⊢
  have hl : lv_has ls 4 [(0, .int (nI n)), (1, .int p1)] := hl
  refine lv_iconst (v := 0) hx hb dX0_mirrored_0 (by decide) ?_
  refine lv_istore_n (lv' := [(2, .int 0), (0, .int (nI n)), (1, .int p1)]) hx hb dX0_mirrored_1 rfl hl (by decide) rfl (fun ls hl => ?_)
  have L2 : ∀ (n2 : Nat), ∀ (k : Nat), (0 ≤ k ∧ k ≤ n) → (n + 1 ≤ k + n2) → ∀ (ls : Array Slot), lv_has ls 4 [(0, .int (nI n)), (1, .int p1), (2, .int (nI k))] → W p l e (headSpec wsX0_mirrored ({ frames := 2, cells := 0, slots := 0, locals := 49 })).room s m ([.int (nI n), .int p1] : List Value).toArray below meth c s.heap [] 0 0 (MQ below (vp_Si (fun r : Int32 => r = 0 ∨ r = 1)) ([.int (nI n), .int p1] : List Value).toArray s 0 0 (fun _ => False)) (F0 m 2 ls []) := by
    intro n2
    induction n2 with
    | zero =>
      intro k hk2 hn2 ls hl
      exfalso
      omega
    | succ n2 ih2 =>
      intro k hk2 hn2 ls hl
      refine lv_iload_n hx hb dX0_mirrored_2 rfl (lv_at hl 2 rfl) ?_
      refine lv_iload_n hx hb dX0_mirrored_3 rfl (lv_at hl 0 rfl) ?_
      refine lv_icmp_ge (tgt := 61) hx hb dX0_mirrored_4 (by decide) (fun c_1 => ?_) (fun c_1 => ?_)
      · skip
        have ic_1 := ci_le (nI_toInt (n := n) (by omega)) (nI_toInt (n := k) (by omega)) c_1
        refine lv_iconst (v := 0) hx hb dX0_mirrored_61 (by decide) ?_
        exact W.zret (v := 0) hx hb hr (show narrow .boolean (.int 0) = .int 0 from rfl) (fun t ht hW => ⟨0, rfl, Or.inl rfl, ht⟩) (fun q h => by cases h) dX0_mirrored_62
      · skip
        have ic_1 := ci_nle (nI_toInt (n := n) (by omega)) (nI_toInt (n := k) (by omega)) c_1
        refine lv_iconst (v := 0) hx hb dX0_mirrored_7 (by decide) ?_
        refine lv_istore_n (lv' := [(3, .int 0), (0, .int (nI n)), (1, .int p1), (2, .int (nI k))]) hx hb dX0_mirrored_8 rfl hl (by decide) rfl (fun ls hl => ?_)
        have L9 : ∀ (n9 : Nat), ∀ (j : Nat), (0 ≤ j ∧ j ≤ n) → (n + 1 ≤ j + n9) → ∀ (ls : Array Slot), lv_has ls 4 [(0, .int (nI n)), (1, .int p1), (2, .int (nI k)), (3, .int (nI j))] → W p l e (headSpec wsX0_mirrored ({ frames := 2, cells := 0, slots := 0, locals := 49 })).room s m ([.int (nI n), .int p1] : List Value).toArray below meth c s.heap [] 0 0 (MQ below (vp_Si (fun r : Int32 => r = 0 ∨ r = 1)) ([.int (nI n), .int p1] : List Value).toArray s 0 0 (fun _ => False)) (F0 m 9 ls []) := by
          intro n9
          induction n9 with
          | zero =>
            intro j hk9 hn9 ls hl
            exfalso
            omega
          | succ n9 ih9 =>
            intro j hk9 hn9 ls hl
            refine lv_iload_n hx hb dX0_mirrored_9 rfl (lv_at hl 3 rfl) ?_
            refine lv_iload_n hx hb dX0_mirrored_10 rfl (lv_at hl 0 rfl) ?_
            refine lv_icmp_ge (tgt := 55) hx hb dX0_mirrored_11 (by decide) (fun c_2 => ?_) (fun c_2 => ?_)
            · skip
              have ic_2 := ci_le (nI_toInt (n := n) (by omega)) (nI_toInt (n := j) (by omega)) c_2
              refine lv_iinc (v := (nI (k + 1))) (lv' := [(2, .int (nI (k + 1))), (0, .int (nI n)), (1, .int p1), (3, .int (nI j))]) hx hb dX0_mirrored_55 hl (k := 2) rfl (nI_1 _) (by decide) rfl (fun ls hl => ?_)
              refine lv_goto (tgt := 2) hx hb dX0_mirrored_58 (by decide) ?_
              exact ih2 (k + 1)  ⟨by omega, by omega⟩ (by omega)  _ (lv_sub hl [1, 2, 0] rfl)
            · skip
              have ic_2 := ci_nle (nI_toInt (n := n) (by omega)) (nI_toInt (n := j) (by omega)) c_2
              refine lv_iload_n hx hb dX0_mirrored_14 rfl (lv_at hl 1 rfl) ?_
              refine lv_iload_n hx hb dX0_mirrored_15 rfl (lv_at hl 2 rfl) ?_
              refine vp_callSi (va_Run.run (va_runS (As := [.int p1, .int (nI k)]) (rest := []) ⟨hx, hb, hml, hown, hts⟩ (mX5_has l dC dI cyI cyZ p1 (nI k) ) (va_cwS 2 hts gX0_mirrored_X5_has rfl rfl rfl (by decide +kernel) ⟨Nat.le_of_ble_eq_true rfl, Nat.le_of_ble_eq_true rfl⟩) (bs_RS hB (hP.sub (ws' := []) [] rfl)) rfl rfl hl.1 rfl (lv_room (Nat.le_of_ble_eq_true rfl)) dX0_mirrored_16 ⟨Nat.le_of_ble_eq_true rfl, Nat.le_of_ble_eq_true rfl⟩)) (fun r_3 hr_3 => ?_)
              refine lv_if_eq (tgt := 49) hx hb dX0_mirrored_19 (by decide) (fun c_4 => ?_) (fun c_4 => ?_)
              · skip
                have ic_4 := ci_eq (rfl : Int32.toInt r_3 = _) (show Int32.toInt 0 = 0 by decide) c_4
                refine lv_iinc (v := (nI (j + 1))) (lv' := [(3, .int (nI (j + 1))), (0, .int (nI n)), (1, .int p1), (2, .int (nI k))]) hx hb dX0_mirrored_49 hl (k := 3) rfl (nI_1 _) (by decide) rfl (fun ls hl => ?_)
                refine lv_goto (tgt := 9) hx hb dX0_mirrored_52 (by decide) ?_
                exact ih9 (j + 1)  ⟨by omega, by omega⟩ (by omega)  _ (lv_sub hl [1, 2, 3, 0] rfl)
              · skip
                have ic_4 := ci_ne (rfl : Int32.toInt r_3 = _) (show Int32.toInt 0 = 0 by decide) c_4
                refine lv_iload_n hx hb dX0_mirrored_22 rfl (lv_at hl 1 rfl) ?_
                refine lv_iload_n hx hb dX0_mirrored_23 rfl (lv_at hl 3 rfl) ?_
                refine vp_callSi (va_Run.run (va_runS (As := [.int p1, .int (nI j)]) (rest := []) ⟨hx, hb, hml, hown, hts⟩ (mX5_has l dC dI cyI cyZ p1 (nI j) ) (va_cwS 2 hts gX0_mirrored_X5_has rfl rfl rfl (by decide +kernel) ⟨Nat.le_of_ble_eq_true rfl, Nat.le_of_ble_eq_true rfl⟩) (bs_RS hB (hP.sub (ws' := []) [] rfl)) rfl rfl hl.1 rfl (lv_room (Nat.le_of_ble_eq_true rfl)) dX0_mirrored_24 ⟨Nat.le_of_ble_eq_true rfl, Nat.le_of_ble_eq_true rfl⟩)) (fun r_5 hr_5 => ?_)
                refine lv_if_eq (tgt := 49) hx hb dX0_mirrored_27 (by decide) (fun c_6 => ?_) (fun c_6 => ?_)
                · skip
                  have ic_6 := ci_eq (rfl : Int32.toInt r_5 = _) (show Int32.toInt 0 = 0 by decide) c_6
                  refine lv_iinc (v := (nI (j + 1))) (lv' := [(3, .int (nI (j + 1))), (0, .int (nI n)), (1, .int p1), (2, .int (nI k))]) hx hb dX0_mirrored_49 hl (k := 3) rfl (nI_1 _) (by decide) rfl (fun ls hl => ?_)
                  refine lv_goto (tgt := 9) hx hb dX0_mirrored_52 (by decide) ?_
                  exact ih9 (j + 1)  ⟨by omega, by omega⟩ (by omega)  _ (lv_sub hl [1, 2, 3, 0] rfl)
                · skip
                  have ic_6 := ci_ne (rfl : Int32.toInt r_5 = _) (show Int32.toInt 0 = 0 by decide) c_6
                  refine lv_iload_n hx hb dX0_mirrored_30 rfl (lv_at hl 0 rfl) ?_
                  refine lv_iload_n hx hb dX0_mirrored_31 rfl (lv_at hl 1 rfl) ?_
                  refine lv_iload_n hx hb dX0_mirrored_32 rfl (lv_at hl 2 rfl) ?_
                  refine lv_iconst (v := 0) hx hb dX0_mirrored_33 (by decide) ?_
                  refine vp_callSi (va_Run.run (va_runS (As := [.int (nI n), .int p1, .int (nI k), .int 0]) (rest := []) ⟨hx, hb, hml, hown, hts⟩ (mX0_row l dC dI cyI cyZ n p1 (nI k) 0 (by omega)) (va_cwS 4 hts gX0_mirrored_X0_row rfl rfl rfl (by decide +kernel) ⟨Nat.le_of_ble_eq_true rfl, Nat.le_of_ble_eq_true rfl⟩) (bs_RS hB (hP.sub (ws' := []) [] rfl)) rfl rfl hl.1 rfl (lv_room (Nat.le_of_ble_eq_true rfl)) dX0_mirrored_34 ⟨Nat.le_of_ble_eq_true rfl, Nat.le_of_ble_eq_true rfl⟩)) (fun r_7 hr_7 => ?_)
                  refine lv_iload_n hx hb dX0_mirrored_37 rfl (lv_at hl 0 rfl) ?_
                  refine lv_iload_n hx hb dX0_mirrored_38 rfl (lv_at hl 1 rfl) ?_
                  refine lv_iload_n hx hb dX0_mirrored_39 rfl (lv_at hl 3 rfl) ?_
                  refine lv_iconst (v := 1) hx hb dX0_mirrored_40 (by decide) ?_
                  refine vp_callSi (va_Run.run (va_runS (As := [.int (nI n), .int p1, .int (nI j), .int 1]) (rest := [.int r_7]) ⟨hx, hb, hml, hown, hts⟩ (mX0_row l dC dI cyI cyZ n p1 (nI j) 1 (by omega)) (va_cwS 4 hts gX0_mirrored_X0_row rfl rfl rfl (by decide +kernel) ⟨Nat.le_of_ble_eq_true rfl, Nat.le_of_ble_eq_true rfl⟩) (bs_RS hB (hP.sub (ws' := []) [] rfl)) rfl rfl hl.1 rfl (lv_room (Nat.le_of_ble_eq_true rfl)) dX0_mirrored_41 ⟨Nat.le_of_ble_eq_true rfl, Nat.le_of_ble_eq_true rfl⟩)) (fun r_8 hr_8 => ?_)
                  refine lv_icmp_ne (tgt := 49) hx hb dX0_mirrored_44 (by decide) (fun c_9 => ?_) (fun c_9 => ?_)
                  · skip
                    have ic_9 := ci_ne (rfl : Int32.toInt r_7 = _) (rfl : Int32.toInt r_8 = _) c_9
                    refine lv_iinc (v := (nI (j + 1))) (lv' := [(3, .int (nI (j + 1))), (0, .int (nI n)), (1, .int p1), (2, .int (nI k))]) hx hb dX0_mirrored_49 hl (k := 3) rfl (nI_1 _) (by decide) rfl (fun ls hl => ?_)
                    refine lv_goto (tgt := 9) hx hb dX0_mirrored_52 (by decide) ?_
                    exact ih9 (j + 1)  ⟨by omega, by omega⟩ (by omega)  _ (lv_sub hl [1, 2, 3, 0] rfl)
                  · skip
                    have ic_9 := ci_eq (rfl : Int32.toInt r_7 = _) (rfl : Int32.toInt r_8 = _) c_9
                    refine lv_iconst (v := 1) hx hb dX0_mirrored_47 (by decide) ?_
                    exact W.zret (v := 1) hx hb hr (show narrow .boolean (.int 1) = .int 1 from rfl) (fun t ht hW => ⟨1, rfl, Or.inr rfl, ht⟩) (fun q h => by cases h) dX0_mirrored_48
        exact L9 (n + 1) 0  ⟨by omega, by omega⟩ (by omega)  _ (lv_sub hl [1, 2, 3, 0] rfl)
  exact L2 (n + 1) 0  ⟨by omega, by omega⟩ (by omega)  _ (lv_sub hl [1, 2, 0] rfl)

set_option maxHeartbeats 4000000 in
set_option maxRecDepth 100000 in
theorem mX0_evens (l : Launch) (dC : Nat → ClassId) (dI : Nat → Nat → Nat) (cyI cyZ : ClassId) (n : Nat) (p1 : Int32) (hn : n ≤ 10) : Met l yX0_evens wsX0_evens ({ frames := 2, cells := 0, slots := 0, locals := 49 }) (bs_R dC dI cyI cyZ [.int (nI n), .int p1] []) (vp_Si (fun r : Int32 => True)) 0 0 (fun _ => False) := by
  refine Met.ofW (cc := cX0_evens) (maxL := 4) (ret := (some .int)) (by decide) rfl ?_
  intro p e s m args below meth c s₁ B hml hv
  obtain ⟨rfl, hB, hP⟩ := hv
  have hK := hB.1
  have hN := hB.2
  have hx := B.exec
  have hb := B.bytes
  have hr := B.returns
  have hts := atoms_spec (ws := wsX0_evens) B.pre
  have hown : s.vm.findClass RX0 = some m.cls := findClass_of_methodNamed B.named
  have hlocks := B.notSynchronized
  have hP : va_P (dC, dI) vwCl [] s.heap := hP
  have hl := lv_entry ([.int (nI n), .int p1]) (n := 4) (Nat.le_of_ble_eq_true rfl)
  rw [lg_entry_eq]
  generalize (lg_sl ([.int (nI n), .int p1]) ++ List.replicate (4 - (lg_sl ([.int (nI n), .int p1])).length) Slot.unset).toArray = ls at hl ⊢
  have hl : lv_has ls 4 [(0, .int (nI n)), (1, .int p1)] := hl
  refine lv_iconst (v := 0) hx hb dX0_evens_0 (by decide) ?_
  refine lv_istore_n (lv' := [(2, .int 0), (0, .int (nI n)), (1, .int p1)]) hx hb dX0_evens_1 rfl hl (by decide) rfl (fun ls hl => ?_)
  refine lv_iconst (v := 0) hx hb dX0_evens_2 (by decide) ?_
  refine lv_istore_n (lv' := [(3, .int 0), (2, .int 0), (0, .int (nI n)), (1, .int p1)]) hx hb dX0_evens_3 rfl hl (by decide) rfl (fun ls hl => ?_)
  have L4 : ∀ (n4 : Nat), ∀ (k : Nat) (ya : Int32), (0 ≤ k ∧ k ≤ n) → (n + 1 ≤ k + n4) → ∀ (ls : Array Slot), lv_has ls 4 [(0, .int (nI n)), (1, .int p1), (2, .int ya), (3, .int (nI k))] → W p l e (headSpec wsX0_evens ({ frames := 2, cells := 0, slots := 0, locals := 49 })).room s m ([.int (nI n), .int p1] : List Value).toArray below meth c s.heap [] 0 0 (MQ below (vp_Si (fun r : Int32 => True)) ([.int (nI n), .int p1] : List Value).toArray s 0 0 (fun _ => False)) (F0 m 4 ls []) := by
    intro n4
    induction n4 with
    | zero =>
      intro k ya hk4 hn4 ls hl
      exfalso
      omega
    | succ n4 ih4 =>
      intro k ya hk4 hn4 ls hl
      refine lv_iload_n hx hb dX0_evens_4 rfl (lv_at hl 3 rfl) ?_
      refine lv_iload_n hx hb dX0_evens_5 rfl (lv_at hl 0 rfl) ?_
      refine lv_icmp_ge (tgt := 43) hx hb dX0_evens_6 (by decide) (fun c_1 => ?_) (fun c_1 => ?_)
      · skip
        have ic_1 := ci_le (nI_toInt (n := n) (by omega)) (nI_toInt (n := k) (by omega)) c_1
        refine lv_iload_n hx hb dX0_evens_43 rfl (lv_at hl 2 rfl) ?_
        exact W.iret (v := ya) hx hb hr (fun t ht hW => ⟨ya, rfl, trivial, ht⟩) (fun q h => by cases h) dX0_evens_44
      · skip
        have ic_1 := ci_nle (nI_toInt (n := n) (by omega)) (nI_toInt (n := k) (by omega)) c_1
        refine lv_iload_n hx hb dX0_evens_9 rfl (lv_at hl 1 rfl) ?_
        refine lv_iload_n hx hb dX0_evens_10 rfl (lv_at hl 3 rfl) ?_
        refine vp_callSi (va_Run.run (va_runS (As := [.int p1, .int (nI k)]) (rest := []) ⟨hx, hb, hml, hown, hts⟩ (mX5_has l dC dI cyI cyZ p1 (nI k) ) (va_cwS 2 hts gX0_evens_X5_has rfl rfl rfl (by decide +kernel) ⟨Nat.le_of_ble_eq_true rfl, Nat.le_of_ble_eq_true rfl⟩) (bs_RS hB (hP.sub (ws' := []) [] rfl)) rfl rfl hl.1 rfl (lv_room (Nat.le_of_ble_eq_true rfl)) dX0_evens_11 ⟨Nat.le_of_ble_eq_true rfl, Nat.le_of_ble_eq_true rfl⟩)) (fun r_2 hr_2 => ?_)
        refine lv_if_eq (tgt := 37) hx hb dX0_evens_14 (by decide) (fun c_3 => ?_) (fun c_3 => ?_)
        · skip
          have ic_3 := ci_eq (rfl : Int32.toInt r_2 = _) (show Int32.toInt 0 = 0 by decide) c_3
          refine lv_iinc (v := (nI (k + 1))) (lv' := [(3, .int (nI (k + 1))), (0, .int (nI n)), (1, .int p1), (2, .int ya)]) hx hb dX0_evens_37 hl (k := 3) rfl (nI_1 _) (by decide) rfl (fun ls hl => ?_)
          refine lv_goto (tgt := 4) hx hb dX0_evens_40 (by decide) ?_
          exact ih4 (k + 1) ya ⟨by omega, by omega⟩ (by omega)  _ (lv_sub hl [1, 2, 3, 0] rfl)
        · skip
          have ic_3 := ci_ne (rfl : Int32.toInt r_2 = _) (show Int32.toInt 0 = 0 by decide) c_3
          refine lv_iload_n hx hb dX0_evens_17 rfl (lv_at hl 0 rfl) ?_
          refine lv_iload_n hx hb dX0_evens_18 rfl (lv_at hl 1 rfl) ?_
          refine lv_iload_n hx hb dX0_evens_19 rfl (lv_at hl 3 rfl) ?_
          refine lv_iconst (v := 0) hx hb dX0_evens_20 (by decide) ?_
          refine vp_callSi (va_Run.run (va_runS (As := [.int (nI n), .int p1, .int (nI k), .int 0]) (rest := []) ⟨hx, hb, hml, hown, hts⟩ (mX0_row l dC dI cyI cyZ n p1 (nI k) 0 (by omega)) (va_cwS 4 hts gX0_evens_X0_row rfl rfl rfl (by decide +kernel) ⟨Nat.le_of_ble_eq_true rfl, Nat.le_of_ble_eq_true rfl⟩) (bs_RS hB (hP.sub (ws' := []) [] rfl)) rfl rfl hl.1 rfl (lv_room (Nat.le_of_ble_eq_true rfl)) dX0_evens_21 ⟨Nat.le_of_ble_eq_true rfl, Nat.le_of_ble_eq_true rfl⟩)) (fun r_4 hr_4 => ?_)
          refine lv_iload_n hx hb dX0_evens_24 rfl (lv_at hl 0 rfl) ?_
          refine lv_iload_n hx hb dX0_evens_25 rfl (lv_at hl 1 rfl) ?_
          refine lv_iload_n hx hb dX0_evens_26 rfl (lv_at hl 3 rfl) ?_
          refine lv_iconst (v := 1) hx hb dX0_evens_27 (by decide) ?_
          refine vp_callSi (va_Run.run (va_runS (As := [.int (nI n), .int p1, .int (nI k), .int 1]) (rest := [.int r_4]) ⟨hx, hb, hml, hown, hts⟩ (mX0_row l dC dI cyI cyZ n p1 (nI k) 1 (by omega)) (va_cwS 4 hts gX0_evens_X0_row rfl rfl rfl (by decide +kernel) ⟨Nat.le_of_ble_eq_true rfl, Nat.le_of_ble_eq_true rfl⟩) (bs_RS hB (hP.sub (ws' := []) [] rfl)) rfl rfl hl.1 rfl (lv_room (Nat.le_of_ble_eq_true rfl)) dX0_evens_28 ⟨Nat.le_of_ble_eq_true rfl, Nat.le_of_ble_eq_true rfl⟩)) (fun r_5 hr_5 => ?_)
          refine lv_icmp_ne (tgt := 37) hx hb dX0_evens_31 (by decide) (fun c_6 => ?_) (fun c_6 => ?_)
          · skip
            have ic_6 := ci_ne (rfl : Int32.toInt r_4 = _) (rfl : Int32.toInt r_5 = _) c_6
            refine lv_iinc (v := (nI (k + 1))) (lv' := [(3, .int (nI (k + 1))), (0, .int (nI n)), (1, .int p1), (2, .int ya)]) hx hb dX0_evens_37 hl (k := 3) rfl (nI_1 _) (by decide) rfl (fun ls hl => ?_)
            refine lv_goto (tgt := 4) hx hb dX0_evens_40 (by decide) ?_
            exact ih4 (k + 1) ya ⟨by omega, by omega⟩ (by omega)  _ (lv_sub hl [1, 2, 3, 0] rfl)
          · skip
            have ic_6 := ci_eq (rfl : Int32.toInt r_4 = _) (rfl : Int32.toInt r_5 = _) c_6
            obtain ⟨x_7, ex_7⟩ : ∃ y : Int32, y = ya + 1 := ⟨_, rfl⟩
            refine lv_iinc (v := x_7) (lv' := [(2, .int x_7), (0, .int (nI n)), (1, .int p1), (3, .int (nI k))]) hx hb dX0_evens_34 hl (k := 2) rfl (by rw [ex_7]; rfl) (by decide) rfl (fun ls hl => ?_)
            refine lv_iinc (v := (nI (k + 1))) (lv' := [(3, .int (nI (k + 1))), (2, .int x_7), (0, .int (nI n)), (1, .int p1)]) hx hb dX0_evens_37 hl (k := 3) rfl (nI_1 _) (by decide) rfl (fun ls hl => ?_)
            refine lv_goto (tgt := 4) hx hb dX0_evens_40 (by decide) ?_
            exact ih4 (k + 1) x_7 ⟨by omega, by omega⟩ (by omega)  _ (lv_sub hl [2, 3, 1, 0] rfl)
  exact L4 (n + 1) 0 0 ⟨by omega, by omega⟩ (by omega)  _ (lv_sub hl [2, 3, 1, 0] rfl)

set_option maxHeartbeats 4000000 in
set_option maxRecDepth 100000 in
theorem mX0_isSeenBelow (l : Launch) (dC : Nat → ClassId) (dI : Nat → Nat → Nat) (cyI cyZ : ClassId) (n : Nat) (j9 : Nat) (p1 : Int32) (hn : n ≤ 10) (hj9 : j9 ≤ 10) : Met l yX0_isSeenBelow wsX0_isSeenBelow ({ frames := 3, cells := 0, slots := 0, locals := 71 }) (bs_R dC dI cyI cyZ [.int (nI n), .int p1, .int (nI j9)] []) (vp_Si (fun r : Int32 => r = 0 ∨ r = 1)) 0 0 (fun _ => False) := by
  refine Met.ofW (cc := cX0_isSeenBelow) (maxL := 5) (ret := (some .boolean)) (by decide) rfl ?_
  intro p e s m args below meth c s₁ B hml hv
  obtain ⟨rfl, hB, hP⟩ := hv
  have hK := hB.1
  have hN := hB.2
  have hx := B.exec
  have hb := B.bytes
  have hr := B.returns
  have hts := atoms_spec (ws := wsX0_isSeenBelow) B.pre
  have hown : s.vm.findClass RX0 = some m.cls := findClass_of_methodNamed B.named
  have hlocks := B.notSynchronized
  have hP : va_P (dC, dI) vwCl [] s.heap := hP
  have hl := lv_entry ([.int (nI n), .int p1, .int (nI j9)]) (n := 5) (Nat.le_of_ble_eq_true rfl)
  rw [lg_entry_eq]
  generalize (lg_sl ([.int (nI n), .int p1, .int (nI j9)]) ++ List.replicate (5 - (lg_sl ([.int (nI n), .int p1, .int (nI j9)])).length) Slot.unset).toArray = ls at hl ⊢
  have hl : lv_has ls 5 [(0, .int (nI n)), (1, .int p1), (2, .int (nI j9))] := hl
  refine lv_iload_n hx hb dX0_isSeenBelow_0 rfl (lv_at hl 0 rfl) ?_
  refine lv_iload_n hx hb dX0_isSeenBelow_1 rfl (lv_at hl 1 rfl) ?_
  refine lv_iload_n hx hb dX0_isSeenBelow_2 rfl (lv_at hl 2 rfl) ?_
  refine vp_callSi (va_Run.run (va_runS (As := [.int (nI n), .int p1, .int (nI j9)]) (rest := []) ⟨hx, hb, hml, hown, hts⟩ (mX0_view l dC dI cyI cyZ n p1 (nI j9) (by omega)) (va_cwS 3 hts gX0_isSeenBelow_X0_view rfl rfl rfl (by decide +kernel) ⟨Nat.le_of_ble_eq_true rfl, Nat.le_of_ble_eq_true rfl⟩) (bs_RS hB (hP.sub (ws' := []) [] rfl)) rfl rfl hl.1 rfl (lv_room (Nat.le_of_ble_eq_true rfl)) dX0_isSeenBelow_3 ⟨Nat.le_of_ble_eq_true rfl, Nat.le_of_ble_eq_true rfl⟩)) (fun r_1 hr_1 => ?_)
  refine lv_istore_n (lv' := [(3, .int r_1), (0, .int (nI n)), (1, .int p1), (2, .int (nI j9))]) hx hb dX0_isSeenBelow_6 rfl hl (by decide) rfl (fun ls hl => ?_)
  refine lv_iconst (v := 0) hx hb dX0_isSeenBelow_7 (by decide) ?_
  refine lv_istore (lv' := [(4, .int 0), (3, .int r_1), (0, .int (nI n)), (1, .int p1), (2, .int (nI j9))]) hx hb dX0_isSeenBelow_8 hl (by decide) rfl (fun ls hl => ?_)
  have L10 : ∀ (n10 : Nat), ∀ (k : Nat) (ya : Int32), (0 ≤ k ∧ k ≤ j9) → (j9 + 1 ≤ k + n10) → ∀ (ls : Array Slot), lv_has ls 5 [(0, .int (nI n)), (1, .int p1), (2, .int (nI j9)), (3, .int ya), (4, .int (nI k))] → W p l e (headSpec wsX0_isSeenBelow ({ frames := 3, cells := 0, slots := 0, locals := 71 })).room s m ([.int (nI n), .int p1, .int (nI j9)] : List Value).toArray below meth c s.heap [] 0 0 (MQ below (vp_Si (fun r : Int32 => r = 0 ∨ r = 1)) ([.int (nI n), .int p1, .int (nI j9)] : List Value).toArray s 0 0 (fun _ => False)) (F0 m 10 ls []) := by
    intro n10
    induction n10 with
    | zero =>
      intro k ya hk10 hn10 ls hl
      exfalso
      omega
    | succ n10 ih10 =>
      intro k ya hk10 hn10 ls hl
      refine lv_iload hx hb dX0_isSeenBelow_10 (lv_at hl 4 rfl) ?_
      refine lv_iload_n hx hb dX0_isSeenBelow_12 rfl (lv_at hl 2 rfl) ?_
      refine lv_icmp_ge (tgt := 44) hx hb dX0_isSeenBelow_13 (by decide) (fun c_2 => ?_) (fun c_2 => ?_)
      · skip
        have ic_2 := ci_le (nI_toInt (n := j9) (by omega)) (nI_toInt (n := k) (by omega)) c_2
        refine lv_iconst (v := 0) hx hb dX0_isSeenBelow_44 (by decide) ?_
        exact W.zret (v := 0) hx hb hr (show narrow .boolean (.int 0) = .int 0 from rfl) (fun t ht hW => ⟨0, rfl, Or.inl rfl, ht⟩) (fun q h => by cases h) dX0_isSeenBelow_45
      · skip
        have ic_2 := ci_nle (nI_toInt (n := j9) (by omega)) (nI_toInt (n := k) (by omega)) c_2
        refine lv_iload_n hx hb dX0_isSeenBelow_16 rfl (lv_at hl 1 rfl) ?_
        refine lv_iload hx hb dX0_isSeenBelow_17 (lv_at hl 4 rfl) ?_
        refine vp_callSi (va_Run.run (va_runS (As := [.int p1, .int (nI k)]) (rest := []) ⟨hx, hb, hml, hown, hts⟩ (mX5_has l dC dI cyI cyZ p1 (nI k) ) (va_cwS 2 hts gX0_isSeenBelow_X5_has rfl rfl rfl (by decide +kernel) ⟨Nat.le_of_ble_eq_true rfl, Nat.le_of_ble_eq_true rfl⟩) (bs_RS hB (hP.sub (ws' := []) [] rfl)) rfl rfl hl.1 rfl (lv_room (Nat.le_of_ble_eq_true rfl)) dX0_isSeenBelow_19 ⟨Nat.le_of_ble_eq_true rfl, Nat.le_of_ble_eq_true rfl⟩)) (fun r_3 hr_3 => ?_)
        refine lv_if_eq (tgt := 38) hx hb dX0_isSeenBelow_22 (by decide) (fun c_4 => ?_) (fun c_4 => ?_)
        · skip
          have ic_4 := ci_eq (rfl : Int32.toInt r_3 = _) (show Int32.toInt 0 = 0 by decide) c_4
          refine lv_iinc (v := (nI (k + 1))) (lv' := [(4, .int (nI (k + 1))), (0, .int (nI n)), (1, .int p1), (2, .int (nI j9)), (3, .int ya)]) hx hb dX0_isSeenBelow_38 hl (k := 4) rfl (nI_1 _) (by decide) rfl (fun ls hl => ?_)
          refine lv_goto (tgt := 10) hx hb dX0_isSeenBelow_41 (by decide) ?_
          exact ih10 (k + 1) ya ⟨by omega, by omega⟩ (by omega)  _ (lv_sub hl [1, 2, 3, 4, 0] rfl)
        · skip
          have ic_4 := ci_ne (rfl : Int32.toInt r_3 = _) (show Int32.toInt 0 = 0 by decide) c_4
          refine lv_iload_n hx hb dX0_isSeenBelow_25 rfl (lv_at hl 0 rfl) ?_
          refine lv_iload_n hx hb dX0_isSeenBelow_26 rfl (lv_at hl 1 rfl) ?_
          refine lv_iload hx hb dX0_isSeenBelow_27 (lv_at hl 4 rfl) ?_
          refine vp_callSi (va_Run.run (va_runS (As := [.int (nI n), .int p1, .int (nI k)]) (rest := []) ⟨hx, hb, hml, hown, hts⟩ (mX0_view l dC dI cyI cyZ n p1 (nI k) (by omega)) (va_cwS 3 hts gX0_isSeenBelow_X0_view rfl rfl rfl (by decide +kernel) ⟨Nat.le_of_ble_eq_true rfl, Nat.le_of_ble_eq_true rfl⟩) (bs_RS hB (hP.sub (ws' := []) [] rfl)) rfl rfl hl.1 rfl (lv_room (Nat.le_of_ble_eq_true rfl)) dX0_isSeenBelow_29 ⟨Nat.le_of_ble_eq_true rfl, Nat.le_of_ble_eq_true rfl⟩)) (fun r_5 hr_5 => ?_)
          refine lv_iload_n hx hb dX0_isSeenBelow_32 rfl (lv_at hl 3 rfl) ?_
          refine lv_icmp_ne (tgt := 38) hx hb dX0_isSeenBelow_33 (by decide) (fun c_6 => ?_) (fun c_6 => ?_)
          · skip
            have ic_6 := ci_ne (rfl : Int32.toInt r_5 = _) (rfl : Int32.toInt ya = _) c_6
            refine lv_iinc (v := (nI (k + 1))) (lv' := [(4, .int (nI (k + 1))), (0, .int (nI n)), (1, .int p1), (2, .int (nI j9)), (3, .int ya)]) hx hb dX0_isSeenBelow_38 hl (k := 4) rfl (nI_1 _) (by decide) rfl (fun ls hl => ?_)
            refine lv_goto (tgt := 10) hx hb dX0_isSeenBelow_41 (by decide) ?_
            exact ih10 (k + 1) ya ⟨by omega, by omega⟩ (by omega)  _ (lv_sub hl [1, 2, 3, 4, 0] rfl)
          · skip
            have ic_6 := ci_eq (rfl : Int32.toInt r_5 = _) (rfl : Int32.toInt ya = _) c_6
            refine lv_iconst (v := 1) hx hb dX0_isSeenBelow_36 (by decide) ?_
            exact W.zret (v := 1) hx hb hr (show narrow .boolean (.int 1) = .int 1 from rfl) (fun t ht hW => ⟨1, rfl, Or.inr rfl, ht⟩) (fun q h => by cases h) dX0_isSeenBelow_37
  exact L10 (j9 + 1) 0 r_1 ⟨by omega, by omega⟩ (by omega)  _ (lv_sub hl [2, 3, 4, 1, 0] rfl)

set_option maxHeartbeats 4000000 in
set_option maxRecDepth 100000 in
theorem mX0_views (l : Launch) (dC : Nat → ClassId) (dI : Nat → Nat → Nat) (cyI cyZ : ClassId) (n : Nat) (p1 : Int32) (hn : n ≤ 10) : Met l yX0_views wsX0_views ({ frames := 4, cells := 0, slots := 0, locals := 95 }) (bs_R dC dI cyI cyZ [.int (nI n), .int p1] []) (vp_Si (fun r : Int32 => True)) 0 0 (fun _ => False) := by
  refine Met.ofW (cc := cX0_views) (maxL := 4) (ret := (some .int)) (by decide) rfl ?_
  intro p e s m args below meth c s₁ B hml hv
  obtain ⟨rfl, hB, hP⟩ := hv
  have hK := hB.1
  have hN := hB.2
  have hx := B.exec
  have hb := B.bytes
  have hr := B.returns
  have hts := atoms_spec (ws := wsX0_views) B.pre
  have hown : s.vm.findClass RX0 = some m.cls := findClass_of_methodNamed B.named
  have hlocks := B.notSynchronized
  have hP : va_P (dC, dI) vwCl [] s.heap := hP
  have hl := lv_entry ([.int (nI n), .int p1]) (n := 4) (Nat.le_of_ble_eq_true rfl)
  rw [lg_entry_eq]
  generalize (lg_sl ([.int (nI n), .int p1]) ++ List.replicate (4 - (lg_sl ([.int (nI n), .int p1])).length) Slot.unset).toArray = ls at hl ⊢
  have hl : lv_has ls 4 [(0, .int (nI n)), (1, .int p1)] := hl
  refine lv_iconst (v := 0) hx hb dX0_views_0 (by decide) ?_
  refine lv_istore_n (lv' := [(2, .int 0), (0, .int (nI n)), (1, .int p1)]) hx hb dX0_views_1 rfl hl (by decide) rfl (fun ls hl => ?_)
  refine lv_iconst (v := 0) hx hb dX0_views_2 (by decide) ?_
  refine lv_istore_n (lv' := [(3, .int 0), (2, .int 0), (0, .int (nI n)), (1, .int p1)]) hx hb dX0_views_3 rfl hl (by decide) rfl (fun ls hl => ?_)
  have L4 : ∀ (n4 : Nat), ∀ (k : Nat) (ya : Int32), (0 ≤ k ∧ k ≤ n) → (n + 1 ≤ k + n4) → ∀ (ls : Array Slot), lv_has ls 4 [(0, .int (nI n)), (1, .int p1), (2, .int ya), (3, .int (nI k))] → W p l e (headSpec wsX0_views ({ frames := 4, cells := 0, slots := 0, locals := 95 })).room s m ([.int (nI n), .int p1] : List Value).toArray below meth c s.heap [] 0 0 (MQ below (vp_Si (fun r : Int32 => True)) ([.int (nI n), .int p1] : List Value).toArray s 0 0 (fun _ => False)) (F0 m 4 ls []) := by
    intro n4
    induction n4 with
    | zero =>
      intro k ya hk4 hn4 ls hl
      exfalso
      omega
    | succ n4 ih4 =>
      intro k ya hk4 hn4 ls hl
      refine lv_iload_n hx hb dX0_views_4 rfl (lv_at hl 3 rfl) ?_
      refine lv_iload_n hx hb dX0_views_5 rfl (lv_at hl 0 rfl) ?_
      refine lv_icmp_ge (tgt := 35) hx hb dX0_views_6 (by decide) (fun c_1 => ?_) (fun c_1 => ?_)
      · skip
        have ic_1 := ci_le (nI_toInt (n := n) (by omega)) (nI_toInt (n := k) (by omega)) c_1
        refine lv_iload_n hx hb dX0_views_35 rfl (lv_at hl 2 rfl) ?_
        exact W.iret (v := ya) hx hb hr (fun t ht hW => ⟨ya, rfl, trivial, ht⟩) (fun q h => by cases h) dX0_views_36
      · skip
        have ic_1 := ci_nle (nI_toInt (n := n) (by omega)) (nI_toInt (n := k) (by omega)) c_1
        refine lv_iload_n hx hb dX0_views_9 rfl (lv_at hl 1 rfl) ?_
        refine lv_iload_n hx hb dX0_views_10 rfl (lv_at hl 3 rfl) ?_
        refine vp_callSi (va_Run.run (va_runS (As := [.int p1, .int (nI k)]) (rest := []) ⟨hx, hb, hml, hown, hts⟩ (mX5_has l dC dI cyI cyZ p1 (nI k) ) (va_cwS 2 hts gX0_views_X5_has rfl rfl rfl (by decide +kernel) ⟨Nat.le_of_ble_eq_true rfl, Nat.le_of_ble_eq_true rfl⟩) (bs_RS hB (hP.sub (ws' := []) [] rfl)) rfl rfl hl.1 rfl (lv_room (Nat.le_of_ble_eq_true rfl)) dX0_views_11 ⟨Nat.le_of_ble_eq_true rfl, Nat.le_of_ble_eq_true rfl⟩)) (fun r_2 hr_2 => ?_)
        refine lv_if_eq (tgt := 29) hx hb dX0_views_14 (by decide) (fun c_3 => ?_) (fun c_3 => ?_)
        · skip
          have ic_3 := ci_eq (rfl : Int32.toInt r_2 = _) (show Int32.toInt 0 = 0 by decide) c_3
          refine lv_iinc (v := (nI (k + 1))) (lv' := [(3, .int (nI (k + 1))), (0, .int (nI n)), (1, .int p1), (2, .int ya)]) hx hb dX0_views_29 hl (k := 3) rfl (nI_1 _) (by decide) rfl (fun ls hl => ?_)
          refine lv_goto (tgt := 4) hx hb dX0_views_32 (by decide) ?_
          exact ih4 (k + 1) ya ⟨by omega, by omega⟩ (by omega)  _ (lv_sub hl [1, 2, 3, 0] rfl)
        · skip
          have ic_3 := ci_ne (rfl : Int32.toInt r_2 = _) (show Int32.toInt 0 = 0 by decide) c_3
          refine lv_iload_n hx hb dX0_views_17 rfl (lv_at hl 0 rfl) ?_
          refine lv_iload_n hx hb dX0_views_18 rfl (lv_at hl 1 rfl) ?_
          refine lv_iload_n hx hb dX0_views_19 rfl (lv_at hl 3 rfl) ?_
          refine vp_callSi (va_Run.run (va_runS (As := [.int (nI n), .int p1, .int (nI k)]) (rest := []) ⟨hx, hb, hml, hown, hts⟩ (mX0_isSeenBelow l dC dI cyI cyZ n k p1 (by omega) (by omega)) (va_cwS 3 hts gX0_views_X0_isSeenBelow rfl rfl rfl (by decide +kernel) ⟨Nat.le_of_ble_eq_true rfl, Nat.le_of_ble_eq_true rfl⟩) (bs_RS hB (hP.sub (ws' := []) [] rfl)) rfl rfl hl.1 rfl (lv_room (Nat.le_of_ble_eq_true rfl)) dX0_views_20 ⟨Nat.le_of_ble_eq_true rfl, Nat.le_of_ble_eq_true rfl⟩)) (fun r_4 hr_4 => ?_)
          refine lv_if_ne (tgt := 29) hx hb dX0_views_23 (by decide) (fun c_5 => ?_) (fun c_5 => ?_)
          · skip
            have ic_5 := ci_ne (rfl : Int32.toInt r_4 = _) (show Int32.toInt 0 = 0 by decide) c_5
            refine lv_iinc (v := (nI (k + 1))) (lv' := [(3, .int (nI (k + 1))), (0, .int (nI n)), (1, .int p1), (2, .int ya)]) hx hb dX0_views_29 hl (k := 3) rfl (nI_1 _) (by decide) rfl (fun ls hl => ?_)
            refine lv_goto (tgt := 4) hx hb dX0_views_32 (by decide) ?_
            exact ih4 (k + 1) ya ⟨by omega, by omega⟩ (by omega)  _ (lv_sub hl [1, 2, 3, 0] rfl)
          · skip
            have ic_5 := ci_eq (rfl : Int32.toInt r_4 = _) (show Int32.toInt 0 = 0 by decide) c_5
            obtain ⟨x_6, ex_6⟩ : ∃ y : Int32, y = ya + 1 := ⟨_, rfl⟩
            refine lv_iinc (v := x_6) (lv' := [(2, .int x_6), (0, .int (nI n)), (1, .int p1), (3, .int (nI k))]) hx hb dX0_views_26 hl (k := 2) rfl (by rw [ex_6]; rfl) (by decide) rfl (fun ls hl => ?_)
            refine lv_iinc (v := (nI (k + 1))) (lv' := [(3, .int (nI (k + 1))), (2, .int x_6), (0, .int (nI n)), (1, .int p1)]) hx hb dX0_views_29 hl (k := 3) rfl (nI_1 _) (by decide) rfl (fun ls hl => ?_)
            refine lv_goto (tgt := 4) hx hb dX0_views_32 (by decide) ?_
            exact ih4 (k + 1) x_6 ⟨by omega, by omega⟩ (by omega)  _ (lv_sub hl [2, 3, 1, 0] rfl)
  exact L4 (n + 1) 0 0 ⟨by omega, by omega⟩ (by omega)  _ (lv_sub hl [2, 3, 1, 0] rfl)

set_option maxHeartbeats 4000000 in
set_option maxRecDepth 100000 in
theorem mX0_leastTurn (l : Launch) (dC : Nat → ClassId) (dI : Nat → Nat → Nat) (cyI cyZ : ClassId) (n : Nat) (p1 : Int32) (hn : n ≤ 10) : Met l yX0_leastTurn wsX0_leastTurn ({ frames := 1, cells := 0, slots := 0, locals := 21 }) (bs_R dC dI cyI cyZ [.int (nI n), .int p1] []) (vp_Si (fun r : Int32 => True)) 0 0 (fun _ => False) := by
  refine Met.ofW (cc := cX0_leastTurn) (maxL := 4) (ret := (some .int)) (by decide) rfl ?_
  intro p e s m args below meth c s₁ B hml hv
  obtain ⟨rfl, hB, hP⟩ := hv
  have hK := hB.1
  have hN := hB.2
  have hx := B.exec
  have hb := B.bytes
  have hr := B.returns
  have hts := atoms_spec (ws := wsX0_leastTurn) B.pre
  have hown : s.vm.findClass RX0 = some m.cls := findClass_of_methodNamed B.named
  have hlocks := B.notSynchronized
  have hP : va_P (dC, dI) vwCl [] s.heap := hP
  have hl := lv_entry ([.int (nI n), .int p1]) (n := 4) (Nat.le_of_ble_eq_true rfl)
  rw [lg_entry_eq]
  generalize (lg_sl ([.int (nI n), .int p1]) ++ List.replicate (4 - (lg_sl ([.int (nI n), .int p1])).length) Slot.unset).toArray = ls at hl ⊢
  have hl : lv_has ls 4 [(0, .int (nI n)), (1, .int p1)] := hl
  refine lv_iload_n hx hb dX0_leastTurn_0 rfl (lv_at hl 1 rfl) ?_
  refine lv_istore_n (lv' := [(2, .int p1), (0, .int (nI n)), (1, .int p1)]) hx hb dX0_leastTurn_1 rfl hl (by decide) rfl (fun ls hl => ?_)
  refine lv_iconst (v := 1) hx hb dX0_leastTurn_2 (by decide) ?_
  refine lv_istore_n (lv' := [(3, .int 1), (2, .int p1), (0, .int (nI n)), (1, .int p1)]) hx hb dX0_leastTurn_3 rfl hl (by decide) rfl (fun ls hl => ?_)
  have L4 : ∀ (n4 : Nat), ∀ (k : Nat) (ya : Int32), (1 ≤ k ∧ k ≤ n + 1) → (n + 1 + 1 ≤ k + n4) → ∀ (ls : Array Slot), lv_has ls 4 [(0, .int (nI n)), (1, .int p1), (2, .int ya), (3, .int (nI k))] → W p l e (headSpec wsX0_leastTurn ({ frames := 1, cells := 0, slots := 0, locals := 21 })).room s m ([.int (nI n), .int p1] : List Value).toArray below meth c s.heap [] 0 0 (MQ below (vp_Si (fun r : Int32 => True)) ([.int (nI n), .int p1] : List Value).toArray s 0 0 (fun _ => False)) (F0 m 4 ls []) := by
    intro n4
    induction n4 with
    | zero =>
      intro k ya hk4 hn4 ls hl
      exfalso
      omega
    | succ n4 ih4 =>
      intro k ya hk4 hn4 ls hl
      refine lv_iload_n hx hb dX0_leastTurn_4 rfl (lv_at hl 1 rfl) ?_
      refine lv_if_eq (tgt := 32) hx hb dX0_leastTurn_5 (by decide) (fun c_1 => ?_) (fun c_1 => ?_)
      · skip
        have ic_1 := ci_eq (rfl : Int32.toInt p1 = _) (show Int32.toInt 0 = 0 by decide) c_1
        refine lv_bipush (v := (-6)) hx hb dX0_leastTurn_32 (by decide) ?_
        exact W.iret (v := (-6)) hx hb hr (fun t ht hW => ⟨(-6), rfl, trivial, ht⟩) (fun q h => by cases h) dX0_leastTurn_34
      · skip
        have ic_1 := ci_ne (rfl : Int32.toInt p1 = _) (show Int32.toInt 0 = 0 by decide) c_1
        refine lv_iload_n hx hb dX0_leastTurn_8 rfl (lv_at hl 3 rfl) ?_
        refine lv_iload_n hx hb dX0_leastTurn_9 rfl (lv_at hl 0 rfl) ?_
        refine lv_icmp_gt (tgt := 32) hx hb dX0_leastTurn_10 (by decide) (fun c_2 => ?_) (fun c_2 => ?_)
        · skip
          have ic_2 := ci_lt (nI_toInt (n := n) (by omega)) (nI_toInt (n := k) (by omega)) c_2
          refine lv_bipush (v := (-6)) hx hb dX0_leastTurn_32 (by decide) ?_
          exact W.iret (v := (-6)) hx hb hr (fun t ht hW => ⟨(-6), rfl, trivial, ht⟩) (fun q h => by cases h) dX0_leastTurn_34
        · skip
          have ic_2 := ci_nlt (nI_toInt (n := n) (by omega)) (nI_toInt (n := k) (by omega)) c_2
          refine lv_iload_n hx hb dX0_leastTurn_13 rfl (lv_at hl 0 rfl) ?_
          refine lv_iload_n hx hb dX0_leastTurn_14 rfl (lv_at hl 2 rfl) ?_
          refine vp_callSi (va_Run.run (va_runS (As := [.int (nI n), .int ya]) (rest := []) ⟨hx, hb, hml, hown, hts⟩ (mX5_turnedUp l dC dI cyI cyZ (nI n) ya ) (va_cwS 2 hts gX0_leastTurn_X5_turnedUp rfl rfl rfl (by decide +kernel) ⟨Nat.le_of_ble_eq_true rfl, Nat.le_of_ble_eq_true rfl⟩) (bs_RS hB (hP.sub (ws' := []) [] rfl)) rfl rfl hl.1 rfl (lv_room (Nat.le_of_ble_eq_true rfl)) dX0_leastTurn_15 ⟨Nat.le_of_ble_eq_true rfl, Nat.le_of_ble_eq_true rfl⟩)) (fun r_3 hr_3 => ?_)
          refine lv_istore_n (lv' := [(2, .int r_3), (0, .int (nI n)), (1, .int p1), (3, .int (nI k))]) hx hb dX0_leastTurn_18 rfl hl (by decide) rfl (fun ls hl => ?_)
          refine lv_iload_n hx hb dX0_leastTurn_19 rfl (lv_at hl 0 rfl) ?_
          refine lv_iload_n hx hb dX0_leastTurn_20 rfl (lv_at hl 2 rfl) ?_
          refine lv_icmp_ne (tgt := 26) hx hb dX0_leastTurn_21 (by decide) (fun c_4 => ?_) (fun c_4 => ?_)
          · skip
            have ic_4 := ci_ne (rfl : Int32.toInt r_3 = _) (rfl : Int32.toInt p1 = _) c_4
            refine lv_iinc (v := (nI (k + 1))) (lv' := [(3, .int (nI (k + 1))), (2, .int r_3), (0, .int (nI n)), (1, .int p1)]) hx hb dX0_leastTurn_26 hl (k := 3) rfl (nI_1 _) (by decide) rfl (fun ls hl => ?_)
            refine lv_goto (tgt := 4) hx hb dX0_leastTurn_29 (by decide) ?_
            exact ih4 (k + 1) r_3 ⟨by omega, by omega⟩ (by omega)  _ (lv_sub hl [2, 3, 1, 0] rfl)
          · skip
            have ic_4 := ci_eq (rfl : Int32.toInt r_3 = _) (rfl : Int32.toInt p1 = _) c_4
            refine lv_iload_n hx hb dX0_leastTurn_24 rfl (lv_at hl 3 rfl) ?_
            exact W.iret (v := (nI k)) hx hb hr (fun t ht hW => ⟨(nI k), rfl, trivial, ht⟩) (fun q h => by cases h) dX0_leastTurn_25
  exact L4 (n + 1 + 1) 1 p1 ⟨by omega, by omega⟩ (by omega)  _ (lv_sub hl [2, 3, 1, 0] rfl)

theorem hnX3_has_X3 : ∀ w ∈ wsX30, w ∈ wsX3_has := fun _ h => List.mem_cons_of_mem _ (List.mem_append_right _ h)
set_option maxHeartbeats 4000000 in
set_option maxRecDepth 100000 in
theorem mX3_has (l : Launch) (dC : Nat → ClassId) (dI : Nat → Nat → Nat) (cyI cyZ : ClassId) (ru : Nat) (rt : Nat) (zz : Nat) (p1 : Int32) (hzz : zz ≤ 10) : Met l yX3_has wsX3_has ({ frames := 0, cells := 0, slots := 0, locals := 0 }) (bs_R dC dI cyI cyZ [.ref ru, .int p1] [(ru, .inr (2, [.ref rt, .int (nI zz)]))]) (vp_Si (fun r : Int32 => (r = 0 ∨ r = 1) ∧ (r = 1 → ∃ j, j < zz ∧ p1 = nI j) ∧ (r = 0 → ¬ (0 ≤ p1.toInt ∧ p1.toInt < zz)))) 0 0 (fun _ => False) := by
  refine Met.ofW (cc := cX3_has) (maxL := 2) (ret := (some .boolean)) (by decide) rfl ?_
  intro p e s m args below meth c s₁ B hml hv
  obtain ⟨rfl, hB, hP⟩ := hv
  have hK := hB.1
  have hN := hB.2
  have hx := B.exec
  have hb := B.bytes
  have hr := B.returns
  have hts := atoms_spec (ws := wsX3_has) B.pre
  have hown : s.vm.findClass RX3 = some m.cls := findClass_of_methodNamed B.named
  have hlocks := B.notSynchronized
  have hP : va_P (dC, dI) vwCl [(ru, .inr (2, [.ref rt, .int (nI zz)]))] s.heap := hP
  have hl := lv_entry ([.ref ru, .int p1]) (n := 2) (Nat.le_of_ble_eq_true rfl)
  rw [lg_entry_eq]
  generalize (lg_sl ([.ref ru, .int p1]) ++ List.replicate (2 - (lg_sl ([.ref ru, .int p1])).length) Slot.unset).toArray = ls at hl ⊢
  have hl : lv_has ls 2 [(0, .ref ru), (1, .int p1)] := hl
  refine lv_iload_n hx hb dX3_has_0 rfl (lv_at hl 1 rfl) ?_
  refine lv_if_lt (tgt := 22) hx hb dX3_has_1 (by decide) (fun c_1 => ?_) (fun c_1 => ?_)
  · skip
    have ic_1 := ci_lt (rfl : Int32.toInt p1 = _) (show Int32.toInt 0 = 0 by decide) c_1
    refine lv_iconst (v := 0) hx hb dX3_has_22 (by decide) ?_
    exact W.zret (v := 0) hx hb hr (show narrow .boolean (.int 0) = .int 0 from rfl) (fun t ht hW => ⟨0, rfl, ⟨Or.inl rfl, fun h => absurd h (by decide), fun _ => by omega⟩, ht⟩) (fun q h => by cases h) dX3_has_23
  · skip
    have ic_1 := ci_nlt (rfl : Int32.toInt p1 = _) (show Int32.toInt 0 = 0 by decide) c_1
    refine lv_iload_n hx hb dX3_has_4 rfl (lv_at hl 1 rfl) ?_
    refine lv_aload_n hx hb dX3_has_5 rfl (lv_at hl 0 rfl) ?_
    refine va_get (D := (dC, dI)) (ci := 2) (v := .int (nI zz)) (C := RX3) (T := TX3) (N := 2) hx hb hts hnX3_has_X3 hown hK hP 0 rfl rfl 1 (by decide) (hts (.fieldLink RX3 15 "RingMeets$Rules" "size" "I") (by decide +kernel)) (fun _ h9 => h9) rfl dX3_has_6 ?_
    refine lv_icmp_ge (tgt := 22) hx hb dX3_has_9 (by decide) (fun c_2 => ?_) (fun c_2 => ?_)
    · skip
      have ic_2 := ci_le (nI_toInt (n := zz) (by omega)) (rfl : Int32.toInt p1 = _) c_2
      refine lv_iconst (v := 0) hx hb dX3_has_22 (by decide) ?_
      exact W.zret (v := 0) hx hb hr (show narrow .boolean (.int 0) = .int 0 from rfl) (fun t ht hW => ⟨0, rfl, ⟨Or.inl rfl, fun h => absurd h (by decide), fun _ => by omega⟩, ht⟩) (fun q h => by cases h) dX3_has_23
    · skip
      have ic_2 := ci_nle (nI_toInt (n := zz) (by omega)) (rfl : Int32.toInt p1 = _) c_2
      refine lv_iload_n hx hb dX3_has_12 rfl (lv_at hl 1 rfl) ?_
      refine lv_bipush (v := 10) hx hb dX3_has_13 (by decide) ?_
      refine lv_icmp_ge (tgt := 22) hx hb dX3_has_15 (by decide) (fun c_3 => ?_) (fun c_3 => ?_)
      · skip
        have ic_3 := ci_le (show Int32.toInt 10 = 10 by decide) (rfl : Int32.toInt p1 = _) c_3
        refine lv_iconst (v := 0) hx hb dX3_has_22 (by decide) ?_
        exact W.zret (v := 0) hx hb hr (show narrow .boolean (.int 0) = .int 0 from rfl) (fun t ht hW => ⟨0, rfl, ⟨Or.inl rfl, fun h => absurd h (by decide), fun _ => by omega⟩, ht⟩) (fun q h => by cases h) dX3_has_23
      · skip
        have ic_3 := ci_nle (show Int32.toInt 10 = 10 by decide) (rfl : Int32.toInt p1 = _) c_3
        refine lv_iconst (v := 1) hx hb dX3_has_18 (by decide) ?_
        refine lv_goto (tgt := 23) hx hb dX3_has_19 (by decide) ?_
        exact W.zret (v := 1) hx hb hr (show narrow .boolean (.int 1) = .int 1 from rfl) (fun t ht hW => ⟨1, rfl, ⟨Or.inr rfl, fun _ => nb_ofl (by omega) (by omega), fun h => absurd h (by decide)⟩, ht⟩) (fun q h => by cases h) dX3_has_23

theorem hnX3_part_X3 : ∀ w ∈ wsX30, w ∈ wsX3_part := fun _ h => List.mem_cons_of_mem _ (List.mem_append_right _ h)
set_option maxHeartbeats 4000000 in
set_option maxRecDepth 100000 in
theorem mX3_part (l : Launch) (dC : Nat → ClassId) (dI : Nat → Nat → Nat) (cyI cyZ : ClassId) (ru : Nat) (rt : Nat) (zz : Nat) (tg : Nat → Int32) (p1 : Int32) (p2 : Int32) (hzz : zz ≤ 10) : Met l yX3_part wsX3_part ({ frames := 1, cells := 0, slots := 0, locals := 21 }) (bs_R dC dI cyI cyZ [.ref ru, .int p1, .int p2] [(ru, .inr (2, [.ref rt, .int (nI zz)])), (rt, .inl (cyI, 60, .inl tg))]) (vp_Si (fun r : Int32 => ∀ j k : Nat, j < zz → k < 6 → p1 = nI j → p2 = nI k → r = tg (j * 6 + k))) 0 0 (fun _ => False) := by
  refine Met.ofW (cc := cX3_part) (maxL := 3) (ret := (some .int)) (by decide) rfl ?_
  intro p e s m args below meth c s₁ B hml hv
  obtain ⟨rfl, hB, hP⟩ := hv
  have hK := hB.1
  have hN := hB.2
  have hx := B.exec
  have hb := B.bytes
  have hr := B.returns
  have hts := atoms_spec (ws := wsX3_part) B.pre
  have hown : s.vm.findClass RX3 = some m.cls := findClass_of_methodNamed B.named
  have hlocks := B.notSynchronized
  have hP : va_P (dC, dI) vwCl [(ru, .inr (2, [.ref rt, .int (nI zz)])), (rt, .inl (cyI, 60, .inl tg))] s.heap := hP
  have hl := lv_entry ([.ref ru, .int p1, .int p2]) (n := 3) (Nat.le_of_ble_eq_true rfl)
  rw [lg_entry_eq]
  generalize (lg_sl ([.ref ru, .int p1, .int p2]) ++ List.replicate (3 - (lg_sl ([.ref ru, .int p1, .int p2])).length) Slot.unset).toArray = ls at hl ⊢
  have hl : lv_has ls 3 [(0, .ref ru), (1, .int p1), (2, .int p2)] := hl
  refine lv_aload_n hx hb dX3_part_0 rfl (lv_at hl 0 rfl) ?_
  refine lv_iload_n hx hb dX3_part_1 rfl (lv_at hl 1 rfl) ?_
  refine vp_callSi (va_Run.run (va_runV (As := [.int p1]) (rest := []) ⟨hx, hb, hml, hown, hts⟩ (mX3_has l dC dI cyI cyZ ru rt zz p1 (by omega)) (cwV 1 hts gX3_part_X3_has rfl rfl rfl (by decide +kernel) ⟨Nat.le_of_ble_eq_true rfl, Nat.le_of_ble_eq_true rfl⟩) (bs_RV hB (hP.sub (ws' := [(ru, .inr (2, [.ref rt, .int (nI zz)]))]) [0] rfl) 0 rfl rfl) rfl rfl hl.1 rfl (lv_room (Nat.le_of_ble_eq_true rfl)) dX3_part_2 ⟨Nat.le_of_ble_eq_true rfl, Nat.le_of_ble_eq_true rfl⟩)) (fun r_1 hr_1 => ?_)
  refine lv_if_eq (tgt := 32) hx hb dX3_part_5 (by decide) (fun c_2 => ?_) (fun c_2 => ?_)
  · skip
    have ic_2 := ci_eq (rfl : Int32.toInt r_1 = _) (show Int32.toInt 0 = 0 by decide) c_2
    refine lv_iconst (v := 0) hx hb dX3_part_32 (by decide) ?_
    exact W.iret (v := 0) hx hb hr (fun t ht hW => ⟨0, rfl, (fun j k hj hk e1 e2 => by exfalso; have t1 := congrArg Int32.toInt e1; have t2 := congrArg Int32.toInt e2; rw [nI_toInt (by omega)] at t1; rw [nI_toInt (by omega)] at t2; first | omega | exact absurd ⟨by omega, by omega⟩ (hr_1.2.2 c_2)), ht⟩) (fun q h => by cases h) dX3_part_33
  · skip
    have ic_2 := ci_ne (rfl : Int32.toInt r_1 = _) (show Int32.toInt 0 = 0 by decide) c_2
    refine lv_iload_n hx hb dX3_part_8 rfl (lv_at hl 2 rfl) ?_
    refine lv_if_lt (tgt := 32) hx hb dX3_part_9 (by decide) (fun c_3 => ?_) (fun c_3 => ?_)
    · skip
      have ic_3 := ci_lt (rfl : Int32.toInt p2 = _) (show Int32.toInt 0 = 0 by decide) c_3
      refine lv_iconst (v := 0) hx hb dX3_part_32 (by decide) ?_
      exact W.iret (v := 0) hx hb hr (fun t ht hW => ⟨0, rfl, (fun j k hj hk e1 e2 => by exfalso; have t1 := congrArg Int32.toInt e1; have t2 := congrArg Int32.toInt e2; rw [nI_toInt (by omega)] at t1; rw [nI_toInt (by omega)] at t2; first | omega | exact absurd ⟨by omega, by omega⟩ (hr_1.2.2 c_2)), ht⟩) (fun q h => by cases h) dX3_part_33
    · skip
      have ic_3 := ci_nlt (rfl : Int32.toInt p2 = _) (show Int32.toInt 0 = 0 by decide) c_3
      refine lv_iload_n hx hb dX3_part_12 rfl (lv_at hl 2 rfl) ?_
      refine lv_bipush (v := 6) hx hb dX3_part_13 (by decide) ?_
      refine lv_icmp_ge (tgt := 32) hx hb dX3_part_15 (by decide) (fun c_4 => ?_) (fun c_4 => ?_)
      · skip
        have ic_4 := ci_le (show Int32.toInt 6 = 6 by decide) (rfl : Int32.toInt p2 = _) c_4
        refine lv_iconst (v := 0) hx hb dX3_part_32 (by decide) ?_
        exact W.iret (v := 0) hx hb hr (fun t ht hW => ⟨0, rfl, (fun j k hj hk e1 e2 => by exfalso; have t1 := congrArg Int32.toInt e1; have t2 := congrArg Int32.toInt e2; rw [nI_toInt (by omega)] at t1; rw [nI_toInt (by omega)] at t2; first | omega | exact absurd ⟨by omega, by omega⟩ (hr_1.2.2 c_2)), ht⟩) (fun q h => by cases h) dX3_part_33
      · skip
        have ic_4 := ci_nle (show Int32.toInt 6 = 6 by decide) (rfl : Int32.toInt p2 = _) c_4
        obtain ⟨j, hj9, ej9⟩ := hr_1.2.1 (hr_1.1.resolve_left c_2)
        subst ej9
        obtain ⟨k, hk9, ek9⟩ := nb_of (x := p2) (n := 5) (by omega) (by omega) (by decide)
        subst ek9
        refine lv_aload_n hx hb dX3_part_18 rfl (lv_at hl 0 rfl) ?_
        refine va_get (D := (dC, dI)) (ci := 2) (v := .ref rt) (C := RX3) (T := TX3) (N := 2) hx hb hts hnX3_part_X3 hown hK hP 0 rfl rfl 0 (by decide) (hts (.fieldLink RX3 9 "RingMeets$Rules" "told" "[I") (by decide +kernel)) (fun _ h9 => h9) rfl dX3_part_19 ?_
        refine lv_iload_n hx hb dX3_part_22 rfl (lv_at hl 1 rfl) ?_
        refine lv_bipush (v := 6) hx hb dX3_part_23 (by decide) ?_
        refine lv_imul hx hb dX3_part_25 ?_
        refine lv_topi (fun x_5 ex_5 => ?_)
        obtain rfl : (nI (j * 6)) = x_5 := (ex_5.trans (nb_mul _ 6)).symm
        refine lv_iload_n hx hb dX3_part_26 rfl (lv_at hl 2 rfl) ?_
        refine lv_iadd hx hb dX3_part_27 ?_
        refine lv_topi (fun x_6 ex_6 => ?_)
        obtain rfl : (nI ((j * 6) + k)) = x_6 := (ex_6.trans (nI_add _ _)).symm
        refine va_iald (D := (dC, dI)) hx hb hK hP 1 0 rfl rfl (vp_in_nI (n := ((j * 6) + k)) (N := 60) (by omega) (by omega)) dX3_part_28 ?_
        refine lv_topi (fun x_7 ex_7 => ?_)
        rw [nI_clamp (n := ((j * 6) + k)) (by omega)] at ex_7
        refine lv_goto (tgt := 33) hx hb dX3_part_29 (by decide) ?_
        exact W.iret (v := x_7) hx hb hr (fun t ht hW => ⟨x_7, rfl, (fun j k hj hk e1 e2 => by rw [ex_7, nb_inj9 (by omega) (by omega) e1, nb_inj9 (by omega) (by omega) e2]), ht⟩) (fun q h => by cases h) dX3_part_33

theorem hnX3_setPart_X3 : ∀ w ∈ wsX30, w ∈ wsX3_setPart := fun _ h => List.mem_cons_of_mem _ (List.mem_append_right _ h)
set_option maxHeartbeats 4000000 in
set_option maxRecDepth 100000 in
theorem mX3_setPart (l : Launch) (dC : Nat → ClassId) (dI : Nat → Nat → Nat) (cyI cyZ : ClassId) (ru : Nat) (rt : Nat) (zz : Nat) (tg : Nat → Int32) (p1 : Int32) (p2 : Int32) (p3 : Int32) (hzz : zz ≤ 10) (sz : Nat) : Met l yX3_setPart wsX3_setPart ({ frames := 1, cells := 0, slots := 0, locals := 21 }) (bs_W dC dI cyI cyZ [.ref ru, .int p1, .int p2, .int p3] [(ru, .inr (2, [.ref rt, .int (nI zz)])), (rt, .inl (cyI, 60, .inl tg))] sz) (va_Qv (S := (Nat → Int32)) (fun q : (Nat → Int32) => ∀ j k : Nat, j < zz → k < 6 → p1 = nI j → p2 = nI k → q = upd tg (j * 6 + k) p3) (fun q t => bs_E dC dI (va_A [(ru, .inr (2, [.ref rt, .int (nI zz)])), (rt, .inl (cyI, 60, .inl tg))] sz) [(ru, .inr (2, [.ref rt, .int (nI zz)])), (rt, .inl (cyI, 60, .inl q))] t) (va_A [(ru, .inr (2, [.ref rt, .int (nI zz)])), (rt, .inl (cyI, 60, .inl tg))] sz)) 0 0 (va_A [(ru, .inr (2, [.ref rt, .int (nI zz)])), (rt, .inl (cyI, 60, .inl tg))] sz) := by
  refine Met.ofW (cc := cX3_setPart) (maxL := 4) (ret := none) (by decide) rfl ?_
  intro p e s m args below meth c s₁ B hml hv
  obtain ⟨rfl, hsz, hB, hP, hD0⟩ := hv
  have hK := hB.1
  have hN := hB.2
  have hx := B.exec
  have hb := B.bytes
  have hr := B.returns
  have hts := atoms_spec (ws := wsX3_setPart) B.pre
  have hown : s.vm.findClass RX3 = some m.cls := findClass_of_methodNamed B.named
  have hlocks := B.notSynchronized
  subst hsz
  have hD := hD0.self (sz := s.heap.size)
  generalize hAe : va_A [(ru, .inr (2, [.ref rt, .int (nI zz)])), (rt, .inl (cyI, 60, .inl tg))] s.heap.size = A at hD ⊢
  have hA : ∀ q : Nat, s.heap.size ≤ q → A q := fun q h => by rw [← hAe]; exact Or.inr h
  have hS : va_S A s.heap s.heap [] := va_S.rf
  have hP : va_P (dC, dI) vwCl [(ru, .inr (2, [.ref rt, .int (nI zz)])), (rt, .inl (cyI, 60, .inl tg))] s.heap := hP
  have hl := lv_entry ([.ref ru, .int p1, .int p2, .int p3]) (n := 4) (Nat.le_of_ble_eq_true rfl)
  rw [lg_entry_eq]
  generalize (lg_sl ([.ref ru, .int p1, .int p2, .int p3]) ++ List.replicate (4 - (lg_sl ([.ref ru, .int p1, .int p2, .int p3])).length) Slot.unset).toArray = ls at hl ⊢
  have hl : lv_has ls 4 [(0, .ref ru), (1, .int p1), (2, .int p2), (3, .int p3)] := hl
  refine lv_aload_n hx hb dX3_setPart_0 rfl (lv_at hl 0 rfl) ?_
  refine lv_iload_n hx hb dX3_setPart_1 rfl (lv_at hl 1 rfl) ?_
  refine vp_callSi (va_Run.run (va_runV (As := [.int p1]) (rest := []) ⟨hx, hb, hml, hown, hts⟩ (mX3_has l dC dI cyI cyZ ru rt zz p1 (by omega)) (cwV 1 hts gX3_setPart_X3_has rfl rfl rfl (by decide +kernel) ⟨Nat.le_of_ble_eq_true rfl, Nat.le_of_ble_eq_true rfl⟩) (bs_RV hB (hP.sub (ws' := [(ru, .inr (2, [.ref rt, .int (nI zz)]))]) [0] rfl) 0 rfl rfl) rfl rfl hl.1 rfl (lv_room (Nat.le_of_ble_eq_true rfl)) dX3_setPart_2 ⟨Nat.le_of_ble_eq_true rfl, Nat.le_of_ble_eq_true rfl⟩)) (fun r_1 hr_1 => ?_)
  refine lv_if_eq (tgt := 30) hx hb dX3_setPart_5 (by decide) (fun c_2 => ?_) (fun c_2 => ?_)
  · skip
    have ic_2 := ci_eq (rfl : Int32.toInt r_1 = _) (show Int32.toInt 0 = 0 by decide) c_2
    exact W.vret hx hb hr (fun t ht hW => ⟨⟨tg, rfl, (fun j k hj hk e1 e2 => by exfalso; have t1 := congrArg Int32.toInt e1; have t2 := congrArg Int32.toInt e2; rw [nI_toInt (by omega)] at t1; rw [nI_toInt (by omega)] at t2; first | omega | exact absurd ⟨by omega, by omega⟩ (hr_1.2.2 c_2)), ⟨by rw [ht]; exact hP.sub (ws' := [(ru, .inr (2, [.ref rt, .int (nI zz)])), (rt, .inl (cyI, 60, .inl tg))]) [0, 1] rfl, hD.sub (ws' := [(ru, .inr (2, [.ref rt, .int (nI zz)])), (rt, .inl (cyI, 60, .inl tg))]) [0, 1] (by decide) rfl⟩⟩, hS.F ht⟩) hS.2.2 dX3_setPart_30
  · skip
    have ic_2 := ci_ne (rfl : Int32.toInt r_1 = _) (show Int32.toInt 0 = 0 by decide) c_2
    refine lv_iload_n hx hb dX3_setPart_8 rfl (lv_at hl 2 rfl) ?_
    refine lv_if_lt (tgt := 30) hx hb dX3_setPart_9 (by decide) (fun c_3 => ?_) (fun c_3 => ?_)
    · skip
      have ic_3 := ci_lt (rfl : Int32.toInt p2 = _) (show Int32.toInt 0 = 0 by decide) c_3
      exact W.vret hx hb hr (fun t ht hW => ⟨⟨tg, rfl, (fun j k hj hk e1 e2 => by exfalso; have t1 := congrArg Int32.toInt e1; have t2 := congrArg Int32.toInt e2; rw [nI_toInt (by omega)] at t1; rw [nI_toInt (by omega)] at t2; first | omega | exact absurd ⟨by omega, by omega⟩ (hr_1.2.2 c_2)), ⟨by rw [ht]; exact hP.sub (ws' := [(ru, .inr (2, [.ref rt, .int (nI zz)])), (rt, .inl (cyI, 60, .inl tg))]) [0, 1] rfl, hD.sub (ws' := [(ru, .inr (2, [.ref rt, .int (nI zz)])), (rt, .inl (cyI, 60, .inl tg))]) [0, 1] (by decide) rfl⟩⟩, hS.F ht⟩) hS.2.2 dX3_setPart_30
    · skip
      have ic_3 := ci_nlt (rfl : Int32.toInt p2 = _) (show Int32.toInt 0 = 0 by decide) c_3
      refine lv_iload_n hx hb dX3_setPart_12 rfl (lv_at hl 2 rfl) ?_
      refine lv_bipush (v := 6) hx hb dX3_setPart_13 (by decide) ?_
      refine lv_icmp_ge (tgt := 30) hx hb dX3_setPart_15 (by decide) (fun c_4 => ?_) (fun c_4 => ?_)
      · skip
        have ic_4 := ci_le (show Int32.toInt 6 = 6 by decide) (rfl : Int32.toInt p2 = _) c_4
        exact W.vret hx hb hr (fun t ht hW => ⟨⟨tg, rfl, (fun j k hj hk e1 e2 => by exfalso; have t1 := congrArg Int32.toInt e1; have t2 := congrArg Int32.toInt e2; rw [nI_toInt (by omega)] at t1; rw [nI_toInt (by omega)] at t2; first | omega | exact absurd ⟨by omega, by omega⟩ (hr_1.2.2 c_2)), ⟨by rw [ht]; exact hP.sub (ws' := [(ru, .inr (2, [.ref rt, .int (nI zz)])), (rt, .inl (cyI, 60, .inl tg))]) [0, 1] rfl, hD.sub (ws' := [(ru, .inr (2, [.ref rt, .int (nI zz)])), (rt, .inl (cyI, 60, .inl tg))]) [0, 1] (by decide) rfl⟩⟩, hS.F ht⟩) hS.2.2 dX3_setPart_30
      · skip
        have ic_4 := ci_nle (show Int32.toInt 6 = 6 by decide) (rfl : Int32.toInt p2 = _) c_4
        obtain ⟨j, hj9, ej9⟩ := hr_1.2.1 (hr_1.1.resolve_left c_2)
        subst ej9
        obtain ⟨k, hk9, ek9⟩ := nb_of (x := p2) (n := 5) (by omega) (by omega) (by decide)
        subst ek9
        refine lv_aload_n hx hb dX3_setPart_18 rfl (lv_at hl 0 rfl) ?_
        refine va_get (D := (dC, dI)) (ci := 2) (v := .ref rt) (C := RX3) (T := TX3) (N := 2) hx hb hts hnX3_setPart_X3 hown hK hP 0 rfl rfl 0 (by decide) (hts (.fieldLink RX3 9 "RingMeets$Rules" "told" "[I") (by decide +kernel)) (fun _ h9 => h9) rfl dX3_setPart_19 ?_
        refine lv_iload_n hx hb dX3_setPart_22 rfl (lv_at hl 1 rfl) ?_
        refine lv_bipush (v := 6) hx hb dX3_setPart_23 (by decide) ?_
        refine lv_imul hx hb dX3_setPart_25 ?_
        refine lv_topi (fun x_5 ex_5 => ?_)
        obtain rfl : (nI (j * 6)) = x_5 := (ex_5.trans (nb_mul _ 6)).symm
        refine lv_iload_n hx hb dX3_setPart_26 rfl (lv_at hl 2 rfl) ?_
        refine lv_iadd hx hb dX3_setPart_27 ?_
        refine lv_topi (fun x_6 ex_6 => ?_)
        obtain rfl : (nI ((j * 6) + k)) = x_6 := (ex_6.trans (nI_add _ _)).symm
        refine lv_iload_n hx hb dX3_setPart_28 rfl (lv_at hl 3 rfl) ?_
        refine va_iast (D := (dC, dI)) hx hb hK hP hD hS 1 0 rfl rfl (vp_in_nI (n := ((j * 6) + k)) (N := 60) (by omega) (by omega)) dX3_setPart_29 (fun H locs hP hD hS => ?_)
        obtain ⟨g_7, eg_7⟩ : ∃ y : Nat → Int32, y = upd tg (Int32.toNatClampNeg (nI ((j * 6) + k))) p3 := ⟨_, rfl⟩
        have hP : va_P (dC, dI) vwCl [(ru, .inr (2, [.ref rt, .int (nI zz)])), (rt, .inl (cyI, 60, .inl g_7))] H := by rw [eg_7]; exact hP
        have hD : va_D A [(ru, .inr (2, [.ref rt, .int (nI zz)])), (rt, .inl (cyI, 60, .inl g_7))] := by rw [eg_7]; exact hD
        rw [nI_clamp (n := ((j * 6) + k)) (by omega)] at eg_7
        exact W.vret hx hb hr (fun t ht hW => ⟨⟨g_7, rfl, (fun j k hj hk e1 e2 => by rw [eg_7, nb_inj9 (by omega) (by omega) e1, nb_inj9 (by omega) (by omega) e2]), ⟨by rw [ht]; exact hP.sub (ws' := [(ru, .inr (2, [.ref rt, .int (nI zz)])), (rt, .inl (cyI, 60, .inl g_7))]) [0, 1] rfl, hD.sub (ws' := [(ru, .inr (2, [.ref rt, .int (nI zz)])), (rt, .inl (cyI, 60, .inl g_7))]) [0, 1] (by decide) rfl⟩⟩, hS.F ht⟩) hS.2.2 dX3_setPart_30

theorem hnX3_append_X3 : ∀ w ∈ wsX30, w ∈ wsX3_append := fun _ h => List.mem_cons_of_mem _ (List.mem_append_right _ h)
set_option maxHeartbeats 4000000 in
set_option maxRecDepth 100000 in
theorem mX3_append (l : Launch) (dC : Nat → ClassId) (dI : Nat → Nat → Nat) (cyI cyZ : ClassId) (ru : Nat) (rt : Nat) (zz : Nat) (tg : Nat → Int32) (p1 : Int32) (p2 : Int32) (p3 : Int32) (p4 : Int32) (p5 : Int32) (hzz : zz ≤ 10) (sz : Nat) : Met l yX3_append wsX3_append ({ frames := 2, cells := 0, slots := 0, locals := 44 }) (bs_W dC dI cyI cyZ [.ref ru, .int p1, .int p2, .int p3, .int p4, .int p5] [(ru, .inr (2, [.ref rt, .int (nI zz)])), (rt, .inl (cyI, 60, .inl tg))] sz) (va_Qi (S := Nat × (Nat → Int32)) (fun (r : Int32) (q : Nat × (Nat → Int32)) => (¬ zz < 10 ∧ r = -4 ∧ q.1 = zz ∧ q.2 = tg) ∨ (zz < 10 ∧ r = nI zz ∧ q.1 = zz + 1 ∧ q.2 = upd (upd (upd (upd (upd (upd tg (zz * 6 + 0) p1) (zz * 6 + 1) p2) (zz * 6 + 2) p3) (zz * 6 + 3) p4) (zz * 6 + 4) p5) (zz * 6 + 5) 2)) (fun q t => bs_E dC dI (va_A [(ru, .inr (2, [.ref rt, .int (nI zz)])), (rt, .inl (cyI, 60, .inl tg))] sz) [(ru, .inr (2, [.ref rt, .int (nI q.1)])), (rt, .inl (cyI, 60, .inl q.2))] t) (va_A [(ru, .inr (2, [.ref rt, .int (nI zz)])), (rt, .inl (cyI, 60, .inl tg))] sz)) 0 0 (va_A [(ru, .inr (2, [.ref rt, .int (nI zz)])), (rt, .inl (cyI, 60, .inl tg))] sz) := by
  refine Met.ofW (cc := cX3_append) (maxL := 7) (ret := (some .int)) (by decide) rfl ?_
  intro p e s m args below meth c s₁ B hml hv
  obtain ⟨rfl, hsz, hB, hP, hD0⟩ := hv
  have hK := hB.1
  have hN := hB.2
  have hx := B.exec
  have hb := B.bytes
  have hr := B.returns
  have hts := atoms_spec (ws := wsX3_append) B.pre
  have hown : s.vm.findClass RX3 = some m.cls := findClass_of_methodNamed B.named
  have hlocks := B.notSynchronized
  subst hsz
  have hD := hD0.self (sz := s.heap.size)
  generalize hAe : va_A [(ru, .inr (2, [.ref rt, .int (nI zz)])), (rt, .inl (cyI, 60, .inl tg))] s.heap.size = A at hD ⊢
  have hA : ∀ q : Nat, s.heap.size ≤ q → A q := fun q h => by rw [← hAe]; exact Or.inr h
  have hS : va_S A s.heap s.heap [] := va_S.rf
  have hP : va_P (dC, dI) vwCl [(ru, .inr (2, [.ref rt, .int (nI zz)])), (rt, .inl (cyI, 60, .inl tg))] s.heap := hP
  have hl := lv_entry ([.ref ru, .int p1, .int p2, .int p3, .int p4, .int p5]) (n := 7) (Nat.le_of_ble_eq_true rfl)
  rw [lg_entry_eq]
  generalize (lg_sl ([.ref ru, .int p1, .int p2, .int p3, .int p4, .int p5]) ++ List.replicate (7 - (lg_sl ([.ref ru, .int p1, .int p2, .int p3, .int p4, .int p5])).length) Slot.unset).toArray = ls at hl ⊢
  have hl : lv_has ls 7 [(0, .ref ru), (1, .int p1), (2, .int p2), (3, .int p3), (4, .int p4), (5, .int p5)] := hl
  refine lv_aload_n hx hb dX3_append_0 rfl (lv_at hl 0 rfl) ?_
  refine va_get (D := (dC, dI)) (ci := 2) (v := .int (nI zz)) (C := RX3) (T := TX3) (N := 2) hx hb hts hnX3_append_X3 hown hK hP 0 rfl rfl 1 (by decide) (hts (.fieldLink RX3 15 "RingMeets$Rules" "size" "I") (by decide +kernel)) (fun _ h9 => h9) rfl dX3_append_1 ?_
  refine lv_bipush (v := 10) hx hb dX3_append_4 (by decide) ?_
  refine lv_icmp_lt (tgt := 12) hx hb dX3_append_6 (by decide) (fun c_1 => ?_) (fun c_1 => ?_)
  · skip
    have ic_1 := ci_lt (nI_toInt (n := zz) (by omega)) (show Int32.toInt 10 = 10 by decide) c_1
    refine lv_aload_n hx hb dX3_append_12 rfl (lv_at hl 0 rfl) ?_
    refine va_get (D := (dC, dI)) (ci := 2) (v := .int (nI zz)) (C := RX3) (T := TX3) (N := 2) hx hb hts hnX3_append_X3 hown hK hP 0 rfl rfl 1 (by decide) (hts (.fieldLink RX3 15 "RingMeets$Rules" "size" "I") (by decide +kernel)) (fun _ h9 => h9) rfl dX3_append_13 ?_
    refine lv_istore (lv' := [(6, .int (nI zz)), (0, .ref ru), (1, .int p1), (2, .int p2), (3, .int p3), (4, .int p4), (5, .int p5)]) hx hb dX3_append_16 hl (by decide) rfl (fun ls hl => ?_)
    refine lv_aload_n hx hb dX3_append_18 rfl (lv_at hl 1 rfl) ?_
    refine lv_dup hx hb dX3_append_19 rfl ?_
    refine va_get (D := (dC, dI)) (ci := 2) (v := .int (nI zz)) (C := RX3) (T := TX3) (N := 2) hx hb hts hnX3_append_X3 hown hK hP 0 rfl rfl 1 (by decide) (hts (.fieldLink RX3 15 "RingMeets$Rules" "size" "I") (by decide +kernel)) (fun _ h9 => h9) rfl dX3_append_20 ?_
    refine lv_iconst (v := 1) hx hb dX3_append_23 (by decide) ?_
    refine lv_iadd hx hb dX3_append_24 ?_
    refine lv_topi (fun x_2 ex_2 => ?_)
    obtain rfl : (nI (zz + 1)) = x_2 := (ex_2.trans (nI_1 _)).symm
    refine va_put (D := (dC, dI)) (ci := 2) (v := .int (nI (zz + 1))) (ty := .int) (C := RX3) (T := TX3) (N := 2) hx hb hts hnX3_append_X3 tyX3 tyX3_ok nmX3 hown hK hP hD hS 0 rfl rfl 1 (by decide) (hts (.fieldLink RX3 15 "RingMeets$Rules" "size" "I") (by decide +kernel)) (fun _ h9 => h9) rfl (by decide +kernel) rfl rfl (Nat.le_of_ble_eq_true rfl) dX3_append_25 (fun H locs hP hD hS => ?_)
    have hP : va_P (dC, dI) vwCl [(ru, .inr (2, [.ref rt, .int (nI (zz + 1))])), (rt, .inl (cyI, 60, .inl tg))] _ := hP
    have hD : va_D A [(ru, .inr (2, [.ref rt, .int (nI (zz + 1))])), (rt, .inl (cyI, 60, .inl tg))] := hD
    refine lv_aload_n hx hb dX3_append_28 rfl (lv_at hl 1 rfl) ?_
    refine lv_iload hx hb dX3_append_29 (lv_at hl 0 rfl) ?_
    refine lv_iconst (v := 0) hx hb dX3_append_31 (by decide) ?_
    refine lv_iload_n hx hb dX3_append_32 rfl (lv_at hl 2 rfl) ?_
    have f_3 := va_free (wc := [(ru, .inr (2, [.ref rt, .int (nI (zz + 1))])), (rt, .inl (cyI, 60, .inl tg))]) hD hS hA [0, 1] rfl
    refine va_callv (va_runV (As := [.int (nI zz), .int 0, .int p1]) (rest := []) ⟨hx, hb, hml, hown, hts⟩ (mX3_setPart l dC dI cyI cyZ ru rt (zz + 1) tg (nI zz) 0 p1 (by omega) _) (cwV 3 hts gX3_append_X3_setPart rfl rfl rfl (by decide +kernel) ⟨Nat.le_of_ble_eq_true rfl, Nat.le_of_ble_eq_true rfl⟩) (bs_WV hB (hP.sub (ws' := [(ru, .inr (2, [.ref rt, .int (nI (zz + 1))])), (rt, .inl (cyI, 60, .inl tg))]) [0, 1] rfl) (hD.sub (ws' := [(ru, .inr (2, [.ref rt, .int (nI (zz + 1))])), (rt, .inl (cyI, 60, .inl tg))]) [0, 1] (by decide) rfl) 0 rfl rfl) rfl rfl hl.1 rfl (lv_room (Nat.le_of_ble_eq_true rfl)) dX3_append_33 ⟨Nat.le_of_ble_eq_true rfl, Nat.le_of_ble_eq_true rfl⟩) hS (fun q _ h => f_3 q h) f_3 (fun uh_4 t H1 locs ht hvm h_4 hB1 hz1 hk1 hS => ?_)
    obtain ⟨g_5, rfl⟩ : ∃ z, z = uh_4 := ⟨_, rfl⟩
    have h_4 : ∀ j k : Nat, j < (zz + 1) → k < 6 → (nI zz) = nI j → 0 = nI k → g_5 = upd tg (j * 6 + k) p1 := h_4
    obtain ⟨hP1, hD1⟩ := hB1
    rw [ht] at hP1
    obtain ⟨hP, hD⟩ := va_join (wr := []) (w1 := [(ru, .inr (2, [.ref rt, .int (nI (zz + 1))])), (rt, .inl (cyI, 60, .inl g_5))]) hP hD [0, 1] [] rfl rfl (by decide) (by decide) hk1 f_3 hP1 hD1
    generalize H1 = H at hP hS ⊢
    have hP : va_P (dC, dI) vwCl [(ru, .inr (2, [.ref rt, .int (nI (zz + 1))])), (rt, .inl (cyI, 60, .inl g_5))] _ := hP
    have hD : va_D A [(ru, .inr (2, [.ref rt, .int (nI (zz + 1))])), (rt, .inl (cyI, 60, .inl g_5))] := hD
    have h_4x : g_5 = upd tg (zz * 6 + 0) p1 := h_4 zz 0 (by omega) (by omega) rfl rfl
    refine lv_aload_n hx hb dX3_append_36 rfl (lv_at hl 1 rfl) ?_
    refine lv_iload hx hb dX3_append_37 (lv_at hl 0 rfl) ?_
    refine lv_iconst (v := 1) hx hb dX3_append_39 (by decide) ?_
    refine lv_iload_n hx hb dX3_append_40 rfl (lv_at hl 3 rfl) ?_
    have f_6 := va_free (wc := [(ru, .inr (2, [.ref rt, .int (nI (zz + 1))])), (rt, .inl (cyI, 60, .inl g_5))]) hD hS hA [0, 1] rfl
    refine va_callv (va_runV (As := [.int (nI zz), .int 1, .int p2]) (rest := []) ⟨hx, hb, hml, hown, hts⟩ (mX3_setPart l dC dI cyI cyZ ru rt (zz + 1) g_5 (nI zz) 1 p2 (by omega) _) (cwV 3 hts gX3_append_X3_setPart rfl rfl rfl (by decide +kernel) ⟨Nat.le_of_ble_eq_true rfl, Nat.le_of_ble_eq_true rfl⟩) (bs_WV hB (hP.sub (ws' := [(ru, .inr (2, [.ref rt, .int (nI (zz + 1))])), (rt, .inl (cyI, 60, .inl g_5))]) [0, 1] rfl) (hD.sub (ws' := [(ru, .inr (2, [.ref rt, .int (nI (zz + 1))])), (rt, .inl (cyI, 60, .inl g_5))]) [0, 1] (by decide) rfl) 0 rfl rfl) rfl rfl hl.1 rfl (lv_room (Nat.le_of_ble_eq_true rfl)) dX3_append_41 ⟨Nat.le_of_ble_eq_true rfl, Nat.le_of_ble_eq_true rfl⟩) hS (fun q _ h => f_6 q h) f_6 (fun uh_7 t H1 locs ht hvm h_7 hB1 hz1 hk1 hS => ?_)
    obtain ⟨g_8, rfl⟩ : ∃ z, z = uh_7 := ⟨_, rfl⟩
    have h_7 : ∀ j k : Nat, j < (zz + 1) → k < 6 → (nI zz) = nI j → 1 = nI k → g_8 = upd g_5 (j * 6 + k) p2 := h_7
    obtain ⟨hP1, hD1⟩ := hB1
    rw [ht] at hP1
    obtain ⟨hP, hD⟩ := va_join (wr := []) (w1 := [(ru, .inr (2, [.ref rt, .int (nI (zz + 1))])), (rt, .inl (cyI, 60, .inl g_8))]) hP hD [0, 1] [] rfl rfl (by decide) (by decide) hk1 f_6 hP1 hD1
    generalize H1 = H at hP hS ⊢
    have hP : va_P (dC, dI) vwCl [(ru, .inr (2, [.ref rt, .int (nI (zz + 1))])), (rt, .inl (cyI, 60, .inl g_8))] _ := hP
    have hD : va_D A [(ru, .inr (2, [.ref rt, .int (nI (zz + 1))])), (rt, .inl (cyI, 60, .inl g_8))] := hD
    have h_7x : g_8 = upd g_5 (zz * 6 + 1) p2 := h_7 zz 1 (by omega) (by omega) rfl rfl
    refine lv_aload_n hx hb dX3_append_44 rfl (lv_at hl 1 rfl) ?_
    refine lv_iload hx hb dX3_append_45 (lv_at hl 0 rfl) ?_
    refine lv_iconst (v := 2) hx hb dX3_append_47 (by decide) ?_
    refine lv_iload_n hx hb dX3_append_48 rfl (lv_at hl 4 rfl) ?_
    have f_9 := va_free (wc := [(ru, .inr (2, [.ref rt, .int (nI (zz + 1))])), (rt, .inl (cyI, 60, .inl g_8))]) hD hS hA [0, 1] rfl
    refine va_callv (va_runV (As := [.int (nI zz), .int 2, .int p3]) (rest := []) ⟨hx, hb, hml, hown, hts⟩ (mX3_setPart l dC dI cyI cyZ ru rt (zz + 1) g_8 (nI zz) 2 p3 (by omega) _) (cwV 3 hts gX3_append_X3_setPart rfl rfl rfl (by decide +kernel) ⟨Nat.le_of_ble_eq_true rfl, Nat.le_of_ble_eq_true rfl⟩) (bs_WV hB (hP.sub (ws' := [(ru, .inr (2, [.ref rt, .int (nI (zz + 1))])), (rt, .inl (cyI, 60, .inl g_8))]) [0, 1] rfl) (hD.sub (ws' := [(ru, .inr (2, [.ref rt, .int (nI (zz + 1))])), (rt, .inl (cyI, 60, .inl g_8))]) [0, 1] (by decide) rfl) 0 rfl rfl) rfl rfl hl.1 rfl (lv_room (Nat.le_of_ble_eq_true rfl)) dX3_append_49 ⟨Nat.le_of_ble_eq_true rfl, Nat.le_of_ble_eq_true rfl⟩) hS (fun q _ h => f_9 q h) f_9 (fun uh_10 t H1 locs ht hvm h_10 hB1 hz1 hk1 hS => ?_)
    obtain ⟨g_11, rfl⟩ : ∃ z, z = uh_10 := ⟨_, rfl⟩
    have h_10 : ∀ j k : Nat, j < (zz + 1) → k < 6 → (nI zz) = nI j → 2 = nI k → g_11 = upd g_8 (j * 6 + k) p3 := h_10
    obtain ⟨hP1, hD1⟩ := hB1
    rw [ht] at hP1
    obtain ⟨hP, hD⟩ := va_join (wr := []) (w1 := [(ru, .inr (2, [.ref rt, .int (nI (zz + 1))])), (rt, .inl (cyI, 60, .inl g_11))]) hP hD [0, 1] [] rfl rfl (by decide) (by decide) hk1 f_9 hP1 hD1
    generalize H1 = H at hP hS ⊢
    have hP : va_P (dC, dI) vwCl [(ru, .inr (2, [.ref rt, .int (nI (zz + 1))])), (rt, .inl (cyI, 60, .inl g_11))] _ := hP
    have hD : va_D A [(ru, .inr (2, [.ref rt, .int (nI (zz + 1))])), (rt, .inl (cyI, 60, .inl g_11))] := hD
    have h_10x : g_11 = upd g_8 (zz * 6 + 2) p3 := h_10 zz 2 (by omega) (by omega) rfl rfl
    refine lv_aload_n hx hb dX3_append_52 rfl (lv_at hl 1 rfl) ?_
    refine lv_iload hx hb dX3_append_53 (lv_at hl 0 rfl) ?_
    refine lv_iconst (v := 3) hx hb dX3_append_55 (by decide) ?_
    refine lv_iload hx hb dX3_append_56 (lv_at hl 5 rfl) ?_
    have f_12 := va_free (wc := [(ru, .inr (2, [.ref rt, .int (nI (zz + 1))])), (rt, .inl (cyI, 60, .inl g_11))]) hD hS hA [0, 1] rfl
    refine va_callv (va_runV (As := [.int (nI zz), .int 3, .int p4]) (rest := []) ⟨hx, hb, hml, hown, hts⟩ (mX3_setPart l dC dI cyI cyZ ru rt (zz + 1) g_11 (nI zz) 3 p4 (by omega) _) (cwV 3 hts gX3_append_X3_setPart rfl rfl rfl (by decide +kernel) ⟨Nat.le_of_ble_eq_true rfl, Nat.le_of_ble_eq_true rfl⟩) (bs_WV hB (hP.sub (ws' := [(ru, .inr (2, [.ref rt, .int (nI (zz + 1))])), (rt, .inl (cyI, 60, .inl g_11))]) [0, 1] rfl) (hD.sub (ws' := [(ru, .inr (2, [.ref rt, .int (nI (zz + 1))])), (rt, .inl (cyI, 60, .inl g_11))]) [0, 1] (by decide) rfl) 0 rfl rfl) rfl rfl hl.1 rfl (lv_room (Nat.le_of_ble_eq_true rfl)) dX3_append_58 ⟨Nat.le_of_ble_eq_true rfl, Nat.le_of_ble_eq_true rfl⟩) hS (fun q _ h => f_12 q h) f_12 (fun uh_13 t H1 locs ht hvm h_13 hB1 hz1 hk1 hS => ?_)
    obtain ⟨g_14, rfl⟩ : ∃ z, z = uh_13 := ⟨_, rfl⟩
    have h_13 : ∀ j k : Nat, j < (zz + 1) → k < 6 → (nI zz) = nI j → 3 = nI k → g_14 = upd g_11 (j * 6 + k) p4 := h_13
    obtain ⟨hP1, hD1⟩ := hB1
    rw [ht] at hP1
    obtain ⟨hP, hD⟩ := va_join (wr := []) (w1 := [(ru, .inr (2, [.ref rt, .int (nI (zz + 1))])), (rt, .inl (cyI, 60, .inl g_14))]) hP hD [0, 1] [] rfl rfl (by decide) (by decide) hk1 f_12 hP1 hD1
    generalize H1 = H at hP hS ⊢
    have hP : va_P (dC, dI) vwCl [(ru, .inr (2, [.ref rt, .int (nI (zz + 1))])), (rt, .inl (cyI, 60, .inl g_14))] _ := hP
    have hD : va_D A [(ru, .inr (2, [.ref rt, .int (nI (zz + 1))])), (rt, .inl (cyI, 60, .inl g_14))] := hD
    have h_13x : g_14 = upd g_11 (zz * 6 + 3) p4 := h_13 zz 3 (by omega) (by omega) rfl rfl
    refine lv_aload_n hx hb dX3_append_61 rfl (lv_at hl 1 rfl) ?_
    refine lv_iload hx hb dX3_append_62 (lv_at hl 0 rfl) ?_
    refine lv_iconst (v := 4) hx hb dX3_append_64 (by decide) ?_
    refine lv_iload hx hb dX3_append_65 (lv_at hl 6 rfl) ?_
    have f_15 := va_free (wc := [(ru, .inr (2, [.ref rt, .int (nI (zz + 1))])), (rt, .inl (cyI, 60, .inl g_14))]) hD hS hA [0, 1] rfl
    refine va_callv (va_runV (As := [.int (nI zz), .int 4, .int p5]) (rest := []) ⟨hx, hb, hml, hown, hts⟩ (mX3_setPart l dC dI cyI cyZ ru rt (zz + 1) g_14 (nI zz) 4 p5 (by omega) _) (cwV 3 hts gX3_append_X3_setPart rfl rfl rfl (by decide +kernel) ⟨Nat.le_of_ble_eq_true rfl, Nat.le_of_ble_eq_true rfl⟩) (bs_WV hB (hP.sub (ws' := [(ru, .inr (2, [.ref rt, .int (nI (zz + 1))])), (rt, .inl (cyI, 60, .inl g_14))]) [0, 1] rfl) (hD.sub (ws' := [(ru, .inr (2, [.ref rt, .int (nI (zz + 1))])), (rt, .inl (cyI, 60, .inl g_14))]) [0, 1] (by decide) rfl) 0 rfl rfl) rfl rfl hl.1 rfl (lv_room (Nat.le_of_ble_eq_true rfl)) dX3_append_67 ⟨Nat.le_of_ble_eq_true rfl, Nat.le_of_ble_eq_true rfl⟩) hS (fun q _ h => f_15 q h) f_15 (fun uh_16 t H1 locs ht hvm h_16 hB1 hz1 hk1 hS => ?_)
    obtain ⟨g_17, rfl⟩ : ∃ z, z = uh_16 := ⟨_, rfl⟩
    have h_16 : ∀ j k : Nat, j < (zz + 1) → k < 6 → (nI zz) = nI j → 4 = nI k → g_17 = upd g_14 (j * 6 + k) p5 := h_16
    obtain ⟨hP1, hD1⟩ := hB1
    rw [ht] at hP1
    obtain ⟨hP, hD⟩ := va_join (wr := []) (w1 := [(ru, .inr (2, [.ref rt, .int (nI (zz + 1))])), (rt, .inl (cyI, 60, .inl g_17))]) hP hD [0, 1] [] rfl rfl (by decide) (by decide) hk1 f_15 hP1 hD1
    generalize H1 = H at hP hS ⊢
    have hP : va_P (dC, dI) vwCl [(ru, .inr (2, [.ref rt, .int (nI (zz + 1))])), (rt, .inl (cyI, 60, .inl g_17))] _ := hP
    have hD : va_D A [(ru, .inr (2, [.ref rt, .int (nI (zz + 1))])), (rt, .inl (cyI, 60, .inl g_17))] := hD
    have h_16x : g_17 = upd g_14 (zz * 6 + 4) p5 := h_16 zz 4 (by omega) (by omega) rfl rfl
    refine lv_aload_n hx hb dX3_append_70 rfl (lv_at hl 1 rfl) ?_
    refine lv_iload hx hb dX3_append_71 (lv_at hl 0 rfl) ?_
    refine lv_iconst (v := 5) hx hb dX3_append_73 (by decide) ?_
    refine lv_iconst (v := 2) hx hb dX3_append_74 (by decide) ?_
    have f_18 := va_free (wc := [(ru, .inr (2, [.ref rt, .int (nI (zz + 1))])), (rt, .inl (cyI, 60, .inl g_17))]) hD hS hA [0, 1] rfl
    refine va_callv (va_runV (As := [.int (nI zz), .int 5, .int 2]) (rest := []) ⟨hx, hb, hml, hown, hts⟩ (mX3_setPart l dC dI cyI cyZ ru rt (zz + 1) g_17 (nI zz) 5 2 (by omega) _) (cwV 3 hts gX3_append_X3_setPart rfl rfl rfl (by decide +kernel) ⟨Nat.le_of_ble_eq_true rfl, Nat.le_of_ble_eq_true rfl⟩) (bs_WV hB (hP.sub (ws' := [(ru, .inr (2, [.ref rt, .int (nI (zz + 1))])), (rt, .inl (cyI, 60, .inl g_17))]) [0, 1] rfl) (hD.sub (ws' := [(ru, .inr (2, [.ref rt, .int (nI (zz + 1))])), (rt, .inl (cyI, 60, .inl g_17))]) [0, 1] (by decide) rfl) 0 rfl rfl) rfl rfl hl.1 rfl (lv_room (Nat.le_of_ble_eq_true rfl)) dX3_append_75 ⟨Nat.le_of_ble_eq_true rfl, Nat.le_of_ble_eq_true rfl⟩) hS (fun q _ h => f_18 q h) f_18 (fun uh_19 t H1 locs ht hvm h_19 hB1 hz1 hk1 hS => ?_)
    obtain ⟨g_20, rfl⟩ : ∃ z, z = uh_19 := ⟨_, rfl⟩
    have h_19 : ∀ j k : Nat, j < (zz + 1) → k < 6 → (nI zz) = nI j → 5 = nI k → g_20 = upd g_17 (j * 6 + k) 2 := h_19
    obtain ⟨hP1, hD1⟩ := hB1
    rw [ht] at hP1
    obtain ⟨hP, hD⟩ := va_join (wr := []) (w1 := [(ru, .inr (2, [.ref rt, .int (nI (zz + 1))])), (rt, .inl (cyI, 60, .inl g_20))]) hP hD [0, 1] [] rfl rfl (by decide) (by decide) hk1 f_18 hP1 hD1
    generalize H1 = H at hP hS ⊢
    have hP : va_P (dC, dI) vwCl [(ru, .inr (2, [.ref rt, .int (nI (zz + 1))])), (rt, .inl (cyI, 60, .inl g_20))] _ := hP
    have hD : va_D A [(ru, .inr (2, [.ref rt, .int (nI (zz + 1))])), (rt, .inl (cyI, 60, .inl g_20))] := hD
    have h_19x : g_20 = upd g_17 (zz * 6 + 5) 2 := h_19 zz 5 (by omega) (by omega) rfl rfl
    refine lv_iload hx hb dX3_append_78 (lv_at hl 0 rfl) ?_
    exact W.iret (v := (nI zz)) hx hb hr (fun t ht hW => ⟨⟨(nI zz), ((zz + 1), g_20), rfl, Or.inr ⟨by omega, rfl, rfl, (by rw [h_19x, h_16x, h_13x, h_10x, h_7x, h_4x])⟩, ⟨by rw [ht]; exact hP.sub (ws' := [(ru, .inr (2, [.ref rt, .int (nI (zz + 1))])), (rt, .inl (cyI, 60, .inl g_20))]) [0, 1] rfl, hD.sub (ws' := [(ru, .inr (2, [.ref rt, .int (nI (zz + 1))])), (rt, .inl (cyI, 60, .inl g_20))]) [0, 1] (by decide) rfl⟩⟩, hS.F ht⟩) hS.2.2 dX3_append_80
  · skip
    have ic_1 := ci_nlt (nI_toInt (n := zz) (by omega)) (show Int32.toInt 10 = 10 by decide) c_1
    refine lv_bipush (v := (-4)) hx hb dX3_append_9 (by decide) ?_
    exact W.iret (v := (-4)) hx hb hr (fun t ht hW => ⟨⟨(-4), (zz, tg), rfl, Or.inl ⟨by omega, rfl, rfl, rfl⟩, ⟨by rw [ht]; exact hP.sub (ws' := [(ru, .inr (2, [.ref rt, .int (nI zz)])), (rt, .inl (cyI, 60, .inl tg))]) [0, 1] rfl, hD.sub (ws' := [(ru, .inr (2, [.ref rt, .int (nI zz)])), (rt, .inl (cyI, 60, .inl tg))]) [0, 1] (by decide) rfl⟩⟩, hS.F ht⟩) hS.2.2 dX3_append_11

theorem hnX3_remove_X3 : ∀ w ∈ wsX30, w ∈ wsX3_remove := fun _ h => List.mem_cons_of_mem _ (List.mem_append_right _ h)
set_option maxHeartbeats 4000000 in
set_option maxRecDepth 100000 in
theorem mX3_remove (l : Launch) (dC : Nat → ClassId) (dI : Nat → Nat → Nat) (cyI cyZ : ClassId) (ru : Nat) (rt : Nat) (zz : Nat) (j : Nat) (tg : Nat → Int32) (hzz : zz ≤ 10) (hj9 : j < zz) (sz : Nat) : Met l yX3_remove wsX3_remove ({ frames := 1, cells := 0, slots := 0, locals := 21 }) (bs_W dC dI cyI cyZ [.ref ru, .int (nI j)] [(ru, .inr (2, [.ref rt, .int (nI zz)])), (rt, .inl (cyI, 60, .inl tg))] sz) (va_Qv (S := Nat × (Nat → Int32)) (fun q : Nat × (Nat → Int32) => q.1 = zz - 1 ∧ ∀ i : Nat, q.2 i = if j * 6 ≤ i ∧ i < (zz - 1) * 6 then tg (i + 6) else tg i) (fun q t => bs_E dC dI (va_A [(ru, .inr (2, [.ref rt, .int (nI zz)])), (rt, .inl (cyI, 60, .inl tg))] sz) [(ru, .inr (2, [.ref rt, .int (nI q.1)])), (rt, .inl (cyI, 60, .inl q.2))] t) (va_A [(ru, .inr (2, [.ref rt, .int (nI zz)])), (rt, .inl (cyI, 60, .inl tg))] sz)) 0 0 (va_A [(ru, .inr (2, [.ref rt, .int (nI zz)])), (rt, .inl (cyI, 60, .inl tg))] sz) := by
  refine Met.ofW (cc := cX3_remove) (maxL := 3) (ret := none) (by decide) rfl ?_
  intro p e s m args below meth c s₁ B hml hv
  obtain ⟨rfl, hsz, hB, hP, hD0⟩ := hv
  have hK := hB.1
  have hN := hB.2
  have hx := B.exec
  have hb := B.bytes
  have hr := B.returns
  have hts := atoms_spec (ws := wsX3_remove) B.pre
  have hown : s.vm.findClass RX3 = some m.cls := findClass_of_methodNamed B.named
  have hlocks := B.notSynchronized
  subst hsz
  have hD := hD0.self (sz := s.heap.size)
  generalize hAe : va_A [(ru, .inr (2, [.ref rt, .int (nI zz)])), (rt, .inl (cyI, 60, .inl tg))] s.heap.size = A at hD ⊢
  have hA : ∀ q : Nat, s.heap.size ≤ q → A q := fun q h => by rw [← hAe]; exact Or.inr h
  have hS : va_S A s.heap s.heap [] := va_S.rf
  have hP : va_P (dC, dI) vwCl [(ru, .inr (2, [.ref rt, .int (nI zz)])), (rt, .inl (cyI, 60, .inl tg))] s.heap := hP
  have hl := lv_entry ([.ref ru, .int (nI j)]) (n := 3) (Nat.le_of_ble_eq_true rfl)
  rw [lg_entry_eq]
  generalize (lg_sl ([.ref ru, .int (nI j)]) ++ List.replicate (3 - (lg_sl ([.ref ru, .int (nI j)])).length) Slot.unset).toArray = ls at hl ⊢
  have hl : lv_has ls 3 [(0, .ref ru), (1, .int (nI j))] := hl
  refine lv_aload_n hx hb dX3_remove_0 rfl (lv_at hl 0 rfl) ?_
  refine lv_iload_n hx hb dX3_remove_1 rfl (lv_at hl 1 rfl) ?_
  refine vp_callSi (va_Run.run (va_runV (As := [.int (nI j)]) (rest := []) ⟨hx, hb, hml, hown, hts⟩ (mX3_has l dC dI cyI cyZ ru rt zz (nI j) (by omega)) (cwV 1 hts gX3_remove_X3_has rfl rfl rfl (by decide +kernel) ⟨Nat.le_of_ble_eq_true rfl, Nat.le_of_ble_eq_true rfl⟩) (bs_RV hB (hP.sub (ws' := [(ru, .inr (2, [.ref rt, .int (nI zz)]))]) [0] rfl) 0 rfl rfl) rfl rfl hl.1 rfl (lv_room (Nat.le_of_ble_eq_true rfl)) dX3_remove_2 ⟨Nat.le_of_ble_eq_true rfl, Nat.le_of_ble_eq_true rfl⟩)) (fun r_1 hr_1 => ?_)
  refine lv_if_ne (tgt := 9) hx hb dX3_remove_5 (by decide) (fun c_2 => ?_) (fun c_2 => ?_)
  · skip
    have ic_2 := ci_ne (rfl : Int32.toInt r_1 = _) (show Int32.toInt 0 = 0 by decide) c_2
    refine lv_iload_n hx hb dX3_remove_9 rfl (lv_at hl 1 rfl) ?_
    refine lv_bipush (v := 6) hx hb dX3_remove_10 (by decide) ?_
    refine lv_imul hx hb dX3_remove_12 ?_
    refine lv_topi (fun x_3 ex_3 => ?_)
    obtain rfl : (nI (j * 6)) = x_3 := (ex_3.trans (nb_mul _ 6)).symm
    refine lv_istore_n (lv' := [(2, .int (nI (j * 6))), (0, .ref ru), (1, .int (nI j))]) hx hb dX3_remove_13 rfl hl (by decide) rfl (fun ls hl => ?_)
    have L14 : ∀ (n14 : Nat), ∀ (iv : Nat) (tg2 : Nat → Int32), (j * 6 ≤ iv ∧ iv ≤ (zz - 1) * 6) → ((zz - 1) * 6 + 1 ≤ iv + n14) → (∀ i : Nat, tg2 i = if j * 6 ≤ i ∧ i < iv then tg (i + 6) else tg i) → ∀ (H : Heap) (locs : List Loc), va_P (dC, dI) vwCl [(ru, .inr (2, [.ref rt, .int (nI zz)])), (rt, .inl (cyI, 60, .inl tg2))] H → va_D A [(ru, .inr (2, [.ref rt, .int (nI zz)])), (rt, .inl (cyI, 60, .inl tg2))] → va_S A s.heap H locs → ∀ (ls : Array Slot), lv_has ls 3 [(0, .ref ru), (2, .int (nI iv))] → W p l e (headSpec wsX3_remove ({ frames := 1, cells := 0, slots := 0, locals := 21 })).room s m ([.ref ru, .int (nI j)] : List Value).toArray below meth c H locs 0 0 (MQ below (va_Qv (S := Nat × (Nat → Int32)) (fun q : Nat × (Nat → Int32) => q.1 = zz - 1 ∧ ∀ i : Nat, q.2 i = if j * 6 ≤ i ∧ i < (zz - 1) * 6 then tg (i + 6) else tg i) (fun q t => bs_E dC dI A [(ru, .inr (2, [.ref rt, .int (nI q.1)])), (rt, .inl (cyI, 60, .inl q.2))] t) A) ([.ref ru, .int (nI j)] : List Value).toArray s 0 0 A) (F0 m 14 ls []) := by
      intro n14
      induction n14 with
      | zero =>
        intro iv tg2 hi14 hn14 hrm H locs hP hD hS ls hl
        exfalso
        omega
      | succ n14 ih14 =>
        intro iv tg2 hi14 hn14 hrm H locs hP hD hS ls hl
        refine lv_iload_n hx hb dX3_remove_14 rfl (lv_at hl 1 rfl) ?_
        refine lv_aload_n hx hb dX3_remove_15 rfl (lv_at hl 0 rfl) ?_
        refine va_get (D := (dC, dI)) (ci := 2) (v := .int (nI zz)) (C := RX3) (T := TX3) (N := 2) hx hb hts hnX3_remove_X3 hown hK hP 0 rfl rfl 1 (by decide) (hts (.fieldLink RX3 15 "RingMeets$Rules" "size" "I") (by decide +kernel)) (fun _ h9 => h9) rfl dX3_remove_16 ?_
        refine lv_iconst (v := 1) hx hb dX3_remove_19 (by decide) ?_
        refine lv_isub hx hb dX3_remove_20 ?_
        refine lv_topi (fun x_4 ex_4 => ?_)
        obtain rfl : (nI (zz - 1)) = x_4 := (ex_4.trans (nb_sub (a := zz) (b := 1) (by omega))).symm
        refine lv_bipush (v := 6) hx hb dX3_remove_21 (by decide) ?_
        refine lv_imul hx hb dX3_remove_23 ?_
        refine lv_topi (fun x_5 ex_5 => ?_)
        obtain rfl : (nI ((zz - 1) * 6)) = x_5 := (ex_5.trans (nb_mul _ 6)).symm
        refine lv_icmp_ge (tgt := 60) hx hb dX3_remove_24 (by decide) (fun c_6 => ?_) (fun c_6 => ?_)
        · skip
          have ic_6 := ci_le (nI_toInt (n := ((zz - 1) * 6)) (by omega)) (nI_toInt (n := iv) (by omega)) c_6
          refine lv_aload_n hx hb dX3_remove_60 rfl (lv_at hl 0 rfl) ?_
          refine lv_dup hx hb dX3_remove_61 rfl ?_
          refine va_get (D := (dC, dI)) (ci := 2) (v := .int (nI zz)) (C := RX3) (T := TX3) (N := 2) hx hb hts hnX3_remove_X3 hown hK hP 0 rfl rfl 1 (by decide) (hts (.fieldLink RX3 15 "RingMeets$Rules" "size" "I") (by decide +kernel)) (fun _ h9 => h9) rfl dX3_remove_62 ?_
          refine lv_iconst (v := 1) hx hb dX3_remove_65 (by decide) ?_
          refine lv_isub hx hb dX3_remove_66 ?_
          refine lv_topi (fun x_7 ex_7 => ?_)
          obtain rfl : (nI (zz - 1)) = x_7 := (ex_7.trans (nb_sub (a := zz) (b := 1) (by omega))).symm
          refine va_put (D := (dC, dI)) (ci := 2) (v := .int (nI (zz - 1))) (ty := .int) (C := RX3) (T := TX3) (N := 2) hx hb hts hnX3_remove_X3 tyX3 tyX3_ok nmX3 hown hK hP hD hS 0 rfl rfl 1 (by decide) (hts (.fieldLink RX3 15 "RingMeets$Rules" "size" "I") (by decide +kernel)) (fun _ h9 => h9) rfl (by decide +kernel) rfl rfl (Nat.le_of_ble_eq_true rfl) dX3_remove_67 (fun H locs hP hD hS => ?_)
          have hP : va_P (dC, dI) vwCl [(ru, .inr (2, [.ref rt, .int (nI (zz - 1))])), (rt, .inl (cyI, 60, .inl tg2))] _ := hP
          have hD : va_D A [(ru, .inr (2, [.ref rt, .int (nI (zz - 1))])), (rt, .inl (cyI, 60, .inl tg2))] := hD
          exact W.vret hx hb hr (fun t ht hW => ⟨⟨((zz - 1), tg2), rfl, ⟨rfl, fun i => (hrm i).trans (by rw [show iv = (zz - 1) * 6 by omega])⟩, ⟨by rw [ht]; exact hP.sub (ws' := [(ru, .inr (2, [.ref rt, .int (nI (zz - 1))])), (rt, .inl (cyI, 60, .inl tg2))]) [0, 1] rfl, hD.sub (ws' := [(ru, .inr (2, [.ref rt, .int (nI (zz - 1))])), (rt, .inl (cyI, 60, .inl tg2))]) [0, 1] (by decide) rfl⟩⟩, hS.F ht⟩) hS.2.2 dX3_remove_70
        · skip
          have ic_6 := ci_nle (nI_toInt (n := ((zz - 1) * 6)) (by omega)) (nI_toInt (n := iv) (by omega)) c_6
          refine lv_iload_n hx hb dX3_remove_27 rfl (lv_at hl 1 rfl) ?_
          refine lv_bipush (v := 6) hx hb dX3_remove_28 (by decide) ?_
          refine lv_iadd hx hb dX3_remove_30 ?_
          refine lv_topi (fun x_8 ex_8 => ?_)
          obtain rfl : (nI (iv + 6)) = x_8 := (ex_8.trans (nI_add _ 6)).symm
          refine lv_aload_n hx hb dX3_remove_31 rfl (lv_at hl 0 rfl) ?_
          refine va_get (D := (dC, dI)) (ci := 2) (v := .ref rt) (C := RX3) (T := TX3) (N := 2) hx hb hts hnX3_remove_X3 hown hK hP 0 rfl rfl 0 (by decide) (hts (.fieldLink RX3 9 "RingMeets$Rules" "told" "[I") (by decide +kernel)) (fun _ h9 => h9) rfl dX3_remove_32 ?_
          refine va_alen (D := (dC, dI)) (v := 60) hx hb hK hP 1 0 rfl rfl rfl dX3_remove_35 ?_
          refine lv_icmp_ge (tgt := 60) hx hb dX3_remove_36 (by decide) (fun c_9 => ?_) (fun c_9 => ?_)
          · skip
            have ic_9 := ci_le (show Int32.toInt 60 = 60 by decide) (nI_toInt (n := (iv + 6)) (by omega)) c_9
            exfalso; omega
          · skip
            have ic_9 := ci_nle (show Int32.toInt 60 = 60 by decide) (nI_toInt (n := (iv + 6)) (by omega)) c_9
            refine lv_aload_n hx hb dX3_remove_39 rfl (lv_at hl 0 rfl) ?_
            refine va_get (D := (dC, dI)) (ci := 2) (v := .ref rt) (C := RX3) (T := TX3) (N := 2) hx hb hts hnX3_remove_X3 hown hK hP 0 rfl rfl 0 (by decide) (hts (.fieldLink RX3 9 "RingMeets$Rules" "told" "[I") (by decide +kernel)) (fun _ h9 => h9) rfl dX3_remove_40 ?_
            refine lv_iload_n hx hb dX3_remove_43 rfl (lv_at hl 1 rfl) ?_
            refine lv_aload_n hx hb dX3_remove_44 rfl (lv_at hl 0 rfl) ?_
            refine va_get (D := (dC, dI)) (ci := 2) (v := .ref rt) (C := RX3) (T := TX3) (N := 2) hx hb hts hnX3_remove_X3 hown hK hP 0 rfl rfl 0 (by decide) (hts (.fieldLink RX3 9 "RingMeets$Rules" "told" "[I") (by decide +kernel)) (fun _ h9 => h9) rfl dX3_remove_45 ?_
            refine lv_iload_n hx hb dX3_remove_48 rfl (lv_at hl 1 rfl) ?_
            refine lv_bipush (v := 6) hx hb dX3_remove_49 (by decide) ?_
            refine lv_iadd hx hb dX3_remove_51 ?_
            refine lv_topi (fun x_10 ex_10 => ?_)
            obtain rfl : (nI (iv + 6)) = x_10 := (ex_10.trans (nI_add _ 6)).symm
            refine va_iald (D := (dC, dI)) hx hb hK hP 1 0 rfl rfl (vp_in_nI (n := (iv + 6)) (N := 60) (by omega) (by omega)) dX3_remove_52 ?_
            refine lv_topi (fun x_11 ex_11 => ?_)
            rw [nI_clamp (n := (iv + 6)) (by omega)] at ex_11
            refine va_iast (D := (dC, dI)) hx hb hK hP hD hS 1 0 rfl rfl (vp_in_nI (n := iv) (N := 60) (by omega) (by omega)) dX3_remove_53 (fun H locs hP hD hS => ?_)
            obtain ⟨g_12, eg_12⟩ : ∃ y : Nat → Int32, y = upd tg2 (Int32.toNatClampNeg (nI iv)) x_11 := ⟨_, rfl⟩
            have hP : va_P (dC, dI) vwCl [(ru, .inr (2, [.ref rt, .int (nI zz)])), (rt, .inl (cyI, 60, .inl g_12))] H := by rw [eg_12]; exact hP
            have hD : va_D A [(ru, .inr (2, [.ref rt, .int (nI zz)])), (rt, .inl (cyI, 60, .inl g_12))] := by rw [eg_12]; exact hD
            rw [nI_clamp (n := iv) (by omega)] at eg_12
            refine lv_iinc (v := (nI (iv + 1))) (lv' := [(2, .int (nI (iv + 1))), (0, .ref ru)]) hx hb dX3_remove_54 hl (k := 1) rfl (nI_1 _) (by decide) rfl (fun ls hl => ?_)
            refine lv_goto (tgt := 14) hx hb dX3_remove_57 (by decide) ?_
            exact ih14 (iv + 1) g_12 ⟨by omega, by omega⟩ (by omega) (fun i => by rw [eg_12]; exact nb_rms (by omega) hrm (by rw [ex_11, hrm, if_neg (by omega)]) i) _ _ (hP.sub [0, 1] rfl) (hD.sub [0, 1] (by decide) rfl) hS _ (lv_sub hl [1, 0] rfl)
    exact L14 ((zz - 1) * 6 + 1) (j * 6) tg ⟨by omega, by omega⟩ (by omega) (fun i => by rw [if_neg (by omega)]) _ _ (hP.sub [0, 1] rfl) (hD.sub [0, 1] (by decide) rfl) hS _ (lv_sub hl [1, 0] rfl)
  · skip
    have ic_2 := ci_eq (rfl : Int32.toInt r_1 = _) (show Int32.toInt 0 = 0 by decide) c_2
    exact absurd ⟨by rw [nI_toInt (by omega)]; omega, by rw [nI_toInt (by omega)]; omega⟩ (hr_1.2.2 c_2)

theorem hnX3_copyFrom_X3 : ∀ w ∈ wsX30, w ∈ wsX3_copyFrom := fun _ h => List.mem_cons_of_mem _ (List.mem_append_right _ h)
set_option maxHeartbeats 4000000 in
set_option maxRecDepth 100000 in
theorem mX3_copyFrom (l : Launch) (dC : Nat → ClassId) (dI : Nat → Nat → Nat) (cyI cyZ : ClassId) (ru : Nat) (rt : Nat) (qu : Nat) (qt : Nat) (zz : Nat) (yy : Nat) (tg : Nat → Int32) (ug : Nat → Int32)  (sz : Nat) : Met l yX3_copyFrom wsX3_copyFrom ({ frames := 0, cells := 0, slots := 0, locals := 0 }) (bs_W dC dI cyI cyZ [.ref ru, .ref qu] [(ru, .inr (2, [.ref rt, .int (nI zz)])), (rt, .inl (cyI, 60, .inl tg)), (qu, .inr (2, [.ref qt, .int (nI yy)])), (qt, .inl (cyI, 60, .inl ug))] sz) (va_Qv (S := (Nat → Int32)) (fun q : (Nat → Int32) => ∀ i, i < 60 → q i = ug i) (fun q t => bs_E dC dI (va_A [(ru, .inr (2, [.ref rt, .int (nI zz)])), (rt, .inl (cyI, 60, .inl tg)), (qu, .inr (2, [.ref qt, .int (nI yy)])), (qt, .inl (cyI, 60, .inl ug))] sz) [(ru, .inr (2, [.ref rt, .int (nI yy)])), (rt, .inl (cyI, 60, .inl q)), (qu, .inr (2, [.ref qt, .int (nI yy)])), (qt, .inl (cyI, 60, .inl ug))] t) (va_A [(ru, .inr (2, [.ref rt, .int (nI zz)])), (rt, .inl (cyI, 60, .inl tg)), (qu, .inr (2, [.ref qt, .int (nI yy)])), (qt, .inl (cyI, 60, .inl ug))] sz)) 0 0 (va_A [(ru, .inr (2, [.ref rt, .int (nI zz)])), (rt, .inl (cyI, 60, .inl tg)), (qu, .inr (2, [.ref qt, .int (nI yy)])), (qt, .inl (cyI, 60, .inl ug))] sz) := by
  refine Met.ofW (cc := cX3_copyFrom) (maxL := 3) (ret := none) (by decide) rfl ?_
  intro p e s m args below meth c s₁ B hml hv
  obtain ⟨rfl, hsz, hB, hP, hD0⟩ := hv
  have hK := hB.1
  have hN := hB.2
  have hx := B.exec
  have hb := B.bytes
  have hr := B.returns
  have hts := atoms_spec (ws := wsX3_copyFrom) B.pre
  have hown : s.vm.findClass RX3 = some m.cls := findClass_of_methodNamed B.named
  have hlocks := B.notSynchronized
  subst hsz
  have hD := hD0.self (sz := s.heap.size)
  generalize hAe : va_A [(ru, .inr (2, [.ref rt, .int (nI zz)])), (rt, .inl (cyI, 60, .inl tg)), (qu, .inr (2, [.ref qt, .int (nI yy)])), (qt, .inl (cyI, 60, .inl ug))] s.heap.size = A at hD ⊢
  have hA : ∀ q : Nat, s.heap.size ≤ q → A q := fun q h => by rw [← hAe]; exact Or.inr h
  have hS : va_S A s.heap s.heap [] := va_S.rf
  have hP : va_P (dC, dI) vwCl [(ru, .inr (2, [.ref rt, .int (nI zz)])), (rt, .inl (cyI, 60, .inl tg)), (qu, .inr (2, [.ref qt, .int (nI yy)])), (qt, .inl (cyI, 60, .inl ug))] s.heap := hP
  have hl := lv_entry ([.ref ru, .ref qu]) (n := 3) (Nat.le_of_ble_eq_true rfl)
  rw [lg_entry_eq]
  generalize (lg_sl ([.ref ru, .ref qu]) ++ List.replicate (3 - (lg_sl ([.ref ru, .ref qu])).length) Slot.unset).toArray = ls at hl ⊢
  have hl : lv_has ls 3 [(0, .ref ru), (1, .ref qu)] := hl
  refine lv_aload_n hx hb dX3_copyFrom_0 rfl (lv_at hl 0 rfl) ?_
  refine lv_aload_n hx hb dX3_copyFrom_1 rfl (lv_at hl 1 rfl) ?_
  refine va_get (D := (dC, dI)) (ci := 2) (v := .int (nI yy)) (C := RX3) (T := TX3) (N := 2) hx hb hts hnX3_copyFrom_X3 hown hK hP 2 rfl rfl 1 (by decide) (hts (.fieldLink RX3 15 "RingMeets$Rules" "size" "I") (by decide +kernel)) (fun _ h9 => h9) rfl dX3_copyFrom_2 ?_
  refine va_put (D := (dC, dI)) (ci := 2) (v := .int (nI yy)) (ty := .int) (C := RX3) (T := TX3) (N := 2) hx hb hts hnX3_copyFrom_X3 tyX3 tyX3_ok nmX3 hown hK hP hD hS 0 rfl rfl 1 (by decide) (hts (.fieldLink RX3 15 "RingMeets$Rules" "size" "I") (by decide +kernel)) (fun _ h9 => h9) rfl (by decide +kernel) rfl rfl (Nat.le_of_ble_eq_true rfl) dX3_copyFrom_5 (fun H locs hP hD hS => ?_)
  have hP : va_P (dC, dI) vwCl [(ru, .inr (2, [.ref rt, .int (nI yy)])), (rt, .inl (cyI, 60, .inl tg)), (qu, .inr (2, [.ref qt, .int (nI yy)])), (qt, .inl (cyI, 60, .inl ug))] _ := hP
  have hD : va_D A [(ru, .inr (2, [.ref rt, .int (nI yy)])), (rt, .inl (cyI, 60, .inl tg)), (qu, .inr (2, [.ref qt, .int (nI yy)])), (qt, .inl (cyI, 60, .inl ug))] := hD
  refine lv_iconst (v := 0) hx hb dX3_copyFrom_8 (by decide) ?_
  refine lv_istore_n (lv' := [(2, .int 0), (0, .ref ru), (1, .ref qu)]) hx hb dX3_copyFrom_9 rfl hl (by decide) rfl (fun ls hl => ?_)
  have L10 : ∀ (n10 : Nat), ∀ (k : Nat) (tg2 : Nat → Int32), (0 ≤ k ∧ k ≤ 60) → (60 + 1 ≤ k + n10) → (∀ i, i < k → tg2 i = ug i) → ∀ (H : Heap) (locs : List Loc), va_P (dC, dI) vwCl [(ru, .inr (2, [.ref rt, .int (nI yy)])), (rt, .inl (cyI, 60, .inl tg2)), (qu, .inr (2, [.ref qt, .int (nI yy)])), (qt, .inl (cyI, 60, .inl ug))] H → va_D A [(ru, .inr (2, [.ref rt, .int (nI yy)])), (rt, .inl (cyI, 60, .inl tg2)), (qu, .inr (2, [.ref qt, .int (nI yy)])), (qt, .inl (cyI, 60, .inl ug))] → va_S A s.heap H locs → ∀ (ls : Array Slot), lv_has ls 3 [(0, .ref ru), (1, .ref qu), (2, .int (nI k))] → W p l e (headSpec wsX3_copyFrom ({ frames := 0, cells := 0, slots := 0, locals := 0 })).room s m ([.ref ru, .ref qu] : List Value).toArray below meth c H locs 0 0 (MQ below (va_Qv (S := (Nat → Int32)) (fun q : (Nat → Int32) => ∀ i, i < 60 → q i = ug i) (fun q t => bs_E dC dI A [(ru, .inr (2, [.ref rt, .int (nI yy)])), (rt, .inl (cyI, 60, .inl q)), (qu, .inr (2, [.ref qt, .int (nI yy)])), (qt, .inl (cyI, 60, .inl ug))] t) A) ([.ref ru, .ref qu] : List Value).toArray s 0 0 A) (F0 m 10 ls []) := by
    intro n10
    induction n10 with
    | zero =>
      intro k tg2 hk10 hn10 hcf H locs hP hD hS ls hl
      exfalso
      omega
    | succ n10 ih10 =>
      intro k tg2 hk10 hn10 hcf H locs hP hD hS ls hl
      refine lv_iload_n hx hb dX3_copyFrom_10 rfl (lv_at hl 2 rfl) ?_
      refine lv_bipush (v := 60) hx hb dX3_copyFrom_11 (by decide) ?_
      refine lv_icmp_ge (tgt := 34) hx hb dX3_copyFrom_13 (by decide) (fun c_1 => ?_) (fun c_1 => ?_)
      · skip
        have ic_1 := ci_le (show Int32.toInt 60 = 60 by decide) (nI_toInt (n := k) (by omega)) c_1
        exact W.vret hx hb hr (fun t ht hW => ⟨⟨tg2, rfl, (fun i hi => hcf i (by omega)), ⟨by rw [ht]; exact hP.sub (ws' := [(ru, .inr (2, [.ref rt, .int (nI yy)])), (rt, .inl (cyI, 60, .inl tg2)), (qu, .inr (2, [.ref qt, .int (nI yy)])), (qt, .inl (cyI, 60, .inl ug))]) [0, 1, 2, 3] rfl, hD.sub (ws' := [(ru, .inr (2, [.ref rt, .int (nI yy)])), (rt, .inl (cyI, 60, .inl tg2)), (qu, .inr (2, [.ref qt, .int (nI yy)])), (qt, .inl (cyI, 60, .inl ug))]) [0, 1, 2, 3] (by decide) rfl⟩⟩, hS.F ht⟩) hS.2.2 dX3_copyFrom_34
      · skip
        have ic_1 := ci_nle (show Int32.toInt 60 = 60 by decide) (nI_toInt (n := k) (by omega)) c_1
        refine lv_aload_n hx hb dX3_copyFrom_16 rfl (lv_at hl 0 rfl) ?_
        refine va_get (D := (dC, dI)) (ci := 2) (v := .ref rt) (C := RX3) (T := TX3) (N := 2) hx hb hts hnX3_copyFrom_X3 hown hK hP 0 rfl rfl 0 (by decide) (hts (.fieldLink RX3 9 "RingMeets$Rules" "told" "[I") (by decide +kernel)) (fun _ h9 => h9) rfl dX3_copyFrom_17 ?_
        refine lv_iload_n hx hb dX3_copyFrom_20 rfl (lv_at hl 2 rfl) ?_
        refine lv_aload_n hx hb dX3_copyFrom_21 rfl (lv_at hl 1 rfl) ?_
        refine va_get (D := (dC, dI)) (ci := 2) (v := .ref qt) (C := RX3) (T := TX3) (N := 2) hx hb hts hnX3_copyFrom_X3 hown hK hP 2 rfl rfl 0 (by decide) (hts (.fieldLink RX3 9 "RingMeets$Rules" "told" "[I") (by decide +kernel)) (fun _ h9 => h9) rfl dX3_copyFrom_22 ?_
        refine lv_iload_n hx hb dX3_copyFrom_25 rfl (lv_at hl 2 rfl) ?_
        refine va_iald (D := (dC, dI)) hx hb hK hP 3 0 rfl rfl (vp_in_nI (n := k) (N := 60) (by omega) (by omega)) dX3_copyFrom_26 ?_
        refine lv_topi (fun x_2 ex_2 => ?_)
        rw [nI_clamp (n := k) (by omega)] at ex_2
        refine va_iast (D := (dC, dI)) hx hb hK hP hD hS 1 0 rfl rfl (vp_in_nI (n := k) (N := 60) (by omega) (by omega)) dX3_copyFrom_27 (fun H locs hP hD hS => ?_)
        obtain ⟨g_3, eg_3⟩ : ∃ y : Nat → Int32, y = upd tg2 (Int32.toNatClampNeg (nI k)) x_2 := ⟨_, rfl⟩
        have hP : va_P (dC, dI) vwCl [(ru, .inr (2, [.ref rt, .int (nI yy)])), (rt, .inl (cyI, 60, .inl g_3)), (qu, .inr (2, [.ref qt, .int (nI yy)])), (qt, .inl (cyI, 60, .inl ug))] H := by rw [eg_3]; exact hP
        have hD : va_D A [(ru, .inr (2, [.ref rt, .int (nI yy)])), (rt, .inl (cyI, 60, .inl g_3)), (qu, .inr (2, [.ref qt, .int (nI yy)])), (qt, .inl (cyI, 60, .inl ug))] := by rw [eg_3]; exact hD
        rw [nI_clamp (n := k) (by omega)] at eg_3
        refine lv_iinc (v := (nI (k + 1))) (lv' := [(2, .int (nI (k + 1))), (0, .ref ru), (1, .ref qu)]) hx hb dX3_copyFrom_28 hl (k := 2) rfl (nI_1 _) (by decide) rfl (fun ls hl => ?_)
        refine lv_goto (tgt := 10) hx hb dX3_copyFrom_31 (by decide) ?_
        exact ih10 (k + 1) g_3 ⟨by omega, by omega⟩ (by omega) (fun i hi => by rw [eg_3]; unfold upd; split; (rename_i q; rw [q]; exact ex_2); exact hcf i (by omega)) _ _ (hP.sub [0, 1, 2, 3] rfl) (hD.sub [0, 1, 2, 3] (by decide) rfl) hS _ (lv_sub hl [1, 2, 0] rfl)
  exact L10 (60 + 1) 0 tg ⟨by omega, by omega⟩ (by omega) (fun i hi => by omega) _ _ (hP.sub [0, 1, 2, 3] rfl) (hD.sub [0, 1, 2, 3] (by decide) rfl) hS _ (lv_sub hl [1, 2, 0] rfl)

theorem hnX3_fits_X3 : ∀ w ∈ wsX30, w ∈ wsX3_fits := fun _ h => List.mem_cons_of_mem _ (List.mem_append_right _ h)
set_option maxHeartbeats 4000000 in
set_option maxRecDepth 100000 in
theorem mX3_fits (l : Launch) (dC : Nat → ClassId) (dI : Nat → Nat → Nat) (cyI cyZ : ClassId) (ru : Nat) (rt : Nat) (zz : Nat) (j : Nat) (tg : Nat → Int32) (p2 : Int32) (p3 : Int32) (p4 : Int32) (hj9 : j < 10) : Met l yX3_fits wsX3_fits ({ frames := 1, cells := 0, slots := 0, locals := 22 }) (bs_R dC dI cyI cyZ [.ref ru, .int (nI j), .int p2, .int p3, .int p4] [(ru, .inr (2, [.ref rt, .int (nI zz)])), (rt, .inl (cyI, 60, .inl tg))]) (vp_Si (fun r : Int32 => r = 0 ∨ r = 1)) 0 0 (fun _ => False) := by
  refine Met.ofW (cc := cX3_fits) (maxL := 8) (ret := (some .boolean)) (by decide) rfl ?_
  intro p e s m args below meth c s₁ B hml hv
  obtain ⟨rfl, hB, hP⟩ := hv
  have hK := hB.1
  have hN := hB.2
  have hx := B.exec
  have hb := B.bytes
  have hr := B.returns
  have hts := atoms_spec (ws := wsX3_fits) B.pre
  have hown : s.vm.findClass RX3 = some m.cls := findClass_of_methodNamed B.named
  have hlocks := B.notSynchronized
  have hP : va_P (dC, dI) vwCl [(ru, .inr (2, [.ref rt, .int (nI zz)])), (rt, .inl (cyI, 60, .inl tg))] s.heap := hP
  have hl := lv_entry ([.ref ru, .int (nI j), .int p2, .int p3, .int p4]) (n := 8) (Nat.le_of_ble_eq_true rfl)
  rw [lg_entry_eq]
  generalize (lg_sl ([.ref ru, .int (nI j), .int p2, .int p3, .int p4]) ++ List.replicate (8 - (lg_sl ([.ref ru, .int (nI j), .int p2, .int p3, .int p4])).length) Slot.unset).toArray = ls at hl ⊢
  have hl : lv_has ls 8 [(0, .ref ru), (1, .int (nI j)), (2, .int p2), (3, .int p3), (4, .int p4)] := hl
  refine lv_aload_n hx hb dX3_fits_0 rfl (lv_at hl 0 rfl) ?_
  refine va_get (D := (dC, dI)) (ci := 2) (v := .ref rt) (C := RX3) (T := TX3) (N := 2) hx hb hts hnX3_fits_X3 hown hK hP 0 rfl rfl 0 (by decide) (hts (.fieldLink RX3 9 "RingMeets$Rules" "told" "[I") (by decide +kernel)) (fun _ h9 => h9) rfl dX3_fits_1 ?_
  refine lv_iload_n hx hb dX3_fits_4 rfl (lv_at hl 1 rfl) ?_
  refine lv_bipush (v := 6) hx hb dX3_fits_5 (by decide) ?_
  refine lv_imul hx hb dX3_fits_7 ?_
  refine lv_topi (fun x_1 ex_1 => ?_)
  obtain rfl : (nI (j * 6)) = x_1 := (ex_1.trans (nb_mul _ 6)).symm
  refine lv_iconst (v := 0) hx hb dX3_fits_8 (by decide) ?_
  refine lv_iadd hx hb dX3_fits_9 ?_
  refine lv_topi (fun x_2 ex_2 => ?_)
  obtain rfl : (nI (j * 6)) = x_2 := (ex_2.trans (Int32.add_zero _)).symm
  refine va_iald (D := (dC, dI)) hx hb hK hP 1 0 rfl rfl (vp_in_nI (n := (j * 6)) (N := 60) (by omega) (by omega)) dX3_fits_10 ?_
  refine lv_topi (fun x_3 ex_3 => ?_)
  rw [nI_clamp (n := (j * 6)) (by omega)] at ex_3
  refine lv_istore (lv' := [(5, .int x_3), (0, .ref ru), (1, .int (nI j)), (2, .int p2), (3, .int p3), (4, .int p4)]) hx hb dX3_fits_11 hl (by decide) rfl (fun ls hl => ?_)
  refine lv_iload hx hb dX3_fits_13 (lv_at hl 0 rfl) ?_
  refine lv_if_eq (tgt := 26) hx hb dX3_fits_15 (by decide) (fun c_4 => ?_) (fun c_4 => ?_)
  · skip
    have ic_4 := ci_eq (rfl : Int32.toInt x_3 = _) (show Int32.toInt 0 = 0 by decide) c_4
    refine lv_aload_n hx hb dX3_fits_26 rfl (lv_at hl 1 rfl) ?_
    refine va_get (D := (dC, dI)) (ci := 2) (v := .ref rt) (C := RX3) (T := TX3) (N := 2) hx hb hts hnX3_fits_X3 hown hK hP 0 rfl rfl 0 (by decide) (hts (.fieldLink RX3 9 "RingMeets$Rules" "told" "[I") (by decide +kernel)) (fun _ h9 => h9) rfl dX3_fits_27 ?_
    refine lv_iload_n hx hb dX3_fits_30 rfl (lv_at hl 2 rfl) ?_
    refine lv_bipush (v := 6) hx hb dX3_fits_31 (by decide) ?_
    refine lv_imul hx hb dX3_fits_33 ?_
    refine lv_topi (fun x_5 ex_5 => ?_)
    obtain rfl : (nI (j * 6)) = x_5 := (ex_5.trans (nb_mul _ 6)).symm
    refine lv_iconst (v := 5) hx hb dX3_fits_34 (by decide) ?_
    refine lv_iadd hx hb dX3_fits_35 ?_
    refine lv_topi (fun x_6 ex_6 => ?_)
    obtain rfl : (nI ((j * 6) + 5)) = x_6 := (ex_6.trans (nI_add _ 5)).symm
    refine va_iald (D := (dC, dI)) hx hb hK hP 1 0 rfl rfl (vp_in_nI (n := ((j * 6) + 5)) (N := 60) (by omega) (by omega)) dX3_fits_36 ?_
    refine lv_topi (fun x_7 ex_7 => ?_)
    rw [nI_clamp (n := ((j * 6) + 5)) (by omega)] at ex_7
    refine lv_istore (lv' := [(6, .int x_7), (5, .int x_3), (0, .ref ru), (1, .int (nI j)), (2, .int p2), (3, .int p3), (4, .int p4)]) hx hb dX3_fits_37 hl (by decide) rfl (fun ls hl => ?_)
    refine lv_iload hx hb dX3_fits_39 (lv_at hl 0 rfl) ?_
    refine lv_iconst (v := 2) hx hb dX3_fits_41 (by decide) ?_
    refine lv_icmp_eq (tgt := 54) hx hb dX3_fits_42 (by decide) (fun c_8 => ?_) (fun c_8 => ?_)
    · skip
      have ic_8 := ci_eq (rfl : Int32.toInt x_7 = _) (show Int32.toInt 2 = 2 by decide) c_8
      refine lv_aload_n hx hb dX3_fits_54 rfl (lv_at hl 2 rfl) ?_
      refine va_get (D := (dC, dI)) (ci := 2) (v := .ref rt) (C := RX3) (T := TX3) (N := 2) hx hb hts hnX3_fits_X3 hown hK hP 0 rfl rfl 0 (by decide) (hts (.fieldLink RX3 9 "RingMeets$Rules" "told" "[I") (by decide +kernel)) (fun _ h9 => h9) rfl dX3_fits_55 ?_
      refine lv_iload_n hx hb dX3_fits_58 rfl (lv_at hl 3 rfl) ?_
      refine lv_bipush (v := 6) hx hb dX3_fits_59 (by decide) ?_
      refine lv_imul hx hb dX3_fits_61 ?_
      refine lv_topi (fun x_9 ex_9 => ?_)
      obtain rfl : (nI (j * 6)) = x_9 := (ex_9.trans (nb_mul _ 6)).symm
      refine lv_iconst (v := 1) hx hb dX3_fits_62 (by decide) ?_
      refine lv_iadd hx hb dX3_fits_63 ?_
      refine lv_topi (fun x_10 ex_10 => ?_)
      obtain rfl : (nI ((j * 6) + 1)) = x_10 := (ex_10.trans (nI_1 _)).symm
      refine va_iald (D := (dC, dI)) hx hb hK hP 1 0 rfl rfl (vp_in_nI (n := ((j * 6) + 1)) (N := 60) (by omega) (by omega)) dX3_fits_64 ?_
      refine lv_topi (fun x_11 ex_11 => ?_)
      rw [nI_clamp (n := ((j * 6) + 1)) (by omega)] at ex_11
      refine lv_istore (lv' := [(7, .int x_11), (6, .int x_7), (5, .int x_3), (0, .ref ru), (1, .int (nI j)), (2, .int p2), (3, .int p3), (4, .int p4)]) hx hb dX3_fits_65 hl (by decide) rfl (fun ls hl => ?_)
      refine lv_iload hx hb dX3_fits_67 (lv_at hl 0 rfl) ?_
      refine lv_iload_n hx hb dX3_fits_69 rfl (lv_at hl 5 rfl) ?_
      refine lv_icmp_lt (tgt := 75) hx hb dX3_fits_70 (by decide) (fun c_12 => ?_) (fun c_12 => ?_)
      · skip
        have ic_12 := ci_lt (rfl : Int32.toInt x_11 = _) (rfl : Int32.toInt p2 = _) c_12
        refine lv_iload_n hx hb dX3_fits_75 rfl (lv_at hl 6 rfl) ?_
        refine lv_iload_n hx hb dX3_fits_76 rfl (lv_at hl 5 rfl) ?_
        refine lv_iload hx hb dX3_fits_77 (lv_at hl 0 rfl) ?_
        refine vp_callSi (va_Run.run (va_runS (As := [.int p3, .int p2, .int x_11]) (rest := []) ⟨hx, hb, hml, hown, hts⟩ (mX0_at l dC dI cyI cyZ p3 p2 x_11 ) (va_cwS 3 hts gX3_fits_X0_at rfl rfl rfl (by decide +kernel) ⟨Nat.le_of_ble_eq_true rfl, Nat.le_of_ble_eq_true rfl⟩) (bs_RS hB (hP.sub (ws' := []) [] rfl)) rfl rfl hl.1 rfl (lv_room (Nat.le_of_ble_eq_true rfl)) dX3_fits_79 ⟨Nat.le_of_ble_eq_true rfl, Nat.le_of_ble_eq_true rfl⟩)) (fun r_13 hr_13 => ?_)
        refine lv_aload_n hx hb dX3_fits_82 rfl (lv_at hl 3 rfl) ?_
        refine va_get (D := (dC, dI)) (ci := 2) (v := .ref rt) (C := RX3) (T := TX3) (N := 2) hx hb hts hnX3_fits_X3 hown hK hP 0 rfl rfl 0 (by decide) (hts (.fieldLink RX3 9 "RingMeets$Rules" "told" "[I") (by decide +kernel)) (fun _ h9 => h9) rfl dX3_fits_83 ?_
        refine lv_iload_n hx hb dX3_fits_86 rfl (lv_at hl 4 rfl) ?_
        refine lv_bipush (v := 6) hx hb dX3_fits_87 (by decide) ?_
        refine lv_imul hx hb dX3_fits_89 ?_
        refine lv_topi (fun x_14 ex_14 => ?_)
        obtain rfl : (nI (j * 6)) = x_14 := (ex_14.trans (nb_mul _ 6)).symm
        refine lv_iconst (v := 2) hx hb dX3_fits_90 (by decide) ?_
        refine lv_iadd hx hb dX3_fits_91 ?_
        refine lv_topi (fun x_15 ex_15 => ?_)
        obtain rfl : (nI ((j * 6) + 2)) = x_15 := (ex_15.trans (nI_add _ 2)).symm
        refine va_iald (D := (dC, dI)) hx hb hK hP 1 0 rfl rfl (vp_in_nI (n := ((j * 6) + 2)) (N := 60) (by omega) (by omega)) dX3_fits_92 ?_
        refine lv_topi (fun x_16 ex_16 => ?_)
        rw [nI_clamp (n := ((j * 6) + 2)) (by omega)] at ex_16
        refine lv_aload_n hx hb dX3_fits_93 rfl (lv_at hl 3 rfl) ?_
        refine va_get (D := (dC, dI)) (ci := 2) (v := .ref rt) (C := RX3) (T := TX3) (N := 2) hx hb hts hnX3_fits_X3 hown hK hP 0 rfl rfl 0 (by decide) (hts (.fieldLink RX3 9 "RingMeets$Rules" "told" "[I") (by decide +kernel)) (fun _ h9 => h9) rfl dX3_fits_94 ?_
        refine lv_iload_n hx hb dX3_fits_97 rfl (lv_at hl 4 rfl) ?_
        refine lv_bipush (v := 6) hx hb dX3_fits_98 (by decide) ?_
        refine lv_imul hx hb dX3_fits_100 ?_
        refine lv_topi (fun x_17 ex_17 => ?_)
        obtain rfl : (nI (j * 6)) = x_17 := (ex_17.trans (nb_mul _ 6)).symm
        refine lv_iconst (v := 3) hx hb dX3_fits_101 (by decide) ?_
        refine lv_iadd hx hb dX3_fits_102 ?_
        refine lv_topi (fun x_18 ex_18 => ?_)
        obtain rfl : (nI ((j * 6) + 3)) = x_18 := (ex_18.trans (nI_add _ 3)).symm
        refine va_iald (D := (dC, dI)) hx hb hK hP 1 0 rfl rfl (vp_in_nI (n := ((j * 6) + 3)) (N := 60) (by omega) (by omega)) dX3_fits_103 ?_
        refine lv_topi (fun x_19 ex_19 => ?_)
        rw [nI_clamp (n := ((j * 6) + 3)) (by omega)] at ex_19
        refine vp_callSi (va_Run.run (va_runS (As := [.int r_13, .int x_16, .int x_19]) (rest := []) ⟨hx, hb, hml, hown, hts⟩ (mX3_isSo l dC dI cyI cyZ r_13 x_16 x_19 ) (va_cwS 3 hts gX3_fits_X3_isSo rfl rfl rfl (by decide +kernel) ⟨Nat.le_of_ble_eq_true rfl, Nat.le_of_ble_eq_true rfl⟩) (bs_RS hB (hP.sub (ws' := []) [] rfl)) rfl rfl hl.1 rfl (lv_room (Nat.le_of_ble_eq_true rfl)) dX3_fits_104 ⟨Nat.le_of_ble_eq_true rfl, Nat.le_of_ble_eq_true rfl⟩)) (fun r_20 hr_20 => ?_)
        exact W.zret (v := r_20) hx hb hr (show narrow .boolean (.int r_20) = .int r_20 from nb_nar hr_20) (fun t ht hW => ⟨r_20, rfl, hr_20, ht⟩) (fun q h => by cases h) dX3_fits_107
      · skip
        have ic_12 := ci_nlt (rfl : Int32.toInt x_11 = _) (rfl : Int32.toInt p2 = _) c_12
        refine lv_iconst (v := 0) hx hb dX3_fits_73 (by decide) ?_
        exact W.zret (v := 0) hx hb hr (show narrow .boolean (.int 0) = .int 0 from rfl) (fun t ht hW => ⟨0, rfl, Or.inl rfl, ht⟩) (fun q h => by cases h) dX3_fits_74
    · skip
      have ic_8 := ci_ne (rfl : Int32.toInt x_7 = _) (show Int32.toInt 2 = 2 by decide) c_8
      refine lv_iload hx hb dX3_fits_45 (lv_at hl 0 rfl) ?_
      refine lv_iload hx hb dX3_fits_47 (lv_at hl 6 rfl) ?_
      refine lv_icmp_eq (tgt := 54) hx hb dX3_fits_49 (by decide) (fun c_21 => ?_) (fun c_21 => ?_)
      · skip
        have ic_21 := ci_eq (rfl : Int32.toInt x_7 = _) (rfl : Int32.toInt p4 = _) c_21
        refine lv_aload_n hx hb dX3_fits_54 rfl (lv_at hl 2 rfl) ?_
        refine va_get (D := (dC, dI)) (ci := 2) (v := .ref rt) (C := RX3) (T := TX3) (N := 2) hx hb hts hnX3_fits_X3 hown hK hP 0 rfl rfl 0 (by decide) (hts (.fieldLink RX3 9 "RingMeets$Rules" "told" "[I") (by decide +kernel)) (fun _ h9 => h9) rfl dX3_fits_55 ?_
        refine lv_iload_n hx hb dX3_fits_58 rfl (lv_at hl 3 rfl) ?_
        refine lv_bipush (v := 6) hx hb dX3_fits_59 (by decide) ?_
        refine lv_imul hx hb dX3_fits_61 ?_
        refine lv_topi (fun x_22 ex_22 => ?_)
        obtain rfl : (nI (j * 6)) = x_22 := (ex_22.trans (nb_mul _ 6)).symm
        refine lv_iconst (v := 1) hx hb dX3_fits_62 (by decide) ?_
        refine lv_iadd hx hb dX3_fits_63 ?_
        refine lv_topi (fun x_23 ex_23 => ?_)
        obtain rfl : (nI ((j * 6) + 1)) = x_23 := (ex_23.trans (nI_1 _)).symm
        refine va_iald (D := (dC, dI)) hx hb hK hP 1 0 rfl rfl (vp_in_nI (n := ((j * 6) + 1)) (N := 60) (by omega) (by omega)) dX3_fits_64 ?_
        refine lv_topi (fun x_24 ex_24 => ?_)
        rw [nI_clamp (n := ((j * 6) + 1)) (by omega)] at ex_24
        refine lv_istore (lv' := [(7, .int x_24), (6, .int x_7), (5, .int x_3), (0, .ref ru), (1, .int (nI j)), (2, .int p2), (3, .int p3), (4, .int p4)]) hx hb dX3_fits_65 hl (by decide) rfl (fun ls hl => ?_)
        refine lv_iload hx hb dX3_fits_67 (lv_at hl 0 rfl) ?_
        refine lv_iload_n hx hb dX3_fits_69 rfl (lv_at hl 5 rfl) ?_
        refine lv_icmp_lt (tgt := 75) hx hb dX3_fits_70 (by decide) (fun c_25 => ?_) (fun c_25 => ?_)
        · skip
          have ic_25 := ci_lt (rfl : Int32.toInt x_24 = _) (rfl : Int32.toInt p2 = _) c_25
          refine lv_iload_n hx hb dX3_fits_75 rfl (lv_at hl 6 rfl) ?_
          refine lv_iload_n hx hb dX3_fits_76 rfl (lv_at hl 5 rfl) ?_
          refine lv_iload hx hb dX3_fits_77 (lv_at hl 0 rfl) ?_
          refine vp_callSi (va_Run.run (va_runS (As := [.int p3, .int p2, .int x_24]) (rest := []) ⟨hx, hb, hml, hown, hts⟩ (mX0_at l dC dI cyI cyZ p3 p2 x_24 ) (va_cwS 3 hts gX3_fits_X0_at rfl rfl rfl (by decide +kernel) ⟨Nat.le_of_ble_eq_true rfl, Nat.le_of_ble_eq_true rfl⟩) (bs_RS hB (hP.sub (ws' := []) [] rfl)) rfl rfl hl.1 rfl (lv_room (Nat.le_of_ble_eq_true rfl)) dX3_fits_79 ⟨Nat.le_of_ble_eq_true rfl, Nat.le_of_ble_eq_true rfl⟩)) (fun r_26 hr_26 => ?_)
          refine lv_aload_n hx hb dX3_fits_82 rfl (lv_at hl 3 rfl) ?_
          refine va_get (D := (dC, dI)) (ci := 2) (v := .ref rt) (C := RX3) (T := TX3) (N := 2) hx hb hts hnX3_fits_X3 hown hK hP 0 rfl rfl 0 (by decide) (hts (.fieldLink RX3 9 "RingMeets$Rules" "told" "[I") (by decide +kernel)) (fun _ h9 => h9) rfl dX3_fits_83 ?_
          refine lv_iload_n hx hb dX3_fits_86 rfl (lv_at hl 4 rfl) ?_
          refine lv_bipush (v := 6) hx hb dX3_fits_87 (by decide) ?_
          refine lv_imul hx hb dX3_fits_89 ?_
          refine lv_topi (fun x_27 ex_27 => ?_)
          obtain rfl : (nI (j * 6)) = x_27 := (ex_27.trans (nb_mul _ 6)).symm
          refine lv_iconst (v := 2) hx hb dX3_fits_90 (by decide) ?_
          refine lv_iadd hx hb dX3_fits_91 ?_
          refine lv_topi (fun x_28 ex_28 => ?_)
          obtain rfl : (nI ((j * 6) + 2)) = x_28 := (ex_28.trans (nI_add _ 2)).symm
          refine va_iald (D := (dC, dI)) hx hb hK hP 1 0 rfl rfl (vp_in_nI (n := ((j * 6) + 2)) (N := 60) (by omega) (by omega)) dX3_fits_92 ?_
          refine lv_topi (fun x_29 ex_29 => ?_)
          rw [nI_clamp (n := ((j * 6) + 2)) (by omega)] at ex_29
          refine lv_aload_n hx hb dX3_fits_93 rfl (lv_at hl 3 rfl) ?_
          refine va_get (D := (dC, dI)) (ci := 2) (v := .ref rt) (C := RX3) (T := TX3) (N := 2) hx hb hts hnX3_fits_X3 hown hK hP 0 rfl rfl 0 (by decide) (hts (.fieldLink RX3 9 "RingMeets$Rules" "told" "[I") (by decide +kernel)) (fun _ h9 => h9) rfl dX3_fits_94 ?_
          refine lv_iload_n hx hb dX3_fits_97 rfl (lv_at hl 4 rfl) ?_
          refine lv_bipush (v := 6) hx hb dX3_fits_98 (by decide) ?_
          refine lv_imul hx hb dX3_fits_100 ?_
          refine lv_topi (fun x_30 ex_30 => ?_)
          obtain rfl : (nI (j * 6)) = x_30 := (ex_30.trans (nb_mul _ 6)).symm
          refine lv_iconst (v := 3) hx hb dX3_fits_101 (by decide) ?_
          refine lv_iadd hx hb dX3_fits_102 ?_
          refine lv_topi (fun x_31 ex_31 => ?_)
          obtain rfl : (nI ((j * 6) + 3)) = x_31 := (ex_31.trans (nI_add _ 3)).symm
          refine va_iald (D := (dC, dI)) hx hb hK hP 1 0 rfl rfl (vp_in_nI (n := ((j * 6) + 3)) (N := 60) (by omega) (by omega)) dX3_fits_103 ?_
          refine lv_topi (fun x_32 ex_32 => ?_)
          rw [nI_clamp (n := ((j * 6) + 3)) (by omega)] at ex_32
          refine vp_callSi (va_Run.run (va_runS (As := [.int r_26, .int x_29, .int x_32]) (rest := []) ⟨hx, hb, hml, hown, hts⟩ (mX3_isSo l dC dI cyI cyZ r_26 x_29 x_32 ) (va_cwS 3 hts gX3_fits_X3_isSo rfl rfl rfl (by decide +kernel) ⟨Nat.le_of_ble_eq_true rfl, Nat.le_of_ble_eq_true rfl⟩) (bs_RS hB (hP.sub (ws' := []) [] rfl)) rfl rfl hl.1 rfl (lv_room (Nat.le_of_ble_eq_true rfl)) dX3_fits_104 ⟨Nat.le_of_ble_eq_true rfl, Nat.le_of_ble_eq_true rfl⟩)) (fun r_33 hr_33 => ?_)
          exact W.zret (v := r_33) hx hb hr (show narrow .boolean (.int r_33) = .int r_33 from nb_nar hr_33) (fun t ht hW => ⟨r_33, rfl, hr_33, ht⟩) (fun q h => by cases h) dX3_fits_107
        · skip
          have ic_25 := ci_nlt (rfl : Int32.toInt x_24 = _) (rfl : Int32.toInt p2 = _) c_25
          refine lv_iconst (v := 0) hx hb dX3_fits_73 (by decide) ?_
          exact W.zret (v := 0) hx hb hr (show narrow .boolean (.int 0) = .int 0 from rfl) (fun t ht hW => ⟨0, rfl, Or.inl rfl, ht⟩) (fun q h => by cases h) dX3_fits_74
      · skip
        have ic_21 := ci_ne (rfl : Int32.toInt x_7 = _) (rfl : Int32.toInt p4 = _) c_21
        refine lv_iconst (v := 0) hx hb dX3_fits_52 (by decide) ?_
        exact W.zret (v := 0) hx hb hr (show narrow .boolean (.int 0) = .int 0 from rfl) (fun t ht hW => ⟨0, rfl, Or.inl rfl, ht⟩) (fun q h => by cases h) dX3_fits_53
  · skip
    have ic_4 := ci_ne (rfl : Int32.toInt x_3 = _) (show Int32.toInt 0 = 0 by decide) c_4
    refine lv_iload hx hb dX3_fits_18 (lv_at hl 0 rfl) ?_
    refine lv_iload_n hx hb dX3_fits_20 rfl (lv_at hl 3 rfl) ?_
    refine lv_icmp_eq (tgt := 26) hx hb dX3_fits_21 (by decide) (fun c_34 => ?_) (fun c_34 => ?_)
    · skip
      have ic_34 := ci_eq (rfl : Int32.toInt x_3 = _) (rfl : Int32.toInt p2 = _) c_34
      refine lv_aload_n hx hb dX3_fits_26 rfl (lv_at hl 1 rfl) ?_
      refine va_get (D := (dC, dI)) (ci := 2) (v := .ref rt) (C := RX3) (T := TX3) (N := 2) hx hb hts hnX3_fits_X3 hown hK hP 0 rfl rfl 0 (by decide) (hts (.fieldLink RX3 9 "RingMeets$Rules" "told" "[I") (by decide +kernel)) (fun _ h9 => h9) rfl dX3_fits_27 ?_
      refine lv_iload_n hx hb dX3_fits_30 rfl (lv_at hl 2 rfl) ?_
      refine lv_bipush (v := 6) hx hb dX3_fits_31 (by decide) ?_
      refine lv_imul hx hb dX3_fits_33 ?_
      refine lv_topi (fun x_35 ex_35 => ?_)
      obtain rfl : (nI (j * 6)) = x_35 := (ex_35.trans (nb_mul _ 6)).symm
      refine lv_iconst (v := 5) hx hb dX3_fits_34 (by decide) ?_
      refine lv_iadd hx hb dX3_fits_35 ?_
      refine lv_topi (fun x_36 ex_36 => ?_)
      obtain rfl : (nI ((j * 6) + 5)) = x_36 := (ex_36.trans (nI_add _ 5)).symm
      refine va_iald (D := (dC, dI)) hx hb hK hP 1 0 rfl rfl (vp_in_nI (n := ((j * 6) + 5)) (N := 60) (by omega) (by omega)) dX3_fits_36 ?_
      refine lv_topi (fun x_37 ex_37 => ?_)
      rw [nI_clamp (n := ((j * 6) + 5)) (by omega)] at ex_37
      refine lv_istore (lv' := [(6, .int x_37), (5, .int x_3), (0, .ref ru), (1, .int (nI j)), (2, .int p2), (3, .int p3), (4, .int p4)]) hx hb dX3_fits_37 hl (by decide) rfl (fun ls hl => ?_)
      refine lv_iload hx hb dX3_fits_39 (lv_at hl 0 rfl) ?_
      refine lv_iconst (v := 2) hx hb dX3_fits_41 (by decide) ?_
      refine lv_icmp_eq (tgt := 54) hx hb dX3_fits_42 (by decide) (fun c_38 => ?_) (fun c_38 => ?_)
      · skip
        have ic_38 := ci_eq (rfl : Int32.toInt x_37 = _) (show Int32.toInt 2 = 2 by decide) c_38
        refine lv_aload_n hx hb dX3_fits_54 rfl (lv_at hl 2 rfl) ?_
        refine va_get (D := (dC, dI)) (ci := 2) (v := .ref rt) (C := RX3) (T := TX3) (N := 2) hx hb hts hnX3_fits_X3 hown hK hP 0 rfl rfl 0 (by decide) (hts (.fieldLink RX3 9 "RingMeets$Rules" "told" "[I") (by decide +kernel)) (fun _ h9 => h9) rfl dX3_fits_55 ?_
        refine lv_iload_n hx hb dX3_fits_58 rfl (lv_at hl 3 rfl) ?_
        refine lv_bipush (v := 6) hx hb dX3_fits_59 (by decide) ?_
        refine lv_imul hx hb dX3_fits_61 ?_
        refine lv_topi (fun x_39 ex_39 => ?_)
        obtain rfl : (nI (j * 6)) = x_39 := (ex_39.trans (nb_mul _ 6)).symm
        refine lv_iconst (v := 1) hx hb dX3_fits_62 (by decide) ?_
        refine lv_iadd hx hb dX3_fits_63 ?_
        refine lv_topi (fun x_40 ex_40 => ?_)
        obtain rfl : (nI ((j * 6) + 1)) = x_40 := (ex_40.trans (nI_1 _)).symm
        refine va_iald (D := (dC, dI)) hx hb hK hP 1 0 rfl rfl (vp_in_nI (n := ((j * 6) + 1)) (N := 60) (by omega) (by omega)) dX3_fits_64 ?_
        refine lv_topi (fun x_41 ex_41 => ?_)
        rw [nI_clamp (n := ((j * 6) + 1)) (by omega)] at ex_41
        refine lv_istore (lv' := [(7, .int x_41), (6, .int x_37), (5, .int x_3), (0, .ref ru), (1, .int (nI j)), (2, .int p2), (3, .int p3), (4, .int p4)]) hx hb dX3_fits_65 hl (by decide) rfl (fun ls hl => ?_)
        refine lv_iload hx hb dX3_fits_67 (lv_at hl 0 rfl) ?_
        refine lv_iload_n hx hb dX3_fits_69 rfl (lv_at hl 5 rfl) ?_
        refine lv_icmp_lt (tgt := 75) hx hb dX3_fits_70 (by decide) (fun c_42 => ?_) (fun c_42 => ?_)
        · skip
          have ic_42 := ci_lt (rfl : Int32.toInt x_41 = _) (rfl : Int32.toInt p2 = _) c_42
          refine lv_iload_n hx hb dX3_fits_75 rfl (lv_at hl 6 rfl) ?_
          refine lv_iload_n hx hb dX3_fits_76 rfl (lv_at hl 5 rfl) ?_
          refine lv_iload hx hb dX3_fits_77 (lv_at hl 0 rfl) ?_
          refine vp_callSi (va_Run.run (va_runS (As := [.int p3, .int p2, .int x_41]) (rest := []) ⟨hx, hb, hml, hown, hts⟩ (mX0_at l dC dI cyI cyZ p3 p2 x_41 ) (va_cwS 3 hts gX3_fits_X0_at rfl rfl rfl (by decide +kernel) ⟨Nat.le_of_ble_eq_true rfl, Nat.le_of_ble_eq_true rfl⟩) (bs_RS hB (hP.sub (ws' := []) [] rfl)) rfl rfl hl.1 rfl (lv_room (Nat.le_of_ble_eq_true rfl)) dX3_fits_79 ⟨Nat.le_of_ble_eq_true rfl, Nat.le_of_ble_eq_true rfl⟩)) (fun r_43 hr_43 => ?_)
          refine lv_aload_n hx hb dX3_fits_82 rfl (lv_at hl 3 rfl) ?_
          refine va_get (D := (dC, dI)) (ci := 2) (v := .ref rt) (C := RX3) (T := TX3) (N := 2) hx hb hts hnX3_fits_X3 hown hK hP 0 rfl rfl 0 (by decide) (hts (.fieldLink RX3 9 "RingMeets$Rules" "told" "[I") (by decide +kernel)) (fun _ h9 => h9) rfl dX3_fits_83 ?_
          refine lv_iload_n hx hb dX3_fits_86 rfl (lv_at hl 4 rfl) ?_
          refine lv_bipush (v := 6) hx hb dX3_fits_87 (by decide) ?_
          refine lv_imul hx hb dX3_fits_89 ?_
          refine lv_topi (fun x_44 ex_44 => ?_)
          obtain rfl : (nI (j * 6)) = x_44 := (ex_44.trans (nb_mul _ 6)).symm
          refine lv_iconst (v := 2) hx hb dX3_fits_90 (by decide) ?_
          refine lv_iadd hx hb dX3_fits_91 ?_
          refine lv_topi (fun x_45 ex_45 => ?_)
          obtain rfl : (nI ((j * 6) + 2)) = x_45 := (ex_45.trans (nI_add _ 2)).symm
          refine va_iald (D := (dC, dI)) hx hb hK hP 1 0 rfl rfl (vp_in_nI (n := ((j * 6) + 2)) (N := 60) (by omega) (by omega)) dX3_fits_92 ?_
          refine lv_topi (fun x_46 ex_46 => ?_)
          rw [nI_clamp (n := ((j * 6) + 2)) (by omega)] at ex_46
          refine lv_aload_n hx hb dX3_fits_93 rfl (lv_at hl 3 rfl) ?_
          refine va_get (D := (dC, dI)) (ci := 2) (v := .ref rt) (C := RX3) (T := TX3) (N := 2) hx hb hts hnX3_fits_X3 hown hK hP 0 rfl rfl 0 (by decide) (hts (.fieldLink RX3 9 "RingMeets$Rules" "told" "[I") (by decide +kernel)) (fun _ h9 => h9) rfl dX3_fits_94 ?_
          refine lv_iload_n hx hb dX3_fits_97 rfl (lv_at hl 4 rfl) ?_
          refine lv_bipush (v := 6) hx hb dX3_fits_98 (by decide) ?_
          refine lv_imul hx hb dX3_fits_100 ?_
          refine lv_topi (fun x_47 ex_47 => ?_)
          obtain rfl : (nI (j * 6)) = x_47 := (ex_47.trans (nb_mul _ 6)).symm
          refine lv_iconst (v := 3) hx hb dX3_fits_101 (by decide) ?_
          refine lv_iadd hx hb dX3_fits_102 ?_
          refine lv_topi (fun x_48 ex_48 => ?_)
          obtain rfl : (nI ((j * 6) + 3)) = x_48 := (ex_48.trans (nI_add _ 3)).symm
          refine va_iald (D := (dC, dI)) hx hb hK hP 1 0 rfl rfl (vp_in_nI (n := ((j * 6) + 3)) (N := 60) (by omega) (by omega)) dX3_fits_103 ?_
          refine lv_topi (fun x_49 ex_49 => ?_)
          rw [nI_clamp (n := ((j * 6) + 3)) (by omega)] at ex_49
          refine vp_callSi (va_Run.run (va_runS (As := [.int r_43, .int x_46, .int x_49]) (rest := []) ⟨hx, hb, hml, hown, hts⟩ (mX3_isSo l dC dI cyI cyZ r_43 x_46 x_49 ) (va_cwS 3 hts gX3_fits_X3_isSo rfl rfl rfl (by decide +kernel) ⟨Nat.le_of_ble_eq_true rfl, Nat.le_of_ble_eq_true rfl⟩) (bs_RS hB (hP.sub (ws' := []) [] rfl)) rfl rfl hl.1 rfl (lv_room (Nat.le_of_ble_eq_true rfl)) dX3_fits_104 ⟨Nat.le_of_ble_eq_true rfl, Nat.le_of_ble_eq_true rfl⟩)) (fun r_50 hr_50 => ?_)
          exact W.zret (v := r_50) hx hb hr (show narrow .boolean (.int r_50) = .int r_50 from nb_nar hr_50) (fun t ht hW => ⟨r_50, rfl, hr_50, ht⟩) (fun q h => by cases h) dX3_fits_107
        · skip
          have ic_42 := ci_nlt (rfl : Int32.toInt x_41 = _) (rfl : Int32.toInt p2 = _) c_42
          refine lv_iconst (v := 0) hx hb dX3_fits_73 (by decide) ?_
          exact W.zret (v := 0) hx hb hr (show narrow .boolean (.int 0) = .int 0 from rfl) (fun t ht hW => ⟨0, rfl, Or.inl rfl, ht⟩) (fun q h => by cases h) dX3_fits_74
      · skip
        have ic_38 := ci_ne (rfl : Int32.toInt x_37 = _) (show Int32.toInt 2 = 2 by decide) c_38
        refine lv_iload hx hb dX3_fits_45 (lv_at hl 0 rfl) ?_
        refine lv_iload hx hb dX3_fits_47 (lv_at hl 6 rfl) ?_
        refine lv_icmp_eq (tgt := 54) hx hb dX3_fits_49 (by decide) (fun c_51 => ?_) (fun c_51 => ?_)
        · skip
          have ic_51 := ci_eq (rfl : Int32.toInt x_37 = _) (rfl : Int32.toInt p4 = _) c_51
          refine lv_aload_n hx hb dX3_fits_54 rfl (lv_at hl 2 rfl) ?_
          refine va_get (D := (dC, dI)) (ci := 2) (v := .ref rt) (C := RX3) (T := TX3) (N := 2) hx hb hts hnX3_fits_X3 hown hK hP 0 rfl rfl 0 (by decide) (hts (.fieldLink RX3 9 "RingMeets$Rules" "told" "[I") (by decide +kernel)) (fun _ h9 => h9) rfl dX3_fits_55 ?_
          refine lv_iload_n hx hb dX3_fits_58 rfl (lv_at hl 3 rfl) ?_
          refine lv_bipush (v := 6) hx hb dX3_fits_59 (by decide) ?_
          refine lv_imul hx hb dX3_fits_61 ?_
          refine lv_topi (fun x_52 ex_52 => ?_)
          obtain rfl : (nI (j * 6)) = x_52 := (ex_52.trans (nb_mul _ 6)).symm
          refine lv_iconst (v := 1) hx hb dX3_fits_62 (by decide) ?_
          refine lv_iadd hx hb dX3_fits_63 ?_
          refine lv_topi (fun x_53 ex_53 => ?_)
          obtain rfl : (nI ((j * 6) + 1)) = x_53 := (ex_53.trans (nI_1 _)).symm
          refine va_iald (D := (dC, dI)) hx hb hK hP 1 0 rfl rfl (vp_in_nI (n := ((j * 6) + 1)) (N := 60) (by omega) (by omega)) dX3_fits_64 ?_
          refine lv_topi (fun x_54 ex_54 => ?_)
          rw [nI_clamp (n := ((j * 6) + 1)) (by omega)] at ex_54
          refine lv_istore (lv' := [(7, .int x_54), (6, .int x_37), (5, .int x_3), (0, .ref ru), (1, .int (nI j)), (2, .int p2), (3, .int p3), (4, .int p4)]) hx hb dX3_fits_65 hl (by decide) rfl (fun ls hl => ?_)
          refine lv_iload hx hb dX3_fits_67 (lv_at hl 0 rfl) ?_
          refine lv_iload_n hx hb dX3_fits_69 rfl (lv_at hl 5 rfl) ?_
          refine lv_icmp_lt (tgt := 75) hx hb dX3_fits_70 (by decide) (fun c_55 => ?_) (fun c_55 => ?_)
          · skip
            have ic_55 := ci_lt (rfl : Int32.toInt x_54 = _) (rfl : Int32.toInt p2 = _) c_55
            refine lv_iload_n hx hb dX3_fits_75 rfl (lv_at hl 6 rfl) ?_
            refine lv_iload_n hx hb dX3_fits_76 rfl (lv_at hl 5 rfl) ?_
            refine lv_iload hx hb dX3_fits_77 (lv_at hl 0 rfl) ?_
            refine vp_callSi (va_Run.run (va_runS (As := [.int p3, .int p2, .int x_54]) (rest := []) ⟨hx, hb, hml, hown, hts⟩ (mX0_at l dC dI cyI cyZ p3 p2 x_54 ) (va_cwS 3 hts gX3_fits_X0_at rfl rfl rfl (by decide +kernel) ⟨Nat.le_of_ble_eq_true rfl, Nat.le_of_ble_eq_true rfl⟩) (bs_RS hB (hP.sub (ws' := []) [] rfl)) rfl rfl hl.1 rfl (lv_room (Nat.le_of_ble_eq_true rfl)) dX3_fits_79 ⟨Nat.le_of_ble_eq_true rfl, Nat.le_of_ble_eq_true rfl⟩)) (fun r_56 hr_56 => ?_)
            refine lv_aload_n hx hb dX3_fits_82 rfl (lv_at hl 3 rfl) ?_
            refine va_get (D := (dC, dI)) (ci := 2) (v := .ref rt) (C := RX3) (T := TX3) (N := 2) hx hb hts hnX3_fits_X3 hown hK hP 0 rfl rfl 0 (by decide) (hts (.fieldLink RX3 9 "RingMeets$Rules" "told" "[I") (by decide +kernel)) (fun _ h9 => h9) rfl dX3_fits_83 ?_
            refine lv_iload_n hx hb dX3_fits_86 rfl (lv_at hl 4 rfl) ?_
            refine lv_bipush (v := 6) hx hb dX3_fits_87 (by decide) ?_
            refine lv_imul hx hb dX3_fits_89 ?_
            refine lv_topi (fun x_57 ex_57 => ?_)
            obtain rfl : (nI (j * 6)) = x_57 := (ex_57.trans (nb_mul _ 6)).symm
            refine lv_iconst (v := 2) hx hb dX3_fits_90 (by decide) ?_
            refine lv_iadd hx hb dX3_fits_91 ?_
            refine lv_topi (fun x_58 ex_58 => ?_)
            obtain rfl : (nI ((j * 6) + 2)) = x_58 := (ex_58.trans (nI_add _ 2)).symm
            refine va_iald (D := (dC, dI)) hx hb hK hP 1 0 rfl rfl (vp_in_nI (n := ((j * 6) + 2)) (N := 60) (by omega) (by omega)) dX3_fits_92 ?_
            refine lv_topi (fun x_59 ex_59 => ?_)
            rw [nI_clamp (n := ((j * 6) + 2)) (by omega)] at ex_59
            refine lv_aload_n hx hb dX3_fits_93 rfl (lv_at hl 3 rfl) ?_
            refine va_get (D := (dC, dI)) (ci := 2) (v := .ref rt) (C := RX3) (T := TX3) (N := 2) hx hb hts hnX3_fits_X3 hown hK hP 0 rfl rfl 0 (by decide) (hts (.fieldLink RX3 9 "RingMeets$Rules" "told" "[I") (by decide +kernel)) (fun _ h9 => h9) rfl dX3_fits_94 ?_
            refine lv_iload_n hx hb dX3_fits_97 rfl (lv_at hl 4 rfl) ?_
            refine lv_bipush (v := 6) hx hb dX3_fits_98 (by decide) ?_
            refine lv_imul hx hb dX3_fits_100 ?_
            refine lv_topi (fun x_60 ex_60 => ?_)
            obtain rfl : (nI (j * 6)) = x_60 := (ex_60.trans (nb_mul _ 6)).symm
            refine lv_iconst (v := 3) hx hb dX3_fits_101 (by decide) ?_
            refine lv_iadd hx hb dX3_fits_102 ?_
            refine lv_topi (fun x_61 ex_61 => ?_)
            obtain rfl : (nI ((j * 6) + 3)) = x_61 := (ex_61.trans (nI_add _ 3)).symm
            refine va_iald (D := (dC, dI)) hx hb hK hP 1 0 rfl rfl (vp_in_nI (n := ((j * 6) + 3)) (N := 60) (by omega) (by omega)) dX3_fits_103 ?_
            refine lv_topi (fun x_62 ex_62 => ?_)
            rw [nI_clamp (n := ((j * 6) + 3)) (by omega)] at ex_62
            refine vp_callSi (va_Run.run (va_runS (As := [.int r_56, .int x_59, .int x_62]) (rest := []) ⟨hx, hb, hml, hown, hts⟩ (mX3_isSo l dC dI cyI cyZ r_56 x_59 x_62 ) (va_cwS 3 hts gX3_fits_X3_isSo rfl rfl rfl (by decide +kernel) ⟨Nat.le_of_ble_eq_true rfl, Nat.le_of_ble_eq_true rfl⟩) (bs_RS hB (hP.sub (ws' := []) [] rfl)) rfl rfl hl.1 rfl (lv_room (Nat.le_of_ble_eq_true rfl)) dX3_fits_104 ⟨Nat.le_of_ble_eq_true rfl, Nat.le_of_ble_eq_true rfl⟩)) (fun r_63 hr_63 => ?_)
            exact W.zret (v := r_63) hx hb hr (show narrow .boolean (.int r_63) = .int r_63 from nb_nar hr_63) (fun t ht hW => ⟨r_63, rfl, hr_63, ht⟩) (fun q h => by cases h) dX3_fits_107
          · skip
            have ic_55 := ci_nlt (rfl : Int32.toInt x_54 = _) (rfl : Int32.toInt p2 = _) c_55
            refine lv_iconst (v := 0) hx hb dX3_fits_73 (by decide) ?_
            exact W.zret (v := 0) hx hb hr (show narrow .boolean (.int 0) = .int 0 from rfl) (fun t ht hW => ⟨0, rfl, Or.inl rfl, ht⟩) (fun q h => by cases h) dX3_fits_74
        · skip
          have ic_51 := ci_ne (rfl : Int32.toInt x_37 = _) (rfl : Int32.toInt p4 = _) c_51
          refine lv_iconst (v := 0) hx hb dX3_fits_52 (by decide) ?_
          exact W.zret (v := 0) hx hb hr (show narrow .boolean (.int 0) = .int 0 from rfl) (fun t ht hW => ⟨0, rfl, Or.inl rfl, ht⟩) (fun q h => by cases h) dX3_fits_53
    · skip
      have ic_34 := ci_ne (rfl : Int32.toInt x_3 = _) (rfl : Int32.toInt p2 = _) c_34
      refine lv_iconst (v := 0) hx hb dX3_fits_24 (by decide) ?_
      exact W.zret (v := 0) hx hb hr (show narrow .boolean (.int 0) = .int 0 from rfl) (fun t ht hW => ⟨0, rfl, Or.inl rfl, ht⟩) (fun q h => by cases h) dX3_fits_25

theorem hnX3_firstThatFits_X3 : ∀ w ∈ wsX30, w ∈ wsX3_firstThatFits := fun _ h => List.mem_cons_of_mem _ (List.mem_append_right _ h)
set_option maxHeartbeats 4000000 in
set_option maxRecDepth 100000 in
theorem mX3_firstThatFits (l : Launch) (dC : Nat → ClassId) (dI : Nat → Nat → Nat) (cyI cyZ : ClassId) (ru : Nat) (rt : Nat) (zz : Nat) (tg : Nat → Int32) (p1 : Int32) (p2 : Int32) (p3 : Int32) (hzz : zz ≤ 10) : Met l yX3_firstThatFits wsX3_firstThatFits ({ frames := 2, cells := 0, slots := 0, locals := 49 }) (bs_R dC dI cyI cyZ [.ref ru, .int p1, .int p2, .int p3] [(ru, .inr (2, [.ref rt, .int (nI zz)])), (rt, .inl (cyI, 60, .inl tg))]) (vp_Si (fun r : Int32 => True)) 0 0 (fun _ => False) := by
  refine Met.ofW (cc := cX3_firstThatFits) (maxL := 5) (ret := (some .int)) (by decide) rfl ?_
  intro p e s m args below meth c s₁ B hml hv
  obtain ⟨rfl, hB, hP⟩ := hv
  have hK := hB.1
  have hN := hB.2
  have hx := B.exec
  have hb := B.bytes
  have hr := B.returns
  have hts := atoms_spec (ws := wsX3_firstThatFits) B.pre
  have hown : s.vm.findClass RX3 = some m.cls := findClass_of_methodNamed B.named
  have hlocks := B.notSynchronized
  have hP : va_P (dC, dI) vwCl [(ru, .inr (2, [.ref rt, .int (nI zz)])), (rt, .inl (cyI, 60, .inl tg))] s.heap := hP
  have hl := lv_entry ([.ref ru, .int p1, .int p2, .int p3]) (n := 5) (Nat.le_of_ble_eq_true rfl)
  rw [lg_entry_eq]
  generalize (lg_sl ([.ref ru, .int p1, .int p2, .int p3]) ++ List.replicate (5 - (lg_sl ([.ref ru, .int p1, .int p2, .int p3])).length) Slot.unset).toArray = ls at hl ⊢
  have hl : lv_has ls 5 [(0, .ref ru), (1, .int p1), (2, .int p2), (3, .int p3)] := hl
  refine lv_iconst (v := 0) hx hb dX3_firstThatFits_0 (by decide) ?_
  refine lv_istore (lv' := [(4, .int 0), (0, .ref ru), (1, .int p1), (2, .int p2), (3, .int p3)]) hx hb dX3_firstThatFits_1 hl (by decide) rfl (fun ls hl => ?_)
  have L3 : ∀ (n3 : Nat), ∀ (k : Nat), (0 ≤ k ∧ k ≤ zz) → (zz + 1 ≤ k + n3) → ∀ (ls : Array Slot), lv_has ls 5 [(0, .ref ru), (1, .int p1), (2, .int p2), (3, .int p3), (4, .int (nI k))] → W p l e (headSpec wsX3_firstThatFits ({ frames := 2, cells := 0, slots := 0, locals := 49 })).room s m ([.ref ru, .int p1, .int p2, .int p3] : List Value).toArray below meth c s.heap [] 0 0 (MQ below (vp_Si (fun r : Int32 => True)) ([.ref ru, .int p1, .int p2, .int p3] : List Value).toArray s 0 0 (fun _ => False)) (F0 m 3 ls []) := by
    intro n3
    induction n3 with
    | zero =>
      intro k hk3 hn3 ls hl
      exfalso
      omega
    | succ n3 ih3 =>
      intro k hk3 hn3 ls hl
      refine lv_iload hx hb dX3_firstThatFits_3 (lv_at hl 4 rfl) ?_
      refine lv_aload_n hx hb dX3_firstThatFits_5 rfl (lv_at hl 0 rfl) ?_
      refine va_get (D := (dC, dI)) (ci := 2) (v := .int (nI zz)) (C := RX3) (T := TX3) (N := 2) hx hb hts hnX3_firstThatFits_X3 hown hK hP 0 rfl rfl 1 (by decide) (hts (.fieldLink RX3 15 "RingMeets$Rules" "size" "I") (by decide +kernel)) (fun _ h9 => h9) rfl dX3_firstThatFits_6 ?_
      refine lv_icmp_ge (tgt := 40) hx hb dX3_firstThatFits_9 (by decide) (fun c_1 => ?_) (fun c_1 => ?_)
      · skip
        have ic_1 := ci_le (nI_toInt (n := zz) (by omega)) (nI_toInt (n := k) (by omega)) c_1
        refine lv_bipush (v := (-6)) hx hb dX3_firstThatFits_40 (by decide) ?_
        exact W.iret (v := (-6)) hx hb hr (fun t ht hW => ⟨(-6), rfl, trivial, ht⟩) (fun q h => by cases h) dX3_firstThatFits_42
      · skip
        have ic_1 := ci_nle (nI_toInt (n := zz) (by omega)) (nI_toInt (n := k) (by omega)) c_1
        refine lv_iload hx hb dX3_firstThatFits_12 (lv_at hl 4 rfl) ?_
        refine lv_bipush (v := 10) hx hb dX3_firstThatFits_14 (by decide) ?_
        refine lv_icmp_ge (tgt := 40) hx hb dX3_firstThatFits_16 (by decide) (fun c_2 => ?_) (fun c_2 => ?_)
        · skip
          have ic_2 := ci_le (show Int32.toInt 10 = 10 by decide) (nI_toInt (n := k) (by omega)) c_2
          refine lv_bipush (v := (-6)) hx hb dX3_firstThatFits_40 (by decide) ?_
          exact W.iret (v := (-6)) hx hb hr (fun t ht hW => ⟨(-6), rfl, trivial, ht⟩) (fun q h => by cases h) dX3_firstThatFits_42
        · skip
          have ic_2 := ci_nle (show Int32.toInt 10 = 10 by decide) (nI_toInt (n := k) (by omega)) c_2
          refine lv_aload_n hx hb dX3_firstThatFits_19 rfl (lv_at hl 0 rfl) ?_
          refine lv_iload hx hb dX3_firstThatFits_20 (lv_at hl 4 rfl) ?_
          refine lv_iload_n hx hb dX3_firstThatFits_22 rfl (lv_at hl 1 rfl) ?_
          refine lv_iload_n hx hb dX3_firstThatFits_23 rfl (lv_at hl 2 rfl) ?_
          refine lv_iload_n hx hb dX3_firstThatFits_24 rfl (lv_at hl 3 rfl) ?_
          refine vp_callSi (va_Run.run (va_runV (As := [.int (nI k), .int p1, .int p2, .int p3]) (rest := []) ⟨hx, hb, hml, hown, hts⟩ (mX3_fits l dC dI cyI cyZ ru rt zz k tg p1 p2 p3 (by omega)) (cwV 4 hts gX3_firstThatFits_X3_fits rfl rfl rfl (by decide +kernel) ⟨Nat.le_of_ble_eq_true rfl, Nat.le_of_ble_eq_true rfl⟩) (bs_RV hB (hP.sub (ws' := [(ru, .inr (2, [.ref rt, .int (nI zz)])), (rt, .inl (cyI, 60, .inl tg))]) [0, 1] rfl) 0 rfl rfl) rfl rfl hl.1 rfl (lv_room (Nat.le_of_ble_eq_true rfl)) dX3_firstThatFits_25 ⟨Nat.le_of_ble_eq_true rfl, Nat.le_of_ble_eq_true rfl⟩)) (fun r_3 hr_3 => ?_)
          refine lv_if_eq (tgt := 34) hx hb dX3_firstThatFits_28 (by decide) (fun c_4 => ?_) (fun c_4 => ?_)
          · skip
            have ic_4 := ci_eq (rfl : Int32.toInt r_3 = _) (show Int32.toInt 0 = 0 by decide) c_4
            refine lv_iinc (v := (nI (k + 1))) (lv' := [(4, .int (nI (k + 1))), (0, .ref ru), (1, .int p1), (2, .int p2), (3, .int p3)]) hx hb dX3_firstThatFits_34 hl (k := 4) rfl (nI_1 _) (by decide) rfl (fun ls hl => ?_)
            refine lv_goto (tgt := 3) hx hb dX3_firstThatFits_37 (by decide) ?_
            exact ih3 (k + 1)  ⟨by omega, by omega⟩ (by omega)  _ (lv_sub hl [1, 2, 3, 4, 0] rfl)
          · skip
            have ic_4 := ci_ne (rfl : Int32.toInt r_3 = _) (show Int32.toInt 0 = 0 by decide) c_4
            refine lv_iload hx hb dX3_firstThatFits_31 (lv_at hl 4 rfl) ?_
            exact W.iret (v := (nI k)) hx hb hr (fun t ht hW => ⟨(nI k), rfl, trivial, ht⟩) (fun q h => by cases h) dX3_firstThatFits_33
  exact L3 (zz + 1) 0  ⟨by omega, by omega⟩ (by omega)  _ (lv_sub hl [1, 2, 3, 4, 0] rfl)

theorem hnX4_hasCell_X4 : ∀ w ∈ wsX40, w ∈ wsX4_hasCell := fun _ h => List.mem_cons_of_mem _ (List.mem_append_right _ h)
set_option maxHeartbeats 4000000 in
set_option maxRecDepth 100000 in
theorem mX4_hasCell (l : Launch) (dC : Nat → ClassId) (dI : Nat → Nat → Nat) (cyI cyZ : ClassId) (sc : Nat) (wf : Nat) (ru : Nat) (n : Nat) (p1 : Int32) (hn : n ≤ 10) : Met l yX4_hasCell wsX4_hasCell ({ frames := 0, cells := 0, slots := 0, locals := 0 }) (bs_R dC dI cyI cyZ [.ref sc, .int p1] [(sc, .inr (3, [.ref wf, .ref ru, .int (nI n)]))]) (vp_Si (fun r : Int32 => (r = 0 ∨ r = 1) ∧ (r = 1 → 0 ≤ p1.toInt ∧ p1.toInt < 10))) 0 0 (fun _ => False) := by
  refine Met.ofW (cc := cX4_hasCell) (maxL := 2) (ret := (some .boolean)) (by decide) rfl ?_
  intro p e s m args below meth c s₁ B hml hv
  obtain ⟨rfl, hB, hP⟩ := hv
  have hK := hB.1
  have hN := hB.2
  have hx := B.exec
  have hb := B.bytes
  have hr := B.returns
  have hts := atoms_spec (ws := wsX4_hasCell) B.pre
  have hown : s.vm.findClass RX4 = some m.cls := findClass_of_methodNamed B.named
  have hlocks := B.notSynchronized
  have hP : va_P (dC, dI) vwCl [(sc, .inr (3, [.ref wf, .ref ru, .int (nI n)]))] s.heap := hP
  have hl := lv_entry ([.ref sc, .int p1]) (n := 2) (Nat.le_of_ble_eq_true rfl)
  rw [lg_entry_eq]
  generalize (lg_sl ([.ref sc, .int p1]) ++ List.replicate (2 - (lg_sl ([.ref sc, .int p1])).length) Slot.unset).toArray = ls at hl ⊢
  have hl : lv_has ls 2 [(0, .ref sc), (1, .int p1)] := hl
  refine lv_iload_n hx hb dX4_hasCell_0 rfl (lv_at hl 1 rfl) ?_
  refine lv_if_lt (tgt := 22) hx hb dX4_hasCell_1 (by decide) (fun c_1 => ?_) (fun c_1 => ?_)
  · skip
    have ic_1 := ci_lt (rfl : Int32.toInt p1 = _) (show Int32.toInt 0 = 0 by decide) c_1
    refine lv_iconst (v := 0) hx hb dX4_hasCell_22 (by decide) ?_
    exact W.zret (v := 0) hx hb hr (show narrow .boolean (.int 0) = .int 0 from rfl) (fun t ht hW => ⟨0, rfl, ⟨Or.inl rfl, fun h => absurd h (by decide)⟩, ht⟩) (fun q h => by cases h) dX4_hasCell_23
  · skip
    have ic_1 := ci_nlt (rfl : Int32.toInt p1 = _) (show Int32.toInt 0 = 0 by decide) c_1
    refine lv_iload_n hx hb dX4_hasCell_4 rfl (lv_at hl 1 rfl) ?_
    refine lv_aload_n hx hb dX4_hasCell_5 rfl (lv_at hl 0 rfl) ?_
    refine va_get (D := (dC, dI)) (ci := 3) (v := .int (nI n)) (C := RX4) (T := TX4) (N := 3) hx hb hts hnX4_hasCell_X4 hown hK hP 0 rfl rfl 2 (by decide) (hts (.fieldLink RX4 22 "RingMeets$Scene" "cells" "I") (by decide +kernel)) (fun _ h9 => h9) rfl dX4_hasCell_6 ?_
    refine lv_icmp_ge (tgt := 22) hx hb dX4_hasCell_9 (by decide) (fun c_2 => ?_) (fun c_2 => ?_)
    · skip
      have ic_2 := ci_le (nI_toInt (n := n) (by omega)) (rfl : Int32.toInt p1 = _) c_2
      refine lv_iconst (v := 0) hx hb dX4_hasCell_22 (by decide) ?_
      exact W.zret (v := 0) hx hb hr (show narrow .boolean (.int 0) = .int 0 from rfl) (fun t ht hW => ⟨0, rfl, ⟨Or.inl rfl, fun h => absurd h (by decide)⟩, ht⟩) (fun q h => by cases h) dX4_hasCell_23
    · skip
      have ic_2 := ci_nle (nI_toInt (n := n) (by omega)) (rfl : Int32.toInt p1 = _) c_2
      refine lv_iload_n hx hb dX4_hasCell_12 rfl (lv_at hl 1 rfl) ?_
      refine lv_bipush (v := 10) hx hb dX4_hasCell_13 (by decide) ?_
      refine lv_icmp_ge (tgt := 22) hx hb dX4_hasCell_15 (by decide) (fun c_3 => ?_) (fun c_3 => ?_)
      · skip
        have ic_3 := ci_le (show Int32.toInt 10 = 10 by decide) (rfl : Int32.toInt p1 = _) c_3
        refine lv_iconst (v := 0) hx hb dX4_hasCell_22 (by decide) ?_
        exact W.zret (v := 0) hx hb hr (show narrow .boolean (.int 0) = .int 0 from rfl) (fun t ht hW => ⟨0, rfl, ⟨Or.inl rfl, fun h => absurd h (by decide)⟩, ht⟩) (fun q h => by cases h) dX4_hasCell_23
      · skip
        have ic_3 := ci_nle (show Int32.toInt 10 = 10 by decide) (rfl : Int32.toInt p1 = _) c_3
        refine lv_iconst (v := 1) hx hb dX4_hasCell_18 (by decide) ?_
        refine lv_goto (tgt := 23) hx hb dX4_hasCell_19 (by decide) ?_
        exact W.zret (v := 1) hx hb hr (show narrow .boolean (.int 1) = .int 1 from rfl) (fun t ht hW => ⟨1, rfl, ⟨Or.inr rfl, fun _ => ⟨by omega, by omega⟩⟩, ht⟩) (fun q h => by cases h) dX4_hasCell_23

theorem hnX4_walkersOn_X4 : ∀ w ∈ wsX40, w ∈ wsX4_walkersOn := fun _ h => List.mem_cons_of_mem _ (List.mem_append_right _ h)
set_option maxHeartbeats 4000000 in
set_option maxRecDepth 100000 in
theorem mX4_walkersOn (l : Launch) (dC : Nat → ClassId) (dI : Nat → Nat → Nat) (cyI cyZ : ClassId) (sc : Nat) (wf : Nat) (ru : Nat) (n : Nat) (fw : Nat → Int32) (p1 : Int32) (hn : n ≤ 10) : Met l yX4_walkersOn wsX4_walkersOn ({ frames := 1, cells := 0, slots := 0, locals := 21 }) (bs_R dC dI cyI cyZ [.ref sc, .int p1] [(sc, .inr (3, [.ref wf, .ref ru, .int (nI n)])), (wf, .inl (cyI, 10, .inl fw))]) (vp_Si (fun r : Int32 => True)) 0 0 (fun _ => False) := by
  refine Met.ofW (cc := cX4_walkersOn) (maxL := 2) (ret := (some .int)) (by decide) rfl ?_
  intro p e s m args below meth c s₁ B hml hv
  obtain ⟨rfl, hB, hP⟩ := hv
  have hK := hB.1
  have hN := hB.2
  have hx := B.exec
  have hb := B.bytes
  have hr := B.returns
  have hts := atoms_spec (ws := wsX4_walkersOn) B.pre
  have hown : s.vm.findClass RX4 = some m.cls := findClass_of_methodNamed B.named
  have hlocks := B.notSynchronized
  have hP : va_P (dC, dI) vwCl [(sc, .inr (3, [.ref wf, .ref ru, .int (nI n)])), (wf, .inl (cyI, 10, .inl fw))] s.heap := hP
  have hl := lv_entry ([.ref sc, .int p1]) (n := 2) (Nat.le_of_ble_eq_true rfl)
  rw [lg_entry_eq]
  generalize (lg_sl ([.ref sc, .int p1]) ++ List.replicate (2 - (lg_sl ([.ref sc, .int p1])).length) Slot.unset).toArray = ls at hl ⊢
  have hl : lv_has ls 2 [(0, .ref sc), (1, .int p1)] := hl
  refine lv_aload_n hx hb dX4_walkersOn_0 rfl (lv_at hl 0 rfl) ?_
  refine lv_iload_n hx hb dX4_walkersOn_1 rfl (lv_at hl 1 rfl) ?_
  refine vp_callSi (va_Run.run (va_runV (As := [.int p1]) (rest := []) ⟨hx, hb, hml, hown, hts⟩ (mX4_hasCell l dC dI cyI cyZ sc wf ru n p1 (by omega)) (cwV 1 hts gX4_walkersOn_X4_hasCell rfl rfl rfl (by decide +kernel) ⟨Nat.le_of_ble_eq_true rfl, Nat.le_of_ble_eq_true rfl⟩) (bs_RV hB (hP.sub (ws' := [(sc, .inr (3, [.ref wf, .ref ru, .int (nI n)]))]) [0] rfl) 0 rfl rfl) rfl rfl hl.1 rfl (lv_room (Nat.le_of_ble_eq_true rfl)) dX4_walkersOn_2 ⟨Nat.le_of_ble_eq_true rfl, Nat.le_of_ble_eq_true rfl⟩)) (fun r_1 hr_1 => ?_)
  refine lv_if_eq (tgt := 17) hx hb dX4_walkersOn_5 (by decide) (fun c_2 => ?_) (fun c_2 => ?_)
  · skip
    have ic_2 := ci_eq (rfl : Int32.toInt r_1 = _) (show Int32.toInt 0 = 0 by decide) c_2
    refine lv_iconst (v := 0) hx hb dX4_walkersOn_17 (by decide) ?_
    exact W.iret (v := 0) hx hb hr (fun t ht hW => ⟨0, rfl, trivial, ht⟩) (fun q h => by cases h) dX4_walkersOn_18
  · skip
    have ic_2 := ci_ne (rfl : Int32.toInt r_1 = _) (show Int32.toInt 0 = 0 by decide) c_2
    obtain ⟨hlo, hhi⟩ := hr_1.2 (hr_1.1.resolve_left c_2)
    refine lv_aload_n hx hb dX4_walkersOn_8 rfl (lv_at hl 0 rfl) ?_
    refine va_get (D := (dC, dI)) (ci := 3) (v := .ref wf) (C := RX4) (T := TX4) (N := 3) hx hb hts hnX4_walkersOn_X4 hown hK hP 0 rfl rfl 0 (by decide) (hts (.fieldLink RX4 9 "RingMeets$Scene" "walkers" "[I") (by decide +kernel)) (fun _ h9 => h9) rfl dX4_walkersOn_9 ?_
    refine lv_iload_n hx hb dX4_walkersOn_12 rfl (lv_at hl 1 rfl) ?_
    refine va_iald (D := (dC, dI)) hx hb hK hP 1 0 rfl rfl (nb_in (x := p1) (n := 10) (by omega) (by omega)) dX4_walkersOn_13 ?_
    refine lv_topi (fun x_3 ex_3 => ?_)
    refine lv_goto (tgt := 18) hx hb dX4_walkersOn_14 (by decide) ?_
    exact W.iret (v := x_3) hx hb hr (fun t ht hW => ⟨x_3, rfl, trivial, ht⟩) (fun q h => by cases h) dX4_walkersOn_18

theorem hnX4_put_X4 : ∀ w ∈ wsX40, w ∈ wsX4_put := fun _ h => List.mem_cons_of_mem _ (List.mem_append_right _ h)
set_option maxHeartbeats 4000000 in
set_option maxRecDepth 100000 in
theorem mX4_put (l : Launch) (dC : Nat → ClassId) (dI : Nat → Nat → Nat) (cyI cyZ : ClassId) (sc : Nat) (wf : Nat) (ru : Nat) (n : Nat) (fw : Nat → Int32) (p1 : Int32) (p2 : Int32) (hn : n ≤ 10) (sz : Nat) : Met l yX4_put wsX4_put ({ frames := 1, cells := 0, slots := 0, locals := 21 }) (bs_W dC dI cyI cyZ [.ref sc, .int p1, .int p2] [(sc, .inr (3, [.ref wf, .ref ru, .int (nI n)])), (wf, .inl (cyI, 10, .inl fw))] sz) (va_Qv (S := (Nat → Int32)) (fun q : (Nat → Int32) => True) (fun q t => bs_E dC dI (va_A [(sc, .inr (3, [.ref wf, .ref ru, .int (nI n)])), (wf, .inl (cyI, 10, .inl fw))] sz) [(sc, .inr (3, [.ref wf, .ref ru, .int (nI n)])), (wf, .inl (cyI, 10, .inl q))] t) (va_A [(sc, .inr (3, [.ref wf, .ref ru, .int (nI n)])), (wf, .inl (cyI, 10, .inl fw))] sz)) 0 0 (va_A [(sc, .inr (3, [.ref wf, .ref ru, .int (nI n)])), (wf, .inl (cyI, 10, .inl fw))] sz) := by
  refine Met.ofW (cc := cX4_put) (maxL := 3) (ret := none) (by decide) rfl ?_
  intro p e s m args below meth c s₁ B hml hv
  obtain ⟨rfl, hsz, hB, hP, hD0⟩ := hv
  have hK := hB.1
  have hN := hB.2
  have hx := B.exec
  have hb := B.bytes
  have hr := B.returns
  have hts := atoms_spec (ws := wsX4_put) B.pre
  have hown : s.vm.findClass RX4 = some m.cls := findClass_of_methodNamed B.named
  have hlocks := B.notSynchronized
  subst hsz
  have hD := hD0.self (sz := s.heap.size)
  generalize hAe : va_A [(sc, .inr (3, [.ref wf, .ref ru, .int (nI n)])), (wf, .inl (cyI, 10, .inl fw))] s.heap.size = A at hD ⊢
  have hA : ∀ q : Nat, s.heap.size ≤ q → A q := fun q h => by rw [← hAe]; exact Or.inr h
  have hS : va_S A s.heap s.heap [] := va_S.rf
  have hP : va_P (dC, dI) vwCl [(sc, .inr (3, [.ref wf, .ref ru, .int (nI n)])), (wf, .inl (cyI, 10, .inl fw))] s.heap := hP
  have hl := lv_entry ([.ref sc, .int p1, .int p2]) (n := 3) (Nat.le_of_ble_eq_true rfl)
  rw [lg_entry_eq]
  generalize (lg_sl ([.ref sc, .int p1, .int p2]) ++ List.replicate (3 - (lg_sl ([.ref sc, .int p1, .int p2])).length) Slot.unset).toArray = ls at hl ⊢
  have hl : lv_has ls 3 [(0, .ref sc), (1, .int p1), (2, .int p2)] := hl
  refine lv_aload_n hx hb dX4_put_0 rfl (lv_at hl 0 rfl) ?_
  refine lv_iload_n hx hb dX4_put_1 rfl (lv_at hl 1 rfl) ?_
  refine vp_callSi (va_Run.run (va_runV (As := [.int p1]) (rest := []) ⟨hx, hb, hml, hown, hts⟩ (mX4_hasCell l dC dI cyI cyZ sc wf ru n p1 (by omega)) (cwV 1 hts gX4_put_X4_hasCell rfl rfl rfl (by decide +kernel) ⟨Nat.le_of_ble_eq_true rfl, Nat.le_of_ble_eq_true rfl⟩) (bs_RV hB (hP.sub (ws' := [(sc, .inr (3, [.ref wf, .ref ru, .int (nI n)]))]) [0] rfl) 0 rfl rfl) rfl rfl hl.1 rfl (lv_room (Nat.le_of_ble_eq_true rfl)) dX4_put_2 ⟨Nat.le_of_ble_eq_true rfl, Nat.le_of_ble_eq_true rfl⟩)) (fun r_1 hr_1 => ?_)
  refine lv_if_eq (tgt := 15) hx hb dX4_put_5 (by decide) (fun c_2 => ?_) (fun c_2 => ?_)
  · skip
    have ic_2 := ci_eq (rfl : Int32.toInt r_1 = _) (show Int32.toInt 0 = 0 by decide) c_2
    exact W.vret hx hb hr (fun t ht hW => ⟨⟨fw, rfl, trivial, ⟨by rw [ht]; exact hP.sub (ws' := [(sc, .inr (3, [.ref wf, .ref ru, .int (nI n)])), (wf, .inl (cyI, 10, .inl fw))]) [0, 1] rfl, hD.sub (ws' := [(sc, .inr (3, [.ref wf, .ref ru, .int (nI n)])), (wf, .inl (cyI, 10, .inl fw))]) [0, 1] (by decide) rfl⟩⟩, hS.F ht⟩) hS.2.2 dX4_put_15
  · skip
    have ic_2 := ci_ne (rfl : Int32.toInt r_1 = _) (show Int32.toInt 0 = 0 by decide) c_2
    obtain ⟨hlo, hhi⟩ := hr_1.2 (hr_1.1.resolve_left c_2)
    refine lv_aload_n hx hb dX4_put_8 rfl (lv_at hl 0 rfl) ?_
    refine va_get (D := (dC, dI)) (ci := 3) (v := .ref wf) (C := RX4) (T := TX4) (N := 3) hx hb hts hnX4_put_X4 hown hK hP 0 rfl rfl 0 (by decide) (hts (.fieldLink RX4 9 "RingMeets$Scene" "walkers" "[I") (by decide +kernel)) (fun _ h9 => h9) rfl dX4_put_9 ?_
    refine lv_iload_n hx hb dX4_put_12 rfl (lv_at hl 1 rfl) ?_
    refine lv_iload_n hx hb dX4_put_13 rfl (lv_at hl 2 rfl) ?_
    refine va_iast (D := (dC, dI)) hx hb hK hP hD hS 1 0 rfl rfl (nb_in (x := p1) (n := 10) (by omega) (by omega)) dX4_put_14 (fun H locs hP hD hS => ?_)
    obtain ⟨g_3, eg_3⟩ : ∃ y : Nat → Int32, y = upd fw (Int32.toNatClampNeg p1) p2 := ⟨_, rfl⟩
    have hP : va_P (dC, dI) vwCl [(sc, .inr (3, [.ref wf, .ref ru, .int (nI n)])), (wf, .inl (cyI, 10, .inl g_3))] H := by rw [eg_3]; exact hP
    have hD : va_D A [(sc, .inr (3, [.ref wf, .ref ru, .int (nI n)])), (wf, .inl (cyI, 10, .inl g_3))] := by rw [eg_3]; exact hD
    exact W.vret hx hb hr (fun t ht hW => ⟨⟨g_3, rfl, trivial, ⟨by rw [ht]; exact hP.sub (ws' := [(sc, .inr (3, [.ref wf, .ref ru, .int (nI n)])), (wf, .inl (cyI, 10, .inl g_3))]) [0, 1] rfl, hD.sub (ws' := [(sc, .inr (3, [.ref wf, .ref ru, .int (nI n)])), (wf, .inl (cyI, 10, .inl g_3))]) [0, 1] (by decide) rfl⟩⟩, hS.F ht⟩) hS.2.2 dX4_put_15

theorem hnX4_empty_X4 : ∀ w ∈ wsX40, w ∈ wsX4_empty := fun _ h => List.mem_cons_of_mem _ (List.mem_append_right _ h)
set_option maxHeartbeats 4000000 in
set_option maxRecDepth 100000 in
theorem mX4_empty (l : Launch) (dC : Nat → ClassId) (dI : Nat → Nat → Nat) (cyI cyZ : ClassId) (sc : Nat) (wf : Nat) (ru : Nat) (n : Nat) (v : Nat) (fw : Nat → Int32)  (sz : Nat) : Met l yX4_empty wsX4_empty ({ frames := 0, cells := 0, slots := 0, locals := 0 }) (bs_W dC dI cyI cyZ [.ref sc, .int (nI v)] [(sc, .inr (3, [.ref wf, .ref ru, .int (nI n)])), (wf, .inl (cyI, 10, .inl fw))] sz) (va_Qv (S := (Nat → Int32)) (fun q : (Nat → Int32) => True) (fun q t => bs_E dC dI (va_A [(sc, .inr (3, [.ref wf, .ref ru, .int (nI n)])), (wf, .inl (cyI, 10, .inl fw))] sz) [(sc, .inr (3, [.ref wf, .ref ru, .int (nI v)])), (wf, .inl (cyI, 10, .inl q))] t) (va_A [(sc, .inr (3, [.ref wf, .ref ru, .int (nI n)])), (wf, .inl (cyI, 10, .inl fw))] sz)) 0 0 (va_A [(sc, .inr (3, [.ref wf, .ref ru, .int (nI n)])), (wf, .inl (cyI, 10, .inl fw))] sz) := by
  refine Met.ofW (cc := cX4_empty) (maxL := 3) (ret := none) (by decide) rfl ?_
  intro p e s m args below meth c s₁ B hml hv
  obtain ⟨rfl, hsz, hB, hP, hD0⟩ := hv
  have hK := hB.1
  have hN := hB.2
  have hx := B.exec
  have hb := B.bytes
  have hr := B.returns
  have hts := atoms_spec (ws := wsX4_empty) B.pre
  have hown : s.vm.findClass RX4 = some m.cls := findClass_of_methodNamed B.named
  have hlocks := B.notSynchronized
  subst hsz
  have hD := hD0.self (sz := s.heap.size)
  generalize hAe : va_A [(sc, .inr (3, [.ref wf, .ref ru, .int (nI n)])), (wf, .inl (cyI, 10, .inl fw))] s.heap.size = A at hD ⊢
  have hA : ∀ q : Nat, s.heap.size ≤ q → A q := fun q h => by rw [← hAe]; exact Or.inr h
  have hS : va_S A s.heap s.heap [] := va_S.rf
  have hP : va_P (dC, dI) vwCl [(sc, .inr (3, [.ref wf, .ref ru, .int (nI n)])), (wf, .inl (cyI, 10, .inl fw))] s.heap := hP
  have hl := lv_entry ([.ref sc, .int (nI v)]) (n := 3) (Nat.le_of_ble_eq_true rfl)
  rw [lg_entry_eq]
  generalize (lg_sl ([.ref sc, .int (nI v)]) ++ List.replicate (3 - (lg_sl ([.ref sc, .int (nI v)])).length) Slot.unset).toArray = ls at hl ⊢
  have hl : lv_has ls 3 [(0, .ref sc), (1, .int (nI v))] := hl
  refine lv_aload_n hx hb dX4_empty_0 rfl (lv_at hl 0 rfl) ?_
  refine lv_iload_n hx hb dX4_empty_1 rfl (lv_at hl 1 rfl) ?_
  refine va_put (D := (dC, dI)) (ci := 3) (v := .int (nI v)) (ty := .int) (C := RX4) (T := TX4) (N := 3) hx hb hts hnX4_empty_X4 tyX4 tyX4_ok nmX4 hown hK hP hD hS 0 rfl rfl 2 (by decide) (hts (.fieldLink RX4 22 "RingMeets$Scene" "cells" "I") (by decide +kernel)) (fun _ h9 => h9) rfl (by decide +kernel) rfl rfl (Nat.le_of_ble_eq_true rfl) dX4_empty_2 (fun H locs hP hD hS => ?_)
  have hP : va_P (dC, dI) vwCl [(sc, .inr (3, [.ref wf, .ref ru, .int (nI v)])), (wf, .inl (cyI, 10, .inl fw))] _ := hP
  have hD : va_D A [(sc, .inr (3, [.ref wf, .ref ru, .int (nI v)])), (wf, .inl (cyI, 10, .inl fw))] := hD
  refine lv_iconst (v := 0) hx hb dX4_empty_5 (by decide) ?_
  refine lv_istore_n (lv' := [(2, .int 0), (0, .ref sc), (1, .int (nI v))]) hx hb dX4_empty_6 rfl hl (by decide) rfl (fun ls hl => ?_)
  have L7 : ∀ (n7 : Nat), ∀ (k : Nat) (fw : Nat → Int32), (0 ≤ k ∧ k ≤ 10) → (10 + 1 ≤ k + n7) → ∀ (H : Heap) (locs : List Loc), va_P (dC, dI) vwCl [(sc, .inr (3, [.ref wf, .ref ru, .int (nI v)])), (wf, .inl (cyI, 10, .inl fw))] H → va_D A [(sc, .inr (3, [.ref wf, .ref ru, .int (nI v)])), (wf, .inl (cyI, 10, .inl fw))] → va_S A s.heap H locs → ∀ (ls : Array Slot), lv_has ls 3 [(0, .ref sc), (2, .int (nI k))] → W p l e (headSpec wsX4_empty ({ frames := 0, cells := 0, slots := 0, locals := 0 })).room s m ([.ref sc, .int (nI v)] : List Value).toArray below meth c H locs 0 0 (MQ below (va_Qv (S := (Nat → Int32)) (fun q : (Nat → Int32) => True) (fun q t => bs_E dC dI A [(sc, .inr (3, [.ref wf, .ref ru, .int (nI v)])), (wf, .inl (cyI, 10, .inl q))] t) A) ([.ref sc, .int (nI v)] : List Value).toArray s 0 0 A) (F0 m 7 ls []) := by
    intro n7
    induction n7 with
    | zero =>
      intro k fw hk7 hn7 H locs hP hD hS ls hl
      exfalso
      omega
    | succ n7 ih7 =>
      intro k fw hk7 hn7 H locs hP hD hS ls hl
      refine lv_iload_n hx hb dX4_empty_7 rfl (lv_at hl 1 rfl) ?_
      refine lv_bipush (v := 10) hx hb dX4_empty_8 (by decide) ?_
      refine lv_icmp_ge (tgt := 26) hx hb dX4_empty_10 (by decide) (fun c_1 => ?_) (fun c_1 => ?_)
      · skip
        have ic_1 := ci_le (show Int32.toInt 10 = 10 by decide) (nI_toInt (n := k) (by omega)) c_1
        exact W.vret hx hb hr (fun t ht hW => ⟨⟨fw, rfl, trivial, ⟨by rw [ht]; exact hP.sub (ws' := [(sc, .inr (3, [.ref wf, .ref ru, .int (nI v)])), (wf, .inl (cyI, 10, .inl fw))]) [0, 1] rfl, hD.sub (ws' := [(sc, .inr (3, [.ref wf, .ref ru, .int (nI v)])), (wf, .inl (cyI, 10, .inl fw))]) [0, 1] (by decide) rfl⟩⟩, hS.F ht⟩) hS.2.2 dX4_empty_26
      · skip
        have ic_1 := ci_nle (show Int32.toInt 10 = 10 by decide) (nI_toInt (n := k) (by omega)) c_1
        refine lv_aload_n hx hb dX4_empty_13 rfl (lv_at hl 0 rfl) ?_
        refine va_get (D := (dC, dI)) (ci := 3) (v := .ref wf) (C := RX4) (T := TX4) (N := 3) hx hb hts hnX4_empty_X4 hown hK hP 0 rfl rfl 0 (by decide) (hts (.fieldLink RX4 9 "RingMeets$Scene" "walkers" "[I") (by decide +kernel)) (fun _ h9 => h9) rfl dX4_empty_14 ?_
        refine lv_iload_n hx hb dX4_empty_17 rfl (lv_at hl 1 rfl) ?_
        refine lv_iconst (v := 0) hx hb dX4_empty_18 (by decide) ?_
        refine va_iast (D := (dC, dI)) hx hb hK hP hD hS 1 0 rfl rfl (vp_in_nI (n := k) (N := 10) (by omega) (by omega)) dX4_empty_19 (fun H locs hP hD hS => ?_)
        obtain ⟨g_2, eg_2⟩ : ∃ y : Nat → Int32, y = upd fw (Int32.toNatClampNeg (nI k)) 0 := ⟨_, rfl⟩
        have hP : va_P (dC, dI) vwCl [(sc, .inr (3, [.ref wf, .ref ru, .int (nI v)])), (wf, .inl (cyI, 10, .inl g_2))] H := by rw [eg_2]; exact hP
        have hD : va_D A [(sc, .inr (3, [.ref wf, .ref ru, .int (nI v)])), (wf, .inl (cyI, 10, .inl g_2))] := by rw [eg_2]; exact hD
        rw [nI_clamp (n := k) (by omega)] at eg_2
        refine lv_iinc (v := (nI (k + 1))) (lv' := [(2, .int (nI (k + 1))), (0, .ref sc)]) hx hb dX4_empty_20 hl (k := 1) rfl (nI_1 _) (by decide) rfl (fun ls hl => ?_)
        refine lv_goto (tgt := 7) hx hb dX4_empty_23 (by decide) ?_
        exact ih7 (k + 1) g_2 ⟨by omega, by omega⟩ (by omega)  _ _ (hP.sub [0, 1] rfl) (hD.sub [0, 1] (by decide) rfl) hS _ (lv_sub hl [1, 0] rfl)
  exact L7 (10 + 1) 0 fw ⟨by omega, by omega⟩ (by omega)  _ _ (hP.sub [0, 1] rfl) (hD.sub [0, 1] (by decide) rfl) hS _ (lv_sub hl [1, 0] rfl)

theorem hnX4_walkersInAll_X4 : ∀ w ∈ wsX40, w ∈ wsX4_walkersInAll := fun _ h => List.mem_cons_of_mem _ (List.mem_append_right _ h)
set_option maxHeartbeats 4000000 in
set_option maxRecDepth 100000 in
theorem mX4_walkersInAll (l : Launch) (dC : Nat → ClassId) (dI : Nat → Nat → Nat) (cyI cyZ : ClassId) (sc : Nat) (wf : Nat) (ru : Nat) (n : Nat) (fw : Nat → Int32) (hn : n ≤ 10) : Met l yX4_walkersInAll wsX4_walkersInAll ({ frames := 2, cells := 0, slots := 0, locals := 42 }) (bs_R dC dI cyI cyZ [.ref sc] [(sc, .inr (3, [.ref wf, .ref ru, .int (nI n)])), (wf, .inl (cyI, 10, .inl fw))]) (vp_Si (fun r : Int32 => True)) 0 0 (fun _ => False) := by
  refine Met.ofW (cc := cX4_walkersInAll) (maxL := 3) (ret := (some .int)) (by decide) rfl ?_
  intro p e s m args below meth c s₁ B hml hv
  obtain ⟨rfl, hB, hP⟩ := hv
  have hK := hB.1
  have hN := hB.2
  have hx := B.exec
  have hb := B.bytes
  have hr := B.returns
  have hts := atoms_spec (ws := wsX4_walkersInAll) B.pre
  have hown : s.vm.findClass RX4 = some m.cls := findClass_of_methodNamed B.named
  have hlocks := B.notSynchronized
  have hP : va_P (dC, dI) vwCl [(sc, .inr (3, [.ref wf, .ref ru, .int (nI n)])), (wf, .inl (cyI, 10, .inl fw))] s.heap := hP
  have hl := lv_entry ([.ref sc]) (n := 3) (Nat.le_of_ble_eq_true rfl)
  rw [lg_entry_eq]
  generalize (lg_sl ([.ref sc]) ++ List.replicate (3 - (lg_sl ([.ref sc])).length) Slot.unset).toArray = ls at hl ⊢
  have hl : lv_has ls 3 [(0, .ref sc)] := hl
  refine lv_iconst (v := 0) hx hb dX4_walkersInAll_0 (by decide) ?_
  refine lv_istore_n (lv' := [(1, .int 0), (0, .ref sc)]) hx hb dX4_walkersInAll_1 rfl hl (by decide) rfl (fun ls hl => ?_)
  refine lv_iconst (v := 0) hx hb dX4_walkersInAll_2 (by decide) ?_
  refine lv_istore_n (lv' := [(2, .int 0), (1, .int 0), (0, .ref sc)]) hx hb dX4_walkersInAll_3 rfl hl (by decide) rfl (fun ls hl => ?_)
  have L4 : ∀ (n4 : Nat), ∀ (k : Nat) (ya : Int32), (0 ≤ k ∧ k ≤ n) → (n + 1 ≤ k + n4) → ∀ (ls : Array Slot), lv_has ls 3 [(0, .ref sc), (1, .int ya), (2, .int (nI k))] → W p l e (headSpec wsX4_walkersInAll ({ frames := 2, cells := 0, slots := 0, locals := 42 })).room s m ([.ref sc] : List Value).toArray below meth c s.heap [] 0 0 (MQ below (vp_Si (fun r : Int32 => True)) ([.ref sc] : List Value).toArray s 0 0 (fun _ => False)) (F0 m 4 ls []) := by
    intro n4
    induction n4 with
    | zero =>
      intro k ya hk4 hn4 ls hl
      exfalso
      omega
    | succ n4 ih4 =>
      intro k ya hk4 hn4 ls hl
      refine lv_iload_n hx hb dX4_walkersInAll_4 rfl (lv_at hl 2 rfl) ?_
      refine lv_aload_n hx hb dX4_walkersInAll_5 rfl (lv_at hl 0 rfl) ?_
      refine va_get (D := (dC, dI)) (ci := 3) (v := .int (nI n)) (C := RX4) (T := TX4) (N := 3) hx hb hts hnX4_walkersInAll_X4 hown hK hP 0 rfl rfl 2 (by decide) (hts (.fieldLink RX4 22 "RingMeets$Scene" "cells" "I") (by decide +kernel)) (fun _ h9 => h9) rfl dX4_walkersInAll_6 ?_
      refine lv_icmp_ge (tgt := 26) hx hb dX4_walkersInAll_9 (by decide) (fun c_1 => ?_) (fun c_1 => ?_)
      · skip
        have ic_1 := ci_le (nI_toInt (n := n) (by omega)) (nI_toInt (n := k) (by omega)) c_1
        refine lv_iload_n hx hb dX4_walkersInAll_26 rfl (lv_at hl 1 rfl) ?_
        exact W.iret (v := ya) hx hb hr (fun t ht hW => ⟨ya, rfl, trivial, ht⟩) (fun q h => by cases h) dX4_walkersInAll_27
      · skip
        have ic_1 := ci_nle (nI_toInt (n := n) (by omega)) (nI_toInt (n := k) (by omega)) c_1
        refine lv_iload_n hx hb dX4_walkersInAll_12 rfl (lv_at hl 1 rfl) ?_
        refine lv_aload_n hx hb dX4_walkersInAll_13 rfl (lv_at hl 0 rfl) ?_
        refine lv_iload_n hx hb dX4_walkersInAll_14 rfl (lv_at hl 2 rfl) ?_
        refine vp_callSi (va_Run.run (va_runV (As := [.int (nI k)]) (rest := [.int ya]) ⟨hx, hb, hml, hown, hts⟩ (mX4_walkersOn l dC dI cyI cyZ sc wf ru n fw (nI k) (by omega)) (cwV 1 hts gX4_walkersInAll_X4_walkersOn rfl rfl rfl (by decide +kernel) ⟨Nat.le_of_ble_eq_true rfl, Nat.le_of_ble_eq_true rfl⟩) (bs_RV hB (hP.sub (ws' := [(sc, .inr (3, [.ref wf, .ref ru, .int (nI n)])), (wf, .inl (cyI, 10, .inl fw))]) [0, 1] rfl) 0 rfl rfl) rfl rfl hl.1 rfl (lv_room (Nat.le_of_ble_eq_true rfl)) dX4_walkersInAll_15 ⟨Nat.le_of_ble_eq_true rfl, Nat.le_of_ble_eq_true rfl⟩)) (fun r_2 hr_2 => ?_)
        refine lv_iadd hx hb dX4_walkersInAll_18 ?_
        refine lv_topi (fun x_3 ex_3 => ?_)
        refine lv_istore_n (lv' := [(1, .int x_3), (0, .ref sc), (2, .int (nI k))]) hx hb dX4_walkersInAll_19 rfl hl (by decide) rfl (fun ls hl => ?_)
        refine lv_iinc (v := (nI (k + 1))) (lv' := [(2, .int (nI (k + 1))), (1, .int x_3), (0, .ref sc)]) hx hb dX4_walkersInAll_20 hl (k := 2) rfl (nI_1 _) (by decide) rfl (fun ls hl => ?_)
        refine lv_goto (tgt := 4) hx hb dX4_walkersInAll_23 (by decide) ?_
        exact ih4 (k + 1) x_3 ⟨by omega, by omega⟩ (by omega)  _ (lv_sub hl [2, 1, 0] rfl)
  exact L4 (n + 1) 0 0 ⟨by omega, by omega⟩ (by omega)  _ (lv_sub hl [2, 1, 0] rfl)

theorem hnX4_cellsWithAtLeast_X4 : ∀ w ∈ wsX40, w ∈ wsX4_cellsWithAtLeast := fun _ h => List.mem_cons_of_mem _ (List.mem_append_right _ h)
set_option maxHeartbeats 4000000 in
set_option maxRecDepth 100000 in
theorem mX4_cellsWithAtLeast (l : Launch) (dC : Nat → ClassId) (dI : Nat → Nat → Nat) (cyI cyZ : ClassId) (sc : Nat) (wf : Nat) (ru : Nat) (n : Nat) (fw : Nat → Int32) (p1 : Int32) (hn : n ≤ 10) : Met l yX4_cellsWithAtLeast wsX4_cellsWithAtLeast ({ frames := 2, cells := 0, slots := 0, locals := 42 }) (bs_R dC dI cyI cyZ [.ref sc, .int p1] [(sc, .inr (3, [.ref wf, .ref ru, .int (nI n)])), (wf, .inl (cyI, 10, .inl fw))]) (vp_Si (fun r : Int32 => True)) 0 0 (fun _ => False) := by
  refine Met.ofW (cc := cX4_cellsWithAtLeast) (maxL := 4) (ret := (some .int)) (by decide) rfl ?_
  intro p e s m args below meth c s₁ B hml hv
  obtain ⟨rfl, hB, hP⟩ := hv
  have hK := hB.1
  have hN := hB.2
  have hx := B.exec
  have hb := B.bytes
  have hr := B.returns
  have hts := atoms_spec (ws := wsX4_cellsWithAtLeast) B.pre
  have hown : s.vm.findClass RX4 = some m.cls := findClass_of_methodNamed B.named
  have hlocks := B.notSynchronized
  have hP : va_P (dC, dI) vwCl [(sc, .inr (3, [.ref wf, .ref ru, .int (nI n)])), (wf, .inl (cyI, 10, .inl fw))] s.heap := hP
  have hl := lv_entry ([.ref sc, .int p1]) (n := 4) (Nat.le_of_ble_eq_true rfl)
  rw [lg_entry_eq]
  generalize (lg_sl ([.ref sc, .int p1]) ++ List.replicate (4 - (lg_sl ([.ref sc, .int p1])).length) Slot.unset).toArray = ls at hl ⊢
  have hl : lv_has ls 4 [(0, .ref sc), (1, .int p1)] := hl
  refine lv_iconst (v := 0) hx hb dX4_cellsWithAtLeast_0 (by decide) ?_
  refine lv_istore_n (lv' := [(2, .int 0), (0, .ref sc), (1, .int p1)]) hx hb dX4_cellsWithAtLeast_1 rfl hl (by decide) rfl (fun ls hl => ?_)
  refine lv_iconst (v := 0) hx hb dX4_cellsWithAtLeast_2 (by decide) ?_
  refine lv_istore_n (lv' := [(3, .int 0), (2, .int 0), (0, .ref sc), (1, .int p1)]) hx hb dX4_cellsWithAtLeast_3 rfl hl (by decide) rfl (fun ls hl => ?_)
  have L4 : ∀ (n4 : Nat), ∀ (k : Nat) (ya : Int32), (0 ≤ k ∧ k ≤ n) → (n + 1 ≤ k + n4) → ∀ (ls : Array Slot), lv_has ls 4 [(0, .ref sc), (1, .int p1), (2, .int ya), (3, .int (nI k))] → W p l e (headSpec wsX4_cellsWithAtLeast ({ frames := 2, cells := 0, slots := 0, locals := 42 })).room s m ([.ref sc, .int p1] : List Value).toArray below meth c s.heap [] 0 0 (MQ below (vp_Si (fun r : Int32 => True)) ([.ref sc, .int p1] : List Value).toArray s 0 0 (fun _ => False)) (F0 m 4 ls []) := by
    intro n4
    induction n4 with
    | zero =>
      intro k ya hk4 hn4 ls hl
      exfalso
      omega
    | succ n4 ih4 =>
      intro k ya hk4 hn4 ls hl
      refine lv_iload_n hx hb dX4_cellsWithAtLeast_4 rfl (lv_at hl 3 rfl) ?_
      refine lv_aload_n hx hb dX4_cellsWithAtLeast_5 rfl (lv_at hl 0 rfl) ?_
      refine va_get (D := (dC, dI)) (ci := 3) (v := .int (nI n)) (C := RX4) (T := TX4) (N := 3) hx hb hts hnX4_cellsWithAtLeast_X4 hown hK hP 0 rfl rfl 2 (by decide) (hts (.fieldLink RX4 22 "RingMeets$Scene" "cells" "I") (by decide +kernel)) (fun _ h9 => h9) rfl dX4_cellsWithAtLeast_6 ?_
      refine lv_icmp_ge (tgt := 33) hx hb dX4_cellsWithAtLeast_9 (by decide) (fun c_1 => ?_) (fun c_1 => ?_)
      · skip
        have ic_1 := ci_le (nI_toInt (n := n) (by omega)) (nI_toInt (n := k) (by omega)) c_1
        refine lv_iload_n hx hb dX4_cellsWithAtLeast_33 rfl (lv_at hl 2 rfl) ?_
        exact W.iret (v := ya) hx hb hr (fun t ht hW => ⟨ya, rfl, trivial, ht⟩) (fun q h => by cases h) dX4_cellsWithAtLeast_34
      · skip
        have ic_1 := ci_nle (nI_toInt (n := n) (by omega)) (nI_toInt (n := k) (by omega)) c_1
        refine lv_aload_n hx hb dX4_cellsWithAtLeast_12 rfl (lv_at hl 0 rfl) ?_
        refine lv_iload_n hx hb dX4_cellsWithAtLeast_13 rfl (lv_at hl 3 rfl) ?_
        refine vp_callSi (va_Run.run (va_runV (As := [.int (nI k)]) (rest := []) ⟨hx, hb, hml, hown, hts⟩ (mX4_walkersOn l dC dI cyI cyZ sc wf ru n fw (nI k) (by omega)) (cwV 1 hts gX4_cellsWithAtLeast_X4_walkersOn rfl rfl rfl (by decide +kernel) ⟨Nat.le_of_ble_eq_true rfl, Nat.le_of_ble_eq_true rfl⟩) (bs_RV hB (hP.sub (ws' := [(sc, .inr (3, [.ref wf, .ref ru, .int (nI n)])), (wf, .inl (cyI, 10, .inl fw))]) [0, 1] rfl) 0 rfl rfl) rfl rfl hl.1 rfl (lv_room (Nat.le_of_ble_eq_true rfl)) dX4_cellsWithAtLeast_14 ⟨Nat.le_of_ble_eq_true rfl, Nat.le_of_ble_eq_true rfl⟩)) (fun r_2 hr_2 => ?_)
        refine lv_iload_n hx hb dX4_cellsWithAtLeast_17 rfl (lv_at hl 1 rfl) ?_
        refine lv_icmp_lt (tgt := 27) hx hb dX4_cellsWithAtLeast_18 (by decide) (fun c_3 => ?_) (fun c_3 => ?_)
        · skip
          have ic_3 := ci_lt (rfl : Int32.toInt r_2 = _) (rfl : Int32.toInt p1 = _) c_3
          refine lv_iinc (v := (nI (k + 1))) (lv' := [(3, .int (nI (k + 1))), (0, .ref sc), (1, .int p1), (2, .int ya)]) hx hb dX4_cellsWithAtLeast_27 hl (k := 3) rfl (nI_1 _) (by decide) rfl (fun ls hl => ?_)
          refine lv_goto (tgt := 4) hx hb dX4_cellsWithAtLeast_30 (by decide) ?_
          exact ih4 (k + 1) ya ⟨by omega, by omega⟩ (by omega)  _ (lv_sub hl [1, 2, 3, 0] rfl)
        · skip
          have ic_3 := ci_nlt (rfl : Int32.toInt r_2 = _) (rfl : Int32.toInt p1 = _) c_3
          refine lv_iload_n hx hb dX4_cellsWithAtLeast_21 rfl (lv_at hl 2 rfl) ?_
          refine lv_iconst (v := 1) hx hb dX4_cellsWithAtLeast_22 (by decide) ?_
          refine lv_iload_n hx hb dX4_cellsWithAtLeast_23 rfl (lv_at hl 3 rfl) ?_
          refine lv_ishl hx hb dX4_cellsWithAtLeast_24 ?_
          refine lv_topi (fun x_4 ex_4 => ?_)
          refine lv_ior hx hb dX4_cellsWithAtLeast_25 ?_
          refine lv_topi (fun x_5 ex_5 => ?_)
          refine lv_istore_n (lv' := [(2, .int x_5), (0, .ref sc), (1, .int p1), (3, .int (nI k))]) hx hb dX4_cellsWithAtLeast_26 rfl hl (by decide) rfl (fun ls hl => ?_)
          refine lv_iinc (v := (nI (k + 1))) (lv' := [(3, .int (nI (k + 1))), (2, .int x_5), (0, .ref sc), (1, .int p1)]) hx hb dX4_cellsWithAtLeast_27 hl (k := 3) rfl (nI_1 _) (by decide) rfl (fun ls hl => ?_)
          refine lv_goto (tgt := 4) hx hb dX4_cellsWithAtLeast_30 (by decide) ?_
          exact ih4 (k + 1) x_5 ⟨by omega, by omega⟩ (by omega)  _ (lv_sub hl [2, 3, 1, 0] rfl)
  exact L4 (n + 1) 0 0 ⟨by omega, by omega⟩ (by omega)  _ (lv_sub hl [2, 3, 1, 0] rfl)

set_option maxHeartbeats 4000000 in
set_option maxRecDepth 100000 in
theorem mX4_stands (l : Launch) (dC : Nat → ClassId) (dI : Nat → Nat → Nat) (cyI cyZ : ClassId) (sc : Nat) (wf : Nat) (ru : Nat) (n : Nat) (fw : Nat → Int32) (hn : n ≤ 10) : Met l yX4_stands wsX4_stands ({ frames := 3, cells := 0, slots := 0, locals := 65 }) (bs_R dC dI cyI cyZ [.ref sc] [(sc, .inr (3, [.ref wf, .ref ru, .int (nI n)])), (wf, .inl (cyI, 10, .inl fw))]) (vp_Si (fun r : Int32 => True)) 0 0 (fun _ => False) := by
  refine Met.ofW (cc := cX4_stands) (maxL := 1) (ret := (some .int)) (by decide) rfl ?_
  intro p e s m args below meth c s₁ B hml hv
  obtain ⟨rfl, hB, hP⟩ := hv
  have hK := hB.1
  have hN := hB.2
  have hx := B.exec
  have hb := B.bytes
  have hr := B.returns
  have hts := atoms_spec (ws := wsX4_stands) B.pre
  have hown : s.vm.findClass RX4 = some m.cls := findClass_of_methodNamed B.named
  have hlocks := B.notSynchronized
  have hP : va_P (dC, dI) vwCl [(sc, .inr (3, [.ref wf, .ref ru, .int (nI n)])), (wf, .inl (cyI, 10, .inl fw))] s.heap := hP
  have hl := lv_entry ([.ref sc]) (n := 1) (Nat.le_of_ble_eq_true rfl)
  rw [lg_entry_eq]
  generalize (lg_sl ([.ref sc]) ++ List.replicate (1 - (lg_sl ([.ref sc])).length) Slot.unset).toArray = ls at hl ⊢
  have hl : lv_has ls 1 [(0, .ref sc)] := hl
  refine lv_aload_n hx hb dX4_stands_0 rfl (lv_at hl 0 rfl) ?_
  refine lv_iconst (v := 1) hx hb dX4_stands_1 (by decide) ?_
  refine vp_callSi (va_Run.run (va_runV (As := [.int 1]) (rest := []) ⟨hx, hb, hml, hown, hts⟩ (mX4_cellsWithAtLeast l dC dI cyI cyZ sc wf ru n fw 1 (by omega)) (cwV 1 hts gX4_stands_X4_cellsWithAtLeast rfl rfl rfl (by decide +kernel) ⟨Nat.le_of_ble_eq_true rfl, Nat.le_of_ble_eq_true rfl⟩) (bs_RV hB (hP.sub (ws' := [(sc, .inr (3, [.ref wf, .ref ru, .int (nI n)])), (wf, .inl (cyI, 10, .inl fw))]) [0, 1] rfl) 0 rfl rfl) rfl rfl hl.1 rfl (lv_room (Nat.le_of_ble_eq_true rfl)) dX4_stands_2 ⟨Nat.le_of_ble_eq_true rfl, Nat.le_of_ble_eq_true rfl⟩)) (fun r_1 hr_1 => ?_)
  exact W.iret (v := r_1) hx hb hr (fun t ht hW => ⟨r_1, rfl, trivial, ht⟩) (fun q h => by cases h) dX4_stands_5

set_option maxHeartbeats 4000000 in
set_option maxRecDepth 100000 in
theorem mX4_towers (l : Launch) (dC : Nat → ClassId) (dI : Nat → Nat → Nat) (cyI cyZ : ClassId) (sc : Nat) (wf : Nat) (ru : Nat) (n : Nat) (fw : Nat → Int32) (hn : n ≤ 10) : Met l yX4_towers wsX4_towers ({ frames := 3, cells := 0, slots := 0, locals := 65 }) (bs_R dC dI cyI cyZ [.ref sc] [(sc, .inr (3, [.ref wf, .ref ru, .int (nI n)])), (wf, .inl (cyI, 10, .inl fw))]) (vp_Si (fun r : Int32 => True)) 0 0 (fun _ => False) := by
  refine Met.ofW (cc := cX4_towers) (maxL := 1) (ret := (some .int)) (by decide) rfl ?_
  intro p e s m args below meth c s₁ B hml hv
  obtain ⟨rfl, hB, hP⟩ := hv
  have hK := hB.1
  have hN := hB.2
  have hx := B.exec
  have hb := B.bytes
  have hr := B.returns
  have hts := atoms_spec (ws := wsX4_towers) B.pre
  have hown : s.vm.findClass RX4 = some m.cls := findClass_of_methodNamed B.named
  have hlocks := B.notSynchronized
  have hP : va_P (dC, dI) vwCl [(sc, .inr (3, [.ref wf, .ref ru, .int (nI n)])), (wf, .inl (cyI, 10, .inl fw))] s.heap := hP
  have hl := lv_entry ([.ref sc]) (n := 1) (Nat.le_of_ble_eq_true rfl)
  rw [lg_entry_eq]
  generalize (lg_sl ([.ref sc]) ++ List.replicate (1 - (lg_sl ([.ref sc])).length) Slot.unset).toArray = ls at hl ⊢
  have hl : lv_has ls 1 [(0, .ref sc)] := hl
  refine lv_aload_n hx hb dX4_towers_0 rfl (lv_at hl 0 rfl) ?_
  refine lv_iconst (v := 2) hx hb dX4_towers_1 (by decide) ?_
  refine vp_callSi (va_Run.run (va_runV (As := [.int 2]) (rest := []) ⟨hx, hb, hml, hown, hts⟩ (mX4_cellsWithAtLeast l dC dI cyI cyZ sc wf ru n fw 2 (by omega)) (cwV 1 hts gX4_towers_X4_cellsWithAtLeast rfl rfl rfl (by decide +kernel) ⟨Nat.le_of_ble_eq_true rfl, Nat.le_of_ble_eq_true rfl⟩) (bs_RV hB (hP.sub (ws' := [(sc, .inr (3, [.ref wf, .ref ru, .int (nI n)])), (wf, .inl (cyI, 10, .inl fw))]) [0, 1] rfl) 0 rfl rfl) rfl rfl hl.1 rfl (lv_room (Nat.le_of_ble_eq_true rfl)) dX4_towers_2 ⟨Nat.le_of_ble_eq_true rfl, Nat.le_of_ble_eq_true rfl⟩)) (fun r_1 hr_1 => ?_)
  exact W.iret (v := r_1) hx hb hr (fun t ht hW => ⟨r_1, rfl, trivial, ht⟩) (fun q h => by cases h) dX4_towers_5

theorem hnX4_copyFrom_X4 : ∀ w ∈ wsX40, w ∈ wsX4_copyFrom := fun _ h => List.mem_cons_of_mem _ (List.mem_append_left _ (List.mem_append_right _ h))
set_option maxHeartbeats 4000000 in
set_option maxRecDepth 100000 in
theorem mX4_copyFrom (l : Launch) (dC : Nat → ClassId) (dI : Nat → Nat → Nat) (cyI cyZ : ClassId) (sc : Nat) (wf : Nat) (ru : Nat) (rt : Nat) (qc : Nat) (qf : Nat) (qu : Nat) (qt : Nat) (n : Nat) (nq : Nat) (zz : Nat) (yy : Nat) (fw : Nat → Int32) (gw : Nat → Int32) (tg : Nat → Int32) (ug : Nat → Int32)  (sz : Nat) : Met l yX4_copyFrom wsX4_copyFrom ({ frames := 1, cells := 0, slots := 0, locals := 22 }) (bs_W dC dI cyI cyZ [.ref sc, .ref qc] [(sc, .inr (3, [.ref wf, .ref ru, .int (nI n)])), (wf, .inl (cyI, 10, .inl fw)), (ru, .inr (2, [.ref rt, .int (nI zz)])), (rt, .inl (cyI, 60, .inl tg)), (qc, .inr (3, [.ref qf, .ref qu, .int (nI nq)])), (qf, .inl (cyI, 10, .inl gw)), (qu, .inr (2, [.ref qt, .int (nI yy)])), (qt, .inl (cyI, 60, .inl ug))] sz) (va_Qv (S := (Nat → Int32) × (Nat → Int32)) (fun q : (Nat → Int32) × (Nat → Int32) => ∀ i, i < 60 → q.2 i = ug i) (fun q t => bs_E dC dI (va_A [(sc, .inr (3, [.ref wf, .ref ru, .int (nI n)])), (wf, .inl (cyI, 10, .inl fw)), (ru, .inr (2, [.ref rt, .int (nI zz)])), (rt, .inl (cyI, 60, .inl tg)), (qc, .inr (3, [.ref qf, .ref qu, .int (nI nq)])), (qf, .inl (cyI, 10, .inl gw)), (qu, .inr (2, [.ref qt, .int (nI yy)])), (qt, .inl (cyI, 60, .inl ug))] sz) [(sc, .inr (3, [.ref wf, .ref ru, .int (nI nq)])), (wf, .inl (cyI, 10, .inl q.1)), (ru, .inr (2, [.ref rt, .int (nI yy)])), (rt, .inl (cyI, 60, .inl q.2)), (qc, .inr (3, [.ref qf, .ref qu, .int (nI nq)])), (qf, .inl (cyI, 10, .inl gw)), (qu, .inr (2, [.ref qt, .int (nI yy)])), (qt, .inl (cyI, 60, .inl ug))] t) (va_A [(sc, .inr (3, [.ref wf, .ref ru, .int (nI n)])), (wf, .inl (cyI, 10, .inl fw)), (ru, .inr (2, [.ref rt, .int (nI zz)])), (rt, .inl (cyI, 60, .inl tg)), (qc, .inr (3, [.ref qf, .ref qu, .int (nI nq)])), (qf, .inl (cyI, 10, .inl gw)), (qu, .inr (2, [.ref qt, .int (nI yy)])), (qt, .inl (cyI, 60, .inl ug))] sz)) 0 0 (va_A [(sc, .inr (3, [.ref wf, .ref ru, .int (nI n)])), (wf, .inl (cyI, 10, .inl fw)), (ru, .inr (2, [.ref rt, .int (nI zz)])), (rt, .inl (cyI, 60, .inl tg)), (qc, .inr (3, [.ref qf, .ref qu, .int (nI nq)])), (qf, .inl (cyI, 10, .inl gw)), (qu, .inr (2, [.ref qt, .int (nI yy)])), (qt, .inl (cyI, 60, .inl ug))] sz) := by
  refine Met.ofW (cc := cX4_copyFrom) (maxL := 3) (ret := none) (by decide) rfl ?_
  intro p e s m args below meth c s₁ B hml hv
  obtain ⟨rfl, hsz, hB, hP, hD0⟩ := hv
  have hK := hB.1
  have hN := hB.2
  have hx := B.exec
  have hb := B.bytes
  have hr := B.returns
  have hts := atoms_spec (ws := wsX4_copyFrom) B.pre
  have hown : s.vm.findClass RX4 = some m.cls := findClass_of_methodNamed B.named
  have hlocks := B.notSynchronized
  subst hsz
  have hD := hD0.self (sz := s.heap.size)
  generalize hAe : va_A [(sc, .inr (3, [.ref wf, .ref ru, .int (nI n)])), (wf, .inl (cyI, 10, .inl fw)), (ru, .inr (2, [.ref rt, .int (nI zz)])), (rt, .inl (cyI, 60, .inl tg)), (qc, .inr (3, [.ref qf, .ref qu, .int (nI nq)])), (qf, .inl (cyI, 10, .inl gw)), (qu, .inr (2, [.ref qt, .int (nI yy)])), (qt, .inl (cyI, 60, .inl ug))] s.heap.size = A at hD ⊢
  have hA : ∀ q : Nat, s.heap.size ≤ q → A q := fun q h => by rw [← hAe]; exact Or.inr h
  have hS : va_S A s.heap s.heap [] := va_S.rf
  have hP : va_P (dC, dI) vwCl [(sc, .inr (3, [.ref wf, .ref ru, .int (nI n)])), (wf, .inl (cyI, 10, .inl fw)), (ru, .inr (2, [.ref rt, .int (nI zz)])), (rt, .inl (cyI, 60, .inl tg)), (qc, .inr (3, [.ref qf, .ref qu, .int (nI nq)])), (qf, .inl (cyI, 10, .inl gw)), (qu, .inr (2, [.ref qt, .int (nI yy)])), (qt, .inl (cyI, 60, .inl ug))] s.heap := hP
  have hl := lv_entry ([.ref sc, .ref qc]) (n := 3) (Nat.le_of_ble_eq_true rfl)
  rw [lg_entry_eq]
  generalize (lg_sl ([.ref sc, .ref qc]) ++ List.replicate (3 - (lg_sl ([.ref sc, .ref qc])).length) Slot.unset).toArray = ls at hl ⊢
  have hl : lv_has ls 3 [(0, .ref sc), (1, .ref qc)] := hl
  refine lv_aload_n hx hb dX4_copyFrom_0 rfl (lv_at hl 0 rfl) ?_
  refine lv_aload_n hx hb dX4_copyFrom_1 rfl (lv_at hl 1 rfl) ?_
  refine va_get (D := (dC, dI)) (ci := 3) (v := .int (nI nq)) (C := RX4) (T := TX4) (N := 3) hx hb hts hnX4_copyFrom_X4 hown hK hP 4 rfl rfl 2 (by decide) (hts (.fieldLink RX4 22 "RingMeets$Scene" "cells" "I") (by decide +kernel)) (fun _ h9 => h9) rfl dX4_copyFrom_2 ?_
  refine va_put (D := (dC, dI)) (ci := 3) (v := .int (nI nq)) (ty := .int) (C := RX4) (T := TX4) (N := 3) hx hb hts hnX4_copyFrom_X4 tyX4 tyX4_ok nmX4 hown hK hP hD hS 0 rfl rfl 2 (by decide) (hts (.fieldLink RX4 22 "RingMeets$Scene" "cells" "I") (by decide +kernel)) (fun _ h9 => h9) rfl (by decide +kernel) rfl rfl (Nat.le_of_ble_eq_true rfl) dX4_copyFrom_5 (fun H locs hP hD hS => ?_)
  have hP : va_P (dC, dI) vwCl [(sc, .inr (3, [.ref wf, .ref ru, .int (nI nq)])), (wf, .inl (cyI, 10, .inl fw)), (ru, .inr (2, [.ref rt, .int (nI zz)])), (rt, .inl (cyI, 60, .inl tg)), (qc, .inr (3, [.ref qf, .ref qu, .int (nI nq)])), (qf, .inl (cyI, 10, .inl gw)), (qu, .inr (2, [.ref qt, .int (nI yy)])), (qt, .inl (cyI, 60, .inl ug))] _ := hP
  have hD : va_D A [(sc, .inr (3, [.ref wf, .ref ru, .int (nI nq)])), (wf, .inl (cyI, 10, .inl fw)), (ru, .inr (2, [.ref rt, .int (nI zz)])), (rt, .inl (cyI, 60, .inl tg)), (qc, .inr (3, [.ref qf, .ref qu, .int (nI nq)])), (qf, .inl (cyI, 10, .inl gw)), (qu, .inr (2, [.ref qt, .int (nI yy)])), (qt, .inl (cyI, 60, .inl ug))] := hD
  refine lv_iconst (v := 0) hx hb dX4_copyFrom_8 (by decide) ?_
  refine lv_istore_n (lv' := [(2, .int 0), (0, .ref sc), (1, .ref qc)]) hx hb dX4_copyFrom_9 rfl hl (by decide) rfl (fun ls hl => ?_)
  have L10 : ∀ (n10 : Nat), ∀ (k : Nat) (fw : Nat → Int32), (0 ≤ k ∧ k ≤ 10) → (10 + 1 ≤ k + n10) → ∀ (H : Heap) (locs : List Loc), va_P (dC, dI) vwCl [(sc, .inr (3, [.ref wf, .ref ru, .int (nI nq)])), (wf, .inl (cyI, 10, .inl fw)), (ru, .inr (2, [.ref rt, .int (nI zz)])), (rt, .inl (cyI, 60, .inl tg)), (qc, .inr (3, [.ref qf, .ref qu, .int (nI nq)])), (qf, .inl (cyI, 10, .inl gw)), (qu, .inr (2, [.ref qt, .int (nI yy)])), (qt, .inl (cyI, 60, .inl ug))] H → va_D A [(sc, .inr (3, [.ref wf, .ref ru, .int (nI nq)])), (wf, .inl (cyI, 10, .inl fw)), (ru, .inr (2, [.ref rt, .int (nI zz)])), (rt, .inl (cyI, 60, .inl tg)), (qc, .inr (3, [.ref qf, .ref qu, .int (nI nq)])), (qf, .inl (cyI, 10, .inl gw)), (qu, .inr (2, [.ref qt, .int (nI yy)])), (qt, .inl (cyI, 60, .inl ug))] → va_S A s.heap H locs → ∀ (ls : Array Slot), lv_has ls 3 [(0, .ref sc), (1, .ref qc), (2, .int (nI k))] → W p l e (headSpec wsX4_copyFrom ({ frames := 1, cells := 0, slots := 0, locals := 22 })).room s m ([.ref sc, .ref qc] : List Value).toArray below meth c H locs 0 0 (MQ below (va_Qv (S := (Nat → Int32) × (Nat → Int32)) (fun q : (Nat → Int32) × (Nat → Int32) => ∀ i, i < 60 → q.2 i = ug i) (fun q t => bs_E dC dI A [(sc, .inr (3, [.ref wf, .ref ru, .int (nI nq)])), (wf, .inl (cyI, 10, .inl q.1)), (ru, .inr (2, [.ref rt, .int (nI yy)])), (rt, .inl (cyI, 60, .inl q.2)), (qc, .inr (3, [.ref qf, .ref qu, .int (nI nq)])), (qf, .inl (cyI, 10, .inl gw)), (qu, .inr (2, [.ref qt, .int (nI yy)])), (qt, .inl (cyI, 60, .inl ug))] t) A) ([.ref sc, .ref qc] : List Value).toArray s 0 0 A) (F0 m 10 ls []) := by
    intro n10
    induction n10 with
    | zero =>
      intro k fw hk10 hn10 H locs hP hD hS ls hl
      exfalso
      omega
    | succ n10 ih10 =>
      intro k fw hk10 hn10 H locs hP hD hS ls hl
      refine lv_iload_n hx hb dX4_copyFrom_10 rfl (lv_at hl 2 rfl) ?_
      refine lv_bipush (v := 10) hx hb dX4_copyFrom_11 (by decide) ?_
      refine lv_icmp_ge (tgt := 34) hx hb dX4_copyFrom_13 (by decide) (fun c_1 => ?_) (fun c_1 => ?_)
      · skip
        have ic_1 := ci_le (show Int32.toInt 10 = 10 by decide) (nI_toInt (n := k) (by omega)) c_1
        refine lv_aload_n hx hb dX4_copyFrom_34 rfl (lv_at hl 0 rfl) ?_
        refine va_get (D := (dC, dI)) (ci := 3) (v := .ref ru) (C := RX4) (T := TX4) (N := 3) hx hb hts hnX4_copyFrom_X4 hown hK hP 0 rfl rfl 1 (by decide) (hts (.fieldLink RX4 18 "RingMeets$Scene" "rules" "LRingMeets$Rules;") (by decide +kernel)) (fun _ h9 => h9) rfl dX4_copyFrom_35 ?_
        refine lv_aload_n hx hb dX4_copyFrom_38 rfl (lv_at hl 1 rfl) ?_
        refine va_get (D := (dC, dI)) (ci := 3) (v := .ref qu) (C := RX4) (T := TX4) (N := 3) hx hb hts hnX4_copyFrom_X4 hown hK hP 4 rfl rfl 1 (by decide) (hts (.fieldLink RX4 18 "RingMeets$Scene" "rules" "LRingMeets$Rules;") (by decide +kernel)) (fun _ h9 => h9) rfl dX4_copyFrom_39 ?_
        have f_2 := va_free (wc := [(ru, .inr (2, [.ref rt, .int (nI zz)])), (rt, .inl (cyI, 60, .inl tg)), (qu, .inr (2, [.ref qt, .int (nI yy)])), (qt, .inl (cyI, 60, .inl ug))]) hD hS hA [2, 3, 6, 7] rfl
        refine va_callv (va_runV (As := [.ref qu]) (rest := []) ⟨hx, hb, hml, hown, hts⟩ (mX3_copyFrom l dC dI cyI cyZ ru rt qu qt zz yy tg ug  _) (cwV 1 hts gX4_copyFrom_X3_copyFrom rfl rfl rfl (by decide +kernel) ⟨Nat.le_of_ble_eq_true rfl, Nat.le_of_ble_eq_true rfl⟩) (bs_WV hB (hP.sub (ws' := [(ru, .inr (2, [.ref rt, .int (nI zz)])), (rt, .inl (cyI, 60, .inl tg)), (qu, .inr (2, [.ref qt, .int (nI yy)])), (qt, .inl (cyI, 60, .inl ug))]) [2, 3, 6, 7] rfl) (hD.sub (ws' := [(ru, .inr (2, [.ref rt, .int (nI zz)])), (rt, .inl (cyI, 60, .inl tg)), (qu, .inr (2, [.ref qt, .int (nI yy)])), (qt, .inl (cyI, 60, .inl ug))]) [2, 3, 6, 7] (by decide) rfl) 0 rfl rfl) rfl rfl hl.1 rfl (lv_room (Nat.le_of_ble_eq_true rfl)) dX4_copyFrom_42 ⟨Nat.le_of_ble_eq_true rfl, Nat.le_of_ble_eq_true rfl⟩) hS (fun q _ h => f_2 q h) f_2 (fun uh_3 t H1 locs ht hvm h_3 hB1 hz1 hk1 hS => ?_)
        obtain ⟨g_4, rfl⟩ : ∃ z, z = uh_3 := ⟨_, rfl⟩
        have h_3 : ∀ i, i < 60 → g_4 i = ug i := h_3
        obtain ⟨hP1, hD1⟩ := hB1
        rw [ht] at hP1
        obtain ⟨hP, hD⟩ := va_join (wr := [(sc, .inr (3, [.ref wf, .ref ru, .int (nI nq)])), (wf, .inl (cyI, 10, .inl fw)), (qc, .inr (3, [.ref qf, .ref qu, .int (nI nq)])), (qf, .inl (cyI, 10, .inl gw))]) (w1 := [(ru, .inr (2, [.ref rt, .int (nI yy)])), (rt, .inl (cyI, 60, .inl g_4)), (qu, .inr (2, [.ref qt, .int (nI yy)])), (qt, .inl (cyI, 60, .inl ug))]) hP hD [2, 3, 6, 7] [0, 1, 4, 5] rfl rfl (by decide) (by decide) hk1 f_2 hP1 hD1
        generalize H1 = H at hP hS ⊢
        have hP : va_P (dC, dI) vwCl [(sc, .inr (3, [.ref wf, .ref ru, .int (nI nq)])), (wf, .inl (cyI, 10, .inl fw)), (qc, .inr (3, [.ref qf, .ref qu, .int (nI nq)])), (qf, .inl (cyI, 10, .inl gw)), (ru, .inr (2, [.ref rt, .int (nI yy)])), (rt, .inl (cyI, 60, .inl g_4)), (qu, .inr (2, [.ref qt, .int (nI yy)])), (qt, .inl (cyI, 60, .inl ug))] _ := hP
        have hD : va_D A [(sc, .inr (3, [.ref wf, .ref ru, .int (nI nq)])), (wf, .inl (cyI, 10, .inl fw)), (qc, .inr (3, [.ref qf, .ref qu, .int (nI nq)])), (qf, .inl (cyI, 10, .inl gw)), (ru, .inr (2, [.ref rt, .int (nI yy)])), (rt, .inl (cyI, 60, .inl g_4)), (qu, .inr (2, [.ref qt, .int (nI yy)])), (qt, .inl (cyI, 60, .inl ug))] := hD
        exact W.vret hx hb hr (fun t ht hW => ⟨⟨(fw, g_4), rfl, h_3, ⟨by rw [ht]; exact hP.sub (ws' := [(sc, .inr (3, [.ref wf, .ref ru, .int (nI nq)])), (wf, .inl (cyI, 10, .inl fw)), (ru, .inr (2, [.ref rt, .int (nI yy)])), (rt, .inl (cyI, 60, .inl g_4)), (qc, .inr (3, [.ref qf, .ref qu, .int (nI nq)])), (qf, .inl (cyI, 10, .inl gw)), (qu, .inr (2, [.ref qt, .int (nI yy)])), (qt, .inl (cyI, 60, .inl ug))]) [0, 1, 4, 5, 2, 3, 6, 7] rfl, hD.sub (ws' := [(sc, .inr (3, [.ref wf, .ref ru, .int (nI nq)])), (wf, .inl (cyI, 10, .inl fw)), (ru, .inr (2, [.ref rt, .int (nI yy)])), (rt, .inl (cyI, 60, .inl g_4)), (qc, .inr (3, [.ref qf, .ref qu, .int (nI nq)])), (qf, .inl (cyI, 10, .inl gw)), (qu, .inr (2, [.ref qt, .int (nI yy)])), (qt, .inl (cyI, 60, .inl ug))]) [0, 1, 4, 5, 2, 3, 6, 7] (by decide) rfl⟩⟩, hS.F ht⟩) hS.2.2 dX4_copyFrom_45
      · skip
        have ic_1 := ci_nle (show Int32.toInt 10 = 10 by decide) (nI_toInt (n := k) (by omega)) c_1
        refine lv_aload_n hx hb dX4_copyFrom_16 rfl (lv_at hl 0 rfl) ?_
        refine va_get (D := (dC, dI)) (ci := 3) (v := .ref wf) (C := RX4) (T := TX4) (N := 3) hx hb hts hnX4_copyFrom_X4 hown hK hP 0 rfl rfl 0 (by decide) (hts (.fieldLink RX4 9 "RingMeets$Scene" "walkers" "[I") (by decide +kernel)) (fun _ h9 => h9) rfl dX4_copyFrom_17 ?_
        refine lv_iload_n hx hb dX4_copyFrom_20 rfl (lv_at hl 2 rfl) ?_
        refine lv_aload_n hx hb dX4_copyFrom_21 rfl (lv_at hl 1 rfl) ?_
        refine va_get (D := (dC, dI)) (ci := 3) (v := .ref qf) (C := RX4) (T := TX4) (N := 3) hx hb hts hnX4_copyFrom_X4 hown hK hP 4 rfl rfl 0 (by decide) (hts (.fieldLink RX4 9 "RingMeets$Scene" "walkers" "[I") (by decide +kernel)) (fun _ h9 => h9) rfl dX4_copyFrom_22 ?_
        refine lv_iload_n hx hb dX4_copyFrom_25 rfl (lv_at hl 2 rfl) ?_
        refine va_iald (D := (dC, dI)) hx hb hK hP 5 0 rfl rfl (vp_in_nI (n := k) (N := 10) (by omega) (by omega)) dX4_copyFrom_26 ?_
        refine lv_topi (fun x_5 ex_5 => ?_)
        rw [nI_clamp (n := k) (by omega)] at ex_5
        refine va_iast (D := (dC, dI)) hx hb hK hP hD hS 1 0 rfl rfl (vp_in_nI (n := k) (N := 10) (by omega) (by omega)) dX4_copyFrom_27 (fun H locs hP hD hS => ?_)
        obtain ⟨g_6, eg_6⟩ : ∃ y : Nat → Int32, y = upd fw (Int32.toNatClampNeg (nI k)) x_5 := ⟨_, rfl⟩
        have hP : va_P (dC, dI) vwCl [(sc, .inr (3, [.ref wf, .ref ru, .int (nI nq)])), (wf, .inl (cyI, 10, .inl g_6)), (ru, .inr (2, [.ref rt, .int (nI zz)])), (rt, .inl (cyI, 60, .inl tg)), (qc, .inr (3, [.ref qf, .ref qu, .int (nI nq)])), (qf, .inl (cyI, 10, .inl gw)), (qu, .inr (2, [.ref qt, .int (nI yy)])), (qt, .inl (cyI, 60, .inl ug))] H := by rw [eg_6]; exact hP
        have hD : va_D A [(sc, .inr (3, [.ref wf, .ref ru, .int (nI nq)])), (wf, .inl (cyI, 10, .inl g_6)), (ru, .inr (2, [.ref rt, .int (nI zz)])), (rt, .inl (cyI, 60, .inl tg)), (qc, .inr (3, [.ref qf, .ref qu, .int (nI nq)])), (qf, .inl (cyI, 10, .inl gw)), (qu, .inr (2, [.ref qt, .int (nI yy)])), (qt, .inl (cyI, 60, .inl ug))] := by rw [eg_6]; exact hD
        rw [nI_clamp (n := k) (by omega)] at eg_6
        refine lv_iinc (v := (nI (k + 1))) (lv' := [(2, .int (nI (k + 1))), (0, .ref sc), (1, .ref qc)]) hx hb dX4_copyFrom_28 hl (k := 2) rfl (nI_1 _) (by decide) rfl (fun ls hl => ?_)
        refine lv_goto (tgt := 10) hx hb dX4_copyFrom_31 (by decide) ?_
        exact ih10 (k + 1) g_6 ⟨by omega, by omega⟩ (by omega)  _ _ (hP.sub [0, 1, 2, 3, 4, 5, 6, 7] rfl) (hD.sub [0, 1, 2, 3, 4, 5, 6, 7] (by decide) rfl) hS _ (lv_sub hl [1, 2, 0] rfl)
  exact L10 (10 + 1) 0 fw ⟨by omega, by omega⟩ (by omega)  _ _ (hP.sub [0, 1, 2, 3, 4, 5, 6, 7] rfl) (hD.sub [0, 1, 2, 3, 4, 5, 6, 7] (by decide) rfl) hS _ (lv_sub hl [1, 2, 0] rfl)
