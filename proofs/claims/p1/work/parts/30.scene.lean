set_option maxHeartbeats 4000000 in
set_option maxRecDepth 100000 in
theorem kX5_has (l : Launch) (dC : Nat → ClassId) (dI : Nat → Nat → Nat) (cyI cyZ : ClassId) (p0 p1 : Int32) : Met l yX5_has wsX5_has ({ frames := 0, cells := 0, slots := 0, locals := 0 }) (bs_R dC dI cyI cyZ [.int p0, .int p1] []) (vp_Si (fun r : Int32 => (r = 0 ∨ r = 1) ∧ (p0 = 0 → r = 0))) 0 0 (fun _ => False) := by
  refine Met.ofW (cc := cX5_has) (maxL := 2) (ret := (some .boolean)) (by decide) rfl ?_
  intro p e s m args below meth c s₁ B hml hv
  obtain ⟨rfl, hB, hP⟩ := hv
  have hK := hB.1
  have hN := hB.2
  have hx := B.exec
  have hb := B.bytes
  have hr := B.returns
  have hts := atoms_spec (ws := wsX5_has) B.pre
  have hown : s.vm.findClass RX5 = some m.cls := findClass_of_methodNamed B.named
  have hlocks := B.notSynchronized
  have hP : va_P (dC, dI) vwCl [] s.heap := hP
  have hl := lv_entry ([.int p0, .int p1]) (n := 2) (Nat.le_of_ble_eq_true rfl)
  rw [lg_entry_eq]
  generalize (lg_sl ([.int p0, .int p1]) ++ List.replicate (2 - (lg_sl ([.int p0, .int p1])).length) Slot.unset).toArray = ls at hl ⊢
  have hl : lv_has ls 2 [(0, .int p0), (1, .int p1)] := hl
  refine lv_iload_n hx hb dX5_has_0 rfl (lv_at hl 1 rfl) ?_
  refine lv_if_lt (tgt := 22) hx hb dX5_has_1 (by decide) (fun c_1 => ?_) (fun c_1 => ?_)
  · skip
    have ic_1 := ci_lt (rfl : Int32.toInt p1 = _) (show Int32.toInt 0 = 0 by decide) c_1
    refine lv_iconst (v := 0) hx hb dX5_has_22 (by decide) ?_
    exact W.zret (v := 0) hx hb hr (show narrow .boolean (.int 0) = .int 0 from rfl) (fun t ht hW => ⟨0, rfl, ⟨Or.inl rfl, fun _ => rfl⟩, ht⟩) (fun q h => by cases h) dX5_has_23
  · skip
    have ic_1 := ci_nlt (rfl : Int32.toInt p1 = _) (show Int32.toInt 0 = 0 by decide) c_1
    refine lv_iload_n hx hb dX5_has_4 rfl (lv_at hl 1 rfl) ?_
    refine lv_bipush (v := 10) hx hb dX5_has_5 (by decide) ?_
    refine lv_icmp_ge (tgt := 22) hx hb dX5_has_7 (by decide) (fun c_2 => ?_) (fun c_2 => ?_)
    · skip
      have ic_2 := ci_le (show Int32.toInt 10 = 10 by decide) (rfl : Int32.toInt p1 = _) c_2
      refine lv_iconst (v := 0) hx hb dX5_has_22 (by decide) ?_
      exact W.zret (v := 0) hx hb hr (show narrow .boolean (.int 0) = .int 0 from rfl) (fun t ht hW => ⟨0, rfl, ⟨Or.inl rfl, fun _ => rfl⟩, ht⟩) (fun q h => by cases h) dX5_has_23
    · skip
      have ic_2 := ci_nle (show Int32.toInt 10 = 10 by decide) (rfl : Int32.toInt p1 = _) c_2
      refine lv_iload_n hx hb dX5_has_10 rfl (lv_at hl 0 rfl) ?_
      refine lv_iload_n hx hb dX5_has_11 rfl (lv_at hl 1 rfl) ?_
      refine lv_ishr hx hb dX5_has_12 ?_
      refine lv_topi (fun x_3 ex_3 => ?_)
      refine lv_iconst (v := 1) hx hb dX5_has_13 (by decide) ?_
      refine lv_iand hx hb dX5_has_14 ?_
      refine lv_topi (fun x_4 ex_4 => ?_)
      refine lv_if_eq (tgt := 22) hx hb dX5_has_15 (by decide) (fun c_5 => ?_) (fun c_5 => ?_)
      · skip
        have ic_5 := ci_eq (rfl : Int32.toInt x_4 = _) (show Int32.toInt 0 = 0 by decide) c_5
        refine lv_iconst (v := 0) hx hb dX5_has_22 (by decide) ?_
        exact W.zret (v := 0) hx hb hr (show narrow .boolean (.int 0) = .int 0 from rfl) (fun t ht hW => ⟨0, rfl, ⟨Or.inl rfl, fun _ => rfl⟩, ht⟩) (fun q h => by cases h) dX5_has_23
      · skip
        have ic_5 := ci_ne (rfl : Int32.toInt x_4 = _) (show Int32.toInt 0 = 0 by decide) c_5
        refine lv_iconst (v := 1) hx hb dX5_has_18 (by decide) ?_
        refine lv_goto (tgt := 23) hx hb dX5_has_19 (by decide) ?_
        exact W.zret (v := 1) hx hb hr (show narrow .boolean (.int 1) = .int 1 from rfl) (fun t ht hW => ⟨1, rfl, ⟨Or.inr rfl, fun h => absurd (by rw [ex_4, ex_3, h, nb_shr0]; rfl) c_5⟩, ht⟩) (fun q h => by cases h) dX5_has_23

theorem hnX4_hasCell_X4 : ∀ w ∈ wsX40, w ∈ wsX4_hasCell := fun _ h => List.mem_cons_of_mem _ (List.mem_append_right _ h)
set_option maxHeartbeats 4000000 in
set_option maxRecDepth 100000 in
theorem kX4_hasCell (l : Launch) (dC : Nat → ClassId) (dI : Nat → Nat → Nat) (cyI cyZ : ClassId) (h0 h1 h2 : Nat) (p1 : Int32) : Met l yX4_hasCell wsX4_hasCell ({ frames := 0, cells := 0, slots := 0, locals := 0 }) (bs_R dC dI cyI cyZ [.ref h0, .int p1] [(h0, .inr (3, [.ref h1, .ref h2, .int 8]))]) (vp_Si (fun r : Int32 => (r = 0 ∨ r = 1) ∧ (r = 1 → 0 ≤ p1.toInt ∧ p1.toInt < 8) ∧ (r = 0 → ¬ (0 ≤ p1.toInt ∧ p1.toInt < 8)))) 0 0 (fun _ => False) := by
  refine Met.ofW (cc := cX4_hasCell) (maxL := 2) (ret := (some .boolean)) (by decide) rfl ?_
  intro p e s m args below meth c s₁ B hml hv
  obtain ⟨rfl, hB, hP⟩ := hv
  have hK := hB.1
  have hN := hB.2
  have hx := B.exec
  have hb := B.bytes
  have hr := B.returns
  have hts := atoms_spec (ws := wsX4_hasCell) B.pre
  have hown : s.vm.findClass RX4 = some m.cls := findClass_of_methodNamed B.named
  have hlocks := B.notSynchronized
  have hP : va_P (dC, dI) vwCl [(h0, .inr (3, [.ref h1, .ref h2, .int 8]))] s.heap := hP
  have hl := lv_entry ([.ref h0, .int p1]) (n := 2) (Nat.le_of_ble_eq_true rfl)
  rw [lg_entry_eq]
  generalize (lg_sl ([.ref h0, .int p1]) ++ List.replicate (2 - (lg_sl ([.ref h0, .int p1])).length) Slot.unset).toArray = ls at hl ⊢
  have hl : lv_has ls 2 [(0, .ref h0), (1, .int p1)] := hl
  refine lv_iload_n hx hb dX4_hasCell_0 rfl (lv_at hl 1 rfl) ?_
  refine lv_if_lt (tgt := 22) hx hb dX4_hasCell_1 (by decide) (fun c_1 => ?_) (fun c_1 => ?_)
  · skip
    have ic_1 := ci_lt (rfl : Int32.toInt p1 = _) (show Int32.toInt 0 = 0 by decide) c_1
    refine lv_iconst (v := 0) hx hb dX4_hasCell_22 (by decide) ?_
    exact W.zret (v := 0) hx hb hr (show narrow .boolean (.int 0) = .int 0 from rfl) (fun t ht hW => ⟨0, rfl, ⟨Or.inl rfl, fun h => absurd h (by decide), fun _ => by omega⟩, ht⟩) (fun q h => by cases h) dX4_hasCell_23
  · skip
    have ic_1 := ci_nlt (rfl : Int32.toInt p1 = _) (show Int32.toInt 0 = 0 by decide) c_1
    refine lv_iload_n hx hb dX4_hasCell_4 rfl (lv_at hl 1 rfl) ?_
    refine lv_aload_n hx hb dX4_hasCell_5 rfl (lv_at hl 0 rfl) ?_
    refine va_get (D := (dC, dI)) (ci := 3) (v := .int 8) (C := RX4) (T := TX4) (N := 3) hx hb hts hnX4_hasCell_X4 hown hK hP 0 rfl rfl 2 (by decide) (hts (.fieldLink RX4 22 "RingMeets$Scene" "cells" "I") (by decide +kernel)) (fun _ h9 => h9) rfl dX4_hasCell_6 ?_
    refine lv_icmp_ge (tgt := 22) hx hb dX4_hasCell_9 (by decide) (fun c_2 => ?_) (fun c_2 => ?_)
    · skip
      have ic_2 := ci_le (show Int32.toInt 8 = 8 by decide) (rfl : Int32.toInt p1 = _) c_2
      refine lv_iconst (v := 0) hx hb dX4_hasCell_22 (by decide) ?_
      exact W.zret (v := 0) hx hb hr (show narrow .boolean (.int 0) = .int 0 from rfl) (fun t ht hW => ⟨0, rfl, ⟨Or.inl rfl, fun h => absurd h (by decide), fun _ => by omega⟩, ht⟩) (fun q h => by cases h) dX4_hasCell_23
    · skip
      have ic_2 := ci_nle (show Int32.toInt 8 = 8 by decide) (rfl : Int32.toInt p1 = _) c_2
      refine lv_iload_n hx hb dX4_hasCell_12 rfl (lv_at hl 1 rfl) ?_
      refine lv_bipush (v := 10) hx hb dX4_hasCell_13 (by decide) ?_
      refine lv_icmp_ge (tgt := 22) hx hb dX4_hasCell_15 (by decide) (fun c_3 => ?_) (fun c_3 => ?_)
      · skip
        have ic_3 := ci_le (show Int32.toInt 10 = 10 by decide) (rfl : Int32.toInt p1 = _) c_3
        refine lv_iconst (v := 0) hx hb dX4_hasCell_22 (by decide) ?_
        exact W.zret (v := 0) hx hb hr (show narrow .boolean (.int 0) = .int 0 from rfl) (fun t ht hW => ⟨0, rfl, ⟨Or.inl rfl, fun h => absurd h (by decide), fun _ => by omega⟩, ht⟩) (fun q h => by cases h) dX4_hasCell_23
      · skip
        have ic_3 := ci_nle (show Int32.toInt 10 = 10 by decide) (rfl : Int32.toInt p1 = _) c_3
        refine lv_iconst (v := 1) hx hb dX4_hasCell_18 (by decide) ?_
        refine lv_goto (tgt := 23) hx hb dX4_hasCell_19 (by decide) ?_
        exact W.zret (v := 1) hx hb hr (show narrow .boolean (.int 1) = .int 1 from rfl) (fun t ht hW => ⟨1, rfl, ⟨Or.inr rfl, fun _ => ⟨by omega, by omega⟩, fun h => absurd h (by decide)⟩, ht⟩) (fun q h => by cases h) dX4_hasCell_23

theorem hnX4_walkersOn_X4 : ∀ w ∈ wsX40, w ∈ wsX4_walkersOn := fun _ h => List.mem_cons_of_mem _ (List.mem_append_right _ h)
set_option maxHeartbeats 4000000 in
set_option maxRecDepth 100000 in
theorem kX4_walkersOn (l : Launch) (dC : Nat → ClassId) (dI : Nat → Nat → Nat) (cyI cyZ : ClassId) (h0 h1 h2 : Nat) (f : Nat → Int32) (hf : ∀ j, f j = 0) (p1 : Int32) : Met l yX4_walkersOn wsX4_walkersOn ({ frames := 1, cells := 0, slots := 0, locals := 21 }) (bs_R dC dI cyI cyZ [.ref h0, .int p1] [(h0, .inr (3, [.ref h1, .ref h2, .int 8])), (h1, .inl (cyI, 10, .inl f))]) (vp_Si (fun r : Int32 => r = 0)) 0 0 (fun _ => False) := by
  refine Met.ofW (cc := cX4_walkersOn) (maxL := 2) (ret := (some .int)) (by decide) rfl ?_
  intro p e s m args below meth c s₁ B hml hv
  obtain ⟨rfl, hB, hP⟩ := hv
  have hK := hB.1
  have hN := hB.2
  have hx := B.exec
  have hb := B.bytes
  have hr := B.returns
  have hts := atoms_spec (ws := wsX4_walkersOn) B.pre
  have hown : s.vm.findClass RX4 = some m.cls := findClass_of_methodNamed B.named
  have hlocks := B.notSynchronized
  have hP : va_P (dC, dI) vwCl [(h0, .inr (3, [.ref h1, .ref h2, .int 8])), (h1, .inl (cyI, 10, .inl f))] s.heap := hP
  have hl := lv_entry ([.ref h0, .int p1]) (n := 2) (Nat.le_of_ble_eq_true rfl)
  rw [lg_entry_eq]
  generalize (lg_sl ([.ref h0, .int p1]) ++ List.replicate (2 - (lg_sl ([.ref h0, .int p1])).length) Slot.unset).toArray = ls at hl ⊢
  have hl : lv_has ls 2 [(0, .ref h0), (1, .int p1)] := hl
  refine lv_aload_n hx hb dX4_walkersOn_0 rfl (lv_at hl 0 rfl) ?_
  refine lv_iload_n hx hb dX4_walkersOn_1 rfl (lv_at hl 1 rfl) ?_
  refine vp_callSi (va_Run.run (va_runV (As := [.int p1]) (rest := []) ⟨hx, hb, hml, hown, hts⟩ (kX4_hasCell l dC dI cyI cyZ h0 h1 h2 p1) (cwV 1 hts gX4_walkersOn_X4_hasCell rfl rfl rfl (by decide +kernel) ⟨Nat.le_of_ble_eq_true rfl, Nat.le_of_ble_eq_true rfl⟩) (bs_RV hB (hP.sub (ws' := [(h0, .inr (3, [.ref h1, .ref h2, .int 8]))]) [0] rfl) 0 rfl rfl) rfl rfl hl.1 rfl (lv_room (Nat.le_of_ble_eq_true rfl)) dX4_walkersOn_2 ⟨Nat.le_of_ble_eq_true rfl, Nat.le_of_ble_eq_true rfl⟩)) (fun r_1 hr_1 => ?_)
  refine lv_if_eq (tgt := 17) hx hb dX4_walkersOn_5 (by decide) (fun c_2 => ?_) (fun c_2 => ?_)
  · skip
    have ic_2 := ci_eq (rfl : Int32.toInt r_1 = _) (show Int32.toInt 0 = 0 by decide) c_2
    refine lv_iconst (v := 0) hx hb dX4_walkersOn_17 (by decide) ?_
    exact W.iret (v := 0) hx hb hr (fun t ht hW => ⟨0, rfl, rfl, ht⟩) (fun q h => by cases h) dX4_walkersOn_18
  · skip
    have ic_2 := ci_ne (rfl : Int32.toInt r_1 = _) (show Int32.toInt 0 = 0 by decide) c_2
    obtain ⟨hlo, hhi⟩ := hr_1.2.1 (hr_1.1.resolve_left c_2)
    refine lv_aload_n hx hb dX4_walkersOn_8 rfl (lv_at hl 0 rfl) ?_
    refine va_get (D := (dC, dI)) (ci := 3) (v := .ref h1) (C := RX4) (T := TX4) (N := 3) hx hb hts hnX4_walkersOn_X4 hown hK hP 0 rfl rfl 0 (by decide) (hts (.fieldLink RX4 9 "RingMeets$Scene" "walkers" "[I") (by decide +kernel)) (fun _ h9 => h9) rfl dX4_walkersOn_9 ?_
    refine lv_iload_n hx hb dX4_walkersOn_12 rfl (lv_at hl 1 rfl) ?_
    refine va_iald (D := (dC, dI)) hx hb hK hP 1 0 rfl rfl (nb_in (x := p1) (n := 10) (by omega) (by omega)) dX4_walkersOn_13 ?_
    refine lv_topi (fun x_3 ex_3 => ?_)
    obtain rfl : 0 = x_3 := (ex_3.trans (hf _)).symm
    refine lv_goto (tgt := 18) hx hb dX4_walkersOn_14 (by decide) ?_
    exact W.iret (v := 0) hx hb hr (fun t ht hW => ⟨0, rfl, rfl, ht⟩) (fun q h => by cases h) dX4_walkersOn_18

theorem hnX4_cellsWithAtLeast_X4 : ∀ w ∈ wsX40, w ∈ wsX4_cellsWithAtLeast := fun _ h => List.mem_cons_of_mem _ (List.mem_append_right _ h)
set_option maxHeartbeats 4000000 in
set_option maxRecDepth 100000 in
theorem kX4_cellsWithAtLeast (l : Launch) (dC : Nat → ClassId) (dI : Nat → Nat → Nat) (cyI cyZ : ClassId) (h0 h1 h2 : Nat) (f : Nat → Int32) (hf : ∀ j, f j = 0) (p1 : Int32) (hp : 0 < p1.toInt) : Met l yX4_cellsWithAtLeast wsX4_cellsWithAtLeast ({ frames := 2, cells := 0, slots := 0, locals := 42 }) (bs_R dC dI cyI cyZ [.ref h0, .int p1] [(h0, .inr (3, [.ref h1, .ref h2, .int 8])), (h1, .inl (cyI, 10, .inl f))]) (vp_Si (fun r : Int32 => r = 0)) 0 0 (fun _ => False) := by
  refine Met.ofW (cc := cX4_cellsWithAtLeast) (maxL := 4) (ret := (some .int)) (by decide) rfl ?_
  intro p e s m args below meth c s₁ B hml hv
  obtain ⟨rfl, hB, hP⟩ := hv
  have hK := hB.1
  have hN := hB.2
  have hx := B.exec
  have hb := B.bytes
  have hr := B.returns
  have hts := atoms_spec (ws := wsX4_cellsWithAtLeast) B.pre
  have hown : s.vm.findClass RX4 = some m.cls := findClass_of_methodNamed B.named
  have hlocks := B.notSynchronized
  have hP : va_P (dC, dI) vwCl [(h0, .inr (3, [.ref h1, .ref h2, .int 8])), (h1, .inl (cyI, 10, .inl f))] s.heap := hP
  have hl := lv_entry ([.ref h0, .int p1]) (n := 4) (Nat.le_of_ble_eq_true rfl)
  rw [lg_entry_eq]
  generalize (lg_sl ([.ref h0, .int p1]) ++ List.replicate (4 - (lg_sl ([.ref h0, .int p1])).length) Slot.unset).toArray = ls at hl ⊢
  have hl : lv_has ls 4 [(0, .ref h0), (1, .int p1)] := hl
  refine lv_iconst (v := 0) hx hb dX4_cellsWithAtLeast_0 (by decide) ?_
  refine lv_istore_n (lv' := [(2, .int 0), (0, .ref h0), (1, .int p1)]) hx hb dX4_cellsWithAtLeast_1 rfl hl (by decide) rfl (fun ls hl => ?_)
  refine lv_iconst (v := 0) hx hb dX4_cellsWithAtLeast_2 (by decide) ?_
  refine lv_istore_n (lv' := [(3, .int 0), (2, .int 0), (0, .ref h0), (1, .int p1)]) hx hb dX4_cellsWithAtLeast_3 rfl hl (by decide) rfl (fun ls hl => ?_)
  have L4 : ∀ (n4 : Nat), ∀ (k : Nat), (0 ≤ k ∧ k ≤ 8) → (9 ≤ k + n4) → ∀ (ls : Array Slot), lv_has ls 4 [(0, .ref h0), (1, .int p1), (2, .int 0), (3, .int (nI k))] → W p l e (headSpec wsX4_cellsWithAtLeast ({ frames := 2, cells := 0, slots := 0, locals := 42 })).room s m ([.ref h0, .int p1] : List Value).toArray below meth c s.heap [] 0 0 (MQ below (vp_Si (fun r : Int32 => r = 0)) ([.ref h0, .int p1] : List Value).toArray s 0 0 (fun _ => False)) (F0 m 4 ls []) := by
    intro n4
    induction n4 with
    | zero =>
      intro k hk4 hn4 ls hl
      exfalso
      omega
    | succ n4 ih4 =>
      intro k hk4 hn4 ls hl
      refine lv_iload_n hx hb dX4_cellsWithAtLeast_4 rfl (lv_at hl 3 rfl) ?_
      refine lv_aload_n hx hb dX4_cellsWithAtLeast_5 rfl (lv_at hl 0 rfl) ?_
      refine va_get (D := (dC, dI)) (ci := 3) (v := .int 8) (C := RX4) (T := TX4) (N := 3) hx hb hts hnX4_cellsWithAtLeast_X4 hown hK hP 0 rfl rfl 2 (by decide) (hts (.fieldLink RX4 22 "RingMeets$Scene" "cells" "I") (by decide +kernel)) (fun _ h9 => h9) rfl dX4_cellsWithAtLeast_6 ?_
      refine lv_icmp_ge (tgt := 33) hx hb dX4_cellsWithAtLeast_9 (by decide) (fun c_1 => ?_) (fun c_1 => ?_)
      · skip
        have ic_1 := ci_le (show Int32.toInt 8 = 8 by decide) (nI_toInt (n := k) (by omega)) c_1
        refine lv_iload_n hx hb dX4_cellsWithAtLeast_33 rfl (lv_at hl 2 rfl) ?_
        exact W.iret (v := 0) hx hb hr (fun t ht hW => ⟨0, rfl, rfl, ht⟩) (fun q h => by cases h) dX4_cellsWithAtLeast_34
      · skip
        have ic_1 := ci_nle (show Int32.toInt 8 = 8 by decide) (nI_toInt (n := k) (by omega)) c_1
        refine lv_aload_n hx hb dX4_cellsWithAtLeast_12 rfl (lv_at hl 0 rfl) ?_
        refine lv_iload_n hx hb dX4_cellsWithAtLeast_13 rfl (lv_at hl 3 rfl) ?_
        refine vp_callSi (va_Run.run (va_runV (As := [.int (nI k)]) (rest := []) ⟨hx, hb, hml, hown, hts⟩ (kX4_walkersOn l dC dI cyI cyZ h0 h1 h2 f hf (nI k)) (cwV 1 hts gX4_cellsWithAtLeast_X4_walkersOn rfl rfl rfl (by decide +kernel) ⟨Nat.le_of_ble_eq_true rfl, Nat.le_of_ble_eq_true rfl⟩) (bs_RV hB (hP.sub (ws' := [(h0, .inr (3, [.ref h1, .ref h2, .int 8])), (h1, .inl (cyI, 10, .inl f))]) [0, 1] rfl) 0 rfl rfl) rfl rfl hl.1 rfl (lv_room (Nat.le_of_ble_eq_true rfl)) dX4_cellsWithAtLeast_14 ⟨Nat.le_of_ble_eq_true rfl, Nat.le_of_ble_eq_true rfl⟩)) (fun r_2 hr_2 => ?_)
        obtain rfl : r_2 = 0 := hr_2
        refine lv_iload_n hx hb dX4_cellsWithAtLeast_17 rfl (lv_at hl 1 rfl) ?_
        refine lv_icmp_lt (tgt := 27) hx hb dX4_cellsWithAtLeast_18 (by decide) (fun c_3 => ?_) (fun c_3 => ?_)
        · skip
          have ic_3 := ci_lt (show Int32.toInt 0 = 0 by decide) (rfl : Int32.toInt p1 = _) c_3
          refine lv_iinc (v := (nI (k + 1))) (lv' := [(3, .int (nI (k + 1))), (0, .ref h0), (1, .int p1), (2, .int 0)]) hx hb dX4_cellsWithAtLeast_27 hl (k := 3) rfl (nI_1 _) (by decide) rfl (fun ls hl => ?_)
          refine lv_goto (tgt := 4) hx hb dX4_cellsWithAtLeast_30 (by decide) ?_
          exact ih4 (k + 1)  ⟨by omega, by omega⟩ (by omega)  _ (lv_sub hl [1, 2, 3, 0] rfl)
        · skip
          have ic_3 := ci_nlt (show Int32.toInt 0 = 0 by decide) (rfl : Int32.toInt p1 = _) c_3
          exfalso; omega
  exact L4 9 0  ⟨by omega, by omega⟩ (by omega)  _ (lv_sub hl [2, 3, 1, 0] rfl)

set_option maxHeartbeats 4000000 in
set_option maxRecDepth 100000 in
theorem kX4_stands (l : Launch) (dC : Nat → ClassId) (dI : Nat → Nat → Nat) (cyI cyZ : ClassId) (h0 h1 h2 : Nat) (f : Nat → Int32) (hf : ∀ j, f j = 0) : Met l yX4_stands wsX4_stands ({ frames := 3, cells := 0, slots := 0, locals := 65 }) (bs_R dC dI cyI cyZ [.ref h0] [(h0, .inr (3, [.ref h1, .ref h2, .int 8])), (h1, .inl (cyI, 10, .inl f))]) (vp_Si (fun r : Int32 => r = 0)) 0 0 (fun _ => False) := by
  refine Met.ofW (cc := cX4_stands) (maxL := 1) (ret := (some .int)) (by decide) rfl ?_
  intro p e s m args below meth c s₁ B hml hv
  obtain ⟨rfl, hB, hP⟩ := hv
  have hK := hB.1
  have hN := hB.2
  have hx := B.exec
  have hb := B.bytes
  have hr := B.returns
  have hts := atoms_spec (ws := wsX4_stands) B.pre
  have hown : s.vm.findClass RX4 = some m.cls := findClass_of_methodNamed B.named
  have hlocks := B.notSynchronized
  have hP : va_P (dC, dI) vwCl [(h0, .inr (3, [.ref h1, .ref h2, .int 8])), (h1, .inl (cyI, 10, .inl f))] s.heap := hP
  have hl := lv_entry ([.ref h0]) (n := 1) (Nat.le_of_ble_eq_true rfl)
  rw [lg_entry_eq]
  generalize (lg_sl ([.ref h0]) ++ List.replicate (1 - (lg_sl ([.ref h0])).length) Slot.unset).toArray = ls at hl ⊢
  have hl : lv_has ls 1 [(0, .ref h0)] := hl
  refine lv_aload_n hx hb dX4_stands_0 rfl (lv_at hl 0 rfl) ?_
  refine lv_iconst (v := 1) hx hb dX4_stands_1 (by decide) ?_
  refine vp_callSi (va_Run.run (va_runV (As := [.int 1]) (rest := []) ⟨hx, hb, hml, hown, hts⟩ (kX4_cellsWithAtLeast l dC dI cyI cyZ h0 h1 h2 f hf 1 (by decide)) (cwV 1 hts gX4_stands_X4_cellsWithAtLeast rfl rfl rfl (by decide +kernel) ⟨Nat.le_of_ble_eq_true rfl, Nat.le_of_ble_eq_true rfl⟩) (bs_RV hB (hP.sub (ws' := [(h0, .inr (3, [.ref h1, .ref h2, .int 8])), (h1, .inl (cyI, 10, .inl f))]) [0, 1] rfl) 0 rfl rfl) rfl rfl hl.1 rfl (lv_room (Nat.le_of_ble_eq_true rfl)) dX4_stands_2 ⟨Nat.le_of_ble_eq_true rfl, Nat.le_of_ble_eq_true rfl⟩)) (fun r_1 hr_1 => ?_)
  obtain rfl : r_1 = 0 := hr_1
  exact W.iret (v := 0) hx hb hr (fun t ht hW => ⟨0, rfl, rfl, ht⟩) (fun q h => by cases h) dX4_stands_5

set_option maxHeartbeats 4000000 in
set_option maxRecDepth 100000 in
theorem kX4_towers (l : Launch) (dC : Nat → ClassId) (dI : Nat → Nat → Nat) (cyI cyZ : ClassId) (h0 h1 h2 : Nat) (f : Nat → Int32) (hf : ∀ j, f j = 0) : Met l yX4_towers wsX4_towers ({ frames := 3, cells := 0, slots := 0, locals := 65 }) (bs_R dC dI cyI cyZ [.ref h0] [(h0, .inr (3, [.ref h1, .ref h2, .int 8])), (h1, .inl (cyI, 10, .inl f))]) (vp_Si (fun r : Int32 => r = 0)) 0 0 (fun _ => False) := by
  refine Met.ofW (cc := cX4_towers) (maxL := 1) (ret := (some .int)) (by decide) rfl ?_
  intro p e s m args below meth c s₁ B hml hv
  obtain ⟨rfl, hB, hP⟩ := hv
  have hK := hB.1
  have hN := hB.2
  have hx := B.exec
  have hb := B.bytes
  have hr := B.returns
  have hts := atoms_spec (ws := wsX4_towers) B.pre
  have hown : s.vm.findClass RX4 = some m.cls := findClass_of_methodNamed B.named
  have hlocks := B.notSynchronized
  have hP : va_P (dC, dI) vwCl [(h0, .inr (3, [.ref h1, .ref h2, .int 8])), (h1, .inl (cyI, 10, .inl f))] s.heap := hP
  have hl := lv_entry ([.ref h0]) (n := 1) (Nat.le_of_ble_eq_true rfl)
  rw [lg_entry_eq]
  generalize (lg_sl ([.ref h0]) ++ List.replicate (1 - (lg_sl ([.ref h0])).length) Slot.unset).toArray = ls at hl ⊢
  have hl : lv_has ls 1 [(0, .ref h0)] := hl
  refine lv_aload_n hx hb dX4_towers_0 rfl (lv_at hl 0 rfl) ?_
  refine lv_iconst (v := 2) hx hb dX4_towers_1 (by decide) ?_
  refine vp_callSi (va_Run.run (va_runV (As := [.int 2]) (rest := []) ⟨hx, hb, hml, hown, hts⟩ (kX4_cellsWithAtLeast l dC dI cyI cyZ h0 h1 h2 f hf 2 (by decide)) (cwV 1 hts gX4_towers_X4_cellsWithAtLeast rfl rfl rfl (by decide +kernel) ⟨Nat.le_of_ble_eq_true rfl, Nat.le_of_ble_eq_true rfl⟩) (bs_RV hB (hP.sub (ws' := [(h0, .inr (3, [.ref h1, .ref h2, .int 8])), (h1, .inl (cyI, 10, .inl f))]) [0, 1] rfl) 0 rfl rfl) rfl rfl hl.1 rfl (lv_room (Nat.le_of_ble_eq_true rfl)) dX4_towers_2 ⟨Nat.le_of_ble_eq_true rfl, Nat.le_of_ble_eq_true rfl⟩)) (fun r_1 hr_1 => ?_)
  obtain rfl : r_1 = 0 := hr_1
  exact W.iret (v := 0) hx hb hr (fun t ht hW => ⟨0, rfl, rfl, ht⟩) (fun q h => by cases h) dX4_towers_5

theorem hnX4_walkersInAll_X4 : ∀ w ∈ wsX40, w ∈ wsX4_walkersInAll := fun _ h => List.mem_cons_of_mem _ (List.mem_append_right _ h)
set_option maxHeartbeats 4000000 in
set_option maxRecDepth 100000 in
theorem kX4_walkersInAll (l : Launch) (dC : Nat → ClassId) (dI : Nat → Nat → Nat) (cyI cyZ : ClassId) (h0 h1 h2 : Nat) (f : Nat → Int32) (hf : ∀ j, f j = 0) : Met l yX4_walkersInAll wsX4_walkersInAll ({ frames := 2, cells := 0, slots := 0, locals := 42 }) (bs_R dC dI cyI cyZ [.ref h0] [(h0, .inr (3, [.ref h1, .ref h2, .int 8])), (h1, .inl (cyI, 10, .inl f))]) (vp_Si (fun r : Int32 => r = 0)) 0 0 (fun _ => False) := by
  refine Met.ofW (cc := cX4_walkersInAll) (maxL := 3) (ret := (some .int)) (by decide) rfl ?_
  intro p e s m args below meth c s₁ B hml hv
  obtain ⟨rfl, hB, hP⟩ := hv
  have hK := hB.1
  have hN := hB.2
  have hx := B.exec
  have hb := B.bytes
  have hr := B.returns
  have hts := atoms_spec (ws := wsX4_walkersInAll) B.pre
  have hown : s.vm.findClass RX4 = some m.cls := findClass_of_methodNamed B.named
  have hlocks := B.notSynchronized
  have hP : va_P (dC, dI) vwCl [(h0, .inr (3, [.ref h1, .ref h2, .int 8])), (h1, .inl (cyI, 10, .inl f))] s.heap := hP
  have hl := lv_entry ([.ref h0]) (n := 3) (Nat.le_of_ble_eq_true rfl)
  rw [lg_entry_eq]
  generalize (lg_sl ([.ref h0]) ++ List.replicate (3 - (lg_sl ([.ref h0])).length) Slot.unset).toArray = ls at hl ⊢
  have hl : lv_has ls 3 [(0, .ref h0)] := hl
  refine lv_iconst (v := 0) hx hb dX4_walkersInAll_0 (by decide) ?_
  refine lv_istore_n (lv' := [(1, .int 0), (0, .ref h0)]) hx hb dX4_walkersInAll_1 rfl hl (by decide) rfl (fun ls hl => ?_)
  refine lv_iconst (v := 0) hx hb dX4_walkersInAll_2 (by decide) ?_
  refine lv_istore_n (lv' := [(2, .int 0), (1, .int 0), (0, .ref h0)]) hx hb dX4_walkersInAll_3 rfl hl (by decide) rfl (fun ls hl => ?_)
  have L4 : ∀ (n4 : Nat), ∀ (k : Nat), (0 ≤ k ∧ k ≤ 8) → (9 ≤ k + n4) → ∀ (ls : Array Slot), lv_has ls 3 [(0, .ref h0), (1, .int 0), (2, .int (nI k))] → W p l e (headSpec wsX4_walkersInAll ({ frames := 2, cells := 0, slots := 0, locals := 42 })).room s m ([.ref h0] : List Value).toArray below meth c s.heap [] 0 0 (MQ below (vp_Si (fun r : Int32 => r = 0)) ([.ref h0] : List Value).toArray s 0 0 (fun _ => False)) (F0 m 4 ls []) := by
    intro n4
    induction n4 with
    | zero =>
      intro k hk4 hn4 ls hl
      exfalso
      omega
    | succ n4 ih4 =>
      intro k hk4 hn4 ls hl
      refine lv_iload_n hx hb dX4_walkersInAll_4 rfl (lv_at hl 2 rfl) ?_
      refine lv_aload_n hx hb dX4_walkersInAll_5 rfl (lv_at hl 0 rfl) ?_
      refine va_get (D := (dC, dI)) (ci := 3) (v := .int 8) (C := RX4) (T := TX4) (N := 3) hx hb hts hnX4_walkersInAll_X4 hown hK hP 0 rfl rfl 2 (by decide) (hts (.fieldLink RX4 22 "RingMeets$Scene" "cells" "I") (by decide +kernel)) (fun _ h9 => h9) rfl dX4_walkersInAll_6 ?_
      refine lv_icmp_ge (tgt := 26) hx hb dX4_walkersInAll_9 (by decide) (fun c_1 => ?_) (fun c_1 => ?_)
      · skip
        have ic_1 := ci_le (show Int32.toInt 8 = 8 by decide) (nI_toInt (n := k) (by omega)) c_1
        refine lv_iload_n hx hb dX4_walkersInAll_26 rfl (lv_at hl 1 rfl) ?_
        exact W.iret (v := 0) hx hb hr (fun t ht hW => ⟨0, rfl, rfl, ht⟩) (fun q h => by cases h) dX4_walkersInAll_27
      · skip
        have ic_1 := ci_nle (show Int32.toInt 8 = 8 by decide) (nI_toInt (n := k) (by omega)) c_1
        refine lv_iload_n hx hb dX4_walkersInAll_12 rfl (lv_at hl 1 rfl) ?_
        refine lv_aload_n hx hb dX4_walkersInAll_13 rfl (lv_at hl 0 rfl) ?_
        refine lv_iload_n hx hb dX4_walkersInAll_14 rfl (lv_at hl 2 rfl) ?_
        refine vp_callSi (va_Run.run (va_runV (As := [.int (nI k)]) (rest := [.int 0]) ⟨hx, hb, hml, hown, hts⟩ (kX4_walkersOn l dC dI cyI cyZ h0 h1 h2 f hf (nI k)) (cwV 1 hts gX4_walkersInAll_X4_walkersOn rfl rfl rfl (by decide +kernel) ⟨Nat.le_of_ble_eq_true rfl, Nat.le_of_ble_eq_true rfl⟩) (bs_RV hB (hP.sub (ws' := [(h0, .inr (3, [.ref h1, .ref h2, .int 8])), (h1, .inl (cyI, 10, .inl f))]) [0, 1] rfl) 0 rfl rfl) rfl rfl hl.1 rfl (lv_room (Nat.le_of_ble_eq_true rfl)) dX4_walkersInAll_15 ⟨Nat.le_of_ble_eq_true rfl, Nat.le_of_ble_eq_true rfl⟩)) (fun r_2 hr_2 => ?_)
        obtain rfl : r_2 = 0 := hr_2
        refine lv_iadd hx hb dX4_walkersInAll_18 ?_
        refine lv_topi (fun x_3 ex_3 => ?_)
        obtain rfl : 0 = x_3 := (ex_3.trans (by decide)).symm
        refine lv_istore_n (lv' := [(1, .int 0), (0, .ref h0), (2, .int (nI k))]) hx hb dX4_walkersInAll_19 rfl hl (by decide) rfl (fun ls hl => ?_)
        refine lv_iinc (v := (nI (k + 1))) (lv' := [(2, .int (nI (k + 1))), (1, .int 0), (0, .ref h0)]) hx hb dX4_walkersInAll_20 hl (k := 2) rfl (nI_1 _) (by decide) rfl (fun ls hl => ?_)
        refine lv_goto (tgt := 4) hx hb dX4_walkersInAll_23 (by decide) ?_
        exact ih4 (k + 1)  ⟨by omega, by omega⟩ (by omega)  _ (lv_sub hl [2, 1, 0] rfl)
  exact L4 9 0  ⟨by omega, by omega⟩ (by omega)  _ (lv_sub hl [2, 1, 0] rfl)

theorem hnX4_put_X4 : ∀ w ∈ wsX40, w ∈ wsX4_put := fun _ h => List.mem_cons_of_mem _ (List.mem_append_right _ h)
set_option maxHeartbeats 4000000 in
set_option maxRecDepth 100000 in
theorem kX4_put (l : Launch) (dC : Nat → ClassId) (dI : Nat → Nat → Nat) (cyI cyZ : ClassId) (h0 h1 h2 : Nat) (f : Nat → Int32) (p1 p2 : Int32) (sz : Nat) : Met l yX4_put wsX4_put ({ frames := 1, cells := 0, slots := 0, locals := 21 }) (bs_W dC dI cyI cyZ [.ref h0, .int p1, .int p2] [(h0, .inr (3, [.ref h1, .ref h2, .int 8])), (h1, .inl (cyI, 10, .inl f))] sz) (va_Qv (S := Nat → Int32) (fun g : Nat → Int32 => p2 = 0 → (∀ j, f j = 0) → ∀ j, g j = 0) (fun g t => bs_E dC dI (va_A [(h0, .inr (3, [.ref h1, .ref h2, .int 8])), (h1, .inl (cyI, 10, .inl f))] sz) [(h0, .inr (3, [.ref h1, .ref h2, .int 8])), (h1, .inl (cyI, 10, .inl g))] t) (va_A [(h0, .inr (3, [.ref h1, .ref h2, .int 8])), (h1, .inl (cyI, 10, .inl f))] sz)) 0 0 (va_A [(h0, .inr (3, [.ref h1, .ref h2, .int 8])), (h1, .inl (cyI, 10, .inl f))] sz) := by
  refine Met.ofW (cc := cX4_put) (maxL := 3) (ret := none) (by decide) rfl ?_
  intro p e s m args below meth c s₁ B hml hv
  obtain ⟨rfl, hsz, hB, hP, hD0⟩ := hv
  have hK := hB.1
  have hN := hB.2
  have hx := B.exec
  have hb := B.bytes
  have hr := B.returns
  have hts := atoms_spec (ws := wsX4_put) B.pre
  have hown : s.vm.findClass RX4 = some m.cls := findClass_of_methodNamed B.named
  have hlocks := B.notSynchronized
  subst hsz
  have hD := hD0.self (sz := s.heap.size)
  generalize hAe : va_A [(h0, .inr (3, [.ref h1, .ref h2, .int 8])), (h1, .inl (cyI, 10, .inl f))] s.heap.size = A at hD ⊢
  have hA : ∀ q : Nat, s.heap.size ≤ q → A q := fun q h => by rw [← hAe]; exact Or.inr h
  have hS : va_S A s.heap s.heap [] := va_S.rf
  have hP : va_P (dC, dI) vwCl [(h0, .inr (3, [.ref h1, .ref h2, .int 8])), (h1, .inl (cyI, 10, .inl f))] s.heap := hP
  have hl := lv_entry ([.ref h0, .int p1, .int p2]) (n := 3) (Nat.le_of_ble_eq_true rfl)
  rw [lg_entry_eq]
  generalize (lg_sl ([.ref h0, .int p1, .int p2]) ++ List.replicate (3 - (lg_sl ([.ref h0, .int p1, .int p2])).length) Slot.unset).toArray = ls at hl ⊢
  have hl : lv_has ls 3 [(0, .ref h0), (1, .int p1), (2, .int p2)] := hl
  refine lv_aload_n hx hb dX4_put_0 rfl (lv_at hl 0 rfl) ?_
  refine lv_iload_n hx hb dX4_put_1 rfl (lv_at hl 1 rfl) ?_
  refine vp_callSi (va_Run.run (va_runV (As := [.int p1]) (rest := []) ⟨hx, hb, hml, hown, hts⟩ (kX4_hasCell l dC dI cyI cyZ h0 h1 h2 p1) (cwV 1 hts gX4_put_X4_hasCell rfl rfl rfl (by decide +kernel) ⟨Nat.le_of_ble_eq_true rfl, Nat.le_of_ble_eq_true rfl⟩) (bs_RV hB (hP.sub (ws' := [(h0, .inr (3, [.ref h1, .ref h2, .int 8]))]) [0] rfl) 0 rfl rfl) rfl rfl hl.1 rfl (lv_room (Nat.le_of_ble_eq_true rfl)) dX4_put_2 ⟨Nat.le_of_ble_eq_true rfl, Nat.le_of_ble_eq_true rfl⟩)) (fun r_1 hr_1 => ?_)
  refine lv_if_eq (tgt := 15) hx hb dX4_put_5 (by decide) (fun c_2 => ?_) (fun c_2 => ?_)
  · skip
    have ic_2 := ci_eq (rfl : Int32.toInt r_1 = _) (show Int32.toInt 0 = 0 by decide) c_2
    exact W.vret hx hb hr (fun t ht hW => ⟨⟨f, rfl, fun _ h => h, ⟨by rw [ht]; exact hP.sub (ws' := [(h0, .inr (3, [.ref h1, .ref h2, .int 8])), (h1, .inl (cyI, 10, .inl f))]) [0, 1] rfl, hD.sub (ws' := [(h0, .inr (3, [.ref h1, .ref h2, .int 8])), (h1, .inl (cyI, 10, .inl f))]) [0, 1] (by decide) rfl⟩⟩, hS.F ht⟩) hS.2.2 dX4_put_15
  · skip
    have ic_2 := ci_ne (rfl : Int32.toInt r_1 = _) (show Int32.toInt 0 = 0 by decide) c_2
    obtain ⟨hlo, hhi⟩ := hr_1.2.1 (hr_1.1.resolve_left c_2)
    refine lv_aload_n hx hb dX4_put_8 rfl (lv_at hl 0 rfl) ?_
    refine va_get (D := (dC, dI)) (ci := 3) (v := .ref h1) (C := RX4) (T := TX4) (N := 3) hx hb hts hnX4_put_X4 hown hK hP 0 rfl rfl 0 (by decide) (hts (.fieldLink RX4 9 "RingMeets$Scene" "walkers" "[I") (by decide +kernel)) (fun _ h9 => h9) rfl dX4_put_9 ?_
    refine lv_iload_n hx hb dX4_put_12 rfl (lv_at hl 1 rfl) ?_
    refine lv_iload_n hx hb dX4_put_13 rfl (lv_at hl 2 rfl) ?_
    refine va_iast (D := (dC, dI)) hx hb hK hP hD hS 1 0 rfl rfl (nb_in (x := p1) (n := 10) (by omega) (by omega)) dX4_put_14 (fun H locs hP hD hS => ?_)
    obtain ⟨g_3, eg_3⟩ : ∃ y : Nat → Int32, y = upd f (Int32.toNatClampNeg p1) p2 := ⟨_, rfl⟩
    have hP : va_P (dC, dI) vwCl [(h0, .inr (3, [.ref h1, .ref h2, .int 8])), (h1, .inl (cyI, 10, .inl g_3))] H := by rw [eg_3]; exact hP
    have hD : va_D A [(h0, .inr (3, [.ref h1, .ref h2, .int 8])), (h1, .inl (cyI, 10, .inl g_3))] := by rw [eg_3]; exact hD
    exact W.vret hx hb hr (fun t ht hW => ⟨⟨g_3, rfl, fun h1 h2 j => by rw [eg_3]; unfold upd; split; exact h1; exact h2 j, ⟨by rw [ht]; exact hP.sub (ws' := [(h0, .inr (3, [.ref h1, .ref h2, .int 8])), (h1, .inl (cyI, 10, .inl g_3))]) [0, 1] rfl, hD.sub (ws' := [(h0, .inr (3, [.ref h1, .ref h2, .int 8])), (h1, .inl (cyI, 10, .inl g_3))]) [0, 1] (by decide) rfl⟩⟩, hS.F ht⟩) hS.2.2 dX4_put_15

theorem hnX4_empty_X4 : ∀ w ∈ wsX40, w ∈ wsX4_empty := fun _ h => List.mem_cons_of_mem _ (List.mem_append_right _ h)
set_option maxHeartbeats 4000000 in
set_option maxRecDepth 100000 in
theorem kX4_empty (l : Launch) (dC : Nat → ClassId) (dI : Nat → Nat → Nat) (cyI cyZ : ClassId) (h0 h1 h2 : Nat) (f : Nat → Int32) (p1 : Int32) (sz : Nat) : Met l yX4_empty wsX4_empty ({ frames := 0, cells := 0, slots := 0, locals := 0 }) (bs_W dC dI cyI cyZ [.ref h0, .int p1] [(h0, .inr (3, [.ref h1, .ref h2, .int 8])), (h1, .inl (cyI, 10, .inl f))] sz) (va_Qv (S := Unit) (fun _ : Unit => True) (fun _ _ => True) (va_A [(h0, .inr (3, [.ref h1, .ref h2, .int 8])), (h1, .inl (cyI, 10, .inl f))] sz)) 0 0 (va_A [(h0, .inr (3, [.ref h1, .ref h2, .int 8])), (h1, .inl (cyI, 10, .inl f))] sz) := by
  refine Met.ofW (cc := cX4_empty) (maxL := 3) (ret := none) (by decide) rfl ?_
  intro p e s m args below meth c s₁ B hml hv
  obtain ⟨rfl, hsz, hB, hP, hD0⟩ := hv
  have hK := hB.1
  have hN := hB.2
  have hx := B.exec
  have hb := B.bytes
  have hr := B.returns
  have hts := atoms_spec (ws := wsX4_empty) B.pre
  have hown : s.vm.findClass RX4 = some m.cls := findClass_of_methodNamed B.named
  have hlocks := B.notSynchronized
  subst hsz
  have hD := hD0.self (sz := s.heap.size)
  generalize hAe : va_A [(h0, .inr (3, [.ref h1, .ref h2, .int 8])), (h1, .inl (cyI, 10, .inl f))] s.heap.size = A at hD ⊢
  have hA : ∀ q : Nat, s.heap.size ≤ q → A q := fun q h => by rw [← hAe]; exact Or.inr h
  have hS : va_S A s.heap s.heap [] := va_S.rf
  have hP : va_P (dC, dI) vwCl [(h0, .inr (3, [.ref h1, .ref h2, .int 8])), (h1, .inl (cyI, 10, .inl f))] s.heap := hP
  have hl := lv_entry ([.ref h0, .int p1]) (n := 3) (Nat.le_of_ble_eq_true rfl)
  rw [lg_entry_eq]
  generalize (lg_sl ([.ref h0, .int p1]) ++ List.replicate (3 - (lg_sl ([.ref h0, .int p1])).length) Slot.unset).toArray = ls at hl ⊢
  have hl : lv_has ls 3 [(0, .ref h0), (1, .int p1)] := hl
  refine lv_aload_n hx hb dX4_empty_0 rfl (lv_at hl 0 rfl) ?_
  refine lv_iload_n hx hb dX4_empty_1 rfl (lv_at hl 1 rfl) ?_
  refine va_put (D := (dC, dI)) (ci := 3) (v := .int p1) (ty := .int) (C := RX4) (T := TX4) (N := 3) hx hb hts hnX4_empty_X4 tyX4 tyX4_ok nmX4 hown hK hP hD hS 0 rfl rfl 2 (by decide) (hts (.fieldLink RX4 22 "RingMeets$Scene" "cells" "I") (by decide +kernel)) (fun _ h9 => h9) rfl (by decide +kernel) rfl rfl (Nat.le_of_ble_eq_true rfl) dX4_empty_2 (fun H locs hP hD hS => ?_)
  have hP : va_P (dC, dI) vwCl [(h0, .inr (3, [.ref h1, .ref h2, .int p1])), (h1, .inl (cyI, 10, .inl f))] _ := hP
  have hD : va_D A [(h0, .inr (3, [.ref h1, .ref h2, .int p1])), (h1, .inl (cyI, 10, .inl f))] := hD
  refine lv_iconst (v := 0) hx hb dX4_empty_5 (by decide) ?_
  refine lv_istore_n (lv' := [(2, .int 0), (0, .ref h0), (1, .int p1)]) hx hb dX4_empty_6 rfl hl (by decide) rfl (fun ls hl => ?_)
  have L7 : ∀ (n7 : Nat), ∀ (k : Nat) (f : Nat → Int32), (0 ≤ k ∧ k ≤ 10) → (11 ≤ k + n7) → ∀ (H : Heap) (locs : List Loc), va_P (dC, dI) vwCl [(h0, .inr (3, [.ref h1, .ref h2, .int p1])), (h1, .inl (cyI, 10, .inl f))] H → va_D A [(h0, .inr (3, [.ref h1, .ref h2, .int p1])), (h1, .inl (cyI, 10, .inl f))] → va_S A s.heap H locs → ∀ (ls : Array Slot), lv_has ls 3 [(0, .ref h0), (2, .int (nI k))] → W p l e (headSpec wsX4_empty ({ frames := 0, cells := 0, slots := 0, locals := 0 })).room s m ([.ref h0, .int p1] : List Value).toArray below meth c H locs 0 0 (MQ below (va_Qv (S := Unit) (fun _ : Unit => True) (fun _ _ => True) A) ([.ref h0, .int p1] : List Value).toArray s 0 0 A) (F0 m 7 ls []) := by
    intro n7
    induction n7 with
    | zero =>
      intro k f hk7 hn7 H locs hP hD hS ls hl
      exfalso
      omega
    | succ n7 ih7 =>
      intro k f hk7 hn7 H locs hP hD hS ls hl
      refine lv_iload_n hx hb dX4_empty_7 rfl (lv_at hl 1 rfl) ?_
      refine lv_bipush (v := 10) hx hb dX4_empty_8 (by decide) ?_
      refine lv_icmp_ge (tgt := 26) hx hb dX4_empty_10 (by decide) (fun c_1 => ?_) (fun c_1 => ?_)
      · skip
        have ic_1 := ci_le (show Int32.toInt 10 = 10 by decide) (nI_toInt (n := k) (by omega)) c_1
        exact W.vret hx hb hr (fun t ht hW => ⟨⟨(), rfl, trivial, trivial⟩, hS.F ht⟩) hS.2.2 dX4_empty_26
      · skip
        have ic_1 := ci_nle (show Int32.toInt 10 = 10 by decide) (nI_toInt (n := k) (by omega)) c_1
        refine lv_aload_n hx hb dX4_empty_13 rfl (lv_at hl 0 rfl) ?_
        refine va_get (D := (dC, dI)) (ci := 3) (v := .ref h1) (C := RX4) (T := TX4) (N := 3) hx hb hts hnX4_empty_X4 hown hK hP 0 rfl rfl 0 (by decide) (hts (.fieldLink RX4 9 "RingMeets$Scene" "walkers" "[I") (by decide +kernel)) (fun _ h9 => h9) rfl dX4_empty_14 ?_
        refine lv_iload_n hx hb dX4_empty_17 rfl (lv_at hl 1 rfl) ?_
        refine lv_iconst (v := 0) hx hb dX4_empty_18 (by decide) ?_
        refine va_iast (D := (dC, dI)) hx hb hK hP hD hS 1 0 rfl rfl (vp_in_nI (n := k) (N := 10) (by omega) (by omega)) dX4_empty_19 (fun H locs hP hD hS => ?_)
        obtain ⟨g_2, eg_2⟩ : ∃ y : Nat → Int32, y = upd f (Int32.toNatClampNeg (nI k)) 0 := ⟨_, rfl⟩
        have hP : va_P (dC, dI) vwCl [(h0, .inr (3, [.ref h1, .ref h2, .int p1])), (h1, .inl (cyI, 10, .inl g_2))] H := by rw [eg_2]; exact hP
        have hD : va_D A [(h0, .inr (3, [.ref h1, .ref h2, .int p1])), (h1, .inl (cyI, 10, .inl g_2))] := by rw [eg_2]; exact hD
        rw [nI_clamp (n := k) (by omega)] at eg_2
        refine lv_iinc (v := (nI (k + 1))) (lv' := [(2, .int (nI (k + 1))), (0, .ref h0)]) hx hb dX4_empty_20 hl (k := 1) rfl (nI_1 _) (by decide) rfl (fun ls hl => ?_)
        refine lv_goto (tgt := 7) hx hb dX4_empty_23 (by decide) ?_
        exact ih7 (k + 1) g_2 ⟨by omega, by omega⟩ (by omega)  _ _ (hP.sub [0, 1] rfl) (hD.sub [0, 1] (by decide) rfl) hS _ (lv_sub hl [1, 0] rfl)
  exact L7 11 0 f ⟨by omega, by omega⟩ (by omega)  _ _ (hP.sub [0, 1] rfl) (hD.sub [0, 1] (by decide) rfl) hS _ (lv_sub hl [1, 0] rfl)

theorem hnX3_init_X3 : ∀ w ∈ wsX30, w ∈ wsX3_init := fun _ h => List.mem_cons_of_mem _ (List.mem_append_right _ h)
set_option maxHeartbeats 4000000 in
set_option maxRecDepth 100000 in
theorem kX3_init (l : Launch) (dC : Nat → ClassId) (dI : Nat → Nat → Nat) (cyI cyZ : ClassId) (h0 : Nat) (sz : Nat) : Met l yX3_init wsX3_init ({ frames := 1, cells := 1, slots := 60, locals := 20 }) (bs_W dC dI cyI cyZ [.ref h0] [(h0, .inr (2, [.null, .int 0]))] sz) (va_Qv (S := Nat) (fun _ : Nat => True) (fun q t => bs_E dC dI (va_A [(h0, .inr (2, [.null, .int 0]))] sz) [(h0, .inr (2, [.ref q, .int 0])), (q, .inl (cyI, 60, .inl (fun _ => (0 : Int32))))] t) (va_A [(h0, .inr (2, [.null, .int 0]))] sz)) 1 60 (va_A [(h0, .inr (2, [.null, .int 0]))] sz) := by
  refine Met.ofW (cc := cX3_init) (maxL := 1) (ret := none) (by decide) rfl ?_
  intro p e s m args below meth c s₁ B hml hv
  obtain ⟨rfl, hsz, hB, hP, hD0⟩ := hv
  have hK := hB.1
  have hN := hB.2
  have hx := B.exec
  have hb := B.bytes
  have hr := B.returns
  have hts := atoms_spec (ws := wsX3_init) B.pre
  have hown : s.vm.findClass RX3 = some m.cls := findClass_of_methodNamed B.named
  have hlocks := B.notSynchronized
  have hin : meth.name = "<init>" := (name_of_methodNamed B.named B.method).1
  subst hsz
  have hD := hD0.self (sz := s.heap.size)
  generalize hAe : va_A [(h0, .inr (2, [.null, .int 0]))] s.heap.size = A at hD ⊢
  have hA : ∀ q : Nat, s.heap.size ≤ q → A q := fun q h => by rw [← hAe]; exact Or.inr h
  have hS : va_S A s.heap s.heap [] := va_S.rf
  have hP : va_P (dC, dI) vwCl [(h0, .inr (2, [.null, .int 0]))] s.heap := hP
  have hl := lv_entry ([.ref h0]) (n := 1) (Nat.le_of_ble_eq_true rfl)
  rw [lg_entry_eq]
  generalize (lg_sl ([.ref h0]) ++ List.replicate (1 - (lg_sl ([.ref h0])).length) Slot.unset).toArray = ls at hl ⊢
  have hl : lv_has ls 1 [(0, .ref h0)] := hl
  refine lv_aload_n hx hb dX3_init_0 rfl (lv_at hl 0 rfl) ?_
  refine W.objInit hx hb hown (hts (.methodLink RX3 3 objectInit) (by decide +kernel)) (hts (.instanceMethod objectInit) (by decide +kernel)) (hts (.code objectInit ⟨#[0xb1]⟩ 1 none) (by decide +kernel)) rfl (by rw [hml]; exact hl.1) rfl dX3_init_1 (Nat.le_of_ble_eq_true rfl) (Nat.le_of_ble_eq_true rfl) ?_
  refine W.eq (g2 := F0 m 4 ls []) rfl ?_
  refine lv_aload_n hx hb dX3_init_4 rfl (lv_at hl 0 rfl) ?_
  refine lv_bipush (v := 60) hx hb dX3_init_5 (by decide) ?_
  refine bs_newI (n := 60) hx hb (hts (.arrayClass .int) (by decide +kernel)) hB hP hD hS hA 60 (by decide) (by decide) (Nat.le_of_ble_eq_true rfl) (Nat.le_of_ble_eq_true rfl) (Nat.le_of_ble_eq_true rfl) dX3_init_7 (fun q_1 H hP hD hS => ?_)
  refine W.widen (k := 1) (n := 60) (Nat.le_of_ble_eq_true rfl) (Nat.le_of_ble_eq_true rfl) ?_
  have hP : va_P (dC, dI) vwCl [(h0, .inr (2, [.null, .int 0])), (q_1, .inl (cyI, 60, .inl (fun _ => (0 : Int32))))] _ := hP
  have hD : va_D A [(h0, .inr (2, [.null, .int 0])), (q_1, .inl (cyI, 60, .inl (fun _ => (0 : Int32))))] := hD
  refine va_putF (D := (dC, dI)) (ci := 2) (v := .ref q_1) (ty := (.array .int)) (C := RX3) (T := TX3) (N := 2) hx hb hts hnX3_init_X3 tyX3 tyX3_ok nmX3 hown hK hP hD hS 0 rfl rfl 0 (by decide) (hts (.fieldLink RX3 9 "RingMeets$Rules" "told" "[I") (by decide +kernel)) (fun _ h9 => h9) rfl hin rfl (by decide +kernel) rfl rfl (Nat.le_of_ble_eq_true rfl) dX3_init_9 (fun H locs hP hD hS => ?_)
  have hP : va_P (dC, dI) vwCl [(h0, .inr (2, [.ref q_1, .int 0])), (q_1, .inl (cyI, 60, .inl (fun _ => (0 : Int32))))] _ := hP
  have hD : va_D A [(h0, .inr (2, [.ref q_1, .int 0])), (q_1, .inl (cyI, 60, .inl (fun _ => (0 : Int32))))] := hD
  exact W.vret hx hb hr (fun t ht hW => ⟨⟨q_1, rfl, trivial, ⟨by rw [ht]; exact hP.sub (ws' := [(h0, .inr (2, [.ref q_1, .int 0])), (q_1, .inl (cyI, 60, .inl (fun _ => (0 : Int32))))]) [0, 1] rfl, hD.sub (ws' := [(h0, .inr (2, [.ref q_1, .int 0])), (q_1, .inl (cyI, 60, .inl (fun _ => (0 : Int32))))]) [0, 1] (by decide) rfl⟩⟩, hS.F ht⟩) hS.2.2 dX3_init_12

theorem hnX4_init_X3 : ∀ w ∈ wsX30, w ∈ wsX4_init := fun _ h => List.mem_cons_of_mem _ (List.mem_append_right _ h)
theorem hnX4_init_X4 : ∀ w ∈ wsX40, w ∈ wsX4_init := fun _ h => List.mem_cons_of_mem _ (List.mem_append_left _ (List.mem_append_right _ h))
set_option maxHeartbeats 4000000 in
set_option maxRecDepth 100000 in
theorem kX4_init (l : Launch) (dC : Nat → ClassId) (dI : Nat → Nat → Nat) (cyI cyZ : ClassId) (h0 : Nat) (sz : Nat) : Met l yX4_init wsX4_init ({ frames := 2, cells := 3, slots := 72, locals := 40 }) (bs_W dC dI cyI cyZ [.ref h0] [(h0, .inr (3, [.null, .null, .int 0]))] sz) (va_Qv (S := Nat × Nat × Nat) (fun _ : Nat × Nat × Nat => True) (fun q t => bs_E dC dI (va_A [(h0, .inr (3, [.null, .null, .int 0]))] sz) [(h0, .inr (3, [.ref q.1, .ref q.2.1, .int 8])), (q.1, .inl (cyI, 10, .inl (fun _ => (0 : Int32)))), (q.2.1, .inr (2, [.ref q.2.2, .int 0])), (q.2.2, .inl (cyI, 60, .inl (fun _ => (0 : Int32))))] t) (va_A [(h0, .inr (3, [.null, .null, .int 0]))] sz)) 3 72 (va_A [(h0, .inr (3, [.null, .null, .int 0]))] sz) := by
  refine Met.ofW (cc := cX4_init) (maxL := 1) (ret := none) (by decide) rfl ?_
  intro p e s m args below meth c s₁ B hml hv
  obtain ⟨rfl, hsz, hB, hP, hD0⟩ := hv
  have hK := hB.1
  have hN := hB.2
  have hx := B.exec
  have hb := B.bytes
  have hr := B.returns
  have hts := atoms_spec (ws := wsX4_init) B.pre
  have hown : s.vm.findClass RX4 = some m.cls := findClass_of_methodNamed B.named
  have hlocks := B.notSynchronized
  have hin : meth.name = "<init>" := (name_of_methodNamed B.named B.method).1
  subst hsz
  have hD := hD0.self (sz := s.heap.size)
  generalize hAe : va_A [(h0, .inr (3, [.null, .null, .int 0]))] s.heap.size = A at hD ⊢
  have hA : ∀ q : Nat, s.heap.size ≤ q → A q := fun q h => by rw [← hAe]; exact Or.inr h
  have hS : va_S A s.heap s.heap [] := va_S.rf
  have hP : va_P (dC, dI) vwCl [(h0, .inr (3, [.null, .null, .int 0]))] s.heap := hP
  have hl := lv_entry ([.ref h0]) (n := 1) (Nat.le_of_ble_eq_true rfl)
  rw [lg_entry_eq]
  generalize (lg_sl ([.ref h0]) ++ List.replicate (1 - (lg_sl ([.ref h0])).length) Slot.unset).toArray = ls at hl ⊢
  have hl : lv_has ls 1 [(0, .ref h0)] := hl
  refine lv_aload_n hx hb dX4_init_0 rfl (lv_at hl 0 rfl) ?_
  refine W.objInit hx hb hown (hts (.methodLink RX4 3 objectInit) (by decide +kernel)) (hts (.instanceMethod objectInit) (by decide +kernel)) (hts (.code objectInit ⟨#[0xb1]⟩ 1 none) (by decide +kernel)) rfl (by rw [hml]; exact hl.1) rfl dX4_init_1 (Nat.le_of_ble_eq_true rfl) (Nat.le_of_ble_eq_true rfl) ?_
  refine W.eq (g2 := F0 m 4 ls []) rfl ?_
  refine lv_aload_n hx hb dX4_init_4 rfl (lv_at hl 0 rfl) ?_
  refine lv_bipush (v := 10) hx hb dX4_init_5 (by decide) ?_
  refine bs_newI (n := 10) hx hb (hts (.arrayClass .int) (by decide +kernel)) hB hP hD hS hA 10 (by decide) (by decide) (Nat.le_of_ble_eq_true rfl) (Nat.le_of_ble_eq_true rfl) (Nat.le_of_ble_eq_true rfl) dX4_init_7 (fun q_1 H hP hD hS => ?_)
  refine W.widen (k := 1) (n := 10) (Nat.le_of_ble_eq_true rfl) (Nat.le_of_ble_eq_true rfl) ?_
  have hP : va_P (dC, dI) vwCl [(h0, .inr (3, [.null, .null, .int 0])), (q_1, .inl (cyI, 10, .inl (fun _ => (0 : Int32))))] _ := hP
  have hD : va_D A [(h0, .inr (3, [.null, .null, .int 0])), (q_1, .inl (cyI, 10, .inl (fun _ => (0 : Int32))))] := hD
  refine va_putF (D := (dC, dI)) (ci := 3) (v := .ref q_1) (ty := (.array .int)) (C := RX4) (T := TX4) (N := 3) hx hb hts hnX4_init_X4 tyX4 tyX4_ok nmX4 hown hK hP hD hS 0 rfl rfl 0 (by decide) (hts (.fieldLink RX4 9 "RingMeets$Scene" "walkers" "[I") (by decide +kernel)) (fun _ h9 => h9) rfl hin rfl (by decide +kernel) rfl rfl (Nat.le_of_ble_eq_true rfl) dX4_init_9 (fun H locs hP hD hS => ?_)
  have hP : va_P (dC, dI) vwCl [(h0, .inr (3, [.ref q_1, .null, .int 0])), (q_1, .inl (cyI, 10, .inl (fun _ => (0 : Int32))))] _ := hP
  have hD : va_D A [(h0, .inr (3, [.ref q_1, .null, .int 0])), (q_1, .inl (cyI, 10, .inl (fun _ => (0 : Int32))))] := hD
  refine lv_aload_n hx hb dX4_init_12 rfl (lv_at hl 0 rfl) ?_
  refine va_new (ci := 2) (fs := [.null, .int 0]) (C := RX3) (T := TX3) (N := 2) hx hb hts hnX4_init_X3 tyX3 tyX3_ok hown (hts (.classLink RX4 15 RX3) (by decide +kernel)) (hts (.instantiable RX3 2) (by decide +kernel)) (hts (.initialized RX3) (by decide +kernel)) hK hP hD hS hA rfl (fun j hj => by rcases (show j = 0 ∨ j = 1 by omega) with rfl | rfl <;> rfl) (Nat.le_of_ble_eq_true rfl) (Nat.le_of_ble_eq_true rfl) dX4_init_13 (fun q_2 H hP hD hS => ?_)
  refine W.widen (k := 2) (n := 12) (Nat.le_of_ble_eq_true rfl) (Nat.le_of_ble_eq_true rfl) ?_
  have hP : va_P (dC, dI) vwCl [(h0, .inr (3, [.ref q_1, .null, .int 0])), (q_1, .inl (cyI, 10, .inl (fun _ => (0 : Int32)))), (q_2, .inr (2, [.null, .int 0]))] _ := hP
  have hD : va_D A [(h0, .inr (3, [.ref q_1, .null, .int 0])), (q_1, .inl (cyI, 10, .inl (fun _ => (0 : Int32)))), (q_2, .inr (2, [.null, .int 0]))] := hD
  refine lv_dup hx hb dX4_init_16 rfl ?_
  have f_3 := va_free (wc := [(q_2, .inr (2, [.null, .int 0]))]) hD hS hA [2] rfl
  refine va_callv (va_runIN (As := []) (rest := [.ref q_2, .ref h0]) ⟨hx, hb, hml, hown, hts⟩ (kX3_init l dC dI cyI cyZ q_2 _) ⟨va_cnB 0 hts gX4_init_X3_init_n17 rfl rfl rfl (hN.at 1 rfl) (hts (.initialized RX3) (by decide +kernel)) (by decide +kernel) ⟨Nat.le_of_ble_eq_true rfl, Nat.le_of_ble_eq_true rfl⟩, rfl, (hts (.instanceMethod yX3_init) (by decide +kernel))⟩ (bs_WS hB (hP.sub (ws' := [(q_2, .inr (2, [.null, .int 0]))]) [2] rfl) (hD.sub (ws' := [(q_2, .inr (2, [.null, .int 0]))]) [2] (by decide) rfl)) rfl rfl hl.1 rfl (lv_room (Nat.le_of_ble_eq_true rfl)) dX4_init_17 ⟨Nat.le_of_ble_eq_true rfl, Nat.le_of_ble_eq_true rfl⟩) hS (fun q _ h => f_3 q h) f_3 (fun uh_4 t H1 locs ht hvm h_4 hB1 hz1 hk1 hS => ?_)
  obtain ⟨hP1, hD1⟩ := hB1
  rw [ht] at hP1
  obtain ⟨hP, hD⟩ := va_join (wr := [(h0, .inr (3, [.ref q_1, .null, .int 0])), (q_1, .inl (cyI, 10, .inl (fun _ => (0 : Int32))))]) (w1 := [(q_2, .inr (2, [.ref uh_4, .int 0])), (uh_4, .inl (cyI, 60, .inl (fun _ => (0 : Int32))))]) hP hD [2] [0, 1] rfl rfl (by decide) (by decide) hk1 f_3 hP1 hD1
  generalize H1 = H at hP hS ⊢
  have hP : va_P (dC, dI) vwCl [(h0, .inr (3, [.ref q_1, .null, .int 0])), (q_1, .inl (cyI, 10, .inl (fun _ => (0 : Int32)))), (q_2, .inr (2, [.ref uh_4, .int 0])), (uh_4, .inl (cyI, 60, .inl (fun _ => (0 : Int32))))] _ := hP
  have hD : va_D A [(h0, .inr (3, [.ref q_1, .null, .int 0])), (q_1, .inl (cyI, 10, .inl (fun _ => (0 : Int32)))), (q_2, .inr (2, [.ref uh_4, .int 0])), (uh_4, .inl (cyI, 60, .inl (fun _ => (0 : Int32))))] := hD
  refine W.widen (k := 3) (n := 72) (Nat.le_of_ble_eq_true rfl) (Nat.le_of_ble_eq_true rfl) ?_
  refine va_putF (D := (dC, dI)) (ci := 3) (v := .ref q_2) (ty := (.object "RingMeets$Rules")) (C := RX4) (T := TX4) (N := 3) hx hb hts hnX4_init_X4 tyX4 tyX4_ok nmX4 hown hK hP hD hS 0 rfl rfl 1 (by decide) (hts (.fieldLink RX4 18 "RingMeets$Scene" "rules" "LRingMeets$Rules;") (by decide +kernel)) (fun _ h9 => h9) rfl hin rfl (by decide +kernel) rfl rfl (Nat.le_of_ble_eq_true rfl) dX4_init_20 (fun H locs hP hD hS => ?_)
  have hP : va_P (dC, dI) vwCl [(h0, .inr (3, [.ref q_1, .ref q_2, .int 0])), (q_1, .inl (cyI, 10, .inl (fun _ => (0 : Int32)))), (q_2, .inr (2, [.ref uh_4, .int 0])), (uh_4, .inl (cyI, 60, .inl (fun _ => (0 : Int32))))] _ := hP
  have hD : va_D A [(h0, .inr (3, [.ref q_1, .ref q_2, .int 0])), (q_1, .inl (cyI, 10, .inl (fun _ => (0 : Int32)))), (q_2, .inr (2, [.ref uh_4, .int 0])), (uh_4, .inl (cyI, 60, .inl (fun _ => (0 : Int32))))] := hD
  refine lv_aload_n hx hb dX4_init_23 rfl (lv_at hl 0 rfl) ?_
  refine lv_bipush (v := 8) hx hb dX4_init_24 (by decide) ?_
  refine va_put (D := (dC, dI)) (ci := 3) (v := .int 8) (ty := .int) (C := RX4) (T := TX4) (N := 3) hx hb hts hnX4_init_X4 tyX4 tyX4_ok nmX4 hown hK hP hD hS 0 rfl rfl 2 (by decide) (hts (.fieldLink RX4 22 "RingMeets$Scene" "cells" "I") (by decide +kernel)) (fun _ h9 => h9) rfl (by decide +kernel) rfl rfl (Nat.le_of_ble_eq_true rfl) dX4_init_26 (fun H locs hP hD hS => ?_)
  have hP : va_P (dC, dI) vwCl [(h0, .inr (3, [.ref q_1, .ref q_2, .int 8])), (q_1, .inl (cyI, 10, .inl (fun _ => (0 : Int32)))), (q_2, .inr (2, [.ref uh_4, .int 0])), (uh_4, .inl (cyI, 60, .inl (fun _ => (0 : Int32))))] _ := hP
  have hD : va_D A [(h0, .inr (3, [.ref q_1, .ref q_2, .int 8])), (q_1, .inl (cyI, 10, .inl (fun _ => (0 : Int32)))), (q_2, .inr (2, [.ref uh_4, .int 0])), (uh_4, .inl (cyI, 60, .inl (fun _ => (0 : Int32))))] := hD
  exact W.vret hx hb hr (fun t ht hW => ⟨⟨(q_1, q_2, uh_4), rfl, trivial, ⟨by rw [ht]; exact hP.sub (ws' := [(h0, .inr (3, [.ref q_1, .ref q_2, .int 8])), (q_1, .inl (cyI, 10, .inl (fun _ => (0 : Int32)))), (q_2, .inr (2, [.ref uh_4, .int 0])), (uh_4, .inl (cyI, 60, .inl (fun _ => (0 : Int32))))]) [0, 1, 2, 3] rfl, hD.sub (ws' := [(h0, .inr (3, [.ref q_1, .ref q_2, .int 8])), (q_1, .inl (cyI, 10, .inl (fun _ => (0 : Int32)))), (q_2, .inr (2, [.ref uh_4, .int 0])), (uh_4, .inl (cyI, 60, .inl (fun _ => (0 : Int32))))]) [0, 1, 2, 3] (by decide) rfl⟩⟩, hS.F ht⟩) hS.2.2 dX4_init_29
