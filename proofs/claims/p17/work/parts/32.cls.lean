set_option maxHeartbeats 4000000 in
set_option maxRecDepth 100000 in
theorem mX7_isSchedule (l : Launch) (dC : Nat → ClassId) (dI : Nat → Nat → Nat) (cyI cyZ : ClassId) (p0 : Int32)  : Met l yX7_isSchedule wsX7_isSchedule ({ frames := 0, cells := 0, slots := 0, locals := 0 }) (bs_R dC dI cyI cyZ [.int p0] []) (vp_Si (fun r : Int32 => r = 0 ∨ r = 1)) 0 0 (fun _ => False) := by
  refine Met.ofW (cc := cX7_isSchedule) (maxL := 1) (ret := (some .boolean)) (by decide) rfl ?_
  intro p e s m args below meth c s₁ B hml hv
  obtain ⟨rfl, hB, hP⟩ := hv
  have hK := hB.1
  have hN := hB.2
  have hx := B.exec
  have hb := B.bytes
  have hr := B.returns
  have hts := atoms_spec (ws := wsX7_isSchedule) B.pre
  have hown : s.vm.findClass RX7 = some m.cls := findClass_of_methodNamed B.named
  have hlocks := B.notSynchronized
  have hP : va_P (dC, dI) vwCl [] s.heap := hP
  have hl := lv_entry ([.int p0]) (n := 1) (Nat.le_of_ble_eq_true rfl)
  rw [lg_entry_eq]
  generalize (lg_sl ([.int p0]) ++ List.replicate (1 - (lg_sl ([.int p0])).length) Slot.unset).toArray = ls at hl ⊢
  have hl : lv_has ls 1 [(0, .int p0)] := hl
  refine lv_iload_n hx hb dX7_isSchedule_0 rfl (lv_at hl 0 rfl) ?_
  refine lv_if_lt (tgt := 13) hx hb dX7_isSchedule_1 (by decide) (fun c_1 => ?_) (fun c_1 => ?_)
  · skip
    have ic_1 := ci_lt (rfl : Int32.toInt p0 = _) (show Int32.toInt 0 = 0 by decide) c_1
    refine lv_iconst (v := 0) hx hb dX7_isSchedule_13 (by decide) ?_
    exact W.zret (v := 0) hx hb hr (show narrow .boolean (.int 0) = .int 0 from rfl) (fun t ht hW => ⟨0, rfl, Or.inl rfl, ht⟩) (fun q h => by cases h) dX7_isSchedule_14
  · skip
    have ic_1 := ci_nlt (rfl : Int32.toInt p0 = _) (show Int32.toInt 0 = 0 by decide) c_1
    refine lv_iload_n hx hb dX7_isSchedule_4 rfl (lv_at hl 0 rfl) ?_
    refine lv_iconst (v := 2) hx hb dX7_isSchedule_5 (by decide) ?_
    refine lv_icmp_gt (tgt := 13) hx hb dX7_isSchedule_6 (by decide) (fun c_2 => ?_) (fun c_2 => ?_)
    · skip
      have ic_2 := ci_lt (show Int32.toInt 2 = 2 by decide) (rfl : Int32.toInt p0 = _) c_2
      refine lv_iconst (v := 0) hx hb dX7_isSchedule_13 (by decide) ?_
      exact W.zret (v := 0) hx hb hr (show narrow .boolean (.int 0) = .int 0 from rfl) (fun t ht hW => ⟨0, rfl, Or.inl rfl, ht⟩) (fun q h => by cases h) dX7_isSchedule_14
    · skip
      have ic_2 := ci_nlt (show Int32.toInt 2 = 2 by decide) (rfl : Int32.toInt p0 = _) c_2
      refine lv_iconst (v := 1) hx hb dX7_isSchedule_9 (by decide) ?_
      refine lv_goto (tgt := 14) hx hb dX7_isSchedule_10 (by decide) ?_
      exact W.zret (v := 1) hx hb hr (show narrow .boolean (.int 1) = .int 1 from rfl) (fun t ht hW => ⟨1, rfl, Or.inr rfl, ht⟩) (fun q h => by cases h) dX7_isSchedule_14

theorem hnX7_ring_X4 : ∀ w ∈ wsX40, w ∈ wsX7_ring := fun _ h => List.mem_cons_of_mem _ (List.mem_append_right _ h)
theorem hnX7_ring_X7 : ∀ w ∈ wsX70, w ∈ wsX7_ring := fun _ h => List.mem_cons_of_mem _ (List.mem_append_left _ (List.mem_append_right _ h))
set_option maxHeartbeats 4000000 in
set_option maxRecDepth 100000 in
theorem mX7_ring_0 (l : Launch) (dC : Nat → ClassId) (dI : Nat → Nat → Nat) (cyI cyZ : ClassId) (x0 : Nat) (a1 : Nat) (b1 : Nat) (c1 : Nat) (xl : Nat) (xb : Nat) (kp : Int32) (a2 : Nat) (a3 : Nat) (na : Nat) (fa : Nat → Int32) (p1 : Int32) (hna : na ≤ 10) (sz : Nat) : Met l yX7_ring wsX7_ring ({ frames := 1, cells := 0, slots := 0, locals := 22 }) (bs_W dC dI cyI cyZ [.ref x0, .int p1] [(x0, .inr (5, [.ref a1, .ref b1, .ref c1, .ref xl, .ref xb, .int kp, .null])), (a1, .inr (3, [.ref a2, .ref a3, .int (nI na)])), (a2, .inl (cyI, 10, .inl fa))] sz) (va_Qi (S := Nat × (Nat → Int32)) (fun (r : Int32) (q : Nat × (Nat → Int32)) => q.1 ≤ 10) (fun q t => bs_E dC dI (va_A [(x0, .inr (5, [.ref a1, .ref b1, .ref c1, .ref xl, .ref xb, .int kp, .null])), (a1, .inr (3, [.ref a2, .ref a3, .int (nI na)])), (a2, .inl (cyI, 10, .inl fa))] sz) [(x0, .inr (5, [.ref a1, .ref b1, .ref c1, .ref xl, .ref xb, .int kp, .null])), (a1, .inr (3, [.ref a2, .ref a3, .int (nI q.1)])), (a2, .inl (cyI, 10, .inl q.2))] t) (va_A [(x0, .inr (5, [.ref a1, .ref b1, .ref c1, .ref xl, .ref xb, .int kp, .null])), (a1, .inr (3, [.ref a2, .ref a3, .int (nI na)])), (a2, .inl (cyI, 10, .inl fa))] sz)) 0 0 (va_A [(x0, .inr (5, [.ref a1, .ref b1, .ref c1, .ref xl, .ref xb, .int kp, .null])), (a1, .inr (3, [.ref a2, .ref a3, .int (nI na)])), (a2, .inl (cyI, 10, .inl fa))] sz) := by
  refine Met.ofW (cc := cX7_ring) (maxL := 3) (ret := (some .int)) (by decide) rfl ?_
  intro p e s m args below meth c s₁ B hml hv
  obtain ⟨rfl, hsz, hB, hP, hD0⟩ := hv
  have hK := hB.1
  have hN := hB.2
  have hx := B.exec
  have hb := B.bytes
  have hr := B.returns
  have hts := atoms_spec (ws := wsX7_ring) B.pre
  have hown : s.vm.findClass RX7 = some m.cls := findClass_of_methodNamed B.named
  have hlocks := B.notSynchronized
  subst hsz
  have hD := hD0.self (sz := s.heap.size)
  generalize hAe : va_A [(x0, .inr (5, [.ref a1, .ref b1, .ref c1, .ref xl, .ref xb, .int kp, .null])), (a1, .inr (3, [.ref a2, .ref a3, .int (nI na)])), (a2, .inl (cyI, 10, .inl fa))] s.heap.size = A at hD ⊢
  have hA : ∀ q : Nat, s.heap.size ≤ q → A q := fun q h => by rw [← hAe]; exact Or.inr h
  have hS : va_S A s.heap s.heap [] := va_S.rf
  have hP : va_P (dC, dI) vwCl [(x0, .inr (5, [.ref a1, .ref b1, .ref c1, .ref xl, .ref xb, .int kp, .null])), (a1, .inr (3, [.ref a2, .ref a3, .int (nI na)])), (a2, .inl (cyI, 10, .inl fa))] s.heap := hP
  have hl := lv_entry ([.ref x0, .int p1]) (n := 3) (Nat.le_of_ble_eq_true rfl)
  rw [lg_entry_eq]
  generalize (lg_sl ([.ref x0, .int p1]) ++ List.replicate (3 - (lg_sl ([.ref x0, .int p1])).length) Slot.unset).toArray = ls at hl ⊢
  have hl : lv_has ls 3 [(0, .ref x0), (1, .int p1)] := hl
  refine lv_iload_n hx hb dX7_ring_0 rfl (lv_at hl 1 rfl) ?_
  refine lv_iconst (v := 3) hx hb dX7_ring_1 (by decide) ?_
  refine lv_icmp_lt (tgt := 11) hx hb dX7_ring_2 (by decide) (fun c_1 => ?_) (fun c_1 => ?_)
  · skip
    have ic_1 := ci_lt (rfl : Int32.toInt p1 = _) (show Int32.toInt 3 = 3 by decide) c_1
    refine lv_bipush (v := (-2)) hx hb dX7_ring_11 (by decide) ?_
    exact W.iret (v := (-2)) hx hb hr (fun t ht hW => ⟨⟨(-2), (na, fa), rfl, by omega, ⟨by rw [ht]; exact hP.sub (ws' := [(x0, .inr (5, [.ref a1, .ref b1, .ref c1, .ref xl, .ref xb, .int kp, .null])), (a1, .inr (3, [.ref a2, .ref a3, .int (nI na)])), (a2, .inl (cyI, 10, .inl fa))]) [0, 1, 2] rfl, hD.sub (ws' := [(x0, .inr (5, [.ref a1, .ref b1, .ref c1, .ref xl, .ref xb, .int kp, .null])), (a1, .inr (3, [.ref a2, .ref a3, .int (nI na)])), (a2, .inl (cyI, 10, .inl fa))]) [0, 1, 2] (by decide) rfl⟩⟩, hS.F ht⟩) hS.2.2 dX7_ring_13
  · skip
    have ic_1 := ci_nlt (rfl : Int32.toInt p1 = _) (show Int32.toInt 3 = 3 by decide) c_1
    refine lv_iload_n hx hb dX7_ring_5 rfl (lv_at hl 1 rfl) ?_
    refine lv_bipush (v := 10) hx hb dX7_ring_6 (by decide) ?_
    refine lv_icmp_le (tgt := 14) hx hb dX7_ring_8 (by decide) (fun c_2 => ?_) (fun c_2 => ?_)
    · skip
      have ic_2 := ci_le (rfl : Int32.toInt p1 = _) (show Int32.toInt 10 = 10 by decide) c_2
      obtain ⟨v, hv9, ev9⟩ := nb_of (x := p1) (n := 10) (by omega) (by omega) (by decide)
      subst ev9
      refine lv_aload_n hx hb dX7_ring_14 rfl (lv_at hl 0 rfl) ?_
      refine va_get (D := (dC, dI)) (ci := 5) (v := .ref a1) (C := RX7) (T := TX7) (N := 7) hx hb hts hnX7_ring_X7 hown hK hP 0 rfl rfl 0 (by decide) (hts (.fieldLink RX7 10 "RingMeets" "now" "LRingMeets$Scene;") (by decide +kernel)) (fun _ h9 => h9) rfl dX7_ring_15 ?_
      refine va_getN (D := (dC, dI)) (ci := 3) (v := .int (nI na)) (C := RX4) (T := TX4) (N := 3) hx hb hts hnX7_ring_X4 hown hK hP 1 rfl rfl 2 (by decide) (hN.fld 4 rfl) (fun _ h9 => h9) rfl dX7_ring_18 ?_
      refine lv_istore_n (lv' := [(2, .int (nI na)), (0, .ref x0), (1, .int (nI v))]) hx hb dX7_ring_21 rfl hl (by decide) rfl (fun ls hl => ?_)
      refine lv_aload_n hx hb dX7_ring_22 rfl (lv_at hl 1 rfl) ?_
      refine va_get (D := (dC, dI)) (ci := 5) (v := .ref a1) (C := RX7) (T := TX7) (N := 7) hx hb hts hnX7_ring_X7 hown hK hP 0 rfl rfl 0 (by decide) (hts (.fieldLink RX7 10 "RingMeets" "now" "LRingMeets$Scene;") (by decide +kernel)) (fun _ h9 => h9) rfl dX7_ring_23 ?_
      refine lv_iload_n hx hb dX7_ring_26 rfl (lv_at hl 2 rfl) ?_
      have f_3 := va_free (wc := [(a1, .inr (3, [.ref a2, .ref a3, .int (nI na)])), (a2, .inl (cyI, 10, .inl fa))]) hD hS hA [1, 2] rfl
      refine va_callv (va_runV (As := [.int (nI v)]) (rest := []) ⟨hx, hb, hml, hown, hts⟩ (mX4_empty l dC dI cyI cyZ a1 a2 a3 na v fa  _) (cwV 1 hts gX7_ring_X4_empty rfl rfl rfl (by decide +kernel) ⟨Nat.le_of_ble_eq_true rfl, Nat.le_of_ble_eq_true rfl⟩) (bs_WV hB (hP.sub (ws' := [(a1, .inr (3, [.ref a2, .ref a3, .int (nI na)])), (a2, .inl (cyI, 10, .inl fa))]) [1, 2] rfl) (hD.sub (ws' := [(a1, .inr (3, [.ref a2, .ref a3, .int (nI na)])), (a2, .inl (cyI, 10, .inl fa))]) [1, 2] (by decide) rfl) 0 rfl rfl) rfl rfl hl.1 rfl (lv_room (Nat.le_of_ble_eq_true rfl)) dX7_ring_27 ⟨Nat.le_of_ble_eq_true rfl, Nat.le_of_ble_eq_true rfl⟩) hS (fun q _ h => f_3 q h) f_3 (fun uh_4 t H1 locs ht hvm h_4 hB1 hz1 hk1 hS => ?_)
      obtain ⟨g_5, rfl⟩ : ∃ z, z = uh_4 := ⟨_, rfl⟩
      obtain ⟨hP1, hD1⟩ := hB1
      rw [ht] at hP1
      obtain ⟨hP, hD⟩ := va_join (wr := [(x0, .inr (5, [.ref a1, .ref b1, .ref c1, .ref xl, .ref xb, .int kp, .null]))]) (w1 := [(a1, .inr (3, [.ref a2, .ref a3, .int (nI v)])), (a2, .inl (cyI, 10, .inl g_5))]) hP hD [1, 2] [0] rfl rfl (by decide) (by decide) hk1 f_3 hP1 hD1
      generalize H1 = H at hP hS ⊢
      have hP : va_P (dC, dI) vwCl [(x0, .inr (5, [.ref a1, .ref b1, .ref c1, .ref xl, .ref xb, .int kp, .null])), (a1, .inr (3, [.ref a2, .ref a3, .int (nI v)])), (a2, .inl (cyI, 10, .inl g_5))] _ := hP
      have hD : va_D A [(x0, .inr (5, [.ref a1, .ref b1, .ref c1, .ref xl, .ref xb, .int kp, .null])), (a1, .inr (3, [.ref a2, .ref a3, .int (nI v)])), (a2, .inl (cyI, 10, .inl g_5))] := hD
      refine lv_iload_n hx hb dX7_ring_30 rfl (lv_at hl 0 rfl) ?_
      exact W.iret (v := (nI na)) hx hb hr (fun t ht hW => ⟨⟨(nI na), (v, g_5), rfl, by omega, ⟨by rw [ht]; exact hP.sub (ws' := [(x0, .inr (5, [.ref a1, .ref b1, .ref c1, .ref xl, .ref xb, .int kp, .null])), (a1, .inr (3, [.ref a2, .ref a3, .int (nI v)])), (a2, .inl (cyI, 10, .inl g_5))]) [0, 1, 2] rfl, hD.sub (ws' := [(x0, .inr (5, [.ref a1, .ref b1, .ref c1, .ref xl, .ref xb, .int kp, .null])), (a1, .inr (3, [.ref a2, .ref a3, .int (nI v)])), (a2, .inl (cyI, 10, .inl g_5))]) [0, 1, 2] (by decide) rfl⟩⟩, hS.F ht⟩) hS.2.2 dX7_ring_31
    · skip
      have ic_2 := ci_nle (rfl : Int32.toInt p1 = _) (show Int32.toInt 10 = 10 by decide) c_2
      refine lv_bipush (v := (-2)) hx hb dX7_ring_11 (by decide) ?_
      exact W.iret (v := (-2)) hx hb hr (fun t ht hW => ⟨⟨(-2), (na, fa), rfl, by omega, ⟨by rw [ht]; exact hP.sub (ws' := [(x0, .inr (5, [.ref a1, .ref b1, .ref c1, .ref xl, .ref xb, .int kp, .null])), (a1, .inr (3, [.ref a2, .ref a3, .int (nI na)])), (a2, .inl (cyI, 10, .inl fa))]) [0, 1, 2] rfl, hD.sub (ws' := [(x0, .inr (5, [.ref a1, .ref b1, .ref c1, .ref xl, .ref xb, .int kp, .null])), (a1, .inr (3, [.ref a2, .ref a3, .int (nI na)])), (a2, .inl (cyI, 10, .inl fa))]) [0, 1, 2] (by decide) rfl⟩⟩, hS.F ht⟩) hS.2.2 dX7_ring_13

set_option maxHeartbeats 4000000 in
set_option maxRecDepth 100000 in
theorem mX7_ring_1 (l : Launch) (dC : Nat → ClassId) (dI : Nat → Nat → Nat) (cyI cyZ : ClassId) (x0 : Nat) (a1 : Nat) (b1 : Nat) (c1 : Nat) (xl : Nat) (xb : Nat) (kp : Int32) (wk : Nat) (a2 : Nat) (a3 : Nat) (na : Nat) (fa : Nat → Int32) (p1 : Int32) (hna : na ≤ 10) (sz : Nat) : Met l yX7_ring wsX7_ring ({ frames := 1, cells := 0, slots := 0, locals := 22 }) (bs_W dC dI cyI cyZ [.ref x0, .int p1] [(x0, .inr (5, [.ref a1, .ref b1, .ref c1, .ref xl, .ref xb, .int kp, .ref wk])), (a1, .inr (3, [.ref a2, .ref a3, .int (nI na)])), (a2, .inl (cyI, 10, .inl fa))] sz) (va_Qi (S := Nat × (Nat → Int32)) (fun (r : Int32) (q : Nat × (Nat → Int32)) => q.1 ≤ 10) (fun q t => bs_E dC dI (va_A [(x0, .inr (5, [.ref a1, .ref b1, .ref c1, .ref xl, .ref xb, .int kp, .ref wk])), (a1, .inr (3, [.ref a2, .ref a3, .int (nI na)])), (a2, .inl (cyI, 10, .inl fa))] sz) [(x0, .inr (5, [.ref a1, .ref b1, .ref c1, .ref xl, .ref xb, .int kp, .ref wk])), (a1, .inr (3, [.ref a2, .ref a3, .int (nI q.1)])), (a2, .inl (cyI, 10, .inl q.2))] t) (va_A [(x0, .inr (5, [.ref a1, .ref b1, .ref c1, .ref xl, .ref xb, .int kp, .ref wk])), (a1, .inr (3, [.ref a2, .ref a3, .int (nI na)])), (a2, .inl (cyI, 10, .inl fa))] sz)) 0 0 (va_A [(x0, .inr (5, [.ref a1, .ref b1, .ref c1, .ref xl, .ref xb, .int kp, .ref wk])), (a1, .inr (3, [.ref a2, .ref a3, .int (nI na)])), (a2, .inl (cyI, 10, .inl fa))] sz) := by
  refine Met.ofW (cc := cX7_ring) (maxL := 3) (ret := (some .int)) (by decide) rfl ?_
  intro p e s m args below meth c s₁ B hml hv
  obtain ⟨rfl, hsz, hB, hP, hD0⟩ := hv
  have hK := hB.1
  have hN := hB.2
  have hx := B.exec
  have hb := B.bytes
  have hr := B.returns
  have hts := atoms_spec (ws := wsX7_ring) B.pre
  have hown : s.vm.findClass RX7 = some m.cls := findClass_of_methodNamed B.named
  have hlocks := B.notSynchronized
  subst hsz
  have hD := hD0.self (sz := s.heap.size)
  generalize hAe : va_A [(x0, .inr (5, [.ref a1, .ref b1, .ref c1, .ref xl, .ref xb, .int kp, .ref wk])), (a1, .inr (3, [.ref a2, .ref a3, .int (nI na)])), (a2, .inl (cyI, 10, .inl fa))] s.heap.size = A at hD ⊢
  have hA : ∀ q : Nat, s.heap.size ≤ q → A q := fun q h => by rw [← hAe]; exact Or.inr h
  have hS : va_S A s.heap s.heap [] := va_S.rf
  have hP : va_P (dC, dI) vwCl [(x0, .inr (5, [.ref a1, .ref b1, .ref c1, .ref xl, .ref xb, .int kp, .ref wk])), (a1, .inr (3, [.ref a2, .ref a3, .int (nI na)])), (a2, .inl (cyI, 10, .inl fa))] s.heap := hP
  have hl := lv_entry ([.ref x0, .int p1]) (n := 3) (Nat.le_of_ble_eq_true rfl)
  rw [lg_entry_eq]
  generalize (lg_sl ([.ref x0, .int p1]) ++ List.replicate (3 - (lg_sl ([.ref x0, .int p1])).length) Slot.unset).toArray = ls at hl ⊢
  have hl : lv_has ls 3 [(0, .ref x0), (1, .int p1)] := hl
  refine lv_iload_n hx hb dX7_ring_0 rfl (lv_at hl 1 rfl) ?_
  refine lv_iconst (v := 3) hx hb dX7_ring_1 (by decide) ?_
  refine lv_icmp_lt (tgt := 11) hx hb dX7_ring_2 (by decide) (fun c_1 => ?_) (fun c_1 => ?_)
  · skip
    have ic_1 := ci_lt (rfl : Int32.toInt p1 = _) (show Int32.toInt 3 = 3 by decide) c_1
    refine lv_bipush (v := (-2)) hx hb dX7_ring_11 (by decide) ?_
    exact W.iret (v := (-2)) hx hb hr (fun t ht hW => ⟨⟨(-2), (na, fa), rfl, by omega, ⟨by rw [ht]; exact hP.sub (ws' := [(x0, .inr (5, [.ref a1, .ref b1, .ref c1, .ref xl, .ref xb, .int kp, .ref wk])), (a1, .inr (3, [.ref a2, .ref a3, .int (nI na)])), (a2, .inl (cyI, 10, .inl fa))]) [0, 1, 2] rfl, hD.sub (ws' := [(x0, .inr (5, [.ref a1, .ref b1, .ref c1, .ref xl, .ref xb, .int kp, .ref wk])), (a1, .inr (3, [.ref a2, .ref a3, .int (nI na)])), (a2, .inl (cyI, 10, .inl fa))]) [0, 1, 2] (by decide) rfl⟩⟩, hS.F ht⟩) hS.2.2 dX7_ring_13
  · skip
    have ic_1 := ci_nlt (rfl : Int32.toInt p1 = _) (show Int32.toInt 3 = 3 by decide) c_1
    refine lv_iload_n hx hb dX7_ring_5 rfl (lv_at hl 1 rfl) ?_
    refine lv_bipush (v := 10) hx hb dX7_ring_6 (by decide) ?_
    refine lv_icmp_le (tgt := 14) hx hb dX7_ring_8 (by decide) (fun c_2 => ?_) (fun c_2 => ?_)
    · skip
      have ic_2 := ci_le (rfl : Int32.toInt p1 = _) (show Int32.toInt 10 = 10 by decide) c_2
      obtain ⟨v, hv9, ev9⟩ := nb_of (x := p1) (n := 10) (by omega) (by omega) (by decide)
      subst ev9
      refine lv_aload_n hx hb dX7_ring_14 rfl (lv_at hl 0 rfl) ?_
      refine va_get (D := (dC, dI)) (ci := 5) (v := .ref a1) (C := RX7) (T := TX7) (N := 7) hx hb hts hnX7_ring_X7 hown hK hP 0 rfl rfl 0 (by decide) (hts (.fieldLink RX7 10 "RingMeets" "now" "LRingMeets$Scene;") (by decide +kernel)) (fun _ h9 => h9) rfl dX7_ring_15 ?_
      refine va_getN (D := (dC, dI)) (ci := 3) (v := .int (nI na)) (C := RX4) (T := TX4) (N := 3) hx hb hts hnX7_ring_X4 hown hK hP 1 rfl rfl 2 (by decide) (hN.fld 4 rfl) (fun _ h9 => h9) rfl dX7_ring_18 ?_
      refine lv_istore_n (lv' := [(2, .int (nI na)), (0, .ref x0), (1, .int (nI v))]) hx hb dX7_ring_21 rfl hl (by decide) rfl (fun ls hl => ?_)
      refine lv_aload_n hx hb dX7_ring_22 rfl (lv_at hl 1 rfl) ?_
      refine va_get (D := (dC, dI)) (ci := 5) (v := .ref a1) (C := RX7) (T := TX7) (N := 7) hx hb hts hnX7_ring_X7 hown hK hP 0 rfl rfl 0 (by decide) (hts (.fieldLink RX7 10 "RingMeets" "now" "LRingMeets$Scene;") (by decide +kernel)) (fun _ h9 => h9) rfl dX7_ring_23 ?_
      refine lv_iload_n hx hb dX7_ring_26 rfl (lv_at hl 2 rfl) ?_
      have f_3 := va_free (wc := [(a1, .inr (3, [.ref a2, .ref a3, .int (nI na)])), (a2, .inl (cyI, 10, .inl fa))]) hD hS hA [1, 2] rfl
      refine va_callv (va_runV (As := [.int (nI v)]) (rest := []) ⟨hx, hb, hml, hown, hts⟩ (mX4_empty l dC dI cyI cyZ a1 a2 a3 na v fa  _) (cwV 1 hts gX7_ring_X4_empty rfl rfl rfl (by decide +kernel) ⟨Nat.le_of_ble_eq_true rfl, Nat.le_of_ble_eq_true rfl⟩) (bs_WV hB (hP.sub (ws' := [(a1, .inr (3, [.ref a2, .ref a3, .int (nI na)])), (a2, .inl (cyI, 10, .inl fa))]) [1, 2] rfl) (hD.sub (ws' := [(a1, .inr (3, [.ref a2, .ref a3, .int (nI na)])), (a2, .inl (cyI, 10, .inl fa))]) [1, 2] (by decide) rfl) 0 rfl rfl) rfl rfl hl.1 rfl (lv_room (Nat.le_of_ble_eq_true rfl)) dX7_ring_27 ⟨Nat.le_of_ble_eq_true rfl, Nat.le_of_ble_eq_true rfl⟩) hS (fun q _ h => f_3 q h) f_3 (fun uh_4 t H1 locs ht hvm h_4 hB1 hz1 hk1 hS => ?_)
      obtain ⟨g_5, rfl⟩ : ∃ z, z = uh_4 := ⟨_, rfl⟩
      obtain ⟨hP1, hD1⟩ := hB1
      rw [ht] at hP1
      obtain ⟨hP, hD⟩ := va_join (wr := [(x0, .inr (5, [.ref a1, .ref b1, .ref c1, .ref xl, .ref xb, .int kp, .ref wk]))]) (w1 := [(a1, .inr (3, [.ref a2, .ref a3, .int (nI v)])), (a2, .inl (cyI, 10, .inl g_5))]) hP hD [1, 2] [0] rfl rfl (by decide) (by decide) hk1 f_3 hP1 hD1
      generalize H1 = H at hP hS ⊢
      have hP : va_P (dC, dI) vwCl [(x0, .inr (5, [.ref a1, .ref b1, .ref c1, .ref xl, .ref xb, .int kp, .ref wk])), (a1, .inr (3, [.ref a2, .ref a3, .int (nI v)])), (a2, .inl (cyI, 10, .inl g_5))] _ := hP
      have hD : va_D A [(x0, .inr (5, [.ref a1, .ref b1, .ref c1, .ref xl, .ref xb, .int kp, .ref wk])), (a1, .inr (3, [.ref a2, .ref a3, .int (nI v)])), (a2, .inl (cyI, 10, .inl g_5))] := hD
      refine lv_iload_n hx hb dX7_ring_30 rfl (lv_at hl 0 rfl) ?_
      exact W.iret (v := (nI na)) hx hb hr (fun t ht hW => ⟨⟨(nI na), (v, g_5), rfl, by omega, ⟨by rw [ht]; exact hP.sub (ws' := [(x0, .inr (5, [.ref a1, .ref b1, .ref c1, .ref xl, .ref xb, .int kp, .ref wk])), (a1, .inr (3, [.ref a2, .ref a3, .int (nI v)])), (a2, .inl (cyI, 10, .inl g_5))]) [0, 1, 2] rfl, hD.sub (ws' := [(x0, .inr (5, [.ref a1, .ref b1, .ref c1, .ref xl, .ref xb, .int kp, .ref wk])), (a1, .inr (3, [.ref a2, .ref a3, .int (nI v)])), (a2, .inl (cyI, 10, .inl g_5))]) [0, 1, 2] (by decide) rfl⟩⟩, hS.F ht⟩) hS.2.2 dX7_ring_31
    · skip
      have ic_2 := ci_nle (rfl : Int32.toInt p1 = _) (show Int32.toInt 10 = 10 by decide) c_2
      refine lv_bipush (v := (-2)) hx hb dX7_ring_11 (by decide) ?_
      exact W.iret (v := (-2)) hx hb hr (fun t ht hW => ⟨⟨(-2), (na, fa), rfl, by omega, ⟨by rw [ht]; exact hP.sub (ws' := [(x0, .inr (5, [.ref a1, .ref b1, .ref c1, .ref xl, .ref xb, .int kp, .ref wk])), (a1, .inr (3, [.ref a2, .ref a3, .int (nI na)])), (a2, .inl (cyI, 10, .inl fa))]) [0, 1, 2] rfl, hD.sub (ws' := [(x0, .inr (5, [.ref a1, .ref b1, .ref c1, .ref xl, .ref xb, .int kp, .ref wk])), (a1, .inr (3, [.ref a2, .ref a3, .int (nI na)])), (a2, .inl (cyI, 10, .inl fa))]) [0, 1, 2] (by decide) rfl⟩⟩, hS.F ht⟩) hS.2.2 dX7_ring_13

theorem hnX7_stand_X7 : ∀ w ∈ wsX70, w ∈ wsX7_stand := fun _ h => List.mem_cons_of_mem _ (List.mem_append_left _ (List.mem_append_right _ h))
set_option maxHeartbeats 4000000 in
set_option maxRecDepth 100000 in
theorem mX7_stand_0 (l : Launch) (dC : Nat → ClassId) (dI : Nat → Nat → Nat) (cyI cyZ : ClassId) (x0 : Nat) (a1 : Nat) (b1 : Nat) (c1 : Nat) (xl : Nat) (xb : Nat) (kp : Int32) (a2 : Nat) (a3 : Nat) (na : Nat) (fa : Nat → Int32) (p1 : Int32) (p2 : Int32) (hna : na ≤ 10) (sz : Nat) : Met l yX7_stand wsX7_stand ({ frames := 3, cells := 0, slots := 0, locals := 64 }) (bs_W dC dI cyI cyZ [.ref x0, .int p1, .int p2] [(x0, .inr (5, [.ref a1, .ref b1, .ref c1, .ref xl, .ref xb, .int kp, .null])), (a1, .inr (3, [.ref a2, .ref a3, .int (nI na)])), (a2, .inl (cyI, 10, .inl fa))] sz) (va_Qi (S := (Nat → Int32)) (fun (r : Int32) (q : (Nat → Int32)) => True) (fun q t => bs_E dC dI (va_A [(x0, .inr (5, [.ref a1, .ref b1, .ref c1, .ref xl, .ref xb, .int kp, .null])), (a1, .inr (3, [.ref a2, .ref a3, .int (nI na)])), (a2, .inl (cyI, 10, .inl fa))] sz) [(x0, .inr (5, [.ref a1, .ref b1, .ref c1, .ref xl, .ref xb, .int kp, .null])), (a1, .inr (3, [.ref a2, .ref a3, .int (nI na)])), (a2, .inl (cyI, 10, .inl q))] t) (va_A [(x0, .inr (5, [.ref a1, .ref b1, .ref c1, .ref xl, .ref xb, .int kp, .null])), (a1, .inr (3, [.ref a2, .ref a3, .int (nI na)])), (a2, .inl (cyI, 10, .inl fa))] sz)) 0 0 (va_A [(x0, .inr (5, [.ref a1, .ref b1, .ref c1, .ref xl, .ref xb, .int kp, .null])), (a1, .inr (3, [.ref a2, .ref a3, .int (nI na)])), (a2, .inl (cyI, 10, .inl fa))] sz) := by
  refine Met.ofW (cc := cX7_stand) (maxL := 4) (ret := (some .int)) (by decide) rfl ?_
  intro p e s m args below meth c s₁ B hml hv
  obtain ⟨rfl, hsz, hB, hP, hD0⟩ := hv
  have hK := hB.1
  have hN := hB.2
  have hx := B.exec
  have hb := B.bytes
  have hr := B.returns
  have hts := atoms_spec (ws := wsX7_stand) B.pre
  have hown : s.vm.findClass RX7 = some m.cls := findClass_of_methodNamed B.named
  have hlocks := B.notSynchronized
  subst hsz
  have hD := hD0.self (sz := s.heap.size)
  generalize hAe : va_A [(x0, .inr (5, [.ref a1, .ref b1, .ref c1, .ref xl, .ref xb, .int kp, .null])), (a1, .inr (3, [.ref a2, .ref a3, .int (nI na)])), (a2, .inl (cyI, 10, .inl fa))] s.heap.size = A at hD ⊢
  have hA : ∀ q : Nat, s.heap.size ≤ q → A q := fun q h => by rw [← hAe]; exact Or.inr h
  have hS : va_S A s.heap s.heap [] := va_S.rf
  have hP : va_P (dC, dI) vwCl [(x0, .inr (5, [.ref a1, .ref b1, .ref c1, .ref xl, .ref xb, .int kp, .null])), (a1, .inr (3, [.ref a2, .ref a3, .int (nI na)])), (a2, .inl (cyI, 10, .inl fa))] s.heap := hP
  have hl := lv_entry ([.ref x0, .int p1, .int p2]) (n := 4) (Nat.le_of_ble_eq_true rfl)
  rw [lg_entry_eq]
  generalize (lg_sl ([.ref x0, .int p1, .int p2]) ++ List.replicate (4 - (lg_sl ([.ref x0, .int p1, .int p2])).length) Slot.unset).toArray = ls at hl ⊢
  have hl : lv_has ls 4 [(0, .ref x0), (1, .int p1), (2, .int p2)] := hl
  refine lv_aload_n hx hb dX7_stand_0 rfl (lv_at hl 0 rfl) ?_
  refine va_get (D := (dC, dI)) (ci := 5) (v := .ref a1) (C := RX7) (T := TX7) (N := 7) hx hb hts hnX7_stand_X7 hown hK hP 0 rfl rfl 0 (by decide) (hts (.fieldLink RX7 10 "RingMeets" "now" "LRingMeets$Scene;") (by decide +kernel)) (fun _ h9 => h9) rfl dX7_stand_1 ?_
  refine lv_iload_n hx hb dX7_stand_4 rfl (lv_at hl 1 rfl) ?_
  refine vp_callSi (va_Run.run (va_runV (As := [.int p1]) (rest := []) ⟨hx, hb, hml, hown, hts⟩ (mX4_hasCell l dC dI cyI cyZ a1 a2 a3 na p1 (by omega)) (cwV 1 hts gX7_stand_X4_hasCell rfl rfl rfl (by decide +kernel) ⟨Nat.le_of_ble_eq_true rfl, Nat.le_of_ble_eq_true rfl⟩) (bs_RV hB (hP.sub (ws' := [(a1, .inr (3, [.ref a2, .ref a3, .int (nI na)]))]) [1] rfl) 0 rfl rfl) rfl rfl hl.1 rfl (lv_room (Nat.le_of_ble_eq_true rfl)) dX7_stand_5 ⟨Nat.le_of_ble_eq_true rfl, Nat.le_of_ble_eq_true rfl⟩)) (fun r_1 hr_1 => ?_)
  refine lv_if_ne (tgt := 13) hx hb dX7_stand_8 (by decide) (fun c_2 => ?_) (fun c_2 => ?_)
  · skip
    have ic_2 := ci_ne (rfl : Int32.toInt r_1 = _) (show Int32.toInt 0 = 0 by decide) c_2
    refine lv_iload_n hx hb dX7_stand_13 rfl (lv_at hl 2 rfl) ?_
    refine lv_if_lt (tgt := 22) hx hb dX7_stand_14 (by decide) (fun c_3 => ?_) (fun c_3 => ?_)
    · skip
      have ic_3 := ci_lt (rfl : Int32.toInt p2 = _) (show Int32.toInt 0 = 0 by decide) c_3
      refine lv_bipush (v := (-2)) hx hb dX7_stand_22 (by decide) ?_
      exact W.iret (v := (-2)) hx hb hr (fun t ht hW => ⟨⟨(-2), fa, rfl, trivial, ⟨by rw [ht]; exact hP.sub (ws' := [(x0, .inr (5, [.ref a1, .ref b1, .ref c1, .ref xl, .ref xb, .int kp, .null])), (a1, .inr (3, [.ref a2, .ref a3, .int (nI na)])), (a2, .inl (cyI, 10, .inl fa))]) [0, 1, 2] rfl, hD.sub (ws' := [(x0, .inr (5, [.ref a1, .ref b1, .ref c1, .ref xl, .ref xb, .int kp, .null])), (a1, .inr (3, [.ref a2, .ref a3, .int (nI na)])), (a2, .inl (cyI, 10, .inl fa))]) [0, 1, 2] (by decide) rfl⟩⟩, hS.F ht⟩) hS.2.2 dX7_stand_24
    · skip
      have ic_3 := ci_nlt (rfl : Int32.toInt p2 = _) (show Int32.toInt 0 = 0 by decide) c_3
      refine lv_iload_n hx hb dX7_stand_17 rfl (lv_at hl 2 rfl) ?_
      refine lv_iconst (v := 5) hx hb dX7_stand_18 (by decide) ?_
      refine lv_icmp_le (tgt := 25) hx hb dX7_stand_19 (by decide) (fun c_4 => ?_) (fun c_4 => ?_)
      · skip
        have ic_4 := ci_le (rfl : Int32.toInt p2 = _) (show Int32.toInt 5 = 5 by decide) c_4
        refine lv_aload_n hx hb dX7_stand_25 rfl (lv_at hl 0 rfl) ?_
        refine va_get (D := (dC, dI)) (ci := 5) (v := .ref a1) (C := RX7) (T := TX7) (N := 7) hx hb hts hnX7_stand_X7 hown hK hP 0 rfl rfl 0 (by decide) (hts (.fieldLink RX7 10 "RingMeets" "now" "LRingMeets$Scene;") (by decide +kernel)) (fun _ h9 => h9) rfl dX7_stand_26 ?_
        refine lv_iload_n hx hb dX7_stand_29 rfl (lv_at hl 1 rfl) ?_
        refine vp_callSi (va_Run.run (va_runV (As := [.int p1]) (rest := []) ⟨hx, hb, hml, hown, hts⟩ (mX4_walkersOn l dC dI cyI cyZ a1 a2 a3 na fa p1 (by omega)) (cwV 1 hts gX7_stand_X4_walkersOn rfl rfl rfl (by decide +kernel) ⟨Nat.le_of_ble_eq_true rfl, Nat.le_of_ble_eq_true rfl⟩) (bs_RV hB (hP.sub (ws' := [(a1, .inr (3, [.ref a2, .ref a3, .int (nI na)])), (a2, .inl (cyI, 10, .inl fa))]) [1, 2] rfl) 0 rfl rfl) rfl rfl hl.1 rfl (lv_room (Nat.le_of_ble_eq_true rfl)) dX7_stand_30 ⟨Nat.le_of_ble_eq_true rfl, Nat.le_of_ble_eq_true rfl⟩)) (fun r_5 hr_5 => ?_)
        refine lv_istore_n (lv' := [(3, .int r_5), (0, .ref x0), (1, .int p1), (2, .int p2)]) hx hb dX7_stand_33 rfl hl (by decide) rfl (fun ls hl => ?_)
        refine lv_aload_n hx hb dX7_stand_34 rfl (lv_at hl 1 rfl) ?_
        refine va_get (D := (dC, dI)) (ci := 5) (v := .ref a1) (C := RX7) (T := TX7) (N := 7) hx hb hts hnX7_stand_X7 hown hK hP 0 rfl rfl 0 (by decide) (hts (.fieldLink RX7 10 "RingMeets" "now" "LRingMeets$Scene;") (by decide +kernel)) (fun _ h9 => h9) rfl dX7_stand_35 ?_
        refine vp_callSi (va_Run.run (va_runV (As := []) (rest := []) ⟨hx, hb, hml, hown, hts⟩ (mX4_walkersInAll l dC dI cyI cyZ a1 a2 a3 na fa (by omega)) (cwV 0 hts gX7_stand_X4_walkersInAll rfl rfl rfl (by decide +kernel) ⟨Nat.le_of_ble_eq_true rfl, Nat.le_of_ble_eq_true rfl⟩) (bs_RV hB (hP.sub (ws' := [(a1, .inr (3, [.ref a2, .ref a3, .int (nI na)])), (a2, .inl (cyI, 10, .inl fa))]) [1, 2] rfl) 0 rfl rfl) rfl rfl hl.1 rfl (lv_room (Nat.le_of_ble_eq_true rfl)) dX7_stand_38 ⟨Nat.le_of_ble_eq_true rfl, Nat.le_of_ble_eq_true rfl⟩)) (fun r_6 hr_6 => ?_)
        refine lv_iload_n hx hb dX7_stand_41 rfl (lv_at hl 0 rfl) ?_
        refine lv_isub hx hb dX7_stand_42 ?_
        refine lv_topi (fun x_7 ex_7 => ?_)
        refine lv_iload_n hx hb dX7_stand_43 rfl (lv_at hl 3 rfl) ?_
        refine lv_iadd hx hb dX7_stand_44 ?_
        refine lv_topi (fun x_8 ex_8 => ?_)
        refine lv_iconst (v := 5) hx hb dX7_stand_45 (by decide) ?_
        refine lv_icmp_le (tgt := 52) hx hb dX7_stand_46 (by decide) (fun c_9 => ?_) (fun c_9 => ?_)
        · skip
          have ic_9 := ci_le (rfl : Int32.toInt x_8 = _) (show Int32.toInt 5 = 5 by decide) c_9
          refine lv_aload_n hx hb dX7_stand_52 rfl (lv_at hl 1 rfl) ?_
          refine va_get (D := (dC, dI)) (ci := 5) (v := .ref a1) (C := RX7) (T := TX7) (N := 7) hx hb hts hnX7_stand_X7 hown hK hP 0 rfl rfl 0 (by decide) (hts (.fieldLink RX7 10 "RingMeets" "now" "LRingMeets$Scene;") (by decide +kernel)) (fun _ h9 => h9) rfl dX7_stand_53 ?_
          refine lv_iload_n hx hb dX7_stand_56 rfl (lv_at hl 2 rfl) ?_
          refine lv_iload_n hx hb dX7_stand_57 rfl (lv_at hl 3 rfl) ?_
          have f_10 := va_free (wc := [(a1, .inr (3, [.ref a2, .ref a3, .int (nI na)])), (a2, .inl (cyI, 10, .inl fa))]) hD hS hA [1, 2] rfl
          refine va_callv (va_runV (As := [.int p1, .int p2]) (rest := []) ⟨hx, hb, hml, hown, hts⟩ (mX4_put l dC dI cyI cyZ a1 a2 a3 na fa p1 p2 (by omega) _) (cwV 2 hts gX7_stand_X4_put rfl rfl rfl (by decide +kernel) ⟨Nat.le_of_ble_eq_true rfl, Nat.le_of_ble_eq_true rfl⟩) (bs_WV hB (hP.sub (ws' := [(a1, .inr (3, [.ref a2, .ref a3, .int (nI na)])), (a2, .inl (cyI, 10, .inl fa))]) [1, 2] rfl) (hD.sub (ws' := [(a1, .inr (3, [.ref a2, .ref a3, .int (nI na)])), (a2, .inl (cyI, 10, .inl fa))]) [1, 2] (by decide) rfl) 0 rfl rfl) rfl rfl hl.1 rfl (lv_room (Nat.le_of_ble_eq_true rfl)) dX7_stand_58 ⟨Nat.le_of_ble_eq_true rfl, Nat.le_of_ble_eq_true rfl⟩) hS (fun q _ h => f_10 q h) f_10 (fun uh_11 t H1 locs ht hvm h_11 hB1 hz1 hk1 hS => ?_)
          obtain ⟨g_12, rfl⟩ : ∃ z, z = uh_11 := ⟨_, rfl⟩
          obtain ⟨hP1, hD1⟩ := hB1
          rw [ht] at hP1
          obtain ⟨hP, hD⟩ := va_join (wr := [(x0, .inr (5, [.ref a1, .ref b1, .ref c1, .ref xl, .ref xb, .int kp, .null]))]) (w1 := [(a1, .inr (3, [.ref a2, .ref a3, .int (nI na)])), (a2, .inl (cyI, 10, .inl g_12))]) hP hD [1, 2] [0] rfl rfl (by decide) (by decide) hk1 f_10 hP1 hD1
          generalize H1 = H at hP hS ⊢
          have hP : va_P (dC, dI) vwCl [(x0, .inr (5, [.ref a1, .ref b1, .ref c1, .ref xl, .ref xb, .int kp, .null])), (a1, .inr (3, [.ref a2, .ref a3, .int (nI na)])), (a2, .inl (cyI, 10, .inl g_12))] _ := hP
          have hD : va_D A [(x0, .inr (5, [.ref a1, .ref b1, .ref c1, .ref xl, .ref xb, .int kp, .null])), (a1, .inr (3, [.ref a2, .ref a3, .int (nI na)])), (a2, .inl (cyI, 10, .inl g_12))] := hD
          refine lv_iload_n hx hb dX7_stand_61 rfl (lv_at hl 0 rfl) ?_
          exact W.iret (v := r_5) hx hb hr (fun t ht hW => ⟨⟨r_5, g_12, rfl, trivial, ⟨by rw [ht]; exact hP.sub (ws' := [(x0, .inr (5, [.ref a1, .ref b1, .ref c1, .ref xl, .ref xb, .int kp, .null])), (a1, .inr (3, [.ref a2, .ref a3, .int (nI na)])), (a2, .inl (cyI, 10, .inl g_12))]) [0, 1, 2] rfl, hD.sub (ws' := [(x0, .inr (5, [.ref a1, .ref b1, .ref c1, .ref xl, .ref xb, .int kp, .null])), (a1, .inr (3, [.ref a2, .ref a3, .int (nI na)])), (a2, .inl (cyI, 10, .inl g_12))]) [0, 1, 2] (by decide) rfl⟩⟩, hS.F ht⟩) hS.2.2 dX7_stand_62
        · skip
          have ic_9 := ci_nle (rfl : Int32.toInt x_8 = _) (show Int32.toInt 5 = 5 by decide) c_9
          refine lv_bipush (v := (-4)) hx hb dX7_stand_49 (by decide) ?_
          exact W.iret (v := (-4)) hx hb hr (fun t ht hW => ⟨⟨(-4), fa, rfl, trivial, ⟨by rw [ht]; exact hP.sub (ws' := [(x0, .inr (5, [.ref a1, .ref b1, .ref c1, .ref xl, .ref xb, .int kp, .null])), (a1, .inr (3, [.ref a2, .ref a3, .int (nI na)])), (a2, .inl (cyI, 10, .inl fa))]) [0, 1, 2] rfl, hD.sub (ws' := [(x0, .inr (5, [.ref a1, .ref b1, .ref c1, .ref xl, .ref xb, .int kp, .null])), (a1, .inr (3, [.ref a2, .ref a3, .int (nI na)])), (a2, .inl (cyI, 10, .inl fa))]) [0, 1, 2] (by decide) rfl⟩⟩, hS.F ht⟩) hS.2.2 dX7_stand_51
      · skip
        have ic_4 := ci_nle (rfl : Int32.toInt p2 = _) (show Int32.toInt 5 = 5 by decide) c_4
        refine lv_bipush (v := (-2)) hx hb dX7_stand_22 (by decide) ?_
        exact W.iret (v := (-2)) hx hb hr (fun t ht hW => ⟨⟨(-2), fa, rfl, trivial, ⟨by rw [ht]; exact hP.sub (ws' := [(x0, .inr (5, [.ref a1, .ref b1, .ref c1, .ref xl, .ref xb, .int kp, .null])), (a1, .inr (3, [.ref a2, .ref a3, .int (nI na)])), (a2, .inl (cyI, 10, .inl fa))]) [0, 1, 2] rfl, hD.sub (ws' := [(x0, .inr (5, [.ref a1, .ref b1, .ref c1, .ref xl, .ref xb, .int kp, .null])), (a1, .inr (3, [.ref a2, .ref a3, .int (nI na)])), (a2, .inl (cyI, 10, .inl fa))]) [0, 1, 2] (by decide) rfl⟩⟩, hS.F ht⟩) hS.2.2 dX7_stand_24
  · skip
    have ic_2 := ci_eq (rfl : Int32.toInt r_1 = _) (show Int32.toInt 0 = 0 by decide) c_2
    refine lv_iconst (v := (-1)) hx hb dX7_stand_11 (by decide) ?_
    exact W.iret (v := (-1)) hx hb hr (fun t ht hW => ⟨⟨(-1), fa, rfl, trivial, ⟨by rw [ht]; exact hP.sub (ws' := [(x0, .inr (5, [.ref a1, .ref b1, .ref c1, .ref xl, .ref xb, .int kp, .null])), (a1, .inr (3, [.ref a2, .ref a3, .int (nI na)])), (a2, .inl (cyI, 10, .inl fa))]) [0, 1, 2] rfl, hD.sub (ws' := [(x0, .inr (5, [.ref a1, .ref b1, .ref c1, .ref xl, .ref xb, .int kp, .null])), (a1, .inr (3, [.ref a2, .ref a3, .int (nI na)])), (a2, .inl (cyI, 10, .inl fa))]) [0, 1, 2] (by decide) rfl⟩⟩, hS.F ht⟩) hS.2.2 dX7_stand_12

set_option maxHeartbeats 4000000 in
set_option maxRecDepth 100000 in
theorem mX7_stand_1 (l : Launch) (dC : Nat → ClassId) (dI : Nat → Nat → Nat) (cyI cyZ : ClassId) (x0 : Nat) (a1 : Nat) (b1 : Nat) (c1 : Nat) (xl : Nat) (xb : Nat) (kp : Int32) (wk : Nat) (a2 : Nat) (a3 : Nat) (na : Nat) (fa : Nat → Int32) (p1 : Int32) (p2 : Int32) (hna : na ≤ 10) (sz : Nat) : Met l yX7_stand wsX7_stand ({ frames := 3, cells := 0, slots := 0, locals := 64 }) (bs_W dC dI cyI cyZ [.ref x0, .int p1, .int p2] [(x0, .inr (5, [.ref a1, .ref b1, .ref c1, .ref xl, .ref xb, .int kp, .ref wk])), (a1, .inr (3, [.ref a2, .ref a3, .int (nI na)])), (a2, .inl (cyI, 10, .inl fa))] sz) (va_Qi (S := (Nat → Int32)) (fun (r : Int32) (q : (Nat → Int32)) => True) (fun q t => bs_E dC dI (va_A [(x0, .inr (5, [.ref a1, .ref b1, .ref c1, .ref xl, .ref xb, .int kp, .ref wk])), (a1, .inr (3, [.ref a2, .ref a3, .int (nI na)])), (a2, .inl (cyI, 10, .inl fa))] sz) [(x0, .inr (5, [.ref a1, .ref b1, .ref c1, .ref xl, .ref xb, .int kp, .ref wk])), (a1, .inr (3, [.ref a2, .ref a3, .int (nI na)])), (a2, .inl (cyI, 10, .inl q))] t) (va_A [(x0, .inr (5, [.ref a1, .ref b1, .ref c1, .ref xl, .ref xb, .int kp, .ref wk])), (a1, .inr (3, [.ref a2, .ref a3, .int (nI na)])), (a2, .inl (cyI, 10, .inl fa))] sz)) 0 0 (va_A [(x0, .inr (5, [.ref a1, .ref b1, .ref c1, .ref xl, .ref xb, .int kp, .ref wk])), (a1, .inr (3, [.ref a2, .ref a3, .int (nI na)])), (a2, .inl (cyI, 10, .inl fa))] sz) := by
  refine Met.ofW (cc := cX7_stand) (maxL := 4) (ret := (some .int)) (by decide) rfl ?_
  intro p e s m args below meth c s₁ B hml hv
  obtain ⟨rfl, hsz, hB, hP, hD0⟩ := hv
  have hK := hB.1
  have hN := hB.2
  have hx := B.exec
  have hb := B.bytes
  have hr := B.returns
  have hts := atoms_spec (ws := wsX7_stand) B.pre
  have hown : s.vm.findClass RX7 = some m.cls := findClass_of_methodNamed B.named
  have hlocks := B.notSynchronized
  subst hsz
  have hD := hD0.self (sz := s.heap.size)
  generalize hAe : va_A [(x0, .inr (5, [.ref a1, .ref b1, .ref c1, .ref xl, .ref xb, .int kp, .ref wk])), (a1, .inr (3, [.ref a2, .ref a3, .int (nI na)])), (a2, .inl (cyI, 10, .inl fa))] s.heap.size = A at hD ⊢
  have hA : ∀ q : Nat, s.heap.size ≤ q → A q := fun q h => by rw [← hAe]; exact Or.inr h
  have hS : va_S A s.heap s.heap [] := va_S.rf
  have hP : va_P (dC, dI) vwCl [(x0, .inr (5, [.ref a1, .ref b1, .ref c1, .ref xl, .ref xb, .int kp, .ref wk])), (a1, .inr (3, [.ref a2, .ref a3, .int (nI na)])), (a2, .inl (cyI, 10, .inl fa))] s.heap := hP
  have hl := lv_entry ([.ref x0, .int p1, .int p2]) (n := 4) (Nat.le_of_ble_eq_true rfl)
  rw [lg_entry_eq]
  generalize (lg_sl ([.ref x0, .int p1, .int p2]) ++ List.replicate (4 - (lg_sl ([.ref x0, .int p1, .int p2])).length) Slot.unset).toArray = ls at hl ⊢
  have hl : lv_has ls 4 [(0, .ref x0), (1, .int p1), (2, .int p2)] := hl
  refine lv_aload_n hx hb dX7_stand_0 rfl (lv_at hl 0 rfl) ?_
  refine va_get (D := (dC, dI)) (ci := 5) (v := .ref a1) (C := RX7) (T := TX7) (N := 7) hx hb hts hnX7_stand_X7 hown hK hP 0 rfl rfl 0 (by decide) (hts (.fieldLink RX7 10 "RingMeets" "now" "LRingMeets$Scene;") (by decide +kernel)) (fun _ h9 => h9) rfl dX7_stand_1 ?_
  refine lv_iload_n hx hb dX7_stand_4 rfl (lv_at hl 1 rfl) ?_
  refine vp_callSi (va_Run.run (va_runV (As := [.int p1]) (rest := []) ⟨hx, hb, hml, hown, hts⟩ (mX4_hasCell l dC dI cyI cyZ a1 a2 a3 na p1 (by omega)) (cwV 1 hts gX7_stand_X4_hasCell rfl rfl rfl (by decide +kernel) ⟨Nat.le_of_ble_eq_true rfl, Nat.le_of_ble_eq_true rfl⟩) (bs_RV hB (hP.sub (ws' := [(a1, .inr (3, [.ref a2, .ref a3, .int (nI na)]))]) [1] rfl) 0 rfl rfl) rfl rfl hl.1 rfl (lv_room (Nat.le_of_ble_eq_true rfl)) dX7_stand_5 ⟨Nat.le_of_ble_eq_true rfl, Nat.le_of_ble_eq_true rfl⟩)) (fun r_1 hr_1 => ?_)
  refine lv_if_ne (tgt := 13) hx hb dX7_stand_8 (by decide) (fun c_2 => ?_) (fun c_2 => ?_)
  · skip
    have ic_2 := ci_ne (rfl : Int32.toInt r_1 = _) (show Int32.toInt 0 = 0 by decide) c_2
    refine lv_iload_n hx hb dX7_stand_13 rfl (lv_at hl 2 rfl) ?_
    refine lv_if_lt (tgt := 22) hx hb dX7_stand_14 (by decide) (fun c_3 => ?_) (fun c_3 => ?_)
    · skip
      have ic_3 := ci_lt (rfl : Int32.toInt p2 = _) (show Int32.toInt 0 = 0 by decide) c_3
      refine lv_bipush (v := (-2)) hx hb dX7_stand_22 (by decide) ?_
      exact W.iret (v := (-2)) hx hb hr (fun t ht hW => ⟨⟨(-2), fa, rfl, trivial, ⟨by rw [ht]; exact hP.sub (ws' := [(x0, .inr (5, [.ref a1, .ref b1, .ref c1, .ref xl, .ref xb, .int kp, .ref wk])), (a1, .inr (3, [.ref a2, .ref a3, .int (nI na)])), (a2, .inl (cyI, 10, .inl fa))]) [0, 1, 2] rfl, hD.sub (ws' := [(x0, .inr (5, [.ref a1, .ref b1, .ref c1, .ref xl, .ref xb, .int kp, .ref wk])), (a1, .inr (3, [.ref a2, .ref a3, .int (nI na)])), (a2, .inl (cyI, 10, .inl fa))]) [0, 1, 2] (by decide) rfl⟩⟩, hS.F ht⟩) hS.2.2 dX7_stand_24
    · skip
      have ic_3 := ci_nlt (rfl : Int32.toInt p2 = _) (show Int32.toInt 0 = 0 by decide) c_3
      refine lv_iload_n hx hb dX7_stand_17 rfl (lv_at hl 2 rfl) ?_
      refine lv_iconst (v := 5) hx hb dX7_stand_18 (by decide) ?_
      refine lv_icmp_le (tgt := 25) hx hb dX7_stand_19 (by decide) (fun c_4 => ?_) (fun c_4 => ?_)
      · skip
        have ic_4 := ci_le (rfl : Int32.toInt p2 = _) (show Int32.toInt 5 = 5 by decide) c_4
        refine lv_aload_n hx hb dX7_stand_25 rfl (lv_at hl 0 rfl) ?_
        refine va_get (D := (dC, dI)) (ci := 5) (v := .ref a1) (C := RX7) (T := TX7) (N := 7) hx hb hts hnX7_stand_X7 hown hK hP 0 rfl rfl 0 (by decide) (hts (.fieldLink RX7 10 "RingMeets" "now" "LRingMeets$Scene;") (by decide +kernel)) (fun _ h9 => h9) rfl dX7_stand_26 ?_
        refine lv_iload_n hx hb dX7_stand_29 rfl (lv_at hl 1 rfl) ?_
        refine vp_callSi (va_Run.run (va_runV (As := [.int p1]) (rest := []) ⟨hx, hb, hml, hown, hts⟩ (mX4_walkersOn l dC dI cyI cyZ a1 a2 a3 na fa p1 (by omega)) (cwV 1 hts gX7_stand_X4_walkersOn rfl rfl rfl (by decide +kernel) ⟨Nat.le_of_ble_eq_true rfl, Nat.le_of_ble_eq_true rfl⟩) (bs_RV hB (hP.sub (ws' := [(a1, .inr (3, [.ref a2, .ref a3, .int (nI na)])), (a2, .inl (cyI, 10, .inl fa))]) [1, 2] rfl) 0 rfl rfl) rfl rfl hl.1 rfl (lv_room (Nat.le_of_ble_eq_true rfl)) dX7_stand_30 ⟨Nat.le_of_ble_eq_true rfl, Nat.le_of_ble_eq_true rfl⟩)) (fun r_5 hr_5 => ?_)
        refine lv_istore_n (lv' := [(3, .int r_5), (0, .ref x0), (1, .int p1), (2, .int p2)]) hx hb dX7_stand_33 rfl hl (by decide) rfl (fun ls hl => ?_)
        refine lv_aload_n hx hb dX7_stand_34 rfl (lv_at hl 1 rfl) ?_
        refine va_get (D := (dC, dI)) (ci := 5) (v := .ref a1) (C := RX7) (T := TX7) (N := 7) hx hb hts hnX7_stand_X7 hown hK hP 0 rfl rfl 0 (by decide) (hts (.fieldLink RX7 10 "RingMeets" "now" "LRingMeets$Scene;") (by decide +kernel)) (fun _ h9 => h9) rfl dX7_stand_35 ?_
        refine vp_callSi (va_Run.run (va_runV (As := []) (rest := []) ⟨hx, hb, hml, hown, hts⟩ (mX4_walkersInAll l dC dI cyI cyZ a1 a2 a3 na fa (by omega)) (cwV 0 hts gX7_stand_X4_walkersInAll rfl rfl rfl (by decide +kernel) ⟨Nat.le_of_ble_eq_true rfl, Nat.le_of_ble_eq_true rfl⟩) (bs_RV hB (hP.sub (ws' := [(a1, .inr (3, [.ref a2, .ref a3, .int (nI na)])), (a2, .inl (cyI, 10, .inl fa))]) [1, 2] rfl) 0 rfl rfl) rfl rfl hl.1 rfl (lv_room (Nat.le_of_ble_eq_true rfl)) dX7_stand_38 ⟨Nat.le_of_ble_eq_true rfl, Nat.le_of_ble_eq_true rfl⟩)) (fun r_6 hr_6 => ?_)
        refine lv_iload_n hx hb dX7_stand_41 rfl (lv_at hl 0 rfl) ?_
        refine lv_isub hx hb dX7_stand_42 ?_
        refine lv_topi (fun x_7 ex_7 => ?_)
        refine lv_iload_n hx hb dX7_stand_43 rfl (lv_at hl 3 rfl) ?_
        refine lv_iadd hx hb dX7_stand_44 ?_
        refine lv_topi (fun x_8 ex_8 => ?_)
        refine lv_iconst (v := 5) hx hb dX7_stand_45 (by decide) ?_
        refine lv_icmp_le (tgt := 52) hx hb dX7_stand_46 (by decide) (fun c_9 => ?_) (fun c_9 => ?_)
        · skip
          have ic_9 := ci_le (rfl : Int32.toInt x_8 = _) (show Int32.toInt 5 = 5 by decide) c_9
          refine lv_aload_n hx hb dX7_stand_52 rfl (lv_at hl 1 rfl) ?_
          refine va_get (D := (dC, dI)) (ci := 5) (v := .ref a1) (C := RX7) (T := TX7) (N := 7) hx hb hts hnX7_stand_X7 hown hK hP 0 rfl rfl 0 (by decide) (hts (.fieldLink RX7 10 "RingMeets" "now" "LRingMeets$Scene;") (by decide +kernel)) (fun _ h9 => h9) rfl dX7_stand_53 ?_
          refine lv_iload_n hx hb dX7_stand_56 rfl (lv_at hl 2 rfl) ?_
          refine lv_iload_n hx hb dX7_stand_57 rfl (lv_at hl 3 rfl) ?_
          have f_10 := va_free (wc := [(a1, .inr (3, [.ref a2, .ref a3, .int (nI na)])), (a2, .inl (cyI, 10, .inl fa))]) hD hS hA [1, 2] rfl
          refine va_callv (va_runV (As := [.int p1, .int p2]) (rest := []) ⟨hx, hb, hml, hown, hts⟩ (mX4_put l dC dI cyI cyZ a1 a2 a3 na fa p1 p2 (by omega) _) (cwV 2 hts gX7_stand_X4_put rfl rfl rfl (by decide +kernel) ⟨Nat.le_of_ble_eq_true rfl, Nat.le_of_ble_eq_true rfl⟩) (bs_WV hB (hP.sub (ws' := [(a1, .inr (3, [.ref a2, .ref a3, .int (nI na)])), (a2, .inl (cyI, 10, .inl fa))]) [1, 2] rfl) (hD.sub (ws' := [(a1, .inr (3, [.ref a2, .ref a3, .int (nI na)])), (a2, .inl (cyI, 10, .inl fa))]) [1, 2] (by decide) rfl) 0 rfl rfl) rfl rfl hl.1 rfl (lv_room (Nat.le_of_ble_eq_true rfl)) dX7_stand_58 ⟨Nat.le_of_ble_eq_true rfl, Nat.le_of_ble_eq_true rfl⟩) hS (fun q _ h => f_10 q h) f_10 (fun uh_11 t H1 locs ht hvm h_11 hB1 hz1 hk1 hS => ?_)
          obtain ⟨g_12, rfl⟩ : ∃ z, z = uh_11 := ⟨_, rfl⟩
          obtain ⟨hP1, hD1⟩ := hB1
          rw [ht] at hP1
          obtain ⟨hP, hD⟩ := va_join (wr := [(x0, .inr (5, [.ref a1, .ref b1, .ref c1, .ref xl, .ref xb, .int kp, .ref wk]))]) (w1 := [(a1, .inr (3, [.ref a2, .ref a3, .int (nI na)])), (a2, .inl (cyI, 10, .inl g_12))]) hP hD [1, 2] [0] rfl rfl (by decide) (by decide) hk1 f_10 hP1 hD1
          generalize H1 = H at hP hS ⊢
          have hP : va_P (dC, dI) vwCl [(x0, .inr (5, [.ref a1, .ref b1, .ref c1, .ref xl, .ref xb, .int kp, .ref wk])), (a1, .inr (3, [.ref a2, .ref a3, .int (nI na)])), (a2, .inl (cyI, 10, .inl g_12))] _ := hP
          have hD : va_D A [(x0, .inr (5, [.ref a1, .ref b1, .ref c1, .ref xl, .ref xb, .int kp, .ref wk])), (a1, .inr (3, [.ref a2, .ref a3, .int (nI na)])), (a2, .inl (cyI, 10, .inl g_12))] := hD
          refine lv_iload_n hx hb dX7_stand_61 rfl (lv_at hl 0 rfl) ?_
          exact W.iret (v := r_5) hx hb hr (fun t ht hW => ⟨⟨r_5, g_12, rfl, trivial, ⟨by rw [ht]; exact hP.sub (ws' := [(x0, .inr (5, [.ref a1, .ref b1, .ref c1, .ref xl, .ref xb, .int kp, .ref wk])), (a1, .inr (3, [.ref a2, .ref a3, .int (nI na)])), (a2, .inl (cyI, 10, .inl g_12))]) [0, 1, 2] rfl, hD.sub (ws' := [(x0, .inr (5, [.ref a1, .ref b1, .ref c1, .ref xl, .ref xb, .int kp, .ref wk])), (a1, .inr (3, [.ref a2, .ref a3, .int (nI na)])), (a2, .inl (cyI, 10, .inl g_12))]) [0, 1, 2] (by decide) rfl⟩⟩, hS.F ht⟩) hS.2.2 dX7_stand_62
        · skip
          have ic_9 := ci_nle (rfl : Int32.toInt x_8 = _) (show Int32.toInt 5 = 5 by decide) c_9
          refine lv_bipush (v := (-4)) hx hb dX7_stand_49 (by decide) ?_
          exact W.iret (v := (-4)) hx hb hr (fun t ht hW => ⟨⟨(-4), fa, rfl, trivial, ⟨by rw [ht]; exact hP.sub (ws' := [(x0, .inr (5, [.ref a1, .ref b1, .ref c1, .ref xl, .ref xb, .int kp, .ref wk])), (a1, .inr (3, [.ref a2, .ref a3, .int (nI na)])), (a2, .inl (cyI, 10, .inl fa))]) [0, 1, 2] rfl, hD.sub (ws' := [(x0, .inr (5, [.ref a1, .ref b1, .ref c1, .ref xl, .ref xb, .int kp, .ref wk])), (a1, .inr (3, [.ref a2, .ref a3, .int (nI na)])), (a2, .inl (cyI, 10, .inl fa))]) [0, 1, 2] (by decide) rfl⟩⟩, hS.F ht⟩) hS.2.2 dX7_stand_51
      · skip
        have ic_4 := ci_nle (rfl : Int32.toInt p2 = _) (show Int32.toInt 5 = 5 by decide) c_4
        refine lv_bipush (v := (-2)) hx hb dX7_stand_22 (by decide) ?_
        exact W.iret (v := (-2)) hx hb hr (fun t ht hW => ⟨⟨(-2), fa, rfl, trivial, ⟨by rw [ht]; exact hP.sub (ws' := [(x0, .inr (5, [.ref a1, .ref b1, .ref c1, .ref xl, .ref xb, .int kp, .ref wk])), (a1, .inr (3, [.ref a2, .ref a3, .int (nI na)])), (a2, .inl (cyI, 10, .inl fa))]) [0, 1, 2] rfl, hD.sub (ws' := [(x0, .inr (5, [.ref a1, .ref b1, .ref c1, .ref xl, .ref xb, .int kp, .ref wk])), (a1, .inr (3, [.ref a2, .ref a3, .int (nI na)])), (a2, .inl (cyI, 10, .inl fa))]) [0, 1, 2] (by decide) rfl⟩⟩, hS.F ht⟩) hS.2.2 dX7_stand_24
  · skip
    have ic_2 := ci_eq (rfl : Int32.toInt r_1 = _) (show Int32.toInt 0 = 0 by decide) c_2
    refine lv_iconst (v := (-1)) hx hb dX7_stand_11 (by decide) ?_
    exact W.iret (v := (-1)) hx hb hr (fun t ht hW => ⟨⟨(-1), fa, rfl, trivial, ⟨by rw [ht]; exact hP.sub (ws' := [(x0, .inr (5, [.ref a1, .ref b1, .ref c1, .ref xl, .ref xb, .int kp, .ref wk])), (a1, .inr (3, [.ref a2, .ref a3, .int (nI na)])), (a2, .inl (cyI, 10, .inl fa))]) [0, 1, 2] rfl, hD.sub (ws' := [(x0, .inr (5, [.ref a1, .ref b1, .ref c1, .ref xl, .ref xb, .int kp, .ref wk])), (a1, .inr (3, [.ref a2, .ref a3, .int (nI na)])), (a2, .inl (cyI, 10, .inl fa))]) [0, 1, 2] (by decide) rfl⟩⟩, hS.F ht⟩) hS.2.2 dX7_stand_12

theorem hnX7_gap_X4 : ∀ w ∈ wsX40, w ∈ wsX7_gap := fun _ h => List.mem_cons_of_mem _ (List.mem_append_right _ h)
theorem hnX7_gap_X7 : ∀ w ∈ wsX70, w ∈ wsX7_gap := fun _ h => List.mem_cons_of_mem _ (List.mem_append_left _ (List.mem_append_right _ h))
set_option maxHeartbeats 4000000 in
set_option maxRecDepth 100000 in
theorem mX7_gap_0 (l : Launch) (dC : Nat → ClassId) (dI : Nat → Nat → Nat) (cyI cyZ : ClassId) (x0 : Nat) (a1 : Nat) (b1 : Nat) (c1 : Nat) (xl : Nat) (xb : Nat) (kp : Int32) (a2 : Nat) (a3 : Nat) (na : Nat) (fa : Nat → Int32) (p1 : Int32) (p2 : Int32) (p3 : Int32) (hna : na ≤ 10) : Met l yX7_gap wsX7_gap ({ frames := 4, cells := 0, slots := 0, locals := 85 }) (bs_R dC dI cyI cyZ [.ref x0, .int p1, .int p2, .int p3] [(x0, .inr (5, [.ref a1, .ref b1, .ref c1, .ref xl, .ref xb, .int kp, .null])), (a1, .inr (3, [.ref a2, .ref a3, .int (nI na)])), (a2, .inl (cyI, 10, .inl fa))]) (vp_Si (fun r : Int32 => True)) 0 0 (fun _ => False) := by
  refine Met.ofW (cc := cX7_gap) (maxL := 7) (ret := (some .int)) (by decide) rfl ?_
  intro p e s m args below meth c s₁ B hml hv
  obtain ⟨rfl, hB, hP⟩ := hv
  have hK := hB.1
  have hN := hB.2
  have hx := B.exec
  have hb := B.bytes
  have hr := B.returns
  have hts := atoms_spec (ws := wsX7_gap) B.pre
  have hown : s.vm.findClass RX7 = some m.cls := findClass_of_methodNamed B.named
  have hlocks := B.notSynchronized
  have hP : va_P (dC, dI) vwCl [(x0, .inr (5, [.ref a1, .ref b1, .ref c1, .ref xl, .ref xb, .int kp, .null])), (a1, .inr (3, [.ref a2, .ref a3, .int (nI na)])), (a2, .inl (cyI, 10, .inl fa))] s.heap := hP
  have hl := lv_entry ([.ref x0, .int p1, .int p2, .int p3]) (n := 7) (Nat.le_of_ble_eq_true rfl)
  rw [lg_entry_eq]
  generalize (lg_sl ([.ref x0, .int p1, .int p2, .int p3]) ++ List.replicate (7 - (lg_sl ([.ref x0, .int p1, .int p2, .int p3])).length) Slot.unset).toArray = ls at hl ⊢
  have hl : lv_has ls 7 [(0, .ref x0), (1, .int p1), (2, .int p2), (3, .int p3)] := hl
  refine lv_aload_n hx hb dX7_gap_0 rfl (lv_at hl 0 rfl) ?_
  refine va_get (D := (dC, dI)) (ci := 5) (v := .ref a1) (C := RX7) (T := TX7) (N := 7) hx hb hts hnX7_gap_X7 hown hK hP 0 rfl rfl 0 (by decide) (hts (.fieldLink RX7 10 "RingMeets" "now" "LRingMeets$Scene;") (by decide +kernel)) (fun _ h9 => h9) rfl dX7_gap_1 ?_
  refine vp_callSi (va_Run.run (va_runV (As := []) (rest := []) ⟨hx, hb, hml, hown, hts⟩ (mX4_stands l dC dI cyI cyZ a1 a2 a3 na fa (by omega)) (cwV 0 hts gX7_gap_X4_stands rfl rfl rfl (by decide +kernel) ⟨Nat.le_of_ble_eq_true rfl, Nat.le_of_ble_eq_true rfl⟩) (bs_RV hB (hP.sub (ws' := [(a1, .inr (3, [.ref a2, .ref a3, .int (nI na)])), (a2, .inl (cyI, 10, .inl fa))]) [1, 2] rfl) 0 rfl rfl) rfl rfl hl.1 rfl (lv_room (Nat.le_of_ble_eq_true rfl)) dX7_gap_4 ⟨Nat.le_of_ble_eq_true rfl, Nat.le_of_ble_eq_true rfl⟩)) (fun r_1 hr_1 => ?_)
  refine lv_istore (lv' := [(4, .int r_1), (0, .ref x0), (1, .int p1), (2, .int p2), (3, .int p3)]) hx hb dX7_gap_7 hl (by decide) rfl (fun ls hl => ?_)
  refine lv_iload hx hb dX7_gap_9 (lv_at hl 0 rfl) ?_
  refine lv_iload_n hx hb dX7_gap_11 rfl (lv_at hl 2 rfl) ?_
  refine vp_callSi (va_Run.run (va_runS (As := [.int r_1, .int p1]) (rest := []) ⟨hx, hb, hml, hown, hts⟩ (mX5_has l dC dI cyI cyZ r_1 p1 ) (va_cwS 2 hts gX7_gap_X5_has rfl rfl rfl (by decide +kernel) ⟨Nat.le_of_ble_eq_true rfl, Nat.le_of_ble_eq_true rfl⟩) (bs_RS hB (hP.sub (ws' := []) [] rfl)) rfl rfl hl.1 rfl (lv_room (Nat.le_of_ble_eq_true rfl)) dX7_gap_12 ⟨Nat.le_of_ble_eq_true rfl, Nat.le_of_ble_eq_true rfl⟩)) (fun r_2 hr_2 => ?_)
  refine lv_if_ne (tgt := 20) hx hb dX7_gap_15 (by decide) (fun c_3 => ?_) (fun c_3 => ?_)
  · skip
    have ic_3 := ci_ne (rfl : Int32.toInt r_2 = _) (show Int32.toInt 0 = 0 by decide) c_3
    refine lv_iload_n hx hb dX7_gap_20 rfl (lv_at hl 3 rfl) ?_
    refine lv_if_lt (tgt := 29) hx hb dX7_gap_21 (by decide) (fun c_4 => ?_) (fun c_4 => ?_)
    · skip
      have ic_4 := ci_lt (rfl : Int32.toInt p2 = _) (show Int32.toInt 0 = 0 by decide) c_4
      refine lv_bipush (v := (-2)) hx hb dX7_gap_29 (by decide) ?_
      exact W.iret (v := (-2)) hx hb hr (fun t ht hW => ⟨(-2), rfl, trivial, ht⟩) (fun q h => by cases h) dX7_gap_31
    · skip
      have ic_4 := ci_nlt (rfl : Int32.toInt p2 = _) (show Int32.toInt 0 = 0 by decide) c_4
      refine lv_iload_n hx hb dX7_gap_24 rfl (lv_at hl 3 rfl) ?_
      refine lv_iconst (v := 2) hx hb dX7_gap_25 (by decide) ?_
      refine lv_icmp_le (tgt := 32) hx hb dX7_gap_26 (by decide) (fun c_5 => ?_) (fun c_5 => ?_)
      · skip
        have ic_5 := ci_le (rfl : Int32.toInt p2 = _) (show Int32.toInt 2 = 2 by decide) c_5
        refine lv_iload hx hb dX7_gap_32 (lv_at hl 0 rfl) ?_
        refine vp_callSi (va_Run.run (va_runS (As := [.int r_1]) (rest := []) ⟨hx, hb, hml, hown, hts⟩ (mJ6_bitCount_0f7a4 l dC dI cyI cyZ r_1 ) (va_cwS 1 hts gX7_gap_J6_bitCount_0f7a4 rfl rfl rfl (by decide +kernel) ⟨Nat.le_of_ble_eq_true rfl, Nat.le_of_ble_eq_true rfl⟩) (bs_RS hB (hP.sub (ws' := []) [] rfl)) rfl rfl hl.1 rfl (lv_room (Nat.le_of_ble_eq_true rfl)) dX7_gap_34 ⟨Nat.le_of_ble_eq_true rfl, Nat.le_of_ble_eq_true rfl⟩)) (fun r_6 hr_6 => ?_)
        refine lv_istore (lv' := [(5, .int r_6), (4, .int r_1), (0, .ref x0), (1, .int p1), (2, .int p2), (3, .int p3)]) hx hb dX7_gap_37 hl (by decide) rfl (fun ls hl => ?_)
        refine lv_iload_n hx hb dX7_gap_39 rfl (lv_at hl 5 rfl) ?_
        refine lv_iconst (v := (-1)) hx hb dX7_gap_40 (by decide) ?_
        refine lv_icmp_ne (tgt := 47) hx hb dX7_gap_41 (by decide) (fun c_7 => ?_) (fun c_7 => ?_)
        · skip
          have ic_7 := ci_ne (rfl : Int32.toInt p3 = _) (show Int32.toInt (-1) = -1 by decide) c_7
          refine lv_iload_n hx hb dX7_gap_47 rfl (lv_at hl 5 rfl) ?_
          refine lv_if_lt (tgt := 57) hx hb dX7_gap_48 (by decide) (fun c_8 => ?_) (fun c_8 => ?_)
          · skip
            have ic_8 := ci_lt (rfl : Int32.toInt p3 = _) (show Int32.toInt 0 = 0 by decide) c_8
            refine lv_bipush (v := (-6)) hx hb dX7_gap_57 (by decide) ?_
            exact W.iret (v := (-6)) hx hb hr (fun t ht hW => ⟨(-6), rfl, trivial, ht⟩) (fun q h => by cases h) dX7_gap_59
          · skip
            have ic_8 := ci_nlt (rfl : Int32.toInt p3 = _) (show Int32.toInt 0 = 0 by decide) c_8
            refine lv_iload_n hx hb dX7_gap_51 rfl (lv_at hl 5 rfl) ?_
            refine lv_iload hx hb dX7_gap_52 (lv_at hl 0 rfl) ?_
            refine lv_icmp_lt (tgt := 60) hx hb dX7_gap_54 (by decide) (fun c_9 => ?_) (fun c_9 => ?_)
            · skip
              have ic_9 := ci_lt (rfl : Int32.toInt p3 = _) (rfl : Int32.toInt r_6 = _) c_9
              refine lv_iload_n hx hb dX7_gap_60 rfl (lv_at hl 4 rfl) ?_
              refine lv_iconst (v := 2) hx hb dX7_gap_61 (by decide) ?_
              refine lv_icmp_ne (tgt := 81) hx hb dX7_gap_62 (by decide) (fun c_10 => ?_) (fun c_10 => ?_)
              · skip
                have ic_10 := ci_ne (rfl : Int32.toInt p2 = _) (show Int32.toInt 2 = 2 by decide) c_10
                refine lv_aload_n hx hb dX7_gap_81 rfl (lv_at hl 2 rfl) ?_
                refine va_get (D := (dC, dI)) (ci := 5) (v := .ref a1) (C := RX7) (T := TX7) (N := 7) hx hb hts hnX7_gap_X7 hown hK hP 0 rfl rfl 0 (by decide) (hts (.fieldLink RX7 10 "RingMeets" "now" "LRingMeets$Scene;") (by decide +kernel)) (fun _ h9 => h9) rfl dX7_gap_82 ?_
                refine va_getN (D := (dC, dI)) (ci := 3) (v := .int (nI na)) (C := RX4) (T := TX4) (N := 3) hx hb hts hnX7_gap_X4 hown hK hP 1 rfl rfl 2 (by decide) (hN.fld 4 rfl) (fun _ h9 => h9) rfl dX7_gap_85 ?_
                refine lv_iload hx hb dX7_gap_88 (lv_at hl 1 rfl) ?_
                refine lv_iload_n hx hb dX7_gap_90 rfl (lv_at hl 3 rfl) ?_
                refine lv_iload_n hx hb dX7_gap_91 rfl (lv_at hl 4 rfl) ?_
                refine vp_callSi (va_Run.run (va_runS (As := [.int (nI na), .int r_1, .int p1, .int p2]) (rest := []) ⟨hx, hb, hml, hown, hts⟩ (mX0_row l dC dI cyI cyZ na r_1 p1 p2 (by omega)) (va_cwS 4 hts gX7_gap_X0_row rfl rfl rfl (by decide +kernel) ⟨Nat.le_of_ble_eq_true rfl, Nat.le_of_ble_eq_true rfl⟩) (bs_RS hB (hP.sub (ws' := []) [] rfl)) rfl rfl hl.1 rfl (lv_room (Nat.le_of_ble_eq_true rfl)) dX7_gap_92 ⟨Nat.le_of_ble_eq_true rfl, Nat.le_of_ble_eq_true rfl⟩)) (fun r_11 hr_11 => ?_)
                refine lv_istore (lv' := [(6, .int r_11), (5, .int r_6), (4, .int r_1), (0, .ref x0), (1, .int p1), (2, .int p2), (3, .int p3)]) hx hb dX7_gap_95 hl (by decide) rfl (fun ls hl => ?_)
                refine lv_iload hx hb dX7_gap_97 (lv_at hl 0 rfl) ?_
                refine lv_iload hx hb dX7_gap_99 (lv_at hl 1 rfl) ?_
                refine lv_iload_n hx hb dX7_gap_101 rfl (lv_at hl 6 rfl) ?_
                refine vp_callSi (va_Run.run (va_runS (As := [.int r_11, .int r_6, .int p3]) (rest := []) ⟨hx, hb, hml, hown, hts⟩ (mX0_at l dC dI cyI cyZ r_11 r_6 p3 ) (va_cwS 3 hts gX7_gap_X0_at rfl rfl rfl (by decide +kernel) ⟨Nat.le_of_ble_eq_true rfl, Nat.le_of_ble_eq_true rfl⟩) (bs_RS hB (hP.sub (ws' := []) [] rfl)) rfl rfl hl.1 rfl (lv_room (Nat.le_of_ble_eq_true rfl)) dX7_gap_102 ⟨Nat.le_of_ble_eq_true rfl, Nat.le_of_ble_eq_true rfl⟩)) (fun r_12 hr_12 => ?_)
                exact W.iret (v := r_12) hx hb hr (fun t ht hW => ⟨r_12, rfl, trivial, ht⟩) (fun q h => by cases h) dX7_gap_105
              · skip
                have ic_10 := ci_eq (rfl : Int32.toInt p2 = _) (show Int32.toInt 2 = 2 by decide) c_10
                refine lv_aload_n hx hb dX7_gap_65 rfl (lv_at hl 2 rfl) ?_
                refine va_get (D := (dC, dI)) (ci := 5) (v := .ref a1) (C := RX7) (T := TX7) (N := 7) hx hb hts hnX7_gap_X7 hown hK hP 0 rfl rfl 0 (by decide) (hts (.fieldLink RX7 10 "RingMeets" "now" "LRingMeets$Scene;") (by decide +kernel)) (fun _ h9 => h9) rfl dX7_gap_66 ?_
                refine va_getN (D := (dC, dI)) (ci := 3) (v := .int (nI na)) (C := RX4) (T := TX4) (N := 3) hx hb hts hnX7_gap_X4 hown hK hP 1 rfl rfl 2 (by decide) (hN.fld 4 rfl) (fun _ h9 => h9) rfl dX7_gap_69 ?_
                refine lv_iload hx hb dX7_gap_72 (lv_at hl 1 rfl) ?_
                refine lv_iload_n hx hb dX7_gap_74 rfl (lv_at hl 3 rfl) ?_
                refine vp_callSi (va_Run.run (va_runS (As := [.int (nI na), .int r_1, .int p1]) (rest := []) ⟨hx, hb, hml, hown, hts⟩ (mX0_view l dC dI cyI cyZ na r_1 p1 (by omega)) (va_cwS 3 hts gX7_gap_X0_view rfl rfl rfl (by decide +kernel) ⟨Nat.le_of_ble_eq_true rfl, Nat.le_of_ble_eq_true rfl⟩) (bs_RS hB (hP.sub (ws' := []) [] rfl)) rfl rfl hl.1 rfl (lv_room (Nat.le_of_ble_eq_true rfl)) dX7_gap_75 ⟨Nat.le_of_ble_eq_true rfl, Nat.le_of_ble_eq_true rfl⟩)) (fun r_13 hr_13 => ?_)
                refine lv_goto (tgt := 95) hx hb dX7_gap_78 (by decide) ?_
                refine lv_istore (lv' := [(6, .int r_13), (5, .int r_6), (4, .int r_1), (0, .ref x0), (1, .int p1), (2, .int p2), (3, .int p3)]) hx hb dX7_gap_95 hl (by decide) rfl (fun ls hl => ?_)
                refine lv_iload hx hb dX7_gap_97 (lv_at hl 0 rfl) ?_
                refine lv_iload hx hb dX7_gap_99 (lv_at hl 1 rfl) ?_
                refine lv_iload_n hx hb dX7_gap_101 rfl (lv_at hl 6 rfl) ?_
                refine vp_callSi (va_Run.run (va_runS (As := [.int r_13, .int r_6, .int p3]) (rest := []) ⟨hx, hb, hml, hown, hts⟩ (mX0_at l dC dI cyI cyZ r_13 r_6 p3 ) (va_cwS 3 hts gX7_gap_X0_at rfl rfl rfl (by decide +kernel) ⟨Nat.le_of_ble_eq_true rfl, Nat.le_of_ble_eq_true rfl⟩) (bs_RS hB (hP.sub (ws' := []) [] rfl)) rfl rfl hl.1 rfl (lv_room (Nat.le_of_ble_eq_true rfl)) dX7_gap_102 ⟨Nat.le_of_ble_eq_true rfl, Nat.le_of_ble_eq_true rfl⟩)) (fun r_14 hr_14 => ?_)
                exact W.iret (v := r_14) hx hb hr (fun t ht hW => ⟨r_14, rfl, trivial, ht⟩) (fun q h => by cases h) dX7_gap_105
            · skip
              have ic_9 := ci_nlt (rfl : Int32.toInt p3 = _) (rfl : Int32.toInt r_6 = _) c_9
              refine lv_bipush (v := (-6)) hx hb dX7_gap_57 (by decide) ?_
              exact W.iret (v := (-6)) hx hb hr (fun t ht hW => ⟨(-6), rfl, trivial, ht⟩) (fun q h => by cases h) dX7_gap_59
        · skip
          have ic_7 := ci_eq (rfl : Int32.toInt p3 = _) (show Int32.toInt (-1) = -1 by decide) c_7
          refine lv_iload hx hb dX7_gap_44 (lv_at hl 0 rfl) ?_
          exact W.iret (v := r_6) hx hb hr (fun t ht hW => ⟨r_6, rfl, trivial, ht⟩) (fun q h => by cases h) dX7_gap_46
      · skip
        have ic_5 := ci_nle (rfl : Int32.toInt p2 = _) (show Int32.toInt 2 = 2 by decide) c_5
        refine lv_bipush (v := (-2)) hx hb dX7_gap_29 (by decide) ?_
        exact W.iret (v := (-2)) hx hb hr (fun t ht hW => ⟨(-2), rfl, trivial, ht⟩) (fun q h => by cases h) dX7_gap_31
  · skip
    have ic_3 := ci_eq (rfl : Int32.toInt r_2 = _) (show Int32.toInt 0 = 0 by decide) c_3
    refine lv_iconst (v := (-1)) hx hb dX7_gap_18 (by decide) ?_
    exact W.iret (v := (-1)) hx hb hr (fun t ht hW => ⟨(-1), rfl, trivial, ht⟩) (fun q h => by cases h) dX7_gap_19

set_option maxHeartbeats 4000000 in
set_option maxRecDepth 100000 in
theorem mX7_gap_1 (l : Launch) (dC : Nat → ClassId) (dI : Nat → Nat → Nat) (cyI cyZ : ClassId) (x0 : Nat) (a1 : Nat) (b1 : Nat) (c1 : Nat) (xl : Nat) (xb : Nat) (kp : Int32) (wk : Nat) (a2 : Nat) (a3 : Nat) (na : Nat) (fa : Nat → Int32) (p1 : Int32) (p2 : Int32) (p3 : Int32) (hna : na ≤ 10) : Met l yX7_gap wsX7_gap ({ frames := 4, cells := 0, slots := 0, locals := 85 }) (bs_R dC dI cyI cyZ [.ref x0, .int p1, .int p2, .int p3] [(x0, .inr (5, [.ref a1, .ref b1, .ref c1, .ref xl, .ref xb, .int kp, .ref wk])), (a1, .inr (3, [.ref a2, .ref a3, .int (nI na)])), (a2, .inl (cyI, 10, .inl fa))]) (vp_Si (fun r : Int32 => True)) 0 0 (fun _ => False) := by
  refine Met.ofW (cc := cX7_gap) (maxL := 7) (ret := (some .int)) (by decide) rfl ?_
  intro p e s m args below meth c s₁ B hml hv
  obtain ⟨rfl, hB, hP⟩ := hv
  have hK := hB.1
  have hN := hB.2
  have hx := B.exec
  have hb := B.bytes
  have hr := B.returns
  have hts := atoms_spec (ws := wsX7_gap) B.pre
  have hown : s.vm.findClass RX7 = some m.cls := findClass_of_methodNamed B.named
  have hlocks := B.notSynchronized
  have hP : va_P (dC, dI) vwCl [(x0, .inr (5, [.ref a1, .ref b1, .ref c1, .ref xl, .ref xb, .int kp, .ref wk])), (a1, .inr (3, [.ref a2, .ref a3, .int (nI na)])), (a2, .inl (cyI, 10, .inl fa))] s.heap := hP
  have hl := lv_entry ([.ref x0, .int p1, .int p2, .int p3]) (n := 7) (Nat.le_of_ble_eq_true rfl)
  rw [lg_entry_eq]
  generalize (lg_sl ([.ref x0, .int p1, .int p2, .int p3]) ++ List.replicate (7 - (lg_sl ([.ref x0, .int p1, .int p2, .int p3])).length) Slot.unset).toArray = ls at hl ⊢
  have hl : lv_has ls 7 [(0, .ref x0), (1, .int p1), (2, .int p2), (3, .int p3)] := hl
  refine lv_aload_n hx hb dX7_gap_0 rfl (lv_at hl 0 rfl) ?_
  refine va_get (D := (dC, dI)) (ci := 5) (v := .ref a1) (C := RX7) (T := TX7) (N := 7) hx hb hts hnX7_gap_X7 hown hK hP 0 rfl rfl 0 (by decide) (hts (.fieldLink RX7 10 "RingMeets" "now" "LRingMeets$Scene;") (by decide +kernel)) (fun _ h9 => h9) rfl dX7_gap_1 ?_
  refine vp_callSi (va_Run.run (va_runV (As := []) (rest := []) ⟨hx, hb, hml, hown, hts⟩ (mX4_stands l dC dI cyI cyZ a1 a2 a3 na fa (by omega)) (cwV 0 hts gX7_gap_X4_stands rfl rfl rfl (by decide +kernel) ⟨Nat.le_of_ble_eq_true rfl, Nat.le_of_ble_eq_true rfl⟩) (bs_RV hB (hP.sub (ws' := [(a1, .inr (3, [.ref a2, .ref a3, .int (nI na)])), (a2, .inl (cyI, 10, .inl fa))]) [1, 2] rfl) 0 rfl rfl) rfl rfl hl.1 rfl (lv_room (Nat.le_of_ble_eq_true rfl)) dX7_gap_4 ⟨Nat.le_of_ble_eq_true rfl, Nat.le_of_ble_eq_true rfl⟩)) (fun r_1 hr_1 => ?_)
  refine lv_istore (lv' := [(4, .int r_1), (0, .ref x0), (1, .int p1), (2, .int p2), (3, .int p3)]) hx hb dX7_gap_7 hl (by decide) rfl (fun ls hl => ?_)
  refine lv_iload hx hb dX7_gap_9 (lv_at hl 0 rfl) ?_
  refine lv_iload_n hx hb dX7_gap_11 rfl (lv_at hl 2 rfl) ?_
  refine vp_callSi (va_Run.run (va_runS (As := [.int r_1, .int p1]) (rest := []) ⟨hx, hb, hml, hown, hts⟩ (mX5_has l dC dI cyI cyZ r_1 p1 ) (va_cwS 2 hts gX7_gap_X5_has rfl rfl rfl (by decide +kernel) ⟨Nat.le_of_ble_eq_true rfl, Nat.le_of_ble_eq_true rfl⟩) (bs_RS hB (hP.sub (ws' := []) [] rfl)) rfl rfl hl.1 rfl (lv_room (Nat.le_of_ble_eq_true rfl)) dX7_gap_12 ⟨Nat.le_of_ble_eq_true rfl, Nat.le_of_ble_eq_true rfl⟩)) (fun r_2 hr_2 => ?_)
  refine lv_if_ne (tgt := 20) hx hb dX7_gap_15 (by decide) (fun c_3 => ?_) (fun c_3 => ?_)
  · skip
    have ic_3 := ci_ne (rfl : Int32.toInt r_2 = _) (show Int32.toInt 0 = 0 by decide) c_3
    refine lv_iload_n hx hb dX7_gap_20 rfl (lv_at hl 3 rfl) ?_
    refine lv_if_lt (tgt := 29) hx hb dX7_gap_21 (by decide) (fun c_4 => ?_) (fun c_4 => ?_)
    · skip
      have ic_4 := ci_lt (rfl : Int32.toInt p2 = _) (show Int32.toInt 0 = 0 by decide) c_4
      refine lv_bipush (v := (-2)) hx hb dX7_gap_29 (by decide) ?_
      exact W.iret (v := (-2)) hx hb hr (fun t ht hW => ⟨(-2), rfl, trivial, ht⟩) (fun q h => by cases h) dX7_gap_31
    · skip
      have ic_4 := ci_nlt (rfl : Int32.toInt p2 = _) (show Int32.toInt 0 = 0 by decide) c_4
      refine lv_iload_n hx hb dX7_gap_24 rfl (lv_at hl 3 rfl) ?_
      refine lv_iconst (v := 2) hx hb dX7_gap_25 (by decide) ?_
      refine lv_icmp_le (tgt := 32) hx hb dX7_gap_26 (by decide) (fun c_5 => ?_) (fun c_5 => ?_)
      · skip
        have ic_5 := ci_le (rfl : Int32.toInt p2 = _) (show Int32.toInt 2 = 2 by decide) c_5
        refine lv_iload hx hb dX7_gap_32 (lv_at hl 0 rfl) ?_
        refine vp_callSi (va_Run.run (va_runS (As := [.int r_1]) (rest := []) ⟨hx, hb, hml, hown, hts⟩ (mJ6_bitCount_0f7a4 l dC dI cyI cyZ r_1 ) (va_cwS 1 hts gX7_gap_J6_bitCount_0f7a4 rfl rfl rfl (by decide +kernel) ⟨Nat.le_of_ble_eq_true rfl, Nat.le_of_ble_eq_true rfl⟩) (bs_RS hB (hP.sub (ws' := []) [] rfl)) rfl rfl hl.1 rfl (lv_room (Nat.le_of_ble_eq_true rfl)) dX7_gap_34 ⟨Nat.le_of_ble_eq_true rfl, Nat.le_of_ble_eq_true rfl⟩)) (fun r_6 hr_6 => ?_)
        refine lv_istore (lv' := [(5, .int r_6), (4, .int r_1), (0, .ref x0), (1, .int p1), (2, .int p2), (3, .int p3)]) hx hb dX7_gap_37 hl (by decide) rfl (fun ls hl => ?_)
        refine lv_iload_n hx hb dX7_gap_39 rfl (lv_at hl 5 rfl) ?_
        refine lv_iconst (v := (-1)) hx hb dX7_gap_40 (by decide) ?_
        refine lv_icmp_ne (tgt := 47) hx hb dX7_gap_41 (by decide) (fun c_7 => ?_) (fun c_7 => ?_)
        · skip
          have ic_7 := ci_ne (rfl : Int32.toInt p3 = _) (show Int32.toInt (-1) = -1 by decide) c_7
          refine lv_iload_n hx hb dX7_gap_47 rfl (lv_at hl 5 rfl) ?_
          refine lv_if_lt (tgt := 57) hx hb dX7_gap_48 (by decide) (fun c_8 => ?_) (fun c_8 => ?_)
          · skip
            have ic_8 := ci_lt (rfl : Int32.toInt p3 = _) (show Int32.toInt 0 = 0 by decide) c_8
            refine lv_bipush (v := (-6)) hx hb dX7_gap_57 (by decide) ?_
            exact W.iret (v := (-6)) hx hb hr (fun t ht hW => ⟨(-6), rfl, trivial, ht⟩) (fun q h => by cases h) dX7_gap_59
          · skip
            have ic_8 := ci_nlt (rfl : Int32.toInt p3 = _) (show Int32.toInt 0 = 0 by decide) c_8
            refine lv_iload_n hx hb dX7_gap_51 rfl (lv_at hl 5 rfl) ?_
            refine lv_iload hx hb dX7_gap_52 (lv_at hl 0 rfl) ?_
            refine lv_icmp_lt (tgt := 60) hx hb dX7_gap_54 (by decide) (fun c_9 => ?_) (fun c_9 => ?_)
            · skip
              have ic_9 := ci_lt (rfl : Int32.toInt p3 = _) (rfl : Int32.toInt r_6 = _) c_9
              refine lv_iload_n hx hb dX7_gap_60 rfl (lv_at hl 4 rfl) ?_
              refine lv_iconst (v := 2) hx hb dX7_gap_61 (by decide) ?_
              refine lv_icmp_ne (tgt := 81) hx hb dX7_gap_62 (by decide) (fun c_10 => ?_) (fun c_10 => ?_)
              · skip
                have ic_10 := ci_ne (rfl : Int32.toInt p2 = _) (show Int32.toInt 2 = 2 by decide) c_10
                refine lv_aload_n hx hb dX7_gap_81 rfl (lv_at hl 2 rfl) ?_
                refine va_get (D := (dC, dI)) (ci := 5) (v := .ref a1) (C := RX7) (T := TX7) (N := 7) hx hb hts hnX7_gap_X7 hown hK hP 0 rfl rfl 0 (by decide) (hts (.fieldLink RX7 10 "RingMeets" "now" "LRingMeets$Scene;") (by decide +kernel)) (fun _ h9 => h9) rfl dX7_gap_82 ?_
                refine va_getN (D := (dC, dI)) (ci := 3) (v := .int (nI na)) (C := RX4) (T := TX4) (N := 3) hx hb hts hnX7_gap_X4 hown hK hP 1 rfl rfl 2 (by decide) (hN.fld 4 rfl) (fun _ h9 => h9) rfl dX7_gap_85 ?_
                refine lv_iload hx hb dX7_gap_88 (lv_at hl 1 rfl) ?_
                refine lv_iload_n hx hb dX7_gap_90 rfl (lv_at hl 3 rfl) ?_
                refine lv_iload_n hx hb dX7_gap_91 rfl (lv_at hl 4 rfl) ?_
                refine vp_callSi (va_Run.run (va_runS (As := [.int (nI na), .int r_1, .int p1, .int p2]) (rest := []) ⟨hx, hb, hml, hown, hts⟩ (mX0_row l dC dI cyI cyZ na r_1 p1 p2 (by omega)) (va_cwS 4 hts gX7_gap_X0_row rfl rfl rfl (by decide +kernel) ⟨Nat.le_of_ble_eq_true rfl, Nat.le_of_ble_eq_true rfl⟩) (bs_RS hB (hP.sub (ws' := []) [] rfl)) rfl rfl hl.1 rfl (lv_room (Nat.le_of_ble_eq_true rfl)) dX7_gap_92 ⟨Nat.le_of_ble_eq_true rfl, Nat.le_of_ble_eq_true rfl⟩)) (fun r_11 hr_11 => ?_)
                refine lv_istore (lv' := [(6, .int r_11), (5, .int r_6), (4, .int r_1), (0, .ref x0), (1, .int p1), (2, .int p2), (3, .int p3)]) hx hb dX7_gap_95 hl (by decide) rfl (fun ls hl => ?_)
                refine lv_iload hx hb dX7_gap_97 (lv_at hl 0 rfl) ?_
                refine lv_iload hx hb dX7_gap_99 (lv_at hl 1 rfl) ?_
                refine lv_iload_n hx hb dX7_gap_101 rfl (lv_at hl 6 rfl) ?_
                refine vp_callSi (va_Run.run (va_runS (As := [.int r_11, .int r_6, .int p3]) (rest := []) ⟨hx, hb, hml, hown, hts⟩ (mX0_at l dC dI cyI cyZ r_11 r_6 p3 ) (va_cwS 3 hts gX7_gap_X0_at rfl rfl rfl (by decide +kernel) ⟨Nat.le_of_ble_eq_true rfl, Nat.le_of_ble_eq_true rfl⟩) (bs_RS hB (hP.sub (ws' := []) [] rfl)) rfl rfl hl.1 rfl (lv_room (Nat.le_of_ble_eq_true rfl)) dX7_gap_102 ⟨Nat.le_of_ble_eq_true rfl, Nat.le_of_ble_eq_true rfl⟩)) (fun r_12 hr_12 => ?_)
                exact W.iret (v := r_12) hx hb hr (fun t ht hW => ⟨r_12, rfl, trivial, ht⟩) (fun q h => by cases h) dX7_gap_105
              · skip
                have ic_10 := ci_eq (rfl : Int32.toInt p2 = _) (show Int32.toInt 2 = 2 by decide) c_10
                refine lv_aload_n hx hb dX7_gap_65 rfl (lv_at hl 2 rfl) ?_
                refine va_get (D := (dC, dI)) (ci := 5) (v := .ref a1) (C := RX7) (T := TX7) (N := 7) hx hb hts hnX7_gap_X7 hown hK hP 0 rfl rfl 0 (by decide) (hts (.fieldLink RX7 10 "RingMeets" "now" "LRingMeets$Scene;") (by decide +kernel)) (fun _ h9 => h9) rfl dX7_gap_66 ?_
                refine va_getN (D := (dC, dI)) (ci := 3) (v := .int (nI na)) (C := RX4) (T := TX4) (N := 3) hx hb hts hnX7_gap_X4 hown hK hP 1 rfl rfl 2 (by decide) (hN.fld 4 rfl) (fun _ h9 => h9) rfl dX7_gap_69 ?_
                refine lv_iload hx hb dX7_gap_72 (lv_at hl 1 rfl) ?_
                refine lv_iload_n hx hb dX7_gap_74 rfl (lv_at hl 3 rfl) ?_
                refine vp_callSi (va_Run.run (va_runS (As := [.int (nI na), .int r_1, .int p1]) (rest := []) ⟨hx, hb, hml, hown, hts⟩ (mX0_view l dC dI cyI cyZ na r_1 p1 (by omega)) (va_cwS 3 hts gX7_gap_X0_view rfl rfl rfl (by decide +kernel) ⟨Nat.le_of_ble_eq_true rfl, Nat.le_of_ble_eq_true rfl⟩) (bs_RS hB (hP.sub (ws' := []) [] rfl)) rfl rfl hl.1 rfl (lv_room (Nat.le_of_ble_eq_true rfl)) dX7_gap_75 ⟨Nat.le_of_ble_eq_true rfl, Nat.le_of_ble_eq_true rfl⟩)) (fun r_13 hr_13 => ?_)
                refine lv_goto (tgt := 95) hx hb dX7_gap_78 (by decide) ?_
                refine lv_istore (lv' := [(6, .int r_13), (5, .int r_6), (4, .int r_1), (0, .ref x0), (1, .int p1), (2, .int p2), (3, .int p3)]) hx hb dX7_gap_95 hl (by decide) rfl (fun ls hl => ?_)
                refine lv_iload hx hb dX7_gap_97 (lv_at hl 0 rfl) ?_
                refine lv_iload hx hb dX7_gap_99 (lv_at hl 1 rfl) ?_
                refine lv_iload_n hx hb dX7_gap_101 rfl (lv_at hl 6 rfl) ?_
                refine vp_callSi (va_Run.run (va_runS (As := [.int r_13, .int r_6, .int p3]) (rest := []) ⟨hx, hb, hml, hown, hts⟩ (mX0_at l dC dI cyI cyZ r_13 r_6 p3 ) (va_cwS 3 hts gX7_gap_X0_at rfl rfl rfl (by decide +kernel) ⟨Nat.le_of_ble_eq_true rfl, Nat.le_of_ble_eq_true rfl⟩) (bs_RS hB (hP.sub (ws' := []) [] rfl)) rfl rfl hl.1 rfl (lv_room (Nat.le_of_ble_eq_true rfl)) dX7_gap_102 ⟨Nat.le_of_ble_eq_true rfl, Nat.le_of_ble_eq_true rfl⟩)) (fun r_14 hr_14 => ?_)
                exact W.iret (v := r_14) hx hb hr (fun t ht hW => ⟨r_14, rfl, trivial, ht⟩) (fun q h => by cases h) dX7_gap_105
            · skip
              have ic_9 := ci_nlt (rfl : Int32.toInt p3 = _) (rfl : Int32.toInt r_6 = _) c_9
              refine lv_bipush (v := (-6)) hx hb dX7_gap_57 (by decide) ?_
              exact W.iret (v := (-6)) hx hb hr (fun t ht hW => ⟨(-6), rfl, trivial, ht⟩) (fun q h => by cases h) dX7_gap_59
        · skip
          have ic_7 := ci_eq (rfl : Int32.toInt p3 = _) (show Int32.toInt (-1) = -1 by decide) c_7
          refine lv_iload hx hb dX7_gap_44 (lv_at hl 0 rfl) ?_
          exact W.iret (v := r_6) hx hb hr (fun t ht hW => ⟨r_6, rfl, trivial, ht⟩) (fun q h => by cases h) dX7_gap_46
      · skip
        have ic_5 := ci_nle (rfl : Int32.toInt p2 = _) (show Int32.toInt 2 = 2 by decide) c_5
        refine lv_bipush (v := (-2)) hx hb dX7_gap_29 (by decide) ?_
        exact W.iret (v := (-2)) hx hb hr (fun t ht hW => ⟨(-2), rfl, trivial, ht⟩) (fun q h => by cases h) dX7_gap_31
  · skip
    have ic_3 := ci_eq (rfl : Int32.toInt r_2 = _) (show Int32.toInt 0 = 0 by decide) c_3
    refine lv_iconst (v := (-1)) hx hb dX7_gap_18 (by decide) ?_
    exact W.iret (v := (-1)) hx hb hr (fun t ht hW => ⟨(-1), rfl, trivial, ht⟩) (fun q h => by cases h) dX7_gap_19

theorem hnX7_shape_X4 : ∀ w ∈ wsX40, w ∈ wsX7_shape := fun _ h => List.mem_cons_of_mem _ (List.mem_append_right _ h)
theorem hnX7_shape_X7 : ∀ w ∈ wsX70, w ∈ wsX7_shape := fun _ h => List.mem_cons_of_mem _ (List.mem_append_left _ (List.mem_append_right _ h))
set_option maxHeartbeats 4000000 in
set_option maxRecDepth 100000 in
theorem mX7_shape_0 (l : Launch) (dC : Nat → ClassId) (dI : Nat → Nat → Nat) (cyI cyZ : ClassId) (x0 : Nat) (a1 : Nat) (b1 : Nat) (c1 : Nat) (xl : Nat) (xb : Nat) (kp : Int32) (a2 : Nat) (a3 : Nat) (na : Nat) (fa : Nat → Int32) (p1 : Int32) (hna : na ≤ 10) : Met l yX7_shape wsX7_shape ({ frames := 5, cells := 0, slots := 0, locals := 118 }) (bs_R dC dI cyI cyZ [.ref x0, .int p1] [(x0, .inr (5, [.ref a1, .ref b1, .ref c1, .ref xl, .ref xb, .int kp, .null])), (a1, .inr (3, [.ref a2, .ref a3, .int (nI na)])), (a2, .inl (cyI, 10, .inl fa))]) (vp_Si (fun r : Int32 => True)) 0 0 (fun _ => False) := by
  refine Met.ofW (cc := cX7_shape) (maxL := 4) (ret := (some .int)) (by decide) rfl ?_
  intro p e s m args below meth c s₁ B hml hv
  obtain ⟨rfl, hB, hP⟩ := hv
  have hK := hB.1
  have hN := hB.2
  have hx := B.exec
  have hb := B.bytes
  have hr := B.returns
  have hts := atoms_spec (ws := wsX7_shape) B.pre
  have hown : s.vm.findClass RX7 = some m.cls := findClass_of_methodNamed B.named
  have hlocks := B.notSynchronized
  have hP : va_P (dC, dI) vwCl [(x0, .inr (5, [.ref a1, .ref b1, .ref c1, .ref xl, .ref xb, .int kp, .null])), (a1, .inr (3, [.ref a2, .ref a3, .int (nI na)])), (a2, .inl (cyI, 10, .inl fa))] s.heap := hP
  have hl := lv_entry ([.ref x0, .int p1]) (n := 4) (Nat.le_of_ble_eq_true rfl)
  rw [lg_entry_eq]
  generalize (lg_sl ([.ref x0, .int p1]) ++ List.replicate (4 - (lg_sl ([.ref x0, .int p1])).length) Slot.unset).toArray = ls at hl ⊢
  have hl : lv_has ls 4 [(0, .ref x0), (1, .int p1)] := hl
  refine lv_aload_n hx hb dX7_shape_0 rfl (lv_at hl 0 rfl) ?_
  refine va_get (D := (dC, dI)) (ci := 5) (v := .ref a1) (C := RX7) (T := TX7) (N := 7) hx hb hts hnX7_shape_X7 hown hK hP 0 rfl rfl 0 (by decide) (hts (.fieldLink RX7 10 "RingMeets" "now" "LRingMeets$Scene;") (by decide +kernel)) (fun _ h9 => h9) rfl dX7_shape_1 ?_
  refine va_getN (D := (dC, dI)) (ci := 3) (v := .int (nI na)) (C := RX4) (T := TX4) (N := 3) hx hb hts hnX7_shape_X4 hown hK hP 1 rfl rfl 2 (by decide) (hN.fld 4 rfl) (fun _ h9 => h9) rfl dX7_shape_4 ?_
  refine lv_istore_n (lv' := [(2, .int (nI na)), (0, .ref x0), (1, .int p1)]) hx hb dX7_shape_7 rfl hl (by decide) rfl (fun ls hl => ?_)
  refine lv_aload_n hx hb dX7_shape_8 rfl (lv_at hl 1 rfl) ?_
  refine va_get (D := (dC, dI)) (ci := 5) (v := .ref a1) (C := RX7) (T := TX7) (N := 7) hx hb hts hnX7_shape_X7 hown hK hP 0 rfl rfl 0 (by decide) (hts (.fieldLink RX7 10 "RingMeets" "now" "LRingMeets$Scene;") (by decide +kernel)) (fun _ h9 => h9) rfl dX7_shape_9 ?_
  refine vp_callSi (va_Run.run (va_runV (As := []) (rest := []) ⟨hx, hb, hml, hown, hts⟩ (mX4_stands l dC dI cyI cyZ a1 a2 a3 na fa (by omega)) (cwV 0 hts gX7_shape_X4_stands rfl rfl rfl (by decide +kernel) ⟨Nat.le_of_ble_eq_true rfl, Nat.le_of_ble_eq_true rfl⟩) (bs_RV hB (hP.sub (ws' := [(a1, .inr (3, [.ref a2, .ref a3, .int (nI na)])), (a2, .inl (cyI, 10, .inl fa))]) [1, 2] rfl) 0 rfl rfl) rfl rfl hl.1 rfl (lv_room (Nat.le_of_ble_eq_true rfl)) dX7_shape_12 ⟨Nat.le_of_ble_eq_true rfl, Nat.le_of_ble_eq_true rfl⟩)) (fun r_1 hr_1 => ?_)
  refine lv_istore_n (lv' := [(3, .int r_1), (2, .int (nI na)), (0, .ref x0), (1, .int p1)]) hx hb dX7_shape_15 rfl hl (by decide) rfl (fun ls hl => ?_)
  refine lv_iload_n hx hb dX7_shape_16 rfl (lv_at hl 3 rfl) ?_
  rcases nb_sw p1 5 5 rfl with w_2 | ⟨w_2k, w_2l, w_2⟩
  · skip
    refine lv_tableOut (tgt := 128) hx hb dX7_shape_17 w_2 (by decide) ?_
    refine lv_bipush (v := (-2)) hx hb dX7_shape_128 (by decide) ?_
    exact W.iret (v := (-2)) hx hb hr (fun t ht hW => ⟨(-2), rfl, trivial, ht⟩) (fun q h => by cases h) dX7_shape_130
  · skip
    rcases (show w_2k = 0 ∨ w_2k = 1 ∨ w_2k = 2 ∨ w_2k = 3 ∨ w_2k = 4 ∨ w_2k = 5 by omega) with rfl | rfl | rfl | rfl | rfl | rfl
    · skip
      have ew_2 : p1 = 0 := w_2
      refine W.eq (g2 := F0 m 17 ls (.int 0 :: [])) (by rw [ew_2]) ?_
      refine lv_tableIn (off := 39) (tgt := 56) hx hb dX7_shape_17 (by decide) (by decide) (by decide) (by decide) ?_
      refine lv_iload_n hx hb dX7_shape_56 rfl (lv_at hl 1 rfl) ?_
      refine lv_iload_n hx hb dX7_shape_57 rfl (lv_at hl 0 rfl) ?_
      refine vp_callSi (va_Run.run (va_runS (As := [.int (nI na), .int r_1]) (rest := []) ⟨hx, hb, hml, hown, hts⟩ (mX0_turned l dC dI cyI cyZ na r_1 (by omega)) (va_cwS 2 hts gX7_shape_X0_turned rfl rfl rfl (by decide +kernel) ⟨Nat.le_of_ble_eq_true rfl, Nat.le_of_ble_eq_true rfl⟩) (bs_RS hB (hP.sub (ws' := []) [] rfl)) rfl rfl hl.1 rfl (lv_room (Nat.le_of_ble_eq_true rfl)) dX7_shape_58 ⟨Nat.le_of_ble_eq_true rfl, Nat.le_of_ble_eq_true rfl⟩)) (fun r_3 hr_3 => ?_)
      refine lv_if_eq (tgt := 68) hx hb dX7_shape_61 (by decide) (fun c_4 => ?_) (fun c_4 => ?_)
      · skip
        have ic_4 := ci_eq (rfl : Int32.toInt r_3 = _) (show Int32.toInt 0 = 0 by decide) c_4
        refine lv_iconst (v := 0) hx hb dX7_shape_68 (by decide) ?_
        exact W.iret (v := 0) hx hb hr (fun t ht hW => ⟨0, rfl, trivial, ht⟩) (fun q h => by cases h) dX7_shape_69
      · skip
        have ic_4 := ci_ne (rfl : Int32.toInt r_3 = _) (show Int32.toInt 0 = 0 by decide) c_4
        refine lv_iconst (v := 1) hx hb dX7_shape_64 (by decide) ?_
        refine lv_goto (tgt := 69) hx hb dX7_shape_65 (by decide) ?_
        exact W.iret (v := 1) hx hb hr (fun t ht hW => ⟨1, rfl, trivial, ht⟩) (fun q h => by cases h) dX7_shape_69
    · skip
      have ew_2 : p1 = 1 := w_2
      refine W.eq (g2 := F0 m 17 ls (.int 1 :: [])) (by rw [ew_2]) ?_
      refine lv_tableIn (off := 53) (tgt := 70) hx hb dX7_shape_17 (by decide) (by decide) (by decide) (by decide) ?_
      refine lv_iload_n hx hb dX7_shape_70 rfl (lv_at hl 1 rfl) ?_
      refine lv_iload_n hx hb dX7_shape_71 rfl (lv_at hl 0 rfl) ?_
      refine vp_callSi (va_Run.run (va_runS (As := [.int (nI na), .int r_1]) (rest := []) ⟨hx, hb, hml, hown, hts⟩ (mX0_mirrored l dC dI cyI cyZ na r_1 (by omega)) (va_cwS 2 hts gX7_shape_X0_mirrored rfl rfl rfl (by decide +kernel) ⟨Nat.le_of_ble_eq_true rfl, Nat.le_of_ble_eq_true rfl⟩) (bs_RS hB (hP.sub (ws' := []) [] rfl)) rfl rfl hl.1 rfl (lv_room (Nat.le_of_ble_eq_true rfl)) dX7_shape_72 ⟨Nat.le_of_ble_eq_true rfl, Nat.le_of_ble_eq_true rfl⟩)) (fun r_5 hr_5 => ?_)
      refine lv_if_eq (tgt := 82) hx hb dX7_shape_75 (by decide) (fun c_6 => ?_) (fun c_6 => ?_)
      · skip
        have ic_6 := ci_eq (rfl : Int32.toInt r_5 = _) (show Int32.toInt 0 = 0 by decide) c_6
        refine lv_iconst (v := 0) hx hb dX7_shape_82 (by decide) ?_
        exact W.iret (v := 0) hx hb hr (fun t ht hW => ⟨0, rfl, trivial, ht⟩) (fun q h => by cases h) dX7_shape_83
      · skip
        have ic_6 := ci_ne (rfl : Int32.toInt r_5 = _) (show Int32.toInt 0 = 0 by decide) c_6
        refine lv_iconst (v := 1) hx hb dX7_shape_78 (by decide) ?_
        refine lv_goto (tgt := 83) hx hb dX7_shape_79 (by decide) ?_
        exact W.iret (v := 1) hx hb hr (fun t ht hW => ⟨1, rfl, trivial, ht⟩) (fun q h => by cases h) dX7_shape_83
    · skip
      have ew_2 : p1 = 2 := w_2
      refine W.eq (g2 := F0 m 17 ls (.int 2 :: [])) (by rw [ew_2]) ?_
      refine lv_tableIn (off := 67) (tgt := 84) hx hb dX7_shape_17 (by decide) (by decide) (by decide) (by decide) ?_
      refine lv_iload_n hx hb dX7_shape_84 rfl (lv_at hl 0 rfl) ?_
      refine lv_if_eq (tgt := 108) hx hb dX7_shape_85 (by decide) (fun c_7 => ?_) (fun c_7 => ?_)
      · skip
        have ic_7 := ci_eq (rfl : Int32.toInt r_1 = _) (show Int32.toInt 0 = 0 by decide) c_7
        refine lv_iconst (v := 0) hx hb dX7_shape_108 (by decide) ?_
        exact W.iret (v := 0) hx hb hr (fun t ht hW => ⟨0, rfl, trivial, ht⟩) (fun q h => by cases h) dX7_shape_109
      · skip
        have ic_7 := ci_ne (rfl : Int32.toInt r_1 = _) (show Int32.toInt 0 = 0 by decide) c_7
        refine lv_iload_n hx hb dX7_shape_88 rfl (lv_at hl 1 rfl) ?_
        refine lv_iload_n hx hb dX7_shape_89 rfl (lv_at hl 0 rfl) ?_
        refine vp_callSi (va_Run.run (va_runS (As := [.int (nI na), .int r_1]) (rest := []) ⟨hx, hb, hml, hown, hts⟩ (mX0_turned l dC dI cyI cyZ na r_1 (by omega)) (va_cwS 2 hts gX7_shape_X0_turned rfl rfl rfl (by decide +kernel) ⟨Nat.le_of_ble_eq_true rfl, Nat.le_of_ble_eq_true rfl⟩) (bs_RS hB (hP.sub (ws' := []) [] rfl)) rfl rfl hl.1 rfl (lv_room (Nat.le_of_ble_eq_true rfl)) dX7_shape_90 ⟨Nat.le_of_ble_eq_true rfl, Nat.le_of_ble_eq_true rfl⟩)) (fun r_8 hr_8 => ?_)
        refine lv_if_ne (tgt := 108) hx hb dX7_shape_93 (by decide) (fun c_9 => ?_) (fun c_9 => ?_)
        · skip
          have ic_9 := ci_ne (rfl : Int32.toInt r_8 = _) (show Int32.toInt 0 = 0 by decide) c_9
          refine lv_iconst (v := 0) hx hb dX7_shape_108 (by decide) ?_
          exact W.iret (v := 0) hx hb hr (fun t ht hW => ⟨0, rfl, trivial, ht⟩) (fun q h => by cases h) dX7_shape_109
        · skip
          have ic_9 := ci_eq (rfl : Int32.toInt r_8 = _) (show Int32.toInt 0 = 0 by decide) c_9
          refine lv_iload_n hx hb dX7_shape_96 rfl (lv_at hl 1 rfl) ?_
          refine lv_iload_n hx hb dX7_shape_97 rfl (lv_at hl 0 rfl) ?_
          refine vp_callSi (va_Run.run (va_runS (As := [.int (nI na), .int r_1]) (rest := []) ⟨hx, hb, hml, hown, hts⟩ (mX0_mirrored l dC dI cyI cyZ na r_1 (by omega)) (va_cwS 2 hts gX7_shape_X0_mirrored rfl rfl rfl (by decide +kernel) ⟨Nat.le_of_ble_eq_true rfl, Nat.le_of_ble_eq_true rfl⟩) (bs_RS hB (hP.sub (ws' := []) [] rfl)) rfl rfl hl.1 rfl (lv_room (Nat.le_of_ble_eq_true rfl)) dX7_shape_98 ⟨Nat.le_of_ble_eq_true rfl, Nat.le_of_ble_eq_true rfl⟩)) (fun r_10 hr_10 => ?_)
          refine lv_if_ne (tgt := 108) hx hb dX7_shape_101 (by decide) (fun c_11 => ?_) (fun c_11 => ?_)
          · skip
            have ic_11 := ci_ne (rfl : Int32.toInt r_10 = _) (show Int32.toInt 0 = 0 by decide) c_11
            refine lv_iconst (v := 0) hx hb dX7_shape_108 (by decide) ?_
            exact W.iret (v := 0) hx hb hr (fun t ht hW => ⟨0, rfl, trivial, ht⟩) (fun q h => by cases h) dX7_shape_109
          · skip
            have ic_11 := ci_eq (rfl : Int32.toInt r_10 = _) (show Int32.toInt 0 = 0 by decide) c_11
            refine lv_iconst (v := 1) hx hb dX7_shape_104 (by decide) ?_
            refine lv_goto (tgt := 109) hx hb dX7_shape_105 (by decide) ?_
            exact W.iret (v := 1) hx hb hr (fun t ht hW => ⟨1, rfl, trivial, ht⟩) (fun q h => by cases h) dX7_shape_109
    · skip
      have ew_2 : p1 = 3 := w_2
      refine W.eq (g2 := F0 m 17 ls (.int 3 :: [])) (by rw [ew_2]) ?_
      refine lv_tableIn (off := 93) (tgt := 110) hx hb dX7_shape_17 (by decide) (by decide) (by decide) (by decide) ?_
      refine lv_iload_n hx hb dX7_shape_110 rfl (lv_at hl 1 rfl) ?_
      refine lv_iload_n hx hb dX7_shape_111 rfl (lv_at hl 0 rfl) ?_
      refine vp_callSi (va_Run.run (va_runS (As := [.int (nI na), .int r_1]) (rest := []) ⟨hx, hb, hml, hown, hts⟩ (mX0_evens l dC dI cyI cyZ na r_1 (by omega)) (va_cwS 2 hts gX7_shape_X0_evens rfl rfl rfl (by decide +kernel) ⟨Nat.le_of_ble_eq_true rfl, Nat.le_of_ble_eq_true rfl⟩) (bs_RS hB (hP.sub (ws' := []) [] rfl)) rfl rfl hl.1 rfl (lv_room (Nat.le_of_ble_eq_true rfl)) dX7_shape_112 ⟨Nat.le_of_ble_eq_true rfl, Nat.le_of_ble_eq_true rfl⟩)) (fun r_12 hr_12 => ?_)
      exact W.iret (v := r_12) hx hb hr (fun t ht hW => ⟨r_12, rfl, trivial, ht⟩) (fun q h => by cases h) dX7_shape_115
    · skip
      have ew_2 : p1 = 4 := w_2
      refine W.eq (g2 := F0 m 17 ls (.int 4 :: [])) (by rw [ew_2]) ?_
      refine lv_tableIn (off := 99) (tgt := 116) hx hb dX7_shape_17 (by decide) (by decide) (by decide) (by decide) ?_
      refine lv_iload_n hx hb dX7_shape_116 rfl (lv_at hl 1 rfl) ?_
      refine lv_iload_n hx hb dX7_shape_117 rfl (lv_at hl 0 rfl) ?_
      refine vp_callSi (va_Run.run (va_runS (As := [.int (nI na), .int r_1]) (rest := []) ⟨hx, hb, hml, hown, hts⟩ (mX0_views l dC dI cyI cyZ na r_1 (by omega)) (va_cwS 2 hts gX7_shape_X0_views rfl rfl rfl (by decide +kernel) ⟨Nat.le_of_ble_eq_true rfl, Nat.le_of_ble_eq_true rfl⟩) (bs_RS hB (hP.sub (ws' := []) [] rfl)) rfl rfl hl.1 rfl (lv_room (Nat.le_of_ble_eq_true rfl)) dX7_shape_118 ⟨Nat.le_of_ble_eq_true rfl, Nat.le_of_ble_eq_true rfl⟩)) (fun r_13 hr_13 => ?_)
      exact W.iret (v := r_13) hx hb hr (fun t ht hW => ⟨r_13, rfl, trivial, ht⟩) (fun q h => by cases h) dX7_shape_121
    · skip
      have ew_2 : p1 = 5 := w_2
      refine W.eq (g2 := F0 m 17 ls (.int 5 :: [])) (by rw [ew_2]) ?_
      refine lv_tableIn (off := 105) (tgt := 122) hx hb dX7_shape_17 (by decide) (by decide) (by decide) (by decide) ?_
      refine lv_iload_n hx hb dX7_shape_122 rfl (lv_at hl 1 rfl) ?_
      refine lv_iload_n hx hb dX7_shape_123 rfl (lv_at hl 0 rfl) ?_
      refine vp_callSi (va_Run.run (va_runS (As := [.int (nI na), .int r_1]) (rest := []) ⟨hx, hb, hml, hown, hts⟩ (mX0_leastTurn l dC dI cyI cyZ na r_1 (by omega)) (va_cwS 2 hts gX7_shape_X0_leastTurn rfl rfl rfl (by decide +kernel) ⟨Nat.le_of_ble_eq_true rfl, Nat.le_of_ble_eq_true rfl⟩) (bs_RS hB (hP.sub (ws' := []) [] rfl)) rfl rfl hl.1 rfl (lv_room (Nat.le_of_ble_eq_true rfl)) dX7_shape_124 ⟨Nat.le_of_ble_eq_true rfl, Nat.le_of_ble_eq_true rfl⟩)) (fun r_14 hr_14 => ?_)
      exact W.iret (v := r_14) hx hb hr (fun t ht hW => ⟨r_14, rfl, trivial, ht⟩) (fun q h => by cases h) dX7_shape_127

set_option maxHeartbeats 4000000 in
set_option maxRecDepth 100000 in
theorem mX7_shape_1 (l : Launch) (dC : Nat → ClassId) (dI : Nat → Nat → Nat) (cyI cyZ : ClassId) (x0 : Nat) (a1 : Nat) (b1 : Nat) (c1 : Nat) (xl : Nat) (xb : Nat) (kp : Int32) (wk : Nat) (a2 : Nat) (a3 : Nat) (na : Nat) (fa : Nat → Int32) (p1 : Int32) (hna : na ≤ 10) : Met l yX7_shape wsX7_shape ({ frames := 5, cells := 0, slots := 0, locals := 118 }) (bs_R dC dI cyI cyZ [.ref x0, .int p1] [(x0, .inr (5, [.ref a1, .ref b1, .ref c1, .ref xl, .ref xb, .int kp, .ref wk])), (a1, .inr (3, [.ref a2, .ref a3, .int (nI na)])), (a2, .inl (cyI, 10, .inl fa))]) (vp_Si (fun r : Int32 => True)) 0 0 (fun _ => False) := by
  refine Met.ofW (cc := cX7_shape) (maxL := 4) (ret := (some .int)) (by decide) rfl ?_
  intro p e s m args below meth c s₁ B hml hv
  obtain ⟨rfl, hB, hP⟩ := hv
  have hK := hB.1
  have hN := hB.2
  have hx := B.exec
  have hb := B.bytes
  have hr := B.returns
  have hts := atoms_spec (ws := wsX7_shape) B.pre
  have hown : s.vm.findClass RX7 = some m.cls := findClass_of_methodNamed B.named
  have hlocks := B.notSynchronized
  have hP : va_P (dC, dI) vwCl [(x0, .inr (5, [.ref a1, .ref b1, .ref c1, .ref xl, .ref xb, .int kp, .ref wk])), (a1, .inr (3, [.ref a2, .ref a3, .int (nI na)])), (a2, .inl (cyI, 10, .inl fa))] s.heap := hP
  have hl := lv_entry ([.ref x0, .int p1]) (n := 4) (Nat.le_of_ble_eq_true rfl)
  rw [lg_entry_eq]
  generalize (lg_sl ([.ref x0, .int p1]) ++ List.replicate (4 - (lg_sl ([.ref x0, .int p1])).length) Slot.unset).toArray = ls at hl ⊢
  have hl : lv_has ls 4 [(0, .ref x0), (1, .int p1)] := hl
  refine lv_aload_n hx hb dX7_shape_0 rfl (lv_at hl 0 rfl) ?_
  refine va_get (D := (dC, dI)) (ci := 5) (v := .ref a1) (C := RX7) (T := TX7) (N := 7) hx hb hts hnX7_shape_X7 hown hK hP 0 rfl rfl 0 (by decide) (hts (.fieldLink RX7 10 "RingMeets" "now" "LRingMeets$Scene;") (by decide +kernel)) (fun _ h9 => h9) rfl dX7_shape_1 ?_
  refine va_getN (D := (dC, dI)) (ci := 3) (v := .int (nI na)) (C := RX4) (T := TX4) (N := 3) hx hb hts hnX7_shape_X4 hown hK hP 1 rfl rfl 2 (by decide) (hN.fld 4 rfl) (fun _ h9 => h9) rfl dX7_shape_4 ?_
  refine lv_istore_n (lv' := [(2, .int (nI na)), (0, .ref x0), (1, .int p1)]) hx hb dX7_shape_7 rfl hl (by decide) rfl (fun ls hl => ?_)
  refine lv_aload_n hx hb dX7_shape_8 rfl (lv_at hl 1 rfl) ?_
  refine va_get (D := (dC, dI)) (ci := 5) (v := .ref a1) (C := RX7) (T := TX7) (N := 7) hx hb hts hnX7_shape_X7 hown hK hP 0 rfl rfl 0 (by decide) (hts (.fieldLink RX7 10 "RingMeets" "now" "LRingMeets$Scene;") (by decide +kernel)) (fun _ h9 => h9) rfl dX7_shape_9 ?_
  refine vp_callSi (va_Run.run (va_runV (As := []) (rest := []) ⟨hx, hb, hml, hown, hts⟩ (mX4_stands l dC dI cyI cyZ a1 a2 a3 na fa (by omega)) (cwV 0 hts gX7_shape_X4_stands rfl rfl rfl (by decide +kernel) ⟨Nat.le_of_ble_eq_true rfl, Nat.le_of_ble_eq_true rfl⟩) (bs_RV hB (hP.sub (ws' := [(a1, .inr (3, [.ref a2, .ref a3, .int (nI na)])), (a2, .inl (cyI, 10, .inl fa))]) [1, 2] rfl) 0 rfl rfl) rfl rfl hl.1 rfl (lv_room (Nat.le_of_ble_eq_true rfl)) dX7_shape_12 ⟨Nat.le_of_ble_eq_true rfl, Nat.le_of_ble_eq_true rfl⟩)) (fun r_1 hr_1 => ?_)
  refine lv_istore_n (lv' := [(3, .int r_1), (2, .int (nI na)), (0, .ref x0), (1, .int p1)]) hx hb dX7_shape_15 rfl hl (by decide) rfl (fun ls hl => ?_)
  refine lv_iload_n hx hb dX7_shape_16 rfl (lv_at hl 3 rfl) ?_
  rcases nb_sw p1 5 5 rfl with w_2 | ⟨w_2k, w_2l, w_2⟩
  · skip
    refine lv_tableOut (tgt := 128) hx hb dX7_shape_17 w_2 (by decide) ?_
    refine lv_bipush (v := (-2)) hx hb dX7_shape_128 (by decide) ?_
    exact W.iret (v := (-2)) hx hb hr (fun t ht hW => ⟨(-2), rfl, trivial, ht⟩) (fun q h => by cases h) dX7_shape_130
  · skip
    rcases (show w_2k = 0 ∨ w_2k = 1 ∨ w_2k = 2 ∨ w_2k = 3 ∨ w_2k = 4 ∨ w_2k = 5 by omega) with rfl | rfl | rfl | rfl | rfl | rfl
    · skip
      have ew_2 : p1 = 0 := w_2
      refine W.eq (g2 := F0 m 17 ls (.int 0 :: [])) (by rw [ew_2]) ?_
      refine lv_tableIn (off := 39) (tgt := 56) hx hb dX7_shape_17 (by decide) (by decide) (by decide) (by decide) ?_
      refine lv_iload_n hx hb dX7_shape_56 rfl (lv_at hl 1 rfl) ?_
      refine lv_iload_n hx hb dX7_shape_57 rfl (lv_at hl 0 rfl) ?_
      refine vp_callSi (va_Run.run (va_runS (As := [.int (nI na), .int r_1]) (rest := []) ⟨hx, hb, hml, hown, hts⟩ (mX0_turned l dC dI cyI cyZ na r_1 (by omega)) (va_cwS 2 hts gX7_shape_X0_turned rfl rfl rfl (by decide +kernel) ⟨Nat.le_of_ble_eq_true rfl, Nat.le_of_ble_eq_true rfl⟩) (bs_RS hB (hP.sub (ws' := []) [] rfl)) rfl rfl hl.1 rfl (lv_room (Nat.le_of_ble_eq_true rfl)) dX7_shape_58 ⟨Nat.le_of_ble_eq_true rfl, Nat.le_of_ble_eq_true rfl⟩)) (fun r_3 hr_3 => ?_)
      refine lv_if_eq (tgt := 68) hx hb dX7_shape_61 (by decide) (fun c_4 => ?_) (fun c_4 => ?_)
      · skip
        have ic_4 := ci_eq (rfl : Int32.toInt r_3 = _) (show Int32.toInt 0 = 0 by decide) c_4
        refine lv_iconst (v := 0) hx hb dX7_shape_68 (by decide) ?_
        exact W.iret (v := 0) hx hb hr (fun t ht hW => ⟨0, rfl, trivial, ht⟩) (fun q h => by cases h) dX7_shape_69
      · skip
        have ic_4 := ci_ne (rfl : Int32.toInt r_3 = _) (show Int32.toInt 0 = 0 by decide) c_4
        refine lv_iconst (v := 1) hx hb dX7_shape_64 (by decide) ?_
        refine lv_goto (tgt := 69) hx hb dX7_shape_65 (by decide) ?_
        exact W.iret (v := 1) hx hb hr (fun t ht hW => ⟨1, rfl, trivial, ht⟩) (fun q h => by cases h) dX7_shape_69
    · skip
      have ew_2 : p1 = 1 := w_2
      refine W.eq (g2 := F0 m 17 ls (.int 1 :: [])) (by rw [ew_2]) ?_
      refine lv_tableIn (off := 53) (tgt := 70) hx hb dX7_shape_17 (by decide) (by decide) (by decide) (by decide) ?_
      refine lv_iload_n hx hb dX7_shape_70 rfl (lv_at hl 1 rfl) ?_
      refine lv_iload_n hx hb dX7_shape_71 rfl (lv_at hl 0 rfl) ?_
      refine vp_callSi (va_Run.run (va_runS (As := [.int (nI na), .int r_1]) (rest := []) ⟨hx, hb, hml, hown, hts⟩ (mX0_mirrored l dC dI cyI cyZ na r_1 (by omega)) (va_cwS 2 hts gX7_shape_X0_mirrored rfl rfl rfl (by decide +kernel) ⟨Nat.le_of_ble_eq_true rfl, Nat.le_of_ble_eq_true rfl⟩) (bs_RS hB (hP.sub (ws' := []) [] rfl)) rfl rfl hl.1 rfl (lv_room (Nat.le_of_ble_eq_true rfl)) dX7_shape_72 ⟨Nat.le_of_ble_eq_true rfl, Nat.le_of_ble_eq_true rfl⟩)) (fun r_5 hr_5 => ?_)
      refine lv_if_eq (tgt := 82) hx hb dX7_shape_75 (by decide) (fun c_6 => ?_) (fun c_6 => ?_)
      · skip
        have ic_6 := ci_eq (rfl : Int32.toInt r_5 = _) (show Int32.toInt 0 = 0 by decide) c_6
        refine lv_iconst (v := 0) hx hb dX7_shape_82 (by decide) ?_
        exact W.iret (v := 0) hx hb hr (fun t ht hW => ⟨0, rfl, trivial, ht⟩) (fun q h => by cases h) dX7_shape_83
      · skip
        have ic_6 := ci_ne (rfl : Int32.toInt r_5 = _) (show Int32.toInt 0 = 0 by decide) c_6
        refine lv_iconst (v := 1) hx hb dX7_shape_78 (by decide) ?_
        refine lv_goto (tgt := 83) hx hb dX7_shape_79 (by decide) ?_
        exact W.iret (v := 1) hx hb hr (fun t ht hW => ⟨1, rfl, trivial, ht⟩) (fun q h => by cases h) dX7_shape_83
    · skip
      have ew_2 : p1 = 2 := w_2
      refine W.eq (g2 := F0 m 17 ls (.int 2 :: [])) (by rw [ew_2]) ?_
      refine lv_tableIn (off := 67) (tgt := 84) hx hb dX7_shape_17 (by decide) (by decide) (by decide) (by decide) ?_
      refine lv_iload_n hx hb dX7_shape_84 rfl (lv_at hl 0 rfl) ?_
      refine lv_if_eq (tgt := 108) hx hb dX7_shape_85 (by decide) (fun c_7 => ?_) (fun c_7 => ?_)
      · skip
        have ic_7 := ci_eq (rfl : Int32.toInt r_1 = _) (show Int32.toInt 0 = 0 by decide) c_7
        refine lv_iconst (v := 0) hx hb dX7_shape_108 (by decide) ?_
        exact W.iret (v := 0) hx hb hr (fun t ht hW => ⟨0, rfl, trivial, ht⟩) (fun q h => by cases h) dX7_shape_109
      · skip
        have ic_7 := ci_ne (rfl : Int32.toInt r_1 = _) (show Int32.toInt 0 = 0 by decide) c_7
        refine lv_iload_n hx hb dX7_shape_88 rfl (lv_at hl 1 rfl) ?_
        refine lv_iload_n hx hb dX7_shape_89 rfl (lv_at hl 0 rfl) ?_
        refine vp_callSi (va_Run.run (va_runS (As := [.int (nI na), .int r_1]) (rest := []) ⟨hx, hb, hml, hown, hts⟩ (mX0_turned l dC dI cyI cyZ na r_1 (by omega)) (va_cwS 2 hts gX7_shape_X0_turned rfl rfl rfl (by decide +kernel) ⟨Nat.le_of_ble_eq_true rfl, Nat.le_of_ble_eq_true rfl⟩) (bs_RS hB (hP.sub (ws' := []) [] rfl)) rfl rfl hl.1 rfl (lv_room (Nat.le_of_ble_eq_true rfl)) dX7_shape_90 ⟨Nat.le_of_ble_eq_true rfl, Nat.le_of_ble_eq_true rfl⟩)) (fun r_8 hr_8 => ?_)
        refine lv_if_ne (tgt := 108) hx hb dX7_shape_93 (by decide) (fun c_9 => ?_) (fun c_9 => ?_)
        · skip
          have ic_9 := ci_ne (rfl : Int32.toInt r_8 = _) (show Int32.toInt 0 = 0 by decide) c_9
          refine lv_iconst (v := 0) hx hb dX7_shape_108 (by decide) ?_
          exact W.iret (v := 0) hx hb hr (fun t ht hW => ⟨0, rfl, trivial, ht⟩) (fun q h => by cases h) dX7_shape_109
        · skip
          have ic_9 := ci_eq (rfl : Int32.toInt r_8 = _) (show Int32.toInt 0 = 0 by decide) c_9
          refine lv_iload_n hx hb dX7_shape_96 rfl (lv_at hl 1 rfl) ?_
          refine lv_iload_n hx hb dX7_shape_97 rfl (lv_at hl 0 rfl) ?_
          refine vp_callSi (va_Run.run (va_runS (As := [.int (nI na), .int r_1]) (rest := []) ⟨hx, hb, hml, hown, hts⟩ (mX0_mirrored l dC dI cyI cyZ na r_1 (by omega)) (va_cwS 2 hts gX7_shape_X0_mirrored rfl rfl rfl (by decide +kernel) ⟨Nat.le_of_ble_eq_true rfl, Nat.le_of_ble_eq_true rfl⟩) (bs_RS hB (hP.sub (ws' := []) [] rfl)) rfl rfl hl.1 rfl (lv_room (Nat.le_of_ble_eq_true rfl)) dX7_shape_98 ⟨Nat.le_of_ble_eq_true rfl, Nat.le_of_ble_eq_true rfl⟩)) (fun r_10 hr_10 => ?_)
          refine lv_if_ne (tgt := 108) hx hb dX7_shape_101 (by decide) (fun c_11 => ?_) (fun c_11 => ?_)
          · skip
            have ic_11 := ci_ne (rfl : Int32.toInt r_10 = _) (show Int32.toInt 0 = 0 by decide) c_11
            refine lv_iconst (v := 0) hx hb dX7_shape_108 (by decide) ?_
            exact W.iret (v := 0) hx hb hr (fun t ht hW => ⟨0, rfl, trivial, ht⟩) (fun q h => by cases h) dX7_shape_109
          · skip
            have ic_11 := ci_eq (rfl : Int32.toInt r_10 = _) (show Int32.toInt 0 = 0 by decide) c_11
            refine lv_iconst (v := 1) hx hb dX7_shape_104 (by decide) ?_
            refine lv_goto (tgt := 109) hx hb dX7_shape_105 (by decide) ?_
            exact W.iret (v := 1) hx hb hr (fun t ht hW => ⟨1, rfl, trivial, ht⟩) (fun q h => by cases h) dX7_shape_109
    · skip
      have ew_2 : p1 = 3 := w_2
      refine W.eq (g2 := F0 m 17 ls (.int 3 :: [])) (by rw [ew_2]) ?_
      refine lv_tableIn (off := 93) (tgt := 110) hx hb dX7_shape_17 (by decide) (by decide) (by decide) (by decide) ?_
      refine lv_iload_n hx hb dX7_shape_110 rfl (lv_at hl 1 rfl) ?_
      refine lv_iload_n hx hb dX7_shape_111 rfl (lv_at hl 0 rfl) ?_
      refine vp_callSi (va_Run.run (va_runS (As := [.int (nI na), .int r_1]) (rest := []) ⟨hx, hb, hml, hown, hts⟩ (mX0_evens l dC dI cyI cyZ na r_1 (by omega)) (va_cwS 2 hts gX7_shape_X0_evens rfl rfl rfl (by decide +kernel) ⟨Nat.le_of_ble_eq_true rfl, Nat.le_of_ble_eq_true rfl⟩) (bs_RS hB (hP.sub (ws' := []) [] rfl)) rfl rfl hl.1 rfl (lv_room (Nat.le_of_ble_eq_true rfl)) dX7_shape_112 ⟨Nat.le_of_ble_eq_true rfl, Nat.le_of_ble_eq_true rfl⟩)) (fun r_12 hr_12 => ?_)
      exact W.iret (v := r_12) hx hb hr (fun t ht hW => ⟨r_12, rfl, trivial, ht⟩) (fun q h => by cases h) dX7_shape_115
    · skip
      have ew_2 : p1 = 4 := w_2
      refine W.eq (g2 := F0 m 17 ls (.int 4 :: [])) (by rw [ew_2]) ?_
      refine lv_tableIn (off := 99) (tgt := 116) hx hb dX7_shape_17 (by decide) (by decide) (by decide) (by decide) ?_
      refine lv_iload_n hx hb dX7_shape_116 rfl (lv_at hl 1 rfl) ?_
      refine lv_iload_n hx hb dX7_shape_117 rfl (lv_at hl 0 rfl) ?_
      refine vp_callSi (va_Run.run (va_runS (As := [.int (nI na), .int r_1]) (rest := []) ⟨hx, hb, hml, hown, hts⟩ (mX0_views l dC dI cyI cyZ na r_1 (by omega)) (va_cwS 2 hts gX7_shape_X0_views rfl rfl rfl (by decide +kernel) ⟨Nat.le_of_ble_eq_true rfl, Nat.le_of_ble_eq_true rfl⟩) (bs_RS hB (hP.sub (ws' := []) [] rfl)) rfl rfl hl.1 rfl (lv_room (Nat.le_of_ble_eq_true rfl)) dX7_shape_118 ⟨Nat.le_of_ble_eq_true rfl, Nat.le_of_ble_eq_true rfl⟩)) (fun r_13 hr_13 => ?_)
      exact W.iret (v := r_13) hx hb hr (fun t ht hW => ⟨r_13, rfl, trivial, ht⟩) (fun q h => by cases h) dX7_shape_121
    · skip
      have ew_2 : p1 = 5 := w_2
      refine W.eq (g2 := F0 m 17 ls (.int 5 :: [])) (by rw [ew_2]) ?_
      refine lv_tableIn (off := 105) (tgt := 122) hx hb dX7_shape_17 (by decide) (by decide) (by decide) (by decide) ?_
      refine lv_iload_n hx hb dX7_shape_122 rfl (lv_at hl 1 rfl) ?_
      refine lv_iload_n hx hb dX7_shape_123 rfl (lv_at hl 0 rfl) ?_
      refine vp_callSi (va_Run.run (va_runS (As := [.int (nI na), .int r_1]) (rest := []) ⟨hx, hb, hml, hown, hts⟩ (mX0_leastTurn l dC dI cyI cyZ na r_1 (by omega)) (va_cwS 2 hts gX7_shape_X0_leastTurn rfl rfl rfl (by decide +kernel) ⟨Nat.le_of_ble_eq_true rfl, Nat.le_of_ble_eq_true rfl⟩) (bs_RS hB (hP.sub (ws' := []) [] rfl)) rfl rfl hl.1 rfl (lv_room (Nat.le_of_ble_eq_true rfl)) dX7_shape_124 ⟨Nat.le_of_ble_eq_true rfl, Nat.le_of_ble_eq_true rfl⟩)) (fun r_14 hr_14 => ?_)
      exact W.iret (v := r_14) hx hb hr (fun t ht hW => ⟨r_14, rfl, trivial, ht⟩) (fun q h => by cases h) dX7_shape_127

theorem hnX7_rule_X4 : ∀ w ∈ wsX40, w ∈ wsX7_rule := fun _ h => List.mem_cons_of_mem _ (List.mem_append_left _ (List.mem_append_right _ h))
theorem hnX7_rule_X7 : ∀ w ∈ wsX70, w ∈ wsX7_rule := fun _ h => List.mem_cons_of_mem _ (List.mem_append_left _ (List.mem_append_left _ (List.mem_append_right _ h)))
set_option maxHeartbeats 4000000 in
set_option maxRecDepth 100000 in
theorem mX7_rule_0 (l : Launch) (dC : Nat → ClassId) (dI : Nat → Nat → Nat) (cyI cyZ : ClassId) (x0 : Nat) (a1 : Nat) (b1 : Nat) (c1 : Nat) (xl : Nat) (xb : Nat) (kp : Int32) (a2 : Nat) (a3 : Nat) (a4 : Nat) (na : Nat) (za : Nat) (ga : Nat → Int32) (p1 : Int32) (p2 : Int32) (p3 : Int32) (p4 : Int32) (p5 : Int32) (hza : za ≤ 10) (sz : Nat) : Met l yX7_rule wsX7_rule ({ frames := 3, cells := 0, slots := 0, locals := 70 }) (bs_W dC dI cyI cyZ [.ref x0, .int p1, .int p2, .int p3, .int p4, .int p5] [(x0, .inr (5, [.ref a1, .ref b1, .ref c1, .ref xl, .ref xb, .int kp, .null])), (a1, .inr (3, [.ref a2, .ref a3, .int (nI na)])), (a3, .inr (2, [.ref a4, .int (nI za)])), (a4, .inl (cyI, 60, .inl ga))] sz) (va_Qi (S := Nat × (Nat → Int32)) (fun (r : Int32) (q : Nat × (Nat → Int32)) => q.1 ≤ 10) (fun q t => bs_E dC dI (va_A [(x0, .inr (5, [.ref a1, .ref b1, .ref c1, .ref xl, .ref xb, .int kp, .null])), (a1, .inr (3, [.ref a2, .ref a3, .int (nI na)])), (a3, .inr (2, [.ref a4, .int (nI za)])), (a4, .inl (cyI, 60, .inl ga))] sz) [(x0, .inr (5, [.ref a1, .ref b1, .ref c1, .ref xl, .ref xb, .int kp, .null])), (a1, .inr (3, [.ref a2, .ref a3, .int (nI na)])), (a3, .inr (2, [.ref a4, .int (nI q.1)])), (a4, .inl (cyI, 60, .inl q.2))] t) (va_A [(x0, .inr (5, [.ref a1, .ref b1, .ref c1, .ref xl, .ref xb, .int kp, .null])), (a1, .inr (3, [.ref a2, .ref a3, .int (nI na)])), (a3, .inr (2, [.ref a4, .int (nI za)])), (a4, .inl (cyI, 60, .inl ga))] sz)) 0 0 (va_A [(x0, .inr (5, [.ref a1, .ref b1, .ref c1, .ref xl, .ref xb, .int kp, .null])), (a1, .inr (3, [.ref a2, .ref a3, .int (nI na)])), (a3, .inr (2, [.ref a4, .int (nI za)])), (a4, .inl (cyI, 60, .inl ga))] sz) := by
  refine Met.ofW (cc := cX7_rule) (maxL := 6) (ret := (some .int)) (by decide) rfl ?_
  intro p e s m args below meth c s₁ B hml hv
  obtain ⟨rfl, hsz, hB, hP, hD0⟩ := hv
  have hK := hB.1
  have hN := hB.2
  have hx := B.exec
  have hb := B.bytes
  have hr := B.returns
  have hts := atoms_spec (ws := wsX7_rule) B.pre
  have hown : s.vm.findClass RX7 = some m.cls := findClass_of_methodNamed B.named
  have hlocks := B.notSynchronized
  subst hsz
  have hD := hD0.self (sz := s.heap.size)
  generalize hAe : va_A [(x0, .inr (5, [.ref a1, .ref b1, .ref c1, .ref xl, .ref xb, .int kp, .null])), (a1, .inr (3, [.ref a2, .ref a3, .int (nI na)])), (a3, .inr (2, [.ref a4, .int (nI za)])), (a4, .inl (cyI, 60, .inl ga))] s.heap.size = A at hD ⊢
  have hA : ∀ q : Nat, s.heap.size ≤ q → A q := fun q h => by rw [← hAe]; exact Or.inr h
  have hS : va_S A s.heap s.heap [] := va_S.rf
  have hP : va_P (dC, dI) vwCl [(x0, .inr (5, [.ref a1, .ref b1, .ref c1, .ref xl, .ref xb, .int kp, .null])), (a1, .inr (3, [.ref a2, .ref a3, .int (nI na)])), (a3, .inr (2, [.ref a4, .int (nI za)])), (a4, .inl (cyI, 60, .inl ga))] s.heap := hP
  have hl := lv_entry ([.ref x0, .int p1, .int p2, .int p3, .int p4, .int p5]) (n := 6) (Nat.le_of_ble_eq_true rfl)
  rw [lg_entry_eq]
  generalize (lg_sl ([.ref x0, .int p1, .int p2, .int p3, .int p4, .int p5]) ++ List.replicate (6 - (lg_sl ([.ref x0, .int p1, .int p2, .int p3, .int p4, .int p5])).length) Slot.unset).toArray = ls at hl ⊢
  have hl : lv_has ls 6 [(0, .ref x0), (1, .int p1), (2, .int p2), (3, .int p3), (4, .int p4), (5, .int p5)] := hl
  refine lv_iload_n hx hb dX7_rule_0 rfl (lv_at hl 1 rfl) ?_
  refine lv_if_lt (tgt := 18) hx hb dX7_rule_1 (by decide) (fun c_1 => ?_) (fun c_1 => ?_)
  · skip
    have ic_1 := ci_lt (rfl : Int32.toInt p1 = _) (show Int32.toInt 0 = 0 by decide) c_1
    refine lv_bipush (v := (-2)) hx hb dX7_rule_18 (by decide) ?_
    exact W.iret (v := (-2)) hx hb hr (fun t ht hW => ⟨⟨(-2), (za, ga), rfl, (by omega), ⟨by rw [ht]; exact hP.sub (ws' := [(x0, .inr (5, [.ref a1, .ref b1, .ref c1, .ref xl, .ref xb, .int kp, .null])), (a1, .inr (3, [.ref a2, .ref a3, .int (nI na)])), (a3, .inr (2, [.ref a4, .int (nI za)])), (a4, .inl (cyI, 60, .inl ga))]) [0, 1, 2, 3] rfl, hD.sub (ws' := [(x0, .inr (5, [.ref a1, .ref b1, .ref c1, .ref xl, .ref xb, .int kp, .null])), (a1, .inr (3, [.ref a2, .ref a3, .int (nI na)])), (a3, .inr (2, [.ref a4, .int (nI za)])), (a4, .inl (cyI, 60, .inl ga))]) [0, 1, 2, 3] (by decide) rfl⟩⟩, hS.F ht⟩) hS.2.2 dX7_rule_20
  · skip
    have ic_1 := ci_nlt (rfl : Int32.toInt p1 = _) (show Int32.toInt 0 = 0 by decide) c_1
    refine lv_iload_n hx hb dX7_rule_4 rfl (lv_at hl 1 rfl) ?_
    refine lv_iconst (v := 5) hx hb dX7_rule_5 (by decide) ?_
    refine lv_icmp_gt (tgt := 18) hx hb dX7_rule_6 (by decide) (fun c_2 => ?_) (fun c_2 => ?_)
    · skip
      have ic_2 := ci_lt (show Int32.toInt 5 = 5 by decide) (rfl : Int32.toInt p1 = _) c_2
      refine lv_bipush (v := (-2)) hx hb dX7_rule_18 (by decide) ?_
      exact W.iret (v := (-2)) hx hb hr (fun t ht hW => ⟨⟨(-2), (za, ga), rfl, (by omega), ⟨by rw [ht]; exact hP.sub (ws' := [(x0, .inr (5, [.ref a1, .ref b1, .ref c1, .ref xl, .ref xb, .int kp, .null])), (a1, .inr (3, [.ref a2, .ref a3, .int (nI na)])), (a3, .inr (2, [.ref a4, .int (nI za)])), (a4, .inl (cyI, 60, .inl ga))]) [0, 1, 2, 3] rfl, hD.sub (ws' := [(x0, .inr (5, [.ref a1, .ref b1, .ref c1, .ref xl, .ref xb, .int kp, .null])), (a1, .inr (3, [.ref a2, .ref a3, .int (nI na)])), (a3, .inr (2, [.ref a4, .int (nI za)])), (a4, .inl (cyI, 60, .inl ga))]) [0, 1, 2, 3] (by decide) rfl⟩⟩, hS.F ht⟩) hS.2.2 dX7_rule_20
    · skip
      have ic_2 := ci_nlt (show Int32.toInt 5 = 5 by decide) (rfl : Int32.toInt p1 = _) c_2
      refine lv_iload_n hx hb dX7_rule_9 rfl (lv_at hl 2 rfl) ?_
      refine lv_if_lt (tgt := 18) hx hb dX7_rule_10 (by decide) (fun c_3 => ?_) (fun c_3 => ?_)
      · skip
        have ic_3 := ci_lt (rfl : Int32.toInt p2 = _) (show Int32.toInt 0 = 0 by decide) c_3
        refine lv_bipush (v := (-2)) hx hb dX7_rule_18 (by decide) ?_
        exact W.iret (v := (-2)) hx hb hr (fun t ht hW => ⟨⟨(-2), (za, ga), rfl, (by omega), ⟨by rw [ht]; exact hP.sub (ws' := [(x0, .inr (5, [.ref a1, .ref b1, .ref c1, .ref xl, .ref xb, .int kp, .null])), (a1, .inr (3, [.ref a2, .ref a3, .int (nI na)])), (a3, .inr (2, [.ref a4, .int (nI za)])), (a4, .inl (cyI, 60, .inl ga))]) [0, 1, 2, 3] rfl, hD.sub (ws' := [(x0, .inr (5, [.ref a1, .ref b1, .ref c1, .ref xl, .ref xb, .int kp, .null])), (a1, .inr (3, [.ref a2, .ref a3, .int (nI na)])), (a3, .inr (2, [.ref a4, .int (nI za)])), (a4, .inl (cyI, 60, .inl ga))]) [0, 1, 2, 3] (by decide) rfl⟩⟩, hS.F ht⟩) hS.2.2 dX7_rule_20
      · skip
        have ic_3 := ci_nlt (rfl : Int32.toInt p2 = _) (show Int32.toInt 0 = 0 by decide) c_3
        refine lv_iload_n hx hb dX7_rule_13 rfl (lv_at hl 2 rfl) ?_
        refine lv_iconst (v := 5) hx hb dX7_rule_14 (by decide) ?_
        refine lv_icmp_lt (tgt := 21) hx hb dX7_rule_15 (by decide) (fun c_4 => ?_) (fun c_4 => ?_)
        · skip
          have ic_4 := ci_lt (rfl : Int32.toInt p2 = _) (show Int32.toInt 5 = 5 by decide) c_4
          refine lv_iload_n hx hb dX7_rule_21 rfl (lv_at hl 3 rfl) ?_
          refine lv_if_lt (tgt := 54) hx hb dX7_rule_22 (by decide) (fun c_5 => ?_) (fun c_5 => ?_)
          · skip
            have ic_5 := ci_lt (rfl : Int32.toInt p3 = _) (show Int32.toInt 0 = 0 by decide) c_5
            refine lv_bipush (v := (-2)) hx hb dX7_rule_54 (by decide) ?_
            exact W.iret (v := (-2)) hx hb hr (fun t ht hW => ⟨⟨(-2), (za, ga), rfl, (by omega), ⟨by rw [ht]; exact hP.sub (ws' := [(x0, .inr (5, [.ref a1, .ref b1, .ref c1, .ref xl, .ref xb, .int kp, .null])), (a1, .inr (3, [.ref a2, .ref a3, .int (nI na)])), (a3, .inr (2, [.ref a4, .int (nI za)])), (a4, .inl (cyI, 60, .inl ga))]) [0, 1, 2, 3] rfl, hD.sub (ws' := [(x0, .inr (5, [.ref a1, .ref b1, .ref c1, .ref xl, .ref xb, .int kp, .null])), (a1, .inr (3, [.ref a2, .ref a3, .int (nI na)])), (a3, .inr (2, [.ref a4, .int (nI za)])), (a4, .inl (cyI, 60, .inl ga))]) [0, 1, 2, 3] (by decide) rfl⟩⟩, hS.F ht⟩) hS.2.2 dX7_rule_56
          · skip
            have ic_5 := ci_nlt (rfl : Int32.toInt p3 = _) (show Int32.toInt 0 = 0 by decide) c_5
            refine lv_iload_n hx hb dX7_rule_25 rfl (lv_at hl 3 rfl) ?_
            refine lv_iconst (v := 2) hx hb dX7_rule_26 (by decide) ?_
            refine lv_icmp_gt (tgt := 54) hx hb dX7_rule_27 (by decide) (fun c_6 => ?_) (fun c_6 => ?_)
            · skip
              have ic_6 := ci_lt (show Int32.toInt 2 = 2 by decide) (rfl : Int32.toInt p3 = _) c_6
              refine lv_bipush (v := (-2)) hx hb dX7_rule_54 (by decide) ?_
              exact W.iret (v := (-2)) hx hb hr (fun t ht hW => ⟨⟨(-2), (za, ga), rfl, (by omega), ⟨by rw [ht]; exact hP.sub (ws' := [(x0, .inr (5, [.ref a1, .ref b1, .ref c1, .ref xl, .ref xb, .int kp, .null])), (a1, .inr (3, [.ref a2, .ref a3, .int (nI na)])), (a3, .inr (2, [.ref a4, .int (nI za)])), (a4, .inl (cyI, 60, .inl ga))]) [0, 1, 2, 3] rfl, hD.sub (ws' := [(x0, .inr (5, [.ref a1, .ref b1, .ref c1, .ref xl, .ref xb, .int kp, .null])), (a1, .inr (3, [.ref a2, .ref a3, .int (nI na)])), (a3, .inr (2, [.ref a4, .int (nI za)])), (a4, .inl (cyI, 60, .inl ga))]) [0, 1, 2, 3] (by decide) rfl⟩⟩, hS.F ht⟩) hS.2.2 dX7_rule_56
            · skip
              have ic_6 := ci_nlt (show Int32.toInt 2 = 2 by decide) (rfl : Int32.toInt p3 = _) c_6
              refine lv_iload hx hb dX7_rule_30 (lv_at hl 4 rfl) ?_
              refine lv_iconst (v := 1) hx hb dX7_rule_32 (by decide) ?_
              refine lv_icmp_lt (tgt := 54) hx hb dX7_rule_33 (by decide) (fun c_7 => ?_) (fun c_7 => ?_)
              · skip
                have ic_7 := ci_lt (rfl : Int32.toInt p4 = _) (show Int32.toInt 1 = 1 by decide) c_7
                refine lv_bipush (v := (-2)) hx hb dX7_rule_54 (by decide) ?_
                exact W.iret (v := (-2)) hx hb hr (fun t ht hW => ⟨⟨(-2), (za, ga), rfl, (by omega), ⟨by rw [ht]; exact hP.sub (ws' := [(x0, .inr (5, [.ref a1, .ref b1, .ref c1, .ref xl, .ref xb, .int kp, .null])), (a1, .inr (3, [.ref a2, .ref a3, .int (nI na)])), (a3, .inr (2, [.ref a4, .int (nI za)])), (a4, .inl (cyI, 60, .inl ga))]) [0, 1, 2, 3] rfl, hD.sub (ws' := [(x0, .inr (5, [.ref a1, .ref b1, .ref c1, .ref xl, .ref xb, .int kp, .null])), (a1, .inr (3, [.ref a2, .ref a3, .int (nI na)])), (a3, .inr (2, [.ref a4, .int (nI za)])), (a4, .inl (cyI, 60, .inl ga))]) [0, 1, 2, 3] (by decide) rfl⟩⟩, hS.F ht⟩) hS.2.2 dX7_rule_56
              · skip
                have ic_7 := ci_nlt (rfl : Int32.toInt p4 = _) (show Int32.toInt 1 = 1 by decide) c_7
                refine lv_iload hx hb dX7_rule_36 (lv_at hl 4 rfl) ?_
                refine lv_bipush (v := 10) hx hb dX7_rule_38 (by decide) ?_
                refine lv_icmp_gt (tgt := 54) hx hb dX7_rule_40 (by decide) (fun c_8 => ?_) (fun c_8 => ?_)
                · skip
                  have ic_8 := ci_lt (show Int32.toInt 10 = 10 by decide) (rfl : Int32.toInt p4 = _) c_8
                  refine lv_bipush (v := (-2)) hx hb dX7_rule_54 (by decide) ?_
                  exact W.iret (v := (-2)) hx hb hr (fun t ht hW => ⟨⟨(-2), (za, ga), rfl, (by omega), ⟨by rw [ht]; exact hP.sub (ws' := [(x0, .inr (5, [.ref a1, .ref b1, .ref c1, .ref xl, .ref xb, .int kp, .null])), (a1, .inr (3, [.ref a2, .ref a3, .int (nI na)])), (a3, .inr (2, [.ref a4, .int (nI za)])), (a4, .inl (cyI, 60, .inl ga))]) [0, 1, 2, 3] rfl, hD.sub (ws' := [(x0, .inr (5, [.ref a1, .ref b1, .ref c1, .ref xl, .ref xb, .int kp, .null])), (a1, .inr (3, [.ref a2, .ref a3, .int (nI na)])), (a3, .inr (2, [.ref a4, .int (nI za)])), (a4, .inl (cyI, 60, .inl ga))]) [0, 1, 2, 3] (by decide) rfl⟩⟩, hS.F ht⟩) hS.2.2 dX7_rule_56
                · skip
                  have ic_8 := ci_nlt (show Int32.toInt 10 = 10 by decide) (rfl : Int32.toInt p4 = _) c_8
                  refine lv_iload hx hb dX7_rule_43 (lv_at hl 5 rfl) ?_
                  refine lv_if_lt (tgt := 54) hx hb dX7_rule_45 (by decide) (fun c_9 => ?_) (fun c_9 => ?_)
                  · skip
                    have ic_9 := ci_lt (rfl : Int32.toInt p5 = _) (show Int32.toInt 0 = 0 by decide) c_9
                    refine lv_bipush (v := (-2)) hx hb dX7_rule_54 (by decide) ?_
                    exact W.iret (v := (-2)) hx hb hr (fun t ht hW => ⟨⟨(-2), (za, ga), rfl, (by omega), ⟨by rw [ht]; exact hP.sub (ws' := [(x0, .inr (5, [.ref a1, .ref b1, .ref c1, .ref xl, .ref xb, .int kp, .null])), (a1, .inr (3, [.ref a2, .ref a3, .int (nI na)])), (a3, .inr (2, [.ref a4, .int (nI za)])), (a4, .inl (cyI, 60, .inl ga))]) [0, 1, 2, 3] rfl, hD.sub (ws' := [(x0, .inr (5, [.ref a1, .ref b1, .ref c1, .ref xl, .ref xb, .int kp, .null])), (a1, .inr (3, [.ref a2, .ref a3, .int (nI na)])), (a3, .inr (2, [.ref a4, .int (nI za)])), (a4, .inl (cyI, 60, .inl ga))]) [0, 1, 2, 3] (by decide) rfl⟩⟩, hS.F ht⟩) hS.2.2 dX7_rule_56
                  · skip
                    have ic_9 := ci_nlt (rfl : Int32.toInt p5 = _) (show Int32.toInt 0 = 0 by decide) c_9
                    refine lv_iload hx hb dX7_rule_48 (lv_at hl 5 rfl) ?_
                    refine lv_iconst (v := 2) hx hb dX7_rule_50 (by decide) ?_
                    refine lv_icmp_le (tgt := 57) hx hb dX7_rule_51 (by decide) (fun c_10 => ?_) (fun c_10 => ?_)
                    · skip
                      have ic_10 := ci_le (rfl : Int32.toInt p5 = _) (show Int32.toInt 2 = 2 by decide) c_10
                      refine lv_aload_n hx hb dX7_rule_57 rfl (lv_at hl 0 rfl) ?_
                      refine va_get (D := (dC, dI)) (ci := 5) (v := .ref a1) (C := RX7) (T := TX7) (N := 7) hx hb hts hnX7_rule_X7 hown hK hP 0 rfl rfl 0 (by decide) (hts (.fieldLink RX7 10 "RingMeets" "now" "LRingMeets$Scene;") (by decide +kernel)) (fun _ h9 => h9) rfl dX7_rule_58 ?_
                      refine va_getN (D := (dC, dI)) (ci := 3) (v := .ref a3) (C := RX4) (T := TX4) (N := 3) hx hb hts hnX7_rule_X4 hown hK hP 1 rfl rfl 1 (by decide) (hN.fld 3 rfl) (fun _ h9 => h9) rfl dX7_rule_61 ?_
                      refine lv_iload_n hx hb dX7_rule_64 rfl (lv_at hl 1 rfl) ?_
                      refine lv_iload_n hx hb dX7_rule_65 rfl (lv_at hl 2 rfl) ?_
                      refine lv_iload_n hx hb dX7_rule_66 rfl (lv_at hl 3 rfl) ?_
                      refine lv_iload hx hb dX7_rule_67 (lv_at hl 4 rfl) ?_
                      refine lv_iload hx hb dX7_rule_69 (lv_at hl 5 rfl) ?_
                      have f_11 := va_free (wc := [(a3, .inr (2, [.ref a4, .int (nI za)])), (a4, .inl (cyI, 60, .inl ga))]) hD hS hA [2, 3] rfl
                      refine va_calli (va_runV (As := [.int p1, .int p2, .int p3, .int p4, .int p5]) (rest := []) ⟨hx, hb, hml, hown, hts⟩ (mX3_append l dC dI cyI cyZ a3 a4 za ga p1 p2 p3 p4 p5 (by omega) _) (cwV 5 hts gX7_rule_X3_append rfl rfl rfl (by decide +kernel) ⟨Nat.le_of_ble_eq_true rfl, Nat.le_of_ble_eq_true rfl⟩) (bs_WV hB (hP.sub (ws' := [(a3, .inr (2, [.ref a4, .int (nI za)])), (a4, .inl (cyI, 60, .inl ga))]) [2, 3] rfl) (hD.sub (ws' := [(a3, .inr (2, [.ref a4, .int (nI za)])), (a4, .inl (cyI, 60, .inl ga))]) [2, 3] (by decide) rfl) 0 rfl rfl) rfl rfl hl.1 rfl (lv_room (Nat.le_of_ble_eq_true rfl)) dX7_rule_71 ⟨Nat.le_of_ble_eq_true rfl, Nat.le_of_ble_eq_true rfl⟩) hS (fun q _ h => f_11 q h) f_11 (fun rh_12 uh_12 t H1 locs ht hvm h_12 hB1 hz1 hk1 hS => ?_)
                      obtain ⟨v_13, g_14⟩ := uh_12
                      obtain ⟨hP1, hD1⟩ := hB1
                      rw [ht] at hP1
                      obtain ⟨hP, hD⟩ := va_join (wr := [(x0, .inr (5, [.ref a1, .ref b1, .ref c1, .ref xl, .ref xb, .int kp, .null])), (a1, .inr (3, [.ref a2, .ref a3, .int (nI na)]))]) (w1 := [(a3, .inr (2, [.ref a4, .int (nI v_13)])), (a4, .inl (cyI, 60, .inl g_14))]) hP hD [2, 3] [0, 1] rfl rfl (by decide) (by decide) hk1 f_11 hP1 hD1
                      generalize H1 = H at hP hS ⊢
                      have hP : va_P (dC, dI) vwCl [(x0, .inr (5, [.ref a1, .ref b1, .ref c1, .ref xl, .ref xb, .int kp, .null])), (a1, .inr (3, [.ref a2, .ref a3, .int (nI na)])), (a3, .inr (2, [.ref a4, .int (nI v_13)])), (a4, .inl (cyI, 60, .inl g_14))] _ := hP
                      have hD : va_D A [(x0, .inr (5, [.ref a1, .ref b1, .ref c1, .ref xl, .ref xb, .int kp, .null])), (a1, .inr (3, [.ref a2, .ref a3, .int (nI na)])), (a3, .inr (2, [.ref a4, .int (nI v_13)])), (a4, .inl (cyI, 60, .inl g_14))] := hD
                      exact W.iret (v := rh_12) hx hb hr (fun t ht hW => ⟨⟨rh_12, (v_13, g_14), rfl, (by rcases h_12 with h9 | h9; (have h8 := h9.2.2.1; omega); (have h7 := h9.1; have h8 := h9.2.2.1; omega)), ⟨by rw [ht]; exact hP.sub (ws' := [(x0, .inr (5, [.ref a1, .ref b1, .ref c1, .ref xl, .ref xb, .int kp, .null])), (a1, .inr (3, [.ref a2, .ref a3, .int (nI na)])), (a3, .inr (2, [.ref a4, .int (nI v_13)])), (a4, .inl (cyI, 60, .inl g_14))]) [0, 1, 2, 3] rfl, hD.sub (ws' := [(x0, .inr (5, [.ref a1, .ref b1, .ref c1, .ref xl, .ref xb, .int kp, .null])), (a1, .inr (3, [.ref a2, .ref a3, .int (nI na)])), (a3, .inr (2, [.ref a4, .int (nI v_13)])), (a4, .inl (cyI, 60, .inl g_14))]) [0, 1, 2, 3] (by decide) rfl⟩⟩, hS.F ht⟩) hS.2.2 dX7_rule_74
                    · skip
                      have ic_10 := ci_nle (rfl : Int32.toInt p5 = _) (show Int32.toInt 2 = 2 by decide) c_10
                      refine lv_bipush (v := (-2)) hx hb dX7_rule_54 (by decide) ?_
                      exact W.iret (v := (-2)) hx hb hr (fun t ht hW => ⟨⟨(-2), (za, ga), rfl, (by omega), ⟨by rw [ht]; exact hP.sub (ws' := [(x0, .inr (5, [.ref a1, .ref b1, .ref c1, .ref xl, .ref xb, .int kp, .null])), (a1, .inr (3, [.ref a2, .ref a3, .int (nI na)])), (a3, .inr (2, [.ref a4, .int (nI za)])), (a4, .inl (cyI, 60, .inl ga))]) [0, 1, 2, 3] rfl, hD.sub (ws' := [(x0, .inr (5, [.ref a1, .ref b1, .ref c1, .ref xl, .ref xb, .int kp, .null])), (a1, .inr (3, [.ref a2, .ref a3, .int (nI na)])), (a3, .inr (2, [.ref a4, .int (nI za)])), (a4, .inl (cyI, 60, .inl ga))]) [0, 1, 2, 3] (by decide) rfl⟩⟩, hS.F ht⟩) hS.2.2 dX7_rule_56
        · skip
          have ic_4 := ci_nlt (rfl : Int32.toInt p2 = _) (show Int32.toInt 5 = 5 by decide) c_4
          refine lv_bipush (v := (-2)) hx hb dX7_rule_18 (by decide) ?_
          exact W.iret (v := (-2)) hx hb hr (fun t ht hW => ⟨⟨(-2), (za, ga), rfl, (by omega), ⟨by rw [ht]; exact hP.sub (ws' := [(x0, .inr (5, [.ref a1, .ref b1, .ref c1, .ref xl, .ref xb, .int kp, .null])), (a1, .inr (3, [.ref a2, .ref a3, .int (nI na)])), (a3, .inr (2, [.ref a4, .int (nI za)])), (a4, .inl (cyI, 60, .inl ga))]) [0, 1, 2, 3] rfl, hD.sub (ws' := [(x0, .inr (5, [.ref a1, .ref b1, .ref c1, .ref xl, .ref xb, .int kp, .null])), (a1, .inr (3, [.ref a2, .ref a3, .int (nI na)])), (a3, .inr (2, [.ref a4, .int (nI za)])), (a4, .inl (cyI, 60, .inl ga))]) [0, 1, 2, 3] (by decide) rfl⟩⟩, hS.F ht⟩) hS.2.2 dX7_rule_20

set_option maxHeartbeats 4000000 in
set_option maxRecDepth 100000 in
theorem mX7_rule_1 (l : Launch) (dC : Nat → ClassId) (dI : Nat → Nat → Nat) (cyI cyZ : ClassId) (x0 : Nat) (a1 : Nat) (b1 : Nat) (c1 : Nat) (xl : Nat) (xb : Nat) (kp : Int32) (wk : Nat) (a2 : Nat) (a3 : Nat) (a4 : Nat) (na : Nat) (za : Nat) (ga : Nat → Int32) (p1 : Int32) (p2 : Int32) (p3 : Int32) (p4 : Int32) (p5 : Int32) (hza : za ≤ 10) (sz : Nat) : Met l yX7_rule wsX7_rule ({ frames := 3, cells := 0, slots := 0, locals := 70 }) (bs_W dC dI cyI cyZ [.ref x0, .int p1, .int p2, .int p3, .int p4, .int p5] [(x0, .inr (5, [.ref a1, .ref b1, .ref c1, .ref xl, .ref xb, .int kp, .ref wk])), (a1, .inr (3, [.ref a2, .ref a3, .int (nI na)])), (a3, .inr (2, [.ref a4, .int (nI za)])), (a4, .inl (cyI, 60, .inl ga))] sz) (va_Qi (S := Nat × (Nat → Int32)) (fun (r : Int32) (q : Nat × (Nat → Int32)) => q.1 ≤ 10) (fun q t => bs_E dC dI (va_A [(x0, .inr (5, [.ref a1, .ref b1, .ref c1, .ref xl, .ref xb, .int kp, .ref wk])), (a1, .inr (3, [.ref a2, .ref a3, .int (nI na)])), (a3, .inr (2, [.ref a4, .int (nI za)])), (a4, .inl (cyI, 60, .inl ga))] sz) [(x0, .inr (5, [.ref a1, .ref b1, .ref c1, .ref xl, .ref xb, .int kp, .ref wk])), (a1, .inr (3, [.ref a2, .ref a3, .int (nI na)])), (a3, .inr (2, [.ref a4, .int (nI q.1)])), (a4, .inl (cyI, 60, .inl q.2))] t) (va_A [(x0, .inr (5, [.ref a1, .ref b1, .ref c1, .ref xl, .ref xb, .int kp, .ref wk])), (a1, .inr (3, [.ref a2, .ref a3, .int (nI na)])), (a3, .inr (2, [.ref a4, .int (nI za)])), (a4, .inl (cyI, 60, .inl ga))] sz)) 0 0 (va_A [(x0, .inr (5, [.ref a1, .ref b1, .ref c1, .ref xl, .ref xb, .int kp, .ref wk])), (a1, .inr (3, [.ref a2, .ref a3, .int (nI na)])), (a3, .inr (2, [.ref a4, .int (nI za)])), (a4, .inl (cyI, 60, .inl ga))] sz) := by
  refine Met.ofW (cc := cX7_rule) (maxL := 6) (ret := (some .int)) (by decide) rfl ?_
  intro p e s m args below meth c s₁ B hml hv
  obtain ⟨rfl, hsz, hB, hP, hD0⟩ := hv
  have hK := hB.1
  have hN := hB.2
  have hx := B.exec
  have hb := B.bytes
  have hr := B.returns
  have hts := atoms_spec (ws := wsX7_rule) B.pre
  have hown : s.vm.findClass RX7 = some m.cls := findClass_of_methodNamed B.named
  have hlocks := B.notSynchronized
  subst hsz
  have hD := hD0.self (sz := s.heap.size)
  generalize hAe : va_A [(x0, .inr (5, [.ref a1, .ref b1, .ref c1, .ref xl, .ref xb, .int kp, .ref wk])), (a1, .inr (3, [.ref a2, .ref a3, .int (nI na)])), (a3, .inr (2, [.ref a4, .int (nI za)])), (a4, .inl (cyI, 60, .inl ga))] s.heap.size = A at hD ⊢
  have hA : ∀ q : Nat, s.heap.size ≤ q → A q := fun q h => by rw [← hAe]; exact Or.inr h
  have hS : va_S A s.heap s.heap [] := va_S.rf
  have hP : va_P (dC, dI) vwCl [(x0, .inr (5, [.ref a1, .ref b1, .ref c1, .ref xl, .ref xb, .int kp, .ref wk])), (a1, .inr (3, [.ref a2, .ref a3, .int (nI na)])), (a3, .inr (2, [.ref a4, .int (nI za)])), (a4, .inl (cyI, 60, .inl ga))] s.heap := hP
  have hl := lv_entry ([.ref x0, .int p1, .int p2, .int p3, .int p4, .int p5]) (n := 6) (Nat.le_of_ble_eq_true rfl)
  rw [lg_entry_eq]
  generalize (lg_sl ([.ref x0, .int p1, .int p2, .int p3, .int p4, .int p5]) ++ List.replicate (6 - (lg_sl ([.ref x0, .int p1, .int p2, .int p3, .int p4, .int p5])).length) Slot.unset).toArray = ls at hl ⊢
  have hl : lv_has ls 6 [(0, .ref x0), (1, .int p1), (2, .int p2), (3, .int p3), (4, .int p4), (5, .int p5)] := hl
  refine lv_iload_n hx hb dX7_rule_0 rfl (lv_at hl 1 rfl) ?_
  refine lv_if_lt (tgt := 18) hx hb dX7_rule_1 (by decide) (fun c_1 => ?_) (fun c_1 => ?_)
  · skip
    have ic_1 := ci_lt (rfl : Int32.toInt p1 = _) (show Int32.toInt 0 = 0 by decide) c_1
    refine lv_bipush (v := (-2)) hx hb dX7_rule_18 (by decide) ?_
    exact W.iret (v := (-2)) hx hb hr (fun t ht hW => ⟨⟨(-2), (za, ga), rfl, (by omega), ⟨by rw [ht]; exact hP.sub (ws' := [(x0, .inr (5, [.ref a1, .ref b1, .ref c1, .ref xl, .ref xb, .int kp, .ref wk])), (a1, .inr (3, [.ref a2, .ref a3, .int (nI na)])), (a3, .inr (2, [.ref a4, .int (nI za)])), (a4, .inl (cyI, 60, .inl ga))]) [0, 1, 2, 3] rfl, hD.sub (ws' := [(x0, .inr (5, [.ref a1, .ref b1, .ref c1, .ref xl, .ref xb, .int kp, .ref wk])), (a1, .inr (3, [.ref a2, .ref a3, .int (nI na)])), (a3, .inr (2, [.ref a4, .int (nI za)])), (a4, .inl (cyI, 60, .inl ga))]) [0, 1, 2, 3] (by decide) rfl⟩⟩, hS.F ht⟩) hS.2.2 dX7_rule_20
  · skip
    have ic_1 := ci_nlt (rfl : Int32.toInt p1 = _) (show Int32.toInt 0 = 0 by decide) c_1
    refine lv_iload_n hx hb dX7_rule_4 rfl (lv_at hl 1 rfl) ?_
    refine lv_iconst (v := 5) hx hb dX7_rule_5 (by decide) ?_
    refine lv_icmp_gt (tgt := 18) hx hb dX7_rule_6 (by decide) (fun c_2 => ?_) (fun c_2 => ?_)
    · skip
      have ic_2 := ci_lt (show Int32.toInt 5 = 5 by decide) (rfl : Int32.toInt p1 = _) c_2
      refine lv_bipush (v := (-2)) hx hb dX7_rule_18 (by decide) ?_
      exact W.iret (v := (-2)) hx hb hr (fun t ht hW => ⟨⟨(-2), (za, ga), rfl, (by omega), ⟨by rw [ht]; exact hP.sub (ws' := [(x0, .inr (5, [.ref a1, .ref b1, .ref c1, .ref xl, .ref xb, .int kp, .ref wk])), (a1, .inr (3, [.ref a2, .ref a3, .int (nI na)])), (a3, .inr (2, [.ref a4, .int (nI za)])), (a4, .inl (cyI, 60, .inl ga))]) [0, 1, 2, 3] rfl, hD.sub (ws' := [(x0, .inr (5, [.ref a1, .ref b1, .ref c1, .ref xl, .ref xb, .int kp, .ref wk])), (a1, .inr (3, [.ref a2, .ref a3, .int (nI na)])), (a3, .inr (2, [.ref a4, .int (nI za)])), (a4, .inl (cyI, 60, .inl ga))]) [0, 1, 2, 3] (by decide) rfl⟩⟩, hS.F ht⟩) hS.2.2 dX7_rule_20
    · skip
      have ic_2 := ci_nlt (show Int32.toInt 5 = 5 by decide) (rfl : Int32.toInt p1 = _) c_2
      refine lv_iload_n hx hb dX7_rule_9 rfl (lv_at hl 2 rfl) ?_
      refine lv_if_lt (tgt := 18) hx hb dX7_rule_10 (by decide) (fun c_3 => ?_) (fun c_3 => ?_)
      · skip
        have ic_3 := ci_lt (rfl : Int32.toInt p2 = _) (show Int32.toInt 0 = 0 by decide) c_3
        refine lv_bipush (v := (-2)) hx hb dX7_rule_18 (by decide) ?_
        exact W.iret (v := (-2)) hx hb hr (fun t ht hW => ⟨⟨(-2), (za, ga), rfl, (by omega), ⟨by rw [ht]; exact hP.sub (ws' := [(x0, .inr (5, [.ref a1, .ref b1, .ref c1, .ref xl, .ref xb, .int kp, .ref wk])), (a1, .inr (3, [.ref a2, .ref a3, .int (nI na)])), (a3, .inr (2, [.ref a4, .int (nI za)])), (a4, .inl (cyI, 60, .inl ga))]) [0, 1, 2, 3] rfl, hD.sub (ws' := [(x0, .inr (5, [.ref a1, .ref b1, .ref c1, .ref xl, .ref xb, .int kp, .ref wk])), (a1, .inr (3, [.ref a2, .ref a3, .int (nI na)])), (a3, .inr (2, [.ref a4, .int (nI za)])), (a4, .inl (cyI, 60, .inl ga))]) [0, 1, 2, 3] (by decide) rfl⟩⟩, hS.F ht⟩) hS.2.2 dX7_rule_20
      · skip
        have ic_3 := ci_nlt (rfl : Int32.toInt p2 = _) (show Int32.toInt 0 = 0 by decide) c_3
        refine lv_iload_n hx hb dX7_rule_13 rfl (lv_at hl 2 rfl) ?_
        refine lv_iconst (v := 5) hx hb dX7_rule_14 (by decide) ?_
        refine lv_icmp_lt (tgt := 21) hx hb dX7_rule_15 (by decide) (fun c_4 => ?_) (fun c_4 => ?_)
        · skip
          have ic_4 := ci_lt (rfl : Int32.toInt p2 = _) (show Int32.toInt 5 = 5 by decide) c_4
          refine lv_iload_n hx hb dX7_rule_21 rfl (lv_at hl 3 rfl) ?_
          refine lv_if_lt (tgt := 54) hx hb dX7_rule_22 (by decide) (fun c_5 => ?_) (fun c_5 => ?_)
          · skip
            have ic_5 := ci_lt (rfl : Int32.toInt p3 = _) (show Int32.toInt 0 = 0 by decide) c_5
            refine lv_bipush (v := (-2)) hx hb dX7_rule_54 (by decide) ?_
            exact W.iret (v := (-2)) hx hb hr (fun t ht hW => ⟨⟨(-2), (za, ga), rfl, (by omega), ⟨by rw [ht]; exact hP.sub (ws' := [(x0, .inr (5, [.ref a1, .ref b1, .ref c1, .ref xl, .ref xb, .int kp, .ref wk])), (a1, .inr (3, [.ref a2, .ref a3, .int (nI na)])), (a3, .inr (2, [.ref a4, .int (nI za)])), (a4, .inl (cyI, 60, .inl ga))]) [0, 1, 2, 3] rfl, hD.sub (ws' := [(x0, .inr (5, [.ref a1, .ref b1, .ref c1, .ref xl, .ref xb, .int kp, .ref wk])), (a1, .inr (3, [.ref a2, .ref a3, .int (nI na)])), (a3, .inr (2, [.ref a4, .int (nI za)])), (a4, .inl (cyI, 60, .inl ga))]) [0, 1, 2, 3] (by decide) rfl⟩⟩, hS.F ht⟩) hS.2.2 dX7_rule_56
          · skip
            have ic_5 := ci_nlt (rfl : Int32.toInt p3 = _) (show Int32.toInt 0 = 0 by decide) c_5
            refine lv_iload_n hx hb dX7_rule_25 rfl (lv_at hl 3 rfl) ?_
            refine lv_iconst (v := 2) hx hb dX7_rule_26 (by decide) ?_
            refine lv_icmp_gt (tgt := 54) hx hb dX7_rule_27 (by decide) (fun c_6 => ?_) (fun c_6 => ?_)
            · skip
              have ic_6 := ci_lt (show Int32.toInt 2 = 2 by decide) (rfl : Int32.toInt p3 = _) c_6
              refine lv_bipush (v := (-2)) hx hb dX7_rule_54 (by decide) ?_
              exact W.iret (v := (-2)) hx hb hr (fun t ht hW => ⟨⟨(-2), (za, ga), rfl, (by omega), ⟨by rw [ht]; exact hP.sub (ws' := [(x0, .inr (5, [.ref a1, .ref b1, .ref c1, .ref xl, .ref xb, .int kp, .ref wk])), (a1, .inr (3, [.ref a2, .ref a3, .int (nI na)])), (a3, .inr (2, [.ref a4, .int (nI za)])), (a4, .inl (cyI, 60, .inl ga))]) [0, 1, 2, 3] rfl, hD.sub (ws' := [(x0, .inr (5, [.ref a1, .ref b1, .ref c1, .ref xl, .ref xb, .int kp, .ref wk])), (a1, .inr (3, [.ref a2, .ref a3, .int (nI na)])), (a3, .inr (2, [.ref a4, .int (nI za)])), (a4, .inl (cyI, 60, .inl ga))]) [0, 1, 2, 3] (by decide) rfl⟩⟩, hS.F ht⟩) hS.2.2 dX7_rule_56
            · skip
              have ic_6 := ci_nlt (show Int32.toInt 2 = 2 by decide) (rfl : Int32.toInt p3 = _) c_6
              refine lv_iload hx hb dX7_rule_30 (lv_at hl 4 rfl) ?_
              refine lv_iconst (v := 1) hx hb dX7_rule_32 (by decide) ?_
              refine lv_icmp_lt (tgt := 54) hx hb dX7_rule_33 (by decide) (fun c_7 => ?_) (fun c_7 => ?_)
              · skip
                have ic_7 := ci_lt (rfl : Int32.toInt p4 = _) (show Int32.toInt 1 = 1 by decide) c_7
                refine lv_bipush (v := (-2)) hx hb dX7_rule_54 (by decide) ?_
                exact W.iret (v := (-2)) hx hb hr (fun t ht hW => ⟨⟨(-2), (za, ga), rfl, (by omega), ⟨by rw [ht]; exact hP.sub (ws' := [(x0, .inr (5, [.ref a1, .ref b1, .ref c1, .ref xl, .ref xb, .int kp, .ref wk])), (a1, .inr (3, [.ref a2, .ref a3, .int (nI na)])), (a3, .inr (2, [.ref a4, .int (nI za)])), (a4, .inl (cyI, 60, .inl ga))]) [0, 1, 2, 3] rfl, hD.sub (ws' := [(x0, .inr (5, [.ref a1, .ref b1, .ref c1, .ref xl, .ref xb, .int kp, .ref wk])), (a1, .inr (3, [.ref a2, .ref a3, .int (nI na)])), (a3, .inr (2, [.ref a4, .int (nI za)])), (a4, .inl (cyI, 60, .inl ga))]) [0, 1, 2, 3] (by decide) rfl⟩⟩, hS.F ht⟩) hS.2.2 dX7_rule_56
              · skip
                have ic_7 := ci_nlt (rfl : Int32.toInt p4 = _) (show Int32.toInt 1 = 1 by decide) c_7
                refine lv_iload hx hb dX7_rule_36 (lv_at hl 4 rfl) ?_
                refine lv_bipush (v := 10) hx hb dX7_rule_38 (by decide) ?_
                refine lv_icmp_gt (tgt := 54) hx hb dX7_rule_40 (by decide) (fun c_8 => ?_) (fun c_8 => ?_)
                · skip
                  have ic_8 := ci_lt (show Int32.toInt 10 = 10 by decide) (rfl : Int32.toInt p4 = _) c_8
                  refine lv_bipush (v := (-2)) hx hb dX7_rule_54 (by decide) ?_
                  exact W.iret (v := (-2)) hx hb hr (fun t ht hW => ⟨⟨(-2), (za, ga), rfl, (by omega), ⟨by rw [ht]; exact hP.sub (ws' := [(x0, .inr (5, [.ref a1, .ref b1, .ref c1, .ref xl, .ref xb, .int kp, .ref wk])), (a1, .inr (3, [.ref a2, .ref a3, .int (nI na)])), (a3, .inr (2, [.ref a4, .int (nI za)])), (a4, .inl (cyI, 60, .inl ga))]) [0, 1, 2, 3] rfl, hD.sub (ws' := [(x0, .inr (5, [.ref a1, .ref b1, .ref c1, .ref xl, .ref xb, .int kp, .ref wk])), (a1, .inr (3, [.ref a2, .ref a3, .int (nI na)])), (a3, .inr (2, [.ref a4, .int (nI za)])), (a4, .inl (cyI, 60, .inl ga))]) [0, 1, 2, 3] (by decide) rfl⟩⟩, hS.F ht⟩) hS.2.2 dX7_rule_56
                · skip
                  have ic_8 := ci_nlt (show Int32.toInt 10 = 10 by decide) (rfl : Int32.toInt p4 = _) c_8
                  refine lv_iload hx hb dX7_rule_43 (lv_at hl 5 rfl) ?_
                  refine lv_if_lt (tgt := 54) hx hb dX7_rule_45 (by decide) (fun c_9 => ?_) (fun c_9 => ?_)
                  · skip
                    have ic_9 := ci_lt (rfl : Int32.toInt p5 = _) (show Int32.toInt 0 = 0 by decide) c_9
                    refine lv_bipush (v := (-2)) hx hb dX7_rule_54 (by decide) ?_
                    exact W.iret (v := (-2)) hx hb hr (fun t ht hW => ⟨⟨(-2), (za, ga), rfl, (by omega), ⟨by rw [ht]; exact hP.sub (ws' := [(x0, .inr (5, [.ref a1, .ref b1, .ref c1, .ref xl, .ref xb, .int kp, .ref wk])), (a1, .inr (3, [.ref a2, .ref a3, .int (nI na)])), (a3, .inr (2, [.ref a4, .int (nI za)])), (a4, .inl (cyI, 60, .inl ga))]) [0, 1, 2, 3] rfl, hD.sub (ws' := [(x0, .inr (5, [.ref a1, .ref b1, .ref c1, .ref xl, .ref xb, .int kp, .ref wk])), (a1, .inr (3, [.ref a2, .ref a3, .int (nI na)])), (a3, .inr (2, [.ref a4, .int (nI za)])), (a4, .inl (cyI, 60, .inl ga))]) [0, 1, 2, 3] (by decide) rfl⟩⟩, hS.F ht⟩) hS.2.2 dX7_rule_56
                  · skip
                    have ic_9 := ci_nlt (rfl : Int32.toInt p5 = _) (show Int32.toInt 0 = 0 by decide) c_9
                    refine lv_iload hx hb dX7_rule_48 (lv_at hl 5 rfl) ?_
                    refine lv_iconst (v := 2) hx hb dX7_rule_50 (by decide) ?_
                    refine lv_icmp_le (tgt := 57) hx hb dX7_rule_51 (by decide) (fun c_10 => ?_) (fun c_10 => ?_)
                    · skip
                      have ic_10 := ci_le (rfl : Int32.toInt p5 = _) (show Int32.toInt 2 = 2 by decide) c_10
                      refine lv_aload_n hx hb dX7_rule_57 rfl (lv_at hl 0 rfl) ?_
                      refine va_get (D := (dC, dI)) (ci := 5) (v := .ref a1) (C := RX7) (T := TX7) (N := 7) hx hb hts hnX7_rule_X7 hown hK hP 0 rfl rfl 0 (by decide) (hts (.fieldLink RX7 10 "RingMeets" "now" "LRingMeets$Scene;") (by decide +kernel)) (fun _ h9 => h9) rfl dX7_rule_58 ?_
                      refine va_getN (D := (dC, dI)) (ci := 3) (v := .ref a3) (C := RX4) (T := TX4) (N := 3) hx hb hts hnX7_rule_X4 hown hK hP 1 rfl rfl 1 (by decide) (hN.fld 3 rfl) (fun _ h9 => h9) rfl dX7_rule_61 ?_
                      refine lv_iload_n hx hb dX7_rule_64 rfl (lv_at hl 1 rfl) ?_
                      refine lv_iload_n hx hb dX7_rule_65 rfl (lv_at hl 2 rfl) ?_
                      refine lv_iload_n hx hb dX7_rule_66 rfl (lv_at hl 3 rfl) ?_
                      refine lv_iload hx hb dX7_rule_67 (lv_at hl 4 rfl) ?_
                      refine lv_iload hx hb dX7_rule_69 (lv_at hl 5 rfl) ?_
                      have f_11 := va_free (wc := [(a3, .inr (2, [.ref a4, .int (nI za)])), (a4, .inl (cyI, 60, .inl ga))]) hD hS hA [2, 3] rfl
                      refine va_calli (va_runV (As := [.int p1, .int p2, .int p3, .int p4, .int p5]) (rest := []) ⟨hx, hb, hml, hown, hts⟩ (mX3_append l dC dI cyI cyZ a3 a4 za ga p1 p2 p3 p4 p5 (by omega) _) (cwV 5 hts gX7_rule_X3_append rfl rfl rfl (by decide +kernel) ⟨Nat.le_of_ble_eq_true rfl, Nat.le_of_ble_eq_true rfl⟩) (bs_WV hB (hP.sub (ws' := [(a3, .inr (2, [.ref a4, .int (nI za)])), (a4, .inl (cyI, 60, .inl ga))]) [2, 3] rfl) (hD.sub (ws' := [(a3, .inr (2, [.ref a4, .int (nI za)])), (a4, .inl (cyI, 60, .inl ga))]) [2, 3] (by decide) rfl) 0 rfl rfl) rfl rfl hl.1 rfl (lv_room (Nat.le_of_ble_eq_true rfl)) dX7_rule_71 ⟨Nat.le_of_ble_eq_true rfl, Nat.le_of_ble_eq_true rfl⟩) hS (fun q _ h => f_11 q h) f_11 (fun rh_12 uh_12 t H1 locs ht hvm h_12 hB1 hz1 hk1 hS => ?_)
                      obtain ⟨v_13, g_14⟩ := uh_12
                      obtain ⟨hP1, hD1⟩ := hB1
                      rw [ht] at hP1
                      obtain ⟨hP, hD⟩ := va_join (wr := [(x0, .inr (5, [.ref a1, .ref b1, .ref c1, .ref xl, .ref xb, .int kp, .ref wk])), (a1, .inr (3, [.ref a2, .ref a3, .int (nI na)]))]) (w1 := [(a3, .inr (2, [.ref a4, .int (nI v_13)])), (a4, .inl (cyI, 60, .inl g_14))]) hP hD [2, 3] [0, 1] rfl rfl (by decide) (by decide) hk1 f_11 hP1 hD1
                      generalize H1 = H at hP hS ⊢
                      have hP : va_P (dC, dI) vwCl [(x0, .inr (5, [.ref a1, .ref b1, .ref c1, .ref xl, .ref xb, .int kp, .ref wk])), (a1, .inr (3, [.ref a2, .ref a3, .int (nI na)])), (a3, .inr (2, [.ref a4, .int (nI v_13)])), (a4, .inl (cyI, 60, .inl g_14))] _ := hP
                      have hD : va_D A [(x0, .inr (5, [.ref a1, .ref b1, .ref c1, .ref xl, .ref xb, .int kp, .ref wk])), (a1, .inr (3, [.ref a2, .ref a3, .int (nI na)])), (a3, .inr (2, [.ref a4, .int (nI v_13)])), (a4, .inl (cyI, 60, .inl g_14))] := hD
                      exact W.iret (v := rh_12) hx hb hr (fun t ht hW => ⟨⟨rh_12, (v_13, g_14), rfl, (by rcases h_12 with h9 | h9; (have h8 := h9.2.2.1; omega); (have h7 := h9.1; have h8 := h9.2.2.1; omega)), ⟨by rw [ht]; exact hP.sub (ws' := [(x0, .inr (5, [.ref a1, .ref b1, .ref c1, .ref xl, .ref xb, .int kp, .ref wk])), (a1, .inr (3, [.ref a2, .ref a3, .int (nI na)])), (a3, .inr (2, [.ref a4, .int (nI v_13)])), (a4, .inl (cyI, 60, .inl g_14))]) [0, 1, 2, 3] rfl, hD.sub (ws' := [(x0, .inr (5, [.ref a1, .ref b1, .ref c1, .ref xl, .ref xb, .int kp, .ref wk])), (a1, .inr (3, [.ref a2, .ref a3, .int (nI na)])), (a3, .inr (2, [.ref a4, .int (nI v_13)])), (a4, .inl (cyI, 60, .inl g_14))]) [0, 1, 2, 3] (by decide) rfl⟩⟩, hS.F ht⟩) hS.2.2 dX7_rule_74
                    · skip
                      have ic_10 := ci_nle (rfl : Int32.toInt p5 = _) (show Int32.toInt 2 = 2 by decide) c_10
                      refine lv_bipush (v := (-2)) hx hb dX7_rule_54 (by decide) ?_
                      exact W.iret (v := (-2)) hx hb hr (fun t ht hW => ⟨⟨(-2), (za, ga), rfl, (by omega), ⟨by rw [ht]; exact hP.sub (ws' := [(x0, .inr (5, [.ref a1, .ref b1, .ref c1, .ref xl, .ref xb, .int kp, .ref wk])), (a1, .inr (3, [.ref a2, .ref a3, .int (nI na)])), (a3, .inr (2, [.ref a4, .int (nI za)])), (a4, .inl (cyI, 60, .inl ga))]) [0, 1, 2, 3] rfl, hD.sub (ws' := [(x0, .inr (5, [.ref a1, .ref b1, .ref c1, .ref xl, .ref xb, .int kp, .ref wk])), (a1, .inr (3, [.ref a2, .ref a3, .int (nI na)])), (a3, .inr (2, [.ref a4, .int (nI za)])), (a4, .inl (cyI, 60, .inl ga))]) [0, 1, 2, 3] (by decide) rfl⟩⟩, hS.F ht⟩) hS.2.2 dX7_rule_56
        · skip
          have ic_4 := ci_nlt (rfl : Int32.toInt p2 = _) (show Int32.toInt 5 = 5 by decide) c_4
          refine lv_bipush (v := (-2)) hx hb dX7_rule_18 (by decide) ?_
          exact W.iret (v := (-2)) hx hb hr (fun t ht hW => ⟨⟨(-2), (za, ga), rfl, (by omega), ⟨by rw [ht]; exact hP.sub (ws' := [(x0, .inr (5, [.ref a1, .ref b1, .ref c1, .ref xl, .ref xb, .int kp, .ref wk])), (a1, .inr (3, [.ref a2, .ref a3, .int (nI na)])), (a3, .inr (2, [.ref a4, .int (nI za)])), (a4, .inl (cyI, 60, .inl ga))]) [0, 1, 2, 3] rfl, hD.sub (ws' := [(x0, .inr (5, [.ref a1, .ref b1, .ref c1, .ref xl, .ref xb, .int kp, .ref wk])), (a1, .inr (3, [.ref a2, .ref a3, .int (nI na)])), (a3, .inr (2, [.ref a4, .int (nI za)])), (a4, .inl (cyI, 60, .inl ga))]) [0, 1, 2, 3] (by decide) rfl⟩⟩, hS.F ht⟩) hS.2.2 dX7_rule_20

theorem hnX7_whom_X4 : ∀ w ∈ wsX40, w ∈ wsX7_whom := fun _ h => List.mem_cons_of_mem _ (List.mem_append_left _ (List.mem_append_right _ h))
theorem hnX7_whom_X7 : ∀ w ∈ wsX70, w ∈ wsX7_whom := fun _ h => List.mem_cons_of_mem _ (List.mem_append_left _ (List.mem_append_left _ (List.mem_append_right _ h)))
set_option maxHeartbeats 4000000 in
set_option maxRecDepth 100000 in
theorem mX7_whom_0 (l : Launch) (dC : Nat → ClassId) (dI : Nat → Nat → Nat) (cyI cyZ : ClassId) (x0 : Nat) (a1 : Nat) (b1 : Nat) (c1 : Nat) (xl : Nat) (xb : Nat) (kp : Int32) (a2 : Nat) (a3 : Nat) (a4 : Nat) (na : Nat) (za : Nat) (ga : Nat → Int32) (p1 : Int32) (p2 : Int32) (hza : za ≤ 10) (sz : Nat) : Met l yX7_whom wsX7_whom ({ frames := 2, cells := 0, slots := 0, locals := 44 }) (bs_W dC dI cyI cyZ [.ref x0, .int p1, .int p2] [(x0, .inr (5, [.ref a1, .ref b1, .ref c1, .ref xl, .ref xb, .int kp, .null])), (a1, .inr (3, [.ref a2, .ref a3, .int (nI na)])), (a3, .inr (2, [.ref a4, .int (nI za)])), (a4, .inl (cyI, 60, .inl ga))] sz) (va_Qi (S := (Nat → Int32)) (fun (r : Int32) (q : (Nat → Int32)) => True) (fun q t => bs_E dC dI (va_A [(x0, .inr (5, [.ref a1, .ref b1, .ref c1, .ref xl, .ref xb, .int kp, .null])), (a1, .inr (3, [.ref a2, .ref a3, .int (nI na)])), (a3, .inr (2, [.ref a4, .int (nI za)])), (a4, .inl (cyI, 60, .inl ga))] sz) [(x0, .inr (5, [.ref a1, .ref b1, .ref c1, .ref xl, .ref xb, .int kp, .null])), (a1, .inr (3, [.ref a2, .ref a3, .int (nI na)])), (a3, .inr (2, [.ref a4, .int (nI za)])), (a4, .inl (cyI, 60, .inl q))] t) (va_A [(x0, .inr (5, [.ref a1, .ref b1, .ref c1, .ref xl, .ref xb, .int kp, .null])), (a1, .inr (3, [.ref a2, .ref a3, .int (nI na)])), (a3, .inr (2, [.ref a4, .int (nI za)])), (a4, .inl (cyI, 60, .inl ga))] sz)) 0 0 (va_A [(x0, .inr (5, [.ref a1, .ref b1, .ref c1, .ref xl, .ref xb, .int kp, .null])), (a1, .inr (3, [.ref a2, .ref a3, .int (nI na)])), (a3, .inr (2, [.ref a4, .int (nI za)])), (a4, .inl (cyI, 60, .inl ga))] sz) := by
  refine Met.ofW (cc := cX7_whom) (maxL := 4) (ret := (some .int)) (by decide) rfl ?_
  intro p e s m args below meth c s₁ B hml hv
  obtain ⟨rfl, hsz, hB, hP, hD0⟩ := hv
  have hK := hB.1
  have hN := hB.2
  have hx := B.exec
  have hb := B.bytes
  have hr := B.returns
  have hts := atoms_spec (ws := wsX7_whom) B.pre
  have hown : s.vm.findClass RX7 = some m.cls := findClass_of_methodNamed B.named
  have hlocks := B.notSynchronized
  subst hsz
  have hD := hD0.self (sz := s.heap.size)
  generalize hAe : va_A [(x0, .inr (5, [.ref a1, .ref b1, .ref c1, .ref xl, .ref xb, .int kp, .null])), (a1, .inr (3, [.ref a2, .ref a3, .int (nI na)])), (a3, .inr (2, [.ref a4, .int (nI za)])), (a4, .inl (cyI, 60, .inl ga))] s.heap.size = A at hD ⊢
  have hA : ∀ q : Nat, s.heap.size ≤ q → A q := fun q h => by rw [← hAe]; exact Or.inr h
  have hS : va_S A s.heap s.heap [] := va_S.rf
  have hP : va_P (dC, dI) vwCl [(x0, .inr (5, [.ref a1, .ref b1, .ref c1, .ref xl, .ref xb, .int kp, .null])), (a1, .inr (3, [.ref a2, .ref a3, .int (nI na)])), (a3, .inr (2, [.ref a4, .int (nI za)])), (a4, .inl (cyI, 60, .inl ga))] s.heap := hP
  have hl := lv_entry ([.ref x0, .int p1, .int p2]) (n := 4) (Nat.le_of_ble_eq_true rfl)
  rw [lg_entry_eq]
  generalize (lg_sl ([.ref x0, .int p1, .int p2]) ++ List.replicate (4 - (lg_sl ([.ref x0, .int p1, .int p2])).length) Slot.unset).toArray = ls at hl ⊢
  have hl : lv_has ls 4 [(0, .ref x0), (1, .int p1), (2, .int p2)] := hl
  refine lv_aload_n hx hb dX7_whom_0 rfl (lv_at hl 0 rfl) ?_
  refine va_get (D := (dC, dI)) (ci := 5) (v := .ref a1) (C := RX7) (T := TX7) (N := 7) hx hb hts hnX7_whom_X7 hown hK hP 0 rfl rfl 0 (by decide) (hts (.fieldLink RX7 10 "RingMeets" "now" "LRingMeets$Scene;") (by decide +kernel)) (fun _ h9 => h9) rfl dX7_whom_1 ?_
  refine va_getN (D := (dC, dI)) (ci := 3) (v := .ref a3) (C := RX4) (T := TX4) (N := 3) hx hb hts hnX7_whom_X4 hown hK hP 1 rfl rfl 1 (by decide) (hN.fld 3 rfl) (fun _ h9 => h9) rfl dX7_whom_4 ?_
  refine lv_iload_n hx hb dX7_whom_7 rfl (lv_at hl 1 rfl) ?_
  refine vp_callSi (va_Run.run (va_runV (As := [.int p1]) (rest := []) ⟨hx, hb, hml, hown, hts⟩ (mX3_has l dC dI cyI cyZ a3 a4 za p1 (by omega)) (cwV 1 hts gX7_whom_X3_has rfl rfl rfl (by decide +kernel) ⟨Nat.le_of_ble_eq_true rfl, Nat.le_of_ble_eq_true rfl⟩) (bs_RV hB (hP.sub (ws' := [(a3, .inr (2, [.ref a4, .int (nI za)]))]) [2] rfl) 0 rfl rfl) rfl rfl hl.1 rfl (lv_room (Nat.le_of_ble_eq_true rfl)) dX7_whom_8 ⟨Nat.le_of_ble_eq_true rfl, Nat.le_of_ble_eq_true rfl⟩)) (fun r_1 hr_1 => ?_)
  refine lv_if_ne (tgt := 16) hx hb dX7_whom_11 (by decide) (fun c_2 => ?_) (fun c_2 => ?_)
  · skip
    have ic_2 := ci_ne (rfl : Int32.toInt r_1 = _) (show Int32.toInt 0 = 0 by decide) c_2
    refine lv_iload_n hx hb dX7_whom_16 rfl (lv_at hl 2 rfl) ?_
    refine lv_if_lt (tgt := 25) hx hb dX7_whom_17 (by decide) (fun c_3 => ?_) (fun c_3 => ?_)
    · skip
      have ic_3 := ci_lt (rfl : Int32.toInt p2 = _) (show Int32.toInt 0 = 0 by decide) c_3
      refine lv_bipush (v := (-2)) hx hb dX7_whom_25 (by decide) ?_
      exact W.iret (v := (-2)) hx hb hr (fun t ht hW => ⟨⟨(-2), ga, rfl, trivial, ⟨by rw [ht]; exact hP.sub (ws' := [(x0, .inr (5, [.ref a1, .ref b1, .ref c1, .ref xl, .ref xb, .int kp, .null])), (a1, .inr (3, [.ref a2, .ref a3, .int (nI na)])), (a3, .inr (2, [.ref a4, .int (nI za)])), (a4, .inl (cyI, 60, .inl ga))]) [0, 1, 2, 3] rfl, hD.sub (ws' := [(x0, .inr (5, [.ref a1, .ref b1, .ref c1, .ref xl, .ref xb, .int kp, .null])), (a1, .inr (3, [.ref a2, .ref a3, .int (nI na)])), (a3, .inr (2, [.ref a4, .int (nI za)])), (a4, .inl (cyI, 60, .inl ga))]) [0, 1, 2, 3] (by decide) rfl⟩⟩, hS.F ht⟩) hS.2.2 dX7_whom_27
    · skip
      have ic_3 := ci_nlt (rfl : Int32.toInt p2 = _) (show Int32.toInt 0 = 0 by decide) c_3
      refine lv_iload_n hx hb dX7_whom_20 rfl (lv_at hl 2 rfl) ?_
      refine lv_iconst (v := 2) hx hb dX7_whom_21 (by decide) ?_
      refine lv_icmp_le (tgt := 28) hx hb dX7_whom_22 (by decide) (fun c_4 => ?_) (fun c_4 => ?_)
      · skip
        have ic_4 := ci_le (rfl : Int32.toInt p2 = _) (show Int32.toInt 2 = 2 by decide) c_4
        refine lv_aload_n hx hb dX7_whom_28 rfl (lv_at hl 0 rfl) ?_
        refine va_get (D := (dC, dI)) (ci := 5) (v := .ref a1) (C := RX7) (T := TX7) (N := 7) hx hb hts hnX7_whom_X7 hown hK hP 0 rfl rfl 0 (by decide) (hts (.fieldLink RX7 10 "RingMeets" "now" "LRingMeets$Scene;") (by decide +kernel)) (fun _ h9 => h9) rfl dX7_whom_29 ?_
        refine va_getN (D := (dC, dI)) (ci := 3) (v := .ref a3) (C := RX4) (T := TX4) (N := 3) hx hb hts hnX7_whom_X4 hown hK hP 1 rfl rfl 1 (by decide) (hN.fld 3 rfl) (fun _ h9 => h9) rfl dX7_whom_32 ?_
        refine lv_iload_n hx hb dX7_whom_35 rfl (lv_at hl 1 rfl) ?_
        refine lv_iconst (v := 5) hx hb dX7_whom_36 (by decide) ?_
        refine vp_callSi (va_Run.run (va_runV (As := [.int p1, .int 5]) (rest := []) ⟨hx, hb, hml, hown, hts⟩ (mX3_part l dC dI cyI cyZ a3 a4 za ga p1 5 (by omega)) (cwV 2 hts gX7_whom_X3_part rfl rfl rfl (by decide +kernel) ⟨Nat.le_of_ble_eq_true rfl, Nat.le_of_ble_eq_true rfl⟩) (bs_RV hB (hP.sub (ws' := [(a3, .inr (2, [.ref a4, .int (nI za)])), (a4, .inl (cyI, 60, .inl ga))]) [2, 3] rfl) 0 rfl rfl) rfl rfl hl.1 rfl (lv_room (Nat.le_of_ble_eq_true rfl)) dX7_whom_37 ⟨Nat.le_of_ble_eq_true rfl, Nat.le_of_ble_eq_true rfl⟩)) (fun r_5 hr_5 => ?_)
        refine lv_istore_n (lv' := [(3, .int r_5), (0, .ref x0), (1, .int p1), (2, .int p2)]) hx hb dX7_whom_40 rfl hl (by decide) rfl (fun ls hl => ?_)
        refine lv_aload_n hx hb dX7_whom_41 rfl (lv_at hl 1 rfl) ?_
        refine va_get (D := (dC, dI)) (ci := 5) (v := .ref a1) (C := RX7) (T := TX7) (N := 7) hx hb hts hnX7_whom_X7 hown hK hP 0 rfl rfl 0 (by decide) (hts (.fieldLink RX7 10 "RingMeets" "now" "LRingMeets$Scene;") (by decide +kernel)) (fun _ h9 => h9) rfl dX7_whom_42 ?_
        refine va_getN (D := (dC, dI)) (ci := 3) (v := .ref a3) (C := RX4) (T := TX4) (N := 3) hx hb hts hnX7_whom_X4 hown hK hP 1 rfl rfl 1 (by decide) (hN.fld 3 rfl) (fun _ h9 => h9) rfl dX7_whom_45 ?_
        refine lv_iload_n hx hb dX7_whom_48 rfl (lv_at hl 2 rfl) ?_
        refine lv_iconst (v := 5) hx hb dX7_whom_49 (by decide) ?_
        refine lv_iload_n hx hb dX7_whom_50 rfl (lv_at hl 3 rfl) ?_
        have f_6 := va_free (wc := [(a3, .inr (2, [.ref a4, .int (nI za)])), (a4, .inl (cyI, 60, .inl ga))]) hD hS hA [2, 3] rfl
        refine va_callv (va_runV (As := [.int p1, .int 5, .int p2]) (rest := []) ⟨hx, hb, hml, hown, hts⟩ (mX3_setPart l dC dI cyI cyZ a3 a4 za ga p1 5 p2 (by omega) _) (cwV 3 hts gX7_whom_X3_setPart rfl rfl rfl (by decide +kernel) ⟨Nat.le_of_ble_eq_true rfl, Nat.le_of_ble_eq_true rfl⟩) (bs_WV hB (hP.sub (ws' := [(a3, .inr (2, [.ref a4, .int (nI za)])), (a4, .inl (cyI, 60, .inl ga))]) [2, 3] rfl) (hD.sub (ws' := [(a3, .inr (2, [.ref a4, .int (nI za)])), (a4, .inl (cyI, 60, .inl ga))]) [2, 3] (by decide) rfl) 0 rfl rfl) rfl rfl hl.1 rfl (lv_room (Nat.le_of_ble_eq_true rfl)) dX7_whom_51 ⟨Nat.le_of_ble_eq_true rfl, Nat.le_of_ble_eq_true rfl⟩) hS (fun q _ h => f_6 q h) f_6 (fun uh_7 t H1 locs ht hvm h_7 hB1 hz1 hk1 hS => ?_)
        obtain ⟨g_8, rfl⟩ : ∃ z, z = uh_7 := ⟨_, rfl⟩
        have h_7 : ∀ j k : Nat, j < za → k < 6 → p1 = nI j → 5 = nI k → g_8 = upd ga (j * 6 + k) p2 := h_7
        obtain ⟨hP1, hD1⟩ := hB1
        rw [ht] at hP1
        obtain ⟨hP, hD⟩ := va_join (wr := [(x0, .inr (5, [.ref a1, .ref b1, .ref c1, .ref xl, .ref xb, .int kp, .null])), (a1, .inr (3, [.ref a2, .ref a3, .int (nI na)]))]) (w1 := [(a3, .inr (2, [.ref a4, .int (nI za)])), (a4, .inl (cyI, 60, .inl g_8))]) hP hD [2, 3] [0, 1] rfl rfl (by decide) (by decide) hk1 f_6 hP1 hD1
        generalize H1 = H at hP hS ⊢
        have hP : va_P (dC, dI) vwCl [(x0, .inr (5, [.ref a1, .ref b1, .ref c1, .ref xl, .ref xb, .int kp, .null])), (a1, .inr (3, [.ref a2, .ref a3, .int (nI na)])), (a3, .inr (2, [.ref a4, .int (nI za)])), (a4, .inl (cyI, 60, .inl g_8))] _ := hP
        have hD : va_D A [(x0, .inr (5, [.ref a1, .ref b1, .ref c1, .ref xl, .ref xb, .int kp, .null])), (a1, .inr (3, [.ref a2, .ref a3, .int (nI na)])), (a3, .inr (2, [.ref a4, .int (nI za)])), (a4, .inl (cyI, 60, .inl g_8))] := hD
        refine lv_iload_n hx hb dX7_whom_54 rfl (lv_at hl 0 rfl) ?_
        exact W.iret (v := r_5) hx hb hr (fun t ht hW => ⟨⟨r_5, g_8, rfl, trivial, ⟨by rw [ht]; exact hP.sub (ws' := [(x0, .inr (5, [.ref a1, .ref b1, .ref c1, .ref xl, .ref xb, .int kp, .null])), (a1, .inr (3, [.ref a2, .ref a3, .int (nI na)])), (a3, .inr (2, [.ref a4, .int (nI za)])), (a4, .inl (cyI, 60, .inl g_8))]) [0, 1, 2, 3] rfl, hD.sub (ws' := [(x0, .inr (5, [.ref a1, .ref b1, .ref c1, .ref xl, .ref xb, .int kp, .null])), (a1, .inr (3, [.ref a2, .ref a3, .int (nI na)])), (a3, .inr (2, [.ref a4, .int (nI za)])), (a4, .inl (cyI, 60, .inl g_8))]) [0, 1, 2, 3] (by decide) rfl⟩⟩, hS.F ht⟩) hS.2.2 dX7_whom_55
      · skip
        have ic_4 := ci_nle (rfl : Int32.toInt p2 = _) (show Int32.toInt 2 = 2 by decide) c_4
        refine lv_bipush (v := (-2)) hx hb dX7_whom_25 (by decide) ?_
        exact W.iret (v := (-2)) hx hb hr (fun t ht hW => ⟨⟨(-2), ga, rfl, trivial, ⟨by rw [ht]; exact hP.sub (ws' := [(x0, .inr (5, [.ref a1, .ref b1, .ref c1, .ref xl, .ref xb, .int kp, .null])), (a1, .inr (3, [.ref a2, .ref a3, .int (nI na)])), (a3, .inr (2, [.ref a4, .int (nI za)])), (a4, .inl (cyI, 60, .inl ga))]) [0, 1, 2, 3] rfl, hD.sub (ws' := [(x0, .inr (5, [.ref a1, .ref b1, .ref c1, .ref xl, .ref xb, .int kp, .null])), (a1, .inr (3, [.ref a2, .ref a3, .int (nI na)])), (a3, .inr (2, [.ref a4, .int (nI za)])), (a4, .inl (cyI, 60, .inl ga))]) [0, 1, 2, 3] (by decide) rfl⟩⟩, hS.F ht⟩) hS.2.2 dX7_whom_27
  · skip
    have ic_2 := ci_eq (rfl : Int32.toInt r_1 = _) (show Int32.toInt 0 = 0 by decide) c_2
    refine lv_iconst (v := (-1)) hx hb dX7_whom_14 (by decide) ?_
    exact W.iret (v := (-1)) hx hb hr (fun t ht hW => ⟨⟨(-1), ga, rfl, trivial, ⟨by rw [ht]; exact hP.sub (ws' := [(x0, .inr (5, [.ref a1, .ref b1, .ref c1, .ref xl, .ref xb, .int kp, .null])), (a1, .inr (3, [.ref a2, .ref a3, .int (nI na)])), (a3, .inr (2, [.ref a4, .int (nI za)])), (a4, .inl (cyI, 60, .inl ga))]) [0, 1, 2, 3] rfl, hD.sub (ws' := [(x0, .inr (5, [.ref a1, .ref b1, .ref c1, .ref xl, .ref xb, .int kp, .null])), (a1, .inr (3, [.ref a2, .ref a3, .int (nI na)])), (a3, .inr (2, [.ref a4, .int (nI za)])), (a4, .inl (cyI, 60, .inl ga))]) [0, 1, 2, 3] (by decide) rfl⟩⟩, hS.F ht⟩) hS.2.2 dX7_whom_15

set_option maxHeartbeats 4000000 in
set_option maxRecDepth 100000 in
theorem mX7_whom_1 (l : Launch) (dC : Nat → ClassId) (dI : Nat → Nat → Nat) (cyI cyZ : ClassId) (x0 : Nat) (a1 : Nat) (b1 : Nat) (c1 : Nat) (xl : Nat) (xb : Nat) (kp : Int32) (wk : Nat) (a2 : Nat) (a3 : Nat) (a4 : Nat) (na : Nat) (za : Nat) (ga : Nat → Int32) (p1 : Int32) (p2 : Int32) (hza : za ≤ 10) (sz : Nat) : Met l yX7_whom wsX7_whom ({ frames := 2, cells := 0, slots := 0, locals := 44 }) (bs_W dC dI cyI cyZ [.ref x0, .int p1, .int p2] [(x0, .inr (5, [.ref a1, .ref b1, .ref c1, .ref xl, .ref xb, .int kp, .ref wk])), (a1, .inr (3, [.ref a2, .ref a3, .int (nI na)])), (a3, .inr (2, [.ref a4, .int (nI za)])), (a4, .inl (cyI, 60, .inl ga))] sz) (va_Qi (S := (Nat → Int32)) (fun (r : Int32) (q : (Nat → Int32)) => True) (fun q t => bs_E dC dI (va_A [(x0, .inr (5, [.ref a1, .ref b1, .ref c1, .ref xl, .ref xb, .int kp, .ref wk])), (a1, .inr (3, [.ref a2, .ref a3, .int (nI na)])), (a3, .inr (2, [.ref a4, .int (nI za)])), (a4, .inl (cyI, 60, .inl ga))] sz) [(x0, .inr (5, [.ref a1, .ref b1, .ref c1, .ref xl, .ref xb, .int kp, .ref wk])), (a1, .inr (3, [.ref a2, .ref a3, .int (nI na)])), (a3, .inr (2, [.ref a4, .int (nI za)])), (a4, .inl (cyI, 60, .inl q))] t) (va_A [(x0, .inr (5, [.ref a1, .ref b1, .ref c1, .ref xl, .ref xb, .int kp, .ref wk])), (a1, .inr (3, [.ref a2, .ref a3, .int (nI na)])), (a3, .inr (2, [.ref a4, .int (nI za)])), (a4, .inl (cyI, 60, .inl ga))] sz)) 0 0 (va_A [(x0, .inr (5, [.ref a1, .ref b1, .ref c1, .ref xl, .ref xb, .int kp, .ref wk])), (a1, .inr (3, [.ref a2, .ref a3, .int (nI na)])), (a3, .inr (2, [.ref a4, .int (nI za)])), (a4, .inl (cyI, 60, .inl ga))] sz) := by
  refine Met.ofW (cc := cX7_whom) (maxL := 4) (ret := (some .int)) (by decide) rfl ?_
  intro p e s m args below meth c s₁ B hml hv
  obtain ⟨rfl, hsz, hB, hP, hD0⟩ := hv
  have hK := hB.1
  have hN := hB.2
  have hx := B.exec
  have hb := B.bytes
  have hr := B.returns
  have hts := atoms_spec (ws := wsX7_whom) B.pre
  have hown : s.vm.findClass RX7 = some m.cls := findClass_of_methodNamed B.named
  have hlocks := B.notSynchronized
  subst hsz
  have hD := hD0.self (sz := s.heap.size)
  generalize hAe : va_A [(x0, .inr (5, [.ref a1, .ref b1, .ref c1, .ref xl, .ref xb, .int kp, .ref wk])), (a1, .inr (3, [.ref a2, .ref a3, .int (nI na)])), (a3, .inr (2, [.ref a4, .int (nI za)])), (a4, .inl (cyI, 60, .inl ga))] s.heap.size = A at hD ⊢
  have hA : ∀ q : Nat, s.heap.size ≤ q → A q := fun q h => by rw [← hAe]; exact Or.inr h
  have hS : va_S A s.heap s.heap [] := va_S.rf
  have hP : va_P (dC, dI) vwCl [(x0, .inr (5, [.ref a1, .ref b1, .ref c1, .ref xl, .ref xb, .int kp, .ref wk])), (a1, .inr (3, [.ref a2, .ref a3, .int (nI na)])), (a3, .inr (2, [.ref a4, .int (nI za)])), (a4, .inl (cyI, 60, .inl ga))] s.heap := hP
  have hl := lv_entry ([.ref x0, .int p1, .int p2]) (n := 4) (Nat.le_of_ble_eq_true rfl)
  rw [lg_entry_eq]
  generalize (lg_sl ([.ref x0, .int p1, .int p2]) ++ List.replicate (4 - (lg_sl ([.ref x0, .int p1, .int p2])).length) Slot.unset).toArray = ls at hl ⊢
  have hl : lv_has ls 4 [(0, .ref x0), (1, .int p1), (2, .int p2)] := hl
  refine lv_aload_n hx hb dX7_whom_0 rfl (lv_at hl 0 rfl) ?_
  refine va_get (D := (dC, dI)) (ci := 5) (v := .ref a1) (C := RX7) (T := TX7) (N := 7) hx hb hts hnX7_whom_X7 hown hK hP 0 rfl rfl 0 (by decide) (hts (.fieldLink RX7 10 "RingMeets" "now" "LRingMeets$Scene;") (by decide +kernel)) (fun _ h9 => h9) rfl dX7_whom_1 ?_
  refine va_getN (D := (dC, dI)) (ci := 3) (v := .ref a3) (C := RX4) (T := TX4) (N := 3) hx hb hts hnX7_whom_X4 hown hK hP 1 rfl rfl 1 (by decide) (hN.fld 3 rfl) (fun _ h9 => h9) rfl dX7_whom_4 ?_
  refine lv_iload_n hx hb dX7_whom_7 rfl (lv_at hl 1 rfl) ?_
  refine vp_callSi (va_Run.run (va_runV (As := [.int p1]) (rest := []) ⟨hx, hb, hml, hown, hts⟩ (mX3_has l dC dI cyI cyZ a3 a4 za p1 (by omega)) (cwV 1 hts gX7_whom_X3_has rfl rfl rfl (by decide +kernel) ⟨Nat.le_of_ble_eq_true rfl, Nat.le_of_ble_eq_true rfl⟩) (bs_RV hB (hP.sub (ws' := [(a3, .inr (2, [.ref a4, .int (nI za)]))]) [2] rfl) 0 rfl rfl) rfl rfl hl.1 rfl (lv_room (Nat.le_of_ble_eq_true rfl)) dX7_whom_8 ⟨Nat.le_of_ble_eq_true rfl, Nat.le_of_ble_eq_true rfl⟩)) (fun r_1 hr_1 => ?_)
  refine lv_if_ne (tgt := 16) hx hb dX7_whom_11 (by decide) (fun c_2 => ?_) (fun c_2 => ?_)
  · skip
    have ic_2 := ci_ne (rfl : Int32.toInt r_1 = _) (show Int32.toInt 0 = 0 by decide) c_2
    refine lv_iload_n hx hb dX7_whom_16 rfl (lv_at hl 2 rfl) ?_
    refine lv_if_lt (tgt := 25) hx hb dX7_whom_17 (by decide) (fun c_3 => ?_) (fun c_3 => ?_)
    · skip
      have ic_3 := ci_lt (rfl : Int32.toInt p2 = _) (show Int32.toInt 0 = 0 by decide) c_3
      refine lv_bipush (v := (-2)) hx hb dX7_whom_25 (by decide) ?_
      exact W.iret (v := (-2)) hx hb hr (fun t ht hW => ⟨⟨(-2), ga, rfl, trivial, ⟨by rw [ht]; exact hP.sub (ws' := [(x0, .inr (5, [.ref a1, .ref b1, .ref c1, .ref xl, .ref xb, .int kp, .ref wk])), (a1, .inr (3, [.ref a2, .ref a3, .int (nI na)])), (a3, .inr (2, [.ref a4, .int (nI za)])), (a4, .inl (cyI, 60, .inl ga))]) [0, 1, 2, 3] rfl, hD.sub (ws' := [(x0, .inr (5, [.ref a1, .ref b1, .ref c1, .ref xl, .ref xb, .int kp, .ref wk])), (a1, .inr (3, [.ref a2, .ref a3, .int (nI na)])), (a3, .inr (2, [.ref a4, .int (nI za)])), (a4, .inl (cyI, 60, .inl ga))]) [0, 1, 2, 3] (by decide) rfl⟩⟩, hS.F ht⟩) hS.2.2 dX7_whom_27
    · skip
      have ic_3 := ci_nlt (rfl : Int32.toInt p2 = _) (show Int32.toInt 0 = 0 by decide) c_3
      refine lv_iload_n hx hb dX7_whom_20 rfl (lv_at hl 2 rfl) ?_
      refine lv_iconst (v := 2) hx hb dX7_whom_21 (by decide) ?_
      refine lv_icmp_le (tgt := 28) hx hb dX7_whom_22 (by decide) (fun c_4 => ?_) (fun c_4 => ?_)
      · skip
        have ic_4 := ci_le (rfl : Int32.toInt p2 = _) (show Int32.toInt 2 = 2 by decide) c_4
        refine lv_aload_n hx hb dX7_whom_28 rfl (lv_at hl 0 rfl) ?_
        refine va_get (D := (dC, dI)) (ci := 5) (v := .ref a1) (C := RX7) (T := TX7) (N := 7) hx hb hts hnX7_whom_X7 hown hK hP 0 rfl rfl 0 (by decide) (hts (.fieldLink RX7 10 "RingMeets" "now" "LRingMeets$Scene;") (by decide +kernel)) (fun _ h9 => h9) rfl dX7_whom_29 ?_
        refine va_getN (D := (dC, dI)) (ci := 3) (v := .ref a3) (C := RX4) (T := TX4) (N := 3) hx hb hts hnX7_whom_X4 hown hK hP 1 rfl rfl 1 (by decide) (hN.fld 3 rfl) (fun _ h9 => h9) rfl dX7_whom_32 ?_
        refine lv_iload_n hx hb dX7_whom_35 rfl (lv_at hl 1 rfl) ?_
        refine lv_iconst (v := 5) hx hb dX7_whom_36 (by decide) ?_
        refine vp_callSi (va_Run.run (va_runV (As := [.int p1, .int 5]) (rest := []) ⟨hx, hb, hml, hown, hts⟩ (mX3_part l dC dI cyI cyZ a3 a4 za ga p1 5 (by omega)) (cwV 2 hts gX7_whom_X3_part rfl rfl rfl (by decide +kernel) ⟨Nat.le_of_ble_eq_true rfl, Nat.le_of_ble_eq_true rfl⟩) (bs_RV hB (hP.sub (ws' := [(a3, .inr (2, [.ref a4, .int (nI za)])), (a4, .inl (cyI, 60, .inl ga))]) [2, 3] rfl) 0 rfl rfl) rfl rfl hl.1 rfl (lv_room (Nat.le_of_ble_eq_true rfl)) dX7_whom_37 ⟨Nat.le_of_ble_eq_true rfl, Nat.le_of_ble_eq_true rfl⟩)) (fun r_5 hr_5 => ?_)
        refine lv_istore_n (lv' := [(3, .int r_5), (0, .ref x0), (1, .int p1), (2, .int p2)]) hx hb dX7_whom_40 rfl hl (by decide) rfl (fun ls hl => ?_)
        refine lv_aload_n hx hb dX7_whom_41 rfl (lv_at hl 1 rfl) ?_
        refine va_get (D := (dC, dI)) (ci := 5) (v := .ref a1) (C := RX7) (T := TX7) (N := 7) hx hb hts hnX7_whom_X7 hown hK hP 0 rfl rfl 0 (by decide) (hts (.fieldLink RX7 10 "RingMeets" "now" "LRingMeets$Scene;") (by decide +kernel)) (fun _ h9 => h9) rfl dX7_whom_42 ?_
        refine va_getN (D := (dC, dI)) (ci := 3) (v := .ref a3) (C := RX4) (T := TX4) (N := 3) hx hb hts hnX7_whom_X4 hown hK hP 1 rfl rfl 1 (by decide) (hN.fld 3 rfl) (fun _ h9 => h9) rfl dX7_whom_45 ?_
        refine lv_iload_n hx hb dX7_whom_48 rfl (lv_at hl 2 rfl) ?_
        refine lv_iconst (v := 5) hx hb dX7_whom_49 (by decide) ?_
        refine lv_iload_n hx hb dX7_whom_50 rfl (lv_at hl 3 rfl) ?_
        have f_6 := va_free (wc := [(a3, .inr (2, [.ref a4, .int (nI za)])), (a4, .inl (cyI, 60, .inl ga))]) hD hS hA [2, 3] rfl
        refine va_callv (va_runV (As := [.int p1, .int 5, .int p2]) (rest := []) ⟨hx, hb, hml, hown, hts⟩ (mX3_setPart l dC dI cyI cyZ a3 a4 za ga p1 5 p2 (by omega) _) (cwV 3 hts gX7_whom_X3_setPart rfl rfl rfl (by decide +kernel) ⟨Nat.le_of_ble_eq_true rfl, Nat.le_of_ble_eq_true rfl⟩) (bs_WV hB (hP.sub (ws' := [(a3, .inr (2, [.ref a4, .int (nI za)])), (a4, .inl (cyI, 60, .inl ga))]) [2, 3] rfl) (hD.sub (ws' := [(a3, .inr (2, [.ref a4, .int (nI za)])), (a4, .inl (cyI, 60, .inl ga))]) [2, 3] (by decide) rfl) 0 rfl rfl) rfl rfl hl.1 rfl (lv_room (Nat.le_of_ble_eq_true rfl)) dX7_whom_51 ⟨Nat.le_of_ble_eq_true rfl, Nat.le_of_ble_eq_true rfl⟩) hS (fun q _ h => f_6 q h) f_6 (fun uh_7 t H1 locs ht hvm h_7 hB1 hz1 hk1 hS => ?_)
        obtain ⟨g_8, rfl⟩ : ∃ z, z = uh_7 := ⟨_, rfl⟩
        have h_7 : ∀ j k : Nat, j < za → k < 6 → p1 = nI j → 5 = nI k → g_8 = upd ga (j * 6 + k) p2 := h_7
        obtain ⟨hP1, hD1⟩ := hB1
        rw [ht] at hP1
        obtain ⟨hP, hD⟩ := va_join (wr := [(x0, .inr (5, [.ref a1, .ref b1, .ref c1, .ref xl, .ref xb, .int kp, .ref wk])), (a1, .inr (3, [.ref a2, .ref a3, .int (nI na)]))]) (w1 := [(a3, .inr (2, [.ref a4, .int (nI za)])), (a4, .inl (cyI, 60, .inl g_8))]) hP hD [2, 3] [0, 1] rfl rfl (by decide) (by decide) hk1 f_6 hP1 hD1
        generalize H1 = H at hP hS ⊢
        have hP : va_P (dC, dI) vwCl [(x0, .inr (5, [.ref a1, .ref b1, .ref c1, .ref xl, .ref xb, .int kp, .ref wk])), (a1, .inr (3, [.ref a2, .ref a3, .int (nI na)])), (a3, .inr (2, [.ref a4, .int (nI za)])), (a4, .inl (cyI, 60, .inl g_8))] _ := hP
        have hD : va_D A [(x0, .inr (5, [.ref a1, .ref b1, .ref c1, .ref xl, .ref xb, .int kp, .ref wk])), (a1, .inr (3, [.ref a2, .ref a3, .int (nI na)])), (a3, .inr (2, [.ref a4, .int (nI za)])), (a4, .inl (cyI, 60, .inl g_8))] := hD
        refine lv_iload_n hx hb dX7_whom_54 rfl (lv_at hl 0 rfl) ?_
        exact W.iret (v := r_5) hx hb hr (fun t ht hW => ⟨⟨r_5, g_8, rfl, trivial, ⟨by rw [ht]; exact hP.sub (ws' := [(x0, .inr (5, [.ref a1, .ref b1, .ref c1, .ref xl, .ref xb, .int kp, .ref wk])), (a1, .inr (3, [.ref a2, .ref a3, .int (nI na)])), (a3, .inr (2, [.ref a4, .int (nI za)])), (a4, .inl (cyI, 60, .inl g_8))]) [0, 1, 2, 3] rfl, hD.sub (ws' := [(x0, .inr (5, [.ref a1, .ref b1, .ref c1, .ref xl, .ref xb, .int kp, .ref wk])), (a1, .inr (3, [.ref a2, .ref a3, .int (nI na)])), (a3, .inr (2, [.ref a4, .int (nI za)])), (a4, .inl (cyI, 60, .inl g_8))]) [0, 1, 2, 3] (by decide) rfl⟩⟩, hS.F ht⟩) hS.2.2 dX7_whom_55
      · skip
        have ic_4 := ci_nle (rfl : Int32.toInt p2 = _) (show Int32.toInt 2 = 2 by decide) c_4
        refine lv_bipush (v := (-2)) hx hb dX7_whom_25 (by decide) ?_
        exact W.iret (v := (-2)) hx hb hr (fun t ht hW => ⟨⟨(-2), ga, rfl, trivial, ⟨by rw [ht]; exact hP.sub (ws' := [(x0, .inr (5, [.ref a1, .ref b1, .ref c1, .ref xl, .ref xb, .int kp, .ref wk])), (a1, .inr (3, [.ref a2, .ref a3, .int (nI na)])), (a3, .inr (2, [.ref a4, .int (nI za)])), (a4, .inl (cyI, 60, .inl ga))]) [0, 1, 2, 3] rfl, hD.sub (ws' := [(x0, .inr (5, [.ref a1, .ref b1, .ref c1, .ref xl, .ref xb, .int kp, .ref wk])), (a1, .inr (3, [.ref a2, .ref a3, .int (nI na)])), (a3, .inr (2, [.ref a4, .int (nI za)])), (a4, .inl (cyI, 60, .inl ga))]) [0, 1, 2, 3] (by decide) rfl⟩⟩, hS.F ht⟩) hS.2.2 dX7_whom_27
  · skip
    have ic_2 := ci_eq (rfl : Int32.toInt r_1 = _) (show Int32.toInt 0 = 0 by decide) c_2
    refine lv_iconst (v := (-1)) hx hb dX7_whom_14 (by decide) ?_
    exact W.iret (v := (-1)) hx hb hr (fun t ht hW => ⟨⟨(-1), ga, rfl, trivial, ⟨by rw [ht]; exact hP.sub (ws' := [(x0, .inr (5, [.ref a1, .ref b1, .ref c1, .ref xl, .ref xb, .int kp, .ref wk])), (a1, .inr (3, [.ref a2, .ref a3, .int (nI na)])), (a3, .inr (2, [.ref a4, .int (nI za)])), (a4, .inl (cyI, 60, .inl ga))]) [0, 1, 2, 3] rfl, hD.sub (ws' := [(x0, .inr (5, [.ref a1, .ref b1, .ref c1, .ref xl, .ref xb, .int kp, .ref wk])), (a1, .inr (3, [.ref a2, .ref a3, .int (nI na)])), (a3, .inr (2, [.ref a4, .int (nI za)])), (a4, .inl (cyI, 60, .inl ga))]) [0, 1, 2, 3] (by decide) rfl⟩⟩, hS.F ht⟩) hS.2.2 dX7_whom_15

theorem hnX7_drop_X3 : ∀ w ∈ wsX30, w ∈ wsX7_drop := fun _ h => List.mem_cons_of_mem _ (List.mem_append_right _ h)
theorem hnX7_drop_X4 : ∀ w ∈ wsX40, w ∈ wsX7_drop := fun _ h => List.mem_cons_of_mem _ (List.mem_append_left _ (List.mem_append_right _ h))
theorem hnX7_drop_X7 : ∀ w ∈ wsX70, w ∈ wsX7_drop := fun _ h => List.mem_cons_of_mem _ (List.mem_append_left _ (List.mem_append_left _ (List.mem_append_right _ h)))
set_option maxHeartbeats 4000000 in
set_option maxRecDepth 100000 in
theorem mX7_drop_0 (l : Launch) (dC : Nat → ClassId) (dI : Nat → Nat → Nat) (cyI cyZ : ClassId) (x0 : Nat) (a1 : Nat) (b1 : Nat) (c1 : Nat) (xl : Nat) (xb : Nat) (kp : Int32) (a2 : Nat) (a3 : Nat) (a4 : Nat) (na : Nat) (za : Nat) (ga : Nat → Int32) (p1 : Int32) (hza : za ≤ 10) (sz : Nat) : Met l yX7_drop wsX7_drop ({ frames := 2, cells := 0, slots := 0, locals := 43 }) (bs_W dC dI cyI cyZ [.ref x0, .int p1] [(x0, .inr (5, [.ref a1, .ref b1, .ref c1, .ref xl, .ref xb, .int kp, .null])), (a1, .inr (3, [.ref a2, .ref a3, .int (nI na)])), (a3, .inr (2, [.ref a4, .int (nI za)])), (a4, .inl (cyI, 60, .inl ga))] sz) (va_Qi (S := Nat × (Nat → Int32)) (fun (r : Int32) (q : Nat × (Nat → Int32)) => q.1 ≤ 10) (fun q t => bs_E dC dI (va_A [(x0, .inr (5, [.ref a1, .ref b1, .ref c1, .ref xl, .ref xb, .int kp, .null])), (a1, .inr (3, [.ref a2, .ref a3, .int (nI na)])), (a3, .inr (2, [.ref a4, .int (nI za)])), (a4, .inl (cyI, 60, .inl ga))] sz) [(x0, .inr (5, [.ref a1, .ref b1, .ref c1, .ref xl, .ref xb, .int kp, .null])), (a1, .inr (3, [.ref a2, .ref a3, .int (nI na)])), (a3, .inr (2, [.ref a4, .int (nI q.1)])), (a4, .inl (cyI, 60, .inl q.2))] t) (va_A [(x0, .inr (5, [.ref a1, .ref b1, .ref c1, .ref xl, .ref xb, .int kp, .null])), (a1, .inr (3, [.ref a2, .ref a3, .int (nI na)])), (a3, .inr (2, [.ref a4, .int (nI za)])), (a4, .inl (cyI, 60, .inl ga))] sz)) 0 0 (va_A [(x0, .inr (5, [.ref a1, .ref b1, .ref c1, .ref xl, .ref xb, .int kp, .null])), (a1, .inr (3, [.ref a2, .ref a3, .int (nI na)])), (a3, .inr (2, [.ref a4, .int (nI za)])), (a4, .inl (cyI, 60, .inl ga))] sz) := by
  refine Met.ofW (cc := cX7_drop) (maxL := 2) (ret := (some .int)) (by decide) rfl ?_
  intro p e s m args below meth c s₁ B hml hv
  obtain ⟨rfl, hsz, hB, hP, hD0⟩ := hv
  have hK := hB.1
  have hN := hB.2
  have hx := B.exec
  have hb := B.bytes
  have hr := B.returns
  have hts := atoms_spec (ws := wsX7_drop) B.pre
  have hown : s.vm.findClass RX7 = some m.cls := findClass_of_methodNamed B.named
  have hlocks := B.notSynchronized
  subst hsz
  have hD := hD0.self (sz := s.heap.size)
  generalize hAe : va_A [(x0, .inr (5, [.ref a1, .ref b1, .ref c1, .ref xl, .ref xb, .int kp, .null])), (a1, .inr (3, [.ref a2, .ref a3, .int (nI na)])), (a3, .inr (2, [.ref a4, .int (nI za)])), (a4, .inl (cyI, 60, .inl ga))] s.heap.size = A at hD ⊢
  have hA : ∀ q : Nat, s.heap.size ≤ q → A q := fun q h => by rw [← hAe]; exact Or.inr h
  have hS : va_S A s.heap s.heap [] := va_S.rf
  have hP : va_P (dC, dI) vwCl [(x0, .inr (5, [.ref a1, .ref b1, .ref c1, .ref xl, .ref xb, .int kp, .null])), (a1, .inr (3, [.ref a2, .ref a3, .int (nI na)])), (a3, .inr (2, [.ref a4, .int (nI za)])), (a4, .inl (cyI, 60, .inl ga))] s.heap := hP
  have hl := lv_entry ([.ref x0, .int p1]) (n := 2) (Nat.le_of_ble_eq_true rfl)
  rw [lg_entry_eq]
  generalize (lg_sl ([.ref x0, .int p1]) ++ List.replicate (2 - (lg_sl ([.ref x0, .int p1])).length) Slot.unset).toArray = ls at hl ⊢
  have hl : lv_has ls 2 [(0, .ref x0), (1, .int p1)] := hl
  refine lv_aload_n hx hb dX7_drop_0 rfl (lv_at hl 0 rfl) ?_
  refine va_get (D := (dC, dI)) (ci := 5) (v := .ref a1) (C := RX7) (T := TX7) (N := 7) hx hb hts hnX7_drop_X7 hown hK hP 0 rfl rfl 0 (by decide) (hts (.fieldLink RX7 10 "RingMeets" "now" "LRingMeets$Scene;") (by decide +kernel)) (fun _ h9 => h9) rfl dX7_drop_1 ?_
  refine va_getN (D := (dC, dI)) (ci := 3) (v := .ref a3) (C := RX4) (T := TX4) (N := 3) hx hb hts hnX7_drop_X4 hown hK hP 1 rfl rfl 1 (by decide) (hN.fld 3 rfl) (fun _ h9 => h9) rfl dX7_drop_4 ?_
  refine lv_iload_n hx hb dX7_drop_7 rfl (lv_at hl 1 rfl) ?_
  refine vp_callSi (va_Run.run (va_runV (As := [.int p1]) (rest := []) ⟨hx, hb, hml, hown, hts⟩ (mX3_has l dC dI cyI cyZ a3 a4 za p1 (by omega)) (cwV 1 hts gX7_drop_X3_has rfl rfl rfl (by decide +kernel) ⟨Nat.le_of_ble_eq_true rfl, Nat.le_of_ble_eq_true rfl⟩) (bs_RV hB (hP.sub (ws' := [(a3, .inr (2, [.ref a4, .int (nI za)]))]) [2] rfl) 0 rfl rfl) rfl rfl hl.1 rfl (lv_room (Nat.le_of_ble_eq_true rfl)) dX7_drop_8 ⟨Nat.le_of_ble_eq_true rfl, Nat.le_of_ble_eq_true rfl⟩)) (fun r_1 hr_1 => ?_)
  refine lv_if_ne (tgt := 16) hx hb dX7_drop_11 (by decide) (fun c_2 => ?_) (fun c_2 => ?_)
  · skip
    have ic_2 := ci_ne (rfl : Int32.toInt r_1 = _) (show Int32.toInt 0 = 0 by decide) c_2
    obtain ⟨j, hj9, ej9⟩ := hr_1.2.1 (hr_1.1.resolve_left c_2)
    subst ej9
    refine lv_aload_n hx hb dX7_drop_16 rfl (lv_at hl 0 rfl) ?_
    refine va_get (D := (dC, dI)) (ci := 5) (v := .ref a1) (C := RX7) (T := TX7) (N := 7) hx hb hts hnX7_drop_X7 hown hK hP 0 rfl rfl 0 (by decide) (hts (.fieldLink RX7 10 "RingMeets" "now" "LRingMeets$Scene;") (by decide +kernel)) (fun _ h9 => h9) rfl dX7_drop_17 ?_
    refine va_getN (D := (dC, dI)) (ci := 3) (v := .ref a3) (C := RX4) (T := TX4) (N := 3) hx hb hts hnX7_drop_X4 hown hK hP 1 rfl rfl 1 (by decide) (hN.fld 3 rfl) (fun _ h9 => h9) rfl dX7_drop_20 ?_
    refine lv_iload_n hx hb dX7_drop_23 rfl (lv_at hl 1 rfl) ?_
    have f_3 := va_free (wc := [(a3, .inr (2, [.ref a4, .int (nI za)])), (a4, .inl (cyI, 60, .inl ga))]) hD hS hA [2, 3] rfl
    refine va_callv (va_runV (As := [.int (nI j)]) (rest := []) ⟨hx, hb, hml, hown, hts⟩ (mX3_remove l dC dI cyI cyZ a3 a4 za j ga (by omega) (by omega) _) (cwV 1 hts gX7_drop_X3_remove rfl rfl rfl (by decide +kernel) ⟨Nat.le_of_ble_eq_true rfl, Nat.le_of_ble_eq_true rfl⟩) (bs_WV hB (hP.sub (ws' := [(a3, .inr (2, [.ref a4, .int (nI za)])), (a4, .inl (cyI, 60, .inl ga))]) [2, 3] rfl) (hD.sub (ws' := [(a3, .inr (2, [.ref a4, .int (nI za)])), (a4, .inl (cyI, 60, .inl ga))]) [2, 3] (by decide) rfl) 0 rfl rfl) rfl rfl hl.1 rfl (lv_room (Nat.le_of_ble_eq_true rfl)) dX7_drop_24 ⟨Nat.le_of_ble_eq_true rfl, Nat.le_of_ble_eq_true rfl⟩) hS (fun q _ h => f_3 q h) f_3 (fun uh_4 t H1 locs ht hvm h_4 hB1 hz1 hk1 hS => ?_)
    obtain ⟨v_5, g_6⟩ := uh_4
    have h_4 : v_5 = za - 1 ∧ ∀ i : Nat, g_6 i = if j * 6 ≤ i ∧ i < (za - 1) * 6 then ga (i + 6) else ga i := h_4
    obtain ⟨hP1, hD1⟩ := hB1
    rw [ht] at hP1
    obtain ⟨hP, hD⟩ := va_join (wr := [(x0, .inr (5, [.ref a1, .ref b1, .ref c1, .ref xl, .ref xb, .int kp, .null])), (a1, .inr (3, [.ref a2, .ref a3, .int (nI na)]))]) (w1 := [(a3, .inr (2, [.ref a4, .int (nI v_5)])), (a4, .inl (cyI, 60, .inl g_6))]) hP hD [2, 3] [0, 1] rfl rfl (by decide) (by decide) hk1 f_3 hP1 hD1
    generalize H1 = H at hP hS ⊢
    have hP : va_P (dC, dI) vwCl [(x0, .inr (5, [.ref a1, .ref b1, .ref c1, .ref xl, .ref xb, .int kp, .null])), (a1, .inr (3, [.ref a2, .ref a3, .int (nI na)])), (a3, .inr (2, [.ref a4, .int (nI v_5)])), (a4, .inl (cyI, 60, .inl g_6))] _ := hP
    have hD : va_D A [(x0, .inr (5, [.ref a1, .ref b1, .ref c1, .ref xl, .ref xb, .int kp, .null])), (a1, .inr (3, [.ref a2, .ref a3, .int (nI na)])), (a3, .inr (2, [.ref a4, .int (nI v_5)])), (a4, .inl (cyI, 60, .inl g_6))] := hD
    refine lv_aload_n hx hb dX7_drop_27 rfl (lv_at hl 0 rfl) ?_
    refine va_get (D := (dC, dI)) (ci := 5) (v := .ref a1) (C := RX7) (T := TX7) (N := 7) hx hb hts hnX7_drop_X7 hown hK hP 0 rfl rfl 0 (by decide) (hts (.fieldLink RX7 10 "RingMeets" "now" "LRingMeets$Scene;") (by decide +kernel)) (fun _ h9 => h9) rfl dX7_drop_28 ?_
    refine va_getN (D := (dC, dI)) (ci := 3) (v := .ref a3) (C := RX4) (T := TX4) (N := 3) hx hb hts hnX7_drop_X4 hown hK hP 1 rfl rfl 1 (by decide) (hN.fld 3 rfl) (fun _ h9 => h9) rfl dX7_drop_31 ?_
    refine va_getN (D := (dC, dI)) (ci := 2) (v := .int (nI v_5)) (C := RX3) (T := TX3) (N := 2) hx hb hts hnX7_drop_X3 hown hK hP 2 rfl rfl 1 (by decide) (hN.fld 2 rfl) (fun _ h9 => h9) rfl dX7_drop_34 ?_
    exact W.iret (v := (nI v_5)) hx hb hr (fun t ht hW => ⟨⟨(nI v_5), (v_5, g_6), rfl, (by have h8 := h_4.1; omega), ⟨by rw [ht]; exact hP.sub (ws' := [(x0, .inr (5, [.ref a1, .ref b1, .ref c1, .ref xl, .ref xb, .int kp, .null])), (a1, .inr (3, [.ref a2, .ref a3, .int (nI na)])), (a3, .inr (2, [.ref a4, .int (nI v_5)])), (a4, .inl (cyI, 60, .inl g_6))]) [0, 1, 2, 3] rfl, hD.sub (ws' := [(x0, .inr (5, [.ref a1, .ref b1, .ref c1, .ref xl, .ref xb, .int kp, .null])), (a1, .inr (3, [.ref a2, .ref a3, .int (nI na)])), (a3, .inr (2, [.ref a4, .int (nI v_5)])), (a4, .inl (cyI, 60, .inl g_6))]) [0, 1, 2, 3] (by decide) rfl⟩⟩, hS.F ht⟩) hS.2.2 dX7_drop_37
  · skip
    have ic_2 := ci_eq (rfl : Int32.toInt r_1 = _) (show Int32.toInt 0 = 0 by decide) c_2
    refine lv_iconst (v := (-1)) hx hb dX7_drop_14 (by decide) ?_
    exact W.iret (v := (-1)) hx hb hr (fun t ht hW => ⟨⟨(-1), (za, ga), rfl, (by omega), ⟨by rw [ht]; exact hP.sub (ws' := [(x0, .inr (5, [.ref a1, .ref b1, .ref c1, .ref xl, .ref xb, .int kp, .null])), (a1, .inr (3, [.ref a2, .ref a3, .int (nI na)])), (a3, .inr (2, [.ref a4, .int (nI za)])), (a4, .inl (cyI, 60, .inl ga))]) [0, 1, 2, 3] rfl, hD.sub (ws' := [(x0, .inr (5, [.ref a1, .ref b1, .ref c1, .ref xl, .ref xb, .int kp, .null])), (a1, .inr (3, [.ref a2, .ref a3, .int (nI na)])), (a3, .inr (2, [.ref a4, .int (nI za)])), (a4, .inl (cyI, 60, .inl ga))]) [0, 1, 2, 3] (by decide) rfl⟩⟩, hS.F ht⟩) hS.2.2 dX7_drop_15

set_option maxHeartbeats 4000000 in
set_option maxRecDepth 100000 in
theorem mX7_drop_1 (l : Launch) (dC : Nat → ClassId) (dI : Nat → Nat → Nat) (cyI cyZ : ClassId) (x0 : Nat) (a1 : Nat) (b1 : Nat) (c1 : Nat) (xl : Nat) (xb : Nat) (kp : Int32) (wk : Nat) (a2 : Nat) (a3 : Nat) (a4 : Nat) (na : Nat) (za : Nat) (ga : Nat → Int32) (p1 : Int32) (hza : za ≤ 10) (sz : Nat) : Met l yX7_drop wsX7_drop ({ frames := 2, cells := 0, slots := 0, locals := 43 }) (bs_W dC dI cyI cyZ [.ref x0, .int p1] [(x0, .inr (5, [.ref a1, .ref b1, .ref c1, .ref xl, .ref xb, .int kp, .ref wk])), (a1, .inr (3, [.ref a2, .ref a3, .int (nI na)])), (a3, .inr (2, [.ref a4, .int (nI za)])), (a4, .inl (cyI, 60, .inl ga))] sz) (va_Qi (S := Nat × (Nat → Int32)) (fun (r : Int32) (q : Nat × (Nat → Int32)) => q.1 ≤ 10) (fun q t => bs_E dC dI (va_A [(x0, .inr (5, [.ref a1, .ref b1, .ref c1, .ref xl, .ref xb, .int kp, .ref wk])), (a1, .inr (3, [.ref a2, .ref a3, .int (nI na)])), (a3, .inr (2, [.ref a4, .int (nI za)])), (a4, .inl (cyI, 60, .inl ga))] sz) [(x0, .inr (5, [.ref a1, .ref b1, .ref c1, .ref xl, .ref xb, .int kp, .ref wk])), (a1, .inr (3, [.ref a2, .ref a3, .int (nI na)])), (a3, .inr (2, [.ref a4, .int (nI q.1)])), (a4, .inl (cyI, 60, .inl q.2))] t) (va_A [(x0, .inr (5, [.ref a1, .ref b1, .ref c1, .ref xl, .ref xb, .int kp, .ref wk])), (a1, .inr (3, [.ref a2, .ref a3, .int (nI na)])), (a3, .inr (2, [.ref a4, .int (nI za)])), (a4, .inl (cyI, 60, .inl ga))] sz)) 0 0 (va_A [(x0, .inr (5, [.ref a1, .ref b1, .ref c1, .ref xl, .ref xb, .int kp, .ref wk])), (a1, .inr (3, [.ref a2, .ref a3, .int (nI na)])), (a3, .inr (2, [.ref a4, .int (nI za)])), (a4, .inl (cyI, 60, .inl ga))] sz) := by
  refine Met.ofW (cc := cX7_drop) (maxL := 2) (ret := (some .int)) (by decide) rfl ?_
  intro p e s m args below meth c s₁ B hml hv
  obtain ⟨rfl, hsz, hB, hP, hD0⟩ := hv
  have hK := hB.1
  have hN := hB.2
  have hx := B.exec
  have hb := B.bytes
  have hr := B.returns
  have hts := atoms_spec (ws := wsX7_drop) B.pre
  have hown : s.vm.findClass RX7 = some m.cls := findClass_of_methodNamed B.named
  have hlocks := B.notSynchronized
  subst hsz
  have hD := hD0.self (sz := s.heap.size)
  generalize hAe : va_A [(x0, .inr (5, [.ref a1, .ref b1, .ref c1, .ref xl, .ref xb, .int kp, .ref wk])), (a1, .inr (3, [.ref a2, .ref a3, .int (nI na)])), (a3, .inr (2, [.ref a4, .int (nI za)])), (a4, .inl (cyI, 60, .inl ga))] s.heap.size = A at hD ⊢
  have hA : ∀ q : Nat, s.heap.size ≤ q → A q := fun q h => by rw [← hAe]; exact Or.inr h
  have hS : va_S A s.heap s.heap [] := va_S.rf
  have hP : va_P (dC, dI) vwCl [(x0, .inr (5, [.ref a1, .ref b1, .ref c1, .ref xl, .ref xb, .int kp, .ref wk])), (a1, .inr (3, [.ref a2, .ref a3, .int (nI na)])), (a3, .inr (2, [.ref a4, .int (nI za)])), (a4, .inl (cyI, 60, .inl ga))] s.heap := hP
  have hl := lv_entry ([.ref x0, .int p1]) (n := 2) (Nat.le_of_ble_eq_true rfl)
  rw [lg_entry_eq]
  generalize (lg_sl ([.ref x0, .int p1]) ++ List.replicate (2 - (lg_sl ([.ref x0, .int p1])).length) Slot.unset).toArray = ls at hl ⊢
  have hl : lv_has ls 2 [(0, .ref x0), (1, .int p1)] := hl
  refine lv_aload_n hx hb dX7_drop_0 rfl (lv_at hl 0 rfl) ?_
  refine va_get (D := (dC, dI)) (ci := 5) (v := .ref a1) (C := RX7) (T := TX7) (N := 7) hx hb hts hnX7_drop_X7 hown hK hP 0 rfl rfl 0 (by decide) (hts (.fieldLink RX7 10 "RingMeets" "now" "LRingMeets$Scene;") (by decide +kernel)) (fun _ h9 => h9) rfl dX7_drop_1 ?_
  refine va_getN (D := (dC, dI)) (ci := 3) (v := .ref a3) (C := RX4) (T := TX4) (N := 3) hx hb hts hnX7_drop_X4 hown hK hP 1 rfl rfl 1 (by decide) (hN.fld 3 rfl) (fun _ h9 => h9) rfl dX7_drop_4 ?_
  refine lv_iload_n hx hb dX7_drop_7 rfl (lv_at hl 1 rfl) ?_
  refine vp_callSi (va_Run.run (va_runV (As := [.int p1]) (rest := []) ⟨hx, hb, hml, hown, hts⟩ (mX3_has l dC dI cyI cyZ a3 a4 za p1 (by omega)) (cwV 1 hts gX7_drop_X3_has rfl rfl rfl (by decide +kernel) ⟨Nat.le_of_ble_eq_true rfl, Nat.le_of_ble_eq_true rfl⟩) (bs_RV hB (hP.sub (ws' := [(a3, .inr (2, [.ref a4, .int (nI za)]))]) [2] rfl) 0 rfl rfl) rfl rfl hl.1 rfl (lv_room (Nat.le_of_ble_eq_true rfl)) dX7_drop_8 ⟨Nat.le_of_ble_eq_true rfl, Nat.le_of_ble_eq_true rfl⟩)) (fun r_1 hr_1 => ?_)
  refine lv_if_ne (tgt := 16) hx hb dX7_drop_11 (by decide) (fun c_2 => ?_) (fun c_2 => ?_)
  · skip
    have ic_2 := ci_ne (rfl : Int32.toInt r_1 = _) (show Int32.toInt 0 = 0 by decide) c_2
    obtain ⟨j, hj9, ej9⟩ := hr_1.2.1 (hr_1.1.resolve_left c_2)
    subst ej9
    refine lv_aload_n hx hb dX7_drop_16 rfl (lv_at hl 0 rfl) ?_
    refine va_get (D := (dC, dI)) (ci := 5) (v := .ref a1) (C := RX7) (T := TX7) (N := 7) hx hb hts hnX7_drop_X7 hown hK hP 0 rfl rfl 0 (by decide) (hts (.fieldLink RX7 10 "RingMeets" "now" "LRingMeets$Scene;") (by decide +kernel)) (fun _ h9 => h9) rfl dX7_drop_17 ?_
    refine va_getN (D := (dC, dI)) (ci := 3) (v := .ref a3) (C := RX4) (T := TX4) (N := 3) hx hb hts hnX7_drop_X4 hown hK hP 1 rfl rfl 1 (by decide) (hN.fld 3 rfl) (fun _ h9 => h9) rfl dX7_drop_20 ?_
    refine lv_iload_n hx hb dX7_drop_23 rfl (lv_at hl 1 rfl) ?_
    have f_3 := va_free (wc := [(a3, .inr (2, [.ref a4, .int (nI za)])), (a4, .inl (cyI, 60, .inl ga))]) hD hS hA [2, 3] rfl
    refine va_callv (va_runV (As := [.int (nI j)]) (rest := []) ⟨hx, hb, hml, hown, hts⟩ (mX3_remove l dC dI cyI cyZ a3 a4 za j ga (by omega) (by omega) _) (cwV 1 hts gX7_drop_X3_remove rfl rfl rfl (by decide +kernel) ⟨Nat.le_of_ble_eq_true rfl, Nat.le_of_ble_eq_true rfl⟩) (bs_WV hB (hP.sub (ws' := [(a3, .inr (2, [.ref a4, .int (nI za)])), (a4, .inl (cyI, 60, .inl ga))]) [2, 3] rfl) (hD.sub (ws' := [(a3, .inr (2, [.ref a4, .int (nI za)])), (a4, .inl (cyI, 60, .inl ga))]) [2, 3] (by decide) rfl) 0 rfl rfl) rfl rfl hl.1 rfl (lv_room (Nat.le_of_ble_eq_true rfl)) dX7_drop_24 ⟨Nat.le_of_ble_eq_true rfl, Nat.le_of_ble_eq_true rfl⟩) hS (fun q _ h => f_3 q h) f_3 (fun uh_4 t H1 locs ht hvm h_4 hB1 hz1 hk1 hS => ?_)
    obtain ⟨v_5, g_6⟩ := uh_4
    have h_4 : v_5 = za - 1 ∧ ∀ i : Nat, g_6 i = if j * 6 ≤ i ∧ i < (za - 1) * 6 then ga (i + 6) else ga i := h_4
    obtain ⟨hP1, hD1⟩ := hB1
    rw [ht] at hP1
    obtain ⟨hP, hD⟩ := va_join (wr := [(x0, .inr (5, [.ref a1, .ref b1, .ref c1, .ref xl, .ref xb, .int kp, .ref wk])), (a1, .inr (3, [.ref a2, .ref a3, .int (nI na)]))]) (w1 := [(a3, .inr (2, [.ref a4, .int (nI v_5)])), (a4, .inl (cyI, 60, .inl g_6))]) hP hD [2, 3] [0, 1] rfl rfl (by decide) (by decide) hk1 f_3 hP1 hD1
    generalize H1 = H at hP hS ⊢
    have hP : va_P (dC, dI) vwCl [(x0, .inr (5, [.ref a1, .ref b1, .ref c1, .ref xl, .ref xb, .int kp, .ref wk])), (a1, .inr (3, [.ref a2, .ref a3, .int (nI na)])), (a3, .inr (2, [.ref a4, .int (nI v_5)])), (a4, .inl (cyI, 60, .inl g_6))] _ := hP
    have hD : va_D A [(x0, .inr (5, [.ref a1, .ref b1, .ref c1, .ref xl, .ref xb, .int kp, .ref wk])), (a1, .inr (3, [.ref a2, .ref a3, .int (nI na)])), (a3, .inr (2, [.ref a4, .int (nI v_5)])), (a4, .inl (cyI, 60, .inl g_6))] := hD
    refine lv_aload_n hx hb dX7_drop_27 rfl (lv_at hl 0 rfl) ?_
    refine va_get (D := (dC, dI)) (ci := 5) (v := .ref a1) (C := RX7) (T := TX7) (N := 7) hx hb hts hnX7_drop_X7 hown hK hP 0 rfl rfl 0 (by decide) (hts (.fieldLink RX7 10 "RingMeets" "now" "LRingMeets$Scene;") (by decide +kernel)) (fun _ h9 => h9) rfl dX7_drop_28 ?_
    refine va_getN (D := (dC, dI)) (ci := 3) (v := .ref a3) (C := RX4) (T := TX4) (N := 3) hx hb hts hnX7_drop_X4 hown hK hP 1 rfl rfl 1 (by decide) (hN.fld 3 rfl) (fun _ h9 => h9) rfl dX7_drop_31 ?_
    refine va_getN (D := (dC, dI)) (ci := 2) (v := .int (nI v_5)) (C := RX3) (T := TX3) (N := 2) hx hb hts hnX7_drop_X3 hown hK hP 2 rfl rfl 1 (by decide) (hN.fld 2 rfl) (fun _ h9 => h9) rfl dX7_drop_34 ?_
    exact W.iret (v := (nI v_5)) hx hb hr (fun t ht hW => ⟨⟨(nI v_5), (v_5, g_6), rfl, (by have h8 := h_4.1; omega), ⟨by rw [ht]; exact hP.sub (ws' := [(x0, .inr (5, [.ref a1, .ref b1, .ref c1, .ref xl, .ref xb, .int kp, .ref wk])), (a1, .inr (3, [.ref a2, .ref a3, .int (nI na)])), (a3, .inr (2, [.ref a4, .int (nI v_5)])), (a4, .inl (cyI, 60, .inl g_6))]) [0, 1, 2, 3] rfl, hD.sub (ws' := [(x0, .inr (5, [.ref a1, .ref b1, .ref c1, .ref xl, .ref xb, .int kp, .ref wk])), (a1, .inr (3, [.ref a2, .ref a3, .int (nI na)])), (a3, .inr (2, [.ref a4, .int (nI v_5)])), (a4, .inl (cyI, 60, .inl g_6))]) [0, 1, 2, 3] (by decide) rfl⟩⟩, hS.F ht⟩) hS.2.2 dX7_drop_37
  · skip
    have ic_2 := ci_eq (rfl : Int32.toInt r_1 = _) (show Int32.toInt 0 = 0 by decide) c_2
    refine lv_iconst (v := (-1)) hx hb dX7_drop_14 (by decide) ?_
    exact W.iret (v := (-1)) hx hb hr (fun t ht hW => ⟨⟨(-1), (za, ga), rfl, (by omega), ⟨by rw [ht]; exact hP.sub (ws' := [(x0, .inr (5, [.ref a1, .ref b1, .ref c1, .ref xl, .ref xb, .int kp, .ref wk])), (a1, .inr (3, [.ref a2, .ref a3, .int (nI na)])), (a3, .inr (2, [.ref a4, .int (nI za)])), (a4, .inl (cyI, 60, .inl ga))]) [0, 1, 2, 3] rfl, hD.sub (ws' := [(x0, .inr (5, [.ref a1, .ref b1, .ref c1, .ref xl, .ref xb, .int kp, .ref wk])), (a1, .inr (3, [.ref a2, .ref a3, .int (nI na)])), (a3, .inr (2, [.ref a4, .int (nI za)])), (a4, .inl (cyI, 60, .inl ga))]) [0, 1, 2, 3] (by decide) rfl⟩⟩, hS.F ht⟩) hS.2.2 dX7_drop_15

theorem hnX7_of_X4 : ∀ w ∈ wsX40, w ∈ wsX7_of := fun _ h => List.mem_cons_of_mem _ (List.mem_append_left _ (List.mem_append_right _ h))
theorem hnX7_of_X7 : ∀ w ∈ wsX70, w ∈ wsX7_of := fun _ h => List.mem_cons_of_mem _ (List.mem_append_left _ (List.mem_append_left _ (List.mem_append_right _ h)))
set_option maxHeartbeats 4000000 in
set_option maxRecDepth 100000 in
theorem mX7_of_0 (l : Launch) (dC : Nat → ClassId) (dI : Nat → Nat → Nat) (cyI cyZ : ClassId) (x0 : Nat) (a1 : Nat) (b1 : Nat) (c1 : Nat) (xl : Nat) (xb : Nat) (kp : Int32) (a2 : Nat) (a3 : Nat) (a4 : Nat) (na : Nat) (za : Nat) (ga : Nat → Int32) (p1 : Int32) (p2 : Int32) (hza : za ≤ 10) : Met l yX7_of wsX7_of ({ frames := 2, cells := 0, slots := 0, locals := 43 }) (bs_R dC dI cyI cyZ [.ref x0, .int p1, .int p2] [(x0, .inr (5, [.ref a1, .ref b1, .ref c1, .ref xl, .ref xb, .int kp, .null])), (a1, .inr (3, [.ref a2, .ref a3, .int (nI na)])), (a3, .inr (2, [.ref a4, .int (nI za)])), (a4, .inl (cyI, 60, .inl ga))]) (vp_Si (fun r : Int32 => True)) 0 0 (fun _ => False) := by
  refine Met.ofW (cc := cX7_of) (maxL := 3) (ret := (some .int)) (by decide) rfl ?_
  intro p e s m args below meth c s₁ B hml hv
  obtain ⟨rfl, hB, hP⟩ := hv
  have hK := hB.1
  have hN := hB.2
  have hx := B.exec
  have hb := B.bytes
  have hr := B.returns
  have hts := atoms_spec (ws := wsX7_of) B.pre
  have hown : s.vm.findClass RX7 = some m.cls := findClass_of_methodNamed B.named
  have hlocks := B.notSynchronized
  have hP : va_P (dC, dI) vwCl [(x0, .inr (5, [.ref a1, .ref b1, .ref c1, .ref xl, .ref xb, .int kp, .null])), (a1, .inr (3, [.ref a2, .ref a3, .int (nI na)])), (a3, .inr (2, [.ref a4, .int (nI za)])), (a4, .inl (cyI, 60, .inl ga))] s.heap := hP
  have hl := lv_entry ([.ref x0, .int p1, .int p2]) (n := 3) (Nat.le_of_ble_eq_true rfl)
  rw [lg_entry_eq]
  generalize (lg_sl ([.ref x0, .int p1, .int p2]) ++ List.replicate (3 - (lg_sl ([.ref x0, .int p1, .int p2])).length) Slot.unset).toArray = ls at hl ⊢
  have hl : lv_has ls 3 [(0, .ref x0), (1, .int p1), (2, .int p2)] := hl
  refine lv_aload_n hx hb dX7_of_0 rfl (lv_at hl 0 rfl) ?_
  refine va_get (D := (dC, dI)) (ci := 5) (v := .ref a1) (C := RX7) (T := TX7) (N := 7) hx hb hts hnX7_of_X7 hown hK hP 0 rfl rfl 0 (by decide) (hts (.fieldLink RX7 10 "RingMeets" "now" "LRingMeets$Scene;") (by decide +kernel)) (fun _ h9 => h9) rfl dX7_of_1 ?_
  refine va_getN (D := (dC, dI)) (ci := 3) (v := .ref a3) (C := RX4) (T := TX4) (N := 3) hx hb hts hnX7_of_X4 hown hK hP 1 rfl rfl 1 (by decide) (hN.fld 3 rfl) (fun _ h9 => h9) rfl dX7_of_4 ?_
  refine lv_iload_n hx hb dX7_of_7 rfl (lv_at hl 1 rfl) ?_
  refine vp_callSi (va_Run.run (va_runV (As := [.int p1]) (rest := []) ⟨hx, hb, hml, hown, hts⟩ (mX3_has l dC dI cyI cyZ a3 a4 za p1 (by omega)) (cwV 1 hts gX7_of_X3_has rfl rfl rfl (by decide +kernel) ⟨Nat.le_of_ble_eq_true rfl, Nat.le_of_ble_eq_true rfl⟩) (bs_RV hB (hP.sub (ws' := [(a3, .inr (2, [.ref a4, .int (nI za)]))]) [2] rfl) 0 rfl rfl) rfl rfl hl.1 rfl (lv_room (Nat.le_of_ble_eq_true rfl)) dX7_of_8 ⟨Nat.le_of_ble_eq_true rfl, Nat.le_of_ble_eq_true rfl⟩)) (fun r_1 hr_1 => ?_)
  refine lv_if_ne (tgt := 16) hx hb dX7_of_11 (by decide) (fun c_2 => ?_) (fun c_2 => ?_)
  · skip
    have ic_2 := ci_ne (rfl : Int32.toInt r_1 = _) (show Int32.toInt 0 = 0 by decide) c_2
    refine lv_iload_n hx hb dX7_of_16 rfl (lv_at hl 2 rfl) ?_
    refine lv_if_lt (tgt := 26) hx hb dX7_of_17 (by decide) (fun c_3 => ?_) (fun c_3 => ?_)
    · skip
      have ic_3 := ci_lt (rfl : Int32.toInt p2 = _) (show Int32.toInt 0 = 0 by decide) c_3
      refine lv_bipush (v := (-2)) hx hb dX7_of_26 (by decide) ?_
      exact W.iret (v := (-2)) hx hb hr (fun t ht hW => ⟨(-2), rfl, trivial, ht⟩) (fun q h => by cases h) dX7_of_28
    · skip
      have ic_3 := ci_nlt (rfl : Int32.toInt p2 = _) (show Int32.toInt 0 = 0 by decide) c_3
      refine lv_iload_n hx hb dX7_of_20 rfl (lv_at hl 2 rfl) ?_
      refine lv_bipush (v := 6) hx hb dX7_of_21 (by decide) ?_
      refine lv_icmp_lt (tgt := 29) hx hb dX7_of_23 (by decide) (fun c_4 => ?_) (fun c_4 => ?_)
      · skip
        have ic_4 := ci_lt (rfl : Int32.toInt p2 = _) (show Int32.toInt 6 = 6 by decide) c_4
        refine lv_aload_n hx hb dX7_of_29 rfl (lv_at hl 0 rfl) ?_
        refine va_get (D := (dC, dI)) (ci := 5) (v := .ref a1) (C := RX7) (T := TX7) (N := 7) hx hb hts hnX7_of_X7 hown hK hP 0 rfl rfl 0 (by decide) (hts (.fieldLink RX7 10 "RingMeets" "now" "LRingMeets$Scene;") (by decide +kernel)) (fun _ h9 => h9) rfl dX7_of_30 ?_
        refine va_getN (D := (dC, dI)) (ci := 3) (v := .ref a3) (C := RX4) (T := TX4) (N := 3) hx hb hts hnX7_of_X4 hown hK hP 1 rfl rfl 1 (by decide) (hN.fld 3 rfl) (fun _ h9 => h9) rfl dX7_of_33 ?_
        refine lv_iload_n hx hb dX7_of_36 rfl (lv_at hl 1 rfl) ?_
        refine lv_iload_n hx hb dX7_of_37 rfl (lv_at hl 2 rfl) ?_
        refine vp_callSi (va_Run.run (va_runV (As := [.int p1, .int p2]) (rest := []) ⟨hx, hb, hml, hown, hts⟩ (mX3_part l dC dI cyI cyZ a3 a4 za ga p1 p2 (by omega)) (cwV 2 hts gX7_of_X3_part rfl rfl rfl (by decide +kernel) ⟨Nat.le_of_ble_eq_true rfl, Nat.le_of_ble_eq_true rfl⟩) (bs_RV hB (hP.sub (ws' := [(a3, .inr (2, [.ref a4, .int (nI za)])), (a4, .inl (cyI, 60, .inl ga))]) [2, 3] rfl) 0 rfl rfl) rfl rfl hl.1 rfl (lv_room (Nat.le_of_ble_eq_true rfl)) dX7_of_38 ⟨Nat.le_of_ble_eq_true rfl, Nat.le_of_ble_eq_true rfl⟩)) (fun r_5 hr_5 => ?_)
        exact W.iret (v := r_5) hx hb hr (fun t ht hW => ⟨r_5, rfl, trivial, ht⟩) (fun q h => by cases h) dX7_of_41
      · skip
        have ic_4 := ci_nlt (rfl : Int32.toInt p2 = _) (show Int32.toInt 6 = 6 by decide) c_4
        refine lv_bipush (v := (-2)) hx hb dX7_of_26 (by decide) ?_
        exact W.iret (v := (-2)) hx hb hr (fun t ht hW => ⟨(-2), rfl, trivial, ht⟩) (fun q h => by cases h) dX7_of_28
  · skip
    have ic_2 := ci_eq (rfl : Int32.toInt r_1 = _) (show Int32.toInt 0 = 0 by decide) c_2
    refine lv_iconst (v := (-1)) hx hb dX7_of_14 (by decide) ?_
    exact W.iret (v := (-1)) hx hb hr (fun t ht hW => ⟨(-1), rfl, trivial, ht⟩) (fun q h => by cases h) dX7_of_15

set_option maxHeartbeats 4000000 in
set_option maxRecDepth 100000 in
theorem mX7_of_1 (l : Launch) (dC : Nat → ClassId) (dI : Nat → Nat → Nat) (cyI cyZ : ClassId) (x0 : Nat) (a1 : Nat) (b1 : Nat) (c1 : Nat) (xl : Nat) (xb : Nat) (kp : Int32) (wk : Nat) (a2 : Nat) (a3 : Nat) (a4 : Nat) (na : Nat) (za : Nat) (ga : Nat → Int32) (p1 : Int32) (p2 : Int32) (hza : za ≤ 10) : Met l yX7_of wsX7_of ({ frames := 2, cells := 0, slots := 0, locals := 43 }) (bs_R dC dI cyI cyZ [.ref x0, .int p1, .int p2] [(x0, .inr (5, [.ref a1, .ref b1, .ref c1, .ref xl, .ref xb, .int kp, .ref wk])), (a1, .inr (3, [.ref a2, .ref a3, .int (nI na)])), (a3, .inr (2, [.ref a4, .int (nI za)])), (a4, .inl (cyI, 60, .inl ga))]) (vp_Si (fun r : Int32 => True)) 0 0 (fun _ => False) := by
  refine Met.ofW (cc := cX7_of) (maxL := 3) (ret := (some .int)) (by decide) rfl ?_
  intro p e s m args below meth c s₁ B hml hv
  obtain ⟨rfl, hB, hP⟩ := hv
  have hK := hB.1
  have hN := hB.2
  have hx := B.exec
  have hb := B.bytes
  have hr := B.returns
  have hts := atoms_spec (ws := wsX7_of) B.pre
  have hown : s.vm.findClass RX7 = some m.cls := findClass_of_methodNamed B.named
  have hlocks := B.notSynchronized
  have hP : va_P (dC, dI) vwCl [(x0, .inr (5, [.ref a1, .ref b1, .ref c1, .ref xl, .ref xb, .int kp, .ref wk])), (a1, .inr (3, [.ref a2, .ref a3, .int (nI na)])), (a3, .inr (2, [.ref a4, .int (nI za)])), (a4, .inl (cyI, 60, .inl ga))] s.heap := hP
  have hl := lv_entry ([.ref x0, .int p1, .int p2]) (n := 3) (Nat.le_of_ble_eq_true rfl)
  rw [lg_entry_eq]
  generalize (lg_sl ([.ref x0, .int p1, .int p2]) ++ List.replicate (3 - (lg_sl ([.ref x0, .int p1, .int p2])).length) Slot.unset).toArray = ls at hl ⊢
  have hl : lv_has ls 3 [(0, .ref x0), (1, .int p1), (2, .int p2)] := hl
  refine lv_aload_n hx hb dX7_of_0 rfl (lv_at hl 0 rfl) ?_
  refine va_get (D := (dC, dI)) (ci := 5) (v := .ref a1) (C := RX7) (T := TX7) (N := 7) hx hb hts hnX7_of_X7 hown hK hP 0 rfl rfl 0 (by decide) (hts (.fieldLink RX7 10 "RingMeets" "now" "LRingMeets$Scene;") (by decide +kernel)) (fun _ h9 => h9) rfl dX7_of_1 ?_
  refine va_getN (D := (dC, dI)) (ci := 3) (v := .ref a3) (C := RX4) (T := TX4) (N := 3) hx hb hts hnX7_of_X4 hown hK hP 1 rfl rfl 1 (by decide) (hN.fld 3 rfl) (fun _ h9 => h9) rfl dX7_of_4 ?_
  refine lv_iload_n hx hb dX7_of_7 rfl (lv_at hl 1 rfl) ?_
  refine vp_callSi (va_Run.run (va_runV (As := [.int p1]) (rest := []) ⟨hx, hb, hml, hown, hts⟩ (mX3_has l dC dI cyI cyZ a3 a4 za p1 (by omega)) (cwV 1 hts gX7_of_X3_has rfl rfl rfl (by decide +kernel) ⟨Nat.le_of_ble_eq_true rfl, Nat.le_of_ble_eq_true rfl⟩) (bs_RV hB (hP.sub (ws' := [(a3, .inr (2, [.ref a4, .int (nI za)]))]) [2] rfl) 0 rfl rfl) rfl rfl hl.1 rfl (lv_room (Nat.le_of_ble_eq_true rfl)) dX7_of_8 ⟨Nat.le_of_ble_eq_true rfl, Nat.le_of_ble_eq_true rfl⟩)) (fun r_1 hr_1 => ?_)
  refine lv_if_ne (tgt := 16) hx hb dX7_of_11 (by decide) (fun c_2 => ?_) (fun c_2 => ?_)
  · skip
    have ic_2 := ci_ne (rfl : Int32.toInt r_1 = _) (show Int32.toInt 0 = 0 by decide) c_2
    refine lv_iload_n hx hb dX7_of_16 rfl (lv_at hl 2 rfl) ?_
    refine lv_if_lt (tgt := 26) hx hb dX7_of_17 (by decide) (fun c_3 => ?_) (fun c_3 => ?_)
    · skip
      have ic_3 := ci_lt (rfl : Int32.toInt p2 = _) (show Int32.toInt 0 = 0 by decide) c_3
      refine lv_bipush (v := (-2)) hx hb dX7_of_26 (by decide) ?_
      exact W.iret (v := (-2)) hx hb hr (fun t ht hW => ⟨(-2), rfl, trivial, ht⟩) (fun q h => by cases h) dX7_of_28
    · skip
      have ic_3 := ci_nlt (rfl : Int32.toInt p2 = _) (show Int32.toInt 0 = 0 by decide) c_3
      refine lv_iload_n hx hb dX7_of_20 rfl (lv_at hl 2 rfl) ?_
      refine lv_bipush (v := 6) hx hb dX7_of_21 (by decide) ?_
      refine lv_icmp_lt (tgt := 29) hx hb dX7_of_23 (by decide) (fun c_4 => ?_) (fun c_4 => ?_)
      · skip
        have ic_4 := ci_lt (rfl : Int32.toInt p2 = _) (show Int32.toInt 6 = 6 by decide) c_4
        refine lv_aload_n hx hb dX7_of_29 rfl (lv_at hl 0 rfl) ?_
        refine va_get (D := (dC, dI)) (ci := 5) (v := .ref a1) (C := RX7) (T := TX7) (N := 7) hx hb hts hnX7_of_X7 hown hK hP 0 rfl rfl 0 (by decide) (hts (.fieldLink RX7 10 "RingMeets" "now" "LRingMeets$Scene;") (by decide +kernel)) (fun _ h9 => h9) rfl dX7_of_30 ?_
        refine va_getN (D := (dC, dI)) (ci := 3) (v := .ref a3) (C := RX4) (T := TX4) (N := 3) hx hb hts hnX7_of_X4 hown hK hP 1 rfl rfl 1 (by decide) (hN.fld 3 rfl) (fun _ h9 => h9) rfl dX7_of_33 ?_
        refine lv_iload_n hx hb dX7_of_36 rfl (lv_at hl 1 rfl) ?_
        refine lv_iload_n hx hb dX7_of_37 rfl (lv_at hl 2 rfl) ?_
        refine vp_callSi (va_Run.run (va_runV (As := [.int p1, .int p2]) (rest := []) ⟨hx, hb, hml, hown, hts⟩ (mX3_part l dC dI cyI cyZ a3 a4 za ga p1 p2 (by omega)) (cwV 2 hts gX7_of_X3_part rfl rfl rfl (by decide +kernel) ⟨Nat.le_of_ble_eq_true rfl, Nat.le_of_ble_eq_true rfl⟩) (bs_RV hB (hP.sub (ws' := [(a3, .inr (2, [.ref a4, .int (nI za)])), (a4, .inl (cyI, 60, .inl ga))]) [2, 3] rfl) 0 rfl rfl) rfl rfl hl.1 rfl (lv_room (Nat.le_of_ble_eq_true rfl)) dX7_of_38 ⟨Nat.le_of_ble_eq_true rfl, Nat.le_of_ble_eq_true rfl⟩)) (fun r_5 hr_5 => ?_)
        exact W.iret (v := r_5) hx hb hr (fun t ht hW => ⟨r_5, rfl, trivial, ht⟩) (fun q h => by cases h) dX7_of_41
      · skip
        have ic_4 := ci_nlt (rfl : Int32.toInt p2 = _) (show Int32.toInt 6 = 6 by decide) c_4
        refine lv_bipush (v := (-2)) hx hb dX7_of_26 (by decide) ?_
        exact W.iret (v := (-2)) hx hb hr (fun t ht hW => ⟨(-2), rfl, trivial, ht⟩) (fun q h => by cases h) dX7_of_28
  · skip
    have ic_2 := ci_eq (rfl : Int32.toInt r_1 = _) (show Int32.toInt 0 = 0 by decide) c_2
    refine lv_iconst (v := (-1)) hx hb dX7_of_14 (by decide) ?_
    exact W.iret (v := (-1)) hx hb hr (fun t ht hW => ⟨(-1), rfl, trivial, ht⟩) (fun q h => by cases h) dX7_of_15

theorem hnX7_does_X1 : ∀ w ∈ wsX10, w ∈ wsX7_does := fun _ h => List.mem_cons_of_mem _ (List.mem_append_left _ (List.mem_append_right _ h))
theorem hnX7_does_X4 : ∀ w ∈ wsX40, w ∈ wsX7_does := fun _ h => List.mem_cons_of_mem _ (List.mem_append_left _ (List.mem_append_left _ (List.mem_append_right _ h)))
theorem hnX7_does_X7 : ∀ w ∈ wsX70, w ∈ wsX7_does := fun _ h => List.mem_cons_of_mem _ (List.mem_append_left _ (List.mem_append_left _ (List.mem_append_left _ (List.mem_append_right _ h))))
set_option maxHeartbeats 4000000 in
set_option maxRecDepth 100000 in
theorem mX7_does_0 (l : Launch) (dC : Nat → ClassId) (dI : Nat → Nat → Nat) (cyI cyZ : ClassId) (x0 : Nat) (a1 : Nat) (b1 : Nat) (c1 : Nat) (xl : Nat) (xb : Nat) (kp : Int32) (a2 : Nat) (a3 : Nat) (a4 : Nat) (na : Nat) (za : Nat) (fa : Nat → Int32) (ga : Nat → Int32) (e0 : Int32) (e1 : Int32) (e2 : Int32) (e3 : Int32) (e4 : Int32) (p1 : Int32) (p2 : Int32) (hna : na ≤ 10) (hza : za ≤ 10) (sz : Nat) : Met l yX7_does wsX7_does ({ frames := 4, cells := 0, slots := 0, locals := 101 }) (bs_W dC dI cyI cyZ [.ref x0, .int p1, .int p2] [(x0, .inr (5, [.ref a1, .ref b1, .ref c1, .ref xl, .ref xb, .int kp, .null])), (a1, .inr (3, [.ref a2, .ref a3, .int (nI na)])), (a2, .inl (cyI, 10, .inl fa)), (a3, .inr (2, [.ref a4, .int (nI za)])), (a4, .inl (cyI, 60, .inl ga)), (xl, .inr (0, [.int e0, .int e1, .int e2, .int e3, .int e4]))] sz) (va_Qi (S := Int32 × Int32 × Int32 × Int32 × Int32) (fun (r : Int32) (q : Int32 × Int32 × Int32 × Int32 × Int32) => True) (fun q t => bs_E dC dI (va_A [(x0, .inr (5, [.ref a1, .ref b1, .ref c1, .ref xl, .ref xb, .int kp, .null])), (a1, .inr (3, [.ref a2, .ref a3, .int (nI na)])), (a2, .inl (cyI, 10, .inl fa)), (a3, .inr (2, [.ref a4, .int (nI za)])), (a4, .inl (cyI, 60, .inl ga)), (xl, .inr (0, [.int e0, .int e1, .int e2, .int e3, .int e4]))] sz) [(x0, .inr (5, [.ref a1, .ref b1, .ref c1, .ref xl, .ref xb, .int kp, .null])), (a1, .inr (3, [.ref a2, .ref a3, .int (nI na)])), (a2, .inl (cyI, 10, .inl fa)), (a3, .inr (2, [.ref a4, .int (nI za)])), (a4, .inl (cyI, 60, .inl ga)), (xl, .inr (0, [.int q.1, .int q.2.1, .int q.2.2.1, .int q.2.2.2.1, .int q.2.2.2.2]))] t) (va_A [(x0, .inr (5, [.ref a1, .ref b1, .ref c1, .ref xl, .ref xb, .int kp, .null])), (a1, .inr (3, [.ref a2, .ref a3, .int (nI na)])), (a2, .inl (cyI, 10, .inl fa)), (a3, .inr (2, [.ref a4, .int (nI za)])), (a4, .inl (cyI, 60, .inl ga)), (xl, .inr (0, [.int e0, .int e1, .int e2, .int e3, .int e4]))] sz)) 0 0 (va_A [(x0, .inr (5, [.ref a1, .ref b1, .ref c1, .ref xl, .ref xb, .int kp, .null])), (a1, .inr (3, [.ref a2, .ref a3, .int (nI na)])), (a2, .inl (cyI, 10, .inl fa)), (a3, .inr (2, [.ref a4, .int (nI za)])), (a4, .inl (cyI, 60, .inl ga)), (xl, .inr (0, [.int e0, .int e1, .int e2, .int e3, .int e4]))] sz) := by
  refine Met.ofW (cc := cX7_does) (maxL := 4) (ret := (some .int)) (by decide) rfl ?_
  intro p e s m args below meth c s₁ B hml hv
  obtain ⟨rfl, hsz, hB, hP, hD0⟩ := hv
  have hK := hB.1
  have hN := hB.2
  have hx := B.exec
  have hb := B.bytes
  have hr := B.returns
  have hts := atoms_spec (ws := wsX7_does) B.pre
  have hown : s.vm.findClass RX7 = some m.cls := findClass_of_methodNamed B.named
  have hlocks := B.notSynchronized
  subst hsz
  have hD := hD0.self (sz := s.heap.size)
  generalize hAe : va_A [(x0, .inr (5, [.ref a1, .ref b1, .ref c1, .ref xl, .ref xb, .int kp, .null])), (a1, .inr (3, [.ref a2, .ref a3, .int (nI na)])), (a2, .inl (cyI, 10, .inl fa)), (a3, .inr (2, [.ref a4, .int (nI za)])), (a4, .inl (cyI, 60, .inl ga)), (xl, .inr (0, [.int e0, .int e1, .int e2, .int e3, .int e4]))] s.heap.size = A at hD ⊢
  have hA : ∀ q : Nat, s.heap.size ≤ q → A q := fun q h => by rw [← hAe]; exact Or.inr h
  have hS : va_S A s.heap s.heap [] := va_S.rf
  have hP : va_P (dC, dI) vwCl [(x0, .inr (5, [.ref a1, .ref b1, .ref c1, .ref xl, .ref xb, .int kp, .null])), (a1, .inr (3, [.ref a2, .ref a3, .int (nI na)])), (a2, .inl (cyI, 10, .inl fa)), (a3, .inr (2, [.ref a4, .int (nI za)])), (a4, .inl (cyI, 60, .inl ga)), (xl, .inr (0, [.int e0, .int e1, .int e2, .int e3, .int e4]))] s.heap := hP
  have hl := lv_entry ([.ref x0, .int p1, .int p2]) (n := 4) (Nat.le_of_ble_eq_true rfl)
  rw [lg_entry_eq]
  generalize (lg_sl ([.ref x0, .int p1, .int p2]) ++ List.replicate (4 - (lg_sl ([.ref x0, .int p1, .int p2])).length) Slot.unset).toArray = ls at hl ⊢
  have hl : lv_has ls 4 [(0, .ref x0), (1, .int p1), (2, .int p2)] := hl
  refine lv_aload_n hx hb dX7_does_0 rfl (lv_at hl 0 rfl) ?_
  refine va_get (D := (dC, dI)) (ci := 5) (v := .ref a1) (C := RX7) (T := TX7) (N := 7) hx hb hts hnX7_does_X7 hown hK hP 0 rfl rfl 0 (by decide) (hts (.fieldLink RX7 10 "RingMeets" "now" "LRingMeets$Scene;") (by decide +kernel)) (fun _ h9 => h9) rfl dX7_does_1 ?_
  refine vp_callSi (va_Run.run (va_runV (As := []) (rest := []) ⟨hx, hb, hml, hown, hts⟩ (mX4_stands l dC dI cyI cyZ a1 a2 a3 na fa (by omega)) (cwV 0 hts gX7_does_X4_stands rfl rfl rfl (by decide +kernel) ⟨Nat.le_of_ble_eq_true rfl, Nat.le_of_ble_eq_true rfl⟩) (bs_RV hB (hP.sub (ws' := [(a1, .inr (3, [.ref a2, .ref a3, .int (nI na)])), (a2, .inl (cyI, 10, .inl fa))]) [1, 2] rfl) 0 rfl rfl) rfl rfl hl.1 rfl (lv_room (Nat.le_of_ble_eq_true rfl)) dX7_does_4 ⟨Nat.le_of_ble_eq_true rfl, Nat.le_of_ble_eq_true rfl⟩)) (fun r_1 hr_1 => ?_)
  refine lv_istore_n (lv' := [(3, .int r_1), (0, .ref x0), (1, .int p1), (2, .int p2)]) hx hb dX7_does_7 rfl hl (by decide) rfl (fun ls hl => ?_)
  refine lv_iload_n hx hb dX7_does_8 rfl (lv_at hl 0 rfl) ?_
  refine lv_iload_n hx hb dX7_does_9 rfl (lv_at hl 2 rfl) ?_
  refine vp_callSi (va_Run.run (va_runS (As := [.int r_1, .int p1]) (rest := []) ⟨hx, hb, hml, hown, hts⟩ (mX5_has l dC dI cyI cyZ r_1 p1 ) (va_cwS 2 hts gX7_does_X5_has rfl rfl rfl (by decide +kernel) ⟨Nat.le_of_ble_eq_true rfl, Nat.le_of_ble_eq_true rfl⟩) (bs_RS hB (hP.sub (ws' := []) [] rfl)) rfl rfl hl.1 rfl (lv_room (Nat.le_of_ble_eq_true rfl)) dX7_does_10 ⟨Nat.le_of_ble_eq_true rfl, Nat.le_of_ble_eq_true rfl⟩)) (fun r_2 hr_2 => ?_)
  refine lv_if_ne (tgt := 18) hx hb dX7_does_13 (by decide) (fun c_3 => ?_) (fun c_3 => ?_)
  · skip
    have ic_3 := ci_ne (rfl : Int32.toInt r_2 = _) (show Int32.toInt 0 = 0 by decide) c_3
    refine lv_aload_n hx hb dX7_does_18 rfl (lv_at hl 1 rfl) ?_
    refine va_get (D := (dC, dI)) (ci := 5) (v := .ref xl) (C := RX7) (T := TX7) (N := 7) hx hb hts hnX7_does_X7 hown hK hP 0 rfl rfl 3 (by decide) (hts (.fieldLink RX7 25 "RingMeets" "look" "LRingMeets$Look;") (by decide +kernel)) (fun _ h9 => h9) rfl dX7_does_19 ?_
    refine lv_aload_n hx hb dX7_does_22 rfl (lv_at hl 1 rfl) ?_
    refine va_get (D := (dC, dI)) (ci := 5) (v := .ref a1) (C := RX7) (T := TX7) (N := 7) hx hb hts hnX7_does_X7 hown hK hP 0 rfl rfl 0 (by decide) (hts (.fieldLink RX7 10 "RingMeets" "now" "LRingMeets$Scene;") (by decide +kernel)) (fun _ h9 => h9) rfl dX7_does_23 ?_
    refine va_getN (D := (dC, dI)) (ci := 3) (v := .ref a3) (C := RX4) (T := TX4) (N := 3) hx hb hts hnX7_does_X4 hown hK hP 1 rfl rfl 1 (by decide) (hN.fld 3 rfl) (fun _ h9 => h9) rfl dX7_does_26 ?_
    refine lv_aload_n hx hb dX7_does_29 rfl (lv_at hl 1 rfl) ?_
    refine va_get (D := (dC, dI)) (ci := 5) (v := .ref a1) (C := RX7) (T := TX7) (N := 7) hx hb hts hnX7_does_X7 hown hK hP 0 rfl rfl 0 (by decide) (hts (.fieldLink RX7 10 "RingMeets" "now" "LRingMeets$Scene;") (by decide +kernel)) (fun _ h9 => h9) rfl dX7_does_30 ?_
    refine va_getN (D := (dC, dI)) (ci := 3) (v := .int (nI na)) (C := RX4) (T := TX4) (N := 3) hx hb hts hnX7_does_X4 hown hK hP 1 rfl rfl 2 (by decide) (hN.fld 4 rfl) (fun _ h9 => h9) rfl dX7_does_33 ?_
    refine lv_iload_n hx hb dX7_does_36 rfl (lv_at hl 0 rfl) ?_
    refine lv_aload_n hx hb dX7_does_37 rfl (lv_at hl 1 rfl) ?_
    refine va_get (D := (dC, dI)) (ci := 5) (v := .ref a1) (C := RX7) (T := TX7) (N := 7) hx hb hts hnX7_does_X7 hown hK hP 0 rfl rfl 0 (by decide) (hts (.fieldLink RX7 10 "RingMeets" "now" "LRingMeets$Scene;") (by decide +kernel)) (fun _ h9 => h9) rfl dX7_does_38 ?_
    refine vp_callSi (va_Run.run (va_runV (As := []) (rest := [.int r_1, .int (nI na), .ref a3, .ref xl]) ⟨hx, hb, hml, hown, hts⟩ (mX4_towers l dC dI cyI cyZ a1 a2 a3 na fa (by omega)) (cwV 0 hts gX7_does_X4_towers rfl rfl rfl (by decide +kernel) ⟨Nat.le_of_ble_eq_true rfl, Nat.le_of_ble_eq_true rfl⟩) (bs_RV hB (hP.sub (ws' := [(a1, .inr (3, [.ref a2, .ref a3, .int (nI na)])), (a2, .inl (cyI, 10, .inl fa))]) [1, 2] rfl) 0 rfl rfl) rfl rfl hl.1 rfl (lv_room (Nat.le_of_ble_eq_true rfl)) dX7_does_41 ⟨Nat.le_of_ble_eq_true rfl, Nat.le_of_ble_eq_true rfl⟩)) (fun r_4 hr_4 => ?_)
    refine lv_iload_n hx hb dX7_does_44 rfl (lv_at hl 2 rfl) ?_
    have f_5 := va_free (wc := [(xl, .inr (0, [.int e0, .int e1, .int e2, .int e3, .int e4])), (a3, .inr (2, [.ref a4, .int (nI za)])), (a4, .inl (cyI, 60, .inl ga))]) hD hS hA [5, 3, 4] rfl
    refine va_callv (va_runV (As := [.ref a3, .int (nI na), .int r_1, .int r_4, .int p1]) (rest := []) ⟨hx, hb, hml, hown, hts⟩ (mX1_from l dC dI cyI cyZ xl e0 e1 e2 e3 e4 a3 a4 za na ga r_1 r_4 p1 (by omega) (by omega) _) (cwV 5 hts gX7_does_X1_from rfl rfl rfl (by decide +kernel) ⟨Nat.le_of_ble_eq_true rfl, Nat.le_of_ble_eq_true rfl⟩) (bs_WV hB (hP.sub (ws' := [(xl, .inr (0, [.int e0, .int e1, .int e2, .int e3, .int e4])), (a3, .inr (2, [.ref a4, .int (nI za)])), (a4, .inl (cyI, 60, .inl ga))]) [5, 3, 4] rfl) (hD.sub (ws' := [(xl, .inr (0, [.int e0, .int e1, .int e2, .int e3, .int e4])), (a3, .inr (2, [.ref a4, .int (nI za)])), (a4, .inl (cyI, 60, .inl ga))]) [5, 3, 4] (by decide) rfl) 0 rfl rfl) rfl rfl hl.1 rfl (lv_room (Nat.le_of_ble_eq_true rfl)) dX7_does_45 ⟨Nat.le_of_ble_eq_true rfl, Nat.le_of_ble_eq_true rfl⟩) hS (fun q _ h => f_5 q h) f_5 (fun uh_6 t H1 locs ht hvm h_6 hB1 hz1 hk1 hS => ?_)
    obtain ⟨i_7, i_8, i_9, i_10, i_11⟩ := uh_6
    obtain ⟨hP1, hD1⟩ := hB1
    rw [ht] at hP1
    obtain ⟨hP, hD⟩ := va_join (wr := [(x0, .inr (5, [.ref a1, .ref b1, .ref c1, .ref xl, .ref xb, .int kp, .null])), (a1, .inr (3, [.ref a2, .ref a3, .int (nI na)])), (a2, .inl (cyI, 10, .inl fa))]) (w1 := [(xl, .inr (0, [.int i_7, .int i_8, .int i_9, .int i_10, .int i_11])), (a3, .inr (2, [.ref a4, .int (nI za)])), (a4, .inl (cyI, 60, .inl ga))]) hP hD [5, 3, 4] [0, 1, 2] rfl rfl (by decide) (by decide) hk1 f_5 hP1 hD1
    generalize H1 = H at hP hS ⊢
    have hP : va_P (dC, dI) vwCl [(x0, .inr (5, [.ref a1, .ref b1, .ref c1, .ref xl, .ref xb, .int kp, .null])), (a1, .inr (3, [.ref a2, .ref a3, .int (nI na)])), (a2, .inl (cyI, 10, .inl fa)), (xl, .inr (0, [.int i_7, .int i_8, .int i_9, .int i_10, .int i_11])), (a3, .inr (2, [.ref a4, .int (nI za)])), (a4, .inl (cyI, 60, .inl ga))] _ := hP
    have hD : va_D A [(x0, .inr (5, [.ref a1, .ref b1, .ref c1, .ref xl, .ref xb, .int kp, .null])), (a1, .inr (3, [.ref a2, .ref a3, .int (nI na)])), (a2, .inl (cyI, 10, .inl fa)), (xl, .inr (0, [.int i_7, .int i_8, .int i_9, .int i_10, .int i_11])), (a3, .inr (2, [.ref a4, .int (nI za)])), (a4, .inl (cyI, 60, .inl ga))] := hD
    refine lv_iload_n hx hb dX7_does_48 rfl (lv_at hl 3 rfl) ?_
    rcases nb_sw p2 4 4 rfl with w_12 | ⟨w_12k, w_12l, w_12⟩
    · skip
      refine lv_tableOut (tgt := 140) hx hb dX7_does_49 w_12 (by decide) ?_
      refine lv_bipush (v := (-2)) hx hb dX7_does_140 (by decide) ?_
      exact W.iret (v := (-2)) hx hb hr (fun t ht hW => ⟨⟨(-2), (i_7, i_8, i_9, i_10, i_11), rfl, trivial, ⟨by rw [ht]; exact hP.sub (ws' := [(x0, .inr (5, [.ref a1, .ref b1, .ref c1, .ref xl, .ref xb, .int kp, .null])), (a1, .inr (3, [.ref a2, .ref a3, .int (nI na)])), (a2, .inl (cyI, 10, .inl fa)), (a3, .inr (2, [.ref a4, .int (nI za)])), (a4, .inl (cyI, 60, .inl ga)), (xl, .inr (0, [.int i_7, .int i_8, .int i_9, .int i_10, .int i_11]))]) [0, 1, 2, 4, 5, 3] rfl, hD.sub (ws' := [(x0, .inr (5, [.ref a1, .ref b1, .ref c1, .ref xl, .ref xb, .int kp, .null])), (a1, .inr (3, [.ref a2, .ref a3, .int (nI na)])), (a2, .inl (cyI, 10, .inl fa)), (a3, .inr (2, [.ref a4, .int (nI za)])), (a4, .inl (cyI, 60, .inl ga)), (xl, .inr (0, [.int i_7, .int i_8, .int i_9, .int i_10, .int i_11]))]) [0, 1, 2, 4, 5, 3] (by decide) rfl⟩⟩, hS.F ht⟩) hS.2.2 dX7_does_142
    · skip
      rcases (show w_12k = 0 ∨ w_12k = 1 ∨ w_12k = 2 ∨ w_12k = 3 ∨ w_12k = 4 by omega) with rfl | rfl | rfl | rfl | rfl
      · skip
        have ew_12 : p2 = 0 := w_12
        refine W.eq (g2 := F0 m 49 ls (.int 0 :: [])) (by rw [ew_12]) ?_
        refine lv_tableIn (off := 35) (tgt := 84) hx hb dX7_does_49 (by decide) (by decide) (by decide) (by decide) ?_
        refine lv_aload_n hx hb dX7_does_84 rfl (lv_at hl 1 rfl) ?_
        refine va_get (D := (dC, dI)) (ci := 5) (v := .ref xl) (C := RX7) (T := TX7) (N := 7) hx hb hts hnX7_does_X7 hown hK hP 0 rfl rfl 3 (by decide) (hts (.fieldLink RX7 25 "RingMeets" "look" "LRingMeets$Look;") (by decide +kernel)) (fun _ h9 => h9) rfl dX7_does_85 ?_
        refine va_getN (D := (dC, dI)) (ci := 0) (v := .int i_7) (C := RX1) (T := TX1) (N := 5) hx hb hts hnX7_does_X1 hown hK hP 3 rfl rfl 0 (by decide) (hN.fld 6 rfl) (fun _ h9 => h9) rfl dX7_does_88 ?_
        refine lv_if_ne (tgt := 98) hx hb dX7_does_91 (by decide) (fun c_13 => ?_) (fun c_13 => ?_)
        · skip
          have ic_13 := ci_ne (rfl : Int32.toInt i_7 = _) (show Int32.toInt 0 = 0 by decide) c_13
          refine lv_iconst (v := 0) hx hb dX7_does_98 (by decide) ?_
          exact W.iret (v := 0) hx hb hr (fun t ht hW => ⟨⟨0, (i_7, i_8, i_9, i_10, i_11), rfl, trivial, ⟨by rw [ht]; exact hP.sub (ws' := [(x0, .inr (5, [.ref a1, .ref b1, .ref c1, .ref xl, .ref xb, .int kp, .null])), (a1, .inr (3, [.ref a2, .ref a3, .int (nI na)])), (a2, .inl (cyI, 10, .inl fa)), (a3, .inr (2, [.ref a4, .int (nI za)])), (a4, .inl (cyI, 60, .inl ga)), (xl, .inr (0, [.int i_7, .int i_8, .int i_9, .int i_10, .int i_11]))]) [0, 1, 2, 4, 5, 3] rfl, hD.sub (ws' := [(x0, .inr (5, [.ref a1, .ref b1, .ref c1, .ref xl, .ref xb, .int kp, .null])), (a1, .inr (3, [.ref a2, .ref a3, .int (nI na)])), (a2, .inl (cyI, 10, .inl fa)), (a3, .inr (2, [.ref a4, .int (nI za)])), (a4, .inl (cyI, 60, .inl ga)), (xl, .inr (0, [.int i_7, .int i_8, .int i_9, .int i_10, .int i_11]))]) [0, 1, 2, 4, 5, 3] (by decide) rfl⟩⟩, hS.F ht⟩) hS.2.2 dX7_does_99
        · skip
          have ic_13 := ci_eq (rfl : Int32.toInt i_7 = _) (show Int32.toInt 0 = 0 by decide) c_13
          refine lv_iconst (v := 1) hx hb dX7_does_94 (by decide) ?_
          refine lv_goto (tgt := 99) hx hb dX7_does_95 (by decide) ?_
          exact W.iret (v := 1) hx hb hr (fun t ht hW => ⟨⟨1, (i_7, i_8, i_9, i_10, i_11), rfl, trivial, ⟨by rw [ht]; exact hP.sub (ws' := [(x0, .inr (5, [.ref a1, .ref b1, .ref c1, .ref xl, .ref xb, .int kp, .null])), (a1, .inr (3, [.ref a2, .ref a3, .int (nI na)])), (a2, .inl (cyI, 10, .inl fa)), (a3, .inr (2, [.ref a4, .int (nI za)])), (a4, .inl (cyI, 60, .inl ga)), (xl, .inr (0, [.int i_7, .int i_8, .int i_9, .int i_10, .int i_11]))]) [0, 1, 2, 4, 5, 3] rfl, hD.sub (ws' := [(x0, .inr (5, [.ref a1, .ref b1, .ref c1, .ref xl, .ref xb, .int kp, .null])), (a1, .inr (3, [.ref a2, .ref a3, .int (nI na)])), (a2, .inl (cyI, 10, .inl fa)), (a3, .inr (2, [.ref a4, .int (nI za)])), (a4, .inl (cyI, 60, .inl ga)), (xl, .inr (0, [.int i_7, .int i_8, .int i_9, .int i_10, .int i_11]))]) [0, 1, 2, 4, 5, 3] (by decide) rfl⟩⟩, hS.F ht⟩) hS.2.2 dX7_does_99
      · skip
        have ew_12 : p2 = 1 := w_12
        refine W.eq (g2 := F0 m 49 ls (.int 1 :: [])) (by rw [ew_12]) ?_
        refine lv_tableIn (off := 51) (tgt := 100) hx hb dX7_does_49 (by decide) (by decide) (by decide) (by decide) ?_
        refine lv_aload_n hx hb dX7_does_100 rfl (lv_at hl 1 rfl) ?_
        refine va_get (D := (dC, dI)) (ci := 5) (v := .ref xl) (C := RX7) (T := TX7) (N := 7) hx hb hts hnX7_does_X7 hown hK hP 0 rfl rfl 3 (by decide) (hts (.fieldLink RX7 25 "RingMeets" "look" "LRingMeets$Look;") (by decide +kernel)) (fun _ h9 => h9) rfl dX7_does_101 ?_
        refine va_getN (D := (dC, dI)) (ci := 0) (v := .int i_11) (C := RX1) (T := TX1) (N := 5) hx hb hts hnX7_does_X1 hown hK hP 3 rfl rfl 4 (by decide) (hN.fld 12 rfl) (fun _ h9 => h9) rfl dX7_does_104 ?_
        refine lv_if_eq (tgt := 114) hx hb dX7_does_107 (by decide) (fun c_14 => ?_) (fun c_14 => ?_)
        · skip
          have ic_14 := ci_eq (rfl : Int32.toInt i_11 = _) (show Int32.toInt 0 = 0 by decide) c_14
          refine lv_iconst (v := 0) hx hb dX7_does_114 (by decide) ?_
          exact W.iret (v := 0) hx hb hr (fun t ht hW => ⟨⟨0, (i_7, i_8, i_9, i_10, i_11), rfl, trivial, ⟨by rw [ht]; exact hP.sub (ws' := [(x0, .inr (5, [.ref a1, .ref b1, .ref c1, .ref xl, .ref xb, .int kp, .null])), (a1, .inr (3, [.ref a2, .ref a3, .int (nI na)])), (a2, .inl (cyI, 10, .inl fa)), (a3, .inr (2, [.ref a4, .int (nI za)])), (a4, .inl (cyI, 60, .inl ga)), (xl, .inr (0, [.int i_7, .int i_8, .int i_9, .int i_10, .int i_11]))]) [0, 1, 2, 4, 5, 3] rfl, hD.sub (ws' := [(x0, .inr (5, [.ref a1, .ref b1, .ref c1, .ref xl, .ref xb, .int kp, .null])), (a1, .inr (3, [.ref a2, .ref a3, .int (nI na)])), (a2, .inl (cyI, 10, .inl fa)), (a3, .inr (2, [.ref a4, .int (nI za)])), (a4, .inl (cyI, 60, .inl ga)), (xl, .inr (0, [.int i_7, .int i_8, .int i_9, .int i_10, .int i_11]))]) [0, 1, 2, 4, 5, 3] (by decide) rfl⟩⟩, hS.F ht⟩) hS.2.2 dX7_does_115
        · skip
          have ic_14 := ci_ne (rfl : Int32.toInt i_11 = _) (show Int32.toInt 0 = 0 by decide) c_14
          refine lv_iconst (v := 1) hx hb dX7_does_110 (by decide) ?_
          refine lv_goto (tgt := 115) hx hb dX7_does_111 (by decide) ?_
          exact W.iret (v := 1) hx hb hr (fun t ht hW => ⟨⟨1, (i_7, i_8, i_9, i_10, i_11), rfl, trivial, ⟨by rw [ht]; exact hP.sub (ws' := [(x0, .inr (5, [.ref a1, .ref b1, .ref c1, .ref xl, .ref xb, .int kp, .null])), (a1, .inr (3, [.ref a2, .ref a3, .int (nI na)])), (a2, .inl (cyI, 10, .inl fa)), (a3, .inr (2, [.ref a4, .int (nI za)])), (a4, .inl (cyI, 60, .inl ga)), (xl, .inr (0, [.int i_7, .int i_8, .int i_9, .int i_10, .int i_11]))]) [0, 1, 2, 4, 5, 3] rfl, hD.sub (ws' := [(x0, .inr (5, [.ref a1, .ref b1, .ref c1, .ref xl, .ref xb, .int kp, .null])), (a1, .inr (3, [.ref a2, .ref a3, .int (nI na)])), (a2, .inl (cyI, 10, .inl fa)), (a3, .inr (2, [.ref a4, .int (nI za)])), (a4, .inl (cyI, 60, .inl ga)), (xl, .inr (0, [.int i_7, .int i_8, .int i_9, .int i_10, .int i_11]))]) [0, 1, 2, 4, 5, 3] (by decide) rfl⟩⟩, hS.F ht⟩) hS.2.2 dX7_does_115
      · skip
        have ew_12 : p2 = 2 := w_12
        refine W.eq (g2 := F0 m 49 ls (.int 2 :: [])) (by rw [ew_12]) ?_
        refine lv_tableIn (off := 67) (tgt := 116) hx hb dX7_does_49 (by decide) (by decide) (by decide) (by decide) ?_
        refine lv_aload_n hx hb dX7_does_116 rfl (lv_at hl 1 rfl) ?_
        refine va_get (D := (dC, dI)) (ci := 5) (v := .ref xl) (C := RX7) (T := TX7) (N := 7) hx hb hts hnX7_does_X7 hown hK hP 0 rfl rfl 3 (by decide) (hts (.fieldLink RX7 25 "RingMeets" "look" "LRingMeets$Look;") (by decide +kernel)) (fun _ h9 => h9) rfl dX7_does_117 ?_
        refine va_getN (D := (dC, dI)) (ci := 0) (v := .int i_8) (C := RX1) (T := TX1) (N := 5) hx hb hts hnX7_does_X1 hown hK hP 3 rfl rfl 1 (by decide) (hN.fld 8 rfl) (fun _ h9 => h9) rfl dX7_does_120 ?_
        exact W.iret (v := i_8) hx hb hr (fun t ht hW => ⟨⟨i_8, (i_7, i_8, i_9, i_10, i_11), rfl, trivial, ⟨by rw [ht]; exact hP.sub (ws' := [(x0, .inr (5, [.ref a1, .ref b1, .ref c1, .ref xl, .ref xb, .int kp, .null])), (a1, .inr (3, [.ref a2, .ref a3, .int (nI na)])), (a2, .inl (cyI, 10, .inl fa)), (a3, .inr (2, [.ref a4, .int (nI za)])), (a4, .inl (cyI, 60, .inl ga)), (xl, .inr (0, [.int i_7, .int i_8, .int i_9, .int i_10, .int i_11]))]) [0, 1, 2, 4, 5, 3] rfl, hD.sub (ws' := [(x0, .inr (5, [.ref a1, .ref b1, .ref c1, .ref xl, .ref xb, .int kp, .null])), (a1, .inr (3, [.ref a2, .ref a3, .int (nI na)])), (a2, .inl (cyI, 10, .inl fa)), (a3, .inr (2, [.ref a4, .int (nI za)])), (a4, .inl (cyI, 60, .inl ga)), (xl, .inr (0, [.int i_7, .int i_8, .int i_9, .int i_10, .int i_11]))]) [0, 1, 2, 4, 5, 3] (by decide) rfl⟩⟩, hS.F ht⟩) hS.2.2 dX7_does_123
      · skip
        have ew_12 : p2 = 3 := w_12
        refine W.eq (g2 := F0 m 49 ls (.int 3 :: [])) (by rw [ew_12]) ?_
        refine lv_tableIn (off := 75) (tgt := 124) hx hb dX7_does_49 (by decide) (by decide) (by decide) (by decide) ?_
        refine lv_aload_n hx hb dX7_does_124 rfl (lv_at hl 1 rfl) ?_
        refine va_get (D := (dC, dI)) (ci := 5) (v := .ref xl) (C := RX7) (T := TX7) (N := 7) hx hb hts hnX7_does_X7 hown hK hP 0 rfl rfl 3 (by decide) (hts (.fieldLink RX7 25 "RingMeets" "look" "LRingMeets$Look;") (by decide +kernel)) (fun _ h9 => h9) rfl dX7_does_125 ?_
        refine va_getN (D := (dC, dI)) (ci := 0) (v := .int i_9) (C := RX1) (T := TX1) (N := 5) hx hb hts hnX7_does_X1 hown hK hP 3 rfl rfl 2 (by decide) (hN.fld 10 rfl) (fun _ h9 => h9) rfl dX7_does_128 ?_
        exact W.iret (v := i_9) hx hb hr (fun t ht hW => ⟨⟨i_9, (i_7, i_8, i_9, i_10, i_11), rfl, trivial, ⟨by rw [ht]; exact hP.sub (ws' := [(x0, .inr (5, [.ref a1, .ref b1, .ref c1, .ref xl, .ref xb, .int kp, .null])), (a1, .inr (3, [.ref a2, .ref a3, .int (nI na)])), (a2, .inl (cyI, 10, .inl fa)), (a3, .inr (2, [.ref a4, .int (nI za)])), (a4, .inl (cyI, 60, .inl ga)), (xl, .inr (0, [.int i_7, .int i_8, .int i_9, .int i_10, .int i_11]))]) [0, 1, 2, 4, 5, 3] rfl, hD.sub (ws' := [(x0, .inr (5, [.ref a1, .ref b1, .ref c1, .ref xl, .ref xb, .int kp, .null])), (a1, .inr (3, [.ref a2, .ref a3, .int (nI na)])), (a2, .inl (cyI, 10, .inl fa)), (a3, .inr (2, [.ref a4, .int (nI za)])), (a4, .inl (cyI, 60, .inl ga)), (xl, .inr (0, [.int i_7, .int i_8, .int i_9, .int i_10, .int i_11]))]) [0, 1, 2, 4, 5, 3] (by decide) rfl⟩⟩, hS.F ht⟩) hS.2.2 dX7_does_131
      · skip
        have ew_12 : p2 = 4 := w_12
        refine W.eq (g2 := F0 m 49 ls (.int 4 :: [])) (by rw [ew_12]) ?_
        refine lv_tableIn (off := 83) (tgt := 132) hx hb dX7_does_49 (by decide) (by decide) (by decide) (by decide) ?_
        refine lv_aload_n hx hb dX7_does_132 rfl (lv_at hl 1 rfl) ?_
        refine va_get (D := (dC, dI)) (ci := 5) (v := .ref xl) (C := RX7) (T := TX7) (N := 7) hx hb hts hnX7_does_X7 hown hK hP 0 rfl rfl 3 (by decide) (hts (.fieldLink RX7 25 "RingMeets" "look" "LRingMeets$Look;") (by decide +kernel)) (fun _ h9 => h9) rfl dX7_does_133 ?_
        refine va_getN (D := (dC, dI)) (ci := 0) (v := .int i_10) (C := RX1) (T := TX1) (N := 5) hx hb hts hnX7_does_X1 hown hK hP 3 rfl rfl 3 (by decide) (hN.fld 11 rfl) (fun _ h9 => h9) rfl dX7_does_136 ?_
        exact W.iret (v := i_10) hx hb hr (fun t ht hW => ⟨⟨i_10, (i_7, i_8, i_9, i_10, i_11), rfl, trivial, ⟨by rw [ht]; exact hP.sub (ws' := [(x0, .inr (5, [.ref a1, .ref b1, .ref c1, .ref xl, .ref xb, .int kp, .null])), (a1, .inr (3, [.ref a2, .ref a3, .int (nI na)])), (a2, .inl (cyI, 10, .inl fa)), (a3, .inr (2, [.ref a4, .int (nI za)])), (a4, .inl (cyI, 60, .inl ga)), (xl, .inr (0, [.int i_7, .int i_8, .int i_9, .int i_10, .int i_11]))]) [0, 1, 2, 4, 5, 3] rfl, hD.sub (ws' := [(x0, .inr (5, [.ref a1, .ref b1, .ref c1, .ref xl, .ref xb, .int kp, .null])), (a1, .inr (3, [.ref a2, .ref a3, .int (nI na)])), (a2, .inl (cyI, 10, .inl fa)), (a3, .inr (2, [.ref a4, .int (nI za)])), (a4, .inl (cyI, 60, .inl ga)), (xl, .inr (0, [.int i_7, .int i_8, .int i_9, .int i_10, .int i_11]))]) [0, 1, 2, 4, 5, 3] (by decide) rfl⟩⟩, hS.F ht⟩) hS.2.2 dX7_does_139
  · skip
    have ic_3 := ci_eq (rfl : Int32.toInt r_2 = _) (show Int32.toInt 0 = 0 by decide) c_3
    refine lv_iconst (v := (-1)) hx hb dX7_does_16 (by decide) ?_
    exact W.iret (v := (-1)) hx hb hr (fun t ht hW => ⟨⟨(-1), (e0, e1, e2, e3, e4), rfl, trivial, ⟨by rw [ht]; exact hP.sub (ws' := [(x0, .inr (5, [.ref a1, .ref b1, .ref c1, .ref xl, .ref xb, .int kp, .null])), (a1, .inr (3, [.ref a2, .ref a3, .int (nI na)])), (a2, .inl (cyI, 10, .inl fa)), (a3, .inr (2, [.ref a4, .int (nI za)])), (a4, .inl (cyI, 60, .inl ga)), (xl, .inr (0, [.int e0, .int e1, .int e2, .int e3, .int e4]))]) [0, 1, 2, 3, 4, 5] rfl, hD.sub (ws' := [(x0, .inr (5, [.ref a1, .ref b1, .ref c1, .ref xl, .ref xb, .int kp, .null])), (a1, .inr (3, [.ref a2, .ref a3, .int (nI na)])), (a2, .inl (cyI, 10, .inl fa)), (a3, .inr (2, [.ref a4, .int (nI za)])), (a4, .inl (cyI, 60, .inl ga)), (xl, .inr (0, [.int e0, .int e1, .int e2, .int e3, .int e4]))]) [0, 1, 2, 3, 4, 5] (by decide) rfl⟩⟩, hS.F ht⟩) hS.2.2 dX7_does_17

set_option maxHeartbeats 4000000 in
set_option maxRecDepth 100000 in
theorem mX7_does_1 (l : Launch) (dC : Nat → ClassId) (dI : Nat → Nat → Nat) (cyI cyZ : ClassId) (x0 : Nat) (a1 : Nat) (b1 : Nat) (c1 : Nat) (xl : Nat) (xb : Nat) (kp : Int32) (wk : Nat) (a2 : Nat) (a3 : Nat) (a4 : Nat) (na : Nat) (za : Nat) (fa : Nat → Int32) (ga : Nat → Int32) (e0 : Int32) (e1 : Int32) (e2 : Int32) (e3 : Int32) (e4 : Int32) (p1 : Int32) (p2 : Int32) (hna : na ≤ 10) (hza : za ≤ 10) (sz : Nat) : Met l yX7_does wsX7_does ({ frames := 4, cells := 0, slots := 0, locals := 101 }) (bs_W dC dI cyI cyZ [.ref x0, .int p1, .int p2] [(x0, .inr (5, [.ref a1, .ref b1, .ref c1, .ref xl, .ref xb, .int kp, .ref wk])), (a1, .inr (3, [.ref a2, .ref a3, .int (nI na)])), (a2, .inl (cyI, 10, .inl fa)), (a3, .inr (2, [.ref a4, .int (nI za)])), (a4, .inl (cyI, 60, .inl ga)), (xl, .inr (0, [.int e0, .int e1, .int e2, .int e3, .int e4]))] sz) (va_Qi (S := Int32 × Int32 × Int32 × Int32 × Int32) (fun (r : Int32) (q : Int32 × Int32 × Int32 × Int32 × Int32) => True) (fun q t => bs_E dC dI (va_A [(x0, .inr (5, [.ref a1, .ref b1, .ref c1, .ref xl, .ref xb, .int kp, .ref wk])), (a1, .inr (3, [.ref a2, .ref a3, .int (nI na)])), (a2, .inl (cyI, 10, .inl fa)), (a3, .inr (2, [.ref a4, .int (nI za)])), (a4, .inl (cyI, 60, .inl ga)), (xl, .inr (0, [.int e0, .int e1, .int e2, .int e3, .int e4]))] sz) [(x0, .inr (5, [.ref a1, .ref b1, .ref c1, .ref xl, .ref xb, .int kp, .ref wk])), (a1, .inr (3, [.ref a2, .ref a3, .int (nI na)])), (a2, .inl (cyI, 10, .inl fa)), (a3, .inr (2, [.ref a4, .int (nI za)])), (a4, .inl (cyI, 60, .inl ga)), (xl, .inr (0, [.int q.1, .int q.2.1, .int q.2.2.1, .int q.2.2.2.1, .int q.2.2.2.2]))] t) (va_A [(x0, .inr (5, [.ref a1, .ref b1, .ref c1, .ref xl, .ref xb, .int kp, .ref wk])), (a1, .inr (3, [.ref a2, .ref a3, .int (nI na)])), (a2, .inl (cyI, 10, .inl fa)), (a3, .inr (2, [.ref a4, .int (nI za)])), (a4, .inl (cyI, 60, .inl ga)), (xl, .inr (0, [.int e0, .int e1, .int e2, .int e3, .int e4]))] sz)) 0 0 (va_A [(x0, .inr (5, [.ref a1, .ref b1, .ref c1, .ref xl, .ref xb, .int kp, .ref wk])), (a1, .inr (3, [.ref a2, .ref a3, .int (nI na)])), (a2, .inl (cyI, 10, .inl fa)), (a3, .inr (2, [.ref a4, .int (nI za)])), (a4, .inl (cyI, 60, .inl ga)), (xl, .inr (0, [.int e0, .int e1, .int e2, .int e3, .int e4]))] sz) := by
  refine Met.ofW (cc := cX7_does) (maxL := 4) (ret := (some .int)) (by decide) rfl ?_
  intro p e s m args below meth c s₁ B hml hv
  obtain ⟨rfl, hsz, hB, hP, hD0⟩ := hv
  have hK := hB.1
  have hN := hB.2
  have hx := B.exec
  have hb := B.bytes
  have hr := B.returns
  have hts := atoms_spec (ws := wsX7_does) B.pre
  have hown : s.vm.findClass RX7 = some m.cls := findClass_of_methodNamed B.named
  have hlocks := B.notSynchronized
  subst hsz
  have hD := hD0.self (sz := s.heap.size)
  generalize hAe : va_A [(x0, .inr (5, [.ref a1, .ref b1, .ref c1, .ref xl, .ref xb, .int kp, .ref wk])), (a1, .inr (3, [.ref a2, .ref a3, .int (nI na)])), (a2, .inl (cyI, 10, .inl fa)), (a3, .inr (2, [.ref a4, .int (nI za)])), (a4, .inl (cyI, 60, .inl ga)), (xl, .inr (0, [.int e0, .int e1, .int e2, .int e3, .int e4]))] s.heap.size = A at hD ⊢
  have hA : ∀ q : Nat, s.heap.size ≤ q → A q := fun q h => by rw [← hAe]; exact Or.inr h
  have hS : va_S A s.heap s.heap [] := va_S.rf
  have hP : va_P (dC, dI) vwCl [(x0, .inr (5, [.ref a1, .ref b1, .ref c1, .ref xl, .ref xb, .int kp, .ref wk])), (a1, .inr (3, [.ref a2, .ref a3, .int (nI na)])), (a2, .inl (cyI, 10, .inl fa)), (a3, .inr (2, [.ref a4, .int (nI za)])), (a4, .inl (cyI, 60, .inl ga)), (xl, .inr (0, [.int e0, .int e1, .int e2, .int e3, .int e4]))] s.heap := hP
  have hl := lv_entry ([.ref x0, .int p1, .int p2]) (n := 4) (Nat.le_of_ble_eq_true rfl)
  rw [lg_entry_eq]
  generalize (lg_sl ([.ref x0, .int p1, .int p2]) ++ List.replicate (4 - (lg_sl ([.ref x0, .int p1, .int p2])).length) Slot.unset).toArray = ls at hl ⊢
  have hl : lv_has ls 4 [(0, .ref x0), (1, .int p1), (2, .int p2)] := hl
  refine lv_aload_n hx hb dX7_does_0 rfl (lv_at hl 0 rfl) ?_
  refine va_get (D := (dC, dI)) (ci := 5) (v := .ref a1) (C := RX7) (T := TX7) (N := 7) hx hb hts hnX7_does_X7 hown hK hP 0 rfl rfl 0 (by decide) (hts (.fieldLink RX7 10 "RingMeets" "now" "LRingMeets$Scene;") (by decide +kernel)) (fun _ h9 => h9) rfl dX7_does_1 ?_
  refine vp_callSi (va_Run.run (va_runV (As := []) (rest := []) ⟨hx, hb, hml, hown, hts⟩ (mX4_stands l dC dI cyI cyZ a1 a2 a3 na fa (by omega)) (cwV 0 hts gX7_does_X4_stands rfl rfl rfl (by decide +kernel) ⟨Nat.le_of_ble_eq_true rfl, Nat.le_of_ble_eq_true rfl⟩) (bs_RV hB (hP.sub (ws' := [(a1, .inr (3, [.ref a2, .ref a3, .int (nI na)])), (a2, .inl (cyI, 10, .inl fa))]) [1, 2] rfl) 0 rfl rfl) rfl rfl hl.1 rfl (lv_room (Nat.le_of_ble_eq_true rfl)) dX7_does_4 ⟨Nat.le_of_ble_eq_true rfl, Nat.le_of_ble_eq_true rfl⟩)) (fun r_1 hr_1 => ?_)
  refine lv_istore_n (lv' := [(3, .int r_1), (0, .ref x0), (1, .int p1), (2, .int p2)]) hx hb dX7_does_7 rfl hl (by decide) rfl (fun ls hl => ?_)
  refine lv_iload_n hx hb dX7_does_8 rfl (lv_at hl 0 rfl) ?_
  refine lv_iload_n hx hb dX7_does_9 rfl (lv_at hl 2 rfl) ?_
  refine vp_callSi (va_Run.run (va_runS (As := [.int r_1, .int p1]) (rest := []) ⟨hx, hb, hml, hown, hts⟩ (mX5_has l dC dI cyI cyZ r_1 p1 ) (va_cwS 2 hts gX7_does_X5_has rfl rfl rfl (by decide +kernel) ⟨Nat.le_of_ble_eq_true rfl, Nat.le_of_ble_eq_true rfl⟩) (bs_RS hB (hP.sub (ws' := []) [] rfl)) rfl rfl hl.1 rfl (lv_room (Nat.le_of_ble_eq_true rfl)) dX7_does_10 ⟨Nat.le_of_ble_eq_true rfl, Nat.le_of_ble_eq_true rfl⟩)) (fun r_2 hr_2 => ?_)
  refine lv_if_ne (tgt := 18) hx hb dX7_does_13 (by decide) (fun c_3 => ?_) (fun c_3 => ?_)
  · skip
    have ic_3 := ci_ne (rfl : Int32.toInt r_2 = _) (show Int32.toInt 0 = 0 by decide) c_3
    refine lv_aload_n hx hb dX7_does_18 rfl (lv_at hl 1 rfl) ?_
    refine va_get (D := (dC, dI)) (ci := 5) (v := .ref xl) (C := RX7) (T := TX7) (N := 7) hx hb hts hnX7_does_X7 hown hK hP 0 rfl rfl 3 (by decide) (hts (.fieldLink RX7 25 "RingMeets" "look" "LRingMeets$Look;") (by decide +kernel)) (fun _ h9 => h9) rfl dX7_does_19 ?_
    refine lv_aload_n hx hb dX7_does_22 rfl (lv_at hl 1 rfl) ?_
    refine va_get (D := (dC, dI)) (ci := 5) (v := .ref a1) (C := RX7) (T := TX7) (N := 7) hx hb hts hnX7_does_X7 hown hK hP 0 rfl rfl 0 (by decide) (hts (.fieldLink RX7 10 "RingMeets" "now" "LRingMeets$Scene;") (by decide +kernel)) (fun _ h9 => h9) rfl dX7_does_23 ?_
    refine va_getN (D := (dC, dI)) (ci := 3) (v := .ref a3) (C := RX4) (T := TX4) (N := 3) hx hb hts hnX7_does_X4 hown hK hP 1 rfl rfl 1 (by decide) (hN.fld 3 rfl) (fun _ h9 => h9) rfl dX7_does_26 ?_
    refine lv_aload_n hx hb dX7_does_29 rfl (lv_at hl 1 rfl) ?_
    refine va_get (D := (dC, dI)) (ci := 5) (v := .ref a1) (C := RX7) (T := TX7) (N := 7) hx hb hts hnX7_does_X7 hown hK hP 0 rfl rfl 0 (by decide) (hts (.fieldLink RX7 10 "RingMeets" "now" "LRingMeets$Scene;") (by decide +kernel)) (fun _ h9 => h9) rfl dX7_does_30 ?_
    refine va_getN (D := (dC, dI)) (ci := 3) (v := .int (nI na)) (C := RX4) (T := TX4) (N := 3) hx hb hts hnX7_does_X4 hown hK hP 1 rfl rfl 2 (by decide) (hN.fld 4 rfl) (fun _ h9 => h9) rfl dX7_does_33 ?_
    refine lv_iload_n hx hb dX7_does_36 rfl (lv_at hl 0 rfl) ?_
    refine lv_aload_n hx hb dX7_does_37 rfl (lv_at hl 1 rfl) ?_
    refine va_get (D := (dC, dI)) (ci := 5) (v := .ref a1) (C := RX7) (T := TX7) (N := 7) hx hb hts hnX7_does_X7 hown hK hP 0 rfl rfl 0 (by decide) (hts (.fieldLink RX7 10 "RingMeets" "now" "LRingMeets$Scene;") (by decide +kernel)) (fun _ h9 => h9) rfl dX7_does_38 ?_
    refine vp_callSi (va_Run.run (va_runV (As := []) (rest := [.int r_1, .int (nI na), .ref a3, .ref xl]) ⟨hx, hb, hml, hown, hts⟩ (mX4_towers l dC dI cyI cyZ a1 a2 a3 na fa (by omega)) (cwV 0 hts gX7_does_X4_towers rfl rfl rfl (by decide +kernel) ⟨Nat.le_of_ble_eq_true rfl, Nat.le_of_ble_eq_true rfl⟩) (bs_RV hB (hP.sub (ws' := [(a1, .inr (3, [.ref a2, .ref a3, .int (nI na)])), (a2, .inl (cyI, 10, .inl fa))]) [1, 2] rfl) 0 rfl rfl) rfl rfl hl.1 rfl (lv_room (Nat.le_of_ble_eq_true rfl)) dX7_does_41 ⟨Nat.le_of_ble_eq_true rfl, Nat.le_of_ble_eq_true rfl⟩)) (fun r_4 hr_4 => ?_)
    refine lv_iload_n hx hb dX7_does_44 rfl (lv_at hl 2 rfl) ?_
    have f_5 := va_free (wc := [(xl, .inr (0, [.int e0, .int e1, .int e2, .int e3, .int e4])), (a3, .inr (2, [.ref a4, .int (nI za)])), (a4, .inl (cyI, 60, .inl ga))]) hD hS hA [5, 3, 4] rfl
    refine va_callv (va_runV (As := [.ref a3, .int (nI na), .int r_1, .int r_4, .int p1]) (rest := []) ⟨hx, hb, hml, hown, hts⟩ (mX1_from l dC dI cyI cyZ xl e0 e1 e2 e3 e4 a3 a4 za na ga r_1 r_4 p1 (by omega) (by omega) _) (cwV 5 hts gX7_does_X1_from rfl rfl rfl (by decide +kernel) ⟨Nat.le_of_ble_eq_true rfl, Nat.le_of_ble_eq_true rfl⟩) (bs_WV hB (hP.sub (ws' := [(xl, .inr (0, [.int e0, .int e1, .int e2, .int e3, .int e4])), (a3, .inr (2, [.ref a4, .int (nI za)])), (a4, .inl (cyI, 60, .inl ga))]) [5, 3, 4] rfl) (hD.sub (ws' := [(xl, .inr (0, [.int e0, .int e1, .int e2, .int e3, .int e4])), (a3, .inr (2, [.ref a4, .int (nI za)])), (a4, .inl (cyI, 60, .inl ga))]) [5, 3, 4] (by decide) rfl) 0 rfl rfl) rfl rfl hl.1 rfl (lv_room (Nat.le_of_ble_eq_true rfl)) dX7_does_45 ⟨Nat.le_of_ble_eq_true rfl, Nat.le_of_ble_eq_true rfl⟩) hS (fun q _ h => f_5 q h) f_5 (fun uh_6 t H1 locs ht hvm h_6 hB1 hz1 hk1 hS => ?_)
    obtain ⟨i_7, i_8, i_9, i_10, i_11⟩ := uh_6
    obtain ⟨hP1, hD1⟩ := hB1
    rw [ht] at hP1
    obtain ⟨hP, hD⟩ := va_join (wr := [(x0, .inr (5, [.ref a1, .ref b1, .ref c1, .ref xl, .ref xb, .int kp, .ref wk])), (a1, .inr (3, [.ref a2, .ref a3, .int (nI na)])), (a2, .inl (cyI, 10, .inl fa))]) (w1 := [(xl, .inr (0, [.int i_7, .int i_8, .int i_9, .int i_10, .int i_11])), (a3, .inr (2, [.ref a4, .int (nI za)])), (a4, .inl (cyI, 60, .inl ga))]) hP hD [5, 3, 4] [0, 1, 2] rfl rfl (by decide) (by decide) hk1 f_5 hP1 hD1
    generalize H1 = H at hP hS ⊢
    have hP : va_P (dC, dI) vwCl [(x0, .inr (5, [.ref a1, .ref b1, .ref c1, .ref xl, .ref xb, .int kp, .ref wk])), (a1, .inr (3, [.ref a2, .ref a3, .int (nI na)])), (a2, .inl (cyI, 10, .inl fa)), (xl, .inr (0, [.int i_7, .int i_8, .int i_9, .int i_10, .int i_11])), (a3, .inr (2, [.ref a4, .int (nI za)])), (a4, .inl (cyI, 60, .inl ga))] _ := hP
    have hD : va_D A [(x0, .inr (5, [.ref a1, .ref b1, .ref c1, .ref xl, .ref xb, .int kp, .ref wk])), (a1, .inr (3, [.ref a2, .ref a3, .int (nI na)])), (a2, .inl (cyI, 10, .inl fa)), (xl, .inr (0, [.int i_7, .int i_8, .int i_9, .int i_10, .int i_11])), (a3, .inr (2, [.ref a4, .int (nI za)])), (a4, .inl (cyI, 60, .inl ga))] := hD
    refine lv_iload_n hx hb dX7_does_48 rfl (lv_at hl 3 rfl) ?_
    rcases nb_sw p2 4 4 rfl with w_12 | ⟨w_12k, w_12l, w_12⟩
    · skip
      refine lv_tableOut (tgt := 140) hx hb dX7_does_49 w_12 (by decide) ?_
      refine lv_bipush (v := (-2)) hx hb dX7_does_140 (by decide) ?_
      exact W.iret (v := (-2)) hx hb hr (fun t ht hW => ⟨⟨(-2), (i_7, i_8, i_9, i_10, i_11), rfl, trivial, ⟨by rw [ht]; exact hP.sub (ws' := [(x0, .inr (5, [.ref a1, .ref b1, .ref c1, .ref xl, .ref xb, .int kp, .ref wk])), (a1, .inr (3, [.ref a2, .ref a3, .int (nI na)])), (a2, .inl (cyI, 10, .inl fa)), (a3, .inr (2, [.ref a4, .int (nI za)])), (a4, .inl (cyI, 60, .inl ga)), (xl, .inr (0, [.int i_7, .int i_8, .int i_9, .int i_10, .int i_11]))]) [0, 1, 2, 4, 5, 3] rfl, hD.sub (ws' := [(x0, .inr (5, [.ref a1, .ref b1, .ref c1, .ref xl, .ref xb, .int kp, .ref wk])), (a1, .inr (3, [.ref a2, .ref a3, .int (nI na)])), (a2, .inl (cyI, 10, .inl fa)), (a3, .inr (2, [.ref a4, .int (nI za)])), (a4, .inl (cyI, 60, .inl ga)), (xl, .inr (0, [.int i_7, .int i_8, .int i_9, .int i_10, .int i_11]))]) [0, 1, 2, 4, 5, 3] (by decide) rfl⟩⟩, hS.F ht⟩) hS.2.2 dX7_does_142
    · skip
      rcases (show w_12k = 0 ∨ w_12k = 1 ∨ w_12k = 2 ∨ w_12k = 3 ∨ w_12k = 4 by omega) with rfl | rfl | rfl | rfl | rfl
      · skip
        have ew_12 : p2 = 0 := w_12
        refine W.eq (g2 := F0 m 49 ls (.int 0 :: [])) (by rw [ew_12]) ?_
        refine lv_tableIn (off := 35) (tgt := 84) hx hb dX7_does_49 (by decide) (by decide) (by decide) (by decide) ?_
        refine lv_aload_n hx hb dX7_does_84 rfl (lv_at hl 1 rfl) ?_
        refine va_get (D := (dC, dI)) (ci := 5) (v := .ref xl) (C := RX7) (T := TX7) (N := 7) hx hb hts hnX7_does_X7 hown hK hP 0 rfl rfl 3 (by decide) (hts (.fieldLink RX7 25 "RingMeets" "look" "LRingMeets$Look;") (by decide +kernel)) (fun _ h9 => h9) rfl dX7_does_85 ?_
        refine va_getN (D := (dC, dI)) (ci := 0) (v := .int i_7) (C := RX1) (T := TX1) (N := 5) hx hb hts hnX7_does_X1 hown hK hP 3 rfl rfl 0 (by decide) (hN.fld 6 rfl) (fun _ h9 => h9) rfl dX7_does_88 ?_
        refine lv_if_ne (tgt := 98) hx hb dX7_does_91 (by decide) (fun c_13 => ?_) (fun c_13 => ?_)
        · skip
          have ic_13 := ci_ne (rfl : Int32.toInt i_7 = _) (show Int32.toInt 0 = 0 by decide) c_13
          refine lv_iconst (v := 0) hx hb dX7_does_98 (by decide) ?_
          exact W.iret (v := 0) hx hb hr (fun t ht hW => ⟨⟨0, (i_7, i_8, i_9, i_10, i_11), rfl, trivial, ⟨by rw [ht]; exact hP.sub (ws' := [(x0, .inr (5, [.ref a1, .ref b1, .ref c1, .ref xl, .ref xb, .int kp, .ref wk])), (a1, .inr (3, [.ref a2, .ref a3, .int (nI na)])), (a2, .inl (cyI, 10, .inl fa)), (a3, .inr (2, [.ref a4, .int (nI za)])), (a4, .inl (cyI, 60, .inl ga)), (xl, .inr (0, [.int i_7, .int i_8, .int i_9, .int i_10, .int i_11]))]) [0, 1, 2, 4, 5, 3] rfl, hD.sub (ws' := [(x0, .inr (5, [.ref a1, .ref b1, .ref c1, .ref xl, .ref xb, .int kp, .ref wk])), (a1, .inr (3, [.ref a2, .ref a3, .int (nI na)])), (a2, .inl (cyI, 10, .inl fa)), (a3, .inr (2, [.ref a4, .int (nI za)])), (a4, .inl (cyI, 60, .inl ga)), (xl, .inr (0, [.int i_7, .int i_8, .int i_9, .int i_10, .int i_11]))]) [0, 1, 2, 4, 5, 3] (by decide) rfl⟩⟩, hS.F ht⟩) hS.2.2 dX7_does_99
        · skip
          have ic_13 := ci_eq (rfl : Int32.toInt i_7 = _) (show Int32.toInt 0 = 0 by decide) c_13
          refine lv_iconst (v := 1) hx hb dX7_does_94 (by decide) ?_
          refine lv_goto (tgt := 99) hx hb dX7_does_95 (by decide) ?_
          exact W.iret (v := 1) hx hb hr (fun t ht hW => ⟨⟨1, (i_7, i_8, i_9, i_10, i_11), rfl, trivial, ⟨by rw [ht]; exact hP.sub (ws' := [(x0, .inr (5, [.ref a1, .ref b1, .ref c1, .ref xl, .ref xb, .int kp, .ref wk])), (a1, .inr (3, [.ref a2, .ref a3, .int (nI na)])), (a2, .inl (cyI, 10, .inl fa)), (a3, .inr (2, [.ref a4, .int (nI za)])), (a4, .inl (cyI, 60, .inl ga)), (xl, .inr (0, [.int i_7, .int i_8, .int i_9, .int i_10, .int i_11]))]) [0, 1, 2, 4, 5, 3] rfl, hD.sub (ws' := [(x0, .inr (5, [.ref a1, .ref b1, .ref c1, .ref xl, .ref xb, .int kp, .ref wk])), (a1, .inr (3, [.ref a2, .ref a3, .int (nI na)])), (a2, .inl (cyI, 10, .inl fa)), (a3, .inr (2, [.ref a4, .int (nI za)])), (a4, .inl (cyI, 60, .inl ga)), (xl, .inr (0, [.int i_7, .int i_8, .int i_9, .int i_10, .int i_11]))]) [0, 1, 2, 4, 5, 3] (by decide) rfl⟩⟩, hS.F ht⟩) hS.2.2 dX7_does_99
      · skip
        have ew_12 : p2 = 1 := w_12
        refine W.eq (g2 := F0 m 49 ls (.int 1 :: [])) (by rw [ew_12]) ?_
        refine lv_tableIn (off := 51) (tgt := 100) hx hb dX7_does_49 (by decide) (by decide) (by decide) (by decide) ?_
        refine lv_aload_n hx hb dX7_does_100 rfl (lv_at hl 1 rfl) ?_
        refine va_get (D := (dC, dI)) (ci := 5) (v := .ref xl) (C := RX7) (T := TX7) (N := 7) hx hb hts hnX7_does_X7 hown hK hP 0 rfl rfl 3 (by decide) (hts (.fieldLink RX7 25 "RingMeets" "look" "LRingMeets$Look;") (by decide +kernel)) (fun _ h9 => h9) rfl dX7_does_101 ?_
        refine va_getN (D := (dC, dI)) (ci := 0) (v := .int i_11) (C := RX1) (T := TX1) (N := 5) hx hb hts hnX7_does_X1 hown hK hP 3 rfl rfl 4 (by decide) (hN.fld 12 rfl) (fun _ h9 => h9) rfl dX7_does_104 ?_
        refine lv_if_eq (tgt := 114) hx hb dX7_does_107 (by decide) (fun c_14 => ?_) (fun c_14 => ?_)
        · skip
          have ic_14 := ci_eq (rfl : Int32.toInt i_11 = _) (show Int32.toInt 0 = 0 by decide) c_14
          refine lv_iconst (v := 0) hx hb dX7_does_114 (by decide) ?_
          exact W.iret (v := 0) hx hb hr (fun t ht hW => ⟨⟨0, (i_7, i_8, i_9, i_10, i_11), rfl, trivial, ⟨by rw [ht]; exact hP.sub (ws' := [(x0, .inr (5, [.ref a1, .ref b1, .ref c1, .ref xl, .ref xb, .int kp, .ref wk])), (a1, .inr (3, [.ref a2, .ref a3, .int (nI na)])), (a2, .inl (cyI, 10, .inl fa)), (a3, .inr (2, [.ref a4, .int (nI za)])), (a4, .inl (cyI, 60, .inl ga)), (xl, .inr (0, [.int i_7, .int i_8, .int i_9, .int i_10, .int i_11]))]) [0, 1, 2, 4, 5, 3] rfl, hD.sub (ws' := [(x0, .inr (5, [.ref a1, .ref b1, .ref c1, .ref xl, .ref xb, .int kp, .ref wk])), (a1, .inr (3, [.ref a2, .ref a3, .int (nI na)])), (a2, .inl (cyI, 10, .inl fa)), (a3, .inr (2, [.ref a4, .int (nI za)])), (a4, .inl (cyI, 60, .inl ga)), (xl, .inr (0, [.int i_7, .int i_8, .int i_9, .int i_10, .int i_11]))]) [0, 1, 2, 4, 5, 3] (by decide) rfl⟩⟩, hS.F ht⟩) hS.2.2 dX7_does_115
        · skip
          have ic_14 := ci_ne (rfl : Int32.toInt i_11 = _) (show Int32.toInt 0 = 0 by decide) c_14
          refine lv_iconst (v := 1) hx hb dX7_does_110 (by decide) ?_
          refine lv_goto (tgt := 115) hx hb dX7_does_111 (by decide) ?_
          exact W.iret (v := 1) hx hb hr (fun t ht hW => ⟨⟨1, (i_7, i_8, i_9, i_10, i_11), rfl, trivial, ⟨by rw [ht]; exact hP.sub (ws' := [(x0, .inr (5, [.ref a1, .ref b1, .ref c1, .ref xl, .ref xb, .int kp, .ref wk])), (a1, .inr (3, [.ref a2, .ref a3, .int (nI na)])), (a2, .inl (cyI, 10, .inl fa)), (a3, .inr (2, [.ref a4, .int (nI za)])), (a4, .inl (cyI, 60, .inl ga)), (xl, .inr (0, [.int i_7, .int i_8, .int i_9, .int i_10, .int i_11]))]) [0, 1, 2, 4, 5, 3] rfl, hD.sub (ws' := [(x0, .inr (5, [.ref a1, .ref b1, .ref c1, .ref xl, .ref xb, .int kp, .ref wk])), (a1, .inr (3, [.ref a2, .ref a3, .int (nI na)])), (a2, .inl (cyI, 10, .inl fa)), (a3, .inr (2, [.ref a4, .int (nI za)])), (a4, .inl (cyI, 60, .inl ga)), (xl, .inr (0, [.int i_7, .int i_8, .int i_9, .int i_10, .int i_11]))]) [0, 1, 2, 4, 5, 3] (by decide) rfl⟩⟩, hS.F ht⟩) hS.2.2 dX7_does_115
      · skip
        have ew_12 : p2 = 2 := w_12
        refine W.eq (g2 := F0 m 49 ls (.int 2 :: [])) (by rw [ew_12]) ?_
        refine lv_tableIn (off := 67) (tgt := 116) hx hb dX7_does_49 (by decide) (by decide) (by decide) (by decide) ?_
        refine lv_aload_n hx hb dX7_does_116 rfl (lv_at hl 1 rfl) ?_
        refine va_get (D := (dC, dI)) (ci := 5) (v := .ref xl) (C := RX7) (T := TX7) (N := 7) hx hb hts hnX7_does_X7 hown hK hP 0 rfl rfl 3 (by decide) (hts (.fieldLink RX7 25 "RingMeets" "look" "LRingMeets$Look;") (by decide +kernel)) (fun _ h9 => h9) rfl dX7_does_117 ?_
        refine va_getN (D := (dC, dI)) (ci := 0) (v := .int i_8) (C := RX1) (T := TX1) (N := 5) hx hb hts hnX7_does_X1 hown hK hP 3 rfl rfl 1 (by decide) (hN.fld 8 rfl) (fun _ h9 => h9) rfl dX7_does_120 ?_
        exact W.iret (v := i_8) hx hb hr (fun t ht hW => ⟨⟨i_8, (i_7, i_8, i_9, i_10, i_11), rfl, trivial, ⟨by rw [ht]; exact hP.sub (ws' := [(x0, .inr (5, [.ref a1, .ref b1, .ref c1, .ref xl, .ref xb, .int kp, .ref wk])), (a1, .inr (3, [.ref a2, .ref a3, .int (nI na)])), (a2, .inl (cyI, 10, .inl fa)), (a3, .inr (2, [.ref a4, .int (nI za)])), (a4, .inl (cyI, 60, .inl ga)), (xl, .inr (0, [.int i_7, .int i_8, .int i_9, .int i_10, .int i_11]))]) [0, 1, 2, 4, 5, 3] rfl, hD.sub (ws' := [(x0, .inr (5, [.ref a1, .ref b1, .ref c1, .ref xl, .ref xb, .int kp, .ref wk])), (a1, .inr (3, [.ref a2, .ref a3, .int (nI na)])), (a2, .inl (cyI, 10, .inl fa)), (a3, .inr (2, [.ref a4, .int (nI za)])), (a4, .inl (cyI, 60, .inl ga)), (xl, .inr (0, [.int i_7, .int i_8, .int i_9, .int i_10, .int i_11]))]) [0, 1, 2, 4, 5, 3] (by decide) rfl⟩⟩, hS.F ht⟩) hS.2.2 dX7_does_123
      · skip
        have ew_12 : p2 = 3 := w_12
        refine W.eq (g2 := F0 m 49 ls (.int 3 :: [])) (by rw [ew_12]) ?_
        refine lv_tableIn (off := 75) (tgt := 124) hx hb dX7_does_49 (by decide) (by decide) (by decide) (by decide) ?_
        refine lv_aload_n hx hb dX7_does_124 rfl (lv_at hl 1 rfl) ?_
        refine va_get (D := (dC, dI)) (ci := 5) (v := .ref xl) (C := RX7) (T := TX7) (N := 7) hx hb hts hnX7_does_X7 hown hK hP 0 rfl rfl 3 (by decide) (hts (.fieldLink RX7 25 "RingMeets" "look" "LRingMeets$Look;") (by decide +kernel)) (fun _ h9 => h9) rfl dX7_does_125 ?_
        refine va_getN (D := (dC, dI)) (ci := 0) (v := .int i_9) (C := RX1) (T := TX1) (N := 5) hx hb hts hnX7_does_X1 hown hK hP 3 rfl rfl 2 (by decide) (hN.fld 10 rfl) (fun _ h9 => h9) rfl dX7_does_128 ?_
        exact W.iret (v := i_9) hx hb hr (fun t ht hW => ⟨⟨i_9, (i_7, i_8, i_9, i_10, i_11), rfl, trivial, ⟨by rw [ht]; exact hP.sub (ws' := [(x0, .inr (5, [.ref a1, .ref b1, .ref c1, .ref xl, .ref xb, .int kp, .ref wk])), (a1, .inr (3, [.ref a2, .ref a3, .int (nI na)])), (a2, .inl (cyI, 10, .inl fa)), (a3, .inr (2, [.ref a4, .int (nI za)])), (a4, .inl (cyI, 60, .inl ga)), (xl, .inr (0, [.int i_7, .int i_8, .int i_9, .int i_10, .int i_11]))]) [0, 1, 2, 4, 5, 3] rfl, hD.sub (ws' := [(x0, .inr (5, [.ref a1, .ref b1, .ref c1, .ref xl, .ref xb, .int kp, .ref wk])), (a1, .inr (3, [.ref a2, .ref a3, .int (nI na)])), (a2, .inl (cyI, 10, .inl fa)), (a3, .inr (2, [.ref a4, .int (nI za)])), (a4, .inl (cyI, 60, .inl ga)), (xl, .inr (0, [.int i_7, .int i_8, .int i_9, .int i_10, .int i_11]))]) [0, 1, 2, 4, 5, 3] (by decide) rfl⟩⟩, hS.F ht⟩) hS.2.2 dX7_does_131
      · skip
        have ew_12 : p2 = 4 := w_12
        refine W.eq (g2 := F0 m 49 ls (.int 4 :: [])) (by rw [ew_12]) ?_
        refine lv_tableIn (off := 83) (tgt := 132) hx hb dX7_does_49 (by decide) (by decide) (by decide) (by decide) ?_
        refine lv_aload_n hx hb dX7_does_132 rfl (lv_at hl 1 rfl) ?_
        refine va_get (D := (dC, dI)) (ci := 5) (v := .ref xl) (C := RX7) (T := TX7) (N := 7) hx hb hts hnX7_does_X7 hown hK hP 0 rfl rfl 3 (by decide) (hts (.fieldLink RX7 25 "RingMeets" "look" "LRingMeets$Look;") (by decide +kernel)) (fun _ h9 => h9) rfl dX7_does_133 ?_
        refine va_getN (D := (dC, dI)) (ci := 0) (v := .int i_10) (C := RX1) (T := TX1) (N := 5) hx hb hts hnX7_does_X1 hown hK hP 3 rfl rfl 3 (by decide) (hN.fld 11 rfl) (fun _ h9 => h9) rfl dX7_does_136 ?_
        exact W.iret (v := i_10) hx hb hr (fun t ht hW => ⟨⟨i_10, (i_7, i_8, i_9, i_10, i_11), rfl, trivial, ⟨by rw [ht]; exact hP.sub (ws' := [(x0, .inr (5, [.ref a1, .ref b1, .ref c1, .ref xl, .ref xb, .int kp, .ref wk])), (a1, .inr (3, [.ref a2, .ref a3, .int (nI na)])), (a2, .inl (cyI, 10, .inl fa)), (a3, .inr (2, [.ref a4, .int (nI za)])), (a4, .inl (cyI, 60, .inl ga)), (xl, .inr (0, [.int i_7, .int i_8, .int i_9, .int i_10, .int i_11]))]) [0, 1, 2, 4, 5, 3] rfl, hD.sub (ws' := [(x0, .inr (5, [.ref a1, .ref b1, .ref c1, .ref xl, .ref xb, .int kp, .ref wk])), (a1, .inr (3, [.ref a2, .ref a3, .int (nI na)])), (a2, .inl (cyI, 10, .inl fa)), (a3, .inr (2, [.ref a4, .int (nI za)])), (a4, .inl (cyI, 60, .inl ga)), (xl, .inr (0, [.int i_7, .int i_8, .int i_9, .int i_10, .int i_11]))]) [0, 1, 2, 4, 5, 3] (by decide) rfl⟩⟩, hS.F ht⟩) hS.2.2 dX7_does_139
  · skip
    have ic_3 := ci_eq (rfl : Int32.toInt r_2 = _) (show Int32.toInt 0 = 0 by decide) c_3
    refine lv_iconst (v := (-1)) hx hb dX7_does_16 (by decide) ?_
    exact W.iret (v := (-1)) hx hb hr (fun t ht hW => ⟨⟨(-1), (e0, e1, e2, e3, e4), rfl, trivial, ⟨by rw [ht]; exact hP.sub (ws' := [(x0, .inr (5, [.ref a1, .ref b1, .ref c1, .ref xl, .ref xb, .int kp, .ref wk])), (a1, .inr (3, [.ref a2, .ref a3, .int (nI na)])), (a2, .inl (cyI, 10, .inl fa)), (a3, .inr (2, [.ref a4, .int (nI za)])), (a4, .inl (cyI, 60, .inl ga)), (xl, .inr (0, [.int e0, .int e1, .int e2, .int e3, .int e4]))]) [0, 1, 2, 3, 4, 5] rfl, hD.sub (ws' := [(x0, .inr (5, [.ref a1, .ref b1, .ref c1, .ref xl, .ref xb, .int kp, .ref wk])), (a1, .inr (3, [.ref a2, .ref a3, .int (nI na)])), (a2, .inl (cyI, 10, .inl fa)), (a3, .inr (2, [.ref a4, .int (nI za)])), (a4, .inl (cyI, 60, .inl ga)), (xl, .inr (0, [.int e0, .int e1, .int e2, .int e3, .int e4]))]) [0, 1, 2, 3, 4, 5] (by decide) rfl⟩⟩, hS.F ht⟩) hS.2.2 dX7_does_17

theorem hnX7_step_X1 : ∀ w ∈ wsX10, w ∈ wsX7_step := fun _ h => List.mem_cons_of_mem _ (List.mem_append_left _ (List.mem_append_right _ h))
theorem hnX7_step_X4 : ∀ w ∈ wsX40, w ∈ wsX7_step := fun _ h => List.mem_cons_of_mem _ (List.mem_append_left _ (List.mem_append_left _ (List.mem_append_right _ h)))
theorem hnX7_step_X7 : ∀ w ∈ wsX70, w ∈ wsX7_step := fun _ h => List.mem_cons_of_mem _ (List.mem_append_left _ (List.mem_append_left _ (List.mem_append_left _ (List.mem_append_right _ h))))
set_option maxHeartbeats 4000000 in
set_option maxRecDepth 100000 in
theorem mX7_step_0 (l : Launch) (dC : Nat → ClassId) (dI : Nat → Nat → Nat) (cyI cyZ : ClassId) (x0 : Nat) (a1 : Nat) (b1 : Nat) (c1 : Nat) (xl : Nat) (xb : Nat) (kp : Int32) (a2 : Nat) (a3 : Nat) (a4 : Nat) (na : Nat) (za : Nat) (fa : Nat → Int32) (ga : Nat → Int32) (e0 : Int32) (e1 : Int32) (e2 : Int32) (e3 : Int32) (e4 : Int32) (gb_ : Nat → Int32) (p1 : Int32) (hna : na ≤ 10) (hza : za ≤ 10) (sz : Nat) : Met l yX7_step wsX7_step ({ frames := 4, cells := 0, slots := 0, locals := 101 }) (bs_W dC dI cyI cyZ [.ref x0, .int p1] [(x0, .inr (5, [.ref a1, .ref b1, .ref c1, .ref xl, .ref xb, .int kp, .null])), (a1, .inr (3, [.ref a2, .ref a3, .int (nI na)])), (a2, .inl (cyI, 10, .inl fa)), (a3, .inr (2, [.ref a4, .int (nI za)])), (a4, .inl (cyI, 60, .inl ga)), (xl, .inr (0, [.int e0, .int e1, .int e2, .int e3, .int e4])), (xb, .inl (cyI, 10, .inl gb_))] sz) (va_Qi (S := (Nat → Int32) × Int32 × Int32 × Int32 × Int32 × Int32 × (Nat → Int32)) (fun (r : Int32) (q : (Nat → Int32) × Int32 × Int32 × Int32 × Int32 × Int32 × (Nat → Int32)) => True) (fun q t => bs_E dC dI (va_A [(x0, .inr (5, [.ref a1, .ref b1, .ref c1, .ref xl, .ref xb, .int kp, .null])), (a1, .inr (3, [.ref a2, .ref a3, .int (nI na)])), (a2, .inl (cyI, 10, .inl fa)), (a3, .inr (2, [.ref a4, .int (nI za)])), (a4, .inl (cyI, 60, .inl ga)), (xl, .inr (0, [.int e0, .int e1, .int e2, .int e3, .int e4])), (xb, .inl (cyI, 10, .inl gb_))] sz) [(x0, .inr (5, [.ref a1, .ref b1, .ref c1, .ref xl, .ref xb, .int kp, .null])), (a1, .inr (3, [.ref a2, .ref a3, .int (nI na)])), (a2, .inl (cyI, 10, .inl q.1)), (a3, .inr (2, [.ref a4, .int (nI za)])), (a4, .inl (cyI, 60, .inl ga)), (xl, .inr (0, [.int q.2.1, .int q.2.2.1, .int q.2.2.2.1, .int q.2.2.2.2.1, .int q.2.2.2.2.2.1])), (xb, .inl (cyI, 10, .inl q.2.2.2.2.2.2))] t) (va_A [(x0, .inr (5, [.ref a1, .ref b1, .ref c1, .ref xl, .ref xb, .int kp, .null])), (a1, .inr (3, [.ref a2, .ref a3, .int (nI na)])), (a2, .inl (cyI, 10, .inl fa)), (a3, .inr (2, [.ref a4, .int (nI za)])), (a4, .inl (cyI, 60, .inl ga)), (xl, .inr (0, [.int e0, .int e1, .int e2, .int e3, .int e4])), (xb, .inl (cyI, 10, .inl gb_))] sz)) 0 0 (va_A [(x0, .inr (5, [.ref a1, .ref b1, .ref c1, .ref xl, .ref xb, .int kp, .null])), (a1, .inr (3, [.ref a2, .ref a3, .int (nI na)])), (a2, .inl (cyI, 10, .inl fa)), (a3, .inr (2, [.ref a4, .int (nI za)])), (a4, .inl (cyI, 60, .inl ga)), (xl, .inr (0, [.int e0, .int e1, .int e2, .int e3, .int e4])), (xb, .inl (cyI, 10, .inl gb_))] sz) := by
  refine Met.ofW (cc := cX7_step) (maxL := 6) (ret := (some .int)) (by decide) rfl ?_
  intro p e s m args below meth c s₁ B hml hv
  obtain ⟨rfl, hsz, hB, hP, hD0⟩ := hv
  have hK := hB.1
  have hN := hB.2
  have hx := B.exec
  have hb := B.bytes
  have hr := B.returns
  have hts := atoms_spec (ws := wsX7_step) B.pre
  have hown : s.vm.findClass RX7 = some m.cls := findClass_of_methodNamed B.named
  have hlocks := B.notSynchronized
  subst hsz
  have hD := hD0.self (sz := s.heap.size)
  generalize hAe : va_A [(x0, .inr (5, [.ref a1, .ref b1, .ref c1, .ref xl, .ref xb, .int kp, .null])), (a1, .inr (3, [.ref a2, .ref a3, .int (nI na)])), (a2, .inl (cyI, 10, .inl fa)), (a3, .inr (2, [.ref a4, .int (nI za)])), (a4, .inl (cyI, 60, .inl ga)), (xl, .inr (0, [.int e0, .int e1, .int e2, .int e3, .int e4])), (xb, .inl (cyI, 10, .inl gb_))] s.heap.size = A at hD ⊢
  have hA : ∀ q : Nat, s.heap.size ≤ q → A q := fun q h => by rw [← hAe]; exact Or.inr h
  have hS : va_S A s.heap s.heap [] := va_S.rf
  have hP : va_P (dC, dI) vwCl [(x0, .inr (5, [.ref a1, .ref b1, .ref c1, .ref xl, .ref xb, .int kp, .null])), (a1, .inr (3, [.ref a2, .ref a3, .int (nI na)])), (a2, .inl (cyI, 10, .inl fa)), (a3, .inr (2, [.ref a4, .int (nI za)])), (a4, .inl (cyI, 60, .inl ga)), (xl, .inr (0, [.int e0, .int e1, .int e2, .int e3, .int e4])), (xb, .inl (cyI, 10, .inl gb_))] s.heap := hP
  have hl := lv_entry ([.ref x0, .int p1]) (n := 6) (Nat.le_of_ble_eq_true rfl)
  rw [lg_entry_eq]
  generalize (lg_sl ([.ref x0, .int p1]) ++ List.replicate (6 - (lg_sl ([.ref x0, .int p1])).length) Slot.unset).toArray = ls at hl ⊢
  have hl : lv_has ls 6 [(0, .ref x0), (1, .int p1)] := hl
  refine lv_aload_n hx hb dX7_step_0 rfl (lv_at hl 0 rfl) ?_
  refine va_get (D := (dC, dI)) (ci := 5) (v := .ref a1) (C := RX7) (T := TX7) (N := 7) hx hb hts hnX7_step_X7 hown hK hP 0 rfl rfl 0 (by decide) (hts (.fieldLink RX7 10 "RingMeets" "now" "LRingMeets$Scene;") (by decide +kernel)) (fun _ h9 => h9) rfl dX7_step_1 ?_
  refine vp_callSi (va_Run.run (va_runV (As := []) (rest := []) ⟨hx, hb, hml, hown, hts⟩ (mX4_stands l dC dI cyI cyZ a1 a2 a3 na fa (by omega)) (cwV 0 hts gX7_step_X4_stands rfl rfl rfl (by decide +kernel) ⟨Nat.le_of_ble_eq_true rfl, Nat.le_of_ble_eq_true rfl⟩) (bs_RV hB (hP.sub (ws' := [(a1, .inr (3, [.ref a2, .ref a3, .int (nI na)])), (a2, .inl (cyI, 10, .inl fa))]) [1, 2] rfl) 0 rfl rfl) rfl rfl hl.1 rfl (lv_room (Nat.le_of_ble_eq_true rfl)) dX7_step_4 ⟨Nat.le_of_ble_eq_true rfl, Nat.le_of_ble_eq_true rfl⟩)) (fun r_1 hr_1 => ?_)
  refine lv_istore_n (lv' := [(2, .int r_1), (0, .ref x0), (1, .int p1)]) hx hb dX7_step_7 rfl hl (by decide) rfl (fun ls hl => ?_)
  refine lv_iload_n hx hb dX7_step_8 rfl (lv_at hl 2 rfl) ?_
  refine lv_iload_n hx hb dX7_step_9 rfl (lv_at hl 0 rfl) ?_
  refine lv_iconst (v := (-1)) hx hb dX7_step_10 (by decide) ?_
  refine lv_ixor hx hb dX7_step_11 ?_
  refine lv_topi (fun x_2 ex_2 => ?_)
  refine lv_iand hx hb dX7_step_12 ?_
  refine lv_topi (fun x_3 ex_3 => ?_)
  refine lv_if_eq (tgt := 19) hx hb dX7_step_13 (by decide) (fun c_4 => ?_) (fun c_4 => ?_)
  · skip
    have ic_4 := ci_eq (rfl : Int32.toInt x_3 = _) (show Int32.toInt 0 = 0 by decide) c_4
    refine lv_aload_n hx hb dX7_step_19 rfl (lv_at hl 1 rfl) ?_
    refine va_get (D := (dC, dI)) (ci := 5) (v := .ref a1) (C := RX7) (T := TX7) (N := 7) hx hb hts hnX7_step_X7 hown hK hP 0 rfl rfl 0 (by decide) (hts (.fieldLink RX7 10 "RingMeets" "now" "LRingMeets$Scene;") (by decide +kernel)) (fun _ h9 => h9) rfl dX7_step_20 ?_
    refine vp_callSi (va_Run.run (va_runV (As := []) (rest := []) ⟨hx, hb, hml, hown, hts⟩ (mX4_towers l dC dI cyI cyZ a1 a2 a3 na fa (by omega)) (cwV 0 hts gX7_step_X4_towers rfl rfl rfl (by decide +kernel) ⟨Nat.le_of_ble_eq_true rfl, Nat.le_of_ble_eq_true rfl⟩) (bs_RV hB (hP.sub (ws' := [(a1, .inr (3, [.ref a2, .ref a3, .int (nI na)])), (a2, .inl (cyI, 10, .inl fa))]) [1, 2] rfl) 0 rfl rfl) rfl rfl hl.1 rfl (lv_room (Nat.le_of_ble_eq_true rfl)) dX7_step_23 ⟨Nat.le_of_ble_eq_true rfl, Nat.le_of_ble_eq_true rfl⟩)) (fun r_5 hr_5 => ?_)
    refine lv_istore_n (lv' := [(3, .int r_5), (2, .int r_1), (0, .ref x0), (1, .int p1)]) hx hb dX7_step_26 rfl hl (by decide) rfl (fun ls hl => ?_)
    refine lv_iconst (v := 0) hx hb dX7_step_27 (by decide) ?_
    refine lv_istore (lv' := [(4, .int 0), (3, .int r_5), (2, .int r_1), (0, .ref x0), (1, .int p1)]) hx hb dX7_step_28 hl (by decide) rfl (fun ls hl => ?_)
    have L30 : ∀ (n30 : Nat), ∀ (k : Nat) (gb_ : Nat → Int32) (ya yb : Int32), (0 ≤ k ∧ k ≤ 10) → (10 + 1 ≤ k + n30) → ∀ (H : Heap) (locs : List Loc), va_P (dC, dI) vwCl [(x0, .inr (5, [.ref a1, .ref b1, .ref c1, .ref xl, .ref xb, .int kp, .null])), (a1, .inr (3, [.ref a2, .ref a3, .int (nI na)])), (a2, .inl (cyI, 10, .inl fa)), (a3, .inr (2, [.ref a4, .int (nI za)])), (a4, .inl (cyI, 60, .inl ga)), (xl, .inr (0, [.int e0, .int e1, .int e2, .int e3, .int e4])), (xb, .inl (cyI, 10, .inl gb_))] H → va_D A [(x0, .inr (5, [.ref a1, .ref b1, .ref c1, .ref xl, .ref xb, .int kp, .null])), (a1, .inr (3, [.ref a2, .ref a3, .int (nI na)])), (a2, .inl (cyI, 10, .inl fa)), (a3, .inr (2, [.ref a4, .int (nI za)])), (a4, .inl (cyI, 60, .inl ga)), (xl, .inr (0, [.int e0, .int e1, .int e2, .int e3, .int e4])), (xb, .inl (cyI, 10, .inl gb_))] → va_S A s.heap H locs → ∀ (ls : Array Slot), lv_has ls 6 [(0, .ref x0), (1, .int p1), (2, .int ya), (3, .int yb), (4, .int (nI k))] → W p l e (headSpec wsX7_step ({ frames := 4, cells := 0, slots := 0, locals := 101 })).room s m ([.ref x0, .int p1] : List Value).toArray below meth c H locs 0 0 (MQ below (va_Qi (S := (Nat → Int32) × Int32 × Int32 × Int32 × Int32 × Int32 × (Nat → Int32)) (fun (r : Int32) (q : (Nat → Int32) × Int32 × Int32 × Int32 × Int32 × Int32 × (Nat → Int32)) => True) (fun q t => bs_E dC dI A [(x0, .inr (5, [.ref a1, .ref b1, .ref c1, .ref xl, .ref xb, .int kp, .null])), (a1, .inr (3, [.ref a2, .ref a3, .int (nI na)])), (a2, .inl (cyI, 10, .inl q.1)), (a3, .inr (2, [.ref a4, .int (nI za)])), (a4, .inl (cyI, 60, .inl ga)), (xl, .inr (0, [.int q.2.1, .int q.2.2.1, .int q.2.2.2.1, .int q.2.2.2.2.1, .int q.2.2.2.2.2.1])), (xb, .inl (cyI, 10, .inl q.2.2.2.2.2.2))] t) A) ([.ref x0, .int p1] : List Value).toArray s 0 0 A) (F0 m 30 ls []) := by
      intro n30
      induction n30 with
      | zero =>
        intro k gb_ ya yb hk30 hn30 H locs hP hD hS ls hl
        exfalso
        omega
      | succ n30 ih30 =>
        intro k gb_ ya yb hk30 hn30 H locs hP hD hS ls hl
        refine lv_iload hx hb dX7_step_30 (lv_at hl 4 rfl) ?_
        refine lv_bipush (v := 10) hx hb dX7_step_32 (by decide) ?_
        refine lv_icmp_ge (tgt := 51) hx hb dX7_step_34 (by decide) (fun c_6 => ?_) (fun c_6 => ?_)
        · skip
          have ic_6 := ci_le (show Int32.toInt 10 = 10 by decide) (nI_toInt (n := k) (by omega)) c_6
          refine lv_iconst (v := 0) hx hb dX7_step_51 (by decide) ?_
          refine lv_istore (lv' := [(4, .int 0), (0, .ref x0), (1, .int p1), (2, .int ya), (3, .int yb)]) hx hb dX7_step_52 hl (by decide) rfl (fun ls hl => ?_)
          have L54 : ∀ (n54 : Nat), ∀ (k : Nat) (e0 e1 e2 e3 e4 : Int32) (gb_ : Nat → Int32), (0 ≤ k ∧ k ≤ 10) → (10 + 1 ≤ k + n54) → ∀ (H : Heap) (locs : List Loc), va_P (dC, dI) vwCl [(x0, .inr (5, [.ref a1, .ref b1, .ref c1, .ref xl, .ref xb, .int kp, .null])), (a1, .inr (3, [.ref a2, .ref a3, .int (nI na)])), (a2, .inl (cyI, 10, .inl fa)), (a3, .inr (2, [.ref a4, .int (nI za)])), (a4, .inl (cyI, 60, .inl ga)), (xl, .inr (0, [.int e0, .int e1, .int e2, .int e3, .int e4])), (xb, .inl (cyI, 10, .inl gb_))] H → va_D A [(x0, .inr (5, [.ref a1, .ref b1, .ref c1, .ref xl, .ref xb, .int kp, .null])), (a1, .inr (3, [.ref a2, .ref a3, .int (nI na)])), (a2, .inl (cyI, 10, .inl fa)), (a3, .inr (2, [.ref a4, .int (nI za)])), (a4, .inl (cyI, 60, .inl ga)), (xl, .inr (0, [.int e0, .int e1, .int e2, .int e3, .int e4])), (xb, .inl (cyI, 10, .inl gb_))] → va_S A s.heap H locs → ∀ (ls : Array Slot), lv_has ls 6 [(0, .ref x0), (1, .int p1), (2, .int ya), (3, .int yb), (4, .int (nI k))] → W p l e (headSpec wsX7_step ({ frames := 4, cells := 0, slots := 0, locals := 101 })).room s m ([.ref x0, .int p1] : List Value).toArray below meth c H locs 0 0 (MQ below (va_Qi (S := (Nat → Int32) × Int32 × Int32 × Int32 × Int32 × Int32 × (Nat → Int32)) (fun (r : Int32) (q : (Nat → Int32) × Int32 × Int32 × Int32 × Int32 × Int32 × (Nat → Int32)) => True) (fun q t => bs_E dC dI A [(x0, .inr (5, [.ref a1, .ref b1, .ref c1, .ref xl, .ref xb, .int kp, .null])), (a1, .inr (3, [.ref a2, .ref a3, .int (nI na)])), (a2, .inl (cyI, 10, .inl q.1)), (a3, .inr (2, [.ref a4, .int (nI za)])), (a4, .inl (cyI, 60, .inl ga)), (xl, .inr (0, [.int q.2.1, .int q.2.2.1, .int q.2.2.2.1, .int q.2.2.2.2.1, .int q.2.2.2.2.2.1])), (xb, .inl (cyI, 10, .inl q.2.2.2.2.2.2))] t) A) ([.ref x0, .int p1] : List Value).toArray s 0 0 A) (F0 m 54 ls []) := by
            intro n54
            induction n54 with
            | zero =>
              intro k e0 e1 e2 e3 e4 gb_ hk54 hn54 H locs hP hD hS ls hl
              exfalso
              omega
            | succ n54 ih54 =>
              intro k e0 e1 e2 e3 e4 gb_ hk54 hn54 H locs hP hD hS ls hl
              refine lv_iload hx hb dX7_step_54 (lv_at hl 4 rfl) ?_
              refine lv_bipush (v := 10) hx hb dX7_step_56 (by decide) ?_
              refine lv_icmp_ge (tgt := 145) hx hb dX7_step_58 (by decide) (fun c_7 => ?_) (fun c_7 => ?_)
              · skip
                have ic_7 := ci_le (show Int32.toInt 10 = 10 by decide) (nI_toInt (n := k) (by omega)) c_7
                refine lv_iconst (v := 0) hx hb dX7_step_145 (by decide) ?_
                refine lv_istore (lv' := [(4, .int 0), (0, .ref x0), (1, .int p1), (2, .int ya), (3, .int yb)]) hx hb dX7_step_146 hl (by decide) rfl (fun ls hl => ?_)
                have L148 : ∀ (n148 : Nat), ∀ (k : Nat) (fa : Nat → Int32), (0 ≤ k ∧ k ≤ 10) → (10 + 1 ≤ k + n148) → ∀ (H : Heap) (locs : List Loc), va_P (dC, dI) vwCl [(x0, .inr (5, [.ref a1, .ref b1, .ref c1, .ref xl, .ref xb, .int kp, .null])), (a1, .inr (3, [.ref a2, .ref a3, .int (nI na)])), (a2, .inl (cyI, 10, .inl fa)), (a3, .inr (2, [.ref a4, .int (nI za)])), (a4, .inl (cyI, 60, .inl ga)), (xl, .inr (0, [.int e0, .int e1, .int e2, .int e3, .int e4])), (xb, .inl (cyI, 10, .inl gb_))] H → va_D A [(x0, .inr (5, [.ref a1, .ref b1, .ref c1, .ref xl, .ref xb, .int kp, .null])), (a1, .inr (3, [.ref a2, .ref a3, .int (nI na)])), (a2, .inl (cyI, 10, .inl fa)), (a3, .inr (2, [.ref a4, .int (nI za)])), (a4, .inl (cyI, 60, .inl ga)), (xl, .inr (0, [.int e0, .int e1, .int e2, .int e3, .int e4])), (xb, .inl (cyI, 10, .inl gb_))] → va_S A s.heap H locs → ∀ (ls : Array Slot), lv_has ls 6 [(0, .ref x0), (4, .int (nI k))] → W p l e (headSpec wsX7_step ({ frames := 4, cells := 0, slots := 0, locals := 101 })).room s m ([.ref x0, .int p1] : List Value).toArray below meth c H locs 0 0 (MQ below (va_Qi (S := (Nat → Int32) × Int32 × Int32 × Int32 × Int32 × Int32 × (Nat → Int32)) (fun (r : Int32) (q : (Nat → Int32) × Int32 × Int32 × Int32 × Int32 × Int32 × (Nat → Int32)) => True) (fun q t => bs_E dC dI A [(x0, .inr (5, [.ref a1, .ref b1, .ref c1, .ref xl, .ref xb, .int kp, .null])), (a1, .inr (3, [.ref a2, .ref a3, .int (nI na)])), (a2, .inl (cyI, 10, .inl q.1)), (a3, .inr (2, [.ref a4, .int (nI za)])), (a4, .inl (cyI, 60, .inl ga)), (xl, .inr (0, [.int q.2.1, .int q.2.2.1, .int q.2.2.2.1, .int q.2.2.2.2.1, .int q.2.2.2.2.2.1])), (xb, .inl (cyI, 10, .inl q.2.2.2.2.2.2))] t) A) ([.ref x0, .int p1] : List Value).toArray s 0 0 A) (F0 m 148 ls []) := by
                  intro n148
                  induction n148 with
                  | zero =>
                    intro k fa hk148 hn148 H locs hP hD hS ls hl
                    exfalso
                    omega
                  | succ n148 ih148 =>
                    intro k fa hk148 hn148 H locs hP hD hS ls hl
                    refine lv_iload hx hb dX7_step_148 (lv_at hl 1 rfl) ?_
                    refine lv_bipush (v := 10) hx hb dX7_step_150 (by decide) ?_
                    refine lv_icmp_ge (tgt := 177) hx hb dX7_step_152 (by decide) (fun c_8 => ?_) (fun c_8 => ?_)
                    · skip
                      have ic_8 := ci_le (show Int32.toInt 10 = 10 by decide) (nI_toInt (n := k) (by omega)) c_8
                      refine lv_aload_n hx hb dX7_step_177 rfl (lv_at hl 0 rfl) ?_
                      refine va_get (D := (dC, dI)) (ci := 5) (v := .ref a1) (C := RX7) (T := TX7) (N := 7) hx hb hts hnX7_step_X7 hown hK hP 0 rfl rfl 0 (by decide) (hts (.fieldLink RX7 10 "RingMeets" "now" "LRingMeets$Scene;") (by decide +kernel)) (fun _ h9 => h9) rfl dX7_step_178 ?_
                      refine vp_callSi (va_Run.run (va_runV (As := []) (rest := []) ⟨hx, hb, hml, hown, hts⟩ (mX4_stands l dC dI cyI cyZ a1 a2 a3 na fa (by omega)) (cwV 0 hts gX7_step_X4_stands rfl rfl rfl (by decide +kernel) ⟨Nat.le_of_ble_eq_true rfl, Nat.le_of_ble_eq_true rfl⟩) (bs_RV hB (hP.sub (ws' := [(a1, .inr (3, [.ref a2, .ref a3, .int (nI na)])), (a2, .inl (cyI, 10, .inl fa))]) [1, 2] rfl) 0 rfl rfl) rfl rfl hl.1 rfl (lv_room (Nat.le_of_ble_eq_true rfl)) dX7_step_181 ⟨Nat.le_of_ble_eq_true rfl, Nat.le_of_ble_eq_true rfl⟩)) (fun r_9 hr_9 => ?_)
                      refine vp_callSi (va_Run.run (va_runS (As := [.int r_9]) (rest := []) ⟨hx, hb, hml, hown, hts⟩ (mJ6_bitCount_0f7a4 l dC dI cyI cyZ r_9 ) (va_cwS 1 hts gX7_step_J6_bitCount_0f7a4 rfl rfl rfl (by decide +kernel) ⟨Nat.le_of_ble_eq_true rfl, Nat.le_of_ble_eq_true rfl⟩) (bs_RS hB (hP.sub (ws' := []) [] rfl)) rfl rfl hl.1 rfl (lv_room (Nat.le_of_ble_eq_true rfl)) dX7_step_184 ⟨Nat.le_of_ble_eq_true rfl, Nat.le_of_ble_eq_true rfl⟩)) (fun r_10 hr_10 => ?_)
                      exact W.iret (v := r_10) hx hb hr (fun t ht hW => ⟨⟨r_10, (fa, e0, e1, e2, e3, e4, gb_), rfl, trivial, ⟨by rw [ht]; exact hP.sub (ws' := [(x0, .inr (5, [.ref a1, .ref b1, .ref c1, .ref xl, .ref xb, .int kp, .null])), (a1, .inr (3, [.ref a2, .ref a3, .int (nI na)])), (a2, .inl (cyI, 10, .inl fa)), (a3, .inr (2, [.ref a4, .int (nI za)])), (a4, .inl (cyI, 60, .inl ga)), (xl, .inr (0, [.int e0, .int e1, .int e2, .int e3, .int e4])), (xb, .inl (cyI, 10, .inl gb_))]) [0, 1, 2, 3, 4, 5, 6] rfl, hD.sub (ws' := [(x0, .inr (5, [.ref a1, .ref b1, .ref c1, .ref xl, .ref xb, .int kp, .null])), (a1, .inr (3, [.ref a2, .ref a3, .int (nI na)])), (a2, .inl (cyI, 10, .inl fa)), (a3, .inr (2, [.ref a4, .int (nI za)])), (a4, .inl (cyI, 60, .inl ga)), (xl, .inr (0, [.int e0, .int e1, .int e2, .int e3, .int e4])), (xb, .inl (cyI, 10, .inl gb_))]) [0, 1, 2, 3, 4, 5, 6] (by decide) rfl⟩⟩, hS.F ht⟩) hS.2.2 dX7_step_187
                    · skip
                      have ic_8 := ci_nle (show Int32.toInt 10 = 10 by decide) (nI_toInt (n := k) (by omega)) c_8
                      refine lv_aload_n hx hb dX7_step_155 rfl (lv_at hl 0 rfl) ?_
                      refine va_get (D := (dC, dI)) (ci := 5) (v := .ref a1) (C := RX7) (T := TX7) (N := 7) hx hb hts hnX7_step_X7 hown hK hP 0 rfl rfl 0 (by decide) (hts (.fieldLink RX7 10 "RingMeets" "now" "LRingMeets$Scene;") (by decide +kernel)) (fun _ h9 => h9) rfl dX7_step_156 ?_
                      refine lv_iload hx hb dX7_step_159 (lv_at hl 1 rfl) ?_
                      refine lv_aload_n hx hb dX7_step_161 rfl (lv_at hl 0 rfl) ?_
                      refine va_get (D := (dC, dI)) (ci := 5) (v := .ref xb) (C := RX7) (T := TX7) (N := 7) hx hb hts hnX7_step_X7 hown hK hP 0 rfl rfl 4 (by decide) (hts (.fieldLink RX7 29 "RingMeets" "behind" "[I") (by decide +kernel)) (fun _ h9 => h9) rfl dX7_step_162 ?_
                      refine lv_iload hx hb dX7_step_165 (lv_at hl 1 rfl) ?_
                      refine va_iald (D := (dC, dI)) hx hb hK hP 6 0 rfl rfl (vp_in_nI (n := k) (N := 10) (by omega) (by omega)) dX7_step_167 ?_
                      refine lv_topi (fun x_11 ex_11 => ?_)
                      rw [nI_clamp (n := k) (by omega)] at ex_11
                      have f_12 := va_free (wc := [(a1, .inr (3, [.ref a2, .ref a3, .int (nI na)])), (a2, .inl (cyI, 10, .inl fa))]) hD hS hA [1, 2] rfl
                      refine va_callv (va_runV (As := [.int (nI k), .int x_11]) (rest := []) ⟨hx, hb, hml, hown, hts⟩ (mX4_put l dC dI cyI cyZ a1 a2 a3 na fa (nI k) x_11 (by omega) _) (cwV 2 hts gX7_step_X4_put rfl rfl rfl (by decide +kernel) ⟨Nat.le_of_ble_eq_true rfl, Nat.le_of_ble_eq_true rfl⟩) (bs_WV hB (hP.sub (ws' := [(a1, .inr (3, [.ref a2, .ref a3, .int (nI na)])), (a2, .inl (cyI, 10, .inl fa))]) [1, 2] rfl) (hD.sub (ws' := [(a1, .inr (3, [.ref a2, .ref a3, .int (nI na)])), (a2, .inl (cyI, 10, .inl fa))]) [1, 2] (by decide) rfl) 0 rfl rfl) rfl rfl hl.1 rfl (lv_room (Nat.le_of_ble_eq_true rfl)) dX7_step_168 ⟨Nat.le_of_ble_eq_true rfl, Nat.le_of_ble_eq_true rfl⟩) hS (fun q _ h => f_12 q h) f_12 (fun uh_13 t H1 locs ht hvm h_13 hB1 hz1 hk1 hS => ?_)
                      obtain ⟨g_14, rfl⟩ : ∃ z, z = uh_13 := ⟨_, rfl⟩
                      obtain ⟨hP1, hD1⟩ := hB1
                      rw [ht] at hP1
                      obtain ⟨hP, hD⟩ := va_join (wr := [(x0, .inr (5, [.ref a1, .ref b1, .ref c1, .ref xl, .ref xb, .int kp, .null])), (a3, .inr (2, [.ref a4, .int (nI za)])), (a4, .inl (cyI, 60, .inl ga)), (xl, .inr (0, [.int e0, .int e1, .int e2, .int e3, .int e4])), (xb, .inl (cyI, 10, .inl gb_))]) (w1 := [(a1, .inr (3, [.ref a2, .ref a3, .int (nI na)])), (a2, .inl (cyI, 10, .inl g_14))]) hP hD [1, 2] [0, 3, 4, 5, 6] rfl rfl (by decide) (by decide) hk1 f_12 hP1 hD1
                      generalize H1 = H at hP hS ⊢
                      have hP : va_P (dC, dI) vwCl [(x0, .inr (5, [.ref a1, .ref b1, .ref c1, .ref xl, .ref xb, .int kp, .null])), (a3, .inr (2, [.ref a4, .int (nI za)])), (a4, .inl (cyI, 60, .inl ga)), (xl, .inr (0, [.int e0, .int e1, .int e2, .int e3, .int e4])), (xb, .inl (cyI, 10, .inl gb_)), (a1, .inr (3, [.ref a2, .ref a3, .int (nI na)])), (a2, .inl (cyI, 10, .inl g_14))] _ := hP
                      have hD : va_D A [(x0, .inr (5, [.ref a1, .ref b1, .ref c1, .ref xl, .ref xb, .int kp, .null])), (a3, .inr (2, [.ref a4, .int (nI za)])), (a4, .inl (cyI, 60, .inl ga)), (xl, .inr (0, [.int e0, .int e1, .int e2, .int e3, .int e4])), (xb, .inl (cyI, 10, .inl gb_)), (a1, .inr (3, [.ref a2, .ref a3, .int (nI na)])), (a2, .inl (cyI, 10, .inl g_14))] := hD
                      refine lv_iinc (v := (nI (k + 1))) (lv' := [(4, .int (nI (k + 1))), (0, .ref x0)]) hx hb dX7_step_171 hl (k := 1) rfl (nI_1 _) (by decide) rfl (fun ls hl => ?_)
                      refine lv_goto (tgt := 148) hx hb dX7_step_174 (by decide) ?_
                      exact ih148 (k + 1) g_14 ⟨by omega, by omega⟩ (by omega)  _ _ (hP.sub [0, 5, 6, 1, 2, 3, 4] rfl) (hD.sub [0, 5, 6, 1, 2, 3, 4] (by decide) rfl) hS _ (lv_sub hl [1, 0] rfl)
                exact L148 (10 + 1) 0 fa ⟨by omega, by omega⟩ (by omega)  _ _ (hP.sub [0, 1, 2, 3, 4, 5, 6] rfl) (hD.sub [0, 1, 2, 3, 4, 5, 6] (by decide) rfl) hS _ (lv_sub hl [1, 0] rfl)
              · skip
                have ic_7 := ci_nle (show Int32.toInt 10 = 10 by decide) (nI_toInt (n := k) (by omega)) c_7
                refine lv_iload hx hb dX7_step_61 (lv_at hl 4 rfl) ?_
                refine lv_istore (lv' := [(5, .int (nI k)), (0, .ref x0), (1, .int p1), (2, .int ya), (3, .int yb), (4, .int (nI k))]) hx hb dX7_step_63 hl (by decide) rfl (fun ls hl => ?_)
                refine lv_iload_n hx hb dX7_step_65 rfl (lv_at hl 2 rfl) ?_
                refine lv_iload hx hb dX7_step_66 (lv_at hl 5 rfl) ?_
                refine vp_callSi (va_Run.run (va_runS (As := [.int p1, .int (nI k)]) (rest := []) ⟨hx, hb, hml, hown, hts⟩ (mX5_has l dC dI cyI cyZ p1 (nI k) ) (va_cwS 2 hts gX7_step_X5_has rfl rfl rfl (by decide +kernel) ⟨Nat.le_of_ble_eq_true rfl, Nat.le_of_ble_eq_true rfl⟩) (bs_RS hB (hP.sub (ws' := []) [] rfl)) rfl rfl hl.1 rfl (lv_room (Nat.le_of_ble_eq_true rfl)) dX7_step_68 ⟨Nat.le_of_ble_eq_true rfl, Nat.le_of_ble_eq_true rfl⟩)) (fun r_15 hr_15 => ?_)
                refine lv_if_eq (tgt := 108) hx hb dX7_step_71 (by decide) (fun c_16 => ?_) (fun c_16 => ?_)
                · skip
                  have ic_16 := ci_eq (rfl : Int32.toInt r_15 = _) (show Int32.toInt 0 = 0 by decide) c_16
                  refine lv_iload hx hb dX7_step_108 (lv_at hl 0 rfl) ?_
                  refine lv_if_lt (tgt := 139) hx hb dX7_step_110 (by decide) (fun c_17 => ?_) (fun c_17 => ?_)
                  · skip
                    have ic_17 := ci_lt (nI_toInt (n := k) (by omega)) (show Int32.toInt 0 = 0 by decide) c_17
                    refine lv_iinc (v := (nI (k + 1))) (lv' := [(4, .int (nI (k + 1))), (5, .int (nI k)), (0, .ref x0), (1, .int p1), (2, .int ya), (3, .int yb)]) hx hb dX7_step_139 hl (k := 5) rfl (nI_1 _) (by decide) rfl (fun ls hl => ?_)
                    refine lv_goto (tgt := 54) hx hb dX7_step_142 (by decide) ?_
                    exact ih54 (k + 1) e0 e1 e2 e3 e4 gb_ ⟨by omega, by omega⟩ (by omega)  _ _ (hP.sub [0, 1, 2, 3, 4, 5, 6] rfl) (hD.sub [0, 1, 2, 3, 4, 5, 6] (by decide) rfl) hS _ (lv_sub hl [2, 3, 4, 5, 0] rfl)
                  · skip
                    have ic_17 := ci_nlt (nI_toInt (n := k) (by omega)) (show Int32.toInt 0 = 0 by decide) c_17
                    refine lv_iload hx hb dX7_step_113 (lv_at hl 0 rfl) ?_
                    refine lv_bipush (v := 10) hx hb dX7_step_115 (by decide) ?_
                    refine lv_icmp_ge (tgt := 139) hx hb dX7_step_117 (by decide) (fun c_18 => ?_) (fun c_18 => ?_)
                    · skip
                      have ic_18 := ci_le (show Int32.toInt 10 = 10 by decide) (nI_toInt (n := k) (by omega)) c_18
                      refine lv_iinc (v := (nI (k + 1))) (lv' := [(4, .int (nI (k + 1))), (5, .int (nI k)), (0, .ref x0), (1, .int p1), (2, .int ya), (3, .int yb)]) hx hb dX7_step_139 hl (k := 5) rfl (nI_1 _) (by decide) rfl (fun ls hl => ?_)
                      refine lv_goto (tgt := 54) hx hb dX7_step_142 (by decide) ?_
                      exact ih54 (k + 1) e0 e1 e2 e3 e4 gb_ ⟨by omega, by omega⟩ (by omega)  _ _ (hP.sub [0, 1, 2, 3, 4, 5, 6] rfl) (hD.sub [0, 1, 2, 3, 4, 5, 6] (by decide) rfl) hS _ (lv_sub hl [2, 3, 4, 5, 0] rfl)
                    · skip
                      have ic_18 := ci_nle (show Int32.toInt 10 = 10 by decide) (nI_toInt (n := k) (by omega)) c_18
                      refine lv_aload_n hx hb dX7_step_120 rfl (lv_at hl 1 rfl) ?_
                      refine va_get (D := (dC, dI)) (ci := 5) (v := .ref xb) (C := RX7) (T := TX7) (N := 7) hx hb hts hnX7_step_X7 hown hK hP 0 rfl rfl 4 (by decide) (hts (.fieldLink RX7 29 "RingMeets" "behind" "[I") (by decide +kernel)) (fun _ h9 => h9) rfl dX7_step_121 ?_
                      refine lv_iload hx hb dX7_step_124 (lv_at hl 0 rfl) ?_
                      refine lv_dup2_11 hx hb dX7_step_126 rfl rfl ?_
                      refine va_iald (D := (dC, dI)) hx hb hK hP 6 0 rfl rfl (vp_in_nI (n := k) (N := 10) (by omega) (by omega)) dX7_step_127 ?_
                      refine lv_topi (fun x_19 ex_19 => ?_)
                      rw [nI_clamp (n := k) (by omega)] at ex_19
                      refine lv_aload_n hx hb dX7_step_128 rfl (lv_at hl 1 rfl) ?_
                      refine va_get (D := (dC, dI)) (ci := 5) (v := .ref a1) (C := RX7) (T := TX7) (N := 7) hx hb hts hnX7_step_X7 hown hK hP 0 rfl rfl 0 (by decide) (hts (.fieldLink RX7 10 "RingMeets" "now" "LRingMeets$Scene;") (by decide +kernel)) (fun _ h9 => h9) rfl dX7_step_129 ?_
                      refine lv_iload hx hb dX7_step_132 (lv_at hl 5 rfl) ?_
                      refine vp_callSi (va_Run.run (va_runV (As := [.int (nI k)]) (rest := [.int x_19, .int (nI k), .ref xb]) ⟨hx, hb, hml, hown, hts⟩ (mX4_walkersOn l dC dI cyI cyZ a1 a2 a3 na fa (nI k) (by omega)) (cwV 1 hts gX7_step_X4_walkersOn rfl rfl rfl (by decide +kernel) ⟨Nat.le_of_ble_eq_true rfl, Nat.le_of_ble_eq_true rfl⟩) (bs_RV hB (hP.sub (ws' := [(a1, .inr (3, [.ref a2, .ref a3, .int (nI na)])), (a2, .inl (cyI, 10, .inl fa))]) [1, 2] rfl) 0 rfl rfl) rfl rfl hl.1 rfl (lv_room (Nat.le_of_ble_eq_true rfl)) dX7_step_134 ⟨Nat.le_of_ble_eq_true rfl, Nat.le_of_ble_eq_true rfl⟩)) (fun r_20 hr_20 => ?_)
                      refine lv_iadd hx hb dX7_step_137 ?_
                      refine lv_topi (fun x_21 ex_21 => ?_)
                      refine va_iast (D := (dC, dI)) hx hb hK hP hD hS 6 0 rfl rfl (vp_in_nI (n := k) (N := 10) (by omega) (by omega)) dX7_step_138 (fun H locs hP hD hS => ?_)
                      obtain ⟨g_22, eg_22⟩ : ∃ y : Nat → Int32, y = upd gb_ (Int32.toNatClampNeg (nI k)) x_21 := ⟨_, rfl⟩
                      have hP : va_P (dC, dI) vwCl [(x0, .inr (5, [.ref a1, .ref b1, .ref c1, .ref xl, .ref xb, .int kp, .null])), (a1, .inr (3, [.ref a2, .ref a3, .int (nI na)])), (a2, .inl (cyI, 10, .inl fa)), (a3, .inr (2, [.ref a4, .int (nI za)])), (a4, .inl (cyI, 60, .inl ga)), (xl, .inr (0, [.int e0, .int e1, .int e2, .int e3, .int e4])), (xb, .inl (cyI, 10, .inl g_22))] H := by rw [eg_22]; exact hP
                      have hD : va_D A [(x0, .inr (5, [.ref a1, .ref b1, .ref c1, .ref xl, .ref xb, .int kp, .null])), (a1, .inr (3, [.ref a2, .ref a3, .int (nI na)])), (a2, .inl (cyI, 10, .inl fa)), (a3, .inr (2, [.ref a4, .int (nI za)])), (a4, .inl (cyI, 60, .inl ga)), (xl, .inr (0, [.int e0, .int e1, .int e2, .int e3, .int e4])), (xb, .inl (cyI, 10, .inl g_22))] := by rw [eg_22]; exact hD
                      rw [nI_clamp (n := k) (by omega)] at eg_22
                      refine lv_iinc (v := (nI (k + 1))) (lv' := [(4, .int (nI (k + 1))), (5, .int (nI k)), (0, .ref x0), (1, .int p1), (2, .int ya), (3, .int yb)]) hx hb dX7_step_139 hl (k := 5) rfl (nI_1 _) (by decide) rfl (fun ls hl => ?_)
                      refine lv_goto (tgt := 54) hx hb dX7_step_142 (by decide) ?_
                      exact ih54 (k + 1) e0 e1 e2 e3 e4 g_22 ⟨by omega, by omega⟩ (by omega)  _ _ (hP.sub [0, 1, 2, 3, 4, 5, 6] rfl) (hD.sub [0, 1, 2, 3, 4, 5, 6] (by decide) rfl) hS _ (lv_sub hl [2, 3, 4, 5, 0] rfl)
                · skip
                  have ic_16 := ci_ne (rfl : Int32.toInt r_15 = _) (show Int32.toInt 0 = 0 by decide) c_16
                  refine lv_aload_n hx hb dX7_step_74 rfl (lv_at hl 1 rfl) ?_
                  refine va_get (D := (dC, dI)) (ci := 5) (v := .ref xl) (C := RX7) (T := TX7) (N := 7) hx hb hts hnX7_step_X7 hown hK hP 0 rfl rfl 3 (by decide) (hts (.fieldLink RX7 25 "RingMeets" "look" "LRingMeets$Look;") (by decide +kernel)) (fun _ h9 => h9) rfl dX7_step_75 ?_
                  refine lv_aload_n hx hb dX7_step_78 rfl (lv_at hl 1 rfl) ?_
                  refine va_get (D := (dC, dI)) (ci := 5) (v := .ref a1) (C := RX7) (T := TX7) (N := 7) hx hb hts hnX7_step_X7 hown hK hP 0 rfl rfl 0 (by decide) (hts (.fieldLink RX7 10 "RingMeets" "now" "LRingMeets$Scene;") (by decide +kernel)) (fun _ h9 => h9) rfl dX7_step_79 ?_
                  refine va_getN (D := (dC, dI)) (ci := 3) (v := .ref a3) (C := RX4) (T := TX4) (N := 3) hx hb hts hnX7_step_X4 hown hK hP 1 rfl rfl 1 (by decide) (hN.fld 3 rfl) (fun _ h9 => h9) rfl dX7_step_82 ?_
                  refine lv_aload_n hx hb dX7_step_85 rfl (lv_at hl 1 rfl) ?_
                  refine va_get (D := (dC, dI)) (ci := 5) (v := .ref a1) (C := RX7) (T := TX7) (N := 7) hx hb hts hnX7_step_X7 hown hK hP 0 rfl rfl 0 (by decide) (hts (.fieldLink RX7 10 "RingMeets" "now" "LRingMeets$Scene;") (by decide +kernel)) (fun _ h9 => h9) rfl dX7_step_86 ?_
                  refine va_getN (D := (dC, dI)) (ci := 3) (v := .int (nI na)) (C := RX4) (T := TX4) (N := 3) hx hb hts hnX7_step_X4 hown hK hP 1 rfl rfl 2 (by decide) (hN.fld 4 rfl) (fun _ h9 => h9) rfl dX7_step_89 ?_
                  refine lv_iload_n hx hb dX7_step_92 rfl (lv_at hl 3 rfl) ?_
                  refine lv_iload_n hx hb dX7_step_93 rfl (lv_at hl 4 rfl) ?_
                  refine lv_iload hx hb dX7_step_94 (lv_at hl 5 rfl) ?_
                  have f_23 := va_free (wc := [(xl, .inr (0, [.int e0, .int e1, .int e2, .int e3, .int e4])), (a3, .inr (2, [.ref a4, .int (nI za)])), (a4, .inl (cyI, 60, .inl ga))]) hD hS hA [5, 3, 4] rfl
                  refine va_callv (va_runV (As := [.ref a3, .int (nI na), .int ya, .int yb, .int (nI k)]) (rest := []) ⟨hx, hb, hml, hown, hts⟩ (mX1_from l dC dI cyI cyZ xl e0 e1 e2 e3 e4 a3 a4 za na ga ya yb (nI k) (by omega) (by omega) _) (cwV 5 hts gX7_step_X1_from rfl rfl rfl (by decide +kernel) ⟨Nat.le_of_ble_eq_true rfl, Nat.le_of_ble_eq_true rfl⟩) (bs_WV hB (hP.sub (ws' := [(xl, .inr (0, [.int e0, .int e1, .int e2, .int e3, .int e4])), (a3, .inr (2, [.ref a4, .int (nI za)])), (a4, .inl (cyI, 60, .inl ga))]) [5, 3, 4] rfl) (hD.sub (ws' := [(xl, .inr (0, [.int e0, .int e1, .int e2, .int e3, .int e4])), (a3, .inr (2, [.ref a4, .int (nI za)])), (a4, .inl (cyI, 60, .inl ga))]) [5, 3, 4] (by decide) rfl) 0 rfl rfl) rfl rfl hl.1 rfl (lv_room (Nat.le_of_ble_eq_true rfl)) dX7_step_96 ⟨Nat.le_of_ble_eq_true rfl, Nat.le_of_ble_eq_true rfl⟩) hS (fun q _ h => f_23 q h) f_23 (fun uh_24 t H1 locs ht hvm h_24 hB1 hz1 hk1 hS => ?_)
                  obtain ⟨i_25, i_26, i_27, i_28, i_29⟩ := uh_24
                  obtain ⟨hP1, hD1⟩ := hB1
                  rw [ht] at hP1
                  obtain ⟨hP, hD⟩ := va_join (wr := [(x0, .inr (5, [.ref a1, .ref b1, .ref c1, .ref xl, .ref xb, .int kp, .null])), (a1, .inr (3, [.ref a2, .ref a3, .int (nI na)])), (a2, .inl (cyI, 10, .inl fa)), (xb, .inl (cyI, 10, .inl gb_))]) (w1 := [(xl, .inr (0, [.int i_25, .int i_26, .int i_27, .int i_28, .int i_29])), (a3, .inr (2, [.ref a4, .int (nI za)])), (a4, .inl (cyI, 60, .inl ga))]) hP hD [5, 3, 4] [0, 1, 2, 6] rfl rfl (by decide) (by decide) hk1 f_23 hP1 hD1
                  generalize H1 = H at hP hS ⊢
                  have hP : va_P (dC, dI) vwCl [(x0, .inr (5, [.ref a1, .ref b1, .ref c1, .ref xl, .ref xb, .int kp, .null])), (a1, .inr (3, [.ref a2, .ref a3, .int (nI na)])), (a2, .inl (cyI, 10, .inl fa)), (xb, .inl (cyI, 10, .inl gb_)), (xl, .inr (0, [.int i_25, .int i_26, .int i_27, .int i_28, .int i_29])), (a3, .inr (2, [.ref a4, .int (nI za)])), (a4, .inl (cyI, 60, .inl ga))] _ := hP
                  have hD : va_D A [(x0, .inr (5, [.ref a1, .ref b1, .ref c1, .ref xl, .ref xb, .int kp, .null])), (a1, .inr (3, [.ref a2, .ref a3, .int (nI na)])), (a2, .inl (cyI, 10, .inl fa)), (xb, .inl (cyI, 10, .inl gb_)), (xl, .inr (0, [.int i_25, .int i_26, .int i_27, .int i_28, .int i_29])), (a3, .inr (2, [.ref a4, .int (nI za)])), (a4, .inl (cyI, 60, .inl ga))] := hD
                  refine lv_aload_n hx hb dX7_step_99 rfl (lv_at hl 1 rfl) ?_
                  refine va_get (D := (dC, dI)) (ci := 5) (v := .ref xl) (C := RX7) (T := TX7) (N := 7) hx hb hts hnX7_step_X7 hown hK hP 0 rfl rfl 3 (by decide) (hts (.fieldLink RX7 25 "RingMeets" "look" "LRingMeets$Look;") (by decide +kernel)) (fun _ h9 => h9) rfl dX7_step_100 ?_
                  refine va_getN (D := (dC, dI)) (ci := 0) (v := .int i_28) (C := RX1) (T := TX1) (N := 5) hx hb hts hnX7_step_X1 hown hK hP 4 rfl rfl 3 (by decide) (hN.fld 11 rfl) (fun _ h9 => h9) rfl dX7_step_103 ?_
                  refine lv_istore (lv' := [(5, .int i_28), (0, .ref x0), (1, .int p1), (2, .int ya), (3, .int yb), (4, .int (nI k))]) hx hb dX7_step_106 hl (by decide) rfl (fun ls hl => ?_)
                  refine lv_iload hx hb dX7_step_108 (lv_at hl 0 rfl) ?_
                  refine lv_if_lt (tgt := 139) hx hb dX7_step_110 (by decide) (fun c_30 => ?_) (fun c_30 => ?_)
                  · skip
                    have ic_30 := ci_lt (rfl : Int32.toInt i_28 = _) (show Int32.toInt 0 = 0 by decide) c_30
                    refine lv_iinc (v := (nI (k + 1))) (lv' := [(4, .int (nI (k + 1))), (5, .int i_28), (0, .ref x0), (1, .int p1), (2, .int ya), (3, .int yb)]) hx hb dX7_step_139 hl (k := 5) rfl (nI_1 _) (by decide) rfl (fun ls hl => ?_)
                    refine lv_goto (tgt := 54) hx hb dX7_step_142 (by decide) ?_
                    exact ih54 (k + 1) i_25 i_26 i_27 i_28 i_29 gb_ ⟨by omega, by omega⟩ (by omega)  _ _ (hP.sub [0, 1, 2, 5, 6, 4, 3] rfl) (hD.sub [0, 1, 2, 5, 6, 4, 3] (by decide) rfl) hS _ (lv_sub hl [2, 3, 4, 5, 0] rfl)
                  · skip
                    have ic_30 := ci_nlt (rfl : Int32.toInt i_28 = _) (show Int32.toInt 0 = 0 by decide) c_30
                    refine lv_iload hx hb dX7_step_113 (lv_at hl 0 rfl) ?_
                    refine lv_bipush (v := 10) hx hb dX7_step_115 (by decide) ?_
                    refine lv_icmp_ge (tgt := 139) hx hb dX7_step_117 (by decide) (fun c_31 => ?_) (fun c_31 => ?_)
                    · skip
                      have ic_31 := ci_le (show Int32.toInt 10 = 10 by decide) (rfl : Int32.toInt i_28 = _) c_31
                      refine lv_iinc (v := (nI (k + 1))) (lv' := [(4, .int (nI (k + 1))), (5, .int i_28), (0, .ref x0), (1, .int p1), (2, .int ya), (3, .int yb)]) hx hb dX7_step_139 hl (k := 5) rfl (nI_1 _) (by decide) rfl (fun ls hl => ?_)
                      refine lv_goto (tgt := 54) hx hb dX7_step_142 (by decide) ?_
                      exact ih54 (k + 1) i_25 i_26 i_27 i_28 i_29 gb_ ⟨by omega, by omega⟩ (by omega)  _ _ (hP.sub [0, 1, 2, 5, 6, 4, 3] rfl) (hD.sub [0, 1, 2, 5, 6, 4, 3] (by decide) rfl) hS _ (lv_sub hl [2, 3, 4, 5, 0] rfl)
                    · skip
                      have ic_31 := ci_nle (show Int32.toInt 10 = 10 by decide) (rfl : Int32.toInt i_28 = _) c_31
                      refine lv_aload_n hx hb dX7_step_120 rfl (lv_at hl 1 rfl) ?_
                      refine va_get (D := (dC, dI)) (ci := 5) (v := .ref xb) (C := RX7) (T := TX7) (N := 7) hx hb hts hnX7_step_X7 hown hK hP 0 rfl rfl 4 (by decide) (hts (.fieldLink RX7 29 "RingMeets" "behind" "[I") (by decide +kernel)) (fun _ h9 => h9) rfl dX7_step_121 ?_
                      refine lv_iload hx hb dX7_step_124 (lv_at hl 0 rfl) ?_
                      refine lv_dup2_11 hx hb dX7_step_126 rfl rfl ?_
                      refine va_iald (D := (dC, dI)) hx hb hK hP 3 0 rfl rfl (nb_in (x := i_28) (n := 10) (by omega) (by omega)) dX7_step_127 ?_
                      refine lv_topi (fun x_32 ex_32 => ?_)
                      refine lv_aload_n hx hb dX7_step_128 rfl (lv_at hl 1 rfl) ?_
                      refine va_get (D := (dC, dI)) (ci := 5) (v := .ref a1) (C := RX7) (T := TX7) (N := 7) hx hb hts hnX7_step_X7 hown hK hP 0 rfl rfl 0 (by decide) (hts (.fieldLink RX7 10 "RingMeets" "now" "LRingMeets$Scene;") (by decide +kernel)) (fun _ h9 => h9) rfl dX7_step_129 ?_
                      refine lv_iload hx hb dX7_step_132 (lv_at hl 5 rfl) ?_
                      refine vp_callSi (va_Run.run (va_runV (As := [.int (nI k)]) (rest := [.int x_32, .int i_28, .ref xb]) ⟨hx, hb, hml, hown, hts⟩ (mX4_walkersOn l dC dI cyI cyZ a1 a2 a3 na fa (nI k) (by omega)) (cwV 1 hts gX7_step_X4_walkersOn rfl rfl rfl (by decide +kernel) ⟨Nat.le_of_ble_eq_true rfl, Nat.le_of_ble_eq_true rfl⟩) (bs_RV hB (hP.sub (ws' := [(a1, .inr (3, [.ref a2, .ref a3, .int (nI na)])), (a2, .inl (cyI, 10, .inl fa))]) [1, 2] rfl) 0 rfl rfl) rfl rfl hl.1 rfl (lv_room (Nat.le_of_ble_eq_true rfl)) dX7_step_134 ⟨Nat.le_of_ble_eq_true rfl, Nat.le_of_ble_eq_true rfl⟩)) (fun r_33 hr_33 => ?_)
                      refine lv_iadd hx hb dX7_step_137 ?_
                      refine lv_topi (fun x_34 ex_34 => ?_)
                      refine va_iast (D := (dC, dI)) hx hb hK hP hD hS 3 0 rfl rfl (nb_in (x := i_28) (n := 10) (by omega) (by omega)) dX7_step_138 (fun H locs hP hD hS => ?_)
                      obtain ⟨g_35, eg_35⟩ : ∃ y : Nat → Int32, y = upd gb_ (Int32.toNatClampNeg i_28) x_34 := ⟨_, rfl⟩
                      have hP : va_P (dC, dI) vwCl [(x0, .inr (5, [.ref a1, .ref b1, .ref c1, .ref xl, .ref xb, .int kp, .null])), (a1, .inr (3, [.ref a2, .ref a3, .int (nI na)])), (a2, .inl (cyI, 10, .inl fa)), (xb, .inl (cyI, 10, .inl g_35)), (xl, .inr (0, [.int i_25, .int i_26, .int i_27, .int i_28, .int i_29])), (a3, .inr (2, [.ref a4, .int (nI za)])), (a4, .inl (cyI, 60, .inl ga))] H := by rw [eg_35]; exact hP
                      have hD : va_D A [(x0, .inr (5, [.ref a1, .ref b1, .ref c1, .ref xl, .ref xb, .int kp, .null])), (a1, .inr (3, [.ref a2, .ref a3, .int (nI na)])), (a2, .inl (cyI, 10, .inl fa)), (xb, .inl (cyI, 10, .inl g_35)), (xl, .inr (0, [.int i_25, .int i_26, .int i_27, .int i_28, .int i_29])), (a3, .inr (2, [.ref a4, .int (nI za)])), (a4, .inl (cyI, 60, .inl ga))] := by rw [eg_35]; exact hD
                      refine lv_iinc (v := (nI (k + 1))) (lv' := [(4, .int (nI (k + 1))), (5, .int i_28), (0, .ref x0), (1, .int p1), (2, .int ya), (3, .int yb)]) hx hb dX7_step_139 hl (k := 5) rfl (nI_1 _) (by decide) rfl (fun ls hl => ?_)
                      refine lv_goto (tgt := 54) hx hb dX7_step_142 (by decide) ?_
                      exact ih54 (k + 1) i_25 i_26 i_27 i_28 i_29 g_35 ⟨by omega, by omega⟩ (by omega)  _ _ (hP.sub [0, 1, 2, 5, 6, 4, 3] rfl) (hD.sub [0, 1, 2, 5, 6, 4, 3] (by decide) rfl) hS _ (lv_sub hl [2, 3, 4, 5, 0] rfl)
          exact L54 (10 + 1) 0 e0 e1 e2 e3 e4 gb_ ⟨by omega, by omega⟩ (by omega)  _ _ (hP.sub [0, 1, 2, 3, 4, 5, 6] rfl) (hD.sub [0, 1, 2, 3, 4, 5, 6] (by decide) rfl) hS _ (lv_sub hl [1, 2, 3, 4, 0] rfl)
        · skip
          have ic_6 := ci_nle (show Int32.toInt 10 = 10 by decide) (nI_toInt (n := k) (by omega)) c_6
          refine lv_aload_n hx hb dX7_step_37 rfl (lv_at hl 0 rfl) ?_
          refine va_get (D := (dC, dI)) (ci := 5) (v := .ref xb) (C := RX7) (T := TX7) (N := 7) hx hb hts hnX7_step_X7 hown hK hP 0 rfl rfl 4 (by decide) (hts (.fieldLink RX7 29 "RingMeets" "behind" "[I") (by decide +kernel)) (fun _ h9 => h9) rfl dX7_step_38 ?_
          refine lv_iload hx hb dX7_step_41 (lv_at hl 4 rfl) ?_
          refine lv_iconst (v := 0) hx hb dX7_step_43 (by decide) ?_
          refine va_iast (D := (dC, dI)) hx hb hK hP hD hS 6 0 rfl rfl (vp_in_nI (n := k) (N := 10) (by omega) (by omega)) dX7_step_44 (fun H locs hP hD hS => ?_)
          obtain ⟨g_36, eg_36⟩ : ∃ y : Nat → Int32, y = upd gb_ (Int32.toNatClampNeg (nI k)) 0 := ⟨_, rfl⟩
          have hP : va_P (dC, dI) vwCl [(x0, .inr (5, [.ref a1, .ref b1, .ref c1, .ref xl, .ref xb, .int kp, .null])), (a1, .inr (3, [.ref a2, .ref a3, .int (nI na)])), (a2, .inl (cyI, 10, .inl fa)), (a3, .inr (2, [.ref a4, .int (nI za)])), (a4, .inl (cyI, 60, .inl ga)), (xl, .inr (0, [.int e0, .int e1, .int e2, .int e3, .int e4])), (xb, .inl (cyI, 10, .inl g_36))] H := by rw [eg_36]; exact hP
          have hD : va_D A [(x0, .inr (5, [.ref a1, .ref b1, .ref c1, .ref xl, .ref xb, .int kp, .null])), (a1, .inr (3, [.ref a2, .ref a3, .int (nI na)])), (a2, .inl (cyI, 10, .inl fa)), (a3, .inr (2, [.ref a4, .int (nI za)])), (a4, .inl (cyI, 60, .inl ga)), (xl, .inr (0, [.int e0, .int e1, .int e2, .int e3, .int e4])), (xb, .inl (cyI, 10, .inl g_36))] := by rw [eg_36]; exact hD
          rw [nI_clamp (n := k) (by omega)] at eg_36
          refine lv_iinc (v := (nI (k + 1))) (lv' := [(4, .int (nI (k + 1))), (0, .ref x0), (1, .int p1), (2, .int ya), (3, .int yb)]) hx hb dX7_step_45 hl (k := 4) rfl (nI_1 _) (by decide) rfl (fun ls hl => ?_)
          refine lv_goto (tgt := 30) hx hb dX7_step_48 (by decide) ?_
          exact ih30 (k + 1) g_36 ya yb ⟨by omega, by omega⟩ (by omega)  _ _ (hP.sub [0, 1, 2, 3, 4, 5, 6] rfl) (hD.sub [0, 1, 2, 3, 4, 5, 6] (by decide) rfl) hS _ (lv_sub hl [1, 2, 3, 4, 0] rfl)
    exact L30 (10 + 1) 0 gb_ r_1 r_5 ⟨by omega, by omega⟩ (by omega)  _ _ (hP.sub [0, 1, 2, 3, 4, 5, 6] rfl) (hD.sub [0, 1, 2, 3, 4, 5, 6] (by decide) rfl) hS _ (lv_sub hl [3, 4, 2, 1, 0] rfl)
  · skip
    have ic_4 := ci_ne (rfl : Int32.toInt x_3 = _) (show Int32.toInt 0 = 0 by decide) c_4
    refine lv_bipush (v := (-2)) hx hb dX7_step_16 (by decide) ?_
    exact W.iret (v := (-2)) hx hb hr (fun t ht hW => ⟨⟨(-2), (fa, e0, e1, e2, e3, e4, gb_), rfl, trivial, ⟨by rw [ht]; exact hP.sub (ws' := [(x0, .inr (5, [.ref a1, .ref b1, .ref c1, .ref xl, .ref xb, .int kp, .null])), (a1, .inr (3, [.ref a2, .ref a3, .int (nI na)])), (a2, .inl (cyI, 10, .inl fa)), (a3, .inr (2, [.ref a4, .int (nI za)])), (a4, .inl (cyI, 60, .inl ga)), (xl, .inr (0, [.int e0, .int e1, .int e2, .int e3, .int e4])), (xb, .inl (cyI, 10, .inl gb_))]) [0, 1, 2, 3, 4, 5, 6] rfl, hD.sub (ws' := [(x0, .inr (5, [.ref a1, .ref b1, .ref c1, .ref xl, .ref xb, .int kp, .null])), (a1, .inr (3, [.ref a2, .ref a3, .int (nI na)])), (a2, .inl (cyI, 10, .inl fa)), (a3, .inr (2, [.ref a4, .int (nI za)])), (a4, .inl (cyI, 60, .inl ga)), (xl, .inr (0, [.int e0, .int e1, .int e2, .int e3, .int e4])), (xb, .inl (cyI, 10, .inl gb_))]) [0, 1, 2, 3, 4, 5, 6] (by decide) rfl⟩⟩, hS.F ht⟩) hS.2.2 dX7_step_18

set_option maxHeartbeats 4000000 in
set_option maxRecDepth 100000 in
theorem mX7_step_1 (l : Launch) (dC : Nat → ClassId) (dI : Nat → Nat → Nat) (cyI cyZ : ClassId) (x0 : Nat) (a1 : Nat) (b1 : Nat) (c1 : Nat) (xl : Nat) (xb : Nat) (kp : Int32) (wk : Nat) (a2 : Nat) (a3 : Nat) (a4 : Nat) (na : Nat) (za : Nat) (fa : Nat → Int32) (ga : Nat → Int32) (e0 : Int32) (e1 : Int32) (e2 : Int32) (e3 : Int32) (e4 : Int32) (gb_ : Nat → Int32) (p1 : Int32) (hna : na ≤ 10) (hza : za ≤ 10) (sz : Nat) : Met l yX7_step wsX7_step ({ frames := 4, cells := 0, slots := 0, locals := 101 }) (bs_W dC dI cyI cyZ [.ref x0, .int p1] [(x0, .inr (5, [.ref a1, .ref b1, .ref c1, .ref xl, .ref xb, .int kp, .ref wk])), (a1, .inr (3, [.ref a2, .ref a3, .int (nI na)])), (a2, .inl (cyI, 10, .inl fa)), (a3, .inr (2, [.ref a4, .int (nI za)])), (a4, .inl (cyI, 60, .inl ga)), (xl, .inr (0, [.int e0, .int e1, .int e2, .int e3, .int e4])), (xb, .inl (cyI, 10, .inl gb_))] sz) (va_Qi (S := (Nat → Int32) × Int32 × Int32 × Int32 × Int32 × Int32 × (Nat → Int32)) (fun (r : Int32) (q : (Nat → Int32) × Int32 × Int32 × Int32 × Int32 × Int32 × (Nat → Int32)) => True) (fun q t => bs_E dC dI (va_A [(x0, .inr (5, [.ref a1, .ref b1, .ref c1, .ref xl, .ref xb, .int kp, .ref wk])), (a1, .inr (3, [.ref a2, .ref a3, .int (nI na)])), (a2, .inl (cyI, 10, .inl fa)), (a3, .inr (2, [.ref a4, .int (nI za)])), (a4, .inl (cyI, 60, .inl ga)), (xl, .inr (0, [.int e0, .int e1, .int e2, .int e3, .int e4])), (xb, .inl (cyI, 10, .inl gb_))] sz) [(x0, .inr (5, [.ref a1, .ref b1, .ref c1, .ref xl, .ref xb, .int kp, .ref wk])), (a1, .inr (3, [.ref a2, .ref a3, .int (nI na)])), (a2, .inl (cyI, 10, .inl q.1)), (a3, .inr (2, [.ref a4, .int (nI za)])), (a4, .inl (cyI, 60, .inl ga)), (xl, .inr (0, [.int q.2.1, .int q.2.2.1, .int q.2.2.2.1, .int q.2.2.2.2.1, .int q.2.2.2.2.2.1])), (xb, .inl (cyI, 10, .inl q.2.2.2.2.2.2))] t) (va_A [(x0, .inr (5, [.ref a1, .ref b1, .ref c1, .ref xl, .ref xb, .int kp, .ref wk])), (a1, .inr (3, [.ref a2, .ref a3, .int (nI na)])), (a2, .inl (cyI, 10, .inl fa)), (a3, .inr (2, [.ref a4, .int (nI za)])), (a4, .inl (cyI, 60, .inl ga)), (xl, .inr (0, [.int e0, .int e1, .int e2, .int e3, .int e4])), (xb, .inl (cyI, 10, .inl gb_))] sz)) 0 0 (va_A [(x0, .inr (5, [.ref a1, .ref b1, .ref c1, .ref xl, .ref xb, .int kp, .ref wk])), (a1, .inr (3, [.ref a2, .ref a3, .int (nI na)])), (a2, .inl (cyI, 10, .inl fa)), (a3, .inr (2, [.ref a4, .int (nI za)])), (a4, .inl (cyI, 60, .inl ga)), (xl, .inr (0, [.int e0, .int e1, .int e2, .int e3, .int e4])), (xb, .inl (cyI, 10, .inl gb_))] sz) := by
  refine Met.ofW (cc := cX7_step) (maxL := 6) (ret := (some .int)) (by decide) rfl ?_
  intro p e s m args below meth c s₁ B hml hv
  obtain ⟨rfl, hsz, hB, hP, hD0⟩ := hv
  have hK := hB.1
  have hN := hB.2
  have hx := B.exec
  have hb := B.bytes
  have hr := B.returns
  have hts := atoms_spec (ws := wsX7_step) B.pre
  have hown : s.vm.findClass RX7 = some m.cls := findClass_of_methodNamed B.named
  have hlocks := B.notSynchronized
  subst hsz
  have hD := hD0.self (sz := s.heap.size)
  generalize hAe : va_A [(x0, .inr (5, [.ref a1, .ref b1, .ref c1, .ref xl, .ref xb, .int kp, .ref wk])), (a1, .inr (3, [.ref a2, .ref a3, .int (nI na)])), (a2, .inl (cyI, 10, .inl fa)), (a3, .inr (2, [.ref a4, .int (nI za)])), (a4, .inl (cyI, 60, .inl ga)), (xl, .inr (0, [.int e0, .int e1, .int e2, .int e3, .int e4])), (xb, .inl (cyI, 10, .inl gb_))] s.heap.size = A at hD ⊢
  have hA : ∀ q : Nat, s.heap.size ≤ q → A q := fun q h => by rw [← hAe]; exact Or.inr h
  have hS : va_S A s.heap s.heap [] := va_S.rf
  have hP : va_P (dC, dI) vwCl [(x0, .inr (5, [.ref a1, .ref b1, .ref c1, .ref xl, .ref xb, .int kp, .ref wk])), (a1, .inr (3, [.ref a2, .ref a3, .int (nI na)])), (a2, .inl (cyI, 10, .inl fa)), (a3, .inr (2, [.ref a4, .int (nI za)])), (a4, .inl (cyI, 60, .inl ga)), (xl, .inr (0, [.int e0, .int e1, .int e2, .int e3, .int e4])), (xb, .inl (cyI, 10, .inl gb_))] s.heap := hP
  have hl := lv_entry ([.ref x0, .int p1]) (n := 6) (Nat.le_of_ble_eq_true rfl)
  rw [lg_entry_eq]
  generalize (lg_sl ([.ref x0, .int p1]) ++ List.replicate (6 - (lg_sl ([.ref x0, .int p1])).length) Slot.unset).toArray = ls at hl ⊢
  have hl : lv_has ls 6 [(0, .ref x0), (1, .int p1)] := hl
  refine lv_aload_n hx hb dX7_step_0 rfl (lv_at hl 0 rfl) ?_
  refine va_get (D := (dC, dI)) (ci := 5) (v := .ref a1) (C := RX7) (T := TX7) (N := 7) hx hb hts hnX7_step_X7 hown hK hP 0 rfl rfl 0 (by decide) (hts (.fieldLink RX7 10 "RingMeets" "now" "LRingMeets$Scene;") (by decide +kernel)) (fun _ h9 => h9) rfl dX7_step_1 ?_
  refine vp_callSi (va_Run.run (va_runV (As := []) (rest := []) ⟨hx, hb, hml, hown, hts⟩ (mX4_stands l dC dI cyI cyZ a1 a2 a3 na fa (by omega)) (cwV 0 hts gX7_step_X4_stands rfl rfl rfl (by decide +kernel) ⟨Nat.le_of_ble_eq_true rfl, Nat.le_of_ble_eq_true rfl⟩) (bs_RV hB (hP.sub (ws' := [(a1, .inr (3, [.ref a2, .ref a3, .int (nI na)])), (a2, .inl (cyI, 10, .inl fa))]) [1, 2] rfl) 0 rfl rfl) rfl rfl hl.1 rfl (lv_room (Nat.le_of_ble_eq_true rfl)) dX7_step_4 ⟨Nat.le_of_ble_eq_true rfl, Nat.le_of_ble_eq_true rfl⟩)) (fun r_1 hr_1 => ?_)
  refine lv_istore_n (lv' := [(2, .int r_1), (0, .ref x0), (1, .int p1)]) hx hb dX7_step_7 rfl hl (by decide) rfl (fun ls hl => ?_)
  refine lv_iload_n hx hb dX7_step_8 rfl (lv_at hl 2 rfl) ?_
  refine lv_iload_n hx hb dX7_step_9 rfl (lv_at hl 0 rfl) ?_
  refine lv_iconst (v := (-1)) hx hb dX7_step_10 (by decide) ?_
  refine lv_ixor hx hb dX7_step_11 ?_
  refine lv_topi (fun x_2 ex_2 => ?_)
  refine lv_iand hx hb dX7_step_12 ?_
  refine lv_topi (fun x_3 ex_3 => ?_)
  refine lv_if_eq (tgt := 19) hx hb dX7_step_13 (by decide) (fun c_4 => ?_) (fun c_4 => ?_)
  · skip
    have ic_4 := ci_eq (rfl : Int32.toInt x_3 = _) (show Int32.toInt 0 = 0 by decide) c_4
    refine lv_aload_n hx hb dX7_step_19 rfl (lv_at hl 1 rfl) ?_
    refine va_get (D := (dC, dI)) (ci := 5) (v := .ref a1) (C := RX7) (T := TX7) (N := 7) hx hb hts hnX7_step_X7 hown hK hP 0 rfl rfl 0 (by decide) (hts (.fieldLink RX7 10 "RingMeets" "now" "LRingMeets$Scene;") (by decide +kernel)) (fun _ h9 => h9) rfl dX7_step_20 ?_
    refine vp_callSi (va_Run.run (va_runV (As := []) (rest := []) ⟨hx, hb, hml, hown, hts⟩ (mX4_towers l dC dI cyI cyZ a1 a2 a3 na fa (by omega)) (cwV 0 hts gX7_step_X4_towers rfl rfl rfl (by decide +kernel) ⟨Nat.le_of_ble_eq_true rfl, Nat.le_of_ble_eq_true rfl⟩) (bs_RV hB (hP.sub (ws' := [(a1, .inr (3, [.ref a2, .ref a3, .int (nI na)])), (a2, .inl (cyI, 10, .inl fa))]) [1, 2] rfl) 0 rfl rfl) rfl rfl hl.1 rfl (lv_room (Nat.le_of_ble_eq_true rfl)) dX7_step_23 ⟨Nat.le_of_ble_eq_true rfl, Nat.le_of_ble_eq_true rfl⟩)) (fun r_5 hr_5 => ?_)
    refine lv_istore_n (lv' := [(3, .int r_5), (2, .int r_1), (0, .ref x0), (1, .int p1)]) hx hb dX7_step_26 rfl hl (by decide) rfl (fun ls hl => ?_)
    refine lv_iconst (v := 0) hx hb dX7_step_27 (by decide) ?_
    refine lv_istore (lv' := [(4, .int 0), (3, .int r_5), (2, .int r_1), (0, .ref x0), (1, .int p1)]) hx hb dX7_step_28 hl (by decide) rfl (fun ls hl => ?_)
    have L30 : ∀ (n30 : Nat), ∀ (k : Nat) (gb_ : Nat → Int32) (ya yb : Int32), (0 ≤ k ∧ k ≤ 10) → (10 + 1 ≤ k + n30) → ∀ (H : Heap) (locs : List Loc), va_P (dC, dI) vwCl [(x0, .inr (5, [.ref a1, .ref b1, .ref c1, .ref xl, .ref xb, .int kp, .ref wk])), (a1, .inr (3, [.ref a2, .ref a3, .int (nI na)])), (a2, .inl (cyI, 10, .inl fa)), (a3, .inr (2, [.ref a4, .int (nI za)])), (a4, .inl (cyI, 60, .inl ga)), (xl, .inr (0, [.int e0, .int e1, .int e2, .int e3, .int e4])), (xb, .inl (cyI, 10, .inl gb_))] H → va_D A [(x0, .inr (5, [.ref a1, .ref b1, .ref c1, .ref xl, .ref xb, .int kp, .ref wk])), (a1, .inr (3, [.ref a2, .ref a3, .int (nI na)])), (a2, .inl (cyI, 10, .inl fa)), (a3, .inr (2, [.ref a4, .int (nI za)])), (a4, .inl (cyI, 60, .inl ga)), (xl, .inr (0, [.int e0, .int e1, .int e2, .int e3, .int e4])), (xb, .inl (cyI, 10, .inl gb_))] → va_S A s.heap H locs → ∀ (ls : Array Slot), lv_has ls 6 [(0, .ref x0), (1, .int p1), (2, .int ya), (3, .int yb), (4, .int (nI k))] → W p l e (headSpec wsX7_step ({ frames := 4, cells := 0, slots := 0, locals := 101 })).room s m ([.ref x0, .int p1] : List Value).toArray below meth c H locs 0 0 (MQ below (va_Qi (S := (Nat → Int32) × Int32 × Int32 × Int32 × Int32 × Int32 × (Nat → Int32)) (fun (r : Int32) (q : (Nat → Int32) × Int32 × Int32 × Int32 × Int32 × Int32 × (Nat → Int32)) => True) (fun q t => bs_E dC dI A [(x0, .inr (5, [.ref a1, .ref b1, .ref c1, .ref xl, .ref xb, .int kp, .ref wk])), (a1, .inr (3, [.ref a2, .ref a3, .int (nI na)])), (a2, .inl (cyI, 10, .inl q.1)), (a3, .inr (2, [.ref a4, .int (nI za)])), (a4, .inl (cyI, 60, .inl ga)), (xl, .inr (0, [.int q.2.1, .int q.2.2.1, .int q.2.2.2.1, .int q.2.2.2.2.1, .int q.2.2.2.2.2.1])), (xb, .inl (cyI, 10, .inl q.2.2.2.2.2.2))] t) A) ([.ref x0, .int p1] : List Value).toArray s 0 0 A) (F0 m 30 ls []) := by
      intro n30
      induction n30 with
      | zero =>
        intro k gb_ ya yb hk30 hn30 H locs hP hD hS ls hl
        exfalso
        omega
      | succ n30 ih30 =>
        intro k gb_ ya yb hk30 hn30 H locs hP hD hS ls hl
        refine lv_iload hx hb dX7_step_30 (lv_at hl 4 rfl) ?_
        refine lv_bipush (v := 10) hx hb dX7_step_32 (by decide) ?_
        refine lv_icmp_ge (tgt := 51) hx hb dX7_step_34 (by decide) (fun c_6 => ?_) (fun c_6 => ?_)
        · skip
          have ic_6 := ci_le (show Int32.toInt 10 = 10 by decide) (nI_toInt (n := k) (by omega)) c_6
          refine lv_iconst (v := 0) hx hb dX7_step_51 (by decide) ?_
          refine lv_istore (lv' := [(4, .int 0), (0, .ref x0), (1, .int p1), (2, .int ya), (3, .int yb)]) hx hb dX7_step_52 hl (by decide) rfl (fun ls hl => ?_)
          have L54 : ∀ (n54 : Nat), ∀ (k : Nat) (e0 e1 e2 e3 e4 : Int32) (gb_ : Nat → Int32), (0 ≤ k ∧ k ≤ 10) → (10 + 1 ≤ k + n54) → ∀ (H : Heap) (locs : List Loc), va_P (dC, dI) vwCl [(x0, .inr (5, [.ref a1, .ref b1, .ref c1, .ref xl, .ref xb, .int kp, .ref wk])), (a1, .inr (3, [.ref a2, .ref a3, .int (nI na)])), (a2, .inl (cyI, 10, .inl fa)), (a3, .inr (2, [.ref a4, .int (nI za)])), (a4, .inl (cyI, 60, .inl ga)), (xl, .inr (0, [.int e0, .int e1, .int e2, .int e3, .int e4])), (xb, .inl (cyI, 10, .inl gb_))] H → va_D A [(x0, .inr (5, [.ref a1, .ref b1, .ref c1, .ref xl, .ref xb, .int kp, .ref wk])), (a1, .inr (3, [.ref a2, .ref a3, .int (nI na)])), (a2, .inl (cyI, 10, .inl fa)), (a3, .inr (2, [.ref a4, .int (nI za)])), (a4, .inl (cyI, 60, .inl ga)), (xl, .inr (0, [.int e0, .int e1, .int e2, .int e3, .int e4])), (xb, .inl (cyI, 10, .inl gb_))] → va_S A s.heap H locs → ∀ (ls : Array Slot), lv_has ls 6 [(0, .ref x0), (1, .int p1), (2, .int ya), (3, .int yb), (4, .int (nI k))] → W p l e (headSpec wsX7_step ({ frames := 4, cells := 0, slots := 0, locals := 101 })).room s m ([.ref x0, .int p1] : List Value).toArray below meth c H locs 0 0 (MQ below (va_Qi (S := (Nat → Int32) × Int32 × Int32 × Int32 × Int32 × Int32 × (Nat → Int32)) (fun (r : Int32) (q : (Nat → Int32) × Int32 × Int32 × Int32 × Int32 × Int32 × (Nat → Int32)) => True) (fun q t => bs_E dC dI A [(x0, .inr (5, [.ref a1, .ref b1, .ref c1, .ref xl, .ref xb, .int kp, .ref wk])), (a1, .inr (3, [.ref a2, .ref a3, .int (nI na)])), (a2, .inl (cyI, 10, .inl q.1)), (a3, .inr (2, [.ref a4, .int (nI za)])), (a4, .inl (cyI, 60, .inl ga)), (xl, .inr (0, [.int q.2.1, .int q.2.2.1, .int q.2.2.2.1, .int q.2.2.2.2.1, .int q.2.2.2.2.2.1])), (xb, .inl (cyI, 10, .inl q.2.2.2.2.2.2))] t) A) ([.ref x0, .int p1] : List Value).toArray s 0 0 A) (F0 m 54 ls []) := by
            intro n54
            induction n54 with
            | zero =>
              intro k e0 e1 e2 e3 e4 gb_ hk54 hn54 H locs hP hD hS ls hl
              exfalso
              omega
            | succ n54 ih54 =>
              intro k e0 e1 e2 e3 e4 gb_ hk54 hn54 H locs hP hD hS ls hl
              refine lv_iload hx hb dX7_step_54 (lv_at hl 4 rfl) ?_
              refine lv_bipush (v := 10) hx hb dX7_step_56 (by decide) ?_
              refine lv_icmp_ge (tgt := 145) hx hb dX7_step_58 (by decide) (fun c_7 => ?_) (fun c_7 => ?_)
              · skip
                have ic_7 := ci_le (show Int32.toInt 10 = 10 by decide) (nI_toInt (n := k) (by omega)) c_7
                refine lv_iconst (v := 0) hx hb dX7_step_145 (by decide) ?_
                refine lv_istore (lv' := [(4, .int 0), (0, .ref x0), (1, .int p1), (2, .int ya), (3, .int yb)]) hx hb dX7_step_146 hl (by decide) rfl (fun ls hl => ?_)
                have L148 : ∀ (n148 : Nat), ∀ (k : Nat) (fa : Nat → Int32), (0 ≤ k ∧ k ≤ 10) → (10 + 1 ≤ k + n148) → ∀ (H : Heap) (locs : List Loc), va_P (dC, dI) vwCl [(x0, .inr (5, [.ref a1, .ref b1, .ref c1, .ref xl, .ref xb, .int kp, .ref wk])), (a1, .inr (3, [.ref a2, .ref a3, .int (nI na)])), (a2, .inl (cyI, 10, .inl fa)), (a3, .inr (2, [.ref a4, .int (nI za)])), (a4, .inl (cyI, 60, .inl ga)), (xl, .inr (0, [.int e0, .int e1, .int e2, .int e3, .int e4])), (xb, .inl (cyI, 10, .inl gb_))] H → va_D A [(x0, .inr (5, [.ref a1, .ref b1, .ref c1, .ref xl, .ref xb, .int kp, .ref wk])), (a1, .inr (3, [.ref a2, .ref a3, .int (nI na)])), (a2, .inl (cyI, 10, .inl fa)), (a3, .inr (2, [.ref a4, .int (nI za)])), (a4, .inl (cyI, 60, .inl ga)), (xl, .inr (0, [.int e0, .int e1, .int e2, .int e3, .int e4])), (xb, .inl (cyI, 10, .inl gb_))] → va_S A s.heap H locs → ∀ (ls : Array Slot), lv_has ls 6 [(0, .ref x0), (4, .int (nI k))] → W p l e (headSpec wsX7_step ({ frames := 4, cells := 0, slots := 0, locals := 101 })).room s m ([.ref x0, .int p1] : List Value).toArray below meth c H locs 0 0 (MQ below (va_Qi (S := (Nat → Int32) × Int32 × Int32 × Int32 × Int32 × Int32 × (Nat → Int32)) (fun (r : Int32) (q : (Nat → Int32) × Int32 × Int32 × Int32 × Int32 × Int32 × (Nat → Int32)) => True) (fun q t => bs_E dC dI A [(x0, .inr (5, [.ref a1, .ref b1, .ref c1, .ref xl, .ref xb, .int kp, .ref wk])), (a1, .inr (3, [.ref a2, .ref a3, .int (nI na)])), (a2, .inl (cyI, 10, .inl q.1)), (a3, .inr (2, [.ref a4, .int (nI za)])), (a4, .inl (cyI, 60, .inl ga)), (xl, .inr (0, [.int q.2.1, .int q.2.2.1, .int q.2.2.2.1, .int q.2.2.2.2.1, .int q.2.2.2.2.2.1])), (xb, .inl (cyI, 10, .inl q.2.2.2.2.2.2))] t) A) ([.ref x0, .int p1] : List Value).toArray s 0 0 A) (F0 m 148 ls []) := by
                  intro n148
                  induction n148 with
                  | zero =>
                    intro k fa hk148 hn148 H locs hP hD hS ls hl
                    exfalso
                    omega
                  | succ n148 ih148 =>
                    intro k fa hk148 hn148 H locs hP hD hS ls hl
                    refine lv_iload hx hb dX7_step_148 (lv_at hl 1 rfl) ?_
                    refine lv_bipush (v := 10) hx hb dX7_step_150 (by decide) ?_
                    refine lv_icmp_ge (tgt := 177) hx hb dX7_step_152 (by decide) (fun c_8 => ?_) (fun c_8 => ?_)
                    · skip
                      have ic_8 := ci_le (show Int32.toInt 10 = 10 by decide) (nI_toInt (n := k) (by omega)) c_8
                      refine lv_aload_n hx hb dX7_step_177 rfl (lv_at hl 0 rfl) ?_
                      refine va_get (D := (dC, dI)) (ci := 5) (v := .ref a1) (C := RX7) (T := TX7) (N := 7) hx hb hts hnX7_step_X7 hown hK hP 0 rfl rfl 0 (by decide) (hts (.fieldLink RX7 10 "RingMeets" "now" "LRingMeets$Scene;") (by decide +kernel)) (fun _ h9 => h9) rfl dX7_step_178 ?_
                      refine vp_callSi (va_Run.run (va_runV (As := []) (rest := []) ⟨hx, hb, hml, hown, hts⟩ (mX4_stands l dC dI cyI cyZ a1 a2 a3 na fa (by omega)) (cwV 0 hts gX7_step_X4_stands rfl rfl rfl (by decide +kernel) ⟨Nat.le_of_ble_eq_true rfl, Nat.le_of_ble_eq_true rfl⟩) (bs_RV hB (hP.sub (ws' := [(a1, .inr (3, [.ref a2, .ref a3, .int (nI na)])), (a2, .inl (cyI, 10, .inl fa))]) [1, 2] rfl) 0 rfl rfl) rfl rfl hl.1 rfl (lv_room (Nat.le_of_ble_eq_true rfl)) dX7_step_181 ⟨Nat.le_of_ble_eq_true rfl, Nat.le_of_ble_eq_true rfl⟩)) (fun r_9 hr_9 => ?_)
                      refine vp_callSi (va_Run.run (va_runS (As := [.int r_9]) (rest := []) ⟨hx, hb, hml, hown, hts⟩ (mJ6_bitCount_0f7a4 l dC dI cyI cyZ r_9 ) (va_cwS 1 hts gX7_step_J6_bitCount_0f7a4 rfl rfl rfl (by decide +kernel) ⟨Nat.le_of_ble_eq_true rfl, Nat.le_of_ble_eq_true rfl⟩) (bs_RS hB (hP.sub (ws' := []) [] rfl)) rfl rfl hl.1 rfl (lv_room (Nat.le_of_ble_eq_true rfl)) dX7_step_184 ⟨Nat.le_of_ble_eq_true rfl, Nat.le_of_ble_eq_true rfl⟩)) (fun r_10 hr_10 => ?_)
                      exact W.iret (v := r_10) hx hb hr (fun t ht hW => ⟨⟨r_10, (fa, e0, e1, e2, e3, e4, gb_), rfl, trivial, ⟨by rw [ht]; exact hP.sub (ws' := [(x0, .inr (5, [.ref a1, .ref b1, .ref c1, .ref xl, .ref xb, .int kp, .ref wk])), (a1, .inr (3, [.ref a2, .ref a3, .int (nI na)])), (a2, .inl (cyI, 10, .inl fa)), (a3, .inr (2, [.ref a4, .int (nI za)])), (a4, .inl (cyI, 60, .inl ga)), (xl, .inr (0, [.int e0, .int e1, .int e2, .int e3, .int e4])), (xb, .inl (cyI, 10, .inl gb_))]) [0, 1, 2, 3, 4, 5, 6] rfl, hD.sub (ws' := [(x0, .inr (5, [.ref a1, .ref b1, .ref c1, .ref xl, .ref xb, .int kp, .ref wk])), (a1, .inr (3, [.ref a2, .ref a3, .int (nI na)])), (a2, .inl (cyI, 10, .inl fa)), (a3, .inr (2, [.ref a4, .int (nI za)])), (a4, .inl (cyI, 60, .inl ga)), (xl, .inr (0, [.int e0, .int e1, .int e2, .int e3, .int e4])), (xb, .inl (cyI, 10, .inl gb_))]) [0, 1, 2, 3, 4, 5, 6] (by decide) rfl⟩⟩, hS.F ht⟩) hS.2.2 dX7_step_187
                    · skip
                      have ic_8 := ci_nle (show Int32.toInt 10 = 10 by decide) (nI_toInt (n := k) (by omega)) c_8
                      refine lv_aload_n hx hb dX7_step_155 rfl (lv_at hl 0 rfl) ?_
                      refine va_get (D := (dC, dI)) (ci := 5) (v := .ref a1) (C := RX7) (T := TX7) (N := 7) hx hb hts hnX7_step_X7 hown hK hP 0 rfl rfl 0 (by decide) (hts (.fieldLink RX7 10 "RingMeets" "now" "LRingMeets$Scene;") (by decide +kernel)) (fun _ h9 => h9) rfl dX7_step_156 ?_
                      refine lv_iload hx hb dX7_step_159 (lv_at hl 1 rfl) ?_
                      refine lv_aload_n hx hb dX7_step_161 rfl (lv_at hl 0 rfl) ?_
                      refine va_get (D := (dC, dI)) (ci := 5) (v := .ref xb) (C := RX7) (T := TX7) (N := 7) hx hb hts hnX7_step_X7 hown hK hP 0 rfl rfl 4 (by decide) (hts (.fieldLink RX7 29 "RingMeets" "behind" "[I") (by decide +kernel)) (fun _ h9 => h9) rfl dX7_step_162 ?_
                      refine lv_iload hx hb dX7_step_165 (lv_at hl 1 rfl) ?_
                      refine va_iald (D := (dC, dI)) hx hb hK hP 6 0 rfl rfl (vp_in_nI (n := k) (N := 10) (by omega) (by omega)) dX7_step_167 ?_
                      refine lv_topi (fun x_11 ex_11 => ?_)
                      rw [nI_clamp (n := k) (by omega)] at ex_11
                      have f_12 := va_free (wc := [(a1, .inr (3, [.ref a2, .ref a3, .int (nI na)])), (a2, .inl (cyI, 10, .inl fa))]) hD hS hA [1, 2] rfl
                      refine va_callv (va_runV (As := [.int (nI k), .int x_11]) (rest := []) ⟨hx, hb, hml, hown, hts⟩ (mX4_put l dC dI cyI cyZ a1 a2 a3 na fa (nI k) x_11 (by omega) _) (cwV 2 hts gX7_step_X4_put rfl rfl rfl (by decide +kernel) ⟨Nat.le_of_ble_eq_true rfl, Nat.le_of_ble_eq_true rfl⟩) (bs_WV hB (hP.sub (ws' := [(a1, .inr (3, [.ref a2, .ref a3, .int (nI na)])), (a2, .inl (cyI, 10, .inl fa))]) [1, 2] rfl) (hD.sub (ws' := [(a1, .inr (3, [.ref a2, .ref a3, .int (nI na)])), (a2, .inl (cyI, 10, .inl fa))]) [1, 2] (by decide) rfl) 0 rfl rfl) rfl rfl hl.1 rfl (lv_room (Nat.le_of_ble_eq_true rfl)) dX7_step_168 ⟨Nat.le_of_ble_eq_true rfl, Nat.le_of_ble_eq_true rfl⟩) hS (fun q _ h => f_12 q h) f_12 (fun uh_13 t H1 locs ht hvm h_13 hB1 hz1 hk1 hS => ?_)
                      obtain ⟨g_14, rfl⟩ : ∃ z, z = uh_13 := ⟨_, rfl⟩
                      obtain ⟨hP1, hD1⟩ := hB1
                      rw [ht] at hP1
                      obtain ⟨hP, hD⟩ := va_join (wr := [(x0, .inr (5, [.ref a1, .ref b1, .ref c1, .ref xl, .ref xb, .int kp, .ref wk])), (a3, .inr (2, [.ref a4, .int (nI za)])), (a4, .inl (cyI, 60, .inl ga)), (xl, .inr (0, [.int e0, .int e1, .int e2, .int e3, .int e4])), (xb, .inl (cyI, 10, .inl gb_))]) (w1 := [(a1, .inr (3, [.ref a2, .ref a3, .int (nI na)])), (a2, .inl (cyI, 10, .inl g_14))]) hP hD [1, 2] [0, 3, 4, 5, 6] rfl rfl (by decide) (by decide) hk1 f_12 hP1 hD1
                      generalize H1 = H at hP hS ⊢
                      have hP : va_P (dC, dI) vwCl [(x0, .inr (5, [.ref a1, .ref b1, .ref c1, .ref xl, .ref xb, .int kp, .ref wk])), (a3, .inr (2, [.ref a4, .int (nI za)])), (a4, .inl (cyI, 60, .inl ga)), (xl, .inr (0, [.int e0, .int e1, .int e2, .int e3, .int e4])), (xb, .inl (cyI, 10, .inl gb_)), (a1, .inr (3, [.ref a2, .ref a3, .int (nI na)])), (a2, .inl (cyI, 10, .inl g_14))] _ := hP
                      have hD : va_D A [(x0, .inr (5, [.ref a1, .ref b1, .ref c1, .ref xl, .ref xb, .int kp, .ref wk])), (a3, .inr (2, [.ref a4, .int (nI za)])), (a4, .inl (cyI, 60, .inl ga)), (xl, .inr (0, [.int e0, .int e1, .int e2, .int e3, .int e4])), (xb, .inl (cyI, 10, .inl gb_)), (a1, .inr (3, [.ref a2, .ref a3, .int (nI na)])), (a2, .inl (cyI, 10, .inl g_14))] := hD
                      refine lv_iinc (v := (nI (k + 1))) (lv' := [(4, .int (nI (k + 1))), (0, .ref x0)]) hx hb dX7_step_171 hl (k := 1) rfl (nI_1 _) (by decide) rfl (fun ls hl => ?_)
                      refine lv_goto (tgt := 148) hx hb dX7_step_174 (by decide) ?_
                      exact ih148 (k + 1) g_14 ⟨by omega, by omega⟩ (by omega)  _ _ (hP.sub [0, 5, 6, 1, 2, 3, 4] rfl) (hD.sub [0, 5, 6, 1, 2, 3, 4] (by decide) rfl) hS _ (lv_sub hl [1, 0] rfl)
                exact L148 (10 + 1) 0 fa ⟨by omega, by omega⟩ (by omega)  _ _ (hP.sub [0, 1, 2, 3, 4, 5, 6] rfl) (hD.sub [0, 1, 2, 3, 4, 5, 6] (by decide) rfl) hS _ (lv_sub hl [1, 0] rfl)
              · skip
                have ic_7 := ci_nle (show Int32.toInt 10 = 10 by decide) (nI_toInt (n := k) (by omega)) c_7
                refine lv_iload hx hb dX7_step_61 (lv_at hl 4 rfl) ?_
                refine lv_istore (lv' := [(5, .int (nI k)), (0, .ref x0), (1, .int p1), (2, .int ya), (3, .int yb), (4, .int (nI k))]) hx hb dX7_step_63 hl (by decide) rfl (fun ls hl => ?_)
                refine lv_iload_n hx hb dX7_step_65 rfl (lv_at hl 2 rfl) ?_
                refine lv_iload hx hb dX7_step_66 (lv_at hl 5 rfl) ?_
                refine vp_callSi (va_Run.run (va_runS (As := [.int p1, .int (nI k)]) (rest := []) ⟨hx, hb, hml, hown, hts⟩ (mX5_has l dC dI cyI cyZ p1 (nI k) ) (va_cwS 2 hts gX7_step_X5_has rfl rfl rfl (by decide +kernel) ⟨Nat.le_of_ble_eq_true rfl, Nat.le_of_ble_eq_true rfl⟩) (bs_RS hB (hP.sub (ws' := []) [] rfl)) rfl rfl hl.1 rfl (lv_room (Nat.le_of_ble_eq_true rfl)) dX7_step_68 ⟨Nat.le_of_ble_eq_true rfl, Nat.le_of_ble_eq_true rfl⟩)) (fun r_15 hr_15 => ?_)
                refine lv_if_eq (tgt := 108) hx hb dX7_step_71 (by decide) (fun c_16 => ?_) (fun c_16 => ?_)
                · skip
                  have ic_16 := ci_eq (rfl : Int32.toInt r_15 = _) (show Int32.toInt 0 = 0 by decide) c_16
                  refine lv_iload hx hb dX7_step_108 (lv_at hl 0 rfl) ?_
                  refine lv_if_lt (tgt := 139) hx hb dX7_step_110 (by decide) (fun c_17 => ?_) (fun c_17 => ?_)
                  · skip
                    have ic_17 := ci_lt (nI_toInt (n := k) (by omega)) (show Int32.toInt 0 = 0 by decide) c_17
                    refine lv_iinc (v := (nI (k + 1))) (lv' := [(4, .int (nI (k + 1))), (5, .int (nI k)), (0, .ref x0), (1, .int p1), (2, .int ya), (3, .int yb)]) hx hb dX7_step_139 hl (k := 5) rfl (nI_1 _) (by decide) rfl (fun ls hl => ?_)
                    refine lv_goto (tgt := 54) hx hb dX7_step_142 (by decide) ?_
                    exact ih54 (k + 1) e0 e1 e2 e3 e4 gb_ ⟨by omega, by omega⟩ (by omega)  _ _ (hP.sub [0, 1, 2, 3, 4, 5, 6] rfl) (hD.sub [0, 1, 2, 3, 4, 5, 6] (by decide) rfl) hS _ (lv_sub hl [2, 3, 4, 5, 0] rfl)
                  · skip
                    have ic_17 := ci_nlt (nI_toInt (n := k) (by omega)) (show Int32.toInt 0 = 0 by decide) c_17
                    refine lv_iload hx hb dX7_step_113 (lv_at hl 0 rfl) ?_
                    refine lv_bipush (v := 10) hx hb dX7_step_115 (by decide) ?_
                    refine lv_icmp_ge (tgt := 139) hx hb dX7_step_117 (by decide) (fun c_18 => ?_) (fun c_18 => ?_)
                    · skip
                      have ic_18 := ci_le (show Int32.toInt 10 = 10 by decide) (nI_toInt (n := k) (by omega)) c_18
                      refine lv_iinc (v := (nI (k + 1))) (lv' := [(4, .int (nI (k + 1))), (5, .int (nI k)), (0, .ref x0), (1, .int p1), (2, .int ya), (3, .int yb)]) hx hb dX7_step_139 hl (k := 5) rfl (nI_1 _) (by decide) rfl (fun ls hl => ?_)
                      refine lv_goto (tgt := 54) hx hb dX7_step_142 (by decide) ?_
                      exact ih54 (k + 1) e0 e1 e2 e3 e4 gb_ ⟨by omega, by omega⟩ (by omega)  _ _ (hP.sub [0, 1, 2, 3, 4, 5, 6] rfl) (hD.sub [0, 1, 2, 3, 4, 5, 6] (by decide) rfl) hS _ (lv_sub hl [2, 3, 4, 5, 0] rfl)
                    · skip
                      have ic_18 := ci_nle (show Int32.toInt 10 = 10 by decide) (nI_toInt (n := k) (by omega)) c_18
                      refine lv_aload_n hx hb dX7_step_120 rfl (lv_at hl 1 rfl) ?_
                      refine va_get (D := (dC, dI)) (ci := 5) (v := .ref xb) (C := RX7) (T := TX7) (N := 7) hx hb hts hnX7_step_X7 hown hK hP 0 rfl rfl 4 (by decide) (hts (.fieldLink RX7 29 "RingMeets" "behind" "[I") (by decide +kernel)) (fun _ h9 => h9) rfl dX7_step_121 ?_
                      refine lv_iload hx hb dX7_step_124 (lv_at hl 0 rfl) ?_
                      refine lv_dup2_11 hx hb dX7_step_126 rfl rfl ?_
                      refine va_iald (D := (dC, dI)) hx hb hK hP 6 0 rfl rfl (vp_in_nI (n := k) (N := 10) (by omega) (by omega)) dX7_step_127 ?_
                      refine lv_topi (fun x_19 ex_19 => ?_)
                      rw [nI_clamp (n := k) (by omega)] at ex_19
                      refine lv_aload_n hx hb dX7_step_128 rfl (lv_at hl 1 rfl) ?_
                      refine va_get (D := (dC, dI)) (ci := 5) (v := .ref a1) (C := RX7) (T := TX7) (N := 7) hx hb hts hnX7_step_X7 hown hK hP 0 rfl rfl 0 (by decide) (hts (.fieldLink RX7 10 "RingMeets" "now" "LRingMeets$Scene;") (by decide +kernel)) (fun _ h9 => h9) rfl dX7_step_129 ?_
                      refine lv_iload hx hb dX7_step_132 (lv_at hl 5 rfl) ?_
                      refine vp_callSi (va_Run.run (va_runV (As := [.int (nI k)]) (rest := [.int x_19, .int (nI k), .ref xb]) ⟨hx, hb, hml, hown, hts⟩ (mX4_walkersOn l dC dI cyI cyZ a1 a2 a3 na fa (nI k) (by omega)) (cwV 1 hts gX7_step_X4_walkersOn rfl rfl rfl (by decide +kernel) ⟨Nat.le_of_ble_eq_true rfl, Nat.le_of_ble_eq_true rfl⟩) (bs_RV hB (hP.sub (ws' := [(a1, .inr (3, [.ref a2, .ref a3, .int (nI na)])), (a2, .inl (cyI, 10, .inl fa))]) [1, 2] rfl) 0 rfl rfl) rfl rfl hl.1 rfl (lv_room (Nat.le_of_ble_eq_true rfl)) dX7_step_134 ⟨Nat.le_of_ble_eq_true rfl, Nat.le_of_ble_eq_true rfl⟩)) (fun r_20 hr_20 => ?_)
                      refine lv_iadd hx hb dX7_step_137 ?_
                      refine lv_topi (fun x_21 ex_21 => ?_)
                      refine va_iast (D := (dC, dI)) hx hb hK hP hD hS 6 0 rfl rfl (vp_in_nI (n := k) (N := 10) (by omega) (by omega)) dX7_step_138 (fun H locs hP hD hS => ?_)
                      obtain ⟨g_22, eg_22⟩ : ∃ y : Nat → Int32, y = upd gb_ (Int32.toNatClampNeg (nI k)) x_21 := ⟨_, rfl⟩
                      have hP : va_P (dC, dI) vwCl [(x0, .inr (5, [.ref a1, .ref b1, .ref c1, .ref xl, .ref xb, .int kp, .ref wk])), (a1, .inr (3, [.ref a2, .ref a3, .int (nI na)])), (a2, .inl (cyI, 10, .inl fa)), (a3, .inr (2, [.ref a4, .int (nI za)])), (a4, .inl (cyI, 60, .inl ga)), (xl, .inr (0, [.int e0, .int e1, .int e2, .int e3, .int e4])), (xb, .inl (cyI, 10, .inl g_22))] H := by rw [eg_22]; exact hP
                      have hD : va_D A [(x0, .inr (5, [.ref a1, .ref b1, .ref c1, .ref xl, .ref xb, .int kp, .ref wk])), (a1, .inr (3, [.ref a2, .ref a3, .int (nI na)])), (a2, .inl (cyI, 10, .inl fa)), (a3, .inr (2, [.ref a4, .int (nI za)])), (a4, .inl (cyI, 60, .inl ga)), (xl, .inr (0, [.int e0, .int e1, .int e2, .int e3, .int e4])), (xb, .inl (cyI, 10, .inl g_22))] := by rw [eg_22]; exact hD
                      rw [nI_clamp (n := k) (by omega)] at eg_22
                      refine lv_iinc (v := (nI (k + 1))) (lv' := [(4, .int (nI (k + 1))), (5, .int (nI k)), (0, .ref x0), (1, .int p1), (2, .int ya), (3, .int yb)]) hx hb dX7_step_139 hl (k := 5) rfl (nI_1 _) (by decide) rfl (fun ls hl => ?_)
                      refine lv_goto (tgt := 54) hx hb dX7_step_142 (by decide) ?_
                      exact ih54 (k + 1) e0 e1 e2 e3 e4 g_22 ⟨by omega, by omega⟩ (by omega)  _ _ (hP.sub [0, 1, 2, 3, 4, 5, 6] rfl) (hD.sub [0, 1, 2, 3, 4, 5, 6] (by decide) rfl) hS _ (lv_sub hl [2, 3, 4, 5, 0] rfl)
                · skip
                  have ic_16 := ci_ne (rfl : Int32.toInt r_15 = _) (show Int32.toInt 0 = 0 by decide) c_16
                  refine lv_aload_n hx hb dX7_step_74 rfl (lv_at hl 1 rfl) ?_
                  refine va_get (D := (dC, dI)) (ci := 5) (v := .ref xl) (C := RX7) (T := TX7) (N := 7) hx hb hts hnX7_step_X7 hown hK hP 0 rfl rfl 3 (by decide) (hts (.fieldLink RX7 25 "RingMeets" "look" "LRingMeets$Look;") (by decide +kernel)) (fun _ h9 => h9) rfl dX7_step_75 ?_
                  refine lv_aload_n hx hb dX7_step_78 rfl (lv_at hl 1 rfl) ?_
                  refine va_get (D := (dC, dI)) (ci := 5) (v := .ref a1) (C := RX7) (T := TX7) (N := 7) hx hb hts hnX7_step_X7 hown hK hP 0 rfl rfl 0 (by decide) (hts (.fieldLink RX7 10 "RingMeets" "now" "LRingMeets$Scene;") (by decide +kernel)) (fun _ h9 => h9) rfl dX7_step_79 ?_
                  refine va_getN (D := (dC, dI)) (ci := 3) (v := .ref a3) (C := RX4) (T := TX4) (N := 3) hx hb hts hnX7_step_X4 hown hK hP 1 rfl rfl 1 (by decide) (hN.fld 3 rfl) (fun _ h9 => h9) rfl dX7_step_82 ?_
                  refine lv_aload_n hx hb dX7_step_85 rfl (lv_at hl 1 rfl) ?_
                  refine va_get (D := (dC, dI)) (ci := 5) (v := .ref a1) (C := RX7) (T := TX7) (N := 7) hx hb hts hnX7_step_X7 hown hK hP 0 rfl rfl 0 (by decide) (hts (.fieldLink RX7 10 "RingMeets" "now" "LRingMeets$Scene;") (by decide +kernel)) (fun _ h9 => h9) rfl dX7_step_86 ?_
                  refine va_getN (D := (dC, dI)) (ci := 3) (v := .int (nI na)) (C := RX4) (T := TX4) (N := 3) hx hb hts hnX7_step_X4 hown hK hP 1 rfl rfl 2 (by decide) (hN.fld 4 rfl) (fun _ h9 => h9) rfl dX7_step_89 ?_
                  refine lv_iload_n hx hb dX7_step_92 rfl (lv_at hl 3 rfl) ?_
                  refine lv_iload_n hx hb dX7_step_93 rfl (lv_at hl 4 rfl) ?_
                  refine lv_iload hx hb dX7_step_94 (lv_at hl 5 rfl) ?_
                  have f_23 := va_free (wc := [(xl, .inr (0, [.int e0, .int e1, .int e2, .int e3, .int e4])), (a3, .inr (2, [.ref a4, .int (nI za)])), (a4, .inl (cyI, 60, .inl ga))]) hD hS hA [5, 3, 4] rfl
                  refine va_callv (va_runV (As := [.ref a3, .int (nI na), .int ya, .int yb, .int (nI k)]) (rest := []) ⟨hx, hb, hml, hown, hts⟩ (mX1_from l dC dI cyI cyZ xl e0 e1 e2 e3 e4 a3 a4 za na ga ya yb (nI k) (by omega) (by omega) _) (cwV 5 hts gX7_step_X1_from rfl rfl rfl (by decide +kernel) ⟨Nat.le_of_ble_eq_true rfl, Nat.le_of_ble_eq_true rfl⟩) (bs_WV hB (hP.sub (ws' := [(xl, .inr (0, [.int e0, .int e1, .int e2, .int e3, .int e4])), (a3, .inr (2, [.ref a4, .int (nI za)])), (a4, .inl (cyI, 60, .inl ga))]) [5, 3, 4] rfl) (hD.sub (ws' := [(xl, .inr (0, [.int e0, .int e1, .int e2, .int e3, .int e4])), (a3, .inr (2, [.ref a4, .int (nI za)])), (a4, .inl (cyI, 60, .inl ga))]) [5, 3, 4] (by decide) rfl) 0 rfl rfl) rfl rfl hl.1 rfl (lv_room (Nat.le_of_ble_eq_true rfl)) dX7_step_96 ⟨Nat.le_of_ble_eq_true rfl, Nat.le_of_ble_eq_true rfl⟩) hS (fun q _ h => f_23 q h) f_23 (fun uh_24 t H1 locs ht hvm h_24 hB1 hz1 hk1 hS => ?_)
                  obtain ⟨i_25, i_26, i_27, i_28, i_29⟩ := uh_24
                  obtain ⟨hP1, hD1⟩ := hB1
                  rw [ht] at hP1
                  obtain ⟨hP, hD⟩ := va_join (wr := [(x0, .inr (5, [.ref a1, .ref b1, .ref c1, .ref xl, .ref xb, .int kp, .ref wk])), (a1, .inr (3, [.ref a2, .ref a3, .int (nI na)])), (a2, .inl (cyI, 10, .inl fa)), (xb, .inl (cyI, 10, .inl gb_))]) (w1 := [(xl, .inr (0, [.int i_25, .int i_26, .int i_27, .int i_28, .int i_29])), (a3, .inr (2, [.ref a4, .int (nI za)])), (a4, .inl (cyI, 60, .inl ga))]) hP hD [5, 3, 4] [0, 1, 2, 6] rfl rfl (by decide) (by decide) hk1 f_23 hP1 hD1
                  generalize H1 = H at hP hS ⊢
                  have hP : va_P (dC, dI) vwCl [(x0, .inr (5, [.ref a1, .ref b1, .ref c1, .ref xl, .ref xb, .int kp, .ref wk])), (a1, .inr (3, [.ref a2, .ref a3, .int (nI na)])), (a2, .inl (cyI, 10, .inl fa)), (xb, .inl (cyI, 10, .inl gb_)), (xl, .inr (0, [.int i_25, .int i_26, .int i_27, .int i_28, .int i_29])), (a3, .inr (2, [.ref a4, .int (nI za)])), (a4, .inl (cyI, 60, .inl ga))] _ := hP
                  have hD : va_D A [(x0, .inr (5, [.ref a1, .ref b1, .ref c1, .ref xl, .ref xb, .int kp, .ref wk])), (a1, .inr (3, [.ref a2, .ref a3, .int (nI na)])), (a2, .inl (cyI, 10, .inl fa)), (xb, .inl (cyI, 10, .inl gb_)), (xl, .inr (0, [.int i_25, .int i_26, .int i_27, .int i_28, .int i_29])), (a3, .inr (2, [.ref a4, .int (nI za)])), (a4, .inl (cyI, 60, .inl ga))] := hD
                  refine lv_aload_n hx hb dX7_step_99 rfl (lv_at hl 1 rfl) ?_
                  refine va_get (D := (dC, dI)) (ci := 5) (v := .ref xl) (C := RX7) (T := TX7) (N := 7) hx hb hts hnX7_step_X7 hown hK hP 0 rfl rfl 3 (by decide) (hts (.fieldLink RX7 25 "RingMeets" "look" "LRingMeets$Look;") (by decide +kernel)) (fun _ h9 => h9) rfl dX7_step_100 ?_
                  refine va_getN (D := (dC, dI)) (ci := 0) (v := .int i_28) (C := RX1) (T := TX1) (N := 5) hx hb hts hnX7_step_X1 hown hK hP 4 rfl rfl 3 (by decide) (hN.fld 11 rfl) (fun _ h9 => h9) rfl dX7_step_103 ?_
                  refine lv_istore (lv' := [(5, .int i_28), (0, .ref x0), (1, .int p1), (2, .int ya), (3, .int yb), (4, .int (nI k))]) hx hb dX7_step_106 hl (by decide) rfl (fun ls hl => ?_)
                  refine lv_iload hx hb dX7_step_108 (lv_at hl 0 rfl) ?_
                  refine lv_if_lt (tgt := 139) hx hb dX7_step_110 (by decide) (fun c_30 => ?_) (fun c_30 => ?_)
                  · skip
                    have ic_30 := ci_lt (rfl : Int32.toInt i_28 = _) (show Int32.toInt 0 = 0 by decide) c_30
                    refine lv_iinc (v := (nI (k + 1))) (lv' := [(4, .int (nI (k + 1))), (5, .int i_28), (0, .ref x0), (1, .int p1), (2, .int ya), (3, .int yb)]) hx hb dX7_step_139 hl (k := 5) rfl (nI_1 _) (by decide) rfl (fun ls hl => ?_)
                    refine lv_goto (tgt := 54) hx hb dX7_step_142 (by decide) ?_
                    exact ih54 (k + 1) i_25 i_26 i_27 i_28 i_29 gb_ ⟨by omega, by omega⟩ (by omega)  _ _ (hP.sub [0, 1, 2, 5, 6, 4, 3] rfl) (hD.sub [0, 1, 2, 5, 6, 4, 3] (by decide) rfl) hS _ (lv_sub hl [2, 3, 4, 5, 0] rfl)
                  · skip
                    have ic_30 := ci_nlt (rfl : Int32.toInt i_28 = _) (show Int32.toInt 0 = 0 by decide) c_30
                    refine lv_iload hx hb dX7_step_113 (lv_at hl 0 rfl) ?_
                    refine lv_bipush (v := 10) hx hb dX7_step_115 (by decide) ?_
                    refine lv_icmp_ge (tgt := 139) hx hb dX7_step_117 (by decide) (fun c_31 => ?_) (fun c_31 => ?_)
                    · skip
                      have ic_31 := ci_le (show Int32.toInt 10 = 10 by decide) (rfl : Int32.toInt i_28 = _) c_31
                      refine lv_iinc (v := (nI (k + 1))) (lv' := [(4, .int (nI (k + 1))), (5, .int i_28), (0, .ref x0), (1, .int p1), (2, .int ya), (3, .int yb)]) hx hb dX7_step_139 hl (k := 5) rfl (nI_1 _) (by decide) rfl (fun ls hl => ?_)
                      refine lv_goto (tgt := 54) hx hb dX7_step_142 (by decide) ?_
                      exact ih54 (k + 1) i_25 i_26 i_27 i_28 i_29 gb_ ⟨by omega, by omega⟩ (by omega)  _ _ (hP.sub [0, 1, 2, 5, 6, 4, 3] rfl) (hD.sub [0, 1, 2, 5, 6, 4, 3] (by decide) rfl) hS _ (lv_sub hl [2, 3, 4, 5, 0] rfl)
                    · skip
                      have ic_31 := ci_nle (show Int32.toInt 10 = 10 by decide) (rfl : Int32.toInt i_28 = _) c_31
                      refine lv_aload_n hx hb dX7_step_120 rfl (lv_at hl 1 rfl) ?_
                      refine va_get (D := (dC, dI)) (ci := 5) (v := .ref xb) (C := RX7) (T := TX7) (N := 7) hx hb hts hnX7_step_X7 hown hK hP 0 rfl rfl 4 (by decide) (hts (.fieldLink RX7 29 "RingMeets" "behind" "[I") (by decide +kernel)) (fun _ h9 => h9) rfl dX7_step_121 ?_
                      refine lv_iload hx hb dX7_step_124 (lv_at hl 0 rfl) ?_
                      refine lv_dup2_11 hx hb dX7_step_126 rfl rfl ?_
                      refine va_iald (D := (dC, dI)) hx hb hK hP 3 0 rfl rfl (nb_in (x := i_28) (n := 10) (by omega) (by omega)) dX7_step_127 ?_
                      refine lv_topi (fun x_32 ex_32 => ?_)
                      refine lv_aload_n hx hb dX7_step_128 rfl (lv_at hl 1 rfl) ?_
                      refine va_get (D := (dC, dI)) (ci := 5) (v := .ref a1) (C := RX7) (T := TX7) (N := 7) hx hb hts hnX7_step_X7 hown hK hP 0 rfl rfl 0 (by decide) (hts (.fieldLink RX7 10 "RingMeets" "now" "LRingMeets$Scene;") (by decide +kernel)) (fun _ h9 => h9) rfl dX7_step_129 ?_
                      refine lv_iload hx hb dX7_step_132 (lv_at hl 5 rfl) ?_
                      refine vp_callSi (va_Run.run (va_runV (As := [.int (nI k)]) (rest := [.int x_32, .int i_28, .ref xb]) ⟨hx, hb, hml, hown, hts⟩ (mX4_walkersOn l dC dI cyI cyZ a1 a2 a3 na fa (nI k) (by omega)) (cwV 1 hts gX7_step_X4_walkersOn rfl rfl rfl (by decide +kernel) ⟨Nat.le_of_ble_eq_true rfl, Nat.le_of_ble_eq_true rfl⟩) (bs_RV hB (hP.sub (ws' := [(a1, .inr (3, [.ref a2, .ref a3, .int (nI na)])), (a2, .inl (cyI, 10, .inl fa))]) [1, 2] rfl) 0 rfl rfl) rfl rfl hl.1 rfl (lv_room (Nat.le_of_ble_eq_true rfl)) dX7_step_134 ⟨Nat.le_of_ble_eq_true rfl, Nat.le_of_ble_eq_true rfl⟩)) (fun r_33 hr_33 => ?_)
                      refine lv_iadd hx hb dX7_step_137 ?_
                      refine lv_topi (fun x_34 ex_34 => ?_)
                      refine va_iast (D := (dC, dI)) hx hb hK hP hD hS 3 0 rfl rfl (nb_in (x := i_28) (n := 10) (by omega) (by omega)) dX7_step_138 (fun H locs hP hD hS => ?_)
                      obtain ⟨g_35, eg_35⟩ : ∃ y : Nat → Int32, y = upd gb_ (Int32.toNatClampNeg i_28) x_34 := ⟨_, rfl⟩
                      have hP : va_P (dC, dI) vwCl [(x0, .inr (5, [.ref a1, .ref b1, .ref c1, .ref xl, .ref xb, .int kp, .ref wk])), (a1, .inr (3, [.ref a2, .ref a3, .int (nI na)])), (a2, .inl (cyI, 10, .inl fa)), (xb, .inl (cyI, 10, .inl g_35)), (xl, .inr (0, [.int i_25, .int i_26, .int i_27, .int i_28, .int i_29])), (a3, .inr (2, [.ref a4, .int (nI za)])), (a4, .inl (cyI, 60, .inl ga))] H := by rw [eg_35]; exact hP
                      have hD : va_D A [(x0, .inr (5, [.ref a1, .ref b1, .ref c1, .ref xl, .ref xb, .int kp, .ref wk])), (a1, .inr (3, [.ref a2, .ref a3, .int (nI na)])), (a2, .inl (cyI, 10, .inl fa)), (xb, .inl (cyI, 10, .inl g_35)), (xl, .inr (0, [.int i_25, .int i_26, .int i_27, .int i_28, .int i_29])), (a3, .inr (2, [.ref a4, .int (nI za)])), (a4, .inl (cyI, 60, .inl ga))] := by rw [eg_35]; exact hD
                      refine lv_iinc (v := (nI (k + 1))) (lv' := [(4, .int (nI (k + 1))), (5, .int i_28), (0, .ref x0), (1, .int p1), (2, .int ya), (3, .int yb)]) hx hb dX7_step_139 hl (k := 5) rfl (nI_1 _) (by decide) rfl (fun ls hl => ?_)
                      refine lv_goto (tgt := 54) hx hb dX7_step_142 (by decide) ?_
                      exact ih54 (k + 1) i_25 i_26 i_27 i_28 i_29 g_35 ⟨by omega, by omega⟩ (by omega)  _ _ (hP.sub [0, 1, 2, 5, 6, 4, 3] rfl) (hD.sub [0, 1, 2, 5, 6, 4, 3] (by decide) rfl) hS _ (lv_sub hl [2, 3, 4, 5, 0] rfl)
          exact L54 (10 + 1) 0 e0 e1 e2 e3 e4 gb_ ⟨by omega, by omega⟩ (by omega)  _ _ (hP.sub [0, 1, 2, 3, 4, 5, 6] rfl) (hD.sub [0, 1, 2, 3, 4, 5, 6] (by decide) rfl) hS _ (lv_sub hl [1, 2, 3, 4, 0] rfl)
        · skip
          have ic_6 := ci_nle (show Int32.toInt 10 = 10 by decide) (nI_toInt (n := k) (by omega)) c_6
          refine lv_aload_n hx hb dX7_step_37 rfl (lv_at hl 0 rfl) ?_
          refine va_get (D := (dC, dI)) (ci := 5) (v := .ref xb) (C := RX7) (T := TX7) (N := 7) hx hb hts hnX7_step_X7 hown hK hP 0 rfl rfl 4 (by decide) (hts (.fieldLink RX7 29 "RingMeets" "behind" "[I") (by decide +kernel)) (fun _ h9 => h9) rfl dX7_step_38 ?_
          refine lv_iload hx hb dX7_step_41 (lv_at hl 4 rfl) ?_
          refine lv_iconst (v := 0) hx hb dX7_step_43 (by decide) ?_
          refine va_iast (D := (dC, dI)) hx hb hK hP hD hS 6 0 rfl rfl (vp_in_nI (n := k) (N := 10) (by omega) (by omega)) dX7_step_44 (fun H locs hP hD hS => ?_)
          obtain ⟨g_36, eg_36⟩ : ∃ y : Nat → Int32, y = upd gb_ (Int32.toNatClampNeg (nI k)) 0 := ⟨_, rfl⟩
          have hP : va_P (dC, dI) vwCl [(x0, .inr (5, [.ref a1, .ref b1, .ref c1, .ref xl, .ref xb, .int kp, .ref wk])), (a1, .inr (3, [.ref a2, .ref a3, .int (nI na)])), (a2, .inl (cyI, 10, .inl fa)), (a3, .inr (2, [.ref a4, .int (nI za)])), (a4, .inl (cyI, 60, .inl ga)), (xl, .inr (0, [.int e0, .int e1, .int e2, .int e3, .int e4])), (xb, .inl (cyI, 10, .inl g_36))] H := by rw [eg_36]; exact hP
          have hD : va_D A [(x0, .inr (5, [.ref a1, .ref b1, .ref c1, .ref xl, .ref xb, .int kp, .ref wk])), (a1, .inr (3, [.ref a2, .ref a3, .int (nI na)])), (a2, .inl (cyI, 10, .inl fa)), (a3, .inr (2, [.ref a4, .int (nI za)])), (a4, .inl (cyI, 60, .inl ga)), (xl, .inr (0, [.int e0, .int e1, .int e2, .int e3, .int e4])), (xb, .inl (cyI, 10, .inl g_36))] := by rw [eg_36]; exact hD
          rw [nI_clamp (n := k) (by omega)] at eg_36
          refine lv_iinc (v := (nI (k + 1))) (lv' := [(4, .int (nI (k + 1))), (0, .ref x0), (1, .int p1), (2, .int ya), (3, .int yb)]) hx hb dX7_step_45 hl (k := 4) rfl (nI_1 _) (by decide) rfl (fun ls hl => ?_)
          refine lv_goto (tgt := 30) hx hb dX7_step_48 (by decide) ?_
          exact ih30 (k + 1) g_36 ya yb ⟨by omega, by omega⟩ (by omega)  _ _ (hP.sub [0, 1, 2, 3, 4, 5, 6] rfl) (hD.sub [0, 1, 2, 3, 4, 5, 6] (by decide) rfl) hS _ (lv_sub hl [1, 2, 3, 4, 0] rfl)
    exact L30 (10 + 1) 0 gb_ r_1 r_5 ⟨by omega, by omega⟩ (by omega)  _ _ (hP.sub [0, 1, 2, 3, 4, 5, 6] rfl) (hD.sub [0, 1, 2, 3, 4, 5, 6] (by decide) rfl) hS _ (lv_sub hl [3, 4, 2, 1, 0] rfl)
  · skip
    have ic_4 := ci_ne (rfl : Int32.toInt x_3 = _) (show Int32.toInt 0 = 0 by decide) c_4
    refine lv_bipush (v := (-2)) hx hb dX7_step_16 (by decide) ?_
    exact W.iret (v := (-2)) hx hb hr (fun t ht hW => ⟨⟨(-2), (fa, e0, e1, e2, e3, e4, gb_), rfl, trivial, ⟨by rw [ht]; exact hP.sub (ws' := [(x0, .inr (5, [.ref a1, .ref b1, .ref c1, .ref xl, .ref xb, .int kp, .ref wk])), (a1, .inr (3, [.ref a2, .ref a3, .int (nI na)])), (a2, .inl (cyI, 10, .inl fa)), (a3, .inr (2, [.ref a4, .int (nI za)])), (a4, .inl (cyI, 60, .inl ga)), (xl, .inr (0, [.int e0, .int e1, .int e2, .int e3, .int e4])), (xb, .inl (cyI, 10, .inl gb_))]) [0, 1, 2, 3, 4, 5, 6] rfl, hD.sub (ws' := [(x0, .inr (5, [.ref a1, .ref b1, .ref c1, .ref xl, .ref xb, .int kp, .ref wk])), (a1, .inr (3, [.ref a2, .ref a3, .int (nI na)])), (a2, .inl (cyI, 10, .inl fa)), (a3, .inr (2, [.ref a4, .int (nI za)])), (a4, .inl (cyI, 60, .inl ga)), (xl, .inr (0, [.int e0, .int e1, .int e2, .int e3, .int e4])), (xb, .inl (cyI, 10, .inl gb_))]) [0, 1, 2, 3, 4, 5, 6] (by decide) rfl⟩⟩, hS.F ht⟩) hS.2.2 dX7_step_18

theorem hnX7_refusalFromNow_X7 : ∀ w ∈ wsX70, w ∈ wsX7_refusalFromNow := fun _ h => List.mem_cons_of_mem _ (List.mem_append_left _ (List.mem_append_right _ h))
set_option maxHeartbeats 4000000 in
set_option maxRecDepth 100000 in
theorem mX7_refusalFromNow_0 (l : Launch) (dC : Nat → ClassId) (dI : Nat → Nat → Nat) (cyI cyZ : ClassId) (x0 : Nat) (a1 : Nat) (b1 : Nat) (c1 : Nat) (xl : Nat) (xb : Nat) (kp : Int32) (a2 : Nat) (a3 : Nat) (na : Nat) (fa : Nat → Int32) (p1 : Int32) (hna : na ≤ 10) : Met l yX7_refusalFromNow wsX7_refusalFromNow ({ frames := 4, cells := 0, slots := 0, locals := 85 }) (bs_R dC dI cyI cyZ [.ref x0, .int p1] [(x0, .inr (5, [.ref a1, .ref b1, .ref c1, .ref xl, .ref xb, .int kp, .null])), (a1, .inr (3, [.ref a2, .ref a3, .int (nI na)])), (a2, .inl (cyI, 10, .inl fa))]) (vp_Si (fun r : Int32 => True)) 0 0 (fun _ => False) := by
  refine Met.ofW (cc := cX7_refusalFromNow) (maxL := 2) (ret := (some .int)) (by decide) rfl ?_
  intro p e s m args below meth c s₁ B hml hv
  obtain ⟨rfl, hB, hP⟩ := hv
  have hK := hB.1
  have hN := hB.2
  have hx := B.exec
  have hb := B.bytes
  have hr := B.returns
  have hts := atoms_spec (ws := wsX7_refusalFromNow) B.pre
  have hown : s.vm.findClass RX7 = some m.cls := findClass_of_methodNamed B.named
  have hlocks := B.notSynchronized
  have hP : va_P (dC, dI) vwCl [(x0, .inr (5, [.ref a1, .ref b1, .ref c1, .ref xl, .ref xb, .int kp, .null])), (a1, .inr (3, [.ref a2, .ref a3, .int (nI na)])), (a2, .inl (cyI, 10, .inl fa))] s.heap := hP
  have hl := lv_entry ([.ref x0, .int p1]) (n := 2) (Nat.le_of_ble_eq_true rfl)
  rw [lg_entry_eq]
  generalize (lg_sl ([.ref x0, .int p1]) ++ List.replicate (2 - (lg_sl ([.ref x0, .int p1])).length) Slot.unset).toArray = ls at hl ⊢
  have hl : lv_has ls 2 [(0, .ref x0), (1, .int p1)] := hl
  refine lv_iload_n hx hb dX7_refusalFromNow_0 rfl (lv_at hl 1 rfl) ?_
  refine vp_callSi (va_Run.run (va_runS (As := [.int p1]) (rest := []) ⟨hx, hb, hml, hown, hts⟩ (mX7_isSchedule l dC dI cyI cyZ p1 ) (va_cwS 1 hts gX7_refusalFromNow_X7_isSchedule rfl rfl rfl (by decide +kernel) ⟨Nat.le_of_ble_eq_true rfl, Nat.le_of_ble_eq_true rfl⟩) (bs_RS hB (hP.sub (ws' := []) [] rfl)) rfl rfl hl.1 rfl (lv_room (Nat.le_of_ble_eq_true rfl)) dX7_refusalFromNow_1 ⟨Nat.le_of_ble_eq_true rfl, Nat.le_of_ble_eq_true rfl⟩)) (fun r_1 hr_1 => ?_)
  refine lv_if_ne (tgt := 10) hx hb dX7_refusalFromNow_4 (by decide) (fun c_2 => ?_) (fun c_2 => ?_)
  · skip
    have ic_2 := ci_ne (rfl : Int32.toInt r_1 = _) (show Int32.toInt 0 = 0 by decide) c_2
    refine lv_aload_n hx hb dX7_refusalFromNow_10 rfl (lv_at hl 0 rfl) ?_
    refine va_get (D := (dC, dI)) (ci := 5) (v := .ref a1) (C := RX7) (T := TX7) (N := 7) hx hb hts hnX7_refusalFromNow_X7 hown hK hP 0 rfl rfl 0 (by decide) (hts (.fieldLink RX7 10 "RingMeets" "now" "LRingMeets$Scene;") (by decide +kernel)) (fun _ h9 => h9) rfl dX7_refusalFromNow_11 ?_
    refine vp_callSi (va_Run.run (va_runV (As := []) (rest := []) ⟨hx, hb, hml, hown, hts⟩ (mX4_stands l dC dI cyI cyZ a1 a2 a3 na fa (by omega)) (cwV 0 hts gX7_refusalFromNow_X4_stands rfl rfl rfl (by decide +kernel) ⟨Nat.le_of_ble_eq_true rfl, Nat.le_of_ble_eq_true rfl⟩) (bs_RV hB (hP.sub (ws' := [(a1, .inr (3, [.ref a2, .ref a3, .int (nI na)])), (a2, .inl (cyI, 10, .inl fa))]) [1, 2] rfl) 0 rfl rfl) rfl rfl hl.1 rfl (lv_room (Nat.le_of_ble_eq_true rfl)) dX7_refusalFromNow_14 ⟨Nat.le_of_ble_eq_true rfl, Nat.le_of_ble_eq_true rfl⟩)) (fun r_3 hr_3 => ?_)
    refine lv_if_ne (tgt := 25) hx hb dX7_refusalFromNow_17 (by decide) (fun c_4 => ?_) (fun c_4 => ?_)
    · skip
      have ic_4 := ci_ne (rfl : Int32.toInt r_3 = _) (show Int32.toInt 0 = 0 by decide) c_4
      refine lv_iconst (v := 0) hx hb dX7_refusalFromNow_25 (by decide) ?_
      exact W.iret (v := 0) hx hb hr (fun t ht hW => ⟨0, rfl, trivial, ht⟩) (fun q h => by cases h) dX7_refusalFromNow_26
    · skip
      have ic_4 := ci_eq (rfl : Int32.toInt r_3 = _) (show Int32.toInt 0 = 0 by decide) c_4
      refine lv_bipush (v := (-3)) hx hb dX7_refusalFromNow_20 (by decide) ?_
      refine lv_goto (tgt := 26) hx hb dX7_refusalFromNow_22 (by decide) ?_
      exact W.iret (v := (-3)) hx hb hr (fun t ht hW => ⟨(-3), rfl, trivial, ht⟩) (fun q h => by cases h) dX7_refusalFromNow_26
  · skip
    have ic_2 := ci_eq (rfl : Int32.toInt r_1 = _) (show Int32.toInt 0 = 0 by decide) c_2
    refine lv_bipush (v := (-2)) hx hb dX7_refusalFromNow_7 (by decide) ?_
    exact W.iret (v := (-2)) hx hb hr (fun t ht hW => ⟨(-2), rfl, trivial, ht⟩) (fun q h => by cases h) dX7_refusalFromNow_9

set_option maxHeartbeats 4000000 in
set_option maxRecDepth 100000 in
theorem mX7_refusalFromNow_1 (l : Launch) (dC : Nat → ClassId) (dI : Nat → Nat → Nat) (cyI cyZ : ClassId) (x0 : Nat) (a1 : Nat) (b1 : Nat) (c1 : Nat) (xl : Nat) (xb : Nat) (kp : Int32) (wk : Nat) (a2 : Nat) (a3 : Nat) (na : Nat) (fa : Nat → Int32) (p1 : Int32) (hna : na ≤ 10) : Met l yX7_refusalFromNow wsX7_refusalFromNow ({ frames := 4, cells := 0, slots := 0, locals := 85 }) (bs_R dC dI cyI cyZ [.ref x0, .int p1] [(x0, .inr (5, [.ref a1, .ref b1, .ref c1, .ref xl, .ref xb, .int kp, .ref wk])), (a1, .inr (3, [.ref a2, .ref a3, .int (nI na)])), (a2, .inl (cyI, 10, .inl fa))]) (vp_Si (fun r : Int32 => True)) 0 0 (fun _ => False) := by
  refine Met.ofW (cc := cX7_refusalFromNow) (maxL := 2) (ret := (some .int)) (by decide) rfl ?_
  intro p e s m args below meth c s₁ B hml hv
  obtain ⟨rfl, hB, hP⟩ := hv
  have hK := hB.1
  have hN := hB.2
  have hx := B.exec
  have hb := B.bytes
  have hr := B.returns
  have hts := atoms_spec (ws := wsX7_refusalFromNow) B.pre
  have hown : s.vm.findClass RX7 = some m.cls := findClass_of_methodNamed B.named
  have hlocks := B.notSynchronized
  have hP : va_P (dC, dI) vwCl [(x0, .inr (5, [.ref a1, .ref b1, .ref c1, .ref xl, .ref xb, .int kp, .ref wk])), (a1, .inr (3, [.ref a2, .ref a3, .int (nI na)])), (a2, .inl (cyI, 10, .inl fa))] s.heap := hP
  have hl := lv_entry ([.ref x0, .int p1]) (n := 2) (Nat.le_of_ble_eq_true rfl)
  rw [lg_entry_eq]
  generalize (lg_sl ([.ref x0, .int p1]) ++ List.replicate (2 - (lg_sl ([.ref x0, .int p1])).length) Slot.unset).toArray = ls at hl ⊢
  have hl : lv_has ls 2 [(0, .ref x0), (1, .int p1)] := hl
  refine lv_iload_n hx hb dX7_refusalFromNow_0 rfl (lv_at hl 1 rfl) ?_
  refine vp_callSi (va_Run.run (va_runS (As := [.int p1]) (rest := []) ⟨hx, hb, hml, hown, hts⟩ (mX7_isSchedule l dC dI cyI cyZ p1 ) (va_cwS 1 hts gX7_refusalFromNow_X7_isSchedule rfl rfl rfl (by decide +kernel) ⟨Nat.le_of_ble_eq_true rfl, Nat.le_of_ble_eq_true rfl⟩) (bs_RS hB (hP.sub (ws' := []) [] rfl)) rfl rfl hl.1 rfl (lv_room (Nat.le_of_ble_eq_true rfl)) dX7_refusalFromNow_1 ⟨Nat.le_of_ble_eq_true rfl, Nat.le_of_ble_eq_true rfl⟩)) (fun r_1 hr_1 => ?_)
  refine lv_if_ne (tgt := 10) hx hb dX7_refusalFromNow_4 (by decide) (fun c_2 => ?_) (fun c_2 => ?_)
  · skip
    have ic_2 := ci_ne (rfl : Int32.toInt r_1 = _) (show Int32.toInt 0 = 0 by decide) c_2
    refine lv_aload_n hx hb dX7_refusalFromNow_10 rfl (lv_at hl 0 rfl) ?_
    refine va_get (D := (dC, dI)) (ci := 5) (v := .ref a1) (C := RX7) (T := TX7) (N := 7) hx hb hts hnX7_refusalFromNow_X7 hown hK hP 0 rfl rfl 0 (by decide) (hts (.fieldLink RX7 10 "RingMeets" "now" "LRingMeets$Scene;") (by decide +kernel)) (fun _ h9 => h9) rfl dX7_refusalFromNow_11 ?_
    refine vp_callSi (va_Run.run (va_runV (As := []) (rest := []) ⟨hx, hb, hml, hown, hts⟩ (mX4_stands l dC dI cyI cyZ a1 a2 a3 na fa (by omega)) (cwV 0 hts gX7_refusalFromNow_X4_stands rfl rfl rfl (by decide +kernel) ⟨Nat.le_of_ble_eq_true rfl, Nat.le_of_ble_eq_true rfl⟩) (bs_RV hB (hP.sub (ws' := [(a1, .inr (3, [.ref a2, .ref a3, .int (nI na)])), (a2, .inl (cyI, 10, .inl fa))]) [1, 2] rfl) 0 rfl rfl) rfl rfl hl.1 rfl (lv_room (Nat.le_of_ble_eq_true rfl)) dX7_refusalFromNow_14 ⟨Nat.le_of_ble_eq_true rfl, Nat.le_of_ble_eq_true rfl⟩)) (fun r_3 hr_3 => ?_)
    refine lv_if_ne (tgt := 25) hx hb dX7_refusalFromNow_17 (by decide) (fun c_4 => ?_) (fun c_4 => ?_)
    · skip
      have ic_4 := ci_ne (rfl : Int32.toInt r_3 = _) (show Int32.toInt 0 = 0 by decide) c_4
      refine lv_iconst (v := 0) hx hb dX7_refusalFromNow_25 (by decide) ?_
      exact W.iret (v := 0) hx hb hr (fun t ht hW => ⟨0, rfl, trivial, ht⟩) (fun q h => by cases h) dX7_refusalFromNow_26
    · skip
      have ic_4 := ci_eq (rfl : Int32.toInt r_3 = _) (show Int32.toInt 0 = 0 by decide) c_4
      refine lv_bipush (v := (-3)) hx hb dX7_refusalFromNow_20 (by decide) ?_
      refine lv_goto (tgt := 26) hx hb dX7_refusalFromNow_22 (by decide) ?_
      exact W.iret (v := (-3)) hx hb hr (fun t ht hW => ⟨(-3), rfl, trivial, ht⟩) (fun q h => by cases h) dX7_refusalFromNow_26
  · skip
    have ic_2 := ci_eq (rfl : Int32.toInt r_1 = _) (show Int32.toInt 0 = 0 by decide) c_2
    refine lv_bipush (v := (-2)) hx hb dX7_refusalFromNow_7 (by decide) ?_
    exact W.iret (v := (-2)) hx hb hr (fun t ht hW => ⟨(-2), rfl, trivial, ht⟩) (fun q h => by cases h) dX7_refusalFromNow_9

theorem hnX7_count_X3 : ∀ w ∈ wsX30, w ∈ wsX7_count := fun _ h => List.mem_cons_of_mem _ (List.mem_append_right _ h)
theorem hnX7_count_X4 : ∀ w ∈ wsX40, w ∈ wsX7_count := fun _ h => List.mem_cons_of_mem _ (List.mem_append_left _ (List.mem_append_right _ h))
theorem hnX7_count_X7 : ∀ w ∈ wsX70, w ∈ wsX7_count := fun _ h => List.mem_cons_of_mem _ (List.mem_append_left _ (List.mem_append_left _ (List.mem_append_right _ h)))
set_option maxHeartbeats 4000000 in
set_option maxRecDepth 100000 in
theorem mX7_count_0 (l : Launch) (dC : Nat → ClassId) (dI : Nat → Nat → Nat) (cyI cyZ : ClassId) (x0 : Nat) (a1 : Nat) (b1 : Nat) (c1 : Nat) (xl : Nat) (xb : Nat) (kp : Int32) (a2 : Nat) (a3 : Nat) (a4 : Nat) (na : Nat) (za : Nat) (ga : Nat → Int32) (fa : Nat → Int32) (p1 : Int32) (hna : na ≤ 10) : Met l yX7_count wsX7_count ({ frames := 4, cells := 0, slots := 0, locals := 85 }) (bs_R dC dI cyI cyZ [.ref x0, .int p1] [(x0, .inr (5, [.ref a1, .ref b1, .ref c1, .ref xl, .ref xb, .int kp, .null])), (a1, .inr (3, [.ref a2, .ref a3, .int (nI na)])), (a2, .inl (cyI, 10, .inl fa)), (a3, .inr (2, [.ref a4, .int (nI za)]))]) (vp_Si (fun r : Int32 => True)) 0 0 (fun _ => False) := by
  refine Met.ofW (cc := cX7_count) (maxL := 2) (ret := (some .int)) (by decide) rfl ?_
  intro p e s m args below meth c s₁ B hml hv
  obtain ⟨rfl, hB, hP⟩ := hv
  have hK := hB.1
  have hN := hB.2
  have hx := B.exec
  have hb := B.bytes
  have hr := B.returns
  have hts := atoms_spec (ws := wsX7_count) B.pre
  have hown : s.vm.findClass RX7 = some m.cls := findClass_of_methodNamed B.named
  have hlocks := B.notSynchronized
  have hP : va_P (dC, dI) vwCl [(x0, .inr (5, [.ref a1, .ref b1, .ref c1, .ref xl, .ref xb, .int kp, .null])), (a1, .inr (3, [.ref a2, .ref a3, .int (nI na)])), (a2, .inl (cyI, 10, .inl fa)), (a3, .inr (2, [.ref a4, .int (nI za)]))] s.heap := hP
  have hl := lv_entry ([.ref x0, .int p1]) (n := 2) (Nat.le_of_ble_eq_true rfl)
  rw [lg_entry_eq]
  generalize (lg_sl ([.ref x0, .int p1]) ++ List.replicate (2 - (lg_sl ([.ref x0, .int p1])).length) Slot.unset).toArray = ls at hl ⊢
  have hl : lv_has ls 2 [(0, .ref x0), (1, .int p1)] := hl
  refine lv_iload_n hx hb dX7_count_0 rfl (lv_at hl 1 rfl) ?_
  refine lv_bipush (v := 10) hx hb dX7_count_1 (by decide) ?_
  refine lv_icmp_lt (tgt := 24) hx hb dX7_count_3 (by decide) (fun c_1 => ?_) (fun c_1 => ?_)
  · skip
    have ic_1 := ci_lt (rfl : Int32.toInt p1 = _) (show Int32.toInt 10 = 10 by decide) c_1
    refine lv_iload_n hx hb dX7_count_24 rfl (lv_at hl 1 rfl) ?_
    rcases nb_sw p1 5 5 rfl with w_2 | ⟨w_2k, w_2l, w_2⟩
    · skip
      refine lv_tableOut (tgt := 112) hx hb dX7_count_25 w_2 (by decide) ?_
      refine lv_bipush (v := (-2)) hx hb dX7_count_112 (by decide) ?_
      exact W.iret (v := (-2)) hx hb hr (fun t ht hW => ⟨(-2), rfl, trivial, ht⟩) (fun q h => by cases h) dX7_count_114
    · skip
      rcases (show w_2k = 0 ∨ w_2k = 1 ∨ w_2k = 2 ∨ w_2k = 3 ∨ w_2k = 4 ∨ w_2k = 5 by omega) with rfl | rfl | rfl | rfl | rfl | rfl
      · skip
        have ew_2 : p1 = 0 := w_2
        refine W.eq (g2 := F0 m 25 ls (.int 0 :: [])) (by rw [ew_2]) ?_
        refine lv_tableIn (off := 39) (tgt := 64) hx hb dX7_count_25 (by decide) (by decide) (by decide) (by decide) ?_
        refine lv_aload_n hx hb dX7_count_64 rfl (lv_at hl 0 rfl) ?_
        refine va_get (D := (dC, dI)) (ci := 5) (v := .ref a1) (C := RX7) (T := TX7) (N := 7) hx hb hts hnX7_count_X7 hown hK hP 0 rfl rfl 0 (by decide) (hts (.fieldLink RX7 10 "RingMeets" "now" "LRingMeets$Scene;") (by decide +kernel)) (fun _ h9 => h9) rfl dX7_count_65 ?_
        refine va_getN (D := (dC, dI)) (ci := 3) (v := .int (nI na)) (C := RX4) (T := TX4) (N := 3) hx hb hts hnX7_count_X4 hown hK hP 1 rfl rfl 2 (by decide) (hN.fld 4 rfl) (fun _ h9 => h9) rfl dX7_count_68 ?_
        exact W.iret (v := (nI na)) hx hb hr (fun t ht hW => ⟨(nI na), rfl, trivial, ht⟩) (fun q h => by cases h) dX7_count_71
      · skip
        have ew_2 : p1 = 1 := w_2
        refine W.eq (g2 := F0 m 25 ls (.int 1 :: [])) (by rw [ew_2]) ?_
        refine lv_tableIn (off := 47) (tgt := 72) hx hb dX7_count_25 (by decide) (by decide) (by decide) (by decide) ?_
        refine lv_aload_n hx hb dX7_count_72 rfl (lv_at hl 0 rfl) ?_
        refine va_get (D := (dC, dI)) (ci := 5) (v := .ref a1) (C := RX7) (T := TX7) (N := 7) hx hb hts hnX7_count_X7 hown hK hP 0 rfl rfl 0 (by decide) (hts (.fieldLink RX7 10 "RingMeets" "now" "LRingMeets$Scene;") (by decide +kernel)) (fun _ h9 => h9) rfl dX7_count_73 ?_
        refine vp_callSi (va_Run.run (va_runV (As := []) (rest := []) ⟨hx, hb, hml, hown, hts⟩ (mX4_walkersInAll l dC dI cyI cyZ a1 a2 a3 na fa (by omega)) (cwV 0 hts gX7_count_X4_walkersInAll rfl rfl rfl (by decide +kernel) ⟨Nat.le_of_ble_eq_true rfl, Nat.le_of_ble_eq_true rfl⟩) (bs_RV hB (hP.sub (ws' := [(a1, .inr (3, [.ref a2, .ref a3, .int (nI na)])), (a2, .inl (cyI, 10, .inl fa))]) [1, 2] rfl) 0 rfl rfl) rfl rfl hl.1 rfl (lv_room (Nat.le_of_ble_eq_true rfl)) dX7_count_76 ⟨Nat.le_of_ble_eq_true rfl, Nat.le_of_ble_eq_true rfl⟩)) (fun r_3 hr_3 => ?_)
        exact W.iret (v := r_3) hx hb hr (fun t ht hW => ⟨r_3, rfl, trivial, ht⟩) (fun q h => by cases h) dX7_count_79
      · skip
        have ew_2 : p1 = 2 := w_2
        refine W.eq (g2 := F0 m 25 ls (.int 2 :: [])) (by rw [ew_2]) ?_
        refine lv_tableIn (off := 55) (tgt := 80) hx hb dX7_count_25 (by decide) (by decide) (by decide) (by decide) ?_
        refine lv_aload_n hx hb dX7_count_80 rfl (lv_at hl 0 rfl) ?_
        refine va_get (D := (dC, dI)) (ci := 5) (v := .ref a1) (C := RX7) (T := TX7) (N := 7) hx hb hts hnX7_count_X7 hown hK hP 0 rfl rfl 0 (by decide) (hts (.fieldLink RX7 10 "RingMeets" "now" "LRingMeets$Scene;") (by decide +kernel)) (fun _ h9 => h9) rfl dX7_count_81 ?_
        refine vp_callSi (va_Run.run (va_runV (As := []) (rest := []) ⟨hx, hb, hml, hown, hts⟩ (mX4_stands l dC dI cyI cyZ a1 a2 a3 na fa (by omega)) (cwV 0 hts gX7_count_X4_stands rfl rfl rfl (by decide +kernel) ⟨Nat.le_of_ble_eq_true rfl, Nat.le_of_ble_eq_true rfl⟩) (bs_RV hB (hP.sub (ws' := [(a1, .inr (3, [.ref a2, .ref a3, .int (nI na)])), (a2, .inl (cyI, 10, .inl fa))]) [1, 2] rfl) 0 rfl rfl) rfl rfl hl.1 rfl (lv_room (Nat.le_of_ble_eq_true rfl)) dX7_count_84 ⟨Nat.le_of_ble_eq_true rfl, Nat.le_of_ble_eq_true rfl⟩)) (fun r_4 hr_4 => ?_)
        exact W.iret (v := r_4) hx hb hr (fun t ht hW => ⟨r_4, rfl, trivial, ht⟩) (fun q h => by cases h) dX7_count_87
      · skip
        have ew_2 : p1 = 3 := w_2
        refine W.eq (g2 := F0 m 25 ls (.int 3 :: [])) (by rw [ew_2]) ?_
        refine lv_tableIn (off := 63) (tgt := 88) hx hb dX7_count_25 (by decide) (by decide) (by decide) (by decide) ?_
        refine lv_aload_n hx hb dX7_count_88 rfl (lv_at hl 0 rfl) ?_
        refine va_get (D := (dC, dI)) (ci := 5) (v := .ref a1) (C := RX7) (T := TX7) (N := 7) hx hb hts hnX7_count_X7 hown hK hP 0 rfl rfl 0 (by decide) (hts (.fieldLink RX7 10 "RingMeets" "now" "LRingMeets$Scene;") (by decide +kernel)) (fun _ h9 => h9) rfl dX7_count_89 ?_
        refine vp_callSi (va_Run.run (va_runV (As := []) (rest := []) ⟨hx, hb, hml, hown, hts⟩ (mX4_towers l dC dI cyI cyZ a1 a2 a3 na fa (by omega)) (cwV 0 hts gX7_count_X4_towers rfl rfl rfl (by decide +kernel) ⟨Nat.le_of_ble_eq_true rfl, Nat.le_of_ble_eq_true rfl⟩) (bs_RV hB (hP.sub (ws' := [(a1, .inr (3, [.ref a2, .ref a3, .int (nI na)])), (a2, .inl (cyI, 10, .inl fa))]) [1, 2] rfl) 0 rfl rfl) rfl rfl hl.1 rfl (lv_room (Nat.le_of_ble_eq_true rfl)) dX7_count_92 ⟨Nat.le_of_ble_eq_true rfl, Nat.le_of_ble_eq_true rfl⟩)) (fun r_5 hr_5 => ?_)
        exact W.iret (v := r_5) hx hb hr (fun t ht hW => ⟨r_5, rfl, trivial, ht⟩) (fun q h => by cases h) dX7_count_95
      · skip
        have ew_2 : p1 = 4 := w_2
        refine W.eq (g2 := F0 m 25 ls (.int 4 :: [])) (by rw [ew_2]) ?_
        refine lv_tableIn (off := 71) (tgt := 96) hx hb dX7_count_25 (by decide) (by decide) (by decide) (by decide) ?_
        refine lv_aload_n hx hb dX7_count_96 rfl (lv_at hl 0 rfl) ?_
        refine va_get (D := (dC, dI)) (ci := 5) (v := .ref a1) (C := RX7) (T := TX7) (N := 7) hx hb hts hnX7_count_X7 hown hK hP 0 rfl rfl 0 (by decide) (hts (.fieldLink RX7 10 "RingMeets" "now" "LRingMeets$Scene;") (by decide +kernel)) (fun _ h9 => h9) rfl dX7_count_97 ?_
        refine va_getN (D := (dC, dI)) (ci := 3) (v := .ref a3) (C := RX4) (T := TX4) (N := 3) hx hb hts hnX7_count_X4 hown hK hP 1 rfl rfl 1 (by decide) (hN.fld 3 rfl) (fun _ h9 => h9) rfl dX7_count_100 ?_
        refine va_getN (D := (dC, dI)) (ci := 2) (v := .int (nI za)) (C := RX3) (T := TX3) (N := 2) hx hb hts hnX7_count_X3 hown hK hP 3 rfl rfl 1 (by decide) (hN.fld 2 rfl) (fun _ h9 => h9) rfl dX7_count_103 ?_
        exact W.iret (v := (nI za)) hx hb hr (fun t ht hW => ⟨(nI za), rfl, trivial, ht⟩) (fun q h => by cases h) dX7_count_106
      · skip
        have ew_2 : p1 = 5 := w_2
        refine W.eq (g2 := F0 m 25 ls (.int 5 :: [])) (by rw [ew_2]) ?_
        refine lv_tableIn (off := 82) (tgt := 107) hx hb dX7_count_25 (by decide) (by decide) (by decide) (by decide) ?_
        refine lv_aload_n hx hb dX7_count_107 rfl (lv_at hl 0 rfl) ?_
        refine va_get (D := (dC, dI)) (ci := 5) (v := .int kp) (C := RX7) (T := TX7) (N := 7) hx hb hts hnX7_count_X7 hown hK hP 0 rfl rfl 5 (by decide) (hts (.fieldLink RX7 199 "RingMeets" "kept" "I") (by decide +kernel)) (fun _ h9 => h9) rfl dX7_count_108 ?_
        exact W.iret (v := kp) hx hb hr (fun t ht hW => ⟨kp, rfl, trivial, ht⟩) (fun q h => by cases h) dX7_count_111
  · skip
    have ic_1 := ci_nlt (rfl : Int32.toInt p1 = _) (show Int32.toInt 10 = 10 by decide) c_1
    refine lv_iload_n hx hb dX7_count_6 rfl (lv_at hl 1 rfl) ?_
    refine lv_bipush (v := 20) hx hb dX7_count_7 (by decide) ?_
    refine lv_icmp_ge (tgt := 24) hx hb dX7_count_9 (by decide) (fun c_6 => ?_) (fun c_6 => ?_)
    · skip
      have ic_6 := ci_le (show Int32.toInt 20 = 20 by decide) (rfl : Int32.toInt p1 = _) c_6
      refine lv_iload_n hx hb dX7_count_24 rfl (lv_at hl 1 rfl) ?_
      rcases nb_sw p1 5 5 rfl with w_7 | ⟨w_7k, w_7l, w_7⟩
      · skip
        refine lv_tableOut (tgt := 112) hx hb dX7_count_25 w_7 (by decide) ?_
        refine lv_bipush (v := (-2)) hx hb dX7_count_112 (by decide) ?_
        exact W.iret (v := (-2)) hx hb hr (fun t ht hW => ⟨(-2), rfl, trivial, ht⟩) (fun q h => by cases h) dX7_count_114
      · skip
        rcases (show w_7k = 0 ∨ w_7k = 1 ∨ w_7k = 2 ∨ w_7k = 3 ∨ w_7k = 4 ∨ w_7k = 5 by omega) with rfl | rfl | rfl | rfl | rfl | rfl
        · skip
          have ew_7 : p1 = 0 := w_7
          refine W.eq (g2 := F0 m 25 ls (.int 0 :: [])) (by rw [ew_7]) ?_
          refine lv_tableIn (off := 39) (tgt := 64) hx hb dX7_count_25 (by decide) (by decide) (by decide) (by decide) ?_
          refine lv_aload_n hx hb dX7_count_64 rfl (lv_at hl 0 rfl) ?_
          refine va_get (D := (dC, dI)) (ci := 5) (v := .ref a1) (C := RX7) (T := TX7) (N := 7) hx hb hts hnX7_count_X7 hown hK hP 0 rfl rfl 0 (by decide) (hts (.fieldLink RX7 10 "RingMeets" "now" "LRingMeets$Scene;") (by decide +kernel)) (fun _ h9 => h9) rfl dX7_count_65 ?_
          refine va_getN (D := (dC, dI)) (ci := 3) (v := .int (nI na)) (C := RX4) (T := TX4) (N := 3) hx hb hts hnX7_count_X4 hown hK hP 1 rfl rfl 2 (by decide) (hN.fld 4 rfl) (fun _ h9 => h9) rfl dX7_count_68 ?_
          exact W.iret (v := (nI na)) hx hb hr (fun t ht hW => ⟨(nI na), rfl, trivial, ht⟩) (fun q h => by cases h) dX7_count_71
        · skip
          have ew_7 : p1 = 1 := w_7
          refine W.eq (g2 := F0 m 25 ls (.int 1 :: [])) (by rw [ew_7]) ?_
          refine lv_tableIn (off := 47) (tgt := 72) hx hb dX7_count_25 (by decide) (by decide) (by decide) (by decide) ?_
          refine lv_aload_n hx hb dX7_count_72 rfl (lv_at hl 0 rfl) ?_
          refine va_get (D := (dC, dI)) (ci := 5) (v := .ref a1) (C := RX7) (T := TX7) (N := 7) hx hb hts hnX7_count_X7 hown hK hP 0 rfl rfl 0 (by decide) (hts (.fieldLink RX7 10 "RingMeets" "now" "LRingMeets$Scene;") (by decide +kernel)) (fun _ h9 => h9) rfl dX7_count_73 ?_
          refine vp_callSi (va_Run.run (va_runV (As := []) (rest := []) ⟨hx, hb, hml, hown, hts⟩ (mX4_walkersInAll l dC dI cyI cyZ a1 a2 a3 na fa (by omega)) (cwV 0 hts gX7_count_X4_walkersInAll rfl rfl rfl (by decide +kernel) ⟨Nat.le_of_ble_eq_true rfl, Nat.le_of_ble_eq_true rfl⟩) (bs_RV hB (hP.sub (ws' := [(a1, .inr (3, [.ref a2, .ref a3, .int (nI na)])), (a2, .inl (cyI, 10, .inl fa))]) [1, 2] rfl) 0 rfl rfl) rfl rfl hl.1 rfl (lv_room (Nat.le_of_ble_eq_true rfl)) dX7_count_76 ⟨Nat.le_of_ble_eq_true rfl, Nat.le_of_ble_eq_true rfl⟩)) (fun r_8 hr_8 => ?_)
          exact W.iret (v := r_8) hx hb hr (fun t ht hW => ⟨r_8, rfl, trivial, ht⟩) (fun q h => by cases h) dX7_count_79
        · skip
          have ew_7 : p1 = 2 := w_7
          refine W.eq (g2 := F0 m 25 ls (.int 2 :: [])) (by rw [ew_7]) ?_
          refine lv_tableIn (off := 55) (tgt := 80) hx hb dX7_count_25 (by decide) (by decide) (by decide) (by decide) ?_
          refine lv_aload_n hx hb dX7_count_80 rfl (lv_at hl 0 rfl) ?_
          refine va_get (D := (dC, dI)) (ci := 5) (v := .ref a1) (C := RX7) (T := TX7) (N := 7) hx hb hts hnX7_count_X7 hown hK hP 0 rfl rfl 0 (by decide) (hts (.fieldLink RX7 10 "RingMeets" "now" "LRingMeets$Scene;") (by decide +kernel)) (fun _ h9 => h9) rfl dX7_count_81 ?_
          refine vp_callSi (va_Run.run (va_runV (As := []) (rest := []) ⟨hx, hb, hml, hown, hts⟩ (mX4_stands l dC dI cyI cyZ a1 a2 a3 na fa (by omega)) (cwV 0 hts gX7_count_X4_stands rfl rfl rfl (by decide +kernel) ⟨Nat.le_of_ble_eq_true rfl, Nat.le_of_ble_eq_true rfl⟩) (bs_RV hB (hP.sub (ws' := [(a1, .inr (3, [.ref a2, .ref a3, .int (nI na)])), (a2, .inl (cyI, 10, .inl fa))]) [1, 2] rfl) 0 rfl rfl) rfl rfl hl.1 rfl (lv_room (Nat.le_of_ble_eq_true rfl)) dX7_count_84 ⟨Nat.le_of_ble_eq_true rfl, Nat.le_of_ble_eq_true rfl⟩)) (fun r_9 hr_9 => ?_)
          exact W.iret (v := r_9) hx hb hr (fun t ht hW => ⟨r_9, rfl, trivial, ht⟩) (fun q h => by cases h) dX7_count_87
        · skip
          have ew_7 : p1 = 3 := w_7
          refine W.eq (g2 := F0 m 25 ls (.int 3 :: [])) (by rw [ew_7]) ?_
          refine lv_tableIn (off := 63) (tgt := 88) hx hb dX7_count_25 (by decide) (by decide) (by decide) (by decide) ?_
          refine lv_aload_n hx hb dX7_count_88 rfl (lv_at hl 0 rfl) ?_
          refine va_get (D := (dC, dI)) (ci := 5) (v := .ref a1) (C := RX7) (T := TX7) (N := 7) hx hb hts hnX7_count_X7 hown hK hP 0 rfl rfl 0 (by decide) (hts (.fieldLink RX7 10 "RingMeets" "now" "LRingMeets$Scene;") (by decide +kernel)) (fun _ h9 => h9) rfl dX7_count_89 ?_
          refine vp_callSi (va_Run.run (va_runV (As := []) (rest := []) ⟨hx, hb, hml, hown, hts⟩ (mX4_towers l dC dI cyI cyZ a1 a2 a3 na fa (by omega)) (cwV 0 hts gX7_count_X4_towers rfl rfl rfl (by decide +kernel) ⟨Nat.le_of_ble_eq_true rfl, Nat.le_of_ble_eq_true rfl⟩) (bs_RV hB (hP.sub (ws' := [(a1, .inr (3, [.ref a2, .ref a3, .int (nI na)])), (a2, .inl (cyI, 10, .inl fa))]) [1, 2] rfl) 0 rfl rfl) rfl rfl hl.1 rfl (lv_room (Nat.le_of_ble_eq_true rfl)) dX7_count_92 ⟨Nat.le_of_ble_eq_true rfl, Nat.le_of_ble_eq_true rfl⟩)) (fun r_10 hr_10 => ?_)
          exact W.iret (v := r_10) hx hb hr (fun t ht hW => ⟨r_10, rfl, trivial, ht⟩) (fun q h => by cases h) dX7_count_95
        · skip
          have ew_7 : p1 = 4 := w_7
          refine W.eq (g2 := F0 m 25 ls (.int 4 :: [])) (by rw [ew_7]) ?_
          refine lv_tableIn (off := 71) (tgt := 96) hx hb dX7_count_25 (by decide) (by decide) (by decide) (by decide) ?_
          refine lv_aload_n hx hb dX7_count_96 rfl (lv_at hl 0 rfl) ?_
          refine va_get (D := (dC, dI)) (ci := 5) (v := .ref a1) (C := RX7) (T := TX7) (N := 7) hx hb hts hnX7_count_X7 hown hK hP 0 rfl rfl 0 (by decide) (hts (.fieldLink RX7 10 "RingMeets" "now" "LRingMeets$Scene;") (by decide +kernel)) (fun _ h9 => h9) rfl dX7_count_97 ?_
          refine va_getN (D := (dC, dI)) (ci := 3) (v := .ref a3) (C := RX4) (T := TX4) (N := 3) hx hb hts hnX7_count_X4 hown hK hP 1 rfl rfl 1 (by decide) (hN.fld 3 rfl) (fun _ h9 => h9) rfl dX7_count_100 ?_
          refine va_getN (D := (dC, dI)) (ci := 2) (v := .int (nI za)) (C := RX3) (T := TX3) (N := 2) hx hb hts hnX7_count_X3 hown hK hP 3 rfl rfl 1 (by decide) (hN.fld 2 rfl) (fun _ h9 => h9) rfl dX7_count_103 ?_
          exact W.iret (v := (nI za)) hx hb hr (fun t ht hW => ⟨(nI za), rfl, trivial, ht⟩) (fun q h => by cases h) dX7_count_106
        · skip
          have ew_7 : p1 = 5 := w_7
          refine W.eq (g2 := F0 m 25 ls (.int 5 :: [])) (by rw [ew_7]) ?_
          refine lv_tableIn (off := 82) (tgt := 107) hx hb dX7_count_25 (by decide) (by decide) (by decide) (by decide) ?_
          refine lv_aload_n hx hb dX7_count_107 rfl (lv_at hl 0 rfl) ?_
          refine va_get (D := (dC, dI)) (ci := 5) (v := .int kp) (C := RX7) (T := TX7) (N := 7) hx hb hts hnX7_count_X7 hown hK hP 0 rfl rfl 5 (by decide) (hts (.fieldLink RX7 199 "RingMeets" "kept" "I") (by decide +kernel)) (fun _ h9 => h9) rfl dX7_count_108 ?_
          exact W.iret (v := kp) hx hb hr (fun t ht hW => ⟨kp, rfl, trivial, ht⟩) (fun q h => by cases h) dX7_count_111
    · skip
      have ic_6 := ci_nle (show Int32.toInt 20 = 20 by decide) (rfl : Int32.toInt p1 = _) c_6
      refine lv_aload_n hx hb dX7_count_12 rfl (lv_at hl 0 rfl) ?_
      refine va_get (D := (dC, dI)) (ci := 5) (v := .ref a1) (C := RX7) (T := TX7) (N := 7) hx hb hts hnX7_count_X7 hown hK hP 0 rfl rfl 0 (by decide) (hts (.fieldLink RX7 10 "RingMeets" "now" "LRingMeets$Scene;") (by decide +kernel)) (fun _ h9 => h9) rfl dX7_count_13 ?_
      refine lv_iload_n hx hb dX7_count_16 rfl (lv_at hl 1 rfl) ?_
      refine lv_bipush (v := 10) hx hb dX7_count_17 (by decide) ?_
      refine lv_isub hx hb dX7_count_19 ?_
      refine lv_topi (fun x_11 ex_11 => ?_)
      refine vp_callSi (va_Run.run (va_runV (As := [.int x_11]) (rest := []) ⟨hx, hb, hml, hown, hts⟩ (mX4_walkersOn l dC dI cyI cyZ a1 a2 a3 na fa x_11 (by omega)) (cwV 1 hts gX7_count_X4_walkersOn rfl rfl rfl (by decide +kernel) ⟨Nat.le_of_ble_eq_true rfl, Nat.le_of_ble_eq_true rfl⟩) (bs_RV hB (hP.sub (ws' := [(a1, .inr (3, [.ref a2, .ref a3, .int (nI na)])), (a2, .inl (cyI, 10, .inl fa))]) [1, 2] rfl) 0 rfl rfl) rfl rfl hl.1 rfl (lv_room (Nat.le_of_ble_eq_true rfl)) dX7_count_20 ⟨Nat.le_of_ble_eq_true rfl, Nat.le_of_ble_eq_true rfl⟩)) (fun r_12 hr_12 => ?_)
      exact W.iret (v := r_12) hx hb hr (fun t ht hW => ⟨r_12, rfl, trivial, ht⟩) (fun q h => by cases h) dX7_count_23

set_option maxHeartbeats 4000000 in
set_option maxRecDepth 100000 in
theorem mX7_count_1 (l : Launch) (dC : Nat → ClassId) (dI : Nat → Nat → Nat) (cyI cyZ : ClassId) (x0 : Nat) (a1 : Nat) (b1 : Nat) (c1 : Nat) (xl : Nat) (xb : Nat) (kp : Int32) (wk : Nat) (a2 : Nat) (a3 : Nat) (a4 : Nat) (na : Nat) (za : Nat) (ga : Nat → Int32) (fa : Nat → Int32) (p1 : Int32) (hna : na ≤ 10) : Met l yX7_count wsX7_count ({ frames := 4, cells := 0, slots := 0, locals := 85 }) (bs_R dC dI cyI cyZ [.ref x0, .int p1] [(x0, .inr (5, [.ref a1, .ref b1, .ref c1, .ref xl, .ref xb, .int kp, .ref wk])), (a1, .inr (3, [.ref a2, .ref a3, .int (nI na)])), (a2, .inl (cyI, 10, .inl fa)), (a3, .inr (2, [.ref a4, .int (nI za)]))]) (vp_Si (fun r : Int32 => True)) 0 0 (fun _ => False) := by
  refine Met.ofW (cc := cX7_count) (maxL := 2) (ret := (some .int)) (by decide) rfl ?_
  intro p e s m args below meth c s₁ B hml hv
  obtain ⟨rfl, hB, hP⟩ := hv
  have hK := hB.1
  have hN := hB.2
  have hx := B.exec
  have hb := B.bytes
  have hr := B.returns
  have hts := atoms_spec (ws := wsX7_count) B.pre
  have hown : s.vm.findClass RX7 = some m.cls := findClass_of_methodNamed B.named
  have hlocks := B.notSynchronized
  have hP : va_P (dC, dI) vwCl [(x0, .inr (5, [.ref a1, .ref b1, .ref c1, .ref xl, .ref xb, .int kp, .ref wk])), (a1, .inr (3, [.ref a2, .ref a3, .int (nI na)])), (a2, .inl (cyI, 10, .inl fa)), (a3, .inr (2, [.ref a4, .int (nI za)]))] s.heap := hP
  have hl := lv_entry ([.ref x0, .int p1]) (n := 2) (Nat.le_of_ble_eq_true rfl)
  rw [lg_entry_eq]
  generalize (lg_sl ([.ref x0, .int p1]) ++ List.replicate (2 - (lg_sl ([.ref x0, .int p1])).length) Slot.unset).toArray = ls at hl ⊢
  have hl : lv_has ls 2 [(0, .ref x0), (1, .int p1)] := hl
  refine lv_iload_n hx hb dX7_count_0 rfl (lv_at hl 1 rfl) ?_
  refine lv_bipush (v := 10) hx hb dX7_count_1 (by decide) ?_
  refine lv_icmp_lt (tgt := 24) hx hb dX7_count_3 (by decide) (fun c_1 => ?_) (fun c_1 => ?_)
  · skip
    have ic_1 := ci_lt (rfl : Int32.toInt p1 = _) (show Int32.toInt 10 = 10 by decide) c_1
    refine lv_iload_n hx hb dX7_count_24 rfl (lv_at hl 1 rfl) ?_
    rcases nb_sw p1 5 5 rfl with w_2 | ⟨w_2k, w_2l, w_2⟩
    · skip
      refine lv_tableOut (tgt := 112) hx hb dX7_count_25 w_2 (by decide) ?_
      refine lv_bipush (v := (-2)) hx hb dX7_count_112 (by decide) ?_
      exact W.iret (v := (-2)) hx hb hr (fun t ht hW => ⟨(-2), rfl, trivial, ht⟩) (fun q h => by cases h) dX7_count_114
    · skip
      rcases (show w_2k = 0 ∨ w_2k = 1 ∨ w_2k = 2 ∨ w_2k = 3 ∨ w_2k = 4 ∨ w_2k = 5 by omega) with rfl | rfl | rfl | rfl | rfl | rfl
      · skip
        have ew_2 : p1 = 0 := w_2
        refine W.eq (g2 := F0 m 25 ls (.int 0 :: [])) (by rw [ew_2]) ?_
        refine lv_tableIn (off := 39) (tgt := 64) hx hb dX7_count_25 (by decide) (by decide) (by decide) (by decide) ?_
        refine lv_aload_n hx hb dX7_count_64 rfl (lv_at hl 0 rfl) ?_
        refine va_get (D := (dC, dI)) (ci := 5) (v := .ref a1) (C := RX7) (T := TX7) (N := 7) hx hb hts hnX7_count_X7 hown hK hP 0 rfl rfl 0 (by decide) (hts (.fieldLink RX7 10 "RingMeets" "now" "LRingMeets$Scene;") (by decide +kernel)) (fun _ h9 => h9) rfl dX7_count_65 ?_
        refine va_getN (D := (dC, dI)) (ci := 3) (v := .int (nI na)) (C := RX4) (T := TX4) (N := 3) hx hb hts hnX7_count_X4 hown hK hP 1 rfl rfl 2 (by decide) (hN.fld 4 rfl) (fun _ h9 => h9) rfl dX7_count_68 ?_
        exact W.iret (v := (nI na)) hx hb hr (fun t ht hW => ⟨(nI na), rfl, trivial, ht⟩) (fun q h => by cases h) dX7_count_71
      · skip
        have ew_2 : p1 = 1 := w_2
        refine W.eq (g2 := F0 m 25 ls (.int 1 :: [])) (by rw [ew_2]) ?_
        refine lv_tableIn (off := 47) (tgt := 72) hx hb dX7_count_25 (by decide) (by decide) (by decide) (by decide) ?_
        refine lv_aload_n hx hb dX7_count_72 rfl (lv_at hl 0 rfl) ?_
        refine va_get (D := (dC, dI)) (ci := 5) (v := .ref a1) (C := RX7) (T := TX7) (N := 7) hx hb hts hnX7_count_X7 hown hK hP 0 rfl rfl 0 (by decide) (hts (.fieldLink RX7 10 "RingMeets" "now" "LRingMeets$Scene;") (by decide +kernel)) (fun _ h9 => h9) rfl dX7_count_73 ?_
        refine vp_callSi (va_Run.run (va_runV (As := []) (rest := []) ⟨hx, hb, hml, hown, hts⟩ (mX4_walkersInAll l dC dI cyI cyZ a1 a2 a3 na fa (by omega)) (cwV 0 hts gX7_count_X4_walkersInAll rfl rfl rfl (by decide +kernel) ⟨Nat.le_of_ble_eq_true rfl, Nat.le_of_ble_eq_true rfl⟩) (bs_RV hB (hP.sub (ws' := [(a1, .inr (3, [.ref a2, .ref a3, .int (nI na)])), (a2, .inl (cyI, 10, .inl fa))]) [1, 2] rfl) 0 rfl rfl) rfl rfl hl.1 rfl (lv_room (Nat.le_of_ble_eq_true rfl)) dX7_count_76 ⟨Nat.le_of_ble_eq_true rfl, Nat.le_of_ble_eq_true rfl⟩)) (fun r_3 hr_3 => ?_)
        exact W.iret (v := r_3) hx hb hr (fun t ht hW => ⟨r_3, rfl, trivial, ht⟩) (fun q h => by cases h) dX7_count_79
      · skip
        have ew_2 : p1 = 2 := w_2
        refine W.eq (g2 := F0 m 25 ls (.int 2 :: [])) (by rw [ew_2]) ?_
        refine lv_tableIn (off := 55) (tgt := 80) hx hb dX7_count_25 (by decide) (by decide) (by decide) (by decide) ?_
        refine lv_aload_n hx hb dX7_count_80 rfl (lv_at hl 0 rfl) ?_
        refine va_get (D := (dC, dI)) (ci := 5) (v := .ref a1) (C := RX7) (T := TX7) (N := 7) hx hb hts hnX7_count_X7 hown hK hP 0 rfl rfl 0 (by decide) (hts (.fieldLink RX7 10 "RingMeets" "now" "LRingMeets$Scene;") (by decide +kernel)) (fun _ h9 => h9) rfl dX7_count_81 ?_
        refine vp_callSi (va_Run.run (va_runV (As := []) (rest := []) ⟨hx, hb, hml, hown, hts⟩ (mX4_stands l dC dI cyI cyZ a1 a2 a3 na fa (by omega)) (cwV 0 hts gX7_count_X4_stands rfl rfl rfl (by decide +kernel) ⟨Nat.le_of_ble_eq_true rfl, Nat.le_of_ble_eq_true rfl⟩) (bs_RV hB (hP.sub (ws' := [(a1, .inr (3, [.ref a2, .ref a3, .int (nI na)])), (a2, .inl (cyI, 10, .inl fa))]) [1, 2] rfl) 0 rfl rfl) rfl rfl hl.1 rfl (lv_room (Nat.le_of_ble_eq_true rfl)) dX7_count_84 ⟨Nat.le_of_ble_eq_true rfl, Nat.le_of_ble_eq_true rfl⟩)) (fun r_4 hr_4 => ?_)
        exact W.iret (v := r_4) hx hb hr (fun t ht hW => ⟨r_4, rfl, trivial, ht⟩) (fun q h => by cases h) dX7_count_87
      · skip
        have ew_2 : p1 = 3 := w_2
        refine W.eq (g2 := F0 m 25 ls (.int 3 :: [])) (by rw [ew_2]) ?_
        refine lv_tableIn (off := 63) (tgt := 88) hx hb dX7_count_25 (by decide) (by decide) (by decide) (by decide) ?_
        refine lv_aload_n hx hb dX7_count_88 rfl (lv_at hl 0 rfl) ?_
        refine va_get (D := (dC, dI)) (ci := 5) (v := .ref a1) (C := RX7) (T := TX7) (N := 7) hx hb hts hnX7_count_X7 hown hK hP 0 rfl rfl 0 (by decide) (hts (.fieldLink RX7 10 "RingMeets" "now" "LRingMeets$Scene;") (by decide +kernel)) (fun _ h9 => h9) rfl dX7_count_89 ?_
        refine vp_callSi (va_Run.run (va_runV (As := []) (rest := []) ⟨hx, hb, hml, hown, hts⟩ (mX4_towers l dC dI cyI cyZ a1 a2 a3 na fa (by omega)) (cwV 0 hts gX7_count_X4_towers rfl rfl rfl (by decide +kernel) ⟨Nat.le_of_ble_eq_true rfl, Nat.le_of_ble_eq_true rfl⟩) (bs_RV hB (hP.sub (ws' := [(a1, .inr (3, [.ref a2, .ref a3, .int (nI na)])), (a2, .inl (cyI, 10, .inl fa))]) [1, 2] rfl) 0 rfl rfl) rfl rfl hl.1 rfl (lv_room (Nat.le_of_ble_eq_true rfl)) dX7_count_92 ⟨Nat.le_of_ble_eq_true rfl, Nat.le_of_ble_eq_true rfl⟩)) (fun r_5 hr_5 => ?_)
        exact W.iret (v := r_5) hx hb hr (fun t ht hW => ⟨r_5, rfl, trivial, ht⟩) (fun q h => by cases h) dX7_count_95
      · skip
        have ew_2 : p1 = 4 := w_2
        refine W.eq (g2 := F0 m 25 ls (.int 4 :: [])) (by rw [ew_2]) ?_
        refine lv_tableIn (off := 71) (tgt := 96) hx hb dX7_count_25 (by decide) (by decide) (by decide) (by decide) ?_
        refine lv_aload_n hx hb dX7_count_96 rfl (lv_at hl 0 rfl) ?_
        refine va_get (D := (dC, dI)) (ci := 5) (v := .ref a1) (C := RX7) (T := TX7) (N := 7) hx hb hts hnX7_count_X7 hown hK hP 0 rfl rfl 0 (by decide) (hts (.fieldLink RX7 10 "RingMeets" "now" "LRingMeets$Scene;") (by decide +kernel)) (fun _ h9 => h9) rfl dX7_count_97 ?_
        refine va_getN (D := (dC, dI)) (ci := 3) (v := .ref a3) (C := RX4) (T := TX4) (N := 3) hx hb hts hnX7_count_X4 hown hK hP 1 rfl rfl 1 (by decide) (hN.fld 3 rfl) (fun _ h9 => h9) rfl dX7_count_100 ?_
        refine va_getN (D := (dC, dI)) (ci := 2) (v := .int (nI za)) (C := RX3) (T := TX3) (N := 2) hx hb hts hnX7_count_X3 hown hK hP 3 rfl rfl 1 (by decide) (hN.fld 2 rfl) (fun _ h9 => h9) rfl dX7_count_103 ?_
        exact W.iret (v := (nI za)) hx hb hr (fun t ht hW => ⟨(nI za), rfl, trivial, ht⟩) (fun q h => by cases h) dX7_count_106
      · skip
        have ew_2 : p1 = 5 := w_2
        refine W.eq (g2 := F0 m 25 ls (.int 5 :: [])) (by rw [ew_2]) ?_
        refine lv_tableIn (off := 82) (tgt := 107) hx hb dX7_count_25 (by decide) (by decide) (by decide) (by decide) ?_
        refine lv_aload_n hx hb dX7_count_107 rfl (lv_at hl 0 rfl) ?_
        refine va_get (D := (dC, dI)) (ci := 5) (v := .int kp) (C := RX7) (T := TX7) (N := 7) hx hb hts hnX7_count_X7 hown hK hP 0 rfl rfl 5 (by decide) (hts (.fieldLink RX7 199 "RingMeets" "kept" "I") (by decide +kernel)) (fun _ h9 => h9) rfl dX7_count_108 ?_
        exact W.iret (v := kp) hx hb hr (fun t ht hW => ⟨kp, rfl, trivial, ht⟩) (fun q h => by cases h) dX7_count_111
  · skip
    have ic_1 := ci_nlt (rfl : Int32.toInt p1 = _) (show Int32.toInt 10 = 10 by decide) c_1
    refine lv_iload_n hx hb dX7_count_6 rfl (lv_at hl 1 rfl) ?_
    refine lv_bipush (v := 20) hx hb dX7_count_7 (by decide) ?_
    refine lv_icmp_ge (tgt := 24) hx hb dX7_count_9 (by decide) (fun c_6 => ?_) (fun c_6 => ?_)
    · skip
      have ic_6 := ci_le (show Int32.toInt 20 = 20 by decide) (rfl : Int32.toInt p1 = _) c_6
      refine lv_iload_n hx hb dX7_count_24 rfl (lv_at hl 1 rfl) ?_
      rcases nb_sw p1 5 5 rfl with w_7 | ⟨w_7k, w_7l, w_7⟩
      · skip
        refine lv_tableOut (tgt := 112) hx hb dX7_count_25 w_7 (by decide) ?_
        refine lv_bipush (v := (-2)) hx hb dX7_count_112 (by decide) ?_
        exact W.iret (v := (-2)) hx hb hr (fun t ht hW => ⟨(-2), rfl, trivial, ht⟩) (fun q h => by cases h) dX7_count_114
      · skip
        rcases (show w_7k = 0 ∨ w_7k = 1 ∨ w_7k = 2 ∨ w_7k = 3 ∨ w_7k = 4 ∨ w_7k = 5 by omega) with rfl | rfl | rfl | rfl | rfl | rfl
        · skip
          have ew_7 : p1 = 0 := w_7
          refine W.eq (g2 := F0 m 25 ls (.int 0 :: [])) (by rw [ew_7]) ?_
          refine lv_tableIn (off := 39) (tgt := 64) hx hb dX7_count_25 (by decide) (by decide) (by decide) (by decide) ?_
          refine lv_aload_n hx hb dX7_count_64 rfl (lv_at hl 0 rfl) ?_
          refine va_get (D := (dC, dI)) (ci := 5) (v := .ref a1) (C := RX7) (T := TX7) (N := 7) hx hb hts hnX7_count_X7 hown hK hP 0 rfl rfl 0 (by decide) (hts (.fieldLink RX7 10 "RingMeets" "now" "LRingMeets$Scene;") (by decide +kernel)) (fun _ h9 => h9) rfl dX7_count_65 ?_
          refine va_getN (D := (dC, dI)) (ci := 3) (v := .int (nI na)) (C := RX4) (T := TX4) (N := 3) hx hb hts hnX7_count_X4 hown hK hP 1 rfl rfl 2 (by decide) (hN.fld 4 rfl) (fun _ h9 => h9) rfl dX7_count_68 ?_
          exact W.iret (v := (nI na)) hx hb hr (fun t ht hW => ⟨(nI na), rfl, trivial, ht⟩) (fun q h => by cases h) dX7_count_71
        · skip
          have ew_7 : p1 = 1 := w_7
          refine W.eq (g2 := F0 m 25 ls (.int 1 :: [])) (by rw [ew_7]) ?_
          refine lv_tableIn (off := 47) (tgt := 72) hx hb dX7_count_25 (by decide) (by decide) (by decide) (by decide) ?_
          refine lv_aload_n hx hb dX7_count_72 rfl (lv_at hl 0 rfl) ?_
          refine va_get (D := (dC, dI)) (ci := 5) (v := .ref a1) (C := RX7) (T := TX7) (N := 7) hx hb hts hnX7_count_X7 hown hK hP 0 rfl rfl 0 (by decide) (hts (.fieldLink RX7 10 "RingMeets" "now" "LRingMeets$Scene;") (by decide +kernel)) (fun _ h9 => h9) rfl dX7_count_73 ?_
          refine vp_callSi (va_Run.run (va_runV (As := []) (rest := []) ⟨hx, hb, hml, hown, hts⟩ (mX4_walkersInAll l dC dI cyI cyZ a1 a2 a3 na fa (by omega)) (cwV 0 hts gX7_count_X4_walkersInAll rfl rfl rfl (by decide +kernel) ⟨Nat.le_of_ble_eq_true rfl, Nat.le_of_ble_eq_true rfl⟩) (bs_RV hB (hP.sub (ws' := [(a1, .inr (3, [.ref a2, .ref a3, .int (nI na)])), (a2, .inl (cyI, 10, .inl fa))]) [1, 2] rfl) 0 rfl rfl) rfl rfl hl.1 rfl (lv_room (Nat.le_of_ble_eq_true rfl)) dX7_count_76 ⟨Nat.le_of_ble_eq_true rfl, Nat.le_of_ble_eq_true rfl⟩)) (fun r_8 hr_8 => ?_)
          exact W.iret (v := r_8) hx hb hr (fun t ht hW => ⟨r_8, rfl, trivial, ht⟩) (fun q h => by cases h) dX7_count_79
        · skip
          have ew_7 : p1 = 2 := w_7
          refine W.eq (g2 := F0 m 25 ls (.int 2 :: [])) (by rw [ew_7]) ?_
          refine lv_tableIn (off := 55) (tgt := 80) hx hb dX7_count_25 (by decide) (by decide) (by decide) (by decide) ?_
          refine lv_aload_n hx hb dX7_count_80 rfl (lv_at hl 0 rfl) ?_
          refine va_get (D := (dC, dI)) (ci := 5) (v := .ref a1) (C := RX7) (T := TX7) (N := 7) hx hb hts hnX7_count_X7 hown hK hP 0 rfl rfl 0 (by decide) (hts (.fieldLink RX7 10 "RingMeets" "now" "LRingMeets$Scene;") (by decide +kernel)) (fun _ h9 => h9) rfl dX7_count_81 ?_
          refine vp_callSi (va_Run.run (va_runV (As := []) (rest := []) ⟨hx, hb, hml, hown, hts⟩ (mX4_stands l dC dI cyI cyZ a1 a2 a3 na fa (by omega)) (cwV 0 hts gX7_count_X4_stands rfl rfl rfl (by decide +kernel) ⟨Nat.le_of_ble_eq_true rfl, Nat.le_of_ble_eq_true rfl⟩) (bs_RV hB (hP.sub (ws' := [(a1, .inr (3, [.ref a2, .ref a3, .int (nI na)])), (a2, .inl (cyI, 10, .inl fa))]) [1, 2] rfl) 0 rfl rfl) rfl rfl hl.1 rfl (lv_room (Nat.le_of_ble_eq_true rfl)) dX7_count_84 ⟨Nat.le_of_ble_eq_true rfl, Nat.le_of_ble_eq_true rfl⟩)) (fun r_9 hr_9 => ?_)
          exact W.iret (v := r_9) hx hb hr (fun t ht hW => ⟨r_9, rfl, trivial, ht⟩) (fun q h => by cases h) dX7_count_87
        · skip
          have ew_7 : p1 = 3 := w_7
          refine W.eq (g2 := F0 m 25 ls (.int 3 :: [])) (by rw [ew_7]) ?_
          refine lv_tableIn (off := 63) (tgt := 88) hx hb dX7_count_25 (by decide) (by decide) (by decide) (by decide) ?_
          refine lv_aload_n hx hb dX7_count_88 rfl (lv_at hl 0 rfl) ?_
          refine va_get (D := (dC, dI)) (ci := 5) (v := .ref a1) (C := RX7) (T := TX7) (N := 7) hx hb hts hnX7_count_X7 hown hK hP 0 rfl rfl 0 (by decide) (hts (.fieldLink RX7 10 "RingMeets" "now" "LRingMeets$Scene;") (by decide +kernel)) (fun _ h9 => h9) rfl dX7_count_89 ?_
          refine vp_callSi (va_Run.run (va_runV (As := []) (rest := []) ⟨hx, hb, hml, hown, hts⟩ (mX4_towers l dC dI cyI cyZ a1 a2 a3 na fa (by omega)) (cwV 0 hts gX7_count_X4_towers rfl rfl rfl (by decide +kernel) ⟨Nat.le_of_ble_eq_true rfl, Nat.le_of_ble_eq_true rfl⟩) (bs_RV hB (hP.sub (ws' := [(a1, .inr (3, [.ref a2, .ref a3, .int (nI na)])), (a2, .inl (cyI, 10, .inl fa))]) [1, 2] rfl) 0 rfl rfl) rfl rfl hl.1 rfl (lv_room (Nat.le_of_ble_eq_true rfl)) dX7_count_92 ⟨Nat.le_of_ble_eq_true rfl, Nat.le_of_ble_eq_true rfl⟩)) (fun r_10 hr_10 => ?_)
          exact W.iret (v := r_10) hx hb hr (fun t ht hW => ⟨r_10, rfl, trivial, ht⟩) (fun q h => by cases h) dX7_count_95
        · skip
          have ew_7 : p1 = 4 := w_7
          refine W.eq (g2 := F0 m 25 ls (.int 4 :: [])) (by rw [ew_7]) ?_
          refine lv_tableIn (off := 71) (tgt := 96) hx hb dX7_count_25 (by decide) (by decide) (by decide) (by decide) ?_
          refine lv_aload_n hx hb dX7_count_96 rfl (lv_at hl 0 rfl) ?_
          refine va_get (D := (dC, dI)) (ci := 5) (v := .ref a1) (C := RX7) (T := TX7) (N := 7) hx hb hts hnX7_count_X7 hown hK hP 0 rfl rfl 0 (by decide) (hts (.fieldLink RX7 10 "RingMeets" "now" "LRingMeets$Scene;") (by decide +kernel)) (fun _ h9 => h9) rfl dX7_count_97 ?_
          refine va_getN (D := (dC, dI)) (ci := 3) (v := .ref a3) (C := RX4) (T := TX4) (N := 3) hx hb hts hnX7_count_X4 hown hK hP 1 rfl rfl 1 (by decide) (hN.fld 3 rfl) (fun _ h9 => h9) rfl dX7_count_100 ?_
          refine va_getN (D := (dC, dI)) (ci := 2) (v := .int (nI za)) (C := RX3) (T := TX3) (N := 2) hx hb hts hnX7_count_X3 hown hK hP 3 rfl rfl 1 (by decide) (hN.fld 2 rfl) (fun _ h9 => h9) rfl dX7_count_103 ?_
          exact W.iret (v := (nI za)) hx hb hr (fun t ht hW => ⟨(nI za), rfl, trivial, ht⟩) (fun q h => by cases h) dX7_count_106
        · skip
          have ew_7 : p1 = 5 := w_7
          refine W.eq (g2 := F0 m 25 ls (.int 5 :: [])) (by rw [ew_7]) ?_
          refine lv_tableIn (off := 82) (tgt := 107) hx hb dX7_count_25 (by decide) (by decide) (by decide) (by decide) ?_
          refine lv_aload_n hx hb dX7_count_107 rfl (lv_at hl 0 rfl) ?_
          refine va_get (D := (dC, dI)) (ci := 5) (v := .int kp) (C := RX7) (T := TX7) (N := 7) hx hb hts hnX7_count_X7 hown hK hP 0 rfl rfl 5 (by decide) (hts (.fieldLink RX7 199 "RingMeets" "kept" "I") (by decide +kernel)) (fun _ h9 => h9) rfl dX7_count_108 ?_
          exact W.iret (v := kp) hx hb hr (fun t ht hW => ⟨kp, rfl, trivial, ht⟩) (fun q h => by cases h) dX7_count_111
    · skip
      have ic_6 := ci_nle (show Int32.toInt 20 = 20 by decide) (rfl : Int32.toInt p1 = _) c_6
      refine lv_aload_n hx hb dX7_count_12 rfl (lv_at hl 0 rfl) ?_
      refine va_get (D := (dC, dI)) (ci := 5) (v := .ref a1) (C := RX7) (T := TX7) (N := 7) hx hb hts hnX7_count_X7 hown hK hP 0 rfl rfl 0 (by decide) (hts (.fieldLink RX7 10 "RingMeets" "now" "LRingMeets$Scene;") (by decide +kernel)) (fun _ h9 => h9) rfl dX7_count_13 ?_
      refine lv_iload_n hx hb dX7_count_16 rfl (lv_at hl 1 rfl) ?_
      refine lv_bipush (v := 10) hx hb dX7_count_17 (by decide) ?_
      refine lv_isub hx hb dX7_count_19 ?_
      refine lv_topi (fun x_11 ex_11 => ?_)
      refine vp_callSi (va_Run.run (va_runV (As := [.int x_11]) (rest := []) ⟨hx, hb, hml, hown, hts⟩ (mX4_walkersOn l dC dI cyI cyZ a1 a2 a3 na fa x_11 (by omega)) (cwV 1 hts gX7_count_X4_walkersOn rfl rfl rfl (by decide +kernel) ⟨Nat.le_of_ble_eq_true rfl, Nat.le_of_ble_eq_true rfl⟩) (bs_RV hB (hP.sub (ws' := [(a1, .inr (3, [.ref a2, .ref a3, .int (nI na)])), (a2, .inl (cyI, 10, .inl fa))]) [1, 2] rfl) 0 rfl rfl) rfl rfl hl.1 rfl (lv_room (Nat.le_of_ble_eq_true rfl)) dX7_count_20 ⟨Nat.le_of_ble_eq_true rfl, Nat.le_of_ble_eq_true rfl⟩)) (fun r_12 hr_12 => ?_)
      exact W.iret (v := r_12) hx hb hr (fun t ht hW => ⟨r_12, rfl, trivial, ht⟩) (fun q h => by cases h) dX7_count_23

theorem hnX7_imageOf_X7 : ∀ w ∈ wsX70, w ∈ wsX7_imageOf := fun _ h => List.mem_cons_of_mem _ (List.mem_append_right _ h)
set_option maxHeartbeats 4000000 in
set_option maxRecDepth 100000 in
theorem mX7_imageOf_00 (l : Launch) (dC : Nat → ClassId) (dI : Nat → Nat → Nat) (cyI cyZ : ClassId) (x0 : Nat) (a1 : Nat) (b1 : Nat) (c1 : Nat) (xl : Nat) (xb : Nat) (kp : Int32)  : Met l yX7_imageOf wsX7_imageOf ({ frames := 0, cells := 0, slots := 0, locals := 0 }) (bs_R dC dI cyI cyZ [.ref x0, .int 0] [(x0, .inr (5, [.ref a1, .ref b1, .ref c1, .ref xl, .ref xb, .int kp, .null]))]) (va_Sr (fun r : Nat => r = b1) (fun k => .ref k)) 0 0 (fun _ => False) := by
  refine Met.ofW (cc := cX7_imageOf) (maxL := 2) (ret := (some (.object "RingMeets$Scene"))) (by decide) rfl ?_
  intro p e s m args below meth c s₁ B hml hv
  obtain ⟨rfl, hB, hP⟩ := hv
  have hK := hB.1
  have hN := hB.2
  have hx := B.exec
  have hb := B.bytes
  have hr := B.returns
  have hts := atoms_spec (ws := wsX7_imageOf) B.pre
  have hown : s.vm.findClass RX7 = some m.cls := findClass_of_methodNamed B.named
  have hlocks := B.notSynchronized
  have hP : va_P (dC, dI) vwCl [(x0, .inr (5, [.ref a1, .ref b1, .ref c1, .ref xl, .ref xb, .int kp, .null]))] s.heap := hP
  have hl := lv_entry ([.ref x0, .int 0]) (n := 2) (Nat.le_of_ble_eq_true rfl)
  rw [lg_entry_eq]
  generalize (lg_sl ([.ref x0, .int 0]) ++ List.replicate (2 - (lg_sl ([.ref x0, .int 0])).length) Slot.unset).toArray = ls at hl ⊢
  have hl : lv_has ls 2 [(0, .ref x0), (1, .int 0)] := hl
  refine lv_iload_n hx hb dX7_imageOf_0 rfl (lv_at hl 1 rfl) ?_
  refine lv_if_ne (tgt := 11) hx hb dX7_imageOf_1 (by decide) (fun c_1 => ?_) (fun c_1 => ?_)
  · skip
    exact absurd c_1 (by decide)
  · skip
    refine lv_aload_n hx hb dX7_imageOf_4 rfl (lv_at hl 0 rfl) ?_
    refine va_get (D := (dC, dI)) (ci := 5) (v := .ref b1) (C := RX7) (T := TX7) (N := 7) hx hb hts hnX7_imageOf_X7 hown hK hP 0 rfl rfl 1 (by decide) (hts (.fieldLink RX7 16 "RingMeets" "firstImage" "LRingMeets$Scene;") (by decide +kernel)) (fun _ h9 => h9) rfl dX7_imageOf_5 ?_
    refine lv_goto (tgt := 15) hx hb dX7_imageOf_8 (by decide) ?_
    exact W.aret hx hb hr (Or.inl ⟨_, rfl⟩) (Or.inr ⟨_, rfl⟩) (fun t ht hW => ⟨b1, rfl, rfl, ht⟩) (fun q h => by cases h) dX7_imageOf_15

set_option maxHeartbeats 4000000 in
set_option maxRecDepth 100000 in
theorem mX7_imageOf_01 (l : Launch) (dC : Nat → ClassId) (dI : Nat → Nat → Nat) (cyI cyZ : ClassId) (x0 : Nat) (a1 : Nat) (b1 : Nat) (c1 : Nat) (xl : Nat) (xb : Nat) (kp : Int32) (wk : Nat)  : Met l yX7_imageOf wsX7_imageOf ({ frames := 0, cells := 0, slots := 0, locals := 0 }) (bs_R dC dI cyI cyZ [.ref x0, .int 0] [(x0, .inr (5, [.ref a1, .ref b1, .ref c1, .ref xl, .ref xb, .int kp, .ref wk]))]) (va_Sr (fun r : Nat => r = b1) (fun k => .ref k)) 0 0 (fun _ => False) := by
  refine Met.ofW (cc := cX7_imageOf) (maxL := 2) (ret := (some (.object "RingMeets$Scene"))) (by decide) rfl ?_
  intro p e s m args below meth c s₁ B hml hv
  obtain ⟨rfl, hB, hP⟩ := hv
  have hK := hB.1
  have hN := hB.2
  have hx := B.exec
  have hb := B.bytes
  have hr := B.returns
  have hts := atoms_spec (ws := wsX7_imageOf) B.pre
  have hown : s.vm.findClass RX7 = some m.cls := findClass_of_methodNamed B.named
  have hlocks := B.notSynchronized
  have hP : va_P (dC, dI) vwCl [(x0, .inr (5, [.ref a1, .ref b1, .ref c1, .ref xl, .ref xb, .int kp, .ref wk]))] s.heap := hP
  have hl := lv_entry ([.ref x0, .int 0]) (n := 2) (Nat.le_of_ble_eq_true rfl)
  rw [lg_entry_eq]
  generalize (lg_sl ([.ref x0, .int 0]) ++ List.replicate (2 - (lg_sl ([.ref x0, .int 0])).length) Slot.unset).toArray = ls at hl ⊢
  have hl : lv_has ls 2 [(0, .ref x0), (1, .int 0)] := hl
  refine lv_iload_n hx hb dX7_imageOf_0 rfl (lv_at hl 1 rfl) ?_
  refine lv_if_ne (tgt := 11) hx hb dX7_imageOf_1 (by decide) (fun c_1 => ?_) (fun c_1 => ?_)
  · skip
    exact absurd c_1 (by decide)
  · skip
    refine lv_aload_n hx hb dX7_imageOf_4 rfl (lv_at hl 0 rfl) ?_
    refine va_get (D := (dC, dI)) (ci := 5) (v := .ref b1) (C := RX7) (T := TX7) (N := 7) hx hb hts hnX7_imageOf_X7 hown hK hP 0 rfl rfl 1 (by decide) (hts (.fieldLink RX7 16 "RingMeets" "firstImage" "LRingMeets$Scene;") (by decide +kernel)) (fun _ h9 => h9) rfl dX7_imageOf_5 ?_
    refine lv_goto (tgt := 15) hx hb dX7_imageOf_8 (by decide) ?_
    exact W.aret hx hb hr (Or.inl ⟨_, rfl⟩) (Or.inr ⟨_, rfl⟩) (fun t ht hW => ⟨b1, rfl, rfl, ht⟩) (fun q h => by cases h) dX7_imageOf_15

set_option maxHeartbeats 4000000 in
set_option maxRecDepth 100000 in
theorem mX7_imageOf_10 (l : Launch) (dC : Nat → ClassId) (dI : Nat → Nat → Nat) (cyI cyZ : ClassId) (x0 : Nat) (a1 : Nat) (b1 : Nat) (c1 : Nat) (xl : Nat) (xb : Nat) (kp : Int32)  : Met l yX7_imageOf wsX7_imageOf ({ frames := 0, cells := 0, slots := 0, locals := 0 }) (bs_R dC dI cyI cyZ [.ref x0, .int 1] [(x0, .inr (5, [.ref a1, .ref b1, .ref c1, .ref xl, .ref xb, .int kp, .null]))]) (va_Sr (fun r : Nat => r = c1) (fun k => .ref k)) 0 0 (fun _ => False) := by
  refine Met.ofW (cc := cX7_imageOf) (maxL := 2) (ret := (some (.object "RingMeets$Scene"))) (by decide) rfl ?_
  intro p e s m args below meth c s₁ B hml hv
  obtain ⟨rfl, hB, hP⟩ := hv
  have hK := hB.1
  have hN := hB.2
  have hx := B.exec
  have hb := B.bytes
  have hr := B.returns
  have hts := atoms_spec (ws := wsX7_imageOf) B.pre
  have hown : s.vm.findClass RX7 = some m.cls := findClass_of_methodNamed B.named
  have hlocks := B.notSynchronized
  have hP : va_P (dC, dI) vwCl [(x0, .inr (5, [.ref a1, .ref b1, .ref c1, .ref xl, .ref xb, .int kp, .null]))] s.heap := hP
  have hl := lv_entry ([.ref x0, .int 1]) (n := 2) (Nat.le_of_ble_eq_true rfl)
  rw [lg_entry_eq]
  generalize (lg_sl ([.ref x0, .int 1]) ++ List.replicate (2 - (lg_sl ([.ref x0, .int 1])).length) Slot.unset).toArray = ls at hl ⊢
  have hl : lv_has ls 2 [(0, .ref x0), (1, .int 1)] := hl
  refine lv_iload_n hx hb dX7_imageOf_0 rfl (lv_at hl 1 rfl) ?_
  refine lv_if_ne (tgt := 11) hx hb dX7_imageOf_1 (by decide) (fun c_1 => ?_) (fun c_1 => ?_)
  · skip
    refine lv_aload_n hx hb dX7_imageOf_11 rfl (lv_at hl 0 rfl) ?_
    refine va_get (D := (dC, dI)) (ci := 5) (v := .ref c1) (C := RX7) (T := TX7) (N := 7) hx hb hts hnX7_imageOf_X7 hown hK hP 0 rfl rfl 2 (by decide) (hts (.fieldLink RX7 19 "RingMeets" "secondImage" "LRingMeets$Scene;") (by decide +kernel)) (fun _ h9 => h9) rfl dX7_imageOf_12 ?_
    exact W.aret hx hb hr (Or.inl ⟨_, rfl⟩) (Or.inr ⟨_, rfl⟩) (fun t ht hW => ⟨c1, rfl, rfl, ht⟩) (fun q h => by cases h) dX7_imageOf_15
  · skip
    exact absurd c_1 (by decide)

set_option maxHeartbeats 4000000 in
set_option maxRecDepth 100000 in
theorem mX7_imageOf_11 (l : Launch) (dC : Nat → ClassId) (dI : Nat → Nat → Nat) (cyI cyZ : ClassId) (x0 : Nat) (a1 : Nat) (b1 : Nat) (c1 : Nat) (xl : Nat) (xb : Nat) (kp : Int32) (wk : Nat)  : Met l yX7_imageOf wsX7_imageOf ({ frames := 0, cells := 0, slots := 0, locals := 0 }) (bs_R dC dI cyI cyZ [.ref x0, .int 1] [(x0, .inr (5, [.ref a1, .ref b1, .ref c1, .ref xl, .ref xb, .int kp, .ref wk]))]) (va_Sr (fun r : Nat => r = c1) (fun k => .ref k)) 0 0 (fun _ => False) := by
  refine Met.ofW (cc := cX7_imageOf) (maxL := 2) (ret := (some (.object "RingMeets$Scene"))) (by decide) rfl ?_
  intro p e s m args below meth c s₁ B hml hv
  obtain ⟨rfl, hB, hP⟩ := hv
  have hK := hB.1
  have hN := hB.2
  have hx := B.exec
  have hb := B.bytes
  have hr := B.returns
  have hts := atoms_spec (ws := wsX7_imageOf) B.pre
  have hown : s.vm.findClass RX7 = some m.cls := findClass_of_methodNamed B.named
  have hlocks := B.notSynchronized
  have hP : va_P (dC, dI) vwCl [(x0, .inr (5, [.ref a1, .ref b1, .ref c1, .ref xl, .ref xb, .int kp, .ref wk]))] s.heap := hP
  have hl := lv_entry ([.ref x0, .int 1]) (n := 2) (Nat.le_of_ble_eq_true rfl)
  rw [lg_entry_eq]
  generalize (lg_sl ([.ref x0, .int 1]) ++ List.replicate (2 - (lg_sl ([.ref x0, .int 1])).length) Slot.unset).toArray = ls at hl ⊢
  have hl : lv_has ls 2 [(0, .ref x0), (1, .int 1)] := hl
  refine lv_iload_n hx hb dX7_imageOf_0 rfl (lv_at hl 1 rfl) ?_
  refine lv_if_ne (tgt := 11) hx hb dX7_imageOf_1 (by decide) (fun c_1 => ?_) (fun c_1 => ?_)
  · skip
    refine lv_aload_n hx hb dX7_imageOf_11 rfl (lv_at hl 0 rfl) ?_
    refine va_get (D := (dC, dI)) (ci := 5) (v := .ref c1) (C := RX7) (T := TX7) (N := 7) hx hb hts hnX7_imageOf_X7 hown hK hP 0 rfl rfl 2 (by decide) (hts (.fieldLink RX7 19 "RingMeets" "secondImage" "LRingMeets$Scene;") (by decide +kernel)) (fun _ h9 => h9) rfl dX7_imageOf_12 ?_
    exact W.aret hx hb hr (Or.inl ⟨_, rfl⟩) (Or.inr ⟨_, rfl⟩) (fun t ht hW => ⟨c1, rfl, rfl, ht⟩) (fun q h => by cases h) dX7_imageOf_15
  · skip
    exact absurd c_1 (by decide)

theorem hnX7_image_X7 : ∀ w ∈ wsX70, w ∈ wsX7_image := fun _ h => List.mem_cons_of_mem _ (List.mem_append_left _ (List.mem_append_left _ (List.mem_append_right _ h)))
set_option maxHeartbeats 4000000 in
set_option maxRecDepth 100000 in
theorem mX7_image_0 (l : Launch) (dC : Nat → ClassId) (dI : Nat → Nat → Nat) (cyI cyZ : ClassId) (x0 : Nat) (a1 : Nat) (b1 : Nat) (c1 : Nat) (xl : Nat) (xb : Nat) (kp : Int32) (a2 : Nat) (a3 : Nat) (a4 : Nat) (na : Nat) (za : Nat) (b2 : Nat) (b3 : Nat) (b4 : Nat) (nb : Nat) (zb : Nat) (c2 : Nat) (c3 : Nat) (c4 : Nat) (nc : Nat) (zc : Nat) (fa : Nat → Int32) (ga : Nat → Int32) (fb : Nat → Int32) (gb : Nat → Int32) (fc : Nat → Int32) (gc : Nat → Int32) (p1 : Int32) (hna : na ≤ 10) (hza : za ≤ 10) (hnb : nb ≤ 10) (hzb : zb ≤ 10) (hnc : nc ≤ 10) (hzc : zc ≤ 10) (sz : Nat) : Met l yX7_image wsX7_image ({ frames := 2, cells := 0, slots := 0, locals := 44 }) (bs_W dC dI cyI cyZ [.ref x0, .int p1] [(x0, .inr (5, [.ref a1, .ref b1, .ref c1, .ref xl, .ref xb, .int kp, .null])), (a1, .inr (3, [.ref a2, .ref a3, .int (nI na)])), (a2, .inl (cyI, 10, .inl fa)), (a3, .inr (2, [.ref a4, .int (nI za)])), (a4, .inl (cyI, 60, .inl ga)), (b1, .inr (3, [.ref b2, .ref b3, .int (nI nb)])), (b2, .inl (cyI, 10, .inl fb)), (b3, .inr (2, [.ref b4, .int (nI zb)])), (b4, .inl (cyI, 60, .inl gb)), (c1, .inr (3, [.ref c2, .ref c3, .int (nI nc)])), (c2, .inl (cyI, 10, .inl fc)), (c3, .inr (2, [.ref c4, .int (nI zc)])), (c4, .inl (cyI, 60, .inl gc))] sz) (va_Qi (S := Int32 × Nat × (Nat → Int32) × Nat × (Nat → Int32) × Nat × (Nat → Int32) × Nat × (Nat → Int32)) (fun (r : Int32) (q : Int32 × Nat × (Nat → Int32) × Nat × (Nat → Int32) × Nat × (Nat → Int32) × Nat × (Nat → Int32)) => q.2.1 ≤ 10 ∧ q.2.2.2.1 ≤ 10 ∧ q.2.2.2.2.2.1 ≤ 10 ∧ q.2.2.2.2.2.2.2.1 ≤ 10 ∧ r = (if 0 ≤ p1.toInt ∧ p1.toInt ≤ 1 then 1 else -2)) (fun q t => bs_E dC dI (va_A [(x0, .inr (5, [.ref a1, .ref b1, .ref c1, .ref xl, .ref xb, .int kp, .null])), (a1, .inr (3, [.ref a2, .ref a3, .int (nI na)])), (a2, .inl (cyI, 10, .inl fa)), (a3, .inr (2, [.ref a4, .int (nI za)])), (a4, .inl (cyI, 60, .inl ga)), (b1, .inr (3, [.ref b2, .ref b3, .int (nI nb)])), (b2, .inl (cyI, 10, .inl fb)), (b3, .inr (2, [.ref b4, .int (nI zb)])), (b4, .inl (cyI, 60, .inl gb)), (c1, .inr (3, [.ref c2, .ref c3, .int (nI nc)])), (c2, .inl (cyI, 10, .inl fc)), (c3, .inr (2, [.ref c4, .int (nI zc)])), (c4, .inl (cyI, 60, .inl gc))] sz) [(x0, .inr (5, [.ref a1, .ref b1, .ref c1, .ref xl, .ref xb, .int q.1, .null])), (a1, .inr (3, [.ref a2, .ref a3, .int (nI na)])), (a2, .inl (cyI, 10, .inl fa)), (a3, .inr (2, [.ref a4, .int (nI za)])), (a4, .inl (cyI, 60, .inl ga)), (b1, .inr (3, [.ref b2, .ref b3, .int (nI q.2.1)])), (b2, .inl (cyI, 10, .inl q.2.2.1)), (b3, .inr (2, [.ref b4, .int (nI q.2.2.2.1)])), (b4, .inl (cyI, 60, .inl q.2.2.2.2.1)), (c1, .inr (3, [.ref c2, .ref c3, .int (nI q.2.2.2.2.2.1)])), (c2, .inl (cyI, 10, .inl q.2.2.2.2.2.2.1)), (c3, .inr (2, [.ref c4, .int (nI q.2.2.2.2.2.2.2.1)])), (c4, .inl (cyI, 60, .inl q.2.2.2.2.2.2.2.2))] t) (va_A [(x0, .inr (5, [.ref a1, .ref b1, .ref c1, .ref xl, .ref xb, .int kp, .null])), (a1, .inr (3, [.ref a2, .ref a3, .int (nI na)])), (a2, .inl (cyI, 10, .inl fa)), (a3, .inr (2, [.ref a4, .int (nI za)])), (a4, .inl (cyI, 60, .inl ga)), (b1, .inr (3, [.ref b2, .ref b3, .int (nI nb)])), (b2, .inl (cyI, 10, .inl fb)), (b3, .inr (2, [.ref b4, .int (nI zb)])), (b4, .inl (cyI, 60, .inl gb)), (c1, .inr (3, [.ref c2, .ref c3, .int (nI nc)])), (c2, .inl (cyI, 10, .inl fc)), (c3, .inr (2, [.ref c4, .int (nI zc)])), (c4, .inl (cyI, 60, .inl gc))] sz)) 0 0 (va_A [(x0, .inr (5, [.ref a1, .ref b1, .ref c1, .ref xl, .ref xb, .int kp, .null])), (a1, .inr (3, [.ref a2, .ref a3, .int (nI na)])), (a2, .inl (cyI, 10, .inl fa)), (a3, .inr (2, [.ref a4, .int (nI za)])), (a4, .inl (cyI, 60, .inl ga)), (b1, .inr (3, [.ref b2, .ref b3, .int (nI nb)])), (b2, .inl (cyI, 10, .inl fb)), (b3, .inr (2, [.ref b4, .int (nI zb)])), (b4, .inl (cyI, 60, .inl gb)), (c1, .inr (3, [.ref c2, .ref c3, .int (nI nc)])), (c2, .inl (cyI, 10, .inl fc)), (c3, .inr (2, [.ref c4, .int (nI zc)])), (c4, .inl (cyI, 60, .inl gc))] sz) := by
  refine Met.ofW (cc := cX7_image) (maxL := 2) (ret := (some .int)) (by decide) rfl ?_
  intro p e s m args below meth c s₁ B hml hv
  obtain ⟨rfl, hsz, hB, hP, hD0⟩ := hv
  have hK := hB.1
  have hN := hB.2
  have hx := B.exec
  have hb := B.bytes
  have hr := B.returns
  have hts := atoms_spec (ws := wsX7_image) B.pre
  have hown : s.vm.findClass RX7 = some m.cls := findClass_of_methodNamed B.named
  have hlocks := B.notSynchronized
  subst hsz
  have hD := hD0.self (sz := s.heap.size)
  generalize hAe : va_A [(x0, .inr (5, [.ref a1, .ref b1, .ref c1, .ref xl, .ref xb, .int kp, .null])), (a1, .inr (3, [.ref a2, .ref a3, .int (nI na)])), (a2, .inl (cyI, 10, .inl fa)), (a3, .inr (2, [.ref a4, .int (nI za)])), (a4, .inl (cyI, 60, .inl ga)), (b1, .inr (3, [.ref b2, .ref b3, .int (nI nb)])), (b2, .inl (cyI, 10, .inl fb)), (b3, .inr (2, [.ref b4, .int (nI zb)])), (b4, .inl (cyI, 60, .inl gb)), (c1, .inr (3, [.ref c2, .ref c3, .int (nI nc)])), (c2, .inl (cyI, 10, .inl fc)), (c3, .inr (2, [.ref c4, .int (nI zc)])), (c4, .inl (cyI, 60, .inl gc))] s.heap.size = A at hD ⊢
  have hA : ∀ q : Nat, s.heap.size ≤ q → A q := fun q h => by rw [← hAe]; exact Or.inr h
  have hS : va_S A s.heap s.heap [] := va_S.rf
  have hP : va_P (dC, dI) vwCl [(x0, .inr (5, [.ref a1, .ref b1, .ref c1, .ref xl, .ref xb, .int kp, .null])), (a1, .inr (3, [.ref a2, .ref a3, .int (nI na)])), (a2, .inl (cyI, 10, .inl fa)), (a3, .inr (2, [.ref a4, .int (nI za)])), (a4, .inl (cyI, 60, .inl ga)), (b1, .inr (3, [.ref b2, .ref b3, .int (nI nb)])), (b2, .inl (cyI, 10, .inl fb)), (b3, .inr (2, [.ref b4, .int (nI zb)])), (b4, .inl (cyI, 60, .inl gb)), (c1, .inr (3, [.ref c2, .ref c3, .int (nI nc)])), (c2, .inl (cyI, 10, .inl fc)), (c3, .inr (2, [.ref c4, .int (nI zc)])), (c4, .inl (cyI, 60, .inl gc))] s.heap := hP
  have hl := lv_entry ([.ref x0, .int p1]) (n := 2) (Nat.le_of_ble_eq_true rfl)
  rw [lg_entry_eq]
  generalize (lg_sl ([.ref x0, .int p1]) ++ List.replicate (2 - (lg_sl ([.ref x0, .int p1])).length) Slot.unset).toArray = ls at hl ⊢
  have hl : lv_has ls 2 [(0, .ref x0), (1, .int p1)] := hl
  refine lv_iload_n hx hb dX7_image_0 rfl (lv_at hl 1 rfl) ?_
  refine lv_if_lt (tgt := 9) hx hb dX7_image_1 (by decide) (fun c_1 => ?_) (fun c_1 => ?_)
  · skip
    have ic_1 := ci_lt (rfl : Int32.toInt p1 = _) (show Int32.toInt 0 = 0 by decide) c_1
    refine lv_bipush (v := (-2)) hx hb dX7_image_9 (by decide) ?_
    exact W.iret (v := (-2)) hx hb hr (fun t ht hW => ⟨⟨(-2), (kp, nb, fb, zb, gb, nc, fc, zc, gc), rfl, (⟨by omega, by omega, by omega, by omega, by rw [if_neg (by omega)]⟩), ⟨by rw [ht]; exact hP.sub (ws' := [(x0, .inr (5, [.ref a1, .ref b1, .ref c1, .ref xl, .ref xb, .int kp, .null])), (a1, .inr (3, [.ref a2, .ref a3, .int (nI na)])), (a2, .inl (cyI, 10, .inl fa)), (a3, .inr (2, [.ref a4, .int (nI za)])), (a4, .inl (cyI, 60, .inl ga)), (b1, .inr (3, [.ref b2, .ref b3, .int (nI nb)])), (b2, .inl (cyI, 10, .inl fb)), (b3, .inr (2, [.ref b4, .int (nI zb)])), (b4, .inl (cyI, 60, .inl gb)), (c1, .inr (3, [.ref c2, .ref c3, .int (nI nc)])), (c2, .inl (cyI, 10, .inl fc)), (c3, .inr (2, [.ref c4, .int (nI zc)])), (c4, .inl (cyI, 60, .inl gc))]) [0, 1, 2, 3, 4, 5, 6, 7, 8, 9, 10, 11, 12] rfl, hD.sub (ws' := [(x0, .inr (5, [.ref a1, .ref b1, .ref c1, .ref xl, .ref xb, .int kp, .null])), (a1, .inr (3, [.ref a2, .ref a3, .int (nI na)])), (a2, .inl (cyI, 10, .inl fa)), (a3, .inr (2, [.ref a4, .int (nI za)])), (a4, .inl (cyI, 60, .inl ga)), (b1, .inr (3, [.ref b2, .ref b3, .int (nI nb)])), (b2, .inl (cyI, 10, .inl fb)), (b3, .inr (2, [.ref b4, .int (nI zb)])), (b4, .inl (cyI, 60, .inl gb)), (c1, .inr (3, [.ref c2, .ref c3, .int (nI nc)])), (c2, .inl (cyI, 10, .inl fc)), (c3, .inr (2, [.ref c4, .int (nI zc)])), (c4, .inl (cyI, 60, .inl gc))]) [0, 1, 2, 3, 4, 5, 6, 7, 8, 9, 10, 11, 12] (by decide) rfl⟩⟩, hS.F ht⟩) hS.2.2 dX7_image_11
  · skip
    have ic_1 := ci_nlt (rfl : Int32.toInt p1 = _) (show Int32.toInt 0 = 0 by decide) c_1
    refine lv_iload_n hx hb dX7_image_4 rfl (lv_at hl 1 rfl) ?_
    refine lv_iconst (v := 2) hx hb dX7_image_5 (by decide) ?_
    refine lv_icmp_lt (tgt := 12) hx hb dX7_image_6 (by decide) (fun c_2 => ?_) (fun c_2 => ?_)
    · skip
      have ic_2 := ci_lt (rfl : Int32.toInt p1 = _) (show Int32.toInt 2 = 2 by decide) c_2
      rcases nb_01 (x := p1) (by omega) (by omega) with e9 | e9
      · skip
        subst e9
        refine lv_aload_n hx hb dX7_image_12 rfl (lv_at hl 0 rfl) ?_
        refine lv_iload_n hx hb dX7_image_13 rfl (lv_at hl 1 rfl) ?_
        refine va_csr (va_Run.run (va_runV (As := [.int 0]) (rest := []) ⟨hx, hb, hml, hown, hts⟩ (mX7_imageOf_00 l dC dI cyI cyZ x0 a1 b1 c1 xl xb kp ) (cwV 1 hts gX7_image_X7_imageOf rfl rfl rfl (by decide +kernel) ⟨Nat.le_of_ble_eq_true rfl, Nat.le_of_ble_eq_true rfl⟩) (bs_RV hB (hP.sub (ws' := [(x0, .inr (5, [.ref a1, .ref b1, .ref c1, .ref xl, .ref xb, .int kp, .null]))]) [0] rfl) 0 rfl rfl) rfl rfl hl.1 rfl (lv_room (Nat.le_of_ble_eq_true rfl)) dX7_image_14 ⟨Nat.le_of_ble_eq_true rfl, Nat.le_of_ble_eq_true rfl⟩)) (fun r_3 hr_3 => ?_)
        obtain rfl : b1 = r_3 := Eq.symm hr_3
        refine lv_aload_n hx hb dX7_image_17 rfl (lv_at hl 0 rfl) ?_
        refine va_get (D := (dC, dI)) (ci := 5) (v := .ref a1) (C := RX7) (T := TX7) (N := 7) hx hb hts hnX7_image_X7 hown hK hP 0 rfl rfl 0 (by decide) (hts (.fieldLink RX7 10 "RingMeets" "now" "LRingMeets$Scene;") (by decide +kernel)) (fun _ h9 => h9) rfl dX7_image_18 ?_
        have f_4 := va_free (wc := [(b1, .inr (3, [.ref b2, .ref b3, .int (nI nb)])), (b2, .inl (cyI, 10, .inl fb)), (b3, .inr (2, [.ref b4, .int (nI zb)])), (b4, .inl (cyI, 60, .inl gb)), (a1, .inr (3, [.ref a2, .ref a3, .int (nI na)])), (a2, .inl (cyI, 10, .inl fa)), (a3, .inr (2, [.ref a4, .int (nI za)])), (a4, .inl (cyI, 60, .inl ga))]) hD hS hA [5, 6, 7, 8, 1, 2, 3, 4] rfl
        refine va_callv (va_runV (As := [.ref a1]) (rest := []) ⟨hx, hb, hml, hown, hts⟩ (mX4_copyFrom l dC dI cyI cyZ b1 b2 b3 b4 a1 a2 a3 a4 nb na zb za fb fa gb ga  _) (cwV 1 hts gX7_image_X4_copyFrom rfl rfl rfl (by decide +kernel) ⟨Nat.le_of_ble_eq_true rfl, Nat.le_of_ble_eq_true rfl⟩) (bs_WV hB (hP.sub (ws' := [(b1, .inr (3, [.ref b2, .ref b3, .int (nI nb)])), (b2, .inl (cyI, 10, .inl fb)), (b3, .inr (2, [.ref b4, .int (nI zb)])), (b4, .inl (cyI, 60, .inl gb)), (a1, .inr (3, [.ref a2, .ref a3, .int (nI na)])), (a2, .inl (cyI, 10, .inl fa)), (a3, .inr (2, [.ref a4, .int (nI za)])), (a4, .inl (cyI, 60, .inl ga))]) [5, 6, 7, 8, 1, 2, 3, 4] rfl) (hD.sub (ws' := [(b1, .inr (3, [.ref b2, .ref b3, .int (nI nb)])), (b2, .inl (cyI, 10, .inl fb)), (b3, .inr (2, [.ref b4, .int (nI zb)])), (b4, .inl (cyI, 60, .inl gb)), (a1, .inr (3, [.ref a2, .ref a3, .int (nI na)])), (a2, .inl (cyI, 10, .inl fa)), (a3, .inr (2, [.ref a4, .int (nI za)])), (a4, .inl (cyI, 60, .inl ga))]) [5, 6, 7, 8, 1, 2, 3, 4] (by decide) rfl) 0 rfl rfl) rfl rfl hl.1 rfl (lv_room (Nat.le_of_ble_eq_true rfl)) dX7_image_21 ⟨Nat.le_of_ble_eq_true rfl, Nat.le_of_ble_eq_true rfl⟩) hS (fun q _ h => f_4 q h) f_4 (fun uh_5 t H1 locs ht hvm h_5 hB1 hz1 hk1 hS => ?_)
        obtain ⟨g_6, g_7⟩ := uh_5
        have h_5 : ∀ i, i < 60 → g_7 i = ga i := h_5
        obtain ⟨hP1, hD1⟩ := hB1
        rw [ht] at hP1
        obtain ⟨hP, hD⟩ := va_join (wr := [(x0, .inr (5, [.ref a1, .ref b1, .ref c1, .ref xl, .ref xb, .int kp, .null])), (c1, .inr (3, [.ref c2, .ref c3, .int (nI nc)])), (c2, .inl (cyI, 10, .inl fc)), (c3, .inr (2, [.ref c4, .int (nI zc)])), (c4, .inl (cyI, 60, .inl gc))]) (w1 := [(b1, .inr (3, [.ref b2, .ref b3, .int (nI na)])), (b2, .inl (cyI, 10, .inl g_6)), (b3, .inr (2, [.ref b4, .int (nI za)])), (b4, .inl (cyI, 60, .inl g_7)), (a1, .inr (3, [.ref a2, .ref a3, .int (nI na)])), (a2, .inl (cyI, 10, .inl fa)), (a3, .inr (2, [.ref a4, .int (nI za)])), (a4, .inl (cyI, 60, .inl ga))]) hP hD [5, 6, 7, 8, 1, 2, 3, 4] [0, 9, 10, 11, 12] rfl rfl (by decide) (by decide) hk1 f_4 hP1 hD1
        generalize H1 = H at hP hS ⊢
        have hP : va_P (dC, dI) vwCl [(x0, .inr (5, [.ref a1, .ref b1, .ref c1, .ref xl, .ref xb, .int kp, .null])), (c1, .inr (3, [.ref c2, .ref c3, .int (nI nc)])), (c2, .inl (cyI, 10, .inl fc)), (c3, .inr (2, [.ref c4, .int (nI zc)])), (c4, .inl (cyI, 60, .inl gc)), (b1, .inr (3, [.ref b2, .ref b3, .int (nI na)])), (b2, .inl (cyI, 10, .inl g_6)), (b3, .inr (2, [.ref b4, .int (nI za)])), (b4, .inl (cyI, 60, .inl g_7)), (a1, .inr (3, [.ref a2, .ref a3, .int (nI na)])), (a2, .inl (cyI, 10, .inl fa)), (a3, .inr (2, [.ref a4, .int (nI za)])), (a4, .inl (cyI, 60, .inl ga))] _ := hP
        have hD : va_D A [(x0, .inr (5, [.ref a1, .ref b1, .ref c1, .ref xl, .ref xb, .int kp, .null])), (c1, .inr (3, [.ref c2, .ref c3, .int (nI nc)])), (c2, .inl (cyI, 10, .inl fc)), (c3, .inr (2, [.ref c4, .int (nI zc)])), (c4, .inl (cyI, 60, .inl gc)), (b1, .inr (3, [.ref b2, .ref b3, .int (nI na)])), (b2, .inl (cyI, 10, .inl g_6)), (b3, .inr (2, [.ref b4, .int (nI za)])), (b4, .inl (cyI, 60, .inl g_7)), (a1, .inr (3, [.ref a2, .ref a3, .int (nI na)])), (a2, .inl (cyI, 10, .inl fa)), (a3, .inr (2, [.ref a4, .int (nI za)])), (a4, .inl (cyI, 60, .inl ga))] := hD
        refine lv_aload_n hx hb dX7_image_24 rfl (lv_at hl 0 rfl) ?_
        refine lv_dup hx hb dX7_image_25 rfl ?_
        refine va_get (D := (dC, dI)) (ci := 5) (v := .int kp) (C := RX7) (T := TX7) (N := 7) hx hb hts hnX7_image_X7 hown hK hP 0 rfl rfl 5 (by decide) (hts (.fieldLink RX7 199 "RingMeets" "kept" "I") (by decide +kernel)) (fun _ h9 => h9) rfl dX7_image_26 ?_
        refine lv_iconst (v := 1) hx hb dX7_image_29 (by decide) ?_
        refine lv_iload_n hx hb dX7_image_30 rfl (lv_at hl 1 rfl) ?_
        refine lv_ishl hx hb dX7_image_31 ?_
        refine lv_topi (fun x_8 ex_8 => ?_)
        obtain rfl : 1 = x_8 := (ex_8.trans (by decide)).symm
        refine lv_ior hx hb dX7_image_32 ?_
        refine lv_topi (fun x_9 ex_9 => ?_)
        refine va_put (D := (dC, dI)) (ci := 5) (v := .int x_9) (ty := .int) (C := RX7) (T := TX7) (N := 7) hx hb hts hnX7_image_X7 tyX7 tyX7_ok nmX7 hown hK hP hD hS 0 rfl rfl 5 (by decide) (hts (.fieldLink RX7 199 "RingMeets" "kept" "I") (by decide +kernel)) (fun _ h9 => h9) rfl (by decide +kernel) rfl rfl (Nat.le_of_ble_eq_true rfl) dX7_image_33 (fun H locs hP hD hS => ?_)
        have hP : va_P (dC, dI) vwCl [(x0, .inr (5, [.ref a1, .ref b1, .ref c1, .ref xl, .ref xb, .int x_9, .null])), (c1, .inr (3, [.ref c2, .ref c3, .int (nI nc)])), (c2, .inl (cyI, 10, .inl fc)), (c3, .inr (2, [.ref c4, .int (nI zc)])), (c4, .inl (cyI, 60, .inl gc)), (b1, .inr (3, [.ref b2, .ref b3, .int (nI na)])), (b2, .inl (cyI, 10, .inl g_6)), (b3, .inr (2, [.ref b4, .int (nI za)])), (b4, .inl (cyI, 60, .inl g_7)), (a1, .inr (3, [.ref a2, .ref a3, .int (nI na)])), (a2, .inl (cyI, 10, .inl fa)), (a3, .inr (2, [.ref a4, .int (nI za)])), (a4, .inl (cyI, 60, .inl ga))] _ := hP
        have hD : va_D A [(x0, .inr (5, [.ref a1, .ref b1, .ref c1, .ref xl, .ref xb, .int x_9, .null])), (c1, .inr (3, [.ref c2, .ref c3, .int (nI nc)])), (c2, .inl (cyI, 10, .inl fc)), (c3, .inr (2, [.ref c4, .int (nI zc)])), (c4, .inl (cyI, 60, .inl gc)), (b1, .inr (3, [.ref b2, .ref b3, .int (nI na)])), (b2, .inl (cyI, 10, .inl g_6)), (b3, .inr (2, [.ref b4, .int (nI za)])), (b4, .inl (cyI, 60, .inl g_7)), (a1, .inr (3, [.ref a2, .ref a3, .int (nI na)])), (a2, .inl (cyI, 10, .inl fa)), (a3, .inr (2, [.ref a4, .int (nI za)])), (a4, .inl (cyI, 60, .inl ga))] := hD
        refine lv_iconst (v := 1) hx hb dX7_image_36 (by decide) ?_
        exact W.iret (v := 1) hx hb hr (fun t ht hW => ⟨⟨1, (x_9, na, g_6, za, g_7, nc, fc, zc, gc), rfl, (⟨by omega, by omega, by omega, by omega, by decide⟩), ⟨by rw [ht]; exact hP.sub (ws' := [(x0, .inr (5, [.ref a1, .ref b1, .ref c1, .ref xl, .ref xb, .int x_9, .null])), (a1, .inr (3, [.ref a2, .ref a3, .int (nI na)])), (a2, .inl (cyI, 10, .inl fa)), (a3, .inr (2, [.ref a4, .int (nI za)])), (a4, .inl (cyI, 60, .inl ga)), (b1, .inr (3, [.ref b2, .ref b3, .int (nI na)])), (b2, .inl (cyI, 10, .inl g_6)), (b3, .inr (2, [.ref b4, .int (nI za)])), (b4, .inl (cyI, 60, .inl g_7)), (c1, .inr (3, [.ref c2, .ref c3, .int (nI nc)])), (c2, .inl (cyI, 10, .inl fc)), (c3, .inr (2, [.ref c4, .int (nI zc)])), (c4, .inl (cyI, 60, .inl gc))]) [0, 9, 10, 11, 12, 5, 6, 7, 8, 1, 2, 3, 4] rfl, hD.sub (ws' := [(x0, .inr (5, [.ref a1, .ref b1, .ref c1, .ref xl, .ref xb, .int x_9, .null])), (a1, .inr (3, [.ref a2, .ref a3, .int (nI na)])), (a2, .inl (cyI, 10, .inl fa)), (a3, .inr (2, [.ref a4, .int (nI za)])), (a4, .inl (cyI, 60, .inl ga)), (b1, .inr (3, [.ref b2, .ref b3, .int (nI na)])), (b2, .inl (cyI, 10, .inl g_6)), (b3, .inr (2, [.ref b4, .int (nI za)])), (b4, .inl (cyI, 60, .inl g_7)), (c1, .inr (3, [.ref c2, .ref c3, .int (nI nc)])), (c2, .inl (cyI, 10, .inl fc)), (c3, .inr (2, [.ref c4, .int (nI zc)])), (c4, .inl (cyI, 60, .inl gc))]) [0, 9, 10, 11, 12, 5, 6, 7, 8, 1, 2, 3, 4] (by decide) rfl⟩⟩, hS.F ht⟩) hS.2.2 dX7_image_37
      · skip
        subst e9
        refine lv_aload_n hx hb dX7_image_12 rfl (lv_at hl 0 rfl) ?_
        refine lv_iload_n hx hb dX7_image_13 rfl (lv_at hl 1 rfl) ?_
        refine va_csr (va_Run.run (va_runV (As := [.int 1]) (rest := []) ⟨hx, hb, hml, hown, hts⟩ (mX7_imageOf_10 l dC dI cyI cyZ x0 a1 b1 c1 xl xb kp ) (cwV 1 hts gX7_image_X7_imageOf rfl rfl rfl (by decide +kernel) ⟨Nat.le_of_ble_eq_true rfl, Nat.le_of_ble_eq_true rfl⟩) (bs_RV hB (hP.sub (ws' := [(x0, .inr (5, [.ref a1, .ref b1, .ref c1, .ref xl, .ref xb, .int kp, .null]))]) [0] rfl) 0 rfl rfl) rfl rfl hl.1 rfl (lv_room (Nat.le_of_ble_eq_true rfl)) dX7_image_14 ⟨Nat.le_of_ble_eq_true rfl, Nat.le_of_ble_eq_true rfl⟩)) (fun r_10 hr_10 => ?_)
        obtain rfl : c1 = r_10 := Eq.symm hr_10
        refine lv_aload_n hx hb dX7_image_17 rfl (lv_at hl 0 rfl) ?_
        refine va_get (D := (dC, dI)) (ci := 5) (v := .ref a1) (C := RX7) (T := TX7) (N := 7) hx hb hts hnX7_image_X7 hown hK hP 0 rfl rfl 0 (by decide) (hts (.fieldLink RX7 10 "RingMeets" "now" "LRingMeets$Scene;") (by decide +kernel)) (fun _ h9 => h9) rfl dX7_image_18 ?_
        have f_11 := va_free (wc := [(c1, .inr (3, [.ref c2, .ref c3, .int (nI nc)])), (c2, .inl (cyI, 10, .inl fc)), (c3, .inr (2, [.ref c4, .int (nI zc)])), (c4, .inl (cyI, 60, .inl gc)), (a1, .inr (3, [.ref a2, .ref a3, .int (nI na)])), (a2, .inl (cyI, 10, .inl fa)), (a3, .inr (2, [.ref a4, .int (nI za)])), (a4, .inl (cyI, 60, .inl ga))]) hD hS hA [9, 10, 11, 12, 1, 2, 3, 4] rfl
        refine va_callv (va_runV (As := [.ref a1]) (rest := []) ⟨hx, hb, hml, hown, hts⟩ (mX4_copyFrom l dC dI cyI cyZ c1 c2 c3 c4 a1 a2 a3 a4 nc na zc za fc fa gc ga  _) (cwV 1 hts gX7_image_X4_copyFrom rfl rfl rfl (by decide +kernel) ⟨Nat.le_of_ble_eq_true rfl, Nat.le_of_ble_eq_true rfl⟩) (bs_WV hB (hP.sub (ws' := [(c1, .inr (3, [.ref c2, .ref c3, .int (nI nc)])), (c2, .inl (cyI, 10, .inl fc)), (c3, .inr (2, [.ref c4, .int (nI zc)])), (c4, .inl (cyI, 60, .inl gc)), (a1, .inr (3, [.ref a2, .ref a3, .int (nI na)])), (a2, .inl (cyI, 10, .inl fa)), (a3, .inr (2, [.ref a4, .int (nI za)])), (a4, .inl (cyI, 60, .inl ga))]) [9, 10, 11, 12, 1, 2, 3, 4] rfl) (hD.sub (ws' := [(c1, .inr (3, [.ref c2, .ref c3, .int (nI nc)])), (c2, .inl (cyI, 10, .inl fc)), (c3, .inr (2, [.ref c4, .int (nI zc)])), (c4, .inl (cyI, 60, .inl gc)), (a1, .inr (3, [.ref a2, .ref a3, .int (nI na)])), (a2, .inl (cyI, 10, .inl fa)), (a3, .inr (2, [.ref a4, .int (nI za)])), (a4, .inl (cyI, 60, .inl ga))]) [9, 10, 11, 12, 1, 2, 3, 4] (by decide) rfl) 0 rfl rfl) rfl rfl hl.1 rfl (lv_room (Nat.le_of_ble_eq_true rfl)) dX7_image_21 ⟨Nat.le_of_ble_eq_true rfl, Nat.le_of_ble_eq_true rfl⟩) hS (fun q _ h => f_11 q h) f_11 (fun uh_12 t H1 locs ht hvm h_12 hB1 hz1 hk1 hS => ?_)
        obtain ⟨g_13, g_14⟩ := uh_12
        have h_12 : ∀ i, i < 60 → g_14 i = ga i := h_12
        obtain ⟨hP1, hD1⟩ := hB1
        rw [ht] at hP1
        obtain ⟨hP, hD⟩ := va_join (wr := [(x0, .inr (5, [.ref a1, .ref b1, .ref c1, .ref xl, .ref xb, .int kp, .null])), (b1, .inr (3, [.ref b2, .ref b3, .int (nI nb)])), (b2, .inl (cyI, 10, .inl fb)), (b3, .inr (2, [.ref b4, .int (nI zb)])), (b4, .inl (cyI, 60, .inl gb))]) (w1 := [(c1, .inr (3, [.ref c2, .ref c3, .int (nI na)])), (c2, .inl (cyI, 10, .inl g_13)), (c3, .inr (2, [.ref c4, .int (nI za)])), (c4, .inl (cyI, 60, .inl g_14)), (a1, .inr (3, [.ref a2, .ref a3, .int (nI na)])), (a2, .inl (cyI, 10, .inl fa)), (a3, .inr (2, [.ref a4, .int (nI za)])), (a4, .inl (cyI, 60, .inl ga))]) hP hD [9, 10, 11, 12, 1, 2, 3, 4] [0, 5, 6, 7, 8] rfl rfl (by decide) (by decide) hk1 f_11 hP1 hD1
        generalize H1 = H at hP hS ⊢
        have hP : va_P (dC, dI) vwCl [(x0, .inr (5, [.ref a1, .ref b1, .ref c1, .ref xl, .ref xb, .int kp, .null])), (b1, .inr (3, [.ref b2, .ref b3, .int (nI nb)])), (b2, .inl (cyI, 10, .inl fb)), (b3, .inr (2, [.ref b4, .int (nI zb)])), (b4, .inl (cyI, 60, .inl gb)), (c1, .inr (3, [.ref c2, .ref c3, .int (nI na)])), (c2, .inl (cyI, 10, .inl g_13)), (c3, .inr (2, [.ref c4, .int (nI za)])), (c4, .inl (cyI, 60, .inl g_14)), (a1, .inr (3, [.ref a2, .ref a3, .int (nI na)])), (a2, .inl (cyI, 10, .inl fa)), (a3, .inr (2, [.ref a4, .int (nI za)])), (a4, .inl (cyI, 60, .inl ga))] _ := hP
        have hD : va_D A [(x0, .inr (5, [.ref a1, .ref b1, .ref c1, .ref xl, .ref xb, .int kp, .null])), (b1, .inr (3, [.ref b2, .ref b3, .int (nI nb)])), (b2, .inl (cyI, 10, .inl fb)), (b3, .inr (2, [.ref b4, .int (nI zb)])), (b4, .inl (cyI, 60, .inl gb)), (c1, .inr (3, [.ref c2, .ref c3, .int (nI na)])), (c2, .inl (cyI, 10, .inl g_13)), (c3, .inr (2, [.ref c4, .int (nI za)])), (c4, .inl (cyI, 60, .inl g_14)), (a1, .inr (3, [.ref a2, .ref a3, .int (nI na)])), (a2, .inl (cyI, 10, .inl fa)), (a3, .inr (2, [.ref a4, .int (nI za)])), (a4, .inl (cyI, 60, .inl ga))] := hD
        refine lv_aload_n hx hb dX7_image_24 rfl (lv_at hl 0 rfl) ?_
        refine lv_dup hx hb dX7_image_25 rfl ?_
        refine va_get (D := (dC, dI)) (ci := 5) (v := .int kp) (C := RX7) (T := TX7) (N := 7) hx hb hts hnX7_image_X7 hown hK hP 0 rfl rfl 5 (by decide) (hts (.fieldLink RX7 199 "RingMeets" "kept" "I") (by decide +kernel)) (fun _ h9 => h9) rfl dX7_image_26 ?_
        refine lv_iconst (v := 1) hx hb dX7_image_29 (by decide) ?_
        refine lv_iload_n hx hb dX7_image_30 rfl (lv_at hl 1 rfl) ?_
        refine lv_ishl hx hb dX7_image_31 ?_
        refine lv_topi (fun x_15 ex_15 => ?_)
        obtain rfl : 2 = x_15 := (ex_15.trans (by decide)).symm
        refine lv_ior hx hb dX7_image_32 ?_
        refine lv_topi (fun x_16 ex_16 => ?_)
        refine va_put (D := (dC, dI)) (ci := 5) (v := .int x_16) (ty := .int) (C := RX7) (T := TX7) (N := 7) hx hb hts hnX7_image_X7 tyX7 tyX7_ok nmX7 hown hK hP hD hS 0 rfl rfl 5 (by decide) (hts (.fieldLink RX7 199 "RingMeets" "kept" "I") (by decide +kernel)) (fun _ h9 => h9) rfl (by decide +kernel) rfl rfl (Nat.le_of_ble_eq_true rfl) dX7_image_33 (fun H locs hP hD hS => ?_)
        have hP : va_P (dC, dI) vwCl [(x0, .inr (5, [.ref a1, .ref b1, .ref c1, .ref xl, .ref xb, .int x_16, .null])), (b1, .inr (3, [.ref b2, .ref b3, .int (nI nb)])), (b2, .inl (cyI, 10, .inl fb)), (b3, .inr (2, [.ref b4, .int (nI zb)])), (b4, .inl (cyI, 60, .inl gb)), (c1, .inr (3, [.ref c2, .ref c3, .int (nI na)])), (c2, .inl (cyI, 10, .inl g_13)), (c3, .inr (2, [.ref c4, .int (nI za)])), (c4, .inl (cyI, 60, .inl g_14)), (a1, .inr (3, [.ref a2, .ref a3, .int (nI na)])), (a2, .inl (cyI, 10, .inl fa)), (a3, .inr (2, [.ref a4, .int (nI za)])), (a4, .inl (cyI, 60, .inl ga))] _ := hP
        have hD : va_D A [(x0, .inr (5, [.ref a1, .ref b1, .ref c1, .ref xl, .ref xb, .int x_16, .null])), (b1, .inr (3, [.ref b2, .ref b3, .int (nI nb)])), (b2, .inl (cyI, 10, .inl fb)), (b3, .inr (2, [.ref b4, .int (nI zb)])), (b4, .inl (cyI, 60, .inl gb)), (c1, .inr (3, [.ref c2, .ref c3, .int (nI na)])), (c2, .inl (cyI, 10, .inl g_13)), (c3, .inr (2, [.ref c4, .int (nI za)])), (c4, .inl (cyI, 60, .inl g_14)), (a1, .inr (3, [.ref a2, .ref a3, .int (nI na)])), (a2, .inl (cyI, 10, .inl fa)), (a3, .inr (2, [.ref a4, .int (nI za)])), (a4, .inl (cyI, 60, .inl ga))] := hD
        refine lv_iconst (v := 1) hx hb dX7_image_36 (by decide) ?_
        exact W.iret (v := 1) hx hb hr (fun t ht hW => ⟨⟨1, (x_16, nb, fb, zb, gb, na, g_13, za, g_14), rfl, (⟨by omega, by omega, by omega, by omega, by decide⟩), ⟨by rw [ht]; exact hP.sub (ws' := [(x0, .inr (5, [.ref a1, .ref b1, .ref c1, .ref xl, .ref xb, .int x_16, .null])), (a1, .inr (3, [.ref a2, .ref a3, .int (nI na)])), (a2, .inl (cyI, 10, .inl fa)), (a3, .inr (2, [.ref a4, .int (nI za)])), (a4, .inl (cyI, 60, .inl ga)), (b1, .inr (3, [.ref b2, .ref b3, .int (nI nb)])), (b2, .inl (cyI, 10, .inl fb)), (b3, .inr (2, [.ref b4, .int (nI zb)])), (b4, .inl (cyI, 60, .inl gb)), (c1, .inr (3, [.ref c2, .ref c3, .int (nI na)])), (c2, .inl (cyI, 10, .inl g_13)), (c3, .inr (2, [.ref c4, .int (nI za)])), (c4, .inl (cyI, 60, .inl g_14))]) [0, 9, 10, 11, 12, 1, 2, 3, 4, 5, 6, 7, 8] rfl, hD.sub (ws' := [(x0, .inr (5, [.ref a1, .ref b1, .ref c1, .ref xl, .ref xb, .int x_16, .null])), (a1, .inr (3, [.ref a2, .ref a3, .int (nI na)])), (a2, .inl (cyI, 10, .inl fa)), (a3, .inr (2, [.ref a4, .int (nI za)])), (a4, .inl (cyI, 60, .inl ga)), (b1, .inr (3, [.ref b2, .ref b3, .int (nI nb)])), (b2, .inl (cyI, 10, .inl fb)), (b3, .inr (2, [.ref b4, .int (nI zb)])), (b4, .inl (cyI, 60, .inl gb)), (c1, .inr (3, [.ref c2, .ref c3, .int (nI na)])), (c2, .inl (cyI, 10, .inl g_13)), (c3, .inr (2, [.ref c4, .int (nI za)])), (c4, .inl (cyI, 60, .inl g_14))]) [0, 9, 10, 11, 12, 1, 2, 3, 4, 5, 6, 7, 8] (by decide) rfl⟩⟩, hS.F ht⟩) hS.2.2 dX7_image_37
    · skip
      have ic_2 := ci_nlt (rfl : Int32.toInt p1 = _) (show Int32.toInt 2 = 2 by decide) c_2
      refine lv_bipush (v := (-2)) hx hb dX7_image_9 (by decide) ?_
      exact W.iret (v := (-2)) hx hb hr (fun t ht hW => ⟨⟨(-2), (kp, nb, fb, zb, gb, nc, fc, zc, gc), rfl, (⟨by omega, by omega, by omega, by omega, by rw [if_neg (by omega)]⟩), ⟨by rw [ht]; exact hP.sub (ws' := [(x0, .inr (5, [.ref a1, .ref b1, .ref c1, .ref xl, .ref xb, .int kp, .null])), (a1, .inr (3, [.ref a2, .ref a3, .int (nI na)])), (a2, .inl (cyI, 10, .inl fa)), (a3, .inr (2, [.ref a4, .int (nI za)])), (a4, .inl (cyI, 60, .inl ga)), (b1, .inr (3, [.ref b2, .ref b3, .int (nI nb)])), (b2, .inl (cyI, 10, .inl fb)), (b3, .inr (2, [.ref b4, .int (nI zb)])), (b4, .inl (cyI, 60, .inl gb)), (c1, .inr (3, [.ref c2, .ref c3, .int (nI nc)])), (c2, .inl (cyI, 10, .inl fc)), (c3, .inr (2, [.ref c4, .int (nI zc)])), (c4, .inl (cyI, 60, .inl gc))]) [0, 1, 2, 3, 4, 5, 6, 7, 8, 9, 10, 11, 12] rfl, hD.sub (ws' := [(x0, .inr (5, [.ref a1, .ref b1, .ref c1, .ref xl, .ref xb, .int kp, .null])), (a1, .inr (3, [.ref a2, .ref a3, .int (nI na)])), (a2, .inl (cyI, 10, .inl fa)), (a3, .inr (2, [.ref a4, .int (nI za)])), (a4, .inl (cyI, 60, .inl ga)), (b1, .inr (3, [.ref b2, .ref b3, .int (nI nb)])), (b2, .inl (cyI, 10, .inl fb)), (b3, .inr (2, [.ref b4, .int (nI zb)])), (b4, .inl (cyI, 60, .inl gb)), (c1, .inr (3, [.ref c2, .ref c3, .int (nI nc)])), (c2, .inl (cyI, 10, .inl fc)), (c3, .inr (2, [.ref c4, .int (nI zc)])), (c4, .inl (cyI, 60, .inl gc))]) [0, 1, 2, 3, 4, 5, 6, 7, 8, 9, 10, 11, 12] (by decide) rfl⟩⟩, hS.F ht⟩) hS.2.2 dX7_image_11

theorem hnX7_restore_X7 : ∀ w ∈ wsX70, w ∈ wsX7_restore := fun _ h => List.mem_cons_of_mem _ (List.mem_append_left _ (List.mem_append_left _ (List.mem_append_right _ h)))
set_option maxHeartbeats 4000000 in
set_option maxRecDepth 100000 in
theorem mX7_restore_0 (l : Launch) (dC : Nat → ClassId) (dI : Nat → Nat → Nat) (cyI cyZ : ClassId) (x0 : Nat) (a1 : Nat) (b1 : Nat) (c1 : Nat) (xl : Nat) (xb : Nat) (kp : Int32) (a2 : Nat) (a3 : Nat) (a4 : Nat) (na : Nat) (za : Nat) (b2 : Nat) (b3 : Nat) (b4 : Nat) (nb : Nat) (zb : Nat) (c2 : Nat) (c3 : Nat) (c4 : Nat) (nc : Nat) (zc : Nat) (fa : Nat → Int32) (ga : Nat → Int32) (fb : Nat → Int32) (gb : Nat → Int32) (fc : Nat → Int32) (gc : Nat → Int32) (p1 : Int32) (hna : na ≤ 10) (hza : za ≤ 10) (hnb : nb ≤ 10) (hzb : zb ≤ 10) (hnc : nc ≤ 10) (hzc : zc ≤ 10) (sz : Nat) : Met l yX7_restore wsX7_restore ({ frames := 2, cells := 0, slots := 0, locals := 44 }) (bs_W dC dI cyI cyZ [.ref x0, .int p1] [(x0, .inr (5, [.ref a1, .ref b1, .ref c1, .ref xl, .ref xb, .int kp, .null])), (a1, .inr (3, [.ref a2, .ref a3, .int (nI na)])), (a2, .inl (cyI, 10, .inl fa)), (a3, .inr (2, [.ref a4, .int (nI za)])), (a4, .inl (cyI, 60, .inl ga)), (b1, .inr (3, [.ref b2, .ref b3, .int (nI nb)])), (b2, .inl (cyI, 10, .inl fb)), (b3, .inr (2, [.ref b4, .int (nI zb)])), (b4, .inl (cyI, 60, .inl gb)), (c1, .inr (3, [.ref c2, .ref c3, .int (nI nc)])), (c2, .inl (cyI, 10, .inl fc)), (c3, .inr (2, [.ref c4, .int (nI zc)])), (c4, .inl (cyI, 60, .inl gc))] sz) (va_Qi (S := Nat × (Nat → Int32) × Nat × (Nat → Int32)) (fun (r : Int32) (q : Nat × (Nat → Int32) × Nat × (Nat → Int32)) => q.1 ≤ 10 ∧ q.2.2.1 ≤ 10) (fun q t => bs_E dC dI (va_A [(x0, .inr (5, [.ref a1, .ref b1, .ref c1, .ref xl, .ref xb, .int kp, .null])), (a1, .inr (3, [.ref a2, .ref a3, .int (nI na)])), (a2, .inl (cyI, 10, .inl fa)), (a3, .inr (2, [.ref a4, .int (nI za)])), (a4, .inl (cyI, 60, .inl ga)), (b1, .inr (3, [.ref b2, .ref b3, .int (nI nb)])), (b2, .inl (cyI, 10, .inl fb)), (b3, .inr (2, [.ref b4, .int (nI zb)])), (b4, .inl (cyI, 60, .inl gb)), (c1, .inr (3, [.ref c2, .ref c3, .int (nI nc)])), (c2, .inl (cyI, 10, .inl fc)), (c3, .inr (2, [.ref c4, .int (nI zc)])), (c4, .inl (cyI, 60, .inl gc))] sz) [(x0, .inr (5, [.ref a1, .ref b1, .ref c1, .ref xl, .ref xb, .int kp, .null])), (a1, .inr (3, [.ref a2, .ref a3, .int (nI q.1)])), (a2, .inl (cyI, 10, .inl q.2.1)), (a3, .inr (2, [.ref a4, .int (nI q.2.2.1)])), (a4, .inl (cyI, 60, .inl q.2.2.2)), (b1, .inr (3, [.ref b2, .ref b3, .int (nI nb)])), (b2, .inl (cyI, 10, .inl fb)), (b3, .inr (2, [.ref b4, .int (nI zb)])), (b4, .inl (cyI, 60, .inl gb)), (c1, .inr (3, [.ref c2, .ref c3, .int (nI nc)])), (c2, .inl (cyI, 10, .inl fc)), (c3, .inr (2, [.ref c4, .int (nI zc)])), (c4, .inl (cyI, 60, .inl gc))] t) (va_A [(x0, .inr (5, [.ref a1, .ref b1, .ref c1, .ref xl, .ref xb, .int kp, .null])), (a1, .inr (3, [.ref a2, .ref a3, .int (nI na)])), (a2, .inl (cyI, 10, .inl fa)), (a3, .inr (2, [.ref a4, .int (nI za)])), (a4, .inl (cyI, 60, .inl ga)), (b1, .inr (3, [.ref b2, .ref b3, .int (nI nb)])), (b2, .inl (cyI, 10, .inl fb)), (b3, .inr (2, [.ref b4, .int (nI zb)])), (b4, .inl (cyI, 60, .inl gb)), (c1, .inr (3, [.ref c2, .ref c3, .int (nI nc)])), (c2, .inl (cyI, 10, .inl fc)), (c3, .inr (2, [.ref c4, .int (nI zc)])), (c4, .inl (cyI, 60, .inl gc))] sz)) 0 0 (va_A [(x0, .inr (5, [.ref a1, .ref b1, .ref c1, .ref xl, .ref xb, .int kp, .null])), (a1, .inr (3, [.ref a2, .ref a3, .int (nI na)])), (a2, .inl (cyI, 10, .inl fa)), (a3, .inr (2, [.ref a4, .int (nI za)])), (a4, .inl (cyI, 60, .inl ga)), (b1, .inr (3, [.ref b2, .ref b3, .int (nI nb)])), (b2, .inl (cyI, 10, .inl fb)), (b3, .inr (2, [.ref b4, .int (nI zb)])), (b4, .inl (cyI, 60, .inl gb)), (c1, .inr (3, [.ref c2, .ref c3, .int (nI nc)])), (c2, .inl (cyI, 10, .inl fc)), (c3, .inr (2, [.ref c4, .int (nI zc)])), (c4, .inl (cyI, 60, .inl gc))] sz) := by
  refine Met.ofW (cc := cX7_restore) (maxL := 2) (ret := (some .int)) (by decide) rfl ?_
  intro p e s m args below meth c s₁ B hml hv
  obtain ⟨rfl, hsz, hB, hP, hD0⟩ := hv
  have hK := hB.1
  have hN := hB.2
  have hx := B.exec
  have hb := B.bytes
  have hr := B.returns
  have hts := atoms_spec (ws := wsX7_restore) B.pre
  have hown : s.vm.findClass RX7 = some m.cls := findClass_of_methodNamed B.named
  have hlocks := B.notSynchronized
  subst hsz
  have hD := hD0.self (sz := s.heap.size)
  generalize hAe : va_A [(x0, .inr (5, [.ref a1, .ref b1, .ref c1, .ref xl, .ref xb, .int kp, .null])), (a1, .inr (3, [.ref a2, .ref a3, .int (nI na)])), (a2, .inl (cyI, 10, .inl fa)), (a3, .inr (2, [.ref a4, .int (nI za)])), (a4, .inl (cyI, 60, .inl ga)), (b1, .inr (3, [.ref b2, .ref b3, .int (nI nb)])), (b2, .inl (cyI, 10, .inl fb)), (b3, .inr (2, [.ref b4, .int (nI zb)])), (b4, .inl (cyI, 60, .inl gb)), (c1, .inr (3, [.ref c2, .ref c3, .int (nI nc)])), (c2, .inl (cyI, 10, .inl fc)), (c3, .inr (2, [.ref c4, .int (nI zc)])), (c4, .inl (cyI, 60, .inl gc))] s.heap.size = A at hD ⊢
  have hA : ∀ q : Nat, s.heap.size ≤ q → A q := fun q h => by rw [← hAe]; exact Or.inr h
  have hS : va_S A s.heap s.heap [] := va_S.rf
  have hP : va_P (dC, dI) vwCl [(x0, .inr (5, [.ref a1, .ref b1, .ref c1, .ref xl, .ref xb, .int kp, .null])), (a1, .inr (3, [.ref a2, .ref a3, .int (nI na)])), (a2, .inl (cyI, 10, .inl fa)), (a3, .inr (2, [.ref a4, .int (nI za)])), (a4, .inl (cyI, 60, .inl ga)), (b1, .inr (3, [.ref b2, .ref b3, .int (nI nb)])), (b2, .inl (cyI, 10, .inl fb)), (b3, .inr (2, [.ref b4, .int (nI zb)])), (b4, .inl (cyI, 60, .inl gb)), (c1, .inr (3, [.ref c2, .ref c3, .int (nI nc)])), (c2, .inl (cyI, 10, .inl fc)), (c3, .inr (2, [.ref c4, .int (nI zc)])), (c4, .inl (cyI, 60, .inl gc))] s.heap := hP
  have hl := lv_entry ([.ref x0, .int p1]) (n := 2) (Nat.le_of_ble_eq_true rfl)
  rw [lg_entry_eq]
  generalize (lg_sl ([.ref x0, .int p1]) ++ List.replicate (2 - (lg_sl ([.ref x0, .int p1])).length) Slot.unset).toArray = ls at hl ⊢
  have hl : lv_has ls 2 [(0, .ref x0), (1, .int p1)] := hl
  refine lv_iload_n hx hb dX7_restore_0 rfl (lv_at hl 1 rfl) ?_
  refine lv_if_lt (tgt := 9) hx hb dX7_restore_1 (by decide) (fun c_1 => ?_) (fun c_1 => ?_)
  · skip
    have ic_1 := ci_lt (rfl : Int32.toInt p1 = _) (show Int32.toInt 0 = 0 by decide) c_1
    refine lv_bipush (v := (-2)) hx hb dX7_restore_9 (by decide) ?_
    exact W.iret (v := (-2)) hx hb hr (fun t ht hW => ⟨⟨(-2), (na, fa, za, ga), rfl, (⟨by omega, by omega⟩), ⟨by rw [ht]; exact hP.sub (ws' := [(x0, .inr (5, [.ref a1, .ref b1, .ref c1, .ref xl, .ref xb, .int kp, .null])), (a1, .inr (3, [.ref a2, .ref a3, .int (nI na)])), (a2, .inl (cyI, 10, .inl fa)), (a3, .inr (2, [.ref a4, .int (nI za)])), (a4, .inl (cyI, 60, .inl ga)), (b1, .inr (3, [.ref b2, .ref b3, .int (nI nb)])), (b2, .inl (cyI, 10, .inl fb)), (b3, .inr (2, [.ref b4, .int (nI zb)])), (b4, .inl (cyI, 60, .inl gb)), (c1, .inr (3, [.ref c2, .ref c3, .int (nI nc)])), (c2, .inl (cyI, 10, .inl fc)), (c3, .inr (2, [.ref c4, .int (nI zc)])), (c4, .inl (cyI, 60, .inl gc))]) [0, 1, 2, 3, 4, 5, 6, 7, 8, 9, 10, 11, 12] rfl, hD.sub (ws' := [(x0, .inr (5, [.ref a1, .ref b1, .ref c1, .ref xl, .ref xb, .int kp, .null])), (a1, .inr (3, [.ref a2, .ref a3, .int (nI na)])), (a2, .inl (cyI, 10, .inl fa)), (a3, .inr (2, [.ref a4, .int (nI za)])), (a4, .inl (cyI, 60, .inl ga)), (b1, .inr (3, [.ref b2, .ref b3, .int (nI nb)])), (b2, .inl (cyI, 10, .inl fb)), (b3, .inr (2, [.ref b4, .int (nI zb)])), (b4, .inl (cyI, 60, .inl gb)), (c1, .inr (3, [.ref c2, .ref c3, .int (nI nc)])), (c2, .inl (cyI, 10, .inl fc)), (c3, .inr (2, [.ref c4, .int (nI zc)])), (c4, .inl (cyI, 60, .inl gc))]) [0, 1, 2, 3, 4, 5, 6, 7, 8, 9, 10, 11, 12] (by decide) rfl⟩⟩, hS.F ht⟩) hS.2.2 dX7_restore_11
  · skip
    have ic_1 := ci_nlt (rfl : Int32.toInt p1 = _) (show Int32.toInt 0 = 0 by decide) c_1
    refine lv_iload_n hx hb dX7_restore_4 rfl (lv_at hl 1 rfl) ?_
    refine lv_iconst (v := 2) hx hb dX7_restore_5 (by decide) ?_
    refine lv_icmp_lt (tgt := 12) hx hb dX7_restore_6 (by decide) (fun c_2 => ?_) (fun c_2 => ?_)
    · skip
      have ic_2 := ci_lt (rfl : Int32.toInt p1 = _) (show Int32.toInt 2 = 2 by decide) c_2
      rcases nb_01 (x := p1) (by omega) (by omega) with e9 | e9
      · skip
        subst e9
        refine lv_aload_n hx hb dX7_restore_12 rfl (lv_at hl 0 rfl) ?_
        refine va_get (D := (dC, dI)) (ci := 5) (v := .int kp) (C := RX7) (T := TX7) (N := 7) hx hb hts hnX7_restore_X7 hown hK hP 0 rfl rfl 5 (by decide) (hts (.fieldLink RX7 199 "RingMeets" "kept" "I") (by decide +kernel)) (fun _ h9 => h9) rfl dX7_restore_13 ?_
        refine lv_iload_n hx hb dX7_restore_16 rfl (lv_at hl 1 rfl) ?_
        refine vp_callSi (va_Run.run (va_runS (As := [.int kp, .int 0]) (rest := []) ⟨hx, hb, hml, hown, hts⟩ (mX5_has l dC dI cyI cyZ kp 0 ) (va_cwS 2 hts gX7_restore_X5_has rfl rfl rfl (by decide +kernel) ⟨Nat.le_of_ble_eq_true rfl, Nat.le_of_ble_eq_true rfl⟩) (bs_RS hB (hP.sub (ws' := []) [] rfl)) rfl rfl hl.1 rfl (lv_room (Nat.le_of_ble_eq_true rfl)) dX7_restore_17 ⟨Nat.le_of_ble_eq_true rfl, Nat.le_of_ble_eq_true rfl⟩)) (fun r_3 hr_3 => ?_)
        refine lv_if_ne (tgt := 26) hx hb dX7_restore_20 (by decide) (fun c_4 => ?_) (fun c_4 => ?_)
        · skip
          have ic_4 := ci_ne (rfl : Int32.toInt r_3 = _) (show Int32.toInt 0 = 0 by decide) c_4
          refine lv_aload_n hx hb dX7_restore_26 rfl (lv_at hl 0 rfl) ?_
          refine va_get (D := (dC, dI)) (ci := 5) (v := .ref a1) (C := RX7) (T := TX7) (N := 7) hx hb hts hnX7_restore_X7 hown hK hP 0 rfl rfl 0 (by decide) (hts (.fieldLink RX7 10 "RingMeets" "now" "LRingMeets$Scene;") (by decide +kernel)) (fun _ h9 => h9) rfl dX7_restore_27 ?_
          refine lv_aload_n hx hb dX7_restore_30 rfl (lv_at hl 0 rfl) ?_
          refine lv_iload_n hx hb dX7_restore_31 rfl (lv_at hl 1 rfl) ?_
          refine va_csr (va_Run.run (va_runV (As := [.int 0]) (rest := [.ref a1]) ⟨hx, hb, hml, hown, hts⟩ (mX7_imageOf_00 l dC dI cyI cyZ x0 a1 b1 c1 xl xb kp ) (cwV 1 hts gX7_restore_X7_imageOf rfl rfl rfl (by decide +kernel) ⟨Nat.le_of_ble_eq_true rfl, Nat.le_of_ble_eq_true rfl⟩) (bs_RV hB (hP.sub (ws' := [(x0, .inr (5, [.ref a1, .ref b1, .ref c1, .ref xl, .ref xb, .int kp, .null]))]) [0] rfl) 0 rfl rfl) rfl rfl hl.1 rfl (lv_room (Nat.le_of_ble_eq_true rfl)) dX7_restore_32 ⟨Nat.le_of_ble_eq_true rfl, Nat.le_of_ble_eq_true rfl⟩)) (fun r_5 hr_5 => ?_)
          obtain rfl : b1 = r_5 := Eq.symm hr_5
          have f_6 := va_free (wc := [(a1, .inr (3, [.ref a2, .ref a3, .int (nI na)])), (a2, .inl (cyI, 10, .inl fa)), (a3, .inr (2, [.ref a4, .int (nI za)])), (a4, .inl (cyI, 60, .inl ga)), (b1, .inr (3, [.ref b2, .ref b3, .int (nI nb)])), (b2, .inl (cyI, 10, .inl fb)), (b3, .inr (2, [.ref b4, .int (nI zb)])), (b4, .inl (cyI, 60, .inl gb))]) hD hS hA [1, 2, 3, 4, 5, 6, 7, 8] rfl
          refine va_callv (va_runV (As := [.ref b1]) (rest := []) ⟨hx, hb, hml, hown, hts⟩ (mX4_copyFrom l dC dI cyI cyZ a1 a2 a3 a4 b1 b2 b3 b4 na nb za zb fa fb ga gb  _) (cwV 1 hts gX7_restore_X4_copyFrom rfl rfl rfl (by decide +kernel) ⟨Nat.le_of_ble_eq_true rfl, Nat.le_of_ble_eq_true rfl⟩) (bs_WV hB (hP.sub (ws' := [(a1, .inr (3, [.ref a2, .ref a3, .int (nI na)])), (a2, .inl (cyI, 10, .inl fa)), (a3, .inr (2, [.ref a4, .int (nI za)])), (a4, .inl (cyI, 60, .inl ga)), (b1, .inr (3, [.ref b2, .ref b3, .int (nI nb)])), (b2, .inl (cyI, 10, .inl fb)), (b3, .inr (2, [.ref b4, .int (nI zb)])), (b4, .inl (cyI, 60, .inl gb))]) [1, 2, 3, 4, 5, 6, 7, 8] rfl) (hD.sub (ws' := [(a1, .inr (3, [.ref a2, .ref a3, .int (nI na)])), (a2, .inl (cyI, 10, .inl fa)), (a3, .inr (2, [.ref a4, .int (nI za)])), (a4, .inl (cyI, 60, .inl ga)), (b1, .inr (3, [.ref b2, .ref b3, .int (nI nb)])), (b2, .inl (cyI, 10, .inl fb)), (b3, .inr (2, [.ref b4, .int (nI zb)])), (b4, .inl (cyI, 60, .inl gb))]) [1, 2, 3, 4, 5, 6, 7, 8] (by decide) rfl) 0 rfl rfl) rfl rfl hl.1 rfl (lv_room (Nat.le_of_ble_eq_true rfl)) dX7_restore_35 ⟨Nat.le_of_ble_eq_true rfl, Nat.le_of_ble_eq_true rfl⟩) hS (fun q _ h => f_6 q h) f_6 (fun uh_7 t H1 locs ht hvm h_7 hB1 hz1 hk1 hS => ?_)
          obtain ⟨g_8, g_9⟩ := uh_7
          have h_7 : ∀ i, i < 60 → g_9 i = gb i := h_7
          obtain ⟨hP1, hD1⟩ := hB1
          rw [ht] at hP1
          obtain ⟨hP, hD⟩ := va_join (wr := [(x0, .inr (5, [.ref a1, .ref b1, .ref c1, .ref xl, .ref xb, .int kp, .null])), (c1, .inr (3, [.ref c2, .ref c3, .int (nI nc)])), (c2, .inl (cyI, 10, .inl fc)), (c3, .inr (2, [.ref c4, .int (nI zc)])), (c4, .inl (cyI, 60, .inl gc))]) (w1 := [(a1, .inr (3, [.ref a2, .ref a3, .int (nI nb)])), (a2, .inl (cyI, 10, .inl g_8)), (a3, .inr (2, [.ref a4, .int (nI zb)])), (a4, .inl (cyI, 60, .inl g_9)), (b1, .inr (3, [.ref b2, .ref b3, .int (nI nb)])), (b2, .inl (cyI, 10, .inl fb)), (b3, .inr (2, [.ref b4, .int (nI zb)])), (b4, .inl (cyI, 60, .inl gb))]) hP hD [1, 2, 3, 4, 5, 6, 7, 8] [0, 9, 10, 11, 12] rfl rfl (by decide) (by decide) hk1 f_6 hP1 hD1
          generalize H1 = H at hP hS ⊢
          have hP : va_P (dC, dI) vwCl [(x0, .inr (5, [.ref a1, .ref b1, .ref c1, .ref xl, .ref xb, .int kp, .null])), (c1, .inr (3, [.ref c2, .ref c3, .int (nI nc)])), (c2, .inl (cyI, 10, .inl fc)), (c3, .inr (2, [.ref c4, .int (nI zc)])), (c4, .inl (cyI, 60, .inl gc)), (a1, .inr (3, [.ref a2, .ref a3, .int (nI nb)])), (a2, .inl (cyI, 10, .inl g_8)), (a3, .inr (2, [.ref a4, .int (nI zb)])), (a4, .inl (cyI, 60, .inl g_9)), (b1, .inr (3, [.ref b2, .ref b3, .int (nI nb)])), (b2, .inl (cyI, 10, .inl fb)), (b3, .inr (2, [.ref b4, .int (nI zb)])), (b4, .inl (cyI, 60, .inl gb))] _ := hP
          have hD : va_D A [(x0, .inr (5, [.ref a1, .ref b1, .ref c1, .ref xl, .ref xb, .int kp, .null])), (c1, .inr (3, [.ref c2, .ref c3, .int (nI nc)])), (c2, .inl (cyI, 10, .inl fc)), (c3, .inr (2, [.ref c4, .int (nI zc)])), (c4, .inl (cyI, 60, .inl gc)), (a1, .inr (3, [.ref a2, .ref a3, .int (nI nb)])), (a2, .inl (cyI, 10, .inl g_8)), (a3, .inr (2, [.ref a4, .int (nI zb)])), (a4, .inl (cyI, 60, .inl g_9)), (b1, .inr (3, [.ref b2, .ref b3, .int (nI nb)])), (b2, .inl (cyI, 10, .inl fb)), (b3, .inr (2, [.ref b4, .int (nI zb)])), (b4, .inl (cyI, 60, .inl gb))] := hD
          refine lv_iconst (v := 1) hx hb dX7_restore_38 (by decide) ?_
          exact W.iret (v := 1) hx hb hr (fun t ht hW => ⟨⟨1, (nb, g_8, zb, g_9), rfl, (⟨by omega, by omega⟩), ⟨by rw [ht]; exact hP.sub (ws' := [(x0, .inr (5, [.ref a1, .ref b1, .ref c1, .ref xl, .ref xb, .int kp, .null])), (a1, .inr (3, [.ref a2, .ref a3, .int (nI nb)])), (a2, .inl (cyI, 10, .inl g_8)), (a3, .inr (2, [.ref a4, .int (nI zb)])), (a4, .inl (cyI, 60, .inl g_9)), (b1, .inr (3, [.ref b2, .ref b3, .int (nI nb)])), (b2, .inl (cyI, 10, .inl fb)), (b3, .inr (2, [.ref b4, .int (nI zb)])), (b4, .inl (cyI, 60, .inl gb)), (c1, .inr (3, [.ref c2, .ref c3, .int (nI nc)])), (c2, .inl (cyI, 10, .inl fc)), (c3, .inr (2, [.ref c4, .int (nI zc)])), (c4, .inl (cyI, 60, .inl gc))]) [0, 5, 6, 7, 8, 9, 10, 11, 12, 1, 2, 3, 4] rfl, hD.sub (ws' := [(x0, .inr (5, [.ref a1, .ref b1, .ref c1, .ref xl, .ref xb, .int kp, .null])), (a1, .inr (3, [.ref a2, .ref a3, .int (nI nb)])), (a2, .inl (cyI, 10, .inl g_8)), (a3, .inr (2, [.ref a4, .int (nI zb)])), (a4, .inl (cyI, 60, .inl g_9)), (b1, .inr (3, [.ref b2, .ref b3, .int (nI nb)])), (b2, .inl (cyI, 10, .inl fb)), (b3, .inr (2, [.ref b4, .int (nI zb)])), (b4, .inl (cyI, 60, .inl gb)), (c1, .inr (3, [.ref c2, .ref c3, .int (nI nc)])), (c2, .inl (cyI, 10, .inl fc)), (c3, .inr (2, [.ref c4, .int (nI zc)])), (c4, .inl (cyI, 60, .inl gc))]) [0, 5, 6, 7, 8, 9, 10, 11, 12, 1, 2, 3, 4] (by decide) rfl⟩⟩, hS.F ht⟩) hS.2.2 dX7_restore_39
        · skip
          have ic_4 := ci_eq (rfl : Int32.toInt r_3 = _) (show Int32.toInt 0 = 0 by decide) c_4
          refine lv_bipush (v := (-3)) hx hb dX7_restore_23 (by decide) ?_
          exact W.iret (v := (-3)) hx hb hr (fun t ht hW => ⟨⟨(-3), (na, fa, za, ga), rfl, (⟨by omega, by omega⟩), ⟨by rw [ht]; exact hP.sub (ws' := [(x0, .inr (5, [.ref a1, .ref b1, .ref c1, .ref xl, .ref xb, .int kp, .null])), (a1, .inr (3, [.ref a2, .ref a3, .int (nI na)])), (a2, .inl (cyI, 10, .inl fa)), (a3, .inr (2, [.ref a4, .int (nI za)])), (a4, .inl (cyI, 60, .inl ga)), (b1, .inr (3, [.ref b2, .ref b3, .int (nI nb)])), (b2, .inl (cyI, 10, .inl fb)), (b3, .inr (2, [.ref b4, .int (nI zb)])), (b4, .inl (cyI, 60, .inl gb)), (c1, .inr (3, [.ref c2, .ref c3, .int (nI nc)])), (c2, .inl (cyI, 10, .inl fc)), (c3, .inr (2, [.ref c4, .int (nI zc)])), (c4, .inl (cyI, 60, .inl gc))]) [0, 1, 2, 3, 4, 5, 6, 7, 8, 9, 10, 11, 12] rfl, hD.sub (ws' := [(x0, .inr (5, [.ref a1, .ref b1, .ref c1, .ref xl, .ref xb, .int kp, .null])), (a1, .inr (3, [.ref a2, .ref a3, .int (nI na)])), (a2, .inl (cyI, 10, .inl fa)), (a3, .inr (2, [.ref a4, .int (nI za)])), (a4, .inl (cyI, 60, .inl ga)), (b1, .inr (3, [.ref b2, .ref b3, .int (nI nb)])), (b2, .inl (cyI, 10, .inl fb)), (b3, .inr (2, [.ref b4, .int (nI zb)])), (b4, .inl (cyI, 60, .inl gb)), (c1, .inr (3, [.ref c2, .ref c3, .int (nI nc)])), (c2, .inl (cyI, 10, .inl fc)), (c3, .inr (2, [.ref c4, .int (nI zc)])), (c4, .inl (cyI, 60, .inl gc))]) [0, 1, 2, 3, 4, 5, 6, 7, 8, 9, 10, 11, 12] (by decide) rfl⟩⟩, hS.F ht⟩) hS.2.2 dX7_restore_25
      · skip
        subst e9
        refine lv_aload_n hx hb dX7_restore_12 rfl (lv_at hl 0 rfl) ?_
        refine va_get (D := (dC, dI)) (ci := 5) (v := .int kp) (C := RX7) (T := TX7) (N := 7) hx hb hts hnX7_restore_X7 hown hK hP 0 rfl rfl 5 (by decide) (hts (.fieldLink RX7 199 "RingMeets" "kept" "I") (by decide +kernel)) (fun _ h9 => h9) rfl dX7_restore_13 ?_
        refine lv_iload_n hx hb dX7_restore_16 rfl (lv_at hl 1 rfl) ?_
        refine vp_callSi (va_Run.run (va_runS (As := [.int kp, .int 1]) (rest := []) ⟨hx, hb, hml, hown, hts⟩ (mX5_has l dC dI cyI cyZ kp 1 ) (va_cwS 2 hts gX7_restore_X5_has rfl rfl rfl (by decide +kernel) ⟨Nat.le_of_ble_eq_true rfl, Nat.le_of_ble_eq_true rfl⟩) (bs_RS hB (hP.sub (ws' := []) [] rfl)) rfl rfl hl.1 rfl (lv_room (Nat.le_of_ble_eq_true rfl)) dX7_restore_17 ⟨Nat.le_of_ble_eq_true rfl, Nat.le_of_ble_eq_true rfl⟩)) (fun r_10 hr_10 => ?_)
        refine lv_if_ne (tgt := 26) hx hb dX7_restore_20 (by decide) (fun c_11 => ?_) (fun c_11 => ?_)
        · skip
          have ic_11 := ci_ne (rfl : Int32.toInt r_10 = _) (show Int32.toInt 0 = 0 by decide) c_11
          refine lv_aload_n hx hb dX7_restore_26 rfl (lv_at hl 0 rfl) ?_
          refine va_get (D := (dC, dI)) (ci := 5) (v := .ref a1) (C := RX7) (T := TX7) (N := 7) hx hb hts hnX7_restore_X7 hown hK hP 0 rfl rfl 0 (by decide) (hts (.fieldLink RX7 10 "RingMeets" "now" "LRingMeets$Scene;") (by decide +kernel)) (fun _ h9 => h9) rfl dX7_restore_27 ?_
          refine lv_aload_n hx hb dX7_restore_30 rfl (lv_at hl 0 rfl) ?_
          refine lv_iload_n hx hb dX7_restore_31 rfl (lv_at hl 1 rfl) ?_
          refine va_csr (va_Run.run (va_runV (As := [.int 1]) (rest := [.ref a1]) ⟨hx, hb, hml, hown, hts⟩ (mX7_imageOf_10 l dC dI cyI cyZ x0 a1 b1 c1 xl xb kp ) (cwV 1 hts gX7_restore_X7_imageOf rfl rfl rfl (by decide +kernel) ⟨Nat.le_of_ble_eq_true rfl, Nat.le_of_ble_eq_true rfl⟩) (bs_RV hB (hP.sub (ws' := [(x0, .inr (5, [.ref a1, .ref b1, .ref c1, .ref xl, .ref xb, .int kp, .null]))]) [0] rfl) 0 rfl rfl) rfl rfl hl.1 rfl (lv_room (Nat.le_of_ble_eq_true rfl)) dX7_restore_32 ⟨Nat.le_of_ble_eq_true rfl, Nat.le_of_ble_eq_true rfl⟩)) (fun r_12 hr_12 => ?_)
          obtain rfl : c1 = r_12 := Eq.symm hr_12
          have f_13 := va_free (wc := [(a1, .inr (3, [.ref a2, .ref a3, .int (nI na)])), (a2, .inl (cyI, 10, .inl fa)), (a3, .inr (2, [.ref a4, .int (nI za)])), (a4, .inl (cyI, 60, .inl ga)), (c1, .inr (3, [.ref c2, .ref c3, .int (nI nc)])), (c2, .inl (cyI, 10, .inl fc)), (c3, .inr (2, [.ref c4, .int (nI zc)])), (c4, .inl (cyI, 60, .inl gc))]) hD hS hA [1, 2, 3, 4, 9, 10, 11, 12] rfl
          refine va_callv (va_runV (As := [.ref c1]) (rest := []) ⟨hx, hb, hml, hown, hts⟩ (mX4_copyFrom l dC dI cyI cyZ a1 a2 a3 a4 c1 c2 c3 c4 na nc za zc fa fc ga gc  _) (cwV 1 hts gX7_restore_X4_copyFrom rfl rfl rfl (by decide +kernel) ⟨Nat.le_of_ble_eq_true rfl, Nat.le_of_ble_eq_true rfl⟩) (bs_WV hB (hP.sub (ws' := [(a1, .inr (3, [.ref a2, .ref a3, .int (nI na)])), (a2, .inl (cyI, 10, .inl fa)), (a3, .inr (2, [.ref a4, .int (nI za)])), (a4, .inl (cyI, 60, .inl ga)), (c1, .inr (3, [.ref c2, .ref c3, .int (nI nc)])), (c2, .inl (cyI, 10, .inl fc)), (c3, .inr (2, [.ref c4, .int (nI zc)])), (c4, .inl (cyI, 60, .inl gc))]) [1, 2, 3, 4, 9, 10, 11, 12] rfl) (hD.sub (ws' := [(a1, .inr (3, [.ref a2, .ref a3, .int (nI na)])), (a2, .inl (cyI, 10, .inl fa)), (a3, .inr (2, [.ref a4, .int (nI za)])), (a4, .inl (cyI, 60, .inl ga)), (c1, .inr (3, [.ref c2, .ref c3, .int (nI nc)])), (c2, .inl (cyI, 10, .inl fc)), (c3, .inr (2, [.ref c4, .int (nI zc)])), (c4, .inl (cyI, 60, .inl gc))]) [1, 2, 3, 4, 9, 10, 11, 12] (by decide) rfl) 0 rfl rfl) rfl rfl hl.1 rfl (lv_room (Nat.le_of_ble_eq_true rfl)) dX7_restore_35 ⟨Nat.le_of_ble_eq_true rfl, Nat.le_of_ble_eq_true rfl⟩) hS (fun q _ h => f_13 q h) f_13 (fun uh_14 t H1 locs ht hvm h_14 hB1 hz1 hk1 hS => ?_)
          obtain ⟨g_15, g_16⟩ := uh_14
          have h_14 : ∀ i, i < 60 → g_16 i = gc i := h_14
          obtain ⟨hP1, hD1⟩ := hB1
          rw [ht] at hP1
          obtain ⟨hP, hD⟩ := va_join (wr := [(x0, .inr (5, [.ref a1, .ref b1, .ref c1, .ref xl, .ref xb, .int kp, .null])), (b1, .inr (3, [.ref b2, .ref b3, .int (nI nb)])), (b2, .inl (cyI, 10, .inl fb)), (b3, .inr (2, [.ref b4, .int (nI zb)])), (b4, .inl (cyI, 60, .inl gb))]) (w1 := [(a1, .inr (3, [.ref a2, .ref a3, .int (nI nc)])), (a2, .inl (cyI, 10, .inl g_15)), (a3, .inr (2, [.ref a4, .int (nI zc)])), (a4, .inl (cyI, 60, .inl g_16)), (c1, .inr (3, [.ref c2, .ref c3, .int (nI nc)])), (c2, .inl (cyI, 10, .inl fc)), (c3, .inr (2, [.ref c4, .int (nI zc)])), (c4, .inl (cyI, 60, .inl gc))]) hP hD [1, 2, 3, 4, 9, 10, 11, 12] [0, 5, 6, 7, 8] rfl rfl (by decide) (by decide) hk1 f_13 hP1 hD1
          generalize H1 = H at hP hS ⊢
          have hP : va_P (dC, dI) vwCl [(x0, .inr (5, [.ref a1, .ref b1, .ref c1, .ref xl, .ref xb, .int kp, .null])), (b1, .inr (3, [.ref b2, .ref b3, .int (nI nb)])), (b2, .inl (cyI, 10, .inl fb)), (b3, .inr (2, [.ref b4, .int (nI zb)])), (b4, .inl (cyI, 60, .inl gb)), (a1, .inr (3, [.ref a2, .ref a3, .int (nI nc)])), (a2, .inl (cyI, 10, .inl g_15)), (a3, .inr (2, [.ref a4, .int (nI zc)])), (a4, .inl (cyI, 60, .inl g_16)), (c1, .inr (3, [.ref c2, .ref c3, .int (nI nc)])), (c2, .inl (cyI, 10, .inl fc)), (c3, .inr (2, [.ref c4, .int (nI zc)])), (c4, .inl (cyI, 60, .inl gc))] _ := hP
          have hD : va_D A [(x0, .inr (5, [.ref a1, .ref b1, .ref c1, .ref xl, .ref xb, .int kp, .null])), (b1, .inr (3, [.ref b2, .ref b3, .int (nI nb)])), (b2, .inl (cyI, 10, .inl fb)), (b3, .inr (2, [.ref b4, .int (nI zb)])), (b4, .inl (cyI, 60, .inl gb)), (a1, .inr (3, [.ref a2, .ref a3, .int (nI nc)])), (a2, .inl (cyI, 10, .inl g_15)), (a3, .inr (2, [.ref a4, .int (nI zc)])), (a4, .inl (cyI, 60, .inl g_16)), (c1, .inr (3, [.ref c2, .ref c3, .int (nI nc)])), (c2, .inl (cyI, 10, .inl fc)), (c3, .inr (2, [.ref c4, .int (nI zc)])), (c4, .inl (cyI, 60, .inl gc))] := hD
          refine lv_iconst (v := 1) hx hb dX7_restore_38 (by decide) ?_
          exact W.iret (v := 1) hx hb hr (fun t ht hW => ⟨⟨1, (nc, g_15, zc, g_16), rfl, (⟨by omega, by omega⟩), ⟨by rw [ht]; exact hP.sub (ws' := [(x0, .inr (5, [.ref a1, .ref b1, .ref c1, .ref xl, .ref xb, .int kp, .null])), (a1, .inr (3, [.ref a2, .ref a3, .int (nI nc)])), (a2, .inl (cyI, 10, .inl g_15)), (a3, .inr (2, [.ref a4, .int (nI zc)])), (a4, .inl (cyI, 60, .inl g_16)), (b1, .inr (3, [.ref b2, .ref b3, .int (nI nb)])), (b2, .inl (cyI, 10, .inl fb)), (b3, .inr (2, [.ref b4, .int (nI zb)])), (b4, .inl (cyI, 60, .inl gb)), (c1, .inr (3, [.ref c2, .ref c3, .int (nI nc)])), (c2, .inl (cyI, 10, .inl fc)), (c3, .inr (2, [.ref c4, .int (nI zc)])), (c4, .inl (cyI, 60, .inl gc))]) [0, 5, 6, 7, 8, 1, 2, 3, 4, 9, 10, 11, 12] rfl, hD.sub (ws' := [(x0, .inr (5, [.ref a1, .ref b1, .ref c1, .ref xl, .ref xb, .int kp, .null])), (a1, .inr (3, [.ref a2, .ref a3, .int (nI nc)])), (a2, .inl (cyI, 10, .inl g_15)), (a3, .inr (2, [.ref a4, .int (nI zc)])), (a4, .inl (cyI, 60, .inl g_16)), (b1, .inr (3, [.ref b2, .ref b3, .int (nI nb)])), (b2, .inl (cyI, 10, .inl fb)), (b3, .inr (2, [.ref b4, .int (nI zb)])), (b4, .inl (cyI, 60, .inl gb)), (c1, .inr (3, [.ref c2, .ref c3, .int (nI nc)])), (c2, .inl (cyI, 10, .inl fc)), (c3, .inr (2, [.ref c4, .int (nI zc)])), (c4, .inl (cyI, 60, .inl gc))]) [0, 5, 6, 7, 8, 1, 2, 3, 4, 9, 10, 11, 12] (by decide) rfl⟩⟩, hS.F ht⟩) hS.2.2 dX7_restore_39
        · skip
          have ic_11 := ci_eq (rfl : Int32.toInt r_10 = _) (show Int32.toInt 0 = 0 by decide) c_11
          refine lv_bipush (v := (-3)) hx hb dX7_restore_23 (by decide) ?_
          exact W.iret (v := (-3)) hx hb hr (fun t ht hW => ⟨⟨(-3), (na, fa, za, ga), rfl, (⟨by omega, by omega⟩), ⟨by rw [ht]; exact hP.sub (ws' := [(x0, .inr (5, [.ref a1, .ref b1, .ref c1, .ref xl, .ref xb, .int kp, .null])), (a1, .inr (3, [.ref a2, .ref a3, .int (nI na)])), (a2, .inl (cyI, 10, .inl fa)), (a3, .inr (2, [.ref a4, .int (nI za)])), (a4, .inl (cyI, 60, .inl ga)), (b1, .inr (3, [.ref b2, .ref b3, .int (nI nb)])), (b2, .inl (cyI, 10, .inl fb)), (b3, .inr (2, [.ref b4, .int (nI zb)])), (b4, .inl (cyI, 60, .inl gb)), (c1, .inr (3, [.ref c2, .ref c3, .int (nI nc)])), (c2, .inl (cyI, 10, .inl fc)), (c3, .inr (2, [.ref c4, .int (nI zc)])), (c4, .inl (cyI, 60, .inl gc))]) [0, 1, 2, 3, 4, 5, 6, 7, 8, 9, 10, 11, 12] rfl, hD.sub (ws' := [(x0, .inr (5, [.ref a1, .ref b1, .ref c1, .ref xl, .ref xb, .int kp, .null])), (a1, .inr (3, [.ref a2, .ref a3, .int (nI na)])), (a2, .inl (cyI, 10, .inl fa)), (a3, .inr (2, [.ref a4, .int (nI za)])), (a4, .inl (cyI, 60, .inl ga)), (b1, .inr (3, [.ref b2, .ref b3, .int (nI nb)])), (b2, .inl (cyI, 10, .inl fb)), (b3, .inr (2, [.ref b4, .int (nI zb)])), (b4, .inl (cyI, 60, .inl gb)), (c1, .inr (3, [.ref c2, .ref c3, .int (nI nc)])), (c2, .inl (cyI, 10, .inl fc)), (c3, .inr (2, [.ref c4, .int (nI zc)])), (c4, .inl (cyI, 60, .inl gc))]) [0, 1, 2, 3, 4, 5, 6, 7, 8, 9, 10, 11, 12] (by decide) rfl⟩⟩, hS.F ht⟩) hS.2.2 dX7_restore_25
    · skip
      have ic_2 := ci_nlt (rfl : Int32.toInt p1 = _) (show Int32.toInt 2 = 2 by decide) c_2
      refine lv_bipush (v := (-2)) hx hb dX7_restore_9 (by decide) ?_
      exact W.iret (v := (-2)) hx hb hr (fun t ht hW => ⟨⟨(-2), (na, fa, za, ga), rfl, (⟨by omega, by omega⟩), ⟨by rw [ht]; exact hP.sub (ws' := [(x0, .inr (5, [.ref a1, .ref b1, .ref c1, .ref xl, .ref xb, .int kp, .null])), (a1, .inr (3, [.ref a2, .ref a3, .int (nI na)])), (a2, .inl (cyI, 10, .inl fa)), (a3, .inr (2, [.ref a4, .int (nI za)])), (a4, .inl (cyI, 60, .inl ga)), (b1, .inr (3, [.ref b2, .ref b3, .int (nI nb)])), (b2, .inl (cyI, 10, .inl fb)), (b3, .inr (2, [.ref b4, .int (nI zb)])), (b4, .inl (cyI, 60, .inl gb)), (c1, .inr (3, [.ref c2, .ref c3, .int (nI nc)])), (c2, .inl (cyI, 10, .inl fc)), (c3, .inr (2, [.ref c4, .int (nI zc)])), (c4, .inl (cyI, 60, .inl gc))]) [0, 1, 2, 3, 4, 5, 6, 7, 8, 9, 10, 11, 12] rfl, hD.sub (ws' := [(x0, .inr (5, [.ref a1, .ref b1, .ref c1, .ref xl, .ref xb, .int kp, .null])), (a1, .inr (3, [.ref a2, .ref a3, .int (nI na)])), (a2, .inl (cyI, 10, .inl fa)), (a3, .inr (2, [.ref a4, .int (nI za)])), (a4, .inl (cyI, 60, .inl ga)), (b1, .inr (3, [.ref b2, .ref b3, .int (nI nb)])), (b2, .inl (cyI, 10, .inl fb)), (b3, .inr (2, [.ref b4, .int (nI zb)])), (b4, .inl (cyI, 60, .inl gb)), (c1, .inr (3, [.ref c2, .ref c3, .int (nI nc)])), (c2, .inl (cyI, 10, .inl fc)), (c3, .inr (2, [.ref c4, .int (nI zc)])), (c4, .inl (cyI, 60, .inl gc))]) [0, 1, 2, 3, 4, 5, 6, 7, 8, 9, 10, 11, 12] (by decide) rfl⟩⟩, hS.F ht⟩) hS.2.2 dX7_restore_11

set_option maxHeartbeats 4000000 in
set_option maxRecDepth 100000 in
theorem mX7_image_1 (l : Launch) (dC : Nat → ClassId) (dI : Nat → Nat → Nat) (cyI cyZ : ClassId) (x0 : Nat) (a1 : Nat) (b1 : Nat) (c1 : Nat) (xl : Nat) (xb : Nat) (kp : Int32) (wk : Nat) (a2 : Nat) (a3 : Nat) (a4 : Nat) (na : Nat) (za : Nat) (b2 : Nat) (b3 : Nat) (b4 : Nat) (nb : Nat) (zb : Nat) (c2 : Nat) (c3 : Nat) (c4 : Nat) (nc : Nat) (zc : Nat) (fa : Nat → Int32) (ga : Nat → Int32) (fb : Nat → Int32) (gb : Nat → Int32) (fc : Nat → Int32) (gc : Nat → Int32) (p1 : Int32) (hna : na ≤ 10) (hza : za ≤ 10) (hnb : nb ≤ 10) (hzb : zb ≤ 10) (hnc : nc ≤ 10) (hzc : zc ≤ 10) (sz : Nat) : Met l yX7_image wsX7_image ({ frames := 2, cells := 0, slots := 0, locals := 44 }) (bs_W dC dI cyI cyZ [.ref x0, .int p1] [(x0, .inr (5, [.ref a1, .ref b1, .ref c1, .ref xl, .ref xb, .int kp, .ref wk])), (a1, .inr (3, [.ref a2, .ref a3, .int (nI na)])), (a2, .inl (cyI, 10, .inl fa)), (a3, .inr (2, [.ref a4, .int (nI za)])), (a4, .inl (cyI, 60, .inl ga)), (b1, .inr (3, [.ref b2, .ref b3, .int (nI nb)])), (b2, .inl (cyI, 10, .inl fb)), (b3, .inr (2, [.ref b4, .int (nI zb)])), (b4, .inl (cyI, 60, .inl gb)), (c1, .inr (3, [.ref c2, .ref c3, .int (nI nc)])), (c2, .inl (cyI, 10, .inl fc)), (c3, .inr (2, [.ref c4, .int (nI zc)])), (c4, .inl (cyI, 60, .inl gc))] sz) (va_Qi (S := Int32 × Nat × (Nat → Int32) × Nat × (Nat → Int32) × Nat × (Nat → Int32) × Nat × (Nat → Int32)) (fun (r : Int32) (q : Int32 × Nat × (Nat → Int32) × Nat × (Nat → Int32) × Nat × (Nat → Int32) × Nat × (Nat → Int32)) => q.2.1 ≤ 10 ∧ q.2.2.2.1 ≤ 10 ∧ q.2.2.2.2.2.1 ≤ 10 ∧ q.2.2.2.2.2.2.2.1 ≤ 10 ∧ r = (if 0 ≤ p1.toInt ∧ p1.toInt ≤ 1 then 1 else -2)) (fun q t => bs_E dC dI (va_A [(x0, .inr (5, [.ref a1, .ref b1, .ref c1, .ref xl, .ref xb, .int kp, .ref wk])), (a1, .inr (3, [.ref a2, .ref a3, .int (nI na)])), (a2, .inl (cyI, 10, .inl fa)), (a3, .inr (2, [.ref a4, .int (nI za)])), (a4, .inl (cyI, 60, .inl ga)), (b1, .inr (3, [.ref b2, .ref b3, .int (nI nb)])), (b2, .inl (cyI, 10, .inl fb)), (b3, .inr (2, [.ref b4, .int (nI zb)])), (b4, .inl (cyI, 60, .inl gb)), (c1, .inr (3, [.ref c2, .ref c3, .int (nI nc)])), (c2, .inl (cyI, 10, .inl fc)), (c3, .inr (2, [.ref c4, .int (nI zc)])), (c4, .inl (cyI, 60, .inl gc))] sz) [(x0, .inr (5, [.ref a1, .ref b1, .ref c1, .ref xl, .ref xb, .int q.1, .ref wk])), (a1, .inr (3, [.ref a2, .ref a3, .int (nI na)])), (a2, .inl (cyI, 10, .inl fa)), (a3, .inr (2, [.ref a4, .int (nI za)])), (a4, .inl (cyI, 60, .inl ga)), (b1, .inr (3, [.ref b2, .ref b3, .int (nI q.2.1)])), (b2, .inl (cyI, 10, .inl q.2.2.1)), (b3, .inr (2, [.ref b4, .int (nI q.2.2.2.1)])), (b4, .inl (cyI, 60, .inl q.2.2.2.2.1)), (c1, .inr (3, [.ref c2, .ref c3, .int (nI q.2.2.2.2.2.1)])), (c2, .inl (cyI, 10, .inl q.2.2.2.2.2.2.1)), (c3, .inr (2, [.ref c4, .int (nI q.2.2.2.2.2.2.2.1)])), (c4, .inl (cyI, 60, .inl q.2.2.2.2.2.2.2.2))] t) (va_A [(x0, .inr (5, [.ref a1, .ref b1, .ref c1, .ref xl, .ref xb, .int kp, .ref wk])), (a1, .inr (3, [.ref a2, .ref a3, .int (nI na)])), (a2, .inl (cyI, 10, .inl fa)), (a3, .inr (2, [.ref a4, .int (nI za)])), (a4, .inl (cyI, 60, .inl ga)), (b1, .inr (3, [.ref b2, .ref b3, .int (nI nb)])), (b2, .inl (cyI, 10, .inl fb)), (b3, .inr (2, [.ref b4, .int (nI zb)])), (b4, .inl (cyI, 60, .inl gb)), (c1, .inr (3, [.ref c2, .ref c3, .int (nI nc)])), (c2, .inl (cyI, 10, .inl fc)), (c3, .inr (2, [.ref c4, .int (nI zc)])), (c4, .inl (cyI, 60, .inl gc))] sz)) 0 0 (va_A [(x0, .inr (5, [.ref a1, .ref b1, .ref c1, .ref xl, .ref xb, .int kp, .ref wk])), (a1, .inr (3, [.ref a2, .ref a3, .int (nI na)])), (a2, .inl (cyI, 10, .inl fa)), (a3, .inr (2, [.ref a4, .int (nI za)])), (a4, .inl (cyI, 60, .inl ga)), (b1, .inr (3, [.ref b2, .ref b3, .int (nI nb)])), (b2, .inl (cyI, 10, .inl fb)), (b3, .inr (2, [.ref b4, .int (nI zb)])), (b4, .inl (cyI, 60, .inl gb)), (c1, .inr (3, [.ref c2, .ref c3, .int (nI nc)])), (c2, .inl (cyI, 10, .inl fc)), (c3, .inr (2, [.ref c4, .int (nI zc)])), (c4, .inl (cyI, 60, .inl gc))] sz) := by
  refine Met.ofW (cc := cX7_image) (maxL := 2) (ret := (some .int)) (by decide) rfl ?_
  intro p e s m args below meth c s₁ B hml hv
  obtain ⟨rfl, hsz, hB, hP, hD0⟩ := hv
  have hK := hB.1
  have hN := hB.2
  have hx := B.exec
  have hb := B.bytes
  have hr := B.returns
  have hts := atoms_spec (ws := wsX7_image) B.pre
  have hown : s.vm.findClass RX7 = some m.cls := findClass_of_methodNamed B.named
  have hlocks := B.notSynchronized
  subst hsz
  have hD := hD0.self (sz := s.heap.size)
  generalize hAe : va_A [(x0, .inr (5, [.ref a1, .ref b1, .ref c1, .ref xl, .ref xb, .int kp, .ref wk])), (a1, .inr (3, [.ref a2, .ref a3, .int (nI na)])), (a2, .inl (cyI, 10, .inl fa)), (a3, .inr (2, [.ref a4, .int (nI za)])), (a4, .inl (cyI, 60, .inl ga)), (b1, .inr (3, [.ref b2, .ref b3, .int (nI nb)])), (b2, .inl (cyI, 10, .inl fb)), (b3, .inr (2, [.ref b4, .int (nI zb)])), (b4, .inl (cyI, 60, .inl gb)), (c1, .inr (3, [.ref c2, .ref c3, .int (nI nc)])), (c2, .inl (cyI, 10, .inl fc)), (c3, .inr (2, [.ref c4, .int (nI zc)])), (c4, .inl (cyI, 60, .inl gc))] s.heap.size = A at hD ⊢
  have hA : ∀ q : Nat, s.heap.size ≤ q → A q := fun q h => by rw [← hAe]; exact Or.inr h
  have hS : va_S A s.heap s.heap [] := va_S.rf
  have hP : va_P (dC, dI) vwCl [(x0, .inr (5, [.ref a1, .ref b1, .ref c1, .ref xl, .ref xb, .int kp, .ref wk])), (a1, .inr (3, [.ref a2, .ref a3, .int (nI na)])), (a2, .inl (cyI, 10, .inl fa)), (a3, .inr (2, [.ref a4, .int (nI za)])), (a4, .inl (cyI, 60, .inl ga)), (b1, .inr (3, [.ref b2, .ref b3, .int (nI nb)])), (b2, .inl (cyI, 10, .inl fb)), (b3, .inr (2, [.ref b4, .int (nI zb)])), (b4, .inl (cyI, 60, .inl gb)), (c1, .inr (3, [.ref c2, .ref c3, .int (nI nc)])), (c2, .inl (cyI, 10, .inl fc)), (c3, .inr (2, [.ref c4, .int (nI zc)])), (c4, .inl (cyI, 60, .inl gc))] s.heap := hP
  have hl := lv_entry ([.ref x0, .int p1]) (n := 2) (Nat.le_of_ble_eq_true rfl)
  rw [lg_entry_eq]
  generalize (lg_sl ([.ref x0, .int p1]) ++ List.replicate (2 - (lg_sl ([.ref x0, .int p1])).length) Slot.unset).toArray = ls at hl ⊢
  have hl : lv_has ls 2 [(0, .ref x0), (1, .int p1)] := hl
  refine lv_iload_n hx hb dX7_image_0 rfl (lv_at hl 1 rfl) ?_
  refine lv_if_lt (tgt := 9) hx hb dX7_image_1 (by decide) (fun c_1 => ?_) (fun c_1 => ?_)
  · skip
    have ic_1 := ci_lt (rfl : Int32.toInt p1 = _) (show Int32.toInt 0 = 0 by decide) c_1
    refine lv_bipush (v := (-2)) hx hb dX7_image_9 (by decide) ?_
    exact W.iret (v := (-2)) hx hb hr (fun t ht hW => ⟨⟨(-2), (kp, nb, fb, zb, gb, nc, fc, zc, gc), rfl, (⟨by omega, by omega, by omega, by omega, by rw [if_neg (by omega)]⟩), ⟨by rw [ht]; exact hP.sub (ws' := [(x0, .inr (5, [.ref a1, .ref b1, .ref c1, .ref xl, .ref xb, .int kp, .ref wk])), (a1, .inr (3, [.ref a2, .ref a3, .int (nI na)])), (a2, .inl (cyI, 10, .inl fa)), (a3, .inr (2, [.ref a4, .int (nI za)])), (a4, .inl (cyI, 60, .inl ga)), (b1, .inr (3, [.ref b2, .ref b3, .int (nI nb)])), (b2, .inl (cyI, 10, .inl fb)), (b3, .inr (2, [.ref b4, .int (nI zb)])), (b4, .inl (cyI, 60, .inl gb)), (c1, .inr (3, [.ref c2, .ref c3, .int (nI nc)])), (c2, .inl (cyI, 10, .inl fc)), (c3, .inr (2, [.ref c4, .int (nI zc)])), (c4, .inl (cyI, 60, .inl gc))]) [0, 1, 2, 3, 4, 5, 6, 7, 8, 9, 10, 11, 12] rfl, hD.sub (ws' := [(x0, .inr (5, [.ref a1, .ref b1, .ref c1, .ref xl, .ref xb, .int kp, .ref wk])), (a1, .inr (3, [.ref a2, .ref a3, .int (nI na)])), (a2, .inl (cyI, 10, .inl fa)), (a3, .inr (2, [.ref a4, .int (nI za)])), (a4, .inl (cyI, 60, .inl ga)), (b1, .inr (3, [.ref b2, .ref b3, .int (nI nb)])), (b2, .inl (cyI, 10, .inl fb)), (b3, .inr (2, [.ref b4, .int (nI zb)])), (b4, .inl (cyI, 60, .inl gb)), (c1, .inr (3, [.ref c2, .ref c3, .int (nI nc)])), (c2, .inl (cyI, 10, .inl fc)), (c3, .inr (2, [.ref c4, .int (nI zc)])), (c4, .inl (cyI, 60, .inl gc))]) [0, 1, 2, 3, 4, 5, 6, 7, 8, 9, 10, 11, 12] (by decide) rfl⟩⟩, hS.F ht⟩) hS.2.2 dX7_image_11
  · skip
    have ic_1 := ci_nlt (rfl : Int32.toInt p1 = _) (show Int32.toInt 0 = 0 by decide) c_1
    refine lv_iload_n hx hb dX7_image_4 rfl (lv_at hl 1 rfl) ?_
    refine lv_iconst (v := 2) hx hb dX7_image_5 (by decide) ?_
    refine lv_icmp_lt (tgt := 12) hx hb dX7_image_6 (by decide) (fun c_2 => ?_) (fun c_2 => ?_)
    · skip
      have ic_2 := ci_lt (rfl : Int32.toInt p1 = _) (show Int32.toInt 2 = 2 by decide) c_2
      rcases nb_01 (x := p1) (by omega) (by omega) with e9 | e9
      · skip
        subst e9
        refine lv_aload_n hx hb dX7_image_12 rfl (lv_at hl 0 rfl) ?_
        refine lv_iload_n hx hb dX7_image_13 rfl (lv_at hl 1 rfl) ?_
        refine va_csr (va_Run.run (va_runV (As := [.int 0]) (rest := []) ⟨hx, hb, hml, hown, hts⟩ (mX7_imageOf_01 l dC dI cyI cyZ x0 a1 b1 c1 xl xb kp wk ) (cwV 1 hts gX7_image_X7_imageOf rfl rfl rfl (by decide +kernel) ⟨Nat.le_of_ble_eq_true rfl, Nat.le_of_ble_eq_true rfl⟩) (bs_RV hB (hP.sub (ws' := [(x0, .inr (5, [.ref a1, .ref b1, .ref c1, .ref xl, .ref xb, .int kp, .ref wk]))]) [0] rfl) 0 rfl rfl) rfl rfl hl.1 rfl (lv_room (Nat.le_of_ble_eq_true rfl)) dX7_image_14 ⟨Nat.le_of_ble_eq_true rfl, Nat.le_of_ble_eq_true rfl⟩)) (fun r_3 hr_3 => ?_)
        obtain rfl : b1 = r_3 := Eq.symm hr_3
        refine lv_aload_n hx hb dX7_image_17 rfl (lv_at hl 0 rfl) ?_
        refine va_get (D := (dC, dI)) (ci := 5) (v := .ref a1) (C := RX7) (T := TX7) (N := 7) hx hb hts hnX7_image_X7 hown hK hP 0 rfl rfl 0 (by decide) (hts (.fieldLink RX7 10 "RingMeets" "now" "LRingMeets$Scene;") (by decide +kernel)) (fun _ h9 => h9) rfl dX7_image_18 ?_
        have f_4 := va_free (wc := [(b1, .inr (3, [.ref b2, .ref b3, .int (nI nb)])), (b2, .inl (cyI, 10, .inl fb)), (b3, .inr (2, [.ref b4, .int (nI zb)])), (b4, .inl (cyI, 60, .inl gb)), (a1, .inr (3, [.ref a2, .ref a3, .int (nI na)])), (a2, .inl (cyI, 10, .inl fa)), (a3, .inr (2, [.ref a4, .int (nI za)])), (a4, .inl (cyI, 60, .inl ga))]) hD hS hA [5, 6, 7, 8, 1, 2, 3, 4] rfl
        refine va_callv (va_runV (As := [.ref a1]) (rest := []) ⟨hx, hb, hml, hown, hts⟩ (mX4_copyFrom l dC dI cyI cyZ b1 b2 b3 b4 a1 a2 a3 a4 nb na zb za fb fa gb ga  _) (cwV 1 hts gX7_image_X4_copyFrom rfl rfl rfl (by decide +kernel) ⟨Nat.le_of_ble_eq_true rfl, Nat.le_of_ble_eq_true rfl⟩) (bs_WV hB (hP.sub (ws' := [(b1, .inr (3, [.ref b2, .ref b3, .int (nI nb)])), (b2, .inl (cyI, 10, .inl fb)), (b3, .inr (2, [.ref b4, .int (nI zb)])), (b4, .inl (cyI, 60, .inl gb)), (a1, .inr (3, [.ref a2, .ref a3, .int (nI na)])), (a2, .inl (cyI, 10, .inl fa)), (a3, .inr (2, [.ref a4, .int (nI za)])), (a4, .inl (cyI, 60, .inl ga))]) [5, 6, 7, 8, 1, 2, 3, 4] rfl) (hD.sub (ws' := [(b1, .inr (3, [.ref b2, .ref b3, .int (nI nb)])), (b2, .inl (cyI, 10, .inl fb)), (b3, .inr (2, [.ref b4, .int (nI zb)])), (b4, .inl (cyI, 60, .inl gb)), (a1, .inr (3, [.ref a2, .ref a3, .int (nI na)])), (a2, .inl (cyI, 10, .inl fa)), (a3, .inr (2, [.ref a4, .int (nI za)])), (a4, .inl (cyI, 60, .inl ga))]) [5, 6, 7, 8, 1, 2, 3, 4] (by decide) rfl) 0 rfl rfl) rfl rfl hl.1 rfl (lv_room (Nat.le_of_ble_eq_true rfl)) dX7_image_21 ⟨Nat.le_of_ble_eq_true rfl, Nat.le_of_ble_eq_true rfl⟩) hS (fun q _ h => f_4 q h) f_4 (fun uh_5 t H1 locs ht hvm h_5 hB1 hz1 hk1 hS => ?_)
        obtain ⟨g_6, g_7⟩ := uh_5
        have h_5 : ∀ i, i < 60 → g_7 i = ga i := h_5
        obtain ⟨hP1, hD1⟩ := hB1
        rw [ht] at hP1
        obtain ⟨hP, hD⟩ := va_join (wr := [(x0, .inr (5, [.ref a1, .ref b1, .ref c1, .ref xl, .ref xb, .int kp, .ref wk])), (c1, .inr (3, [.ref c2, .ref c3, .int (nI nc)])), (c2, .inl (cyI, 10, .inl fc)), (c3, .inr (2, [.ref c4, .int (nI zc)])), (c4, .inl (cyI, 60, .inl gc))]) (w1 := [(b1, .inr (3, [.ref b2, .ref b3, .int (nI na)])), (b2, .inl (cyI, 10, .inl g_6)), (b3, .inr (2, [.ref b4, .int (nI za)])), (b4, .inl (cyI, 60, .inl g_7)), (a1, .inr (3, [.ref a2, .ref a3, .int (nI na)])), (a2, .inl (cyI, 10, .inl fa)), (a3, .inr (2, [.ref a4, .int (nI za)])), (a4, .inl (cyI, 60, .inl ga))]) hP hD [5, 6, 7, 8, 1, 2, 3, 4] [0, 9, 10, 11, 12] rfl rfl (by decide) (by decide) hk1 f_4 hP1 hD1
        generalize H1 = H at hP hS ⊢
        have hP : va_P (dC, dI) vwCl [(x0, .inr (5, [.ref a1, .ref b1, .ref c1, .ref xl, .ref xb, .int kp, .ref wk])), (c1, .inr (3, [.ref c2, .ref c3, .int (nI nc)])), (c2, .inl (cyI, 10, .inl fc)), (c3, .inr (2, [.ref c4, .int (nI zc)])), (c4, .inl (cyI, 60, .inl gc)), (b1, .inr (3, [.ref b2, .ref b3, .int (nI na)])), (b2, .inl (cyI, 10, .inl g_6)), (b3, .inr (2, [.ref b4, .int (nI za)])), (b4, .inl (cyI, 60, .inl g_7)), (a1, .inr (3, [.ref a2, .ref a3, .int (nI na)])), (a2, .inl (cyI, 10, .inl fa)), (a3, .inr (2, [.ref a4, .int (nI za)])), (a4, .inl (cyI, 60, .inl ga))] _ := hP
        have hD : va_D A [(x0, .inr (5, [.ref a1, .ref b1, .ref c1, .ref xl, .ref xb, .int kp, .ref wk])), (c1, .inr (3, [.ref c2, .ref c3, .int (nI nc)])), (c2, .inl (cyI, 10, .inl fc)), (c3, .inr (2, [.ref c4, .int (nI zc)])), (c4, .inl (cyI, 60, .inl gc)), (b1, .inr (3, [.ref b2, .ref b3, .int (nI na)])), (b2, .inl (cyI, 10, .inl g_6)), (b3, .inr (2, [.ref b4, .int (nI za)])), (b4, .inl (cyI, 60, .inl g_7)), (a1, .inr (3, [.ref a2, .ref a3, .int (nI na)])), (a2, .inl (cyI, 10, .inl fa)), (a3, .inr (2, [.ref a4, .int (nI za)])), (a4, .inl (cyI, 60, .inl ga))] := hD
        refine lv_aload_n hx hb dX7_image_24 rfl (lv_at hl 0 rfl) ?_
        refine lv_dup hx hb dX7_image_25 rfl ?_
        refine va_get (D := (dC, dI)) (ci := 5) (v := .int kp) (C := RX7) (T := TX7) (N := 7) hx hb hts hnX7_image_X7 hown hK hP 0 rfl rfl 5 (by decide) (hts (.fieldLink RX7 199 "RingMeets" "kept" "I") (by decide +kernel)) (fun _ h9 => h9) rfl dX7_image_26 ?_
        refine lv_iconst (v := 1) hx hb dX7_image_29 (by decide) ?_
        refine lv_iload_n hx hb dX7_image_30 rfl (lv_at hl 1 rfl) ?_
        refine lv_ishl hx hb dX7_image_31 ?_
        refine lv_topi (fun x_8 ex_8 => ?_)
        obtain rfl : 1 = x_8 := (ex_8.trans (by decide)).symm
        refine lv_ior hx hb dX7_image_32 ?_
        refine lv_topi (fun x_9 ex_9 => ?_)
        refine va_put (D := (dC, dI)) (ci := 5) (v := .int x_9) (ty := .int) (C := RX7) (T := TX7) (N := 7) hx hb hts hnX7_image_X7 tyX7 tyX7_ok nmX7 hown hK hP hD hS 0 rfl rfl 5 (by decide) (hts (.fieldLink RX7 199 "RingMeets" "kept" "I") (by decide +kernel)) (fun _ h9 => h9) rfl (by decide +kernel) rfl rfl (Nat.le_of_ble_eq_true rfl) dX7_image_33 (fun H locs hP hD hS => ?_)
        have hP : va_P (dC, dI) vwCl [(x0, .inr (5, [.ref a1, .ref b1, .ref c1, .ref xl, .ref xb, .int x_9, .ref wk])), (c1, .inr (3, [.ref c2, .ref c3, .int (nI nc)])), (c2, .inl (cyI, 10, .inl fc)), (c3, .inr (2, [.ref c4, .int (nI zc)])), (c4, .inl (cyI, 60, .inl gc)), (b1, .inr (3, [.ref b2, .ref b3, .int (nI na)])), (b2, .inl (cyI, 10, .inl g_6)), (b3, .inr (2, [.ref b4, .int (nI za)])), (b4, .inl (cyI, 60, .inl g_7)), (a1, .inr (3, [.ref a2, .ref a3, .int (nI na)])), (a2, .inl (cyI, 10, .inl fa)), (a3, .inr (2, [.ref a4, .int (nI za)])), (a4, .inl (cyI, 60, .inl ga))] _ := hP
        have hD : va_D A [(x0, .inr (5, [.ref a1, .ref b1, .ref c1, .ref xl, .ref xb, .int x_9, .ref wk])), (c1, .inr (3, [.ref c2, .ref c3, .int (nI nc)])), (c2, .inl (cyI, 10, .inl fc)), (c3, .inr (2, [.ref c4, .int (nI zc)])), (c4, .inl (cyI, 60, .inl gc)), (b1, .inr (3, [.ref b2, .ref b3, .int (nI na)])), (b2, .inl (cyI, 10, .inl g_6)), (b3, .inr (2, [.ref b4, .int (nI za)])), (b4, .inl (cyI, 60, .inl g_7)), (a1, .inr (3, [.ref a2, .ref a3, .int (nI na)])), (a2, .inl (cyI, 10, .inl fa)), (a3, .inr (2, [.ref a4, .int (nI za)])), (a4, .inl (cyI, 60, .inl ga))] := hD
        refine lv_iconst (v := 1) hx hb dX7_image_36 (by decide) ?_
        exact W.iret (v := 1) hx hb hr (fun t ht hW => ⟨⟨1, (x_9, na, g_6, za, g_7, nc, fc, zc, gc), rfl, (⟨by omega, by omega, by omega, by omega, by decide⟩), ⟨by rw [ht]; exact hP.sub (ws' := [(x0, .inr (5, [.ref a1, .ref b1, .ref c1, .ref xl, .ref xb, .int x_9, .ref wk])), (a1, .inr (3, [.ref a2, .ref a3, .int (nI na)])), (a2, .inl (cyI, 10, .inl fa)), (a3, .inr (2, [.ref a4, .int (nI za)])), (a4, .inl (cyI, 60, .inl ga)), (b1, .inr (3, [.ref b2, .ref b3, .int (nI na)])), (b2, .inl (cyI, 10, .inl g_6)), (b3, .inr (2, [.ref b4, .int (nI za)])), (b4, .inl (cyI, 60, .inl g_7)), (c1, .inr (3, [.ref c2, .ref c3, .int (nI nc)])), (c2, .inl (cyI, 10, .inl fc)), (c3, .inr (2, [.ref c4, .int (nI zc)])), (c4, .inl (cyI, 60, .inl gc))]) [0, 9, 10, 11, 12, 5, 6, 7, 8, 1, 2, 3, 4] rfl, hD.sub (ws' := [(x0, .inr (5, [.ref a1, .ref b1, .ref c1, .ref xl, .ref xb, .int x_9, .ref wk])), (a1, .inr (3, [.ref a2, .ref a3, .int (nI na)])), (a2, .inl (cyI, 10, .inl fa)), (a3, .inr (2, [.ref a4, .int (nI za)])), (a4, .inl (cyI, 60, .inl ga)), (b1, .inr (3, [.ref b2, .ref b3, .int (nI na)])), (b2, .inl (cyI, 10, .inl g_6)), (b3, .inr (2, [.ref b4, .int (nI za)])), (b4, .inl (cyI, 60, .inl g_7)), (c1, .inr (3, [.ref c2, .ref c3, .int (nI nc)])), (c2, .inl (cyI, 10, .inl fc)), (c3, .inr (2, [.ref c4, .int (nI zc)])), (c4, .inl (cyI, 60, .inl gc))]) [0, 9, 10, 11, 12, 5, 6, 7, 8, 1, 2, 3, 4] (by decide) rfl⟩⟩, hS.F ht⟩) hS.2.2 dX7_image_37
      · skip
        subst e9
        refine lv_aload_n hx hb dX7_image_12 rfl (lv_at hl 0 rfl) ?_
        refine lv_iload_n hx hb dX7_image_13 rfl (lv_at hl 1 rfl) ?_
        refine va_csr (va_Run.run (va_runV (As := [.int 1]) (rest := []) ⟨hx, hb, hml, hown, hts⟩ (mX7_imageOf_11 l dC dI cyI cyZ x0 a1 b1 c1 xl xb kp wk ) (cwV 1 hts gX7_image_X7_imageOf rfl rfl rfl (by decide +kernel) ⟨Nat.le_of_ble_eq_true rfl, Nat.le_of_ble_eq_true rfl⟩) (bs_RV hB (hP.sub (ws' := [(x0, .inr (5, [.ref a1, .ref b1, .ref c1, .ref xl, .ref xb, .int kp, .ref wk]))]) [0] rfl) 0 rfl rfl) rfl rfl hl.1 rfl (lv_room (Nat.le_of_ble_eq_true rfl)) dX7_image_14 ⟨Nat.le_of_ble_eq_true rfl, Nat.le_of_ble_eq_true rfl⟩)) (fun r_10 hr_10 => ?_)
        obtain rfl : c1 = r_10 := Eq.symm hr_10
        refine lv_aload_n hx hb dX7_image_17 rfl (lv_at hl 0 rfl) ?_
        refine va_get (D := (dC, dI)) (ci := 5) (v := .ref a1) (C := RX7) (T := TX7) (N := 7) hx hb hts hnX7_image_X7 hown hK hP 0 rfl rfl 0 (by decide) (hts (.fieldLink RX7 10 "RingMeets" "now" "LRingMeets$Scene;") (by decide +kernel)) (fun _ h9 => h9) rfl dX7_image_18 ?_
        have f_11 := va_free (wc := [(c1, .inr (3, [.ref c2, .ref c3, .int (nI nc)])), (c2, .inl (cyI, 10, .inl fc)), (c3, .inr (2, [.ref c4, .int (nI zc)])), (c4, .inl (cyI, 60, .inl gc)), (a1, .inr (3, [.ref a2, .ref a3, .int (nI na)])), (a2, .inl (cyI, 10, .inl fa)), (a3, .inr (2, [.ref a4, .int (nI za)])), (a4, .inl (cyI, 60, .inl ga))]) hD hS hA [9, 10, 11, 12, 1, 2, 3, 4] rfl
        refine va_callv (va_runV (As := [.ref a1]) (rest := []) ⟨hx, hb, hml, hown, hts⟩ (mX4_copyFrom l dC dI cyI cyZ c1 c2 c3 c4 a1 a2 a3 a4 nc na zc za fc fa gc ga  _) (cwV 1 hts gX7_image_X4_copyFrom rfl rfl rfl (by decide +kernel) ⟨Nat.le_of_ble_eq_true rfl, Nat.le_of_ble_eq_true rfl⟩) (bs_WV hB (hP.sub (ws' := [(c1, .inr (3, [.ref c2, .ref c3, .int (nI nc)])), (c2, .inl (cyI, 10, .inl fc)), (c3, .inr (2, [.ref c4, .int (nI zc)])), (c4, .inl (cyI, 60, .inl gc)), (a1, .inr (3, [.ref a2, .ref a3, .int (nI na)])), (a2, .inl (cyI, 10, .inl fa)), (a3, .inr (2, [.ref a4, .int (nI za)])), (a4, .inl (cyI, 60, .inl ga))]) [9, 10, 11, 12, 1, 2, 3, 4] rfl) (hD.sub (ws' := [(c1, .inr (3, [.ref c2, .ref c3, .int (nI nc)])), (c2, .inl (cyI, 10, .inl fc)), (c3, .inr (2, [.ref c4, .int (nI zc)])), (c4, .inl (cyI, 60, .inl gc)), (a1, .inr (3, [.ref a2, .ref a3, .int (nI na)])), (a2, .inl (cyI, 10, .inl fa)), (a3, .inr (2, [.ref a4, .int (nI za)])), (a4, .inl (cyI, 60, .inl ga))]) [9, 10, 11, 12, 1, 2, 3, 4] (by decide) rfl) 0 rfl rfl) rfl rfl hl.1 rfl (lv_room (Nat.le_of_ble_eq_true rfl)) dX7_image_21 ⟨Nat.le_of_ble_eq_true rfl, Nat.le_of_ble_eq_true rfl⟩) hS (fun q _ h => f_11 q h) f_11 (fun uh_12 t H1 locs ht hvm h_12 hB1 hz1 hk1 hS => ?_)
        obtain ⟨g_13, g_14⟩ := uh_12
        have h_12 : ∀ i, i < 60 → g_14 i = ga i := h_12
        obtain ⟨hP1, hD1⟩ := hB1
        rw [ht] at hP1
        obtain ⟨hP, hD⟩ := va_join (wr := [(x0, .inr (5, [.ref a1, .ref b1, .ref c1, .ref xl, .ref xb, .int kp, .ref wk])), (b1, .inr (3, [.ref b2, .ref b3, .int (nI nb)])), (b2, .inl (cyI, 10, .inl fb)), (b3, .inr (2, [.ref b4, .int (nI zb)])), (b4, .inl (cyI, 60, .inl gb))]) (w1 := [(c1, .inr (3, [.ref c2, .ref c3, .int (nI na)])), (c2, .inl (cyI, 10, .inl g_13)), (c3, .inr (2, [.ref c4, .int (nI za)])), (c4, .inl (cyI, 60, .inl g_14)), (a1, .inr (3, [.ref a2, .ref a3, .int (nI na)])), (a2, .inl (cyI, 10, .inl fa)), (a3, .inr (2, [.ref a4, .int (nI za)])), (a4, .inl (cyI, 60, .inl ga))]) hP hD [9, 10, 11, 12, 1, 2, 3, 4] [0, 5, 6, 7, 8] rfl rfl (by decide) (by decide) hk1 f_11 hP1 hD1
        generalize H1 = H at hP hS ⊢
        have hP : va_P (dC, dI) vwCl [(x0, .inr (5, [.ref a1, .ref b1, .ref c1, .ref xl, .ref xb, .int kp, .ref wk])), (b1, .inr (3, [.ref b2, .ref b3, .int (nI nb)])), (b2, .inl (cyI, 10, .inl fb)), (b3, .inr (2, [.ref b4, .int (nI zb)])), (b4, .inl (cyI, 60, .inl gb)), (c1, .inr (3, [.ref c2, .ref c3, .int (nI na)])), (c2, .inl (cyI, 10, .inl g_13)), (c3, .inr (2, [.ref c4, .int (nI za)])), (c4, .inl (cyI, 60, .inl g_14)), (a1, .inr (3, [.ref a2, .ref a3, .int (nI na)])), (a2, .inl (cyI, 10, .inl fa)), (a3, .inr (2, [.ref a4, .int (nI za)])), (a4, .inl (cyI, 60, .inl ga))] _ := hP
        have hD : va_D A [(x0, .inr (5, [.ref a1, .ref b1, .ref c1, .ref xl, .ref xb, .int kp, .ref wk])), (b1, .inr (3, [.ref b2, .ref b3, .int (nI nb)])), (b2, .inl (cyI, 10, .inl fb)), (b3, .inr (2, [.ref b4, .int (nI zb)])), (b4, .inl (cyI, 60, .inl gb)), (c1, .inr (3, [.ref c2, .ref c3, .int (nI na)])), (c2, .inl (cyI, 10, .inl g_13)), (c3, .inr (2, [.ref c4, .int (nI za)])), (c4, .inl (cyI, 60, .inl g_14)), (a1, .inr (3, [.ref a2, .ref a3, .int (nI na)])), (a2, .inl (cyI, 10, .inl fa)), (a3, .inr (2, [.ref a4, .int (nI za)])), (a4, .inl (cyI, 60, .inl ga))] := hD
        refine lv_aload_n hx hb dX7_image_24 rfl (lv_at hl 0 rfl) ?_
        refine lv_dup hx hb dX7_image_25 rfl ?_
        refine va_get (D := (dC, dI)) (ci := 5) (v := .int kp) (C := RX7) (T := TX7) (N := 7) hx hb hts hnX7_image_X7 hown hK hP 0 rfl rfl 5 (by decide) (hts (.fieldLink RX7 199 "RingMeets" "kept" "I") (by decide +kernel)) (fun _ h9 => h9) rfl dX7_image_26 ?_
        refine lv_iconst (v := 1) hx hb dX7_image_29 (by decide) ?_
        refine lv_iload_n hx hb dX7_image_30 rfl (lv_at hl 1 rfl) ?_
        refine lv_ishl hx hb dX7_image_31 ?_
        refine lv_topi (fun x_15 ex_15 => ?_)
        obtain rfl : 2 = x_15 := (ex_15.trans (by decide)).symm
        refine lv_ior hx hb dX7_image_32 ?_
        refine lv_topi (fun x_16 ex_16 => ?_)
        refine va_put (D := (dC, dI)) (ci := 5) (v := .int x_16) (ty := .int) (C := RX7) (T := TX7) (N := 7) hx hb hts hnX7_image_X7 tyX7 tyX7_ok nmX7 hown hK hP hD hS 0 rfl rfl 5 (by decide) (hts (.fieldLink RX7 199 "RingMeets" "kept" "I") (by decide +kernel)) (fun _ h9 => h9) rfl (by decide +kernel) rfl rfl (Nat.le_of_ble_eq_true rfl) dX7_image_33 (fun H locs hP hD hS => ?_)
        have hP : va_P (dC, dI) vwCl [(x0, .inr (5, [.ref a1, .ref b1, .ref c1, .ref xl, .ref xb, .int x_16, .ref wk])), (b1, .inr (3, [.ref b2, .ref b3, .int (nI nb)])), (b2, .inl (cyI, 10, .inl fb)), (b3, .inr (2, [.ref b4, .int (nI zb)])), (b4, .inl (cyI, 60, .inl gb)), (c1, .inr (3, [.ref c2, .ref c3, .int (nI na)])), (c2, .inl (cyI, 10, .inl g_13)), (c3, .inr (2, [.ref c4, .int (nI za)])), (c4, .inl (cyI, 60, .inl g_14)), (a1, .inr (3, [.ref a2, .ref a3, .int (nI na)])), (a2, .inl (cyI, 10, .inl fa)), (a3, .inr (2, [.ref a4, .int (nI za)])), (a4, .inl (cyI, 60, .inl ga))] _ := hP
        have hD : va_D A [(x0, .inr (5, [.ref a1, .ref b1, .ref c1, .ref xl, .ref xb, .int x_16, .ref wk])), (b1, .inr (3, [.ref b2, .ref b3, .int (nI nb)])), (b2, .inl (cyI, 10, .inl fb)), (b3, .inr (2, [.ref b4, .int (nI zb)])), (b4, .inl (cyI, 60, .inl gb)), (c1, .inr (3, [.ref c2, .ref c3, .int (nI na)])), (c2, .inl (cyI, 10, .inl g_13)), (c3, .inr (2, [.ref c4, .int (nI za)])), (c4, .inl (cyI, 60, .inl g_14)), (a1, .inr (3, [.ref a2, .ref a3, .int (nI na)])), (a2, .inl (cyI, 10, .inl fa)), (a3, .inr (2, [.ref a4, .int (nI za)])), (a4, .inl (cyI, 60, .inl ga))] := hD
        refine lv_iconst (v := 1) hx hb dX7_image_36 (by decide) ?_
        exact W.iret (v := 1) hx hb hr (fun t ht hW => ⟨⟨1, (x_16, nb, fb, zb, gb, na, g_13, za, g_14), rfl, (⟨by omega, by omega, by omega, by omega, by decide⟩), ⟨by rw [ht]; exact hP.sub (ws' := [(x0, .inr (5, [.ref a1, .ref b1, .ref c1, .ref xl, .ref xb, .int x_16, .ref wk])), (a1, .inr (3, [.ref a2, .ref a3, .int (nI na)])), (a2, .inl (cyI, 10, .inl fa)), (a3, .inr (2, [.ref a4, .int (nI za)])), (a4, .inl (cyI, 60, .inl ga)), (b1, .inr (3, [.ref b2, .ref b3, .int (nI nb)])), (b2, .inl (cyI, 10, .inl fb)), (b3, .inr (2, [.ref b4, .int (nI zb)])), (b4, .inl (cyI, 60, .inl gb)), (c1, .inr (3, [.ref c2, .ref c3, .int (nI na)])), (c2, .inl (cyI, 10, .inl g_13)), (c3, .inr (2, [.ref c4, .int (nI za)])), (c4, .inl (cyI, 60, .inl g_14))]) [0, 9, 10, 11, 12, 1, 2, 3, 4, 5, 6, 7, 8] rfl, hD.sub (ws' := [(x0, .inr (5, [.ref a1, .ref b1, .ref c1, .ref xl, .ref xb, .int x_16, .ref wk])), (a1, .inr (3, [.ref a2, .ref a3, .int (nI na)])), (a2, .inl (cyI, 10, .inl fa)), (a3, .inr (2, [.ref a4, .int (nI za)])), (a4, .inl (cyI, 60, .inl ga)), (b1, .inr (3, [.ref b2, .ref b3, .int (nI nb)])), (b2, .inl (cyI, 10, .inl fb)), (b3, .inr (2, [.ref b4, .int (nI zb)])), (b4, .inl (cyI, 60, .inl gb)), (c1, .inr (3, [.ref c2, .ref c3, .int (nI na)])), (c2, .inl (cyI, 10, .inl g_13)), (c3, .inr (2, [.ref c4, .int (nI za)])), (c4, .inl (cyI, 60, .inl g_14))]) [0, 9, 10, 11, 12, 1, 2, 3, 4, 5, 6, 7, 8] (by decide) rfl⟩⟩, hS.F ht⟩) hS.2.2 dX7_image_37
    · skip
      have ic_2 := ci_nlt (rfl : Int32.toInt p1 = _) (show Int32.toInt 2 = 2 by decide) c_2
      refine lv_bipush (v := (-2)) hx hb dX7_image_9 (by decide) ?_
      exact W.iret (v := (-2)) hx hb hr (fun t ht hW => ⟨⟨(-2), (kp, nb, fb, zb, gb, nc, fc, zc, gc), rfl, (⟨by omega, by omega, by omega, by omega, by rw [if_neg (by omega)]⟩), ⟨by rw [ht]; exact hP.sub (ws' := [(x0, .inr (5, [.ref a1, .ref b1, .ref c1, .ref xl, .ref xb, .int kp, .ref wk])), (a1, .inr (3, [.ref a2, .ref a3, .int (nI na)])), (a2, .inl (cyI, 10, .inl fa)), (a3, .inr (2, [.ref a4, .int (nI za)])), (a4, .inl (cyI, 60, .inl ga)), (b1, .inr (3, [.ref b2, .ref b3, .int (nI nb)])), (b2, .inl (cyI, 10, .inl fb)), (b3, .inr (2, [.ref b4, .int (nI zb)])), (b4, .inl (cyI, 60, .inl gb)), (c1, .inr (3, [.ref c2, .ref c3, .int (nI nc)])), (c2, .inl (cyI, 10, .inl fc)), (c3, .inr (2, [.ref c4, .int (nI zc)])), (c4, .inl (cyI, 60, .inl gc))]) [0, 1, 2, 3, 4, 5, 6, 7, 8, 9, 10, 11, 12] rfl, hD.sub (ws' := [(x0, .inr (5, [.ref a1, .ref b1, .ref c1, .ref xl, .ref xb, .int kp, .ref wk])), (a1, .inr (3, [.ref a2, .ref a3, .int (nI na)])), (a2, .inl (cyI, 10, .inl fa)), (a3, .inr (2, [.ref a4, .int (nI za)])), (a4, .inl (cyI, 60, .inl ga)), (b1, .inr (3, [.ref b2, .ref b3, .int (nI nb)])), (b2, .inl (cyI, 10, .inl fb)), (b3, .inr (2, [.ref b4, .int (nI zb)])), (b4, .inl (cyI, 60, .inl gb)), (c1, .inr (3, [.ref c2, .ref c3, .int (nI nc)])), (c2, .inl (cyI, 10, .inl fc)), (c3, .inr (2, [.ref c4, .int (nI zc)])), (c4, .inl (cyI, 60, .inl gc))]) [0, 1, 2, 3, 4, 5, 6, 7, 8, 9, 10, 11, 12] (by decide) rfl⟩⟩, hS.F ht⟩) hS.2.2 dX7_image_11

set_option maxHeartbeats 4000000 in
set_option maxRecDepth 100000 in
theorem mX7_restore_1 (l : Launch) (dC : Nat → ClassId) (dI : Nat → Nat → Nat) (cyI cyZ : ClassId) (x0 : Nat) (a1 : Nat) (b1 : Nat) (c1 : Nat) (xl : Nat) (xb : Nat) (kp : Int32) (wk : Nat) (a2 : Nat) (a3 : Nat) (a4 : Nat) (na : Nat) (za : Nat) (b2 : Nat) (b3 : Nat) (b4 : Nat) (nb : Nat) (zb : Nat) (c2 : Nat) (c3 : Nat) (c4 : Nat) (nc : Nat) (zc : Nat) (fa : Nat → Int32) (ga : Nat → Int32) (fb : Nat → Int32) (gb : Nat → Int32) (fc : Nat → Int32) (gc : Nat → Int32) (p1 : Int32) (hna : na ≤ 10) (hza : za ≤ 10) (hnb : nb ≤ 10) (hzb : zb ≤ 10) (hnc : nc ≤ 10) (hzc : zc ≤ 10) (sz : Nat) : Met l yX7_restore wsX7_restore ({ frames := 2, cells := 0, slots := 0, locals := 44 }) (bs_W dC dI cyI cyZ [.ref x0, .int p1] [(x0, .inr (5, [.ref a1, .ref b1, .ref c1, .ref xl, .ref xb, .int kp, .ref wk])), (a1, .inr (3, [.ref a2, .ref a3, .int (nI na)])), (a2, .inl (cyI, 10, .inl fa)), (a3, .inr (2, [.ref a4, .int (nI za)])), (a4, .inl (cyI, 60, .inl ga)), (b1, .inr (3, [.ref b2, .ref b3, .int (nI nb)])), (b2, .inl (cyI, 10, .inl fb)), (b3, .inr (2, [.ref b4, .int (nI zb)])), (b4, .inl (cyI, 60, .inl gb)), (c1, .inr (3, [.ref c2, .ref c3, .int (nI nc)])), (c2, .inl (cyI, 10, .inl fc)), (c3, .inr (2, [.ref c4, .int (nI zc)])), (c4, .inl (cyI, 60, .inl gc))] sz) (va_Qi (S := Nat × (Nat → Int32) × Nat × (Nat → Int32)) (fun (r : Int32) (q : Nat × (Nat → Int32) × Nat × (Nat → Int32)) => q.1 ≤ 10 ∧ q.2.2.1 ≤ 10) (fun q t => bs_E dC dI (va_A [(x0, .inr (5, [.ref a1, .ref b1, .ref c1, .ref xl, .ref xb, .int kp, .ref wk])), (a1, .inr (3, [.ref a2, .ref a3, .int (nI na)])), (a2, .inl (cyI, 10, .inl fa)), (a3, .inr (2, [.ref a4, .int (nI za)])), (a4, .inl (cyI, 60, .inl ga)), (b1, .inr (3, [.ref b2, .ref b3, .int (nI nb)])), (b2, .inl (cyI, 10, .inl fb)), (b3, .inr (2, [.ref b4, .int (nI zb)])), (b4, .inl (cyI, 60, .inl gb)), (c1, .inr (3, [.ref c2, .ref c3, .int (nI nc)])), (c2, .inl (cyI, 10, .inl fc)), (c3, .inr (2, [.ref c4, .int (nI zc)])), (c4, .inl (cyI, 60, .inl gc))] sz) [(x0, .inr (5, [.ref a1, .ref b1, .ref c1, .ref xl, .ref xb, .int kp, .ref wk])), (a1, .inr (3, [.ref a2, .ref a3, .int (nI q.1)])), (a2, .inl (cyI, 10, .inl q.2.1)), (a3, .inr (2, [.ref a4, .int (nI q.2.2.1)])), (a4, .inl (cyI, 60, .inl q.2.2.2)), (b1, .inr (3, [.ref b2, .ref b3, .int (nI nb)])), (b2, .inl (cyI, 10, .inl fb)), (b3, .inr (2, [.ref b4, .int (nI zb)])), (b4, .inl (cyI, 60, .inl gb)), (c1, .inr (3, [.ref c2, .ref c3, .int (nI nc)])), (c2, .inl (cyI, 10, .inl fc)), (c3, .inr (2, [.ref c4, .int (nI zc)])), (c4, .inl (cyI, 60, .inl gc))] t) (va_A [(x0, .inr (5, [.ref a1, .ref b1, .ref c1, .ref xl, .ref xb, .int kp, .ref wk])), (a1, .inr (3, [.ref a2, .ref a3, .int (nI na)])), (a2, .inl (cyI, 10, .inl fa)), (a3, .inr (2, [.ref a4, .int (nI za)])), (a4, .inl (cyI, 60, .inl ga)), (b1, .inr (3, [.ref b2, .ref b3, .int (nI nb)])), (b2, .inl (cyI, 10, .inl fb)), (b3, .inr (2, [.ref b4, .int (nI zb)])), (b4, .inl (cyI, 60, .inl gb)), (c1, .inr (3, [.ref c2, .ref c3, .int (nI nc)])), (c2, .inl (cyI, 10, .inl fc)), (c3, .inr (2, [.ref c4, .int (nI zc)])), (c4, .inl (cyI, 60, .inl gc))] sz)) 0 0 (va_A [(x0, .inr (5, [.ref a1, .ref b1, .ref c1, .ref xl, .ref xb, .int kp, .ref wk])), (a1, .inr (3, [.ref a2, .ref a3, .int (nI na)])), (a2, .inl (cyI, 10, .inl fa)), (a3, .inr (2, [.ref a4, .int (nI za)])), (a4, .inl (cyI, 60, .inl ga)), (b1, .inr (3, [.ref b2, .ref b3, .int (nI nb)])), (b2, .inl (cyI, 10, .inl fb)), (b3, .inr (2, [.ref b4, .int (nI zb)])), (b4, .inl (cyI, 60, .inl gb)), (c1, .inr (3, [.ref c2, .ref c3, .int (nI nc)])), (c2, .inl (cyI, 10, .inl fc)), (c3, .inr (2, [.ref c4, .int (nI zc)])), (c4, .inl (cyI, 60, .inl gc))] sz) := by
  refine Met.ofW (cc := cX7_restore) (maxL := 2) (ret := (some .int)) (by decide) rfl ?_
  intro p e s m args below meth c s₁ B hml hv
  obtain ⟨rfl, hsz, hB, hP, hD0⟩ := hv
  have hK := hB.1
  have hN := hB.2
  have hx := B.exec
  have hb := B.bytes
  have hr := B.returns
  have hts := atoms_spec (ws := wsX7_restore) B.pre
  have hown : s.vm.findClass RX7 = some m.cls := findClass_of_methodNamed B.named
  have hlocks := B.notSynchronized
  subst hsz
  have hD := hD0.self (sz := s.heap.size)
  generalize hAe : va_A [(x0, .inr (5, [.ref a1, .ref b1, .ref c1, .ref xl, .ref xb, .int kp, .ref wk])), (a1, .inr (3, [.ref a2, .ref a3, .int (nI na)])), (a2, .inl (cyI, 10, .inl fa)), (a3, .inr (2, [.ref a4, .int (nI za)])), (a4, .inl (cyI, 60, .inl ga)), (b1, .inr (3, [.ref b2, .ref b3, .int (nI nb)])), (b2, .inl (cyI, 10, .inl fb)), (b3, .inr (2, [.ref b4, .int (nI zb)])), (b4, .inl (cyI, 60, .inl gb)), (c1, .inr (3, [.ref c2, .ref c3, .int (nI nc)])), (c2, .inl (cyI, 10, .inl fc)), (c3, .inr (2, [.ref c4, .int (nI zc)])), (c4, .inl (cyI, 60, .inl gc))] s.heap.size = A at hD ⊢
  have hA : ∀ q : Nat, s.heap.size ≤ q → A q := fun q h => by rw [← hAe]; exact Or.inr h
  have hS : va_S A s.heap s.heap [] := va_S.rf
  have hP : va_P (dC, dI) vwCl [(x0, .inr (5, [.ref a1, .ref b1, .ref c1, .ref xl, .ref xb, .int kp, .ref wk])), (a1, .inr (3, [.ref a2, .ref a3, .int (nI na)])), (a2, .inl (cyI, 10, .inl fa)), (a3, .inr (2, [.ref a4, .int (nI za)])), (a4, .inl (cyI, 60, .inl ga)), (b1, .inr (3, [.ref b2, .ref b3, .int (nI nb)])), (b2, .inl (cyI, 10, .inl fb)), (b3, .inr (2, [.ref b4, .int (nI zb)])), (b4, .inl (cyI, 60, .inl gb)), (c1, .inr (3, [.ref c2, .ref c3, .int (nI nc)])), (c2, .inl (cyI, 10, .inl fc)), (c3, .inr (2, [.ref c4, .int (nI zc)])), (c4, .inl (cyI, 60, .inl gc))] s.heap := hP
  have hl := lv_entry ([.ref x0, .int p1]) (n := 2) (Nat.le_of_ble_eq_true rfl)
  rw [lg_entry_eq]
  generalize (lg_sl ([.ref x0, .int p1]) ++ List.replicate (2 - (lg_sl ([.ref x0, .int p1])).length) Slot.unset).toArray = ls at hl ⊢
  have hl : lv_has ls 2 [(0, .ref x0), (1, .int p1)] := hl
  refine lv_iload_n hx hb dX7_restore_0 rfl (lv_at hl 1 rfl) ?_
  refine lv_if_lt (tgt := 9) hx hb dX7_restore_1 (by decide) (fun c_1 => ?_) (fun c_1 => ?_)
  · skip
    have ic_1 := ci_lt (rfl : Int32.toInt p1 = _) (show Int32.toInt 0 = 0 by decide) c_1
    refine lv_bipush (v := (-2)) hx hb dX7_restore_9 (by decide) ?_
    exact W.iret (v := (-2)) hx hb hr (fun t ht hW => ⟨⟨(-2), (na, fa, za, ga), rfl, (⟨by omega, by omega⟩), ⟨by rw [ht]; exact hP.sub (ws' := [(x0, .inr (5, [.ref a1, .ref b1, .ref c1, .ref xl, .ref xb, .int kp, .ref wk])), (a1, .inr (3, [.ref a2, .ref a3, .int (nI na)])), (a2, .inl (cyI, 10, .inl fa)), (a3, .inr (2, [.ref a4, .int (nI za)])), (a4, .inl (cyI, 60, .inl ga)), (b1, .inr (3, [.ref b2, .ref b3, .int (nI nb)])), (b2, .inl (cyI, 10, .inl fb)), (b3, .inr (2, [.ref b4, .int (nI zb)])), (b4, .inl (cyI, 60, .inl gb)), (c1, .inr (3, [.ref c2, .ref c3, .int (nI nc)])), (c2, .inl (cyI, 10, .inl fc)), (c3, .inr (2, [.ref c4, .int (nI zc)])), (c4, .inl (cyI, 60, .inl gc))]) [0, 1, 2, 3, 4, 5, 6, 7, 8, 9, 10, 11, 12] rfl, hD.sub (ws' := [(x0, .inr (5, [.ref a1, .ref b1, .ref c1, .ref xl, .ref xb, .int kp, .ref wk])), (a1, .inr (3, [.ref a2, .ref a3, .int (nI na)])), (a2, .inl (cyI, 10, .inl fa)), (a3, .inr (2, [.ref a4, .int (nI za)])), (a4, .inl (cyI, 60, .inl ga)), (b1, .inr (3, [.ref b2, .ref b3, .int (nI nb)])), (b2, .inl (cyI, 10, .inl fb)), (b3, .inr (2, [.ref b4, .int (nI zb)])), (b4, .inl (cyI, 60, .inl gb)), (c1, .inr (3, [.ref c2, .ref c3, .int (nI nc)])), (c2, .inl (cyI, 10, .inl fc)), (c3, .inr (2, [.ref c4, .int (nI zc)])), (c4, .inl (cyI, 60, .inl gc))]) [0, 1, 2, 3, 4, 5, 6, 7, 8, 9, 10, 11, 12] (by decide) rfl⟩⟩, hS.F ht⟩) hS.2.2 dX7_restore_11
  · skip
    have ic_1 := ci_nlt (rfl : Int32.toInt p1 = _) (show Int32.toInt 0 = 0 by decide) c_1
    refine lv_iload_n hx hb dX7_restore_4 rfl (lv_at hl 1 rfl) ?_
    refine lv_iconst (v := 2) hx hb dX7_restore_5 (by decide) ?_
    refine lv_icmp_lt (tgt := 12) hx hb dX7_restore_6 (by decide) (fun c_2 => ?_) (fun c_2 => ?_)
    · skip
      have ic_2 := ci_lt (rfl : Int32.toInt p1 = _) (show Int32.toInt 2 = 2 by decide) c_2
      rcases nb_01 (x := p1) (by omega) (by omega) with e9 | e9
      · skip
        subst e9
        refine lv_aload_n hx hb dX7_restore_12 rfl (lv_at hl 0 rfl) ?_
        refine va_get (D := (dC, dI)) (ci := 5) (v := .int kp) (C := RX7) (T := TX7) (N := 7) hx hb hts hnX7_restore_X7 hown hK hP 0 rfl rfl 5 (by decide) (hts (.fieldLink RX7 199 "RingMeets" "kept" "I") (by decide +kernel)) (fun _ h9 => h9) rfl dX7_restore_13 ?_
        refine lv_iload_n hx hb dX7_restore_16 rfl (lv_at hl 1 rfl) ?_
        refine vp_callSi (va_Run.run (va_runS (As := [.int kp, .int 0]) (rest := []) ⟨hx, hb, hml, hown, hts⟩ (mX5_has l dC dI cyI cyZ kp 0 ) (va_cwS 2 hts gX7_restore_X5_has rfl rfl rfl (by decide +kernel) ⟨Nat.le_of_ble_eq_true rfl, Nat.le_of_ble_eq_true rfl⟩) (bs_RS hB (hP.sub (ws' := []) [] rfl)) rfl rfl hl.1 rfl (lv_room (Nat.le_of_ble_eq_true rfl)) dX7_restore_17 ⟨Nat.le_of_ble_eq_true rfl, Nat.le_of_ble_eq_true rfl⟩)) (fun r_3 hr_3 => ?_)
        refine lv_if_ne (tgt := 26) hx hb dX7_restore_20 (by decide) (fun c_4 => ?_) (fun c_4 => ?_)
        · skip
          have ic_4 := ci_ne (rfl : Int32.toInt r_3 = _) (show Int32.toInt 0 = 0 by decide) c_4
          refine lv_aload_n hx hb dX7_restore_26 rfl (lv_at hl 0 rfl) ?_
          refine va_get (D := (dC, dI)) (ci := 5) (v := .ref a1) (C := RX7) (T := TX7) (N := 7) hx hb hts hnX7_restore_X7 hown hK hP 0 rfl rfl 0 (by decide) (hts (.fieldLink RX7 10 "RingMeets" "now" "LRingMeets$Scene;") (by decide +kernel)) (fun _ h9 => h9) rfl dX7_restore_27 ?_
          refine lv_aload_n hx hb dX7_restore_30 rfl (lv_at hl 0 rfl) ?_
          refine lv_iload_n hx hb dX7_restore_31 rfl (lv_at hl 1 rfl) ?_
          refine va_csr (va_Run.run (va_runV (As := [.int 0]) (rest := [.ref a1]) ⟨hx, hb, hml, hown, hts⟩ (mX7_imageOf_01 l dC dI cyI cyZ x0 a1 b1 c1 xl xb kp wk ) (cwV 1 hts gX7_restore_X7_imageOf rfl rfl rfl (by decide +kernel) ⟨Nat.le_of_ble_eq_true rfl, Nat.le_of_ble_eq_true rfl⟩) (bs_RV hB (hP.sub (ws' := [(x0, .inr (5, [.ref a1, .ref b1, .ref c1, .ref xl, .ref xb, .int kp, .ref wk]))]) [0] rfl) 0 rfl rfl) rfl rfl hl.1 rfl (lv_room (Nat.le_of_ble_eq_true rfl)) dX7_restore_32 ⟨Nat.le_of_ble_eq_true rfl, Nat.le_of_ble_eq_true rfl⟩)) (fun r_5 hr_5 => ?_)
          obtain rfl : b1 = r_5 := Eq.symm hr_5
          have f_6 := va_free (wc := [(a1, .inr (3, [.ref a2, .ref a3, .int (nI na)])), (a2, .inl (cyI, 10, .inl fa)), (a3, .inr (2, [.ref a4, .int (nI za)])), (a4, .inl (cyI, 60, .inl ga)), (b1, .inr (3, [.ref b2, .ref b3, .int (nI nb)])), (b2, .inl (cyI, 10, .inl fb)), (b3, .inr (2, [.ref b4, .int (nI zb)])), (b4, .inl (cyI, 60, .inl gb))]) hD hS hA [1, 2, 3, 4, 5, 6, 7, 8] rfl
          refine va_callv (va_runV (As := [.ref b1]) (rest := []) ⟨hx, hb, hml, hown, hts⟩ (mX4_copyFrom l dC dI cyI cyZ a1 a2 a3 a4 b1 b2 b3 b4 na nb za zb fa fb ga gb  _) (cwV 1 hts gX7_restore_X4_copyFrom rfl rfl rfl (by decide +kernel) ⟨Nat.le_of_ble_eq_true rfl, Nat.le_of_ble_eq_true rfl⟩) (bs_WV hB (hP.sub (ws' := [(a1, .inr (3, [.ref a2, .ref a3, .int (nI na)])), (a2, .inl (cyI, 10, .inl fa)), (a3, .inr (2, [.ref a4, .int (nI za)])), (a4, .inl (cyI, 60, .inl ga)), (b1, .inr (3, [.ref b2, .ref b3, .int (nI nb)])), (b2, .inl (cyI, 10, .inl fb)), (b3, .inr (2, [.ref b4, .int (nI zb)])), (b4, .inl (cyI, 60, .inl gb))]) [1, 2, 3, 4, 5, 6, 7, 8] rfl) (hD.sub (ws' := [(a1, .inr (3, [.ref a2, .ref a3, .int (nI na)])), (a2, .inl (cyI, 10, .inl fa)), (a3, .inr (2, [.ref a4, .int (nI za)])), (a4, .inl (cyI, 60, .inl ga)), (b1, .inr (3, [.ref b2, .ref b3, .int (nI nb)])), (b2, .inl (cyI, 10, .inl fb)), (b3, .inr (2, [.ref b4, .int (nI zb)])), (b4, .inl (cyI, 60, .inl gb))]) [1, 2, 3, 4, 5, 6, 7, 8] (by decide) rfl) 0 rfl rfl) rfl rfl hl.1 rfl (lv_room (Nat.le_of_ble_eq_true rfl)) dX7_restore_35 ⟨Nat.le_of_ble_eq_true rfl, Nat.le_of_ble_eq_true rfl⟩) hS (fun q _ h => f_6 q h) f_6 (fun uh_7 t H1 locs ht hvm h_7 hB1 hz1 hk1 hS => ?_)
          obtain ⟨g_8, g_9⟩ := uh_7
          have h_7 : ∀ i, i < 60 → g_9 i = gb i := h_7
          obtain ⟨hP1, hD1⟩ := hB1
          rw [ht] at hP1
          obtain ⟨hP, hD⟩ := va_join (wr := [(x0, .inr (5, [.ref a1, .ref b1, .ref c1, .ref xl, .ref xb, .int kp, .ref wk])), (c1, .inr (3, [.ref c2, .ref c3, .int (nI nc)])), (c2, .inl (cyI, 10, .inl fc)), (c3, .inr (2, [.ref c4, .int (nI zc)])), (c4, .inl (cyI, 60, .inl gc))]) (w1 := [(a1, .inr (3, [.ref a2, .ref a3, .int (nI nb)])), (a2, .inl (cyI, 10, .inl g_8)), (a3, .inr (2, [.ref a4, .int (nI zb)])), (a4, .inl (cyI, 60, .inl g_9)), (b1, .inr (3, [.ref b2, .ref b3, .int (nI nb)])), (b2, .inl (cyI, 10, .inl fb)), (b3, .inr (2, [.ref b4, .int (nI zb)])), (b4, .inl (cyI, 60, .inl gb))]) hP hD [1, 2, 3, 4, 5, 6, 7, 8] [0, 9, 10, 11, 12] rfl rfl (by decide) (by decide) hk1 f_6 hP1 hD1
          generalize H1 = H at hP hS ⊢
          have hP : va_P (dC, dI) vwCl [(x0, .inr (5, [.ref a1, .ref b1, .ref c1, .ref xl, .ref xb, .int kp, .ref wk])), (c1, .inr (3, [.ref c2, .ref c3, .int (nI nc)])), (c2, .inl (cyI, 10, .inl fc)), (c3, .inr (2, [.ref c4, .int (nI zc)])), (c4, .inl (cyI, 60, .inl gc)), (a1, .inr (3, [.ref a2, .ref a3, .int (nI nb)])), (a2, .inl (cyI, 10, .inl g_8)), (a3, .inr (2, [.ref a4, .int (nI zb)])), (a4, .inl (cyI, 60, .inl g_9)), (b1, .inr (3, [.ref b2, .ref b3, .int (nI nb)])), (b2, .inl (cyI, 10, .inl fb)), (b3, .inr (2, [.ref b4, .int (nI zb)])), (b4, .inl (cyI, 60, .inl gb))] _ := hP
          have hD : va_D A [(x0, .inr (5, [.ref a1, .ref b1, .ref c1, .ref xl, .ref xb, .int kp, .ref wk])), (c1, .inr (3, [.ref c2, .ref c3, .int (nI nc)])), (c2, .inl (cyI, 10, .inl fc)), (c3, .inr (2, [.ref c4, .int (nI zc)])), (c4, .inl (cyI, 60, .inl gc)), (a1, .inr (3, [.ref a2, .ref a3, .int (nI nb)])), (a2, .inl (cyI, 10, .inl g_8)), (a3, .inr (2, [.ref a4, .int (nI zb)])), (a4, .inl (cyI, 60, .inl g_9)), (b1, .inr (3, [.ref b2, .ref b3, .int (nI nb)])), (b2, .inl (cyI, 10, .inl fb)), (b3, .inr (2, [.ref b4, .int (nI zb)])), (b4, .inl (cyI, 60, .inl gb))] := hD
          refine lv_iconst (v := 1) hx hb dX7_restore_38 (by decide) ?_
          exact W.iret (v := 1) hx hb hr (fun t ht hW => ⟨⟨1, (nb, g_8, zb, g_9), rfl, (⟨by omega, by omega⟩), ⟨by rw [ht]; exact hP.sub (ws' := [(x0, .inr (5, [.ref a1, .ref b1, .ref c1, .ref xl, .ref xb, .int kp, .ref wk])), (a1, .inr (3, [.ref a2, .ref a3, .int (nI nb)])), (a2, .inl (cyI, 10, .inl g_8)), (a3, .inr (2, [.ref a4, .int (nI zb)])), (a4, .inl (cyI, 60, .inl g_9)), (b1, .inr (3, [.ref b2, .ref b3, .int (nI nb)])), (b2, .inl (cyI, 10, .inl fb)), (b3, .inr (2, [.ref b4, .int (nI zb)])), (b4, .inl (cyI, 60, .inl gb)), (c1, .inr (3, [.ref c2, .ref c3, .int (nI nc)])), (c2, .inl (cyI, 10, .inl fc)), (c3, .inr (2, [.ref c4, .int (nI zc)])), (c4, .inl (cyI, 60, .inl gc))]) [0, 5, 6, 7, 8, 9, 10, 11, 12, 1, 2, 3, 4] rfl, hD.sub (ws' := [(x0, .inr (5, [.ref a1, .ref b1, .ref c1, .ref xl, .ref xb, .int kp, .ref wk])), (a1, .inr (3, [.ref a2, .ref a3, .int (nI nb)])), (a2, .inl (cyI, 10, .inl g_8)), (a3, .inr (2, [.ref a4, .int (nI zb)])), (a4, .inl (cyI, 60, .inl g_9)), (b1, .inr (3, [.ref b2, .ref b3, .int (nI nb)])), (b2, .inl (cyI, 10, .inl fb)), (b3, .inr (2, [.ref b4, .int (nI zb)])), (b4, .inl (cyI, 60, .inl gb)), (c1, .inr (3, [.ref c2, .ref c3, .int (nI nc)])), (c2, .inl (cyI, 10, .inl fc)), (c3, .inr (2, [.ref c4, .int (nI zc)])), (c4, .inl (cyI, 60, .inl gc))]) [0, 5, 6, 7, 8, 9, 10, 11, 12, 1, 2, 3, 4] (by decide) rfl⟩⟩, hS.F ht⟩) hS.2.2 dX7_restore_39
        · skip
          have ic_4 := ci_eq (rfl : Int32.toInt r_3 = _) (show Int32.toInt 0 = 0 by decide) c_4
          refine lv_bipush (v := (-3)) hx hb dX7_restore_23 (by decide) ?_
          exact W.iret (v := (-3)) hx hb hr (fun t ht hW => ⟨⟨(-3), (na, fa, za, ga), rfl, (⟨by omega, by omega⟩), ⟨by rw [ht]; exact hP.sub (ws' := [(x0, .inr (5, [.ref a1, .ref b1, .ref c1, .ref xl, .ref xb, .int kp, .ref wk])), (a1, .inr (3, [.ref a2, .ref a3, .int (nI na)])), (a2, .inl (cyI, 10, .inl fa)), (a3, .inr (2, [.ref a4, .int (nI za)])), (a4, .inl (cyI, 60, .inl ga)), (b1, .inr (3, [.ref b2, .ref b3, .int (nI nb)])), (b2, .inl (cyI, 10, .inl fb)), (b3, .inr (2, [.ref b4, .int (nI zb)])), (b4, .inl (cyI, 60, .inl gb)), (c1, .inr (3, [.ref c2, .ref c3, .int (nI nc)])), (c2, .inl (cyI, 10, .inl fc)), (c3, .inr (2, [.ref c4, .int (nI zc)])), (c4, .inl (cyI, 60, .inl gc))]) [0, 1, 2, 3, 4, 5, 6, 7, 8, 9, 10, 11, 12] rfl, hD.sub (ws' := [(x0, .inr (5, [.ref a1, .ref b1, .ref c1, .ref xl, .ref xb, .int kp, .ref wk])), (a1, .inr (3, [.ref a2, .ref a3, .int (nI na)])), (a2, .inl (cyI, 10, .inl fa)), (a3, .inr (2, [.ref a4, .int (nI za)])), (a4, .inl (cyI, 60, .inl ga)), (b1, .inr (3, [.ref b2, .ref b3, .int (nI nb)])), (b2, .inl (cyI, 10, .inl fb)), (b3, .inr (2, [.ref b4, .int (nI zb)])), (b4, .inl (cyI, 60, .inl gb)), (c1, .inr (3, [.ref c2, .ref c3, .int (nI nc)])), (c2, .inl (cyI, 10, .inl fc)), (c3, .inr (2, [.ref c4, .int (nI zc)])), (c4, .inl (cyI, 60, .inl gc))]) [0, 1, 2, 3, 4, 5, 6, 7, 8, 9, 10, 11, 12] (by decide) rfl⟩⟩, hS.F ht⟩) hS.2.2 dX7_restore_25
      · skip
        subst e9
        refine lv_aload_n hx hb dX7_restore_12 rfl (lv_at hl 0 rfl) ?_
        refine va_get (D := (dC, dI)) (ci := 5) (v := .int kp) (C := RX7) (T := TX7) (N := 7) hx hb hts hnX7_restore_X7 hown hK hP 0 rfl rfl 5 (by decide) (hts (.fieldLink RX7 199 "RingMeets" "kept" "I") (by decide +kernel)) (fun _ h9 => h9) rfl dX7_restore_13 ?_
        refine lv_iload_n hx hb dX7_restore_16 rfl (lv_at hl 1 rfl) ?_
        refine vp_callSi (va_Run.run (va_runS (As := [.int kp, .int 1]) (rest := []) ⟨hx, hb, hml, hown, hts⟩ (mX5_has l dC dI cyI cyZ kp 1 ) (va_cwS 2 hts gX7_restore_X5_has rfl rfl rfl (by decide +kernel) ⟨Nat.le_of_ble_eq_true rfl, Nat.le_of_ble_eq_true rfl⟩) (bs_RS hB (hP.sub (ws' := []) [] rfl)) rfl rfl hl.1 rfl (lv_room (Nat.le_of_ble_eq_true rfl)) dX7_restore_17 ⟨Nat.le_of_ble_eq_true rfl, Nat.le_of_ble_eq_true rfl⟩)) (fun r_10 hr_10 => ?_)
        refine lv_if_ne (tgt := 26) hx hb dX7_restore_20 (by decide) (fun c_11 => ?_) (fun c_11 => ?_)
        · skip
          have ic_11 := ci_ne (rfl : Int32.toInt r_10 = _) (show Int32.toInt 0 = 0 by decide) c_11
          refine lv_aload_n hx hb dX7_restore_26 rfl (lv_at hl 0 rfl) ?_
          refine va_get (D := (dC, dI)) (ci := 5) (v := .ref a1) (C := RX7) (T := TX7) (N := 7) hx hb hts hnX7_restore_X7 hown hK hP 0 rfl rfl 0 (by decide) (hts (.fieldLink RX7 10 "RingMeets" "now" "LRingMeets$Scene;") (by decide +kernel)) (fun _ h9 => h9) rfl dX7_restore_27 ?_
          refine lv_aload_n hx hb dX7_restore_30 rfl (lv_at hl 0 rfl) ?_
          refine lv_iload_n hx hb dX7_restore_31 rfl (lv_at hl 1 rfl) ?_
          refine va_csr (va_Run.run (va_runV (As := [.int 1]) (rest := [.ref a1]) ⟨hx, hb, hml, hown, hts⟩ (mX7_imageOf_11 l dC dI cyI cyZ x0 a1 b1 c1 xl xb kp wk ) (cwV 1 hts gX7_restore_X7_imageOf rfl rfl rfl (by decide +kernel) ⟨Nat.le_of_ble_eq_true rfl, Nat.le_of_ble_eq_true rfl⟩) (bs_RV hB (hP.sub (ws' := [(x0, .inr (5, [.ref a1, .ref b1, .ref c1, .ref xl, .ref xb, .int kp, .ref wk]))]) [0] rfl) 0 rfl rfl) rfl rfl hl.1 rfl (lv_room (Nat.le_of_ble_eq_true rfl)) dX7_restore_32 ⟨Nat.le_of_ble_eq_true rfl, Nat.le_of_ble_eq_true rfl⟩)) (fun r_12 hr_12 => ?_)
          obtain rfl : c1 = r_12 := Eq.symm hr_12
          have f_13 := va_free (wc := [(a1, .inr (3, [.ref a2, .ref a3, .int (nI na)])), (a2, .inl (cyI, 10, .inl fa)), (a3, .inr (2, [.ref a4, .int (nI za)])), (a4, .inl (cyI, 60, .inl ga)), (c1, .inr (3, [.ref c2, .ref c3, .int (nI nc)])), (c2, .inl (cyI, 10, .inl fc)), (c3, .inr (2, [.ref c4, .int (nI zc)])), (c4, .inl (cyI, 60, .inl gc))]) hD hS hA [1, 2, 3, 4, 9, 10, 11, 12] rfl
          refine va_callv (va_runV (As := [.ref c1]) (rest := []) ⟨hx, hb, hml, hown, hts⟩ (mX4_copyFrom l dC dI cyI cyZ a1 a2 a3 a4 c1 c2 c3 c4 na nc za zc fa fc ga gc  _) (cwV 1 hts gX7_restore_X4_copyFrom rfl rfl rfl (by decide +kernel) ⟨Nat.le_of_ble_eq_true rfl, Nat.le_of_ble_eq_true rfl⟩) (bs_WV hB (hP.sub (ws' := [(a1, .inr (3, [.ref a2, .ref a3, .int (nI na)])), (a2, .inl (cyI, 10, .inl fa)), (a3, .inr (2, [.ref a4, .int (nI za)])), (a4, .inl (cyI, 60, .inl ga)), (c1, .inr (3, [.ref c2, .ref c3, .int (nI nc)])), (c2, .inl (cyI, 10, .inl fc)), (c3, .inr (2, [.ref c4, .int (nI zc)])), (c4, .inl (cyI, 60, .inl gc))]) [1, 2, 3, 4, 9, 10, 11, 12] rfl) (hD.sub (ws' := [(a1, .inr (3, [.ref a2, .ref a3, .int (nI na)])), (a2, .inl (cyI, 10, .inl fa)), (a3, .inr (2, [.ref a4, .int (nI za)])), (a4, .inl (cyI, 60, .inl ga)), (c1, .inr (3, [.ref c2, .ref c3, .int (nI nc)])), (c2, .inl (cyI, 10, .inl fc)), (c3, .inr (2, [.ref c4, .int (nI zc)])), (c4, .inl (cyI, 60, .inl gc))]) [1, 2, 3, 4, 9, 10, 11, 12] (by decide) rfl) 0 rfl rfl) rfl rfl hl.1 rfl (lv_room (Nat.le_of_ble_eq_true rfl)) dX7_restore_35 ⟨Nat.le_of_ble_eq_true rfl, Nat.le_of_ble_eq_true rfl⟩) hS (fun q _ h => f_13 q h) f_13 (fun uh_14 t H1 locs ht hvm h_14 hB1 hz1 hk1 hS => ?_)
          obtain ⟨g_15, g_16⟩ := uh_14
          have h_14 : ∀ i, i < 60 → g_16 i = gc i := h_14
          obtain ⟨hP1, hD1⟩ := hB1
          rw [ht] at hP1
          obtain ⟨hP, hD⟩ := va_join (wr := [(x0, .inr (5, [.ref a1, .ref b1, .ref c1, .ref xl, .ref xb, .int kp, .ref wk])), (b1, .inr (3, [.ref b2, .ref b3, .int (nI nb)])), (b2, .inl (cyI, 10, .inl fb)), (b3, .inr (2, [.ref b4, .int (nI zb)])), (b4, .inl (cyI, 60, .inl gb))]) (w1 := [(a1, .inr (3, [.ref a2, .ref a3, .int (nI nc)])), (a2, .inl (cyI, 10, .inl g_15)), (a3, .inr (2, [.ref a4, .int (nI zc)])), (a4, .inl (cyI, 60, .inl g_16)), (c1, .inr (3, [.ref c2, .ref c3, .int (nI nc)])), (c2, .inl (cyI, 10, .inl fc)), (c3, .inr (2, [.ref c4, .int (nI zc)])), (c4, .inl (cyI, 60, .inl gc))]) hP hD [1, 2, 3, 4, 9, 10, 11, 12] [0, 5, 6, 7, 8] rfl rfl (by decide) (by decide) hk1 f_13 hP1 hD1
          generalize H1 = H at hP hS ⊢
          have hP : va_P (dC, dI) vwCl [(x0, .inr (5, [.ref a1, .ref b1, .ref c1, .ref xl, .ref xb, .int kp, .ref wk])), (b1, .inr (3, [.ref b2, .ref b3, .int (nI nb)])), (b2, .inl (cyI, 10, .inl fb)), (b3, .inr (2, [.ref b4, .int (nI zb)])), (b4, .inl (cyI, 60, .inl gb)), (a1, .inr (3, [.ref a2, .ref a3, .int (nI nc)])), (a2, .inl (cyI, 10, .inl g_15)), (a3, .inr (2, [.ref a4, .int (nI zc)])), (a4, .inl (cyI, 60, .inl g_16)), (c1, .inr (3, [.ref c2, .ref c3, .int (nI nc)])), (c2, .inl (cyI, 10, .inl fc)), (c3, .inr (2, [.ref c4, .int (nI zc)])), (c4, .inl (cyI, 60, .inl gc))] _ := hP
          have hD : va_D A [(x0, .inr (5, [.ref a1, .ref b1, .ref c1, .ref xl, .ref xb, .int kp, .ref wk])), (b1, .inr (3, [.ref b2, .ref b3, .int (nI nb)])), (b2, .inl (cyI, 10, .inl fb)), (b3, .inr (2, [.ref b4, .int (nI zb)])), (b4, .inl (cyI, 60, .inl gb)), (a1, .inr (3, [.ref a2, .ref a3, .int (nI nc)])), (a2, .inl (cyI, 10, .inl g_15)), (a3, .inr (2, [.ref a4, .int (nI zc)])), (a4, .inl (cyI, 60, .inl g_16)), (c1, .inr (3, [.ref c2, .ref c3, .int (nI nc)])), (c2, .inl (cyI, 10, .inl fc)), (c3, .inr (2, [.ref c4, .int (nI zc)])), (c4, .inl (cyI, 60, .inl gc))] := hD
          refine lv_iconst (v := 1) hx hb dX7_restore_38 (by decide) ?_
          exact W.iret (v := 1) hx hb hr (fun t ht hW => ⟨⟨1, (nc, g_15, zc, g_16), rfl, (⟨by omega, by omega⟩), ⟨by rw [ht]; exact hP.sub (ws' := [(x0, .inr (5, [.ref a1, .ref b1, .ref c1, .ref xl, .ref xb, .int kp, .ref wk])), (a1, .inr (3, [.ref a2, .ref a3, .int (nI nc)])), (a2, .inl (cyI, 10, .inl g_15)), (a3, .inr (2, [.ref a4, .int (nI zc)])), (a4, .inl (cyI, 60, .inl g_16)), (b1, .inr (3, [.ref b2, .ref b3, .int (nI nb)])), (b2, .inl (cyI, 10, .inl fb)), (b3, .inr (2, [.ref b4, .int (nI zb)])), (b4, .inl (cyI, 60, .inl gb)), (c1, .inr (3, [.ref c2, .ref c3, .int (nI nc)])), (c2, .inl (cyI, 10, .inl fc)), (c3, .inr (2, [.ref c4, .int (nI zc)])), (c4, .inl (cyI, 60, .inl gc))]) [0, 5, 6, 7, 8, 1, 2, 3, 4, 9, 10, 11, 12] rfl, hD.sub (ws' := [(x0, .inr (5, [.ref a1, .ref b1, .ref c1, .ref xl, .ref xb, .int kp, .ref wk])), (a1, .inr (3, [.ref a2, .ref a3, .int (nI nc)])), (a2, .inl (cyI, 10, .inl g_15)), (a3, .inr (2, [.ref a4, .int (nI zc)])), (a4, .inl (cyI, 60, .inl g_16)), (b1, .inr (3, [.ref b2, .ref b3, .int (nI nb)])), (b2, .inl (cyI, 10, .inl fb)), (b3, .inr (2, [.ref b4, .int (nI zb)])), (b4, .inl (cyI, 60, .inl gb)), (c1, .inr (3, [.ref c2, .ref c3, .int (nI nc)])), (c2, .inl (cyI, 10, .inl fc)), (c3, .inr (2, [.ref c4, .int (nI zc)])), (c4, .inl (cyI, 60, .inl gc))]) [0, 5, 6, 7, 8, 1, 2, 3, 4, 9, 10, 11, 12] (by decide) rfl⟩⟩, hS.F ht⟩) hS.2.2 dX7_restore_39
        · skip
          have ic_11 := ci_eq (rfl : Int32.toInt r_10 = _) (show Int32.toInt 0 = 0 by decide) c_11
          refine lv_bipush (v := (-3)) hx hb dX7_restore_23 (by decide) ?_
          exact W.iret (v := (-3)) hx hb hr (fun t ht hW => ⟨⟨(-3), (na, fa, za, ga), rfl, (⟨by omega, by omega⟩), ⟨by rw [ht]; exact hP.sub (ws' := [(x0, .inr (5, [.ref a1, .ref b1, .ref c1, .ref xl, .ref xb, .int kp, .ref wk])), (a1, .inr (3, [.ref a2, .ref a3, .int (nI na)])), (a2, .inl (cyI, 10, .inl fa)), (a3, .inr (2, [.ref a4, .int (nI za)])), (a4, .inl (cyI, 60, .inl ga)), (b1, .inr (3, [.ref b2, .ref b3, .int (nI nb)])), (b2, .inl (cyI, 10, .inl fb)), (b3, .inr (2, [.ref b4, .int (nI zb)])), (b4, .inl (cyI, 60, .inl gb)), (c1, .inr (3, [.ref c2, .ref c3, .int (nI nc)])), (c2, .inl (cyI, 10, .inl fc)), (c3, .inr (2, [.ref c4, .int (nI zc)])), (c4, .inl (cyI, 60, .inl gc))]) [0, 1, 2, 3, 4, 5, 6, 7, 8, 9, 10, 11, 12] rfl, hD.sub (ws' := [(x0, .inr (5, [.ref a1, .ref b1, .ref c1, .ref xl, .ref xb, .int kp, .ref wk])), (a1, .inr (3, [.ref a2, .ref a3, .int (nI na)])), (a2, .inl (cyI, 10, .inl fa)), (a3, .inr (2, [.ref a4, .int (nI za)])), (a4, .inl (cyI, 60, .inl ga)), (b1, .inr (3, [.ref b2, .ref b3, .int (nI nb)])), (b2, .inl (cyI, 10, .inl fb)), (b3, .inr (2, [.ref b4, .int (nI zb)])), (b4, .inl (cyI, 60, .inl gb)), (c1, .inr (3, [.ref c2, .ref c3, .int (nI nc)])), (c2, .inl (cyI, 10, .inl fc)), (c3, .inr (2, [.ref c4, .int (nI zc)])), (c4, .inl (cyI, 60, .inl gc))]) [0, 1, 2, 3, 4, 5, 6, 7, 8, 9, 10, 11, 12] (by decide) rfl⟩⟩, hS.F ht⟩) hS.2.2 dX7_restore_25
    · skip
      have ic_2 := ci_nlt (rfl : Int32.toInt p1 = _) (show Int32.toInt 2 = 2 by decide) c_2
      refine lv_bipush (v := (-2)) hx hb dX7_restore_9 (by decide) ?_
      exact W.iret (v := (-2)) hx hb hr (fun t ht hW => ⟨⟨(-2), (na, fa, za, ga), rfl, (⟨by omega, by omega⟩), ⟨by rw [ht]; exact hP.sub (ws' := [(x0, .inr (5, [.ref a1, .ref b1, .ref c1, .ref xl, .ref xb, .int kp, .ref wk])), (a1, .inr (3, [.ref a2, .ref a3, .int (nI na)])), (a2, .inl (cyI, 10, .inl fa)), (a3, .inr (2, [.ref a4, .int (nI za)])), (a4, .inl (cyI, 60, .inl ga)), (b1, .inr (3, [.ref b2, .ref b3, .int (nI nb)])), (b2, .inl (cyI, 10, .inl fb)), (b3, .inr (2, [.ref b4, .int (nI zb)])), (b4, .inl (cyI, 60, .inl gb)), (c1, .inr (3, [.ref c2, .ref c3, .int (nI nc)])), (c2, .inl (cyI, 10, .inl fc)), (c3, .inr (2, [.ref c4, .int (nI zc)])), (c4, .inl (cyI, 60, .inl gc))]) [0, 1, 2, 3, 4, 5, 6, 7, 8, 9, 10, 11, 12] rfl, hD.sub (ws' := [(x0, .inr (5, [.ref a1, .ref b1, .ref c1, .ref xl, .ref xb, .int kp, .ref wk])), (a1, .inr (3, [.ref a2, .ref a3, .int (nI na)])), (a2, .inl (cyI, 10, .inl fa)), (a3, .inr (2, [.ref a4, .int (nI za)])), (a4, .inl (cyI, 60, .inl ga)), (b1, .inr (3, [.ref b2, .ref b3, .int (nI nb)])), (b2, .inl (cyI, 10, .inl fb)), (b3, .inr (2, [.ref b4, .int (nI zb)])), (b4, .inl (cyI, 60, .inl gb)), (c1, .inr (3, [.ref c2, .ref c3, .int (nI nc)])), (c2, .inl (cyI, 10, .inl fc)), (c3, .inr (2, [.ref c4, .int (nI zc)])), (c4, .inl (cyI, 60, .inl gc))]) [0, 1, 2, 3, 4, 5, 6, 7, 8, 9, 10, 11, 12] (by decide) rfl⟩⟩, hS.F ht⟩) hS.2.2 dX7_restore_11
