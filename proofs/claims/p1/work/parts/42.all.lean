theorem hnX7_all_X4 : ∀ w ∈ wsX40, w ∈ wsX7_all := fun _ h => List.mem_cons_of_mem _ (List.mem_append_left _ (List.mem_append_left _ (List.mem_append_left _ (List.mem_append_left _ (List.mem_append_right _ h)))))
theorem hnX7_all_X6 : ∀ w ∈ wsX60, w ∈ wsX7_all := fun _ h => List.mem_cons_of_mem _ (List.mem_append_left _ (List.mem_append_left _ (List.mem_append_left _ (List.mem_append_right _ h))))
theorem hnX7_all_X7 : ∀ w ∈ wsX70, w ∈ wsX7_all := fun _ h => List.mem_cons_of_mem _ (List.mem_append_left _ (List.mem_append_left _ (List.mem_append_left _ (List.mem_append_left _ (List.mem_append_left _ (List.mem_append_right _ h))))))
set_option maxHeartbeats 4000000 in
set_option maxRecDepth 100000 in
theorem kX7_all (l : Launch) (dC : Nat → ClassId) (dI : Nat → Nat → Nat) (cyI cyZ : ClassId) (h0 a1 b1 c1 lq bh a2 a3 a4 : Nat) (f : Nat → Int32) (p1 p2 p3 : Int32) (sz : Nat) : Met l yX7_all wsX7_all ({ frames := 5, cells := 13, slots := 66466, locals := 123 }) (bs_W dC dI cyI cyZ [.ref h0, .int p1, .int p2, .int p3] [(h0, .inr (5, [.ref a1, .ref b1, .ref c1, .ref lq, .ref bh, .int 0, .null])), (a1, .inr (3, [.ref a2, .ref a3, .int 8])), (a2, .inl (cyI, 10, .inl f)), (a3, .inr (2, [.ref a4, .int 0]))] sz) (va_Qi (S := Unit) (fun (r : Int32) (_ : Unit) => r = sp_all p1 p2 p3) (fun _ _ => True) (va_A [(h0, .inr (5, [.ref a1, .ref b1, .ref c1, .ref lq, .ref bh, .int 0, .null])), (a1, .inr (3, [.ref a2, .ref a3, .int 8])), (a2, .inl (cyI, 10, .inl f)), (a3, .inr (2, [.ref a4, .int 0]))] sz)) 13 66466 (va_A [(h0, .inr (5, [.ref a1, .ref b1, .ref c1, .ref lq, .ref bh, .int 0, .null])), (a1, .inr (3, [.ref a2, .ref a3, .int 8])), (a2, .inl (cyI, 10, .inl f)), (a3, .inr (2, [.ref a4, .int 0]))] sz) := by
  refine Met.ofW (cc := cX7_all) (maxL := 8) (ret := (some .int)) (by decide) rfl ?_
  intro p e s m args below meth c s₁ B hml hv
  obtain ⟨rfl, hsz, hB, hP, hD0⟩ := hv
  have hK := hB.1
  have hN := hB.2
  have hx := B.exec
  have hb := B.bytes
  have hr := B.returns
  have hts := atoms_spec (ws := wsX7_all) B.pre
  have hown : s.vm.findClass RX7 = some m.cls := findClass_of_methodNamed B.named
  have hlocks := B.notSynchronized
  subst hsz
  have hD := hD0.self (sz := s.heap.size)
  generalize hAe : va_A [(h0, .inr (5, [.ref a1, .ref b1, .ref c1, .ref lq, .ref bh, .int 0, .null])), (a1, .inr (3, [.ref a2, .ref a3, .int 8])), (a2, .inl (cyI, 10, .inl f)), (a3, .inr (2, [.ref a4, .int 0]))] s.heap.size = A at hD ⊢
  have hA : ∀ q : Nat, s.heap.size ≤ q → A q := fun q h => by rw [← hAe]; exact Or.inr h
  have hS : va_S A s.heap s.heap [] := va_S.rf
  have hP : va_P (dC, dI) vwCl [(h0, .inr (5, [.ref a1, .ref b1, .ref c1, .ref lq, .ref bh, .int 0, .null])), (a1, .inr (3, [.ref a2, .ref a3, .int 8])), (a2, .inl (cyI, 10, .inl f)), (a3, .inr (2, [.ref a4, .int 0]))] s.heap := hP
  have hl := lv_entry ([.ref h0, .int p1, .int p2, .int p3]) (n := 8) (Nat.le_of_ble_eq_true rfl)
  rw [lg_entry_eq]
  generalize (lg_sl ([.ref h0, .int p1, .int p2, .int p3]) ++ List.replicate (8 - (lg_sl ([.ref h0, .int p1, .int p2, .int p3])).length) Slot.unset).toArray = ls at hl ⊢
  have hl : lv_has ls 8 [(0, .ref h0), (1, .int p1), (2, .int p2), (3, .int p3)] := hl
  refine lv_iload_n hx hb dX7_all_0 rfl (lv_at hl 1 rfl) ?_
  refine lv_iconst (v := 1) hx hb dX7_all_1 (by decide) ?_
  refine lv_icmp_lt (tgt := 21) hx hb dX7_all_2 (by decide) (fun c_1 => ?_) (fun c_1 => ?_)
  · skip
    have ic_1 := ci_lt (rfl : Int32.toInt p1 = _) (show Int32.toInt 1 = 1 by decide) c_1
    refine lv_bipush (v := (-2)) hx hb dX7_all_21 (by decide) ?_
    refine W.widen (k := 13) (n := 66466) (Nat.le_of_ble_eq_true rfl) (Nat.le_of_ble_eq_true rfl) ?_
    exact W.iret (v := (-2)) hx hb hr (fun t ht hW => ⟨⟨(-2), (), rfl, nb_sp1 (by omega), trivial⟩, hS.F ht⟩) hS.2.2 dX7_all_23
  · skip
    have ic_1 := ci_nlt (rfl : Int32.toInt p1 = _) (show Int32.toInt 1 = 1 by decide) c_1
    refine lv_iload_n hx hb dX7_all_5 rfl (lv_at hl 1 rfl) ?_
    refine lv_iconst (v := 5) hx hb dX7_all_6 (by decide) ?_
    refine lv_icmp_gt (tgt := 21) hx hb dX7_all_7 (by decide) (fun c_2 => ?_) (fun c_2 => ?_)
    · skip
      have ic_2 := ci_lt (show Int32.toInt 5 = 5 by decide) (rfl : Int32.toInt p1 = _) c_2
      refine lv_bipush (v := (-2)) hx hb dX7_all_21 (by decide) ?_
      refine W.widen (k := 13) (n := 66466) (Nat.le_of_ble_eq_true rfl) (Nat.le_of_ble_eq_true rfl) ?_
      exact W.iret (v := (-2)) hx hb hr (fun t ht hW => ⟨⟨(-2), (), rfl, nb_sp1 (by omega), trivial⟩, hS.F ht⟩) hS.2.2 dX7_all_23
    · skip
      have ic_2 := ci_nlt (show Int32.toInt 5 = 5 by decide) (rfl : Int32.toInt p1 = _) c_2
      refine lv_iload_n hx hb dX7_all_10 rfl (lv_at hl 1 rfl) ?_
      refine lv_aload_n hx hb dX7_all_11 rfl (lv_at hl 0 rfl) ?_
      refine va_get (D := (dC, dI)) (ci := 5) (v := .ref a1) (C := RX7) (T := TX7) (N := 7) hx hb hts hnX7_all_X7 hown hK hP 0 rfl rfl 0 (by decide) (hts (.fieldLink RX7 10 "RingMeets" "now" "LRingMeets$Scene;") (by decide +kernel)) (fun _ h9 => h9) rfl dX7_all_12 ?_
      refine va_getN (D := (dC, dI)) (ci := 3) (v := .int 8) (C := RX4) (T := TX4) (N := 3) hx hb hts hnX7_all_X4 hown hK hP 1 rfl rfl 2 (by decide) (hN.fld 4 rfl) (fun _ h9 => h9) rfl dX7_all_15 ?_
      refine lv_icmp_le (tgt := 24) hx hb dX7_all_18 (by decide) (fun c_3 => ?_) (fun c_3 => ?_)
      · skip
        have ic_3 := ci_le (rfl : Int32.toInt p1 = _) (show Int32.toInt 8 = 8 by decide) c_3
        refine lv_iload_n hx hb dX7_all_24 rfl (lv_at hl 2 rfl) ?_
        refine vp_callSi (va_Run.run (va_runS (As := [.int p2]) (rest := []) ⟨hx, hb, hml, hown, hts⟩ (kX7_isSchedule l dC dI cyI cyZ p2) (va_cwS 1 hts gX7_all_X7_isSchedule rfl rfl rfl (by decide +kernel) ⟨Nat.le_of_ble_eq_true rfl, Nat.le_of_ble_eq_true rfl⟩) (bs_RS hB (hP.sub (ws' := []) [] rfl)) rfl rfl hl.1 rfl (lv_room (Nat.le_of_ble_eq_true rfl)) dX7_all_25 ⟨Nat.le_of_ble_eq_true rfl, Nat.le_of_ble_eq_true rfl⟩)) (fun r_4 hr_4 => ?_)
        refine lv_if_eq (tgt := 40) hx hb dX7_all_28 (by decide) (fun c_5 => ?_) (fun c_5 => ?_)
        · skip
          have ic_5 := ci_eq (rfl : Int32.toInt r_4 = _) (show Int32.toInt 0 = 0 by decide) c_5
          have hs9 := hr_4.2.1 c_5
          refine lv_bipush (v := (-2)) hx hb dX7_all_40 (by decide) ?_
          refine W.widen (k := 13) (n := 66466) (Nat.le_of_ble_eq_true rfl) (Nat.le_of_ble_eq_true rfl) ?_
          exact W.iret (v := (-2)) hx hb hr (fun t ht hW => ⟨⟨(-2), (), rfl, nb_sp1 (by omega), trivial⟩, hS.F ht⟩) hS.2.2 dX7_all_42
        · skip
          have ic_5 := ci_ne (rfl : Int32.toInt r_4 = _) (show Int32.toInt 0 = 0 by decide) c_5
          have hs9 := hr_4.2.2 (hr_4.1.resolve_left c_5)
          refine lv_iload_n hx hb dX7_all_31 rfl (lv_at hl 3 rfl) ?_
          refine lv_if_lt (tgt := 40) hx hb dX7_all_32 (by decide) (fun c_6 => ?_) (fun c_6 => ?_)
          · skip
            have ic_6 := ci_lt (rfl : Int32.toInt p3 = _) (show Int32.toInt 0 = 0 by decide) c_6
            refine lv_bipush (v := (-2)) hx hb dX7_all_40 (by decide) ?_
            refine W.widen (k := 13) (n := 66466) (Nat.le_of_ble_eq_true rfl) (Nat.le_of_ble_eq_true rfl) ?_
            exact W.iret (v := (-2)) hx hb hr (fun t ht hW => ⟨⟨(-2), (), rfl, nb_sp1 (by omega), trivial⟩, hS.F ht⟩) hS.2.2 dX7_all_42
          · skip
            have ic_6 := ci_nlt (rfl : Int32.toInt p3 = _) (show Int32.toInt 0 = 0 by decide) c_6
            refine lv_iload_n hx hb dX7_all_35 rfl (lv_at hl 3 rfl) ?_
            refine lv_iconst (v := 3) hx hb dX7_all_36 (by decide) ?_
            refine lv_icmp_le (tgt := 43) hx hb dX7_all_37 (by decide) (fun c_7 => ?_) (fun c_7 => ?_)
            · skip
              have ic_7 := ci_le (rfl : Int32.toInt p3 = _) (show Int32.toInt 3 = 3 by decide) c_7
              refine lv_aload_n hx hb dX7_all_43 rfl (lv_at hl 0 rfl) ?_
              refine lv_iload_n hx hb dX7_all_44 rfl (lv_at hl 2 rfl) ?_
              refine lv_iconst (v := 0) hx hb dX7_all_45 (by decide) ?_
              have f_8 := va_free (wc := [(h0, .inr (5, [.ref a1, .ref b1, .ref c1, .ref lq, .ref bh, .int 0, .null])), (a1, .inr (3, [.ref a2, .ref a3, .int 8]))]) hD hS hA [0, 1] rfl
              refine va_callr (va_runV (As := [.int p2, .int 0]) (rest := []) ⟨hx, hb, hml, hown, hts⟩ (kX7_newWalks l dC dI cyI cyZ h0 a1 b1 c1 lq bh a2 a3 a4 p2 _) (cwV 2 hts gX7_all_X7_newWalks rfl rfl rfl (by decide +kernel) ⟨Nat.le_of_ble_eq_true rfl, Nat.le_of_ble_eq_true rfl⟩) (bs_WV hB (hP.sub (ws' := [(h0, .inr (5, [.ref a1, .ref b1, .ref c1, .ref lq, .ref bh, .int 0, .null])), (a1, .inr (3, [.ref a2, .ref a3, .int 8]))]) [0, 1] rfl) (hD.sub (ws' := [(h0, .inr (5, [.ref a1, .ref b1, .ref c1, .ref lq, .ref bh, .int 0, .null])), (a1, .inr (3, [.ref a2, .ref a3, .int 8]))]) [0, 1] (by decide) rfl) 0 rfl rfl) rfl rfl hl.1 rfl (lv_room (Nat.le_of_ble_eq_true rfl)) dX7_all_46 ⟨Nat.le_of_ble_eq_true rfl, Nat.le_of_ble_eq_true rfl⟩) hS (fun q _ h => f_8 q h) f_8 (fun uh_9 wk t H1 locs ht hvm h_9 hB1 hz1 hk1 hS => ?_)
              obtain ⟨⟨mo, lk, wy, nw, ol, lt, es, sf, sl, so, la, li⟩, nf⟩ := uh_9
              have hnf0 : ∀ j, j < 1024 → nf j = -1 := h_9
              obtain ⟨hP1, hD1⟩ := hB1
              rw [ht] at hP1
              obtain ⟨hP, hD⟩ := va_join (wr := [(a2, .inl (cyI, 10, .inl f)), (a3, .inr (2, [.ref a4, .int 0]))]) (w1 := [(h0, .inr (5, [.ref a1, .ref b1, .ref c1, .ref lq, .ref bh, .int 0, .ref wk])), (a1, .inr (3, [.ref a2, .ref a3, .int 8])), (wk, .inr (4, [.ref mo, .ref wy, .ref nw, .ref ol, .ref lt, .ref es, .ref sf, .ref sl, .ref so, .ref la, .ref li, .ref a3, .int 8, .int p2, .int 0, .int 0, .int 0, .int 0, .int 0, .int 0])), (mo, .inr (1, [.ref lk, .int 0, .int 0, .int 0])), (lk, .inr (0, [.int 0, .int 0, .int 0, .int 0, .int 0])), (wy, .inl (cyI, 1957, .inl (fun _ => (0 : Int32)))), (nw, .inl (cyI, 1024, .inl nf)), (ol, .inl (cyI, 1957, .inl (fun _ => (0 : Int32)))), (lt, .inl (cyI, 1957, .inl (fun _ => (0 : Int32)))), (es, .inl (cyI, 25857, .inl (fun _ => (0 : Int32)))), (sf, .inl (cyI, 25857, .inl (fun _ => (0 : Int32)))), (sl, .inl (cyI, 1957, .inl (fun _ => (0 : Int32)))), (so, .inl (cyI, 1957, .inl (fun _ => (0 : Int32)))), (la, .inl (cyI, 1957, .inl (fun _ => (0 : Int32)))), (li, .inl (cyI, 1957, .inl (fun _ => (0 : Int32))))]) hP hD [0, 1] [2, 3] rfl rfl (by decide) (by decide) hk1 f_8 hP1 hD1
              generalize H1 = H at hP hS ⊢
              have hP : va_P (dC, dI) vwCl [(a2, .inl (cyI, 10, .inl f)), (a3, .inr (2, [.ref a4, .int 0])), (h0, .inr (5, [.ref a1, .ref b1, .ref c1, .ref lq, .ref bh, .int 0, .ref wk])), (a1, .inr (3, [.ref a2, .ref a3, .int 8])), (wk, .inr (4, [.ref mo, .ref wy, .ref nw, .ref ol, .ref lt, .ref es, .ref sf, .ref sl, .ref so, .ref la, .ref li, .ref a3, .int 8, .int p2, .int 0, .int 0, .int 0, .int 0, .int 0, .int 0])), (mo, .inr (1, [.ref lk, .int 0, .int 0, .int 0])), (lk, .inr (0, [.int 0, .int 0, .int 0, .int 0, .int 0])), (wy, .inl (cyI, 1957, .inl (fun _ => (0 : Int32)))), (nw, .inl (cyI, 1024, .inl nf)), (ol, .inl (cyI, 1957, .inl (fun _ => (0 : Int32)))), (lt, .inl (cyI, 1957, .inl (fun _ => (0 : Int32)))), (es, .inl (cyI, 25857, .inl (fun _ => (0 : Int32)))), (sf, .inl (cyI, 25857, .inl (fun _ => (0 : Int32)))), (sl, .inl (cyI, 1957, .inl (fun _ => (0 : Int32)))), (so, .inl (cyI, 1957, .inl (fun _ => (0 : Int32)))), (la, .inl (cyI, 1957, .inl (fun _ => (0 : Int32)))), (li, .inl (cyI, 1957, .inl (fun _ => (0 : Int32))))] _ := hP
              have hD : va_D A [(a2, .inl (cyI, 10, .inl f)), (a3, .inr (2, [.ref a4, .int 0])), (h0, .inr (5, [.ref a1, .ref b1, .ref c1, .ref lq, .ref bh, .int 0, .ref wk])), (a1, .inr (3, [.ref a2, .ref a3, .int 8])), (wk, .inr (4, [.ref mo, .ref wy, .ref nw, .ref ol, .ref lt, .ref es, .ref sf, .ref sl, .ref so, .ref la, .ref li, .ref a3, .int 8, .int p2, .int 0, .int 0, .int 0, .int 0, .int 0, .int 0])), (mo, .inr (1, [.ref lk, .int 0, .int 0, .int 0])), (lk, .inr (0, [.int 0, .int 0, .int 0, .int 0, .int 0])), (wy, .inl (cyI, 1957, .inl (fun _ => (0 : Int32)))), (nw, .inl (cyI, 1024, .inl nf)), (ol, .inl (cyI, 1957, .inl (fun _ => (0 : Int32)))), (lt, .inl (cyI, 1957, .inl (fun _ => (0 : Int32)))), (es, .inl (cyI, 25857, .inl (fun _ => (0 : Int32)))), (sf, .inl (cyI, 25857, .inl (fun _ => (0 : Int32)))), (sl, .inl (cyI, 1957, .inl (fun _ => (0 : Int32)))), (so, .inl (cyI, 1957, .inl (fun _ => (0 : Int32)))), (la, .inl (cyI, 1957, .inl (fun _ => (0 : Int32)))), (li, .inl (cyI, 1957, .inl (fun _ => (0 : Int32))))] := hD
              refine W.widen (k := 13) (n := 66466) (Nat.le_of_ble_eq_true rfl) (Nat.le_of_ble_eq_true rfl) ?_
              refine lv_astore (lv' := [(4, .ref wk), (0, .ref h0), (1, .int p1), (2, .int p2), (3, .int p3)]) hx hb dX7_all_49 hl (by decide) rfl (fun ls hl => ?_)
              refine lv_iconst (v := 1) hx hb dX7_all_51 (by decide) ?_
              refine lv_istore (lv' := [(5, .int 1), (4, .ref wk), (0, .ref h0), (1, .int p1), (2, .int p2), (3, .int p3)]) hx hb dX7_all_52 hl (by decide) rfl (fun ls hl => ?_)
              have L54 : ∀ (n54 : Nat), ∀ (k : Nat) (z : Nat) (wf nf of lf sv : Nat → Int32), (1 ≤ k ∧ k ≤ 256) → (257 ≤ k + n54) → (z = nb_c p1 k) → (∀ x, k ≤ x → x < 1024 → nf x = -1) → (∀ i, i < z → ∃ x, x < 256 ∧ nb_bc (nI x) = p1 ∧ wf i = nI x) → ∀ (H : Heap) (locs : List Loc), va_P (dC, dI) vwCl [(h0, .inr (5, [.ref a1, .ref b1, .ref c1, .ref lq, .ref bh, .int 0, .ref wk])), (a1, .inr (3, [.ref a2, .ref a3, .int 8])), (a2, .inl (cyI, 10, .inl f)), (a3, .inr (2, [.ref a4, .int 0])), (wk, .inr (4, [.ref mo, .ref wy, .ref nw, .ref ol, .ref lt, .ref es, .ref sf, .ref sl, .ref so, .ref la, .ref li, .ref a3, .int 8, .int p2, .int (nI z), .int 0, .int 0, .int 0, .int 0, .int 0])), (mo, .inr (1, [.ref lk, .int 0, .int 0, .int 0])), (lk, .inr (0, [.int 0, .int 0, .int 0, .int 0, .int 0])), (wy, .inl (cyI, 1957, .inl wf)), (nw, .inl (cyI, 1024, .inl nf)), (ol, .inl (cyI, 1957, .inl of)), (lt, .inl (cyI, 1957, .inl lf)), (es, .inl (cyI, 25857, .inl (fun _ => (0 : Int32)))), (sf, .inl (cyI, 25857, .inl (fun _ => (0 : Int32)))), (sl, .inl (cyI, 1957, .inl sv)), (so, .inl (cyI, 1957, .inl (fun _ => (0 : Int32)))), (la, .inl (cyI, 1957, .inl (fun _ => (0 : Int32)))), (li, .inl (cyI, 1957, .inl (fun _ => (0 : Int32))))] H → va_D A [(h0, .inr (5, [.ref a1, .ref b1, .ref c1, .ref lq, .ref bh, .int 0, .ref wk])), (a1, .inr (3, [.ref a2, .ref a3, .int 8])), (a2, .inl (cyI, 10, .inl f)), (a3, .inr (2, [.ref a4, .int 0])), (wk, .inr (4, [.ref mo, .ref wy, .ref nw, .ref ol, .ref lt, .ref es, .ref sf, .ref sl, .ref so, .ref la, .ref li, .ref a3, .int 8, .int p2, .int (nI z), .int 0, .int 0, .int 0, .int 0, .int 0])), (mo, .inr (1, [.ref lk, .int 0, .int 0, .int 0])), (lk, .inr (0, [.int 0, .int 0, .int 0, .int 0, .int 0])), (wy, .inl (cyI, 1957, .inl wf)), (nw, .inl (cyI, 1024, .inl nf)), (ol, .inl (cyI, 1957, .inl of)), (lt, .inl (cyI, 1957, .inl lf)), (es, .inl (cyI, 25857, .inl (fun _ => (0 : Int32)))), (sf, .inl (cyI, 25857, .inl (fun _ => (0 : Int32)))), (sl, .inl (cyI, 1957, .inl sv)), (so, .inl (cyI, 1957, .inl (fun _ => (0 : Int32)))), (la, .inl (cyI, 1957, .inl (fun _ => (0 : Int32)))), (li, .inl (cyI, 1957, .inl (fun _ => (0 : Int32))))] → va_S A s.heap H locs → ∀ (ls : Array Slot), lv_has ls 8 [(0, .ref h0), (1, .int p1), (2, .int p2), (3, .int p3), (4, .ref wk), (5, .int (nI k))] → W p l e (headSpec wsX7_all ({ frames := 5, cells := 13, slots := 66466, locals := 123 })).room s m ([.ref h0, .int p1, .int p2, .int p3] : List Value).toArray below meth c H locs 13 66466 (MQ below (va_Qi (S := Unit) (fun (r : Int32) (_ : Unit) => r = sp_all p1 p2 p3) (fun _ _ => True) A) ([.ref h0, .int p1, .int p2, .int p3] : List Value).toArray s 13 66466 A) (F0 m 54 ls []) := by
                intro n54
                induction n54 with
                | zero =>
                  intro k z wf nf of lf sv hk54 hn54 hzk hnf hwf H locs hP hD hS ls hl
                  exfalso
                  omega
                | succ n54 ih54 =>
                  intro k z wf nf of lf sv hk54 hn54 hzk hnf hwf H locs hP hD hS ls hl
                  refine lv_iload hx hb dX7_all_54 (lv_at hl 5 rfl) ?_
                  refine lv_iconst (v := 1) hx hb dX7_all_56 (by decide) ?_
                  refine lv_aload_n hx hb dX7_all_57 rfl (lv_at hl 0 rfl) ?_
                  refine va_get (D := (dC, dI)) (ci := 5) (v := .ref a1) (C := RX7) (T := TX7) (N := 7) hx hb hts hnX7_all_X7 hown hK hP 0 rfl rfl 0 (by decide) (hts (.fieldLink RX7 10 "RingMeets" "now" "LRingMeets$Scene;") (by decide +kernel)) (fun _ h9 => h9) rfl dX7_all_58 ?_
                  refine va_getN (D := (dC, dI)) (ci := 3) (v := .int 8) (C := RX4) (T := TX4) (N := 3) hx hb hts hnX7_all_X4 hown hK hP 1 rfl rfl 2 (by decide) (hN.fld 4 rfl) (fun _ h9 => h9) rfl dX7_all_61 ?_
                  refine lv_ishl hx hb dX7_all_64 ?_
                  refine lv_topi (fun x_10 ex_10 => ?_)
                  obtain rfl : 256 = x_10 := (ex_10.trans (by decide)).symm
                  refine lv_icmp_ge (tgt := 95) hx hb dX7_all_65 (by decide) (fun c_11 => ?_) (fun c_11 => ?_)
                  · skip
                    have ic_11 := ci_le (show Int32.toInt 256 = 256 by decide) (nI_toInt (n := k) (by omega)) c_11
                    have hz : z ≤ 256 := by have h9 := nb_c_le p1 k; omega
                    have hzz : z = nb_c p1 256 := by rw [hzk, show k = 256 by omega]
                    refine lv_aload hx hb dX7_all_95 (lv_at hl 4 rfl) ?_
                    refine va_getN (D := (dC, dI)) (ci := 4) (v := .int (nI z)) (C := RX6) (T := TX6) (N := 20) hx hb hts hnX7_all_X6 hown hK hP 4 rfl rfl 14 (by decide) (hN.fld 16 rfl) (fun _ h9 => h9) rfl dX7_all_97 ?_
                    refine lv_istore (lv' := [(5, .int (nI z)), (0, .ref h0), (1, .int p1), (2, .int p2), (3, .int p3), (4, .ref wk)]) hx hb dX7_all_100 hl (by decide) rfl (fun ls hl => ?_)
                    refine lv_aload hx hb dX7_all_102 (lv_at hl 5 rfl) ?_
                    have f_12 := va_free (wc := [(wk, .inr (4, [.ref mo, .ref wy, .ref nw, .ref ol, .ref lt, .ref es, .ref sf, .ref sl, .ref so, .ref la, .ref li, .ref a3, .int 8, .int p2, .int (nI z), .int 0, .int 0, .int 0, .int 0, .int 0])), (mo, .inr (1, [.ref lk, .int 0, .int 0, .int 0])), (lk, .inr (0, [.int 0, .int 0, .int 0, .int 0, .int 0])), (a3, .inr (2, [.ref a4, .int 0])), (wy, .inl (cyI, 1957, .inl wf)), (so, .inl (cyI, 1957, .inl (fun _ => (0 : Int32)))), (la, .inl (cyI, 1957, .inl (fun _ => (0 : Int32)))), (li, .inl (cyI, 1957, .inl (fun _ => (0 : Int32)))), (lt, .inl (cyI, 1957, .inl lf))]) hD hS hA [4, 5, 6, 3, 7, 14, 15, 16, 10] rfl
                    refine va_callv (va_runV (As := []) (rest := []) ⟨hx, hb, hml, hown, hts⟩ (kX6_walk l dC dI cyI cyZ wk mo wy nw ol lt es sf sl so la li a3 lk a4 p2 0 0 0 0 0 0 0 0 0 0 0 z hz p1 wf hwf (fun _ => (0 : Int32)) (fun _ => (0 : Int32)) (fun _ => (0 : Int32)) lf _) (cwV 0 hts gX7_all_X6_walk rfl rfl rfl (by decide +kernel) ⟨Nat.le_of_ble_eq_true rfl, Nat.le_of_ble_eq_true rfl⟩) (bs_WV hB (hP.sub (ws' := [(wk, .inr (4, [.ref mo, .ref wy, .ref nw, .ref ol, .ref lt, .ref es, .ref sf, .ref sl, .ref so, .ref la, .ref li, .ref a3, .int 8, .int p2, .int (nI z), .int 0, .int 0, .int 0, .int 0, .int 0])), (mo, .inr (1, [.ref lk, .int 0, .int 0, .int 0])), (lk, .inr (0, [.int 0, .int 0, .int 0, .int 0, .int 0])), (a3, .inr (2, [.ref a4, .int 0])), (wy, .inl (cyI, 1957, .inl wf)), (so, .inl (cyI, 1957, .inl (fun _ => (0 : Int32)))), (la, .inl (cyI, 1957, .inl (fun _ => (0 : Int32)))), (li, .inl (cyI, 1957, .inl (fun _ => (0 : Int32)))), (lt, .inl (cyI, 1957, .inl lf))]) [4, 5, 6, 3, 7, 14, 15, 16, 10] rfl) (hD.sub (ws' := [(wk, .inr (4, [.ref mo, .ref wy, .ref nw, .ref ol, .ref lt, .ref es, .ref sf, .ref sl, .ref so, .ref la, .ref li, .ref a3, .int 8, .int p2, .int (nI z), .int 0, .int 0, .int 0, .int 0, .int 0])), (mo, .inr (1, [.ref lk, .int 0, .int 0, .int 0])), (lk, .inr (0, [.int 0, .int 0, .int 0, .int 0, .int 0])), (a3, .inr (2, [.ref a4, .int 0])), (wy, .inl (cyI, 1957, .inl wf)), (so, .inl (cyI, 1957, .inl (fun _ => (0 : Int32)))), (la, .inl (cyI, 1957, .inl (fun _ => (0 : Int32)))), (li, .inl (cyI, 1957, .inl (fun _ => (0 : Int32)))), (lt, .inl (cyI, 1957, .inl lf))]) [4, 5, 6, 3, 7, 14, 15, 16, 10] (by decide) rfl) 0 rfl rfl) rfl rfl hl.1 rfl (lv_room (Nat.le_of_ble_eq_true rfl)) dX7_all_104 ⟨Nat.le_of_ble_eq_true rfl, Nat.le_of_ble_eq_true rfl⟩) hS (fun q _ h => f_12 q h) f_12 (fun uh_13 t H1 locs ht hvm h_13 hB1 hz1 hk1 hS => ?_)
                    obtain ⟨v1, v2, v3, fso, fla⟩ := uh_13
                    obtain ⟨hso, hla⟩ := h_13
                    obtain ⟨hP1, hD1⟩ := hB1
                    rw [ht] at hP1
                    obtain ⟨hP, hD⟩ := va_join (wr := [(h0, .inr (5, [.ref a1, .ref b1, .ref c1, .ref lq, .ref bh, .int 0, .ref wk])), (a1, .inr (3, [.ref a2, .ref a3, .int 8])), (a2, .inl (cyI, 10, .inl f)), (nw, .inl (cyI, 1024, .inl nf)), (ol, .inl (cyI, 1957, .inl of)), (es, .inl (cyI, 25857, .inl (fun _ => (0 : Int32)))), (sf, .inl (cyI, 25857, .inl (fun _ => (0 : Int32)))), (sl, .inl (cyI, 1957, .inl sv))]) (w1 := [(wk, .inr (4, [.ref mo, .ref wy, .ref nw, .ref ol, .ref lt, .ref es, .ref sf, .ref sl, .ref so, .ref la, .ref li, .ref a3, .int 8, .int p2, .int (nI z), .int 0, .int v1, .int v2, .int v3, .int 0])), (wy, .inl (cyI, 1957, .inl wf)), (so, .inl (cyI, 1957, .inl fso)), (la, .inl (cyI, 1957, .inl fla))]) hP hD [4, 5, 6, 3, 7, 14, 15, 16, 10] [0, 1, 2, 8, 9, 11, 12, 13] rfl rfl (by decide) (by decide) hk1 f_12 hP1 hD1
                    generalize H1 = H at hP hS ⊢
                    have hP : va_P (dC, dI) vwCl [(h0, .inr (5, [.ref a1, .ref b1, .ref c1, .ref lq, .ref bh, .int 0, .ref wk])), (a1, .inr (3, [.ref a2, .ref a3, .int 8])), (a2, .inl (cyI, 10, .inl f)), (nw, .inl (cyI, 1024, .inl nf)), (ol, .inl (cyI, 1957, .inl of)), (es, .inl (cyI, 25857, .inl (fun _ => (0 : Int32)))), (sf, .inl (cyI, 25857, .inl (fun _ => (0 : Int32)))), (sl, .inl (cyI, 1957, .inl sv)), (wk, .inr (4, [.ref mo, .ref wy, .ref nw, .ref ol, .ref lt, .ref es, .ref sf, .ref sl, .ref so, .ref la, .ref li, .ref a3, .int 8, .int p2, .int (nI z), .int 0, .int v1, .int v2, .int v3, .int 0])), (wy, .inl (cyI, 1957, .inl wf)), (so, .inl (cyI, 1957, .inl fso)), (la, .inl (cyI, 1957, .inl fla))] _ := hP
                    have hD : va_D A [(h0, .inr (5, [.ref a1, .ref b1, .ref c1, .ref lq, .ref bh, .int 0, .ref wk])), (a1, .inr (3, [.ref a2, .ref a3, .int 8])), (a2, .inl (cyI, 10, .inl f)), (nw, .inl (cyI, 1024, .inl nf)), (ol, .inl (cyI, 1957, .inl of)), (es, .inl (cyI, 25857, .inl (fun _ => (0 : Int32)))), (sf, .inl (cyI, 25857, .inl (fun _ => (0 : Int32)))), (sl, .inl (cyI, 1957, .inl sv)), (wk, .inr (4, [.ref mo, .ref wy, .ref nw, .ref ol, .ref lt, .ref es, .ref sf, .ref sl, .ref so, .ref la, .ref li, .ref a3, .int 8, .int p2, .int (nI z), .int 0, .int v1, .int v2, .int v3, .int 0])), (wy, .inl (cyI, 1957, .inl wf)), (so, .inl (cyI, 1957, .inl fso)), (la, .inl (cyI, 1957, .inl fla))] := hD
                    refine lv_iconst (v := 0) hx hb dX7_all_107 (by decide) ?_
                    refine lv_istore (lv' := [(6, .int 0), (5, .int (nI z)), (0, .ref h0), (1, .int p1), (2, .int p2), (3, .int p3), (4, .ref wk)]) hx hb dX7_all_108 hl (by decide) rfl (fun ls hl => ?_)
                    refine lv_iconst (v := 0) hx hb dX7_all_110 (by decide) ?_
                    refine lv_istore (lv' := [(7, .int 0), (6, .int 0), (5, .int (nI z)), (0, .ref h0), (1, .int p1), (2, .int p2), (3, .int p3), (4, .ref wk)]) hx hb dX7_all_111 hl (by decide) rfl (fun ls hl => ?_)
                    have L113 : ∀ (n113 : Nat), ∀ (kk : Nat) (sv9 : Int32), (kk ≤ z) → (z + 1 ≤ kk + n113) → (sv9 = if sp_kd p1 = p3 then nI kk else 0) → ∀ (H : Heap) (locs : List Loc), va_P (dC, dI) vwCl [(h0, .inr (5, [.ref a1, .ref b1, .ref c1, .ref lq, .ref bh, .int 0, .ref wk])), (a1, .inr (3, [.ref a2, .ref a3, .int 8])), (a2, .inl (cyI, 10, .inl f)), (nw, .inl (cyI, 1024, .inl nf)), (ol, .inl (cyI, 1957, .inl of)), (es, .inl (cyI, 25857, .inl (fun _ => (0 : Int32)))), (sf, .inl (cyI, 25857, .inl (fun _ => (0 : Int32)))), (sl, .inl (cyI, 1957, .inl sv)), (wk, .inr (4, [.ref mo, .ref wy, .ref nw, .ref ol, .ref lt, .ref es, .ref sf, .ref sl, .ref so, .ref la, .ref li, .ref a3, .int 8, .int p2, .int (nI z), .int 0, .int v1, .int v2, .int v3, .int 0])), (wy, .inl (cyI, 1957, .inl wf)), (so, .inl (cyI, 1957, .inl fso)), (la, .inl (cyI, 1957, .inl fla))] H → va_D A [(h0, .inr (5, [.ref a1, .ref b1, .ref c1, .ref lq, .ref bh, .int 0, .ref wk])), (a1, .inr (3, [.ref a2, .ref a3, .int 8])), (a2, .inl (cyI, 10, .inl f)), (nw, .inl (cyI, 1024, .inl nf)), (ol, .inl (cyI, 1957, .inl of)), (es, .inl (cyI, 25857, .inl (fun _ => (0 : Int32)))), (sf, .inl (cyI, 25857, .inl (fun _ => (0 : Int32)))), (sl, .inl (cyI, 1957, .inl sv)), (wk, .inr (4, [.ref mo, .ref wy, .ref nw, .ref ol, .ref lt, .ref es, .ref sf, .ref sl, .ref so, .ref la, .ref li, .ref a3, .int 8, .int p2, .int (nI z), .int 0, .int v1, .int v2, .int v3, .int 0])), (wy, .inl (cyI, 1957, .inl wf)), (so, .inl (cyI, 1957, .inl fso)), (la, .inl (cyI, 1957, .inl fla))] → va_S A s.heap H locs → ∀ (ls : Array Slot), lv_has ls 8 [(3, .int p3), (4, .ref wk), (5, .int (nI z)), (6, .int sv9), (7, .int (nI kk))] → W p l e (headSpec wsX7_all ({ frames := 5, cells := 13, slots := 66466, locals := 123 })).room s m ([.ref h0, .int p1, .int p2, .int p3] : List Value).toArray below meth c H locs 13 66466 (MQ below (va_Qi (S := Unit) (fun (r : Int32) (_ : Unit) => r = sp_all p1 p2 p3) (fun _ _ => True) A) ([.ref h0, .int p1, .int p2, .int p3] : List Value).toArray s 13 66466 A) (F0 m 113 ls []) := by
                      intro n113
                      induction n113 with
                      | zero =>
                        intro kk sv9 hk113 hn113 hsv H locs hP hD hS ls hl
                        exfalso
                        omega
                      | succ n113 ih113 =>
                        intro kk sv9 hk113 hn113 hsv H locs hP hD hS ls hl
                        refine lv_iload hx hb dX7_all_113 (lv_at hl 4 rfl) ?_
                        refine lv_iload hx hb dX7_all_115 (lv_at hl 2 rfl) ?_
                        refine lv_icmp_ge (tgt := 140) hx hb dX7_all_117 (by decide) (fun c_14 => ?_) (fun c_14 => ?_)
                        · skip
                          have ic_14 := ci_le (nI_toInt (n := z) (by omega)) (nI_toInt (n := kk) (by omega)) c_14
                          refine lv_iload hx hb dX7_all_140 (lv_at hl 3 rfl) ?_
                          exact W.iret (v := sv9) hx hb hr (fun t ht hW => ⟨⟨sv9, (), rfl, nb_sp2 (by omega) (by rw [hsv, show kk = z by omega, hzz]), trivial⟩, hS.F ht⟩) hS.2.2 dX7_all_142
                        · skip
                          have ic_14 := ci_nle (nI_toInt (n := z) (by omega)) (nI_toInt (n := kk) (by omega)) c_14
                          refine lv_aload hx hb dX7_all_120 (lv_at hl 1 rfl) ?_
                          refine lv_iload hx hb dX7_all_122 (lv_at hl 4 rfl) ?_
                          refine vp_callSi (va_Run.run (va_runV (As := [.int (nI kk)]) (rest := []) ⟨hx, hb, hml, hown, hts⟩ (kX6_kindOf l dC dI cyI cyZ wk mo wy nw ol lt es sf sl so la li a3 p2 0 v1 v2 v3 z hz p1 wf hwf fso fla hso hla kk (by omega)) (cwV 1 hts gX7_all_X6_kindOf rfl rfl rfl (by decide +kernel) ⟨Nat.le_of_ble_eq_true rfl, Nat.le_of_ble_eq_true rfl⟩) (bs_RV hB (hP.sub (ws' := [(wk, .inr (4, [.ref mo, .ref wy, .ref nw, .ref ol, .ref lt, .ref es, .ref sf, .ref sl, .ref so, .ref la, .ref li, .ref a3, .int 8, .int p2, .int (nI z), .int 0, .int v1, .int v2, .int v3, .int 0])), (wy, .inl (cyI, 1957, .inl wf)), (so, .inl (cyI, 1957, .inl fso)), (la, .inl (cyI, 1957, .inl fla))]) [8, 9, 10, 11] rfl) 0 rfl rfl) rfl rfl hl.1 rfl (lv_room (Nat.le_of_ble_eq_true rfl)) dX7_all_124 ⟨Nat.le_of_ble_eq_true rfl, Nat.le_of_ble_eq_true rfl⟩)) (fun r_15 hr_15 => ?_)
                          refine lv_iload_n hx hb dX7_all_127 rfl (lv_at hl 0 rfl) ?_
                          refine lv_icmp_ne (tgt := 134) hx hb dX7_all_128 (by decide) (fun c_16 => ?_) (fun c_16 => ?_)
                          · skip
                            have ic_16 := ci_ne (rfl : Int32.toInt r_15 = _) (rfl : Int32.toInt p3 = _) c_16
                            refine lv_iinc (v := (nI (kk + 1))) (lv' := [(7, .int (nI (kk + 1))), (3, .int p3), (4, .ref wk), (5, .int (nI z)), (6, .int sv9)]) hx hb dX7_all_134 hl (k := 4) rfl (nI_1 _) (by decide) rfl (fun ls hl => ?_)
                            refine lv_goto (tgt := 113) hx hb dX7_all_137 (by decide) ?_
                            exact ih113 (kk + 1) sv9 (by omega) (by omega) (by rw [hsv, if_neg (fun q => c_16 (hr_15.trans q)), if_neg (fun q => c_16 (hr_15.trans q))]) _ _ (hP.sub [0, 1, 2, 3, 4, 5, 6, 7, 8, 9, 10, 11] rfl) (hD.sub [0, 1, 2, 3, 4, 5, 6, 7, 8, 9, 10, 11] (by decide) rfl) hS _ (lv_sub hl [1, 2, 3, 4, 0] rfl)
                          · skip
                            have ic_16 := ci_eq (rfl : Int32.toInt r_15 = _) (rfl : Int32.toInt p3 = _) c_16
                            obtain ⟨x_17, ex_17⟩ : ∃ y : Int32, y = sv9 + 1 := ⟨_, rfl⟩
                            refine lv_iinc (v := x_17) (lv' := [(6, .int x_17), (3, .int p3), (4, .ref wk), (5, .int (nI z)), (7, .int (nI kk))]) hx hb dX7_all_131 hl (k := 3) rfl (by rw [ex_17]; rfl) (by decide) rfl (fun ls hl => ?_)
                            refine lv_iinc (v := (nI (kk + 1))) (lv' := [(7, .int (nI (kk + 1))), (6, .int x_17), (3, .int p3), (4, .ref wk), (5, .int (nI z))]) hx hb dX7_all_134 hl (k := 4) rfl (nI_1 _) (by decide) rfl (fun ls hl => ?_)
                            refine lv_goto (tgt := 113) hx hb dX7_all_137 (by decide) ?_
                            exact ih113 (kk + 1) x_17 (by omega) (by omega) (by rw [ex_17, hsv, if_pos (hr_15.symm.trans c_16), if_pos (hr_15.symm.trans c_16)]; exact nI_1 _) _ _ (hP.sub [0, 1, 2, 3, 4, 5, 6, 7, 8, 9, 10, 11] rfl) (hD.sub [0, 1, 2, 3, 4, 5, 6, 7, 8, 9, 10, 11] (by decide) rfl) hS _ (lv_sub hl [2, 3, 4, 1, 0] rfl)
                    exact L113 (z + 1) 0 0 (by omega) (by omega) (by split <;> rfl) _ _ (hP.sub [0, 1, 2, 3, 4, 5, 6, 7, 8, 9, 10, 11] rfl) (hD.sub [0, 1, 2, 3, 4, 5, 6, 7, 8, 9, 10, 11] (by decide) rfl) hS _ (lv_sub hl [6, 7, 2, 1, 0] rfl)
                  · skip
                    have ic_11 := ci_nle (show Int32.toInt 256 = 256 by decide) (nI_toInt (n := k) (by omega)) c_11
                    have hz : z ≤ 256 := by have h9 := nb_c_le p1 k; omega
                    refine lv_iload hx hb dX7_all_68 (lv_at hl 5 rfl) ?_
                    refine vp_callSi (va_Run.run (va_runS (As := [.int (nI k)]) (rest := []) ⟨hx, hb, hml, hown, hts⟩ (kJ6_bitCount_0f7a4 l dC dI cyI cyZ (nI k)) (va_cwS 1 hts gX7_all_J6_bitCount_0f7a4 rfl rfl rfl (by decide +kernel) ⟨Nat.le_of_ble_eq_true rfl, Nat.le_of_ble_eq_true rfl⟩) (bs_RS hB (hP.sub (ws' := []) [] rfl)) rfl rfl hl.1 rfl (lv_room (Nat.le_of_ble_eq_true rfl)) dX7_all_70 ⟨Nat.le_of_ble_eq_true rfl, Nat.le_of_ble_eq_true rfl⟩)) (fun r_18 hr_18 => ?_)
                    refine lv_iload_n hx hb dX7_all_73 rfl (lv_at hl 1 rfl) ?_
                    refine lv_icmp_ne (tgt := 89) hx hb dX7_all_74 (by decide) (fun c_19 => ?_) (fun c_19 => ?_)
                    · skip
                      have ic_19 := ci_ne (rfl : Int32.toInt r_18 = _) (rfl : Int32.toInt p1 = _) c_19
                      refine lv_iinc (v := (nI (k + 1))) (lv' := [(5, .int (nI (k + 1))), (0, .ref h0), (1, .int p1), (2, .int p2), (3, .int p3), (4, .ref wk)]) hx hb dX7_all_89 hl (k := 5) rfl (nI_1 _) (by decide) rfl (fun ls hl => ?_)
                      refine lv_goto (tgt := 54) hx hb dX7_all_92 (by decide) ?_
                      exact ih54 (k + 1) z wf nf of lf sv ⟨by omega, by omega⟩ (by omega) (by rw [nb_c_n (fun q => c_19 (hr_18.trans q))]; exact hzk) (fun x h1 h2 => hnf x (by omega) h2) hwf _ _ (hP.sub [0, 1, 2, 3, 4, 5, 6, 7, 8, 9, 10, 11, 12, 13, 14, 15, 16] rfl) (hD.sub [0, 1, 2, 3, 4, 5, 6, 7, 8, 9, 10, 11, 12, 13, 14, 15, 16] (by decide) rfl) hS _ (lv_sub hl [1, 2, 3, 4, 5, 0] rfl)
                    · skip
                      have ic_19 := ci_eq (rfl : Int32.toInt r_18 = _) (rfl : Int32.toInt p1 = _) c_19
                      refine lv_aload hx hb dX7_all_77 (lv_at hl 4 rfl) ?_
                      refine lv_iload hx hb dX7_all_79 (lv_at hl 5 rfl) ?_
                      refine lv_iconst (v := 0) hx hb dX7_all_81 (by decide) ?_
                      refine vp_callSi (va_Run.run (va_runS (As := [.int (nI k), .int 0]) (rest := [.ref wk]) ⟨hx, hb, hml, hown, hts⟩ (kX5_way l dC dI cyI cyZ (nI k)) (va_cwS 2 hts gX7_all_X5_way rfl rfl rfl (by decide +kernel) ⟨Nat.le_of_ble_eq_true rfl, Nat.le_of_ble_eq_true rfl⟩) (bs_RS hB (hP.sub (ws' := []) [] rfl)) rfl rfl hl.1 rfl (lv_room (Nat.le_of_ble_eq_true rfl)) dX7_all_82 ⟨Nat.le_of_ble_eq_true rfl, Nat.le_of_ble_eq_true rfl⟩)) (fun r_20 hr_20 => ?_)
                      obtain rfl : (nI k) = r_20 := Eq.symm hr_20
                      have f_21 := va_free (wc := [(wk, .inr (4, [.ref mo, .ref wy, .ref nw, .ref ol, .ref lt, .ref es, .ref sf, .ref sl, .ref so, .ref la, .ref li, .ref a3, .int 8, .int p2, .int (nI z), .int 0, .int 0, .int 0, .int 0, .int 0])), (wy, .inl (cyI, 1957, .inl wf)), (nw, .inl (cyI, 1024, .inl nf)), (ol, .inl (cyI, 1957, .inl of)), (lt, .inl (cyI, 1957, .inl lf)), (sl, .inl (cyI, 1957, .inl sv))]) hD hS hA [4, 7, 8, 9, 10, 13] rfl
                      refine va_calli (va_runV (As := [.int (nI k)]) (rest := []) ⟨hx, hb, hml, hown, hts⟩ (kX6_add l dC dI cyI cyZ wk mo wy nw ol lt es sf sl so la li a3 p2 0 0 0 0 z hz wf nf of lf sv k (by omega) (hnf k (Nat.le_refl k) (by omega)) _) (cwV 1 hts gX7_all_X6_add rfl rfl rfl (by decide +kernel) ⟨Nat.le_of_ble_eq_true rfl, Nat.le_of_ble_eq_true rfl⟩) (bs_WV hB (hP.sub (ws' := [(wk, .inr (4, [.ref mo, .ref wy, .ref nw, .ref ol, .ref lt, .ref es, .ref sf, .ref sl, .ref so, .ref la, .ref li, .ref a3, .int 8, .int p2, .int (nI z), .int 0, .int 0, .int 0, .int 0, .int 0])), (wy, .inl (cyI, 1957, .inl wf)), (nw, .inl (cyI, 1024, .inl nf)), (ol, .inl (cyI, 1957, .inl of)), (lt, .inl (cyI, 1957, .inl lf)), (sl, .inl (cyI, 1957, .inl sv))]) [4, 7, 8, 9, 10, 13] rfl) (hD.sub (ws' := [(wk, .inr (4, [.ref mo, .ref wy, .ref nw, .ref ol, .ref lt, .ref es, .ref sf, .ref sl, .ref so, .ref la, .ref li, .ref a3, .int 8, .int p2, .int (nI z), .int 0, .int 0, .int 0, .int 0, .int 0])), (wy, .inl (cyI, 1957, .inl wf)), (nw, .inl (cyI, 1024, .inl nf)), (ol, .inl (cyI, 1957, .inl of)), (lt, .inl (cyI, 1957, .inl lf)), (sl, .inl (cyI, 1957, .inl sv))]) [4, 7, 8, 9, 10, 13] (by decide) rfl) 0 rfl rfl) rfl rfl hl.1 rfl (lv_room (Nat.le_of_ble_eq_true rfl)) dX7_all_85 ⟨Nat.le_of_ble_eq_true rfl, Nat.le_of_ble_eq_true rfl⟩) hS (fun q _ h => f_21 q h) f_21 (fun rh_22 uh_22 t H1 locs ht hvm h_22 hB1 hz1 hk1 hS => ?_)
                      obtain ⟨g_23, g_24, g_25, g_26, g_27⟩ := uh_22
                      obtain ⟨eA1, eA2⟩ := h_22
                      have eA1 : g_23 = upd wf z (nI k) := eA1
                      have eA2 : g_24 = upd nf k (nI z) := eA2
                      obtain ⟨hP1, hD1⟩ := hB1
                      rw [ht] at hP1
                      obtain ⟨hP, hD⟩ := va_join (wr := [(h0, .inr (5, [.ref a1, .ref b1, .ref c1, .ref lq, .ref bh, .int 0, .ref wk])), (a1, .inr (3, [.ref a2, .ref a3, .int 8])), (a2, .inl (cyI, 10, .inl f)), (a3, .inr (2, [.ref a4, .int 0])), (mo, .inr (1, [.ref lk, .int 0, .int 0, .int 0])), (lk, .inr (0, [.int 0, .int 0, .int 0, .int 0, .int 0])), (es, .inl (cyI, 25857, .inl (fun _ => (0 : Int32)))), (sf, .inl (cyI, 25857, .inl (fun _ => (0 : Int32)))), (so, .inl (cyI, 1957, .inl (fun _ => (0 : Int32)))), (la, .inl (cyI, 1957, .inl (fun _ => (0 : Int32)))), (li, .inl (cyI, 1957, .inl (fun _ => (0 : Int32))))]) (w1 := [(wk, .inr (4, [.ref mo, .ref wy, .ref nw, .ref ol, .ref lt, .ref es, .ref sf, .ref sl, .ref so, .ref la, .ref li, .ref a3, .int 8, .int p2, .int (nI (z + 1)), .int 0, .int 0, .int 0, .int 0, .int 0])), (wy, .inl (cyI, 1957, .inl g_23)), (nw, .inl (cyI, 1024, .inl g_24)), (ol, .inl (cyI, 1957, .inl g_25)), (lt, .inl (cyI, 1957, .inl g_26)), (sl, .inl (cyI, 1957, .inl g_27))]) hP hD [4, 7, 8, 9, 10, 13] [0, 1, 2, 3, 5, 6, 11, 12, 14, 15, 16] rfl rfl (by decide) (by decide) hk1 f_21 hP1 hD1
                      generalize H1 = H at hP hS ⊢
                      have hP : va_P (dC, dI) vwCl [(h0, .inr (5, [.ref a1, .ref b1, .ref c1, .ref lq, .ref bh, .int 0, .ref wk])), (a1, .inr (3, [.ref a2, .ref a3, .int 8])), (a2, .inl (cyI, 10, .inl f)), (a3, .inr (2, [.ref a4, .int 0])), (mo, .inr (1, [.ref lk, .int 0, .int 0, .int 0])), (lk, .inr (0, [.int 0, .int 0, .int 0, .int 0, .int 0])), (es, .inl (cyI, 25857, .inl (fun _ => (0 : Int32)))), (sf, .inl (cyI, 25857, .inl (fun _ => (0 : Int32)))), (so, .inl (cyI, 1957, .inl (fun _ => (0 : Int32)))), (la, .inl (cyI, 1957, .inl (fun _ => (0 : Int32)))), (li, .inl (cyI, 1957, .inl (fun _ => (0 : Int32)))), (wk, .inr (4, [.ref mo, .ref wy, .ref nw, .ref ol, .ref lt, .ref es, .ref sf, .ref sl, .ref so, .ref la, .ref li, .ref a3, .int 8, .int p2, .int (nI (z + 1)), .int 0, .int 0, .int 0, .int 0, .int 0])), (wy, .inl (cyI, 1957, .inl g_23)), (nw, .inl (cyI, 1024, .inl g_24)), (ol, .inl (cyI, 1957, .inl g_25)), (lt, .inl (cyI, 1957, .inl g_26)), (sl, .inl (cyI, 1957, .inl g_27))] _ := hP
                      have hD : va_D A [(h0, .inr (5, [.ref a1, .ref b1, .ref c1, .ref lq, .ref bh, .int 0, .ref wk])), (a1, .inr (3, [.ref a2, .ref a3, .int 8])), (a2, .inl (cyI, 10, .inl f)), (a3, .inr (2, [.ref a4, .int 0])), (mo, .inr (1, [.ref lk, .int 0, .int 0, .int 0])), (lk, .inr (0, [.int 0, .int 0, .int 0, .int 0, .int 0])), (es, .inl (cyI, 25857, .inl (fun _ => (0 : Int32)))), (sf, .inl (cyI, 25857, .inl (fun _ => (0 : Int32)))), (so, .inl (cyI, 1957, .inl (fun _ => (0 : Int32)))), (la, .inl (cyI, 1957, .inl (fun _ => (0 : Int32)))), (li, .inl (cyI, 1957, .inl (fun _ => (0 : Int32)))), (wk, .inr (4, [.ref mo, .ref wy, .ref nw, .ref ol, .ref lt, .ref es, .ref sf, .ref sl, .ref so, .ref la, .ref li, .ref a3, .int 8, .int p2, .int (nI (z + 1)), .int 0, .int 0, .int 0, .int 0, .int 0])), (wy, .inl (cyI, 1957, .inl g_23)), (nw, .inl (cyI, 1024, .inl g_24)), (ol, .inl (cyI, 1957, .inl g_25)), (lt, .inl (cyI, 1957, .inl g_26)), (sl, .inl (cyI, 1957, .inl g_27))] := hD
                      refine lv_pop hx hb dX7_all_88 rfl ?_
                      refine lv_iinc (v := (nI (k + 1))) (lv' := [(5, .int (nI (k + 1))), (0, .ref h0), (1, .int p1), (2, .int p2), (3, .int p3), (4, .ref wk)]) hx hb dX7_all_89 hl (k := 5) rfl (nI_1 _) (by decide) rfl (fun ls hl => ?_)
                      refine lv_goto (tgt := 54) hx hb dX7_all_92 (by decide) ?_
                      exact ih54 (k + 1) (z + 1) g_23 g_24 g_25 g_26 g_27 ⟨by omega, by omega⟩ (by omega) (by rw [nb_c_y (by omega) (hr_18.symm.trans c_19), hzk]) (fun x h1 h2 => by rw [eA2]; unfold upd; rw [if_neg (by omega)]; exact hnf x (by omega) h2) (fun i hi => by rw [eA1]; unfold upd; split; (exact ⟨k, by omega, hr_18.symm.trans c_19, rfl⟩); exact hwf i (by omega)) _ _ (hP.sub [0, 1, 2, 3, 11, 4, 5, 12, 13, 14, 15, 6, 7, 16, 8, 9, 10] rfl) (hD.sub [0, 1, 2, 3, 11, 4, 5, 12, 13, 14, 15, 6, 7, 16, 8, 9, 10] (by decide) rfl) hS _ (lv_sub hl [1, 2, 3, 4, 5, 0] rfl)
              exact L54 257 1 0 (fun _ => (0 : Int32)) nf (fun _ => (0 : Int32)) (fun _ => (0 : Int32)) (fun _ => (0 : Int32)) ⟨by omega, by omega⟩ (by omega) (nb_c_1 p1).symm (fun x _ h2 => hnf0 x h2) (fun i hi => by omega) _ _ (hP.sub [2, 3, 0, 1, 4, 5, 6, 7, 8, 9, 10, 11, 12, 13, 14, 15, 16] rfl) (hD.sub [2, 3, 0, 1, 4, 5, 6, 7, 8, 9, 10, 11, 12, 13, 14, 15, 16] (by decide) rfl) hS _ (lv_sub hl [2, 3, 4, 5, 1, 0] rfl)
            · skip
              have ic_7 := ci_nle (rfl : Int32.toInt p3 = _) (show Int32.toInt 3 = 3 by decide) c_7
              refine lv_bipush (v := (-2)) hx hb dX7_all_40 (by decide) ?_
              refine W.widen (k := 13) (n := 66466) (Nat.le_of_ble_eq_true rfl) (Nat.le_of_ble_eq_true rfl) ?_
              exact W.iret (v := (-2)) hx hb hr (fun t ht hW => ⟨⟨(-2), (), rfl, nb_sp1 (by omega), trivial⟩, hS.F ht⟩) hS.2.2 dX7_all_42
      · skip
        have ic_3 := ci_nle (rfl : Int32.toInt p1 = _) (show Int32.toInt 8 = 8 by decide) c_3
        exfalso; omega
