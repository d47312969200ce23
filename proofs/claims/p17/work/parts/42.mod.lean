set_option maxHeartbeats 4000000 in
set_option maxRecDepth 100000 in
theorem mX8_gapAt (l : Launch) (dC : Nat → ClassId) (dI : Nat → Nat → Nat) (cyI cyZ : ClassId) (m0 : Nat) (st : Nat) (im : Nat) (kq : Nat) (pw : Nat) (nx : Nat) (li : Nat) (il : Nat) (mv : Nat) (so : Nat) (la : Nat) (co : Nat) (d6 : Int32) (d11 : Int32) (d12 : Int32) (n : Nat) (fs : Nat → Int32) (va : Nat) (w : Nat) (p1 : Int32) (p3 : Int32) (p4 : Int32) (hn3 : 3 ≤ n) (hn : n ≤ 10) (h0f : fs 0 = nI n) (ha9 : va < n) (hw : w = 9 ∨ w = 11) (hbt : nb_bit p1 va) (hp3 : p3 = nI w - 10) (hp4 : p4.toInt ≤ 10) : Met l yX8_gapAt wsX8_gapAt ({ frames := 3, cells := 0, slots := 0, locals := 67 }) (bs_R dC dI cyI cyZ [.ref m0, .int p1, .int (nI va), .int p3, .int p4] [(m0, .inr (6, [.ref st, .ref im, .ref kq, .ref pw, .ref nx, .ref li, .int d6, .ref il, .ref mv, .ref so, .ref la, .int d11, .int d12, .ref co])), (st, .inl (cyI, 72, .inl fs))]) (vp_Si (fun r : Int32 => True)) 0 0 (fun _ => False) := by
  refine Met.ofW (cc := cX8_gapAt) (maxL := 7) (ret := (some .int)) (by decide) rfl ?_
  intro p e s m args below meth c s₁ B hml hv
  obtain ⟨rfl, hB, hP⟩ := hv
  have hK := hB.1
  have hN := hB.2
  have hx := B.exec
  have hb := B.bytes
  have hr := B.returns
  have hts := atoms_spec (ws := wsX8_gapAt) B.pre
  have hown : s.vm.findClass RX8 = some m.cls := findClass_of_methodNamed B.named
  have hlocks := B.notSynchronized
  have hP : va_P (dC, dI) vwCl [(m0, .inr (6, [.ref st, .ref im, .ref kq, .ref pw, .ref nx, .ref li, .int d6, .ref il, .ref mv, .ref so, .ref la, .int d11, .int d12, .ref co])), (st, .inl (cyI, 72, .inl fs))] s.heap := hP
  have hl := lv_entry ([.ref m0, .int p1, .int (nI va), .int p3, .int p4]) (n := 7) (Nat.le_of_ble_eq_true rfl)
  rw [lg_entry_eq]
  generalize (lg_sl ([.ref m0, .int p1, .int (nI va), .int p3, .int p4]) ++ List.replicate (7 - (lg_sl ([.ref m0, .int p1, .int (nI va), .int p3, .int p4])).length) Slot.unset).toArray = ls at hl ⊢
  have hl : lv_has ls 7 [(0, .ref m0), (1, .int p1), (2, .int (nI va)), (3, .int p3), (4, .int p4)] := hl
  refine lv_iload_n hx hb dX8_gapAt_0 rfl (lv_at hl 2 rfl) ?_
  refine lv_istore (lv' := [(5, .int (nI va)), (0, .ref m0), (1, .int p1), (2, .int (nI va)), (3, .int p3), (4, .int p4)]) hx hb dX8_gapAt_1 hl (by decide) rfl (fun ls hl => ?_)
  refine lv_iconst (v := 0) hx hb dX8_gapAt_3 (by decide) ?_
  refine lv_istore (lv' := [(6, .int 0), (5, .int (nI va)), (0, .ref m0), (1, .int p1), (2, .int (nI va)), (3, .int p3), (4, .int p4)]) hx hb dX8_gapAt_4 hl (by decide) rfl (fun ls hl => ?_)
  have L6 : ∀ (n6 : Nat), ∀ (k vb : Nat), (k ≤ 10) → (11 ≤ k + n6) → (vb < n) → (nb_bit p1 vb) → ∀ (ls : Array Slot), lv_has ls 7 [(0, .ref m0), (1, .int p1), (3, .int p3), (4, .int p4), (5, .int (nI vb)), (6, .int (nI k))] → W p l e (headSpec wsX8_gapAt ({ frames := 3, cells := 0, slots := 0, locals := 67 })).room s m ([.ref m0, .int p1, .int (nI va), .int p3, .int p4] : List Value).toArray below meth c s.heap [] 0 0 (MQ below (vp_Si (fun r : Int32 => True)) ([.ref m0, .int p1, .int (nI va), .int p3, .int p4] : List Value).toArray s 0 0 (fun _ => False)) (F0 m 6 ls []) := by
    intro n6
    induction n6 with
    | zero =>
      intro k vb hk6 hn6 hv9 hb9 ls hl
      exfalso
      omega
    | succ n6 ih6 =>
      intro k vb hk6 hn6 hv9 hb9 ls hl
      refine lv_iload hx hb dX8_gapAt_6 (lv_at hl 5 rfl) ?_
      refine lv_iload hx hb dX8_gapAt_8 (lv_at hl 3 rfl) ?_
      refine lv_icmp_ge (tgt := 37) hx hb dX8_gapAt_10 (by decide) (fun c_1 => ?_) (fun c_1 => ?_)
      · skip
        have ic_1 := ci_le (rfl : Int32.toInt p4 = _) (nI_toInt (n := k) (by omega)) c_1
        refine lv_aload_n hx hb dX8_gapAt_37 rfl (lv_at hl 0 rfl) ?_
        refine lv_iload_n hx hb dX8_gapAt_38 rfl (lv_at hl 1 rfl) ?_
        refine lv_iload hx hb dX8_gapAt_39 (lv_at hl 4 rfl) ?_
        refine lv_iload_n hx hb dX8_gapAt_41 rfl (lv_at hl 2 rfl) ?_
        refine vp_callSi (va_Run.run (va_runV (As := [.int p1, .int (nI vb), .int p3]) (rest := []) ⟨hx, hb, hml, hown, hts⟩ (mX8_far l dC dI cyI cyZ m0 st im kq pw nx li il mv so la co d6 d11 d12 n fs vb w p1 p3 hn3 hn h0f (by omega) hw hb9 hp3) (cwV 3 hts gX8_gapAt_X8_far rfl rfl rfl (by decide +kernel) ⟨Nat.le_of_ble_eq_true rfl, Nat.le_of_ble_eq_true rfl⟩) (bs_RV hB (hP.sub (ws' := [(m0, .inr (6, [.ref st, .ref im, .ref kq, .ref pw, .ref nx, .ref li, .int d6, .ref il, .ref mv, .ref so, .ref la, .int d11, .int d12, .ref co])), (st, .inl (cyI, 72, .inl fs))]) [0, 1] rfl) 0 rfl rfl) rfl rfl hl.1 rfl (lv_room (Nat.le_of_ble_eq_true rfl)) dX8_gapAt_42 ⟨Nat.le_of_ble_eq_true rfl, Nat.le_of_ble_eq_true rfl⟩)) (fun r_2 hr_2 => ?_)
        obtain ⟨v_3, ev_3, lv_3, uv_3, bv_3⟩ := hr_2
        obtain rfl : nI v_3 = r_2 := Eq.symm ev_3
        exact W.iret (v := (nI v_3)) hx hb hr (fun t ht hW => ⟨(nI v_3), rfl, trivial, ht⟩) (fun q h => by cases h) dX8_gapAt_45
      · skip
        have ic_1 := ci_nle (rfl : Int32.toInt p4 = _) (nI_toInt (n := k) (by omega)) c_1
        refine lv_aload_n hx hb dX8_gapAt_13 rfl (lv_at hl 0 rfl) ?_
        refine lv_iload hx hb dX8_gapAt_14 (lv_at hl 4 rfl) ?_
        refine lv_iload_n hx hb dX8_gapAt_16 rfl (lv_at hl 2 rfl) ?_
        refine lv_aload_n hx hb dX8_gapAt_17 rfl (lv_at hl 0 rfl) ?_
        refine lv_iload_n hx hb dX8_gapAt_18 rfl (lv_at hl 1 rfl) ?_
        refine lv_iload hx hb dX8_gapAt_19 (lv_at hl 4 rfl) ?_
        refine lv_iload_n hx hb dX8_gapAt_21 rfl (lv_at hl 2 rfl) ?_
        refine vp_callSi (va_Run.run (va_runV (As := [.int p1, .int (nI vb), .int p3]) (rest := [.int p3, .int (nI vb), .ref m0]) ⟨hx, hb, hml, hown, hts⟩ (mX8_far l dC dI cyI cyZ m0 st im kq pw nx li il mv so la co d6 d11 d12 n fs vb w p1 p3 hn3 hn h0f (by omega) hw hb9 hp3) (cwV 3 hts gX8_gapAt_X8_far rfl rfl rfl (by decide +kernel) ⟨Nat.le_of_ble_eq_true rfl, Nat.le_of_ble_eq_true rfl⟩) (bs_RV hB (hP.sub (ws' := [(m0, .inr (6, [.ref st, .ref im, .ref kq, .ref pw, .ref nx, .ref li, .int d6, .ref il, .ref mv, .ref so, .ref la, .int d11, .int d12, .ref co])), (st, .inl (cyI, 72, .inl fs))]) [0, 1] rfl) 0 rfl rfl) rfl rfl hl.1 rfl (lv_room (Nat.le_of_ble_eq_true rfl)) dX8_gapAt_22 ⟨Nat.le_of_ble_eq_true rfl, Nat.le_of_ble_eq_true rfl⟩)) (fun r_4 hr_4 => ?_)
        obtain ⟨v_5, ev_5, lv_5, uv_5, bv_5⟩ := hr_4
        obtain rfl : nI v_5 = r_4 := Eq.symm ev_5
        refine lv_imul hx hb dX8_gapAt_25 ?_
        refine lv_topi (fun x_6 ex_6 => ?_)
        obtain ⟨w_7, lw_7, gw_7, ew_7, tw_7⟩ := mn_wf (a := vb) (v := v_5) hw hp3 (by omega) hn (by omega)
        refine vp_callSi (va_Run.run (va_runV (As := [.int (nI vb), .int x_6]) (rest := []) ⟨hx, hb, hml, hown, hts⟩ (mX8_beside l dC dI cyI cyZ m0 st im kq pw nx li il mv so la co d6 d11 d12 n fs vb w_7 x_6 hn3 hn h0f (by omega) ⟨lw_7, gw_7⟩ (ex_6.trans ew_7)) (cwV 2 hts gX8_gapAt_X8_beside rfl rfl rfl (by decide +kernel) ⟨Nat.le_of_ble_eq_true rfl, Nat.le_of_ble_eq_true rfl⟩) (bs_RV hB (hP.sub (ws' := [(m0, .inr (6, [.ref st, .ref im, .ref kq, .ref pw, .ref nx, .ref li, .int d6, .ref il, .ref mv, .ref so, .ref la, .int d11, .int d12, .ref co])), (st, .inl (cyI, 72, .inl fs))]) [0, 1] rfl) 0 rfl rfl) rfl rfl hl.1 rfl (lv_room (Nat.le_of_ble_eq_true rfl)) dX8_gapAt_26 ⟨Nat.le_of_ble_eq_true rfl, Nat.le_of_ble_eq_true rfl⟩)) (fun r_8 hr_8 => ?_)
        obtain rfl : (nI (mn_tg w n vb v_5)) = r_8 := Eq.symm (hr_8.trans (congrArg nI tw_7))
        refine lv_istore (lv' := [(5, .int (nI (mn_tg w n vb v_5))), (0, .ref m0), (1, .int p1), (3, .int p3), (4, .int p4), (6, .int (nI k))]) hx hb dX8_gapAt_29 hl (by decide) rfl (fun ls hl => ?_)
        refine lv_iinc (v := (nI (k + 1))) (lv' := [(6, .int (nI (k + 1))), (5, .int (nI (mn_tg w n vb v_5))), (0, .ref m0), (1, .int p1), (3, .int p3), (4, .int p4)]) hx hb dX8_gapAt_31 hl (k := 5) rfl (nI_1 _) (by decide) rfl (fun ls hl => ?_)
        refine lv_goto (tgt := 6) hx hb dX8_gapAt_34 (by decide) ?_
        exact ih6 (k + 1) (mn_tg w n vb v_5) (by omega) (by omega) (mn_tg_lt hw hv9 hn (by omega)) bv_5 _ (lv_sub hl [2, 3, 4, 5, 1, 0] rfl)
  exact L6 11 0 va (by omega) (by omega) ha9 hbt _ (lv_sub hl [2, 3, 5, 6, 1, 0] rfl)

set_option maxHeartbeats 4000000 in
set_option maxRecDepth 100000 in
theorem mX8_held (l : Launch) (dC : Nat → ClassId) (dI : Nat → Nat → Nat) (cyI cyZ : ClassId) (m0 : Nat) (st : Nat) (im : Nat) (kq : Nat) (pw : Nat) (nx : Nat) (li : Nat) (il : Nat) (mv : Nat) (so : Nat) (la : Nat) (co : Nat) (d6 : Int32) (d11 : Int32) (d12 : Int32) (n : Nat) (fs : Nat → Int32) (va : Nat) (vb : Nat) (w : Nat) (w2 : Nat) (p1 : Int32) (p3 : Int32) (p5 : Int32) (hn3 : 3 ≤ n) (hn : n ≤ 10) (h0f : fs 0 = nI n) (ha9 : va < n) (hb9 : vb < n) (hw : w = 9 ∨ w = 11) (hw2 : w2 = 9 ∨ w2 = 11) (hbt : nb_bit p1 va) (hbt2 : nb_bit p1 vb) (hp3 : p3 = nI w - 10) (hp5 : p5 = nI w2 - 10) : Met l yX8_held wsX8_held ({ frames := 4, cells := 0, slots := 0, locals := 93 }) (bs_R dC dI cyI cyZ [.ref m0, .int p1, .int (nI va), .int p3, .int (nI vb), .int p5] [(m0, .inr (6, [.ref st, .ref im, .ref kq, .ref pw, .ref nx, .ref li, .int d6, .ref il, .ref mv, .ref so, .ref la, .int d11, .int d12, .ref co])), (st, .inl (cyI, 72, .inl fs))]) (vp_Si (fun r : Int32 => True)) 0 0 (fun _ => False) := by
  refine Met.ofW (cc := cX8_held) (maxL := 9) (ret := (some .int)) (by decide) rfl ?_
  intro p e s m args below meth c s₁ B hml hv
  obtain ⟨rfl, hB, hP⟩ := hv
  have hK := hB.1
  have hN := hB.2
  have hx := B.exec
  have hb := B.bytes
  have hr := B.returns
  have hts := atoms_spec (ws := wsX8_held) B.pre
  have hown : s.vm.findClass RX8 = some m.cls := findClass_of_methodNamed B.named
  have hlocks := B.notSynchronized
  have hP : va_P (dC, dI) vwCl [(m0, .inr (6, [.ref st, .ref im, .ref kq, .ref pw, .ref nx, .ref li, .int d6, .ref il, .ref mv, .ref so, .ref la, .int d11, .int d12, .ref co])), (st, .inl (cyI, 72, .inl fs))] s.heap := hP
  have hl := lv_entry ([.ref m0, .int p1, .int (nI va), .int p3, .int (nI vb), .int p5]) (n := 9) (Nat.le_of_ble_eq_true rfl)
  rw [lg_entry_eq]
  generalize (lg_sl ([.ref m0, .int p1, .int (nI va), .int p3, .int (nI vb), .int p5]) ++ List.replicate (9 - (lg_sl ([.ref m0, .int p1, .int (nI va), .int p3, .int (nI vb), .int p5])).length) Slot.unset).toArray = ls at hl ⊢
  have hl : lv_has ls 9 [(0, .ref m0), (1, .int p1), (2, .int (nI va)), (3, .int p3), (4, .int (nI vb)), (5, .int p5)] := hl
  refine lv_iload_n hx hb dX8_held_0 rfl (lv_at hl 1 rfl) ?_
  refine vp_callSi (va_Run.run (va_runS (As := [.int p1]) (rest := []) ⟨hx, hb, hml, hown, hts⟩ (mX8_size l dC dI cyI cyZ p1 ) (va_cwS 1 hts gX8_held_X8_size rfl rfl rfl (by decide +kernel) ⟨Nat.le_of_ble_eq_true rfl, Nat.le_of_ble_eq_true rfl⟩) (bs_RS hB (hP.sub (ws' := []) [] rfl)) rfl rfl hl.1 rfl (lv_room (Nat.le_of_ble_eq_true rfl)) dX8_held_1 ⟨Nat.le_of_ble_eq_true rfl, Nat.le_of_ble_eq_true rfl⟩)) (fun r_1 hr_1 => ?_)
  obtain ⟨v_2, lv_2, ev_2⟩ := hr_1
  obtain rfl : nI v_2 = r_1 := Eq.symm ev_2
  obtain ⟨sz9, hsz9⟩ : ∃ y : Nat, y = v_2 := ⟨_, rfl⟩
  subst hsz9
  refine lv_istore (lv' := [(6, .int (nI sz9)), (0, .ref m0), (1, .int p1), (2, .int (nI va)), (3, .int p3), (4, .int (nI vb)), (5, .int p5)]) hx hb dX8_held_4 hl (by decide) rfl (fun ls hl => ?_)
  refine lv_iconst (v := 0) hx hb dX8_held_6 (by decide) ?_
  refine lv_istore (lv' := [(7, .int 0), (6, .int (nI sz9)), (0, .ref m0), (1, .int p1), (2, .int (nI va)), (3, .int p3), (4, .int (nI vb)), (5, .int p5)]) hx hb dX8_held_7 hl (by decide) rfl (fun ls hl => ?_)
  have L9 : ∀ (n9 : Nat), ∀ (k : Nat), (k ≤ sz9) → (sz9 + 1 ≤ k + n9) → ∀ (ls : Array Slot), lv_has ls 9 [(0, .ref m0), (1, .int p1), (2, .int (nI va)), (3, .int p3), (4, .int (nI vb)), (5, .int p5), (6, .int (nI sz9)), (7, .int (nI k))] → W p l e (headSpec wsX8_held ({ frames := 4, cells := 0, slots := 0, locals := 93 })).room s m ([.ref m0, .int p1, .int (nI va), .int p3, .int (nI vb), .int p5] : List Value).toArray below meth c s.heap [] 0 0 (MQ below (vp_Si (fun r : Int32 => True)) ([.ref m0, .int p1, .int (nI va), .int p3, .int (nI vb), .int p5] : List Value).toArray s 0 0 (fun _ => False)) (F0 m 9 ls []) := by
    intro n9
    induction n9 with
    | zero =>
      intro k hk9 hn9 ls hl
      exfalso
      omega
    | succ n9 ih9 =>
      intro k hk9 hn9 ls hl
      refine lv_iload hx hb dX8_held_9 (lv_at hl 7 rfl) ?_
      refine lv_iload hx hb dX8_held_11 (lv_at hl 6 rfl) ?_
      refine lv_icmp_ge (tgt := 53) hx hb dX8_held_13 (by decide) (fun c_3 => ?_) (fun c_3 => ?_)
      · skip
        have ic_3 := ci_le (nI_toInt (n := sz9) (by omega)) (nI_toInt (n := k) (by omega)) c_3
        refine lv_iconst (v := 0) hx hb dX8_held_53 (by decide) ?_
        exact W.iret (v := 0) hx hb hr (fun t ht hW => ⟨0, rfl, trivial, ht⟩) (fun q h => by cases h) dX8_held_54
      · skip
        have ic_3 := ci_nle (nI_toInt (n := sz9) (by omega)) (nI_toInt (n := k) (by omega)) c_3
        refine lv_aload_n hx hb dX8_held_16 rfl (lv_at hl 0 rfl) ?_
        refine lv_iload_n hx hb dX8_held_17 rfl (lv_at hl 1 rfl) ?_
        refine lv_iload_n hx hb dX8_held_18 rfl (lv_at hl 2 rfl) ?_
        refine lv_iload_n hx hb dX8_held_19 rfl (lv_at hl 3 rfl) ?_
        refine lv_iload hx hb dX8_held_20 (lv_at hl 7 rfl) ?_
        refine vp_callSi (va_Run.run (va_runV (As := [.int p1, .int (nI va), .int p3, .int (nI k)]) (rest := []) ⟨hx, hb, hml, hown, hts⟩ (mX8_gapAt l dC dI cyI cyZ m0 st im kq pw nx li il mv so la co d6 d11 d12 n fs va w p1 p3 (nI k) hn3 hn h0f (by omega) hw hbt hp3 (by rw [nI_toInt (by omega)]; omega)) (cwV 4 hts gX8_held_X8_gapAt rfl rfl rfl (by decide +kernel) ⟨Nat.le_of_ble_eq_true rfl, Nat.le_of_ble_eq_true rfl⟩) (bs_RV hB (hP.sub (ws' := [(m0, .inr (6, [.ref st, .ref im, .ref kq, .ref pw, .ref nx, .ref li, .int d6, .ref il, .ref mv, .ref so, .ref la, .int d11, .int d12, .ref co])), (st, .inl (cyI, 72, .inl fs))]) [0, 1] rfl) 0 rfl rfl) rfl rfl hl.1 rfl (lv_room (Nat.le_of_ble_eq_true rfl)) dX8_held_22 ⟨Nat.le_of_ble_eq_true rfl, Nat.le_of_ble_eq_true rfl⟩)) (fun r_4 hr_4 => ?_)
        refine lv_aload_n hx hb dX8_held_25 rfl (lv_at hl 0 rfl) ?_
        refine lv_iload_n hx hb dX8_held_26 rfl (lv_at hl 1 rfl) ?_
        refine lv_iload hx hb dX8_held_27 (lv_at hl 4 rfl) ?_
        refine lv_iload hx hb dX8_held_29 (lv_at hl 5 rfl) ?_
        refine lv_iload hx hb dX8_held_31 (lv_at hl 7 rfl) ?_
        refine vp_callSi (va_Run.run (va_runV (As := [.int p1, .int (nI vb), .int p5, .int (nI k)]) (rest := [.int r_4]) ⟨hx, hb, hml, hown, hts⟩ (mX8_gapAt l dC dI cyI cyZ m0 st im kq pw nx li il mv so la co d6 d11 d12 n fs vb w2 p1 p5 (nI k) hn3 hn h0f (by omega) hw2 hbt2 hp5 (by rw [nI_toInt (by omega)]; omega)) (cwV 4 hts gX8_held_X8_gapAt rfl rfl rfl (by decide +kernel) ⟨Nat.le_of_ble_eq_true rfl, Nat.le_of_ble_eq_true rfl⟩) (bs_RV hB (hP.sub (ws' := [(m0, .inr (6, [.ref st, .ref im, .ref kq, .ref pw, .ref nx, .ref li, .int d6, .ref il, .ref mv, .ref so, .ref la, .int d11, .int d12, .ref co])), (st, .inl (cyI, 72, .inl fs))]) [0, 1] rfl) 0 rfl rfl) rfl rfl hl.1 rfl (lv_room (Nat.le_of_ble_eq_true rfl)) dX8_held_33 ⟨Nat.le_of_ble_eq_true rfl, Nat.le_of_ble_eq_true rfl⟩)) (fun r_5 hr_5 => ?_)
        refine lv_isub hx hb dX8_held_36 ?_
        refine lv_topi (fun x_6 ex_6 => ?_)
        refine lv_istore (lv' := [(8, .int x_6), (0, .ref m0), (1, .int p1), (2, .int (nI va)), (3, .int p3), (4, .int (nI vb)), (5, .int p5), (6, .int (nI sz9)), (7, .int (nI k))]) hx hb dX8_held_37 hl (by decide) rfl (fun ls hl => ?_)
        refine lv_iload hx hb dX8_held_39 (lv_at hl 0 rfl) ?_
        refine lv_if_eq (tgt := 47) hx hb dX8_held_41 (by decide) (fun c_7 => ?_) (fun c_7 => ?_)
        · skip
          have ic_7 := ci_eq (rfl : Int32.toInt x_6 = _) (show Int32.toInt 0 = 0 by decide) c_7
          refine lv_iinc (v := (nI (k + 1))) (lv' := [(7, .int (nI (k + 1))), (8, .int x_6), (0, .ref m0), (1, .int p1), (2, .int (nI va)), (3, .int p3), (4, .int (nI vb)), (5, .int p5), (6, .int (nI sz9))]) hx hb dX8_held_47 hl (k := 8) rfl (nI_1 _) (by decide) rfl (fun ls hl => ?_)
          refine lv_goto (tgt := 9) hx hb dX8_held_50 (by decide) ?_
          exact ih9 (k + 1) (by omega) (by omega) _ (lv_sub hl [2, 3, 4, 5, 6, 7, 8, 0] rfl)
        · skip
          have ic_7 := ci_ne (rfl : Int32.toInt x_6 = _) (show Int32.toInt 0 = 0 by decide) c_7
          refine lv_iload hx hb dX8_held_44 (lv_at hl 0 rfl) ?_
          exact W.iret (v := x_6) hx hb hr (fun t ht hW => ⟨x_6, rfl, trivial, ht⟩) (fun q h => by cases h) dX8_held_46
  exact L9 (sz9 + 1) 0 (by omega) (by omega) _ (lv_sub hl [2, 3, 4, 5, 6, 7, 1, 0] rfl)

set_option maxHeartbeats 4000000 in
set_option maxRecDepth 100000 in
theorem mX8_viewWay (l : Launch) (dC : Nat → ClassId) (dI : Nat → Nat → Nat) (cyI cyZ : ClassId) (m0 : Nat) (st : Nat) (im : Nat) (kq : Nat) (pw : Nat) (nx : Nat) (li : Nat) (il : Nat) (mv : Nat) (so : Nat) (la : Nat) (co : Nat) (d6 : Int32) (d11 : Int32) (d12 : Int32) (n : Nat) (fs : Nat → Int32) (va : Nat) (p1 : Int32) (hn3 : 3 ≤ n) (hn : n ≤ 10) (h0f : fs 0 = nI n) (ha9 : va < n) (hbt : nb_bit p1 va) : Met l yX8_viewWay wsX8_viewWay ({ frames := 5, cells := 0, slots := 0, locals := 121 }) (bs_R dC dI cyI cyZ [.ref m0, .int p1, .int (nI va)] [(m0, .inr (6, [.ref st, .ref im, .ref kq, .ref pw, .ref nx, .ref li, .int d6, .ref il, .ref mv, .ref so, .ref la, .int d11, .int d12, .ref co])), (st, .inl (cyI, 72, .inl fs))]) (vp_Si (fun r : Int32 => r = 1 ∨ r = -1)) 0 0 (fun _ => False) := by
  refine Met.ofW (cc := cX8_viewWay) (maxL := 3) (ret := (some .int)) (by decide) rfl ?_
  intro p e s m args below meth c s₁ B hml hv
  obtain ⟨rfl, hB, hP⟩ := hv
  have hK := hB.1
  have hN := hB.2
  have hx := B.exec
  have hb := B.bytes
  have hr := B.returns
  have hts := atoms_spec (ws := wsX8_viewWay) B.pre
  have hown : s.vm.findClass RX8 = some m.cls := findClass_of_methodNamed B.named
  have hlocks := B.notSynchronized
  have hP : va_P (dC, dI) vwCl [(m0, .inr (6, [.ref st, .ref im, .ref kq, .ref pw, .ref nx, .ref li, .int d6, .ref il, .ref mv, .ref so, .ref la, .int d11, .int d12, .ref co])), (st, .inl (cyI, 72, .inl fs))] s.heap := hP
  have hl := lv_entry ([.ref m0, .int p1, .int (nI va)]) (n := 3) (Nat.le_of_ble_eq_true rfl)
  rw [lg_entry_eq]
  generalize (lg_sl ([.ref m0, .int p1, .int (nI va)]) ++ List.replicate (3 - (lg_sl ([.ref m0, .int p1, .int (nI va)])).length) Slot.unset).toArray = ls at hl ⊢
  have hl : lv_has ls 3 [(0, .ref m0), (1, .int p1), (2, .int (nI va))] := hl
  refine lv_aload_n hx hb dX8_viewWay_0 rfl (lv_at hl 0 rfl) ?_
  refine lv_iload_n hx hb dX8_viewWay_1 rfl (lv_at hl 1 rfl) ?_
  refine lv_iload_n hx hb dX8_viewWay_2 rfl (lv_at hl 2 rfl) ?_
  refine lv_iconst (v := 1) hx hb dX8_viewWay_3 (by decide) ?_
  refine lv_iload_n hx hb dX8_viewWay_4 rfl (lv_at hl 2 rfl) ?_
  refine lv_iconst (v := (-1)) hx hb dX8_viewWay_5 (by decide) ?_
  refine vp_callSi (va_Run.run (va_runV (As := [.int p1, .int (nI va), .int 1, .int (nI va), .int (-1)]) (rest := []) ⟨hx, hb, hml, hown, hts⟩ (mX8_held l dC dI cyI cyZ m0 st im kq pw nx li il mv so la co d6 d11 d12 n fs va va 11 9 p1 1 (-1) hn3 hn h0f (by omega) (by omega) (Or.inr rfl) (Or.inl rfl) hbt hbt (by decide) (by decide)) (cwV 5 hts gX8_viewWay_X8_held rfl rfl rfl (by decide +kernel) ⟨Nat.le_of_ble_eq_true rfl, Nat.le_of_ble_eq_true rfl⟩) (bs_RV hB (hP.sub (ws' := [(m0, .inr (6, [.ref st, .ref im, .ref kq, .ref pw, .ref nx, .ref li, .int d6, .ref il, .ref mv, .ref so, .ref la, .int d11, .int d12, .ref co])), (st, .inl (cyI, 72, .inl fs))]) [0, 1] rfl) 0 rfl rfl) rfl rfl hl.1 rfl (lv_room (Nat.le_of_ble_eq_true rfl)) dX8_viewWay_6 ⟨Nat.le_of_ble_eq_true rfl, Nat.le_of_ble_eq_true rfl⟩)) (fun r_1 hr_1 => ?_)
  refine lv_if_gt (tgt := 16) hx hb dX8_viewWay_9 (by decide) (fun c_2 => ?_) (fun c_2 => ?_)
  · skip
    have ic_2 := ci_lt (show Int32.toInt 0 = 0 by decide) (rfl : Int32.toInt r_1 = _) c_2
    refine lv_iconst (v := (-1)) hx hb dX8_viewWay_16 (by decide) ?_
    exact W.iret (v := (-1)) hx hb hr (fun t ht hW => ⟨(-1), rfl, Or.inr rfl, ht⟩) (fun q h => by cases h) dX8_viewWay_17
  · skip
    have ic_2 := ci_nlt (show Int32.toInt 0 = 0 by decide) (rfl : Int32.toInt r_1 = _) c_2
    refine lv_iconst (v := 1) hx hb dX8_viewWay_12 (by decide) ?_
    refine lv_goto (tgt := 17) hx hb dX8_viewWay_13 (by decide) ?_
    exact W.iret (v := 1) hx hb hr (fun t ht hW => ⟨1, rfl, Or.inl rfl, ht⟩) (fun q h => by cases h) dX8_viewWay_17

set_option maxHeartbeats 4000000 in
set_option maxRecDepth 100000 in
theorem mX8_isTurned (l : Launch) (dC : Nat → ClassId) (dI : Nat → Nat → Nat) (cyI cyZ : ClassId) (m0 : Nat) (st : Nat) (im : Nat) (kq : Nat) (pw : Nat) (nx : Nat) (li : Nat) (il : Nat) (mv : Nat) (so : Nat) (la : Nat) (co : Nat) (d6 : Int32) (d11 : Int32) (d12 : Int32) (n : Nat) (fs : Nat → Int32) (p1 : Int32) (hn3 : 3 ≤ n) (hn : n ≤ 10) (h0f : fs 0 = nI n) : Met l yX8_isTurned wsX8_isTurned ({ frames := 5, cells := 0, slots := 0, locals := 121 }) (bs_R dC dI cyI cyZ [.ref m0, .int p1] [(m0, .inr (6, [.ref st, .ref im, .ref kq, .ref pw, .ref nx, .ref li, .int d6, .ref il, .ref mv, .ref so, .ref la, .int d11, .int d12, .ref co])), (st, .inl (cyI, 72, .inl fs))]) (vp_Si (fun r : Int32 => r = 0 ∨ r = 1)) 0 0 (fun _ => False) := by
  refine Met.ofW (cc := cX8_isTurned) (maxL := 5) (ret := (some .boolean)) (by decide) rfl ?_
  intro p e s m args below meth c s₁ B hml hv
  obtain ⟨rfl, hB, hP⟩ := hv
  have hK := hB.1
  have hN := hB.2
  have hx := B.exec
  have hb := B.bytes
  have hr := B.returns
  have hts := atoms_spec (ws := wsX8_isTurned) B.pre
  have hown : s.vm.findClass RX8 = some m.cls := findClass_of_methodNamed B.named
  have hlocks := B.notSynchronized
  have hP : va_P (dC, dI) vwCl [(m0, .inr (6, [.ref st, .ref im, .ref kq, .ref pw, .ref nx, .ref li, .int d6, .ref il, .ref mv, .ref so, .ref la, .int d11, .int d12, .ref co])), (st, .inl (cyI, 72, .inl fs))] s.heap := hP
  have hl := lv_entry ([.ref m0, .int p1]) (n := 5) (Nat.le_of_ble_eq_true rfl)
  rw [lg_entry_eq]
  generalize (lg_sl ([.ref m0, .int p1]) ++ List.replicate (5 - (lg_sl ([.ref m0, .int p1])).length) Slot.unset).toArray = ls at hl ⊢
  have hl : lv_has ls 5 [(0, .ref m0), (1, .int p1)] := hl
  refine lv_iconst (v := 0) hx hb dX8_isTurned_0 (by decide) ?_
  refine lv_istore_n (lv' := [(2, .int 0), (0, .ref m0), (1, .int p1)]) hx hb dX8_isTurned_1 rfl hl (by decide) rfl (fun ls hl => ?_)
  refine lv_iconst (v := 0) hx hb dX8_isTurned_2 (by decide) ?_
  refine lv_istore_n (lv' := [(3, .int 0), (2, .int 0), (0, .ref m0), (1, .int p1)]) hx hb dX8_isTurned_3 rfl hl (by decide) rfl (fun ls hl => ?_)
  have L4 : ∀ (n4 : Nat), ∀ (k : Nat) (ya : Int32), (0 ≤ k ∧ k ≤ n) → (n + 1 ≤ k + n4) → (ya = 0 ∨ ya = 1) → ∀ (ls : Array Slot), lv_has ls 5 [(0, .ref m0), (1, .int p1), (2, .int ya), (3, .int (nI k))] → W p l e (headSpec wsX8_isTurned ({ frames := 5, cells := 0, slots := 0, locals := 121 })).room s m ([.ref m0, .int p1] : List Value).toArray below meth c s.heap [] 0 0 (MQ below (vp_Si (fun r : Int32 => r = 0 ∨ r = 1)) ([.ref m0, .int p1] : List Value).toArray s 0 0 (fun _ => False)) (F0 m 4 ls []) := by
    intro n4
    induction n4 with
    | zero =>
      intro k ya hk4 hn4 hya ls hl
      exfalso
      omega
    | succ n4 ih4 =>
      intro k ya hk4 hn4 hya ls hl
      refine lv_iload_n hx hb dX8_isTurned_4 rfl (lv_at hl 3 rfl) ?_
      refine lv_aload_n hx hb dX8_isTurned_5 rfl (lv_at hl 0 rfl) ?_
      refine vp_callSi (va_Run.run (va_runV (As := []) (rest := [.int (nI k)]) ⟨hx, hb, hml, hown, hts⟩ (mX8_cells l dC dI cyI cyZ m0 st im kq pw nx li il mv so la co d6 d11 d12 n fs hn3 hn h0f) (cwV 0 hts gX8_isTurned_X8_cells rfl rfl rfl (by decide +kernel) ⟨Nat.le_of_ble_eq_true rfl, Nat.le_of_ble_eq_true rfl⟩) (bs_RV hB (hP.sub (ws' := [(m0, .inr (6, [.ref st, .ref im, .ref kq, .ref pw, .ref nx, .ref li, .int d6, .ref il, .ref mv, .ref so, .ref la, .int d11, .int d12, .ref co])), (st, .inl (cyI, 72, .inl fs))]) [0, 1] rfl) 0 rfl rfl) rfl rfl hl.1 rfl (lv_room (Nat.le_of_ble_eq_true rfl)) dX8_isTurned_6 ⟨Nat.le_of_ble_eq_true rfl, Nat.le_of_ble_eq_true rfl⟩)) (fun r_1 hr_1 => ?_)
      obtain rfl : (nI n) = r_1 := Eq.symm hr_1
      refine lv_icmp_ge (tgt := 73) hx hb dX8_isTurned_9 (by decide) (fun c_2 => ?_) (fun c_2 => ?_)
      · skip
        have ic_2 := ci_le (nI_toInt (n := n) (by omega)) (nI_toInt (n := k) (by omega)) c_2
        refine lv_iload_n hx hb dX8_isTurned_73 rfl (lv_at hl 2 rfl) ?_
        exact W.zret (v := ya) hx hb hr (show narrow .boolean (.int ya) = .int ya from nb_nar hya) (fun t ht hW => ⟨ya, rfl, hya, ht⟩) (fun q h => by cases h) dX8_isTurned_74
      · skip
        have ic_2 := ci_nle (nI_toInt (n := n) (by omega)) (nI_toInt (n := k) (by omega)) c_2
        refine lv_iconst (v := 0) hx hb dX8_isTurned_12 (by decide) ?_
        refine lv_istore (lv' := [(4, .int 0), (0, .ref m0), (1, .int p1), (2, .int ya), (3, .int (nI k))]) hx hb dX8_isTurned_13 hl (by decide) rfl (fun ls hl => ?_)
        have L15 : ∀ (n15 : Nat), ∀ (j : Nat) (ya : Int32), (0 ≤ j ∧ j ≤ k) → (k + 1 ≤ j + n15) → (ya = 0 ∨ ya = 1) → ∀ (ls : Array Slot), lv_has ls 5 [(0, .ref m0), (1, .int p1), (2, .int ya), (3, .int (nI k)), (4, .int (nI j))] → W p l e (headSpec wsX8_isTurned ({ frames := 5, cells := 0, slots := 0, locals := 121 })).room s m ([.ref m0, .int p1] : List Value).toArray below meth c s.heap [] 0 0 (MQ below (vp_Si (fun r : Int32 => r = 0 ∨ r = 1)) ([.ref m0, .int p1] : List Value).toArray s 0 0 (fun _ => False)) (F0 m 15 ls []) := by
          intro n15
          induction n15 with
          | zero =>
            intro j ya hk15 hn15 hya ls hl
            exfalso
            omega
          | succ n15 ih15 =>
            intro j ya hk15 hn15 hya ls hl
            refine lv_iload hx hb dX8_isTurned_15 (lv_at hl 4 rfl) ?_
            refine lv_iload_n hx hb dX8_isTurned_17 rfl (lv_at hl 3 rfl) ?_
            refine lv_icmp_ge (tgt := 67) hx hb dX8_isTurned_18 (by decide) (fun c_3 => ?_) (fun c_3 => ?_)
            · skip
              have ic_3 := ci_le (nI_toInt (n := k) (by omega)) (nI_toInt (n := j) (by omega)) c_3
              refine lv_iinc (v := (nI (k + 1))) (lv' := [(3, .int (nI (k + 1))), (0, .ref m0), (1, .int p1), (2, .int ya), (4, .int (nI j))]) hx hb dX8_isTurned_67 hl (k := 3) rfl (nI_1 _) (by decide) rfl (fun ls hl => ?_)
              refine lv_goto (tgt := 4) hx hb dX8_isTurned_70 (by decide) ?_
              exact ih4 (k + 1) ya ⟨by omega, by omega⟩ (by omega) hya _ (lv_sub hl [1, 2, 3, 0] rfl)
            · skip
              have ic_3 := ci_nle (nI_toInt (n := k) (by omega)) (nI_toInt (n := j) (by omega)) c_3
              refine lv_iload_n hx hb dX8_isTurned_21 rfl (lv_at hl 2 rfl) ?_
              refine lv_if_ne (tgt := 55) hx hb dX8_isTurned_22 (by decide) (fun c_4 => ?_) (fun c_4 => ?_)
              · skip
                have ic_4 := ci_ne (rfl : Int32.toInt ya = _) (show Int32.toInt 0 = 0 by decide) c_4
                refine lv_iconst (v := 1) hx hb dX8_isTurned_55 (by decide) ?_
                refine lv_goto (tgt := 60) hx hb dX8_isTurned_56 (by decide) ?_
                refine lv_istore_n (lv' := [(2, .int 1), (0, .ref m0), (1, .int p1), (3, .int (nI k)), (4, .int (nI j))]) hx hb dX8_isTurned_60 rfl hl (by decide) rfl (fun ls hl => ?_)
                refine lv_iinc (v := (nI (j + 1))) (lv' := [(4, .int (nI (j + 1))), (2, .int 1), (0, .ref m0), (1, .int p1), (3, .int (nI k))]) hx hb dX8_isTurned_61 hl (k := 4) rfl (nI_1 _) (by decide) rfl (fun ls hl => ?_)
                refine lv_goto (tgt := 15) hx hb dX8_isTurned_64 (by decide) ?_
                exact ih15 (j + 1) 1 ⟨by omega, by omega⟩ (by omega) (Or.inr rfl) _ (lv_sub hl [2, 3, 1, 4, 0] rfl)
              · skip
                have ic_4 := ci_eq (rfl : Int32.toInt ya = _) (show Int32.toInt 0 = 0 by decide) c_4
                refine lv_iload_n hx hb dX8_isTurned_25 rfl (lv_at hl 1 rfl) ?_
                refine lv_iload_n hx hb dX8_isTurned_26 rfl (lv_at hl 3 rfl) ?_
                refine vp_callSi (va_Run.run (va_runS (As := [.int p1, .int (nI k)]) (rest := []) ⟨hx, hb, hml, hown, hts⟩ (mX8_has l dC dI cyI cyZ p1 (nI k) ) (va_cwS 2 hts gX8_isTurned_X8_has rfl rfl rfl (by decide +kernel) ⟨Nat.le_of_ble_eq_true rfl, Nat.le_of_ble_eq_true rfl⟩) (bs_RS hB (hP.sub (ws' := []) [] rfl)) rfl rfl hl.1 rfl (lv_room (Nat.le_of_ble_eq_true rfl)) dX8_isTurned_27 ⟨Nat.le_of_ble_eq_true rfl, Nat.le_of_ble_eq_true rfl⟩)) (fun r_5 hr_5 => ?_)
                refine lv_if_eq (tgt := 59) hx hb dX8_isTurned_30 (by decide) (fun c_6 => ?_) (fun c_6 => ?_)
                · skip
                  have ic_6 := ci_eq (rfl : Int32.toInt r_5 = _) (show Int32.toInt 0 = 0 by decide) c_6
                  refine lv_iconst (v := 0) hx hb dX8_isTurned_59 (by decide) ?_
                  refine lv_istore_n (lv' := [(2, .int 0), (0, .ref m0), (1, .int p1), (3, .int (nI k)), (4, .int (nI j))]) hx hb dX8_isTurned_60 rfl hl (by decide) rfl (fun ls hl => ?_)
                  refine lv_iinc (v := (nI (j + 1))) (lv' := [(4, .int (nI (j + 1))), (2, .int 0), (0, .ref m0), (1, .int p1), (3, .int (nI k))]) hx hb dX8_isTurned_61 hl (k := 4) rfl (nI_1 _) (by decide) rfl (fun ls hl => ?_)
                  refine lv_goto (tgt := 15) hx hb dX8_isTurned_64 (by decide) ?_
                  exact ih15 (j + 1) 0 ⟨by omega, by omega⟩ (by omega) (Or.inl rfl) _ (lv_sub hl [2, 3, 1, 4, 0] rfl)
                · skip
                  have ic_6 := ci_ne (rfl : Int32.toInt r_5 = _) (show Int32.toInt 0 = 0 by decide) c_6
                  have hb30 : nb_bit p1 k := hr_5.2 (hr_5.1.resolve_left c_6)
                  refine lv_iload_n hx hb dX8_isTurned_33 rfl (lv_at hl 1 rfl) ?_
                  refine lv_iload hx hb dX8_isTurned_34 (lv_at hl 4 rfl) ?_
                  refine vp_callSi (va_Run.run (va_runS (As := [.int p1, .int (nI j)]) (rest := []) ⟨hx, hb, hml, hown, hts⟩ (mX8_has l dC dI cyI cyZ p1 (nI j) ) (va_cwS 2 hts gX8_isTurned_X8_has rfl rfl rfl (by decide +kernel) ⟨Nat.le_of_ble_eq_true rfl, Nat.le_of_ble_eq_true rfl⟩) (bs_RS hB (hP.sub (ws' := []) [] rfl)) rfl rfl hl.1 rfl (lv_room (Nat.le_of_ble_eq_true rfl)) dX8_isTurned_36 ⟨Nat.le_of_ble_eq_true rfl, Nat.le_of_ble_eq_true rfl⟩)) (fun r_7 hr_7 => ?_)
                  refine lv_if_eq (tgt := 59) hx hb dX8_isTurned_39 (by decide) (fun c_8 => ?_) (fun c_8 => ?_)
                  · skip
                    have ic_8 := ci_eq (rfl : Int32.toInt r_7 = _) (show Int32.toInt 0 = 0 by decide) c_8
                    refine lv_iconst (v := 0) hx hb dX8_isTurned_59 (by decide) ?_
                    refine lv_istore_n (lv' := [(2, .int 0), (0, .ref m0), (1, .int p1), (3, .int (nI k)), (4, .int (nI j))]) hx hb dX8_isTurned_60 rfl hl (by decide) rfl (fun ls hl => ?_)
                    refine lv_iinc (v := (nI (j + 1))) (lv' := [(4, .int (nI (j + 1))), (2, .int 0), (0, .ref m0), (1, .int p1), (3, .int (nI k))]) hx hb dX8_isTurned_61 hl (k := 4) rfl (nI_1 _) (by decide) rfl (fun ls hl => ?_)
                    refine lv_goto (tgt := 15) hx hb dX8_isTurned_64 (by decide) ?_
                    exact ih15 (j + 1) 0 ⟨by omega, by omega⟩ (by omega) (Or.inl rfl) _ (lv_sub hl [2, 3, 1, 4, 0] rfl)
                  · skip
                    have ic_8 := ci_ne (rfl : Int32.toInt r_7 = _) (show Int32.toInt 0 = 0 by decide) c_8
                    have hb39 : nb_bit p1 j := hr_7.2 (hr_7.1.resolve_left c_8)
                    refine lv_aload_n hx hb dX8_isTurned_42 rfl (lv_at hl 0 rfl) ?_
                    refine lv_iload_n hx hb dX8_isTurned_43 rfl (lv_at hl 1 rfl) ?_
                    refine lv_iload_n hx hb dX8_isTurned_44 rfl (lv_at hl 3 rfl) ?_
                    refine lv_iconst (v := 1) hx hb dX8_isTurned_45 (by decide) ?_
                    refine lv_iload hx hb dX8_isTurned_46 (lv_at hl 4 rfl) ?_
                    refine lv_iconst (v := 1) hx hb dX8_isTurned_48 (by decide) ?_
                    refine vp_callSi (va_Run.run (va_runV (As := [.int p1, .int (nI k), .int 1, .int (nI j), .int 1]) (rest := []) ⟨hx, hb, hml, hown, hts⟩ (mX8_held l dC dI cyI cyZ m0 st im kq pw nx li il mv so la co d6 d11 d12 n fs k j 11 11 p1 1 1 hn3 hn h0f (by omega) (by omega) (Or.inr rfl) (Or.inr rfl) hb30 hb39 (by decide) (by decide)) (cwV 5 hts gX8_isTurned_X8_held rfl rfl rfl (by decide +kernel) ⟨Nat.le_of_ble_eq_true rfl, Nat.le_of_ble_eq_true rfl⟩) (bs_RV hB (hP.sub (ws' := [(m0, .inr (6, [.ref st, .ref im, .ref kq, .ref pw, .ref nx, .ref li, .int d6, .ref il, .ref mv, .ref so, .ref la, .int d11, .int d12, .ref co])), (st, .inl (cyI, 72, .inl fs))]) [0, 1] rfl) 0 rfl rfl) rfl rfl hl.1 rfl (lv_room (Nat.le_of_ble_eq_true rfl)) dX8_isTurned_49 ⟨Nat.le_of_ble_eq_true rfl, Nat.le_of_ble_eq_true rfl⟩)) (fun r_9 hr_9 => ?_)
                    refine lv_if_ne (tgt := 59) hx hb dX8_isTurned_52 (by decide) (fun c_10 => ?_) (fun c_10 => ?_)
                    · skip
                      have ic_10 := ci_ne (rfl : Int32.toInt r_9 = _) (show Int32.toInt 0 = 0 by decide) c_10
                      refine lv_iconst (v := 0) hx hb dX8_isTurned_59 (by decide) ?_
                      refine lv_istore_n (lv' := [(2, .int 0), (0, .ref m0), (1, .int p1), (3, .int (nI k)), (4, .int (nI j))]) hx hb dX8_isTurned_60 rfl hl (by decide) rfl (fun ls hl => ?_)
                      refine lv_iinc (v := (nI (j + 1))) (lv' := [(4, .int (nI (j + 1))), (2, .int 0), (0, .ref m0), (1, .int p1), (3, .int (nI k))]) hx hb dX8_isTurned_61 hl (k := 4) rfl (nI_1 _) (by decide) rfl (fun ls hl => ?_)
                      refine lv_goto (tgt := 15) hx hb dX8_isTurned_64 (by decide) ?_
                      exact ih15 (j + 1) 0 ⟨by omega, by omega⟩ (by omega) (Or.inl rfl) _ (lv_sub hl [2, 3, 1, 4, 0] rfl)
                    · skip
                      have ic_10 := ci_eq (rfl : Int32.toInt r_9 = _) (show Int32.toInt 0 = 0 by decide) c_10
                      refine lv_iconst (v := 1) hx hb dX8_isTurned_55 (by decide) ?_
                      refine lv_goto (tgt := 60) hx hb dX8_isTurned_56 (by decide) ?_
                      refine lv_istore_n (lv' := [(2, .int 1), (0, .ref m0), (1, .int p1), (3, .int (nI k)), (4, .int (nI j))]) hx hb dX8_isTurned_60 rfl hl (by decide) rfl (fun ls hl => ?_)
                      refine lv_iinc (v := (nI (j + 1))) (lv' := [(4, .int (nI (j + 1))), (2, .int 1), (0, .ref m0), (1, .int p1), (3, .int (nI k))]) hx hb dX8_isTurned_61 hl (k := 4) rfl (nI_1 _) (by decide) rfl (fun ls hl => ?_)
                      refine lv_goto (tgt := 15) hx hb dX8_isTurned_64 (by decide) ?_
                      exact ih15 (j + 1) 1 ⟨by omega, by omega⟩ (by omega) (Or.inr rfl) _ (lv_sub hl [2, 3, 1, 4, 0] rfl)
        exact L15 (k + 1) 0 ya ⟨by omega, by omega⟩ (by omega) hya _ (lv_sub hl [1, 2, 3, 4, 0] rfl)
  exact L4 (n + 1) 0 0 ⟨by omega, by omega⟩ (by omega) (Or.inl rfl) _ (lv_sub hl [2, 3, 1, 0] rfl)

set_option maxHeartbeats 4000000 in
set_option maxRecDepth 100000 in
theorem mX8_isMirrored (l : Launch) (dC : Nat → ClassId) (dI : Nat → Nat → Nat) (cyI cyZ : ClassId) (m0 : Nat) (st : Nat) (im : Nat) (kq : Nat) (pw : Nat) (nx : Nat) (li : Nat) (il : Nat) (mv : Nat) (so : Nat) (la : Nat) (co : Nat) (d6 : Int32) (d11 : Int32) (d12 : Int32) (n : Nat) (fs : Nat → Int32) (p1 : Int32) (hn3 : 3 ≤ n) (hn : n ≤ 10) (h0f : fs 0 = nI n) : Met l yX8_isMirrored wsX8_isMirrored ({ frames := 5, cells := 0, slots := 0, locals := 121 }) (bs_R dC dI cyI cyZ [.ref m0, .int p1] [(m0, .inr (6, [.ref st, .ref im, .ref kq, .ref pw, .ref nx, .ref li, .int d6, .ref il, .ref mv, .ref so, .ref la, .int d11, .int d12, .ref co])), (st, .inl (cyI, 72, .inl fs))]) (vp_Si (fun r : Int32 => r = 0 ∨ r = 1)) 0 0 (fun _ => False) := by
  refine Met.ofW (cc := cX8_isMirrored) (maxL := 5) (ret := (some .boolean)) (by decide) rfl ?_
  intro p e s m args below meth c s₁ B hml hv
  obtain ⟨rfl, hB, hP⟩ := hv
  have hK := hB.1
  have hN := hB.2
  have hx := B.exec
  have hb := B.bytes
  have hr := B.returns
  have hts := atoms_spec (ws := wsX8_isMirrored) B.pre
  have hown : s.vm.findClass RX8 = some m.cls := findClass_of_methodNamed B.named
  have hlocks := B.notSynchronized
  have hP : va_P (dC, dI) vwCl [(m0, .inr (6, [.ref st, .ref im, .ref kq, .ref pw, .ref nx, .ref li, .int d6, .ref il, .ref mv, .ref so, .ref la, .int d11, .int d12, .ref co])), (st, .inl (cyI, 72, .inl fs))] s.heap := hP
  have hl := lv_entry ([.ref m0, .int p1]) (n := 5) (Nat.le_of_ble_eq_true rfl)
  rw [lg_entry_eq]
  generalize (lg_sl ([.ref m0, .int p1]) ++ List.replicate (5 - (lg_sl ([.ref m0, .int p1])).length) Slot.unset).toArray = ls at hl ⊢
  have hl : lv_has ls 5 [(0, .ref m0), (1, .int p1)] := hl
  refine lv_iconst (v := 0) hx hb dX8_isMirrored_0 (by decide) ?_
  refine lv_istore_n (lv' := [(2, .int 0), (0, .ref m0), (1, .int p1)]) hx hb dX8_isMirrored_1 rfl hl (by decide) rfl (fun ls hl => ?_)
  refine lv_iconst (v := 0) hx hb dX8_isMirrored_2 (by decide) ?_
  refine lv_istore_n (lv' := [(3, .int 0), (2, .int 0), (0, .ref m0), (1, .int p1)]) hx hb dX8_isMirrored_3 rfl hl (by decide) rfl (fun ls hl => ?_)
  have L4 : ∀ (n4 : Nat), ∀ (k : Nat) (ya : Int32), (0 ≤ k ∧ k ≤ n) → (n + 1 ≤ k + n4) → (ya = 0 ∨ ya = 1) → ∀ (ls : Array Slot), lv_has ls 5 [(0, .ref m0), (1, .int p1), (2, .int ya), (3, .int (nI k))] → W p l e (headSpec wsX8_isMirrored ({ frames := 5, cells := 0, slots := 0, locals := 121 })).room s m ([.ref m0, .int p1] : List Value).toArray below meth c s.heap [] 0 0 (MQ below (vp_Si (fun r : Int32 => r = 0 ∨ r = 1)) ([.ref m0, .int p1] : List Value).toArray s 0 0 (fun _ => False)) (F0 m 4 ls []) := by
    intro n4
    induction n4 with
    | zero =>
      intro k ya hk4 hn4 hya ls hl
      exfalso
      omega
    | succ n4 ih4 =>
      intro k ya hk4 hn4 hya ls hl
      refine lv_iload_n hx hb dX8_isMirrored_4 rfl (lv_at hl 3 rfl) ?_
      refine lv_aload_n hx hb dX8_isMirrored_5 rfl (lv_at hl 0 rfl) ?_
      refine vp_callSi (va_Run.run (va_runV (As := []) (rest := [.int (nI k)]) ⟨hx, hb, hml, hown, hts⟩ (mX8_cells l dC dI cyI cyZ m0 st im kq pw nx li il mv so la co d6 d11 d12 n fs hn3 hn h0f) (cwV 0 hts gX8_isMirrored_X8_cells rfl rfl rfl (by decide +kernel) ⟨Nat.le_of_ble_eq_true rfl, Nat.le_of_ble_eq_true rfl⟩) (bs_RV hB (hP.sub (ws' := [(m0, .inr (6, [.ref st, .ref im, .ref kq, .ref pw, .ref nx, .ref li, .int d6, .ref il, .ref mv, .ref so, .ref la, .int d11, .int d12, .ref co])), (st, .inl (cyI, 72, .inl fs))]) [0, 1] rfl) 0 rfl rfl) rfl rfl hl.1 rfl (lv_room (Nat.le_of_ble_eq_true rfl)) dX8_isMirrored_6 ⟨Nat.le_of_ble_eq_true rfl, Nat.le_of_ble_eq_true rfl⟩)) (fun r_1 hr_1 => ?_)
      obtain rfl : (nI n) = r_1 := Eq.symm hr_1
      refine lv_icmp_ge (tgt := 76) hx hb dX8_isMirrored_9 (by decide) (fun c_2 => ?_) (fun c_2 => ?_)
      · skip
        have ic_2 := ci_le (nI_toInt (n := n) (by omega)) (nI_toInt (n := k) (by omega)) c_2
        refine lv_iload_n hx hb dX8_isMirrored_76 rfl (lv_at hl 2 rfl) ?_
        exact W.zret (v := ya) hx hb hr (show narrow .boolean (.int ya) = .int ya from nb_nar hya) (fun t ht hW => ⟨ya, rfl, hya, ht⟩) (fun q h => by cases h) dX8_isMirrored_77
      · skip
        have ic_2 := ci_nle (nI_toInt (n := n) (by omega)) (nI_toInt (n := k) (by omega)) c_2
        refine lv_iconst (v := 0) hx hb dX8_isMirrored_12 (by decide) ?_
        refine lv_istore (lv' := [(4, .int 0), (0, .ref m0), (1, .int p1), (2, .int ya), (3, .int (nI k))]) hx hb dX8_isMirrored_13 hl (by decide) rfl (fun ls hl => ?_)
        have L15 : ∀ (n15 : Nat), ∀ (j : Nat) (ya : Int32), (0 ≤ j ∧ j ≤ n) → (n + 1 ≤ j + n15) → (ya = 0 ∨ ya = 1) → ∀ (ls : Array Slot), lv_has ls 5 [(0, .ref m0), (1, .int p1), (2, .int ya), (3, .int (nI k)), (4, .int (nI j))] → W p l e (headSpec wsX8_isMirrored ({ frames := 5, cells := 0, slots := 0, locals := 121 })).room s m ([.ref m0, .int p1] : List Value).toArray below meth c s.heap [] 0 0 (MQ below (vp_Si (fun r : Int32 => r = 0 ∨ r = 1)) ([.ref m0, .int p1] : List Value).toArray s 0 0 (fun _ => False)) (F0 m 15 ls []) := by
          intro n15
          induction n15 with
          | zero =>
            intro j ya hk15 hn15 hya ls hl
            exfalso
            omega
          | succ n15 ih15 =>
            intro j ya hk15 hn15 hya ls hl
            refine lv_iload hx hb dX8_isMirrored_15 (lv_at hl 4 rfl) ?_
            refine lv_aload_n hx hb dX8_isMirrored_17 rfl (lv_at hl 0 rfl) ?_
            refine vp_callSi (va_Run.run (va_runV (As := []) (rest := [.int (nI j)]) ⟨hx, hb, hml, hown, hts⟩ (mX8_cells l dC dI cyI cyZ m0 st im kq pw nx li il mv so la co d6 d11 d12 n fs hn3 hn h0f) (cwV 0 hts gX8_isMirrored_X8_cells rfl rfl rfl (by decide +kernel) ⟨Nat.le_of_ble_eq_true rfl, Nat.le_of_ble_eq_true rfl⟩) (bs_RV hB (hP.sub (ws' := [(m0, .inr (6, [.ref st, .ref im, .ref kq, .ref pw, .ref nx, .ref li, .int d6, .ref il, .ref mv, .ref so, .ref la, .int d11, .int d12, .ref co])), (st, .inl (cyI, 72, .inl fs))]) [0, 1] rfl) 0 rfl rfl) rfl rfl hl.1 rfl (lv_room (Nat.le_of_ble_eq_true rfl)) dX8_isMirrored_18 ⟨Nat.le_of_ble_eq_true rfl, Nat.le_of_ble_eq_true rfl⟩)) (fun r_3 hr_3 => ?_)
            obtain rfl : (nI n) = r_3 := Eq.symm hr_3
            refine lv_icmp_ge (tgt := 70) hx hb dX8_isMirrored_21 (by decide) (fun c_4 => ?_) (fun c_4 => ?_)
            · skip
              have ic_4 := ci_le (nI_toInt (n := n) (by omega)) (nI_toInt (n := j) (by omega)) c_4
              refine lv_iinc (v := (nI (k + 1))) (lv' := [(3, .int (nI (k + 1))), (0, .ref m0), (1, .int p1), (2, .int ya), (4, .int (nI j))]) hx hb dX8_isMirrored_70 hl (k := 3) rfl (nI_1 _) (by decide) rfl (fun ls hl => ?_)
              refine lv_goto (tgt := 4) hx hb dX8_isMirrored_73 (by decide) ?_
              exact ih4 (k + 1) ya ⟨by omega, by omega⟩ (by omega) hya _ (lv_sub hl [1, 2, 3, 0] rfl)
            · skip
              have ic_4 := ci_nle (nI_toInt (n := n) (by omega)) (nI_toInt (n := j) (by omega)) c_4
              refine lv_iload_n hx hb dX8_isMirrored_24 rfl (lv_at hl 2 rfl) ?_
              refine lv_if_ne (tgt := 58) hx hb dX8_isMirrored_25 (by decide) (fun c_5 => ?_) (fun c_5 => ?_)
              · skip
                have ic_5 := ci_ne (rfl : Int32.toInt ya = _) (show Int32.toInt 0 = 0 by decide) c_5
                refine lv_iconst (v := 1) hx hb dX8_isMirrored_58 (by decide) ?_
                refine lv_goto (tgt := 63) hx hb dX8_isMirrored_59 (by decide) ?_
                refine lv_istore_n (lv' := [(2, .int 1), (0, .ref m0), (1, .int p1), (3, .int (nI k)), (4, .int (nI j))]) hx hb dX8_isMirrored_63 rfl hl (by decide) rfl (fun ls hl => ?_)
                refine lv_iinc (v := (nI (j + 1))) (lv' := [(4, .int (nI (j + 1))), (2, .int 1), (0, .ref m0), (1, .int p1), (3, .int (nI k))]) hx hb dX8_isMirrored_64 hl (k := 4) rfl (nI_1 _) (by decide) rfl (fun ls hl => ?_)
                refine lv_goto (tgt := 15) hx hb dX8_isMirrored_67 (by decide) ?_
                exact ih15 (j + 1) 1 ⟨by omega, by omega⟩ (by omega) (Or.inr rfl) _ (lv_sub hl [2, 3, 1, 4, 0] rfl)
              · skip
                have ic_5 := ci_eq (rfl : Int32.toInt ya = _) (show Int32.toInt 0 = 0 by decide) c_5
                refine lv_iload_n hx hb dX8_isMirrored_28 rfl (lv_at hl 1 rfl) ?_
                refine lv_iload_n hx hb dX8_isMirrored_29 rfl (lv_at hl 3 rfl) ?_
                refine vp_callSi (va_Run.run (va_runS (As := [.int p1, .int (nI k)]) (rest := []) ⟨hx, hb, hml, hown, hts⟩ (mX8_has l dC dI cyI cyZ p1 (nI k) ) (va_cwS 2 hts gX8_isMirrored_X8_has rfl rfl rfl (by decide +kernel) ⟨Nat.le_of_ble_eq_true rfl, Nat.le_of_ble_eq_true rfl⟩) (bs_RS hB (hP.sub (ws' := []) [] rfl)) rfl rfl hl.1 rfl (lv_room (Nat.le_of_ble_eq_true rfl)) dX8_isMirrored_30 ⟨Nat.le_of_ble_eq_true rfl, Nat.le_of_ble_eq_true rfl⟩)) (fun r_6 hr_6 => ?_)
                refine lv_if_eq (tgt := 62) hx hb dX8_isMirrored_33 (by decide) (fun c_7 => ?_) (fun c_7 => ?_)
                · skip
                  have ic_7 := ci_eq (rfl : Int32.toInt r_6 = _) (show Int32.toInt 0 = 0 by decide) c_7
                  refine lv_iconst (v := 0) hx hb dX8_isMirrored_62 (by decide) ?_
                  refine lv_istore_n (lv' := [(2, .int 0), (0, .ref m0), (1, .int p1), (3, .int (nI k)), (4, .int (nI j))]) hx hb dX8_isMirrored_63 rfl hl (by decide) rfl (fun ls hl => ?_)
                  refine lv_iinc (v := (nI (j + 1))) (lv' := [(4, .int (nI (j + 1))), (2, .int 0), (0, .ref m0), (1, .int p1), (3, .int (nI k))]) hx hb dX8_isMirrored_64 hl (k := 4) rfl (nI_1 _) (by decide) rfl (fun ls hl => ?_)
                  refine lv_goto (tgt := 15) hx hb dX8_isMirrored_67 (by decide) ?_
                  exact ih15 (j + 1) 0 ⟨by omega, by omega⟩ (by omega) (Or.inl rfl) _ (lv_sub hl [2, 3, 1, 4, 0] rfl)
                · skip
                  have ic_7 := ci_ne (rfl : Int32.toInt r_6 = _) (show Int32.toInt 0 = 0 by decide) c_7
                  have hb33 : nb_bit p1 k := hr_6.2 (hr_6.1.resolve_left c_7)
                  refine lv_iload_n hx hb dX8_isMirrored_36 rfl (lv_at hl 1 rfl) ?_
                  refine lv_iload hx hb dX8_isMirrored_37 (lv_at hl 4 rfl) ?_
                  refine vp_callSi (va_Run.run (va_runS (As := [.int p1, .int (nI j)]) (rest := []) ⟨hx, hb, hml, hown, hts⟩ (mX8_has l dC dI cyI cyZ p1 (nI j) ) (va_cwS 2 hts gX8_isMirrored_X8_has rfl rfl rfl (by decide +kernel) ⟨Nat.le_of_ble_eq_true rfl, Nat.le_of_ble_eq_true rfl⟩) (bs_RS hB (hP.sub (ws' := []) [] rfl)) rfl rfl hl.1 rfl (lv_room (Nat.le_of_ble_eq_true rfl)) dX8_isMirrored_39 ⟨Nat.le_of_ble_eq_true rfl, Nat.le_of_ble_eq_true rfl⟩)) (fun r_8 hr_8 => ?_)
                  refine lv_if_eq (tgt := 62) hx hb dX8_isMirrored_42 (by decide) (fun c_9 => ?_) (fun c_9 => ?_)
                  · skip
                    have ic_9 := ci_eq (rfl : Int32.toInt r_8 = _) (show Int32.toInt 0 = 0 by decide) c_9
                    refine lv_iconst (v := 0) hx hb dX8_isMirrored_62 (by decide) ?_
                    refine lv_istore_n (lv' := [(2, .int 0), (0, .ref m0), (1, .int p1), (3, .int (nI k)), (4, .int (nI j))]) hx hb dX8_isMirrored_63 rfl hl (by decide) rfl (fun ls hl => ?_)
                    refine lv_iinc (v := (nI (j + 1))) (lv' := [(4, .int (nI (j + 1))), (2, .int 0), (0, .ref m0), (1, .int p1), (3, .int (nI k))]) hx hb dX8_isMirrored_64 hl (k := 4) rfl (nI_1 _) (by decide) rfl (fun ls hl => ?_)
                    refine lv_goto (tgt := 15) hx hb dX8_isMirrored_67 (by decide) ?_
                    exact ih15 (j + 1) 0 ⟨by omega, by omega⟩ (by omega) (Or.inl rfl) _ (lv_sub hl [2, 3, 1, 4, 0] rfl)
                  · skip
                    have ic_9 := ci_ne (rfl : Int32.toInt r_8 = _) (show Int32.toInt 0 = 0 by decide) c_9
                    have hb42 : nb_bit p1 j := hr_8.2 (hr_8.1.resolve_left c_9)
                    refine lv_aload_n hx hb dX8_isMirrored_45 rfl (lv_at hl 0 rfl) ?_
                    refine lv_iload_n hx hb dX8_isMirrored_46 rfl (lv_at hl 1 rfl) ?_
                    refine lv_iload_n hx hb dX8_isMirrored_47 rfl (lv_at hl 3 rfl) ?_
                    refine lv_iconst (v := 1) hx hb dX8_isMirrored_48 (by decide) ?_
                    refine lv_iload hx hb dX8_isMirrored_49 (lv_at hl 4 rfl) ?_
                    refine lv_iconst (v := (-1)) hx hb dX8_isMirrored_51 (by decide) ?_
                    refine vp_callSi (va_Run.run (va_runV (As := [.int p1, .int (nI k), .int 1, .int (nI j), .int (-1)]) (rest := []) ⟨hx, hb, hml, hown, hts⟩ (mX8_held l dC dI cyI cyZ m0 st im kq pw nx li il mv so la co d6 d11 d12 n fs k j 11 9 p1 1 (-1) hn3 hn h0f (by omega) (by omega) (Or.inr rfl) (Or.inl rfl) hb33 hb42 (by decide) (by decide)) (cwV 5 hts gX8_isMirrored_X8_held rfl rfl rfl (by decide +kernel) ⟨Nat.le_of_ble_eq_true rfl, Nat.le_of_ble_eq_true rfl⟩) (bs_RV hB (hP.sub (ws' := [(m0, .inr (6, [.ref st, .ref im, .ref kq, .ref pw, .ref nx, .ref li, .int d6, .ref il, .ref mv, .ref so, .ref la, .int d11, .int d12, .ref co])), (st, .inl (cyI, 72, .inl fs))]) [0, 1] rfl) 0 rfl rfl) rfl rfl hl.1 rfl (lv_room (Nat.le_of_ble_eq_true rfl)) dX8_isMirrored_52 ⟨Nat.le_of_ble_eq_true rfl, Nat.le_of_ble_eq_true rfl⟩)) (fun r_10 hr_10 => ?_)
                    refine lv_if_ne (tgt := 62) hx hb dX8_isMirrored_55 (by decide) (fun c_11 => ?_) (fun c_11 => ?_)
                    · skip
                      have ic_11 := ci_ne (rfl : Int32.toInt r_10 = _) (show Int32.toInt 0 = 0 by decide) c_11
                      refine lv_iconst (v := 0) hx hb dX8_isMirrored_62 (by decide) ?_
                      refine lv_istore_n (lv' := [(2, .int 0), (0, .ref m0), (1, .int p1), (3, .int (nI k)), (4, .int (nI j))]) hx hb dX8_isMirrored_63 rfl hl (by decide) rfl (fun ls hl => ?_)
                      refine lv_iinc (v := (nI (j + 1))) (lv' := [(4, .int (nI (j + 1))), (2, .int 0), (0, .ref m0), (1, .int p1), (3, .int (nI k))]) hx hb dX8_isMirrored_64 hl (k := 4) rfl (nI_1 _) (by decide) rfl (fun ls hl => ?_)
                      refine lv_goto (tgt := 15) hx hb dX8_isMirrored_67 (by decide) ?_
                      exact ih15 (j + 1) 0 ⟨by omega, by omega⟩ (by omega) (Or.inl rfl) _ (lv_sub hl [2, 3, 1, 4, 0] rfl)
                    · skip
                      have ic_11 := ci_eq (rfl : Int32.toInt r_10 = _) (show Int32.toInt 0 = 0 by decide) c_11
                      refine lv_iconst (v := 1) hx hb dX8_isMirrored_58 (by decide) ?_
                      refine lv_goto (tgt := 63) hx hb dX8_isMirrored_59 (by decide) ?_
                      refine lv_istore_n (lv' := [(2, .int 1), (0, .ref m0), (1, .int p1), (3, .int (nI k)), (4, .int (nI j))]) hx hb dX8_isMirrored_63 rfl hl (by decide) rfl (fun ls hl => ?_)
                      refine lv_iinc (v := (nI (j + 1))) (lv' := [(4, .int (nI (j + 1))), (2, .int 1), (0, .ref m0), (1, .int p1), (3, .int (nI k))]) hx hb dX8_isMirrored_64 hl (k := 4) rfl (nI_1 _) (by decide) rfl (fun ls hl => ?_)
                      refine lv_goto (tgt := 15) hx hb dX8_isMirrored_67 (by decide) ?_
                      exact ih15 (j + 1) 1 ⟨by omega, by omega⟩ (by omega) (Or.inr rfl) _ (lv_sub hl [2, 3, 1, 4, 0] rfl)
        exact L15 (n + 1) 0 ya ⟨by omega, by omega⟩ (by omega) hya _ (lv_sub hl [1, 2, 3, 4, 0] rfl)
  exact L4 (n + 1) 0 0 ⟨by omega, by omega⟩ (by omega) (Or.inl rfl) _ (lv_sub hl [2, 3, 1, 0] rfl)

set_option maxHeartbeats 4000000 in
set_option maxRecDepth 100000 in
theorem mX8_even (l : Launch) (dC : Nat → ClassId) (dI : Nat → Nat → Nat) (cyI cyZ : ClassId) (m0 : Nat) (st : Nat) (im : Nat) (kq : Nat) (pw : Nat) (nx : Nat) (li : Nat) (il : Nat) (mv : Nat) (so : Nat) (la : Nat) (co : Nat) (d6 : Int32) (d11 : Int32) (d12 : Int32) (n : Nat) (fs : Nat → Int32) (p1 : Int32) (hn3 : 3 ≤ n) (hn : n ≤ 10) (h0f : fs 0 = nI n) : Met l yX8_even wsX8_even ({ frames := 5, cells := 0, slots := 0, locals := 121 }) (bs_R dC dI cyI cyZ [.ref m0, .int p1] [(m0, .inr (6, [.ref st, .ref im, .ref kq, .ref pw, .ref nx, .ref li, .int d6, .ref il, .ref mv, .ref so, .ref la, .int d11, .int d12, .ref co])), (st, .inl (cyI, 72, .inl fs))]) (vp_Si (fun r : Int32 => True)) 0 0 (fun _ => False) := by
  refine Met.ofW (cc := cX8_even) (maxL := 4) (ret := (some .int)) (by decide) rfl ?_
  intro p e s m args below meth c s₁ B hml hv
  obtain ⟨rfl, hB, hP⟩ := hv
  have hK := hB.1
  have hN := hB.2
  have hx := B.exec
  have hb := B.bytes
  have hr := B.returns
  have hts := atoms_spec (ws := wsX8_even) B.pre
  have hown : s.vm.findClass RX8 = some m.cls := findClass_of_methodNamed B.named
  have hlocks := B.notSynchronized
  have hP : va_P (dC, dI) vwCl [(m0, .inr (6, [.ref st, .ref im, .ref kq, .ref pw, .ref nx, .ref li, .int d6, .ref il, .ref mv, .ref so, .ref la, .int d11, .int d12, .ref co])), (st, .inl (cyI, 72, .inl fs))] s.heap := hP
  have hl := lv_entry ([.ref m0, .int p1]) (n := 4) (Nat.le_of_ble_eq_true rfl)
  rw [lg_entry_eq]
  generalize (lg_sl ([.ref m0, .int p1]) ++ List.replicate (4 - (lg_sl ([.ref m0, .int p1])).length) Slot.unset).toArray = ls at hl ⊢
  have hl : lv_has ls 4 [(0, .ref m0), (1, .int p1)] := hl
  refine lv_iconst (v := 0) hx hb dX8_even_0 (by decide) ?_
  refine lv_istore_n (lv' := [(2, .int 0), (0, .ref m0), (1, .int p1)]) hx hb dX8_even_1 rfl hl (by decide) rfl (fun ls hl => ?_)
  refine lv_iconst (v := 0) hx hb dX8_even_2 (by decide) ?_
  refine lv_istore_n (lv' := [(3, .int 0), (2, .int 0), (0, .ref m0), (1, .int p1)]) hx hb dX8_even_3 rfl hl (by decide) rfl (fun ls hl => ?_)
  have L4 : ∀ (n4 : Nat), ∀ (k : Nat) (ya : Int32), (0 ≤ k ∧ k ≤ n) → (n + 1 ≤ k + n4) → ∀ (ls : Array Slot), lv_has ls 4 [(0, .ref m0), (1, .int p1), (2, .int ya), (3, .int (nI k))] → W p l e (headSpec wsX8_even ({ frames := 5, cells := 0, slots := 0, locals := 121 })).room s m ([.ref m0, .int p1] : List Value).toArray below meth c s.heap [] 0 0 (MQ below (vp_Si (fun r : Int32 => True)) ([.ref m0, .int p1] : List Value).toArray s 0 0 (fun _ => False)) (F0 m 4 ls []) := by
    intro n4
    induction n4 with
    | zero =>
      intro k ya hk4 hn4 ls hl
      exfalso
      omega
    | succ n4 ih4 =>
      intro k ya hk4 hn4 ls hl
      refine lv_iload_n hx hb dX8_even_4 rfl (lv_at hl 3 rfl) ?_
      refine lv_aload_n hx hb dX8_even_5 rfl (lv_at hl 0 rfl) ?_
      refine vp_callSi (va_Run.run (va_runV (As := []) (rest := [.int (nI k)]) ⟨hx, hb, hml, hown, hts⟩ (mX8_cells l dC dI cyI cyZ m0 st im kq pw nx li il mv so la co d6 d11 d12 n fs hn3 hn h0f) (cwV 0 hts gX8_even_X8_cells rfl rfl rfl (by decide +kernel) ⟨Nat.le_of_ble_eq_true rfl, Nat.le_of_ble_eq_true rfl⟩) (bs_RV hB (hP.sub (ws' := [(m0, .inr (6, [.ref st, .ref im, .ref kq, .ref pw, .ref nx, .ref li, .int d6, .ref il, .ref mv, .ref so, .ref la, .int d11, .int d12, .ref co])), (st, .inl (cyI, 72, .inl fs))]) [0, 1] rfl) 0 rfl rfl) rfl rfl hl.1 rfl (lv_room (Nat.le_of_ble_eq_true rfl)) dX8_even_6 ⟨Nat.le_of_ble_eq_true rfl, Nat.le_of_ble_eq_true rfl⟩)) (fun r_1 hr_1 => ?_)
      obtain rfl : (nI n) = r_1 := Eq.symm hr_1
      refine lv_icmp_ge (tgt := 46) hx hb dX8_even_9 (by decide) (fun c_2 => ?_) (fun c_2 => ?_)
      · skip
        have ic_2 := ci_le (nI_toInt (n := n) (by omega)) (nI_toInt (n := k) (by omega)) c_2
        refine lv_iload_n hx hb dX8_even_46 rfl (lv_at hl 2 rfl) ?_
        exact W.iret (v := ya) hx hb hr (fun t ht hW => ⟨ya, rfl, trivial, ht⟩) (fun q h => by cases h) dX8_even_47
      · skip
        have ic_2 := ci_nle (nI_toInt (n := n) (by omega)) (nI_toInt (n := k) (by omega)) c_2
        refine lv_iload_n hx hb dX8_even_12 rfl (lv_at hl 2 rfl) ?_
        refine lv_iload_n hx hb dX8_even_13 rfl (lv_at hl 1 rfl) ?_
        refine lv_iload_n hx hb dX8_even_14 rfl (lv_at hl 3 rfl) ?_
        refine vp_callSi (va_Run.run (va_runS (As := [.int p1, .int (nI k)]) (rest := [.int ya]) ⟨hx, hb, hml, hown, hts⟩ (mX8_has l dC dI cyI cyZ p1 (nI k) ) (va_cwS 2 hts gX8_even_X8_has rfl rfl rfl (by decide +kernel) ⟨Nat.le_of_ble_eq_true rfl, Nat.le_of_ble_eq_true rfl⟩) (bs_RS hB (hP.sub (ws' := []) [] rfl)) rfl rfl hl.1 rfl (lv_room (Nat.le_of_ble_eq_true rfl)) dX8_even_15 ⟨Nat.le_of_ble_eq_true rfl, Nat.le_of_ble_eq_true rfl⟩)) (fun r_3 hr_3 => ?_)
        refine lv_if_eq (tgt := 37) hx hb dX8_even_18 (by decide) (fun c_4 => ?_) (fun c_4 => ?_)
        · skip
          have ic_4 := ci_eq (rfl : Int32.toInt r_3 = _) (show Int32.toInt 0 = 0 by decide) c_4
          refine lv_iconst (v := 0) hx hb dX8_even_37 (by decide) ?_
          refine lv_iadd hx hb dX8_even_38 ?_
          refine lv_topi (fun x_5 ex_5 => ?_)
          obtain rfl : ya = x_5 := (ex_5.trans (Int32.add_zero _)).symm
          refine lv_istore_n (lv' := [(2, .int ya), (0, .ref m0), (1, .int p1), (3, .int (nI k))]) hx hb dX8_even_39 rfl hl (by decide) rfl (fun ls hl => ?_)
          refine lv_iinc (v := (nI (k + 1))) (lv' := [(3, .int (nI (k + 1))), (2, .int ya), (0, .ref m0), (1, .int p1)]) hx hb dX8_even_40 hl (k := 3) rfl (nI_1 _) (by decide) rfl (fun ls hl => ?_)
          refine lv_goto (tgt := 4) hx hb dX8_even_43 (by decide) ?_
          exact ih4 (k + 1) ya ⟨by omega, by omega⟩ (by omega)  _ (lv_sub hl [2, 3, 1, 0] rfl)
        · skip
          have ic_4 := ci_ne (rfl : Int32.toInt r_3 = _) (show Int32.toInt 0 = 0 by decide) c_4
          have hb18 : nb_bit p1 k := hr_3.2 (hr_3.1.resolve_left c_4)
          refine lv_aload_n hx hb dX8_even_21 rfl (lv_at hl 0 rfl) ?_
          refine lv_iload_n hx hb dX8_even_22 rfl (lv_at hl 1 rfl) ?_
          refine lv_iload_n hx hb dX8_even_23 rfl (lv_at hl 3 rfl) ?_
          refine lv_iconst (v := 1) hx hb dX8_even_24 (by decide) ?_
          refine lv_iload_n hx hb dX8_even_25 rfl (lv_at hl 3 rfl) ?_
          refine lv_iconst (v := (-1)) hx hb dX8_even_26 (by decide) ?_
          refine vp_callSi (va_Run.run (va_runV (As := [.int p1, .int (nI k), .int 1, .int (nI k), .int (-1)]) (rest := [.int ya]) ⟨hx, hb, hml, hown, hts⟩ (mX8_held l dC dI cyI cyZ m0 st im kq pw nx li il mv so la co d6 d11 d12 n fs k k 11 9 p1 1 (-1) hn3 hn h0f (by omega) (by omega) (Or.inr rfl) (Or.inl rfl) hb18 hb18 (by decide) (by decide)) (cwV 5 hts gX8_even_X8_held rfl rfl rfl (by decide +kernel) ⟨Nat.le_of_ble_eq_true rfl, Nat.le_of_ble_eq_true rfl⟩) (bs_RV hB (hP.sub (ws' := [(m0, .inr (6, [.ref st, .ref im, .ref kq, .ref pw, .ref nx, .ref li, .int d6, .ref il, .ref mv, .ref so, .ref la, .int d11, .int d12, .ref co])), (st, .inl (cyI, 72, .inl fs))]) [0, 1] rfl) 0 rfl rfl) rfl rfl hl.1 rfl (lv_room (Nat.le_of_ble_eq_true rfl)) dX8_even_27 ⟨Nat.le_of_ble_eq_true rfl, Nat.le_of_ble_eq_true rfl⟩)) (fun r_6 hr_6 => ?_)
          refine lv_if_ne (tgt := 37) hx hb dX8_even_30 (by decide) (fun c_7 => ?_) (fun c_7 => ?_)
          · skip
            have ic_7 := ci_ne (rfl : Int32.toInt r_6 = _) (show Int32.toInt 0 = 0 by decide) c_7
            refine lv_iconst (v := 0) hx hb dX8_even_37 (by decide) ?_
            refine lv_iadd hx hb dX8_even_38 ?_
            refine lv_topi (fun x_8 ex_8 => ?_)
            obtain rfl : ya = x_8 := (ex_8.trans (Int32.add_zero _)).symm
            refine lv_istore_n (lv' := [(2, .int ya), (0, .ref m0), (1, .int p1), (3, .int (nI k))]) hx hb dX8_even_39 rfl hl (by decide) rfl (fun ls hl => ?_)
            refine lv_iinc (v := (nI (k + 1))) (lv' := [(3, .int (nI (k + 1))), (2, .int ya), (0, .ref m0), (1, .int p1)]) hx hb dX8_even_40 hl (k := 3) rfl (nI_1 _) (by decide) rfl (fun ls hl => ?_)
            refine lv_goto (tgt := 4) hx hb dX8_even_43 (by decide) ?_
            exact ih4 (k + 1) ya ⟨by omega, by omega⟩ (by omega)  _ (lv_sub hl [2, 3, 1, 0] rfl)
          · skip
            have ic_7 := ci_eq (rfl : Int32.toInt r_6 = _) (show Int32.toInt 0 = 0 by decide) c_7
            refine lv_iconst (v := 1) hx hb dX8_even_33 (by decide) ?_
            refine lv_goto (tgt := 38) hx hb dX8_even_34 (by decide) ?_
            refine lv_iadd hx hb dX8_even_38 ?_
            refine lv_topi (fun x_9 ex_9 => ?_)
            refine lv_istore_n (lv' := [(2, .int x_9), (0, .ref m0), (1, .int p1), (3, .int (nI k))]) hx hb dX8_even_39 rfl hl (by decide) rfl (fun ls hl => ?_)
            refine lv_iinc (v := (nI (k + 1))) (lv' := [(3, .int (nI (k + 1))), (2, .int x_9), (0, .ref m0), (1, .int p1)]) hx hb dX8_even_40 hl (k := 3) rfl (nI_1 _) (by decide) rfl (fun ls hl => ?_)
            refine lv_goto (tgt := 4) hx hb dX8_even_43 (by decide) ?_
            exact ih4 (k + 1) x_9 ⟨by omega, by omega⟩ (by omega)  _ (lv_sub hl [2, 3, 1, 0] rfl)
  exact L4 (n + 1) 0 0 ⟨by omega, by omega⟩ (by omega)  _ (lv_sub hl [2, 3, 1, 0] rfl)
