set_option maxHeartbeats 4000000 in
set_option maxRecDepth 100000 in
theorem mX8_views (l : Launch) (dC : Nat → ClassId) (dI : Nat → Nat → Nat) (cyI cyZ : ClassId) (m0 : Nat) (st : Nat) (im : Nat) (kq : Nat) (pw : Nat) (nx : Nat) (li : Nat) (il : Nat) (mv : Nat) (so : Nat) (la : Nat) (co : Nat) (d6 : Int32) (d11 : Int32) (d12 : Int32) (n : Nat) (fs : Nat → Int32) (p1 : Int32) (hn3 : 3 ≤ n) (hn : n ≤ 10) (h0f : fs 0 = nI n) : Met l yX8_views wsX8_views ({ frames := 6, cells := 0, slots := 0, locals := 143 }) (bs_R dC dI cyI cyZ [.ref m0, .int p1] [(m0, .inr (6, [.ref st, .ref im, .ref kq, .ref pw, .ref nx, .ref li, .int d6, .ref il, .ref mv, .ref so, .ref la, .int d11, .int d12, .ref co])), (st, .inl (cyI, 72, .inl fs))]) (vp_Si (fun r : Int32 => True)) 0 0 (fun _ => False) := by
  refine Met.ofW (cc := cX8_views) (maxL := 6) (ret := (some .int)) (by decide) rfl ?_
  intro p e s m args below meth c s₁ B hml hv
  obtain ⟨rfl, hB, hP⟩ := hv
  have hK := hB.1
  have hN := hB.2
  have hx := B.exec
  have hb := B.bytes
  have hr := B.returns
  have hts := atoms_spec (ws := wsX8_views) B.pre
  have hown : s.vm.findClass RX8 = some m.cls := findClass_of_methodNamed B.named
  have hlocks := B.notSynchronized
  have hP : va_P (dC, dI) vwCl [(m0, .inr (6, [.ref st, .ref im, .ref kq, .ref pw, .ref nx, .ref li, .int d6, .ref il, .ref mv, .ref so, .ref la, .int d11, .int d12, .ref co])), (st, .inl (cyI, 72, .inl fs))] s.heap := hP
  have hl := lv_entry ([.ref m0, .int p1]) (n := 6) (Nat.le_of_ble_eq_true rfl)
  rw [lg_entry_eq]
  generalize (lg_sl ([.ref m0, .int p1]) ++ List.replicate (6 - (lg_sl ([.ref m0, .int p1])).length) Slot.unset).toArray = ls at hl ⊢
  have hl : lv_has ls 6 [(0, .ref m0), (1, .int p1)] := hl
  refine lv_iconst (v := 0) hx hb dX8_views_0 (by decide) ?_
  refine lv_istore_n (lv' := [(2, .int 0), (0, .ref m0), (1, .int p1)]) hx hb dX8_views_1 rfl hl (by decide) rfl (fun ls hl => ?_)
  refine lv_iconst (v := 0) hx hb dX8_views_2 (by decide) ?_
  refine lv_istore_n (lv' := [(3, .int 0), (2, .int 0), (0, .ref m0), (1, .int p1)]) hx hb dX8_views_3 rfl hl (by decide) rfl (fun ls hl => ?_)
  have L4 : ∀ (n4 : Nat), ∀ (k : Nat) (ya : Int32), (0 ≤ k ∧ k ≤ n) → (n + 1 ≤ k + n4) → ∀ (ls : Array Slot), lv_has ls 6 [(0, .ref m0), (1, .int p1), (2, .int ya), (3, .int (nI k))] → W p l e (headSpec wsX8_views ({ frames := 6, cells := 0, slots := 0, locals := 143 })).room s m ([.ref m0, .int p1] : List Value).toArray below meth c s.heap [] 0 0 (MQ below (vp_Si (fun r : Int32 => True)) ([.ref m0, .int p1] : List Value).toArray s 0 0 (fun _ => False)) (F0 m 4 ls []) := by
    intro n4
    induction n4 with
    | zero =>
      intro k ya hk4 hn4 ls hl
      exfalso
      omega
    | succ n4 ih4 =>
      intro k ya hk4 hn4 ls hl
      refine lv_iload_n hx hb dX8_views_4 rfl (lv_at hl 3 rfl) ?_
      refine lv_aload_n hx hb dX8_views_5 rfl (lv_at hl 0 rfl) ?_
      refine vp_callSi (va_Run.run (va_runV (As := []) (rest := [.int (nI k)]) ⟨hx, hb, hml, hown, hts⟩ (mX8_cells l dC dI cyI cyZ m0 st im kq pw nx li il mv so la co d6 d11 d12 n fs hn3 hn h0f) (cwV 0 hts gX8_views_X8_cells rfl rfl rfl (by decide +kernel) ⟨Nat.le_of_ble_eq_true rfl, Nat.le_of_ble_eq_true rfl⟩) (bs_RV hB (hP.sub (ws' := [(m0, .inr (6, [.ref st, .ref im, .ref kq, .ref pw, .ref nx, .ref li, .int d6, .ref il, .ref mv, .ref so, .ref la, .int d11, .int d12, .ref co])), (st, .inl (cyI, 72, .inl fs))]) [0, 1] rfl) 0 rfl rfl) rfl rfl hl.1 rfl (lv_room (Nat.le_of_ble_eq_true rfl)) dX8_views_6 ⟨Nat.le_of_ble_eq_true rfl, Nat.le_of_ble_eq_true rfl⟩)) (fun r_1 hr_1 => ?_)
      obtain rfl : (nI n) = r_1 := Eq.symm hr_1
      refine lv_icmp_ge (tgt := 98) hx hb dX8_views_9 (by decide) (fun c_2 => ?_) (fun c_2 => ?_)
      · skip
        have ic_2 := ci_le (nI_toInt (n := n) (by omega)) (nI_toInt (n := k) (by omega)) c_2
        refine lv_iload_n hx hb dX8_views_98 rfl (lv_at hl 2 rfl) ?_
        exact W.iret (v := ya) hx hb hr (fun t ht hW => ⟨ya, rfl, trivial, ht⟩) (fun q h => by cases h) dX8_views_99
      · skip
        have ic_2 := ci_nle (nI_toInt (n := n) (by omega)) (nI_toInt (n := k) (by omega)) c_2
        refine lv_iload_n hx hb dX8_views_12 rfl (lv_at hl 1 rfl) ?_
        refine lv_iload_n hx hb dX8_views_13 rfl (lv_at hl 3 rfl) ?_
        refine vp_callSi (va_Run.run (va_runS (As := [.int p1, .int (nI k)]) (rest := []) ⟨hx, hb, hml, hown, hts⟩ (mX8_has l dC dI cyI cyZ p1 (nI k) ) (va_cwS 2 hts gX8_views_X8_has rfl rfl rfl (by decide +kernel) ⟨Nat.le_of_ble_eq_true rfl, Nat.le_of_ble_eq_true rfl⟩) (bs_RS hB (hP.sub (ws' := []) [] rfl)) rfl rfl hl.1 rfl (lv_room (Nat.le_of_ble_eq_true rfl)) dX8_views_14 ⟨Nat.le_of_ble_eq_true rfl, Nat.le_of_ble_eq_true rfl⟩)) (fun r_3 hr_3 => ?_)
        have hys0 : ¬ r_3 = 0 → nb_bit p1 k := fun q => hr_3.2 (hr_3.1.resolve_left q)
        refine lv_istore (lv' := [(4, .int r_3), (0, .ref m0), (1, .int p1), (2, .int ya), (3, .int (nI k))]) hx hb dX8_views_17 hl (by decide) rfl (fun ls hl => ?_)
        refine lv_iconst (v := 0) hx hb dX8_views_19 (by decide) ?_
        refine lv_istore (lv' := [(5, .int 0), (4, .int r_3), (0, .ref m0), (1, .int p1), (2, .int ya), (3, .int (nI k))]) hx hb dX8_views_20 hl (by decide) rfl (fun ls hl => ?_)
        have L22 : ∀ (n22 : Nat), ∀ (j : Nat) (ys : Int32), (0 ≤ j ∧ j ≤ k) → (k + 1 ≤ j + n22) → (¬ ys = 0 → nb_bit p1 k) → ∀ (ls : Array Slot), lv_has ls 6 [(0, .ref m0), (1, .int p1), (2, .int ya), (3, .int (nI k)), (4, .int ys), (5, .int (nI j))] → W p l e (headSpec wsX8_views ({ frames := 6, cells := 0, slots := 0, locals := 143 })).room s m ([.ref m0, .int p1] : List Value).toArray below meth c s.heap [] 0 0 (MQ below (vp_Si (fun r : Int32 => True)) ([.ref m0, .int p1] : List Value).toArray s 0 0 (fun _ => False)) (F0 m 22 ls []) := by
          intro n22
          induction n22 with
          | zero =>
            intro j ys hk22 hn22 hys ls hl
            exfalso
            omega
          | succ n22 ih22 =>
            intro j ys hk22 hn22 hys ls hl
            refine lv_iload hx hb dX8_views_22 (lv_at hl 5 rfl) ?_
            refine lv_iload_n hx hb dX8_views_24 rfl (lv_at hl 3 rfl) ?_
            refine lv_icmp_ge (tgt := 79) hx hb dX8_views_25 (by decide) (fun c_4 => ?_) (fun c_4 => ?_)
            · skip
              have ic_4 := ci_le (nI_toInt (n := k) (by omega)) (nI_toInt (n := j) (by omega)) c_4
              refine lv_iload_n hx hb dX8_views_79 rfl (lv_at hl 2 rfl) ?_
              refine lv_iload hx hb dX8_views_80 (lv_at hl 4 rfl) ?_
              refine lv_if_eq (tgt := 89) hx hb dX8_views_82 (by decide) (fun c_5 => ?_) (fun c_5 => ?_)
              · skip
                have ic_5 := ci_eq (rfl : Int32.toInt ys = _) (show Int32.toInt 0 = 0 by decide) c_5
                refine lv_iconst (v := 0) hx hb dX8_views_89 (by decide) ?_
                refine lv_iadd hx hb dX8_views_90 ?_
                refine lv_topi (fun x_6 ex_6 => ?_)
                obtain rfl : ya = x_6 := (ex_6.trans (Int32.add_zero _)).symm
                refine lv_istore_n (lv' := [(2, .int ya), (0, .ref m0), (1, .int p1), (3, .int (nI k)), (4, .int ys), (5, .int (nI j))]) hx hb dX8_views_91 rfl hl (by decide) rfl (fun ls hl => ?_)
                refine lv_iinc (v := (nI (k + 1))) (lv' := [(3, .int (nI (k + 1))), (2, .int ya), (0, .ref m0), (1, .int p1), (4, .int ys), (5, .int (nI j))]) hx hb dX8_views_92 hl (k := 3) rfl (nI_1 _) (by decide) rfl (fun ls hl => ?_)
                refine lv_goto (tgt := 4) hx hb dX8_views_95 (by decide) ?_
                exact ih4 (k + 1) ya ⟨by omega, by omega⟩ (by omega)  _ (lv_sub hl [2, 3, 1, 0] rfl)
              · skip
                have ic_5 := ci_ne (rfl : Int32.toInt ys = _) (show Int32.toInt 0 = 0 by decide) c_5
                refine lv_iconst (v := 1) hx hb dX8_views_85 (by decide) ?_
                refine lv_goto (tgt := 90) hx hb dX8_views_86 (by decide) ?_
                refine lv_iadd hx hb dX8_views_90 ?_
                refine lv_topi (fun x_7 ex_7 => ?_)
                refine lv_istore_n (lv' := [(2, .int x_7), (0, .ref m0), (1, .int p1), (3, .int (nI k)), (4, .int ys), (5, .int (nI j))]) hx hb dX8_views_91 rfl hl (by decide) rfl (fun ls hl => ?_)
                refine lv_iinc (v := (nI (k + 1))) (lv' := [(3, .int (nI (k + 1))), (2, .int x_7), (0, .ref m0), (1, .int p1), (4, .int ys), (5, .int (nI j))]) hx hb dX8_views_92 hl (k := 3) rfl (nI_1 _) (by decide) rfl (fun ls hl => ?_)
                refine lv_goto (tgt := 4) hx hb dX8_views_95 (by decide) ?_
                exact ih4 (k + 1) x_7 ⟨by omega, by omega⟩ (by omega)  _ (lv_sub hl [2, 3, 1, 0] rfl)
            · skip
              have ic_4 := ci_nle (nI_toInt (n := k) (by omega)) (nI_toInt (n := j) (by omega)) c_4
              refine lv_iload hx hb dX8_views_28 (lv_at hl 4 rfl) ?_
              refine lv_if_eq (tgt := 79) hx hb dX8_views_30 (by decide) (fun c_8 => ?_) (fun c_8 => ?_)
              · skip
                have ic_8 := ci_eq (rfl : Int32.toInt ys = _) (show Int32.toInt 0 = 0 by decide) c_8
                refine lv_iload_n hx hb dX8_views_79 rfl (lv_at hl 2 rfl) ?_
                refine lv_iload hx hb dX8_views_80 (lv_at hl 4 rfl) ?_
                refine lv_if_eq (tgt := 89) hx hb dX8_views_82 (by decide) (fun c_9 => ?_) (fun c_9 => ?_)
                · skip
                  have ic_9 := ci_eq (rfl : Int32.toInt ys = _) (show Int32.toInt 0 = 0 by decide) c_9
                  refine lv_iconst (v := 0) hx hb dX8_views_89 (by decide) ?_
                  refine lv_iadd hx hb dX8_views_90 ?_
                  refine lv_topi (fun x_10 ex_10 => ?_)
                  obtain rfl : ya = x_10 := (ex_10.trans (Int32.add_zero _)).symm
                  refine lv_istore_n (lv' := [(2, .int ya), (0, .ref m0), (1, .int p1), (3, .int (nI k)), (4, .int ys), (5, .int (nI j))]) hx hb dX8_views_91 rfl hl (by decide) rfl (fun ls hl => ?_)
                  refine lv_iinc (v := (nI (k + 1))) (lv' := [(3, .int (nI (k + 1))), (2, .int ya), (0, .ref m0), (1, .int p1), (4, .int ys), (5, .int (nI j))]) hx hb dX8_views_92 hl (k := 3) rfl (nI_1 _) (by decide) rfl (fun ls hl => ?_)
                  refine lv_goto (tgt := 4) hx hb dX8_views_95 (by decide) ?_
                  exact ih4 (k + 1) ya ⟨by omega, by omega⟩ (by omega)  _ (lv_sub hl [2, 3, 1, 0] rfl)
                · skip
                  have ic_9 := ci_ne (rfl : Int32.toInt ys = _) (show Int32.toInt 0 = 0 by decide) c_9
                  refine lv_iconst (v := 1) hx hb dX8_views_85 (by decide) ?_
                  refine lv_goto (tgt := 90) hx hb dX8_views_86 (by decide) ?_
                  refine lv_iadd hx hb dX8_views_90 ?_
                  refine lv_topi (fun x_11 ex_11 => ?_)
                  refine lv_istore_n (lv' := [(2, .int x_11), (0, .ref m0), (1, .int p1), (3, .int (nI k)), (4, .int ys), (5, .int (nI j))]) hx hb dX8_views_91 rfl hl (by decide) rfl (fun ls hl => ?_)
                  refine lv_iinc (v := (nI (k + 1))) (lv' := [(3, .int (nI (k + 1))), (2, .int x_11), (0, .ref m0), (1, .int p1), (4, .int ys), (5, .int (nI j))]) hx hb dX8_views_92 hl (k := 3) rfl (nI_1 _) (by decide) rfl (fun ls hl => ?_)
                  refine lv_goto (tgt := 4) hx hb dX8_views_95 (by decide) ?_
                  exact ih4 (k + 1) x_11 ⟨by omega, by omega⟩ (by omega)  _ (lv_sub hl [2, 3, 1, 0] rfl)
              · skip
                have ic_8 := ci_ne (rfl : Int32.toInt ys = _) (show Int32.toInt 0 = 0 by decide) c_8
                have hbk := hys c_8
                refine lv_iload_n hx hb dX8_views_33 rfl (lv_at hl 1 rfl) ?_
                refine lv_iload hx hb dX8_views_34 (lv_at hl 5 rfl) ?_
                refine vp_callSi (va_Run.run (va_runS (As := [.int p1, .int (nI j)]) (rest := []) ⟨hx, hb, hml, hown, hts⟩ (mX8_has l dC dI cyI cyZ p1 (nI j) ) (va_cwS 2 hts gX8_views_X8_has rfl rfl rfl (by decide +kernel) ⟨Nat.le_of_ble_eq_true rfl, Nat.le_of_ble_eq_true rfl⟩) (bs_RS hB (hP.sub (ws' := []) [] rfl)) rfl rfl hl.1 rfl (lv_room (Nat.le_of_ble_eq_true rfl)) dX8_views_36 ⟨Nat.le_of_ble_eq_true rfl, Nat.le_of_ble_eq_true rfl⟩)) (fun r_12 hr_12 => ?_)
                refine lv_if_eq (tgt := 66) hx hb dX8_views_39 (by decide) (fun c_13 => ?_) (fun c_13 => ?_)
                · skip
                  have ic_13 := ci_eq (rfl : Int32.toInt r_12 = _) (show Int32.toInt 0 = 0 by decide) c_13
                  refine lv_iconst (v := 1) hx hb dX8_views_66 (by decide) ?_
                  refine lv_goto (tgt := 71) hx hb dX8_views_67 (by decide) ?_
                  refine lv_istore (lv' := [(4, .int 1), (0, .ref m0), (1, .int p1), (2, .int ya), (3, .int (nI k)), (5, .int (nI j))]) hx hb dX8_views_71 hl (by decide) rfl (fun ls hl => ?_)
                  refine lv_iinc (v := (nI (j + 1))) (lv' := [(5, .int (nI (j + 1))), (4, .int 1), (0, .ref m0), (1, .int p1), (2, .int ya), (3, .int (nI k))]) hx hb dX8_views_73 hl (k := 5) rfl (nI_1 _) (by decide) rfl (fun ls hl => ?_)
                  refine lv_goto (tgt := 22) hx hb dX8_views_76 (by decide) ?_
                  exact ih22 (j + 1) 1 ⟨by omega, by omega⟩ (by omega) (fun _ => hbk) _ (lv_sub hl [2, 3, 4, 5, 1, 0] rfl)
                · skip
                  have ic_13 := ci_ne (rfl : Int32.toInt r_12 = _) (show Int32.toInt 0 = 0 by decide) c_13
                  have hb39 : nb_bit p1 j := hr_12.2 (hr_12.1.resolve_left c_13)
                  refine lv_aload_n hx hb dX8_views_42 rfl (lv_at hl 0 rfl) ?_
                  refine lv_iload_n hx hb dX8_views_43 rfl (lv_at hl 1 rfl) ?_
                  refine lv_iload_n hx hb dX8_views_44 rfl (lv_at hl 3 rfl) ?_
                  refine lv_aload_n hx hb dX8_views_45 rfl (lv_at hl 0 rfl) ?_
                  refine lv_iload_n hx hb dX8_views_46 rfl (lv_at hl 1 rfl) ?_
                  refine lv_iload_n hx hb dX8_views_47 rfl (lv_at hl 3 rfl) ?_
                  refine vp_callSi (va_Run.run (va_runV (As := [.int p1, .int (nI k)]) (rest := [.int (nI k), .int p1, .ref m0]) ⟨hx, hb, hml, hown, hts⟩ (mX8_viewWay l dC dI cyI cyZ m0 st im kq pw nx li il mv so la co d6 d11 d12 n fs k p1 hn3 hn h0f (by omega) hbk) (cwV 2 hts gX8_views_X8_viewWay rfl rfl rfl (by decide +kernel) ⟨Nat.le_of_ble_eq_true rfl, Nat.le_of_ble_eq_true rfl⟩) (bs_RV hB (hP.sub (ws' := [(m0, .inr (6, [.ref st, .ref im, .ref kq, .ref pw, .ref nx, .ref li, .int d6, .ref il, .ref mv, .ref so, .ref la, .int d11, .int d12, .ref co])), (st, .inl (cyI, 72, .inl fs))]) [0, 1] rfl) 0 rfl rfl) rfl rfl hl.1 rfl (lv_room (Nat.le_of_ble_eq_true rfl)) dX8_views_48 ⟨Nat.le_of_ble_eq_true rfl, Nat.le_of_ble_eq_true rfl⟩)) (fun r_14 hr_14 => ?_)
                  obtain ⟨w_15, hw_15, pw_15⟩ := mn_pm hr_14
                  refine lv_iload hx hb dX8_views_51 (lv_at hl 5 rfl) ?_
                  refine lv_aload_n hx hb dX8_views_53 rfl (lv_at hl 0 rfl) ?_
                  refine lv_iload_n hx hb dX8_views_54 rfl (lv_at hl 1 rfl) ?_
                  refine lv_iload hx hb dX8_views_55 (lv_at hl 5 rfl) ?_
                  refine vp_callSi (va_Run.run (va_runV (As := [.int p1, .int (nI j)]) (rest := [.int (nI j), .int r_14, .int (nI k), .int p1, .ref m0]) ⟨hx, hb, hml, hown, hts⟩ (mX8_viewWay l dC dI cyI cyZ m0 st im kq pw nx li il mv so la co d6 d11 d12 n fs j p1 hn3 hn h0f (by omega) hb39) (cwV 2 hts gX8_views_X8_viewWay rfl rfl rfl (by decide +kernel) ⟨Nat.le_of_ble_eq_true rfl, Nat.le_of_ble_eq_true rfl⟩) (bs_RV hB (hP.sub (ws' := [(m0, .inr (6, [.ref st, .ref im, .ref kq, .ref pw, .ref nx, .ref li, .int d6, .ref il, .ref mv, .ref so, .ref la, .int d11, .int d12, .ref co])), (st, .inl (cyI, 72, .inl fs))]) [0, 1] rfl) 0 rfl rfl) rfl rfl hl.1 rfl (lv_room (Nat.le_of_ble_eq_true rfl)) dX8_views_57 ⟨Nat.le_of_ble_eq_true rfl, Nat.le_of_ble_eq_true rfl⟩)) (fun r_16 hr_16 => ?_)
                  obtain ⟨w_17, hw_17, pw_17⟩ := mn_pm hr_16
                  refine vp_callSi (va_Run.run (va_runV (As := [.int p1, .int (nI k), .int r_14, .int (nI j), .int r_16]) (rest := []) ⟨hx, hb, hml, hown, hts⟩ (mX8_held l dC dI cyI cyZ m0 st im kq pw nx li il mv so la co d6 d11 d12 n fs k j w_15 w_17 p1 r_14 r_16 hn3 hn h0f (by omega) (by omega) hw_15 hw_17 hbk hb39 pw_15 pw_17) (cwV 5 hts gX8_views_X8_held rfl rfl rfl (by decide +kernel) ⟨Nat.le_of_ble_eq_true rfl, Nat.le_of_ble_eq_true rfl⟩) (bs_RV hB (hP.sub (ws' := [(m0, .inr (6, [.ref st, .ref im, .ref kq, .ref pw, .ref nx, .ref li, .int d6, .ref il, .ref mv, .ref so, .ref la, .int d11, .int d12, .ref co])), (st, .inl (cyI, 72, .inl fs))]) [0, 1] rfl) 0 rfl rfl) rfl rfl hl.1 rfl (lv_room (Nat.le_of_ble_eq_true rfl)) dX8_views_60 ⟨Nat.le_of_ble_eq_true rfl, Nat.le_of_ble_eq_true rfl⟩)) (fun r_18 hr_18 => ?_)
                  refine lv_if_eq (tgt := 70) hx hb dX8_views_63 (by decide) (fun c_19 => ?_) (fun c_19 => ?_)
                  · skip
                    have ic_19 := ci_eq (rfl : Int32.toInt r_18 = _) (show Int32.toInt 0 = 0 by decide) c_19
                    refine lv_iconst (v := 0) hx hb dX8_views_70 (by decide) ?_
                    refine lv_istore (lv' := [(4, .int 0), (0, .ref m0), (1, .int p1), (2, .int ya), (3, .int (nI k)), (5, .int (nI j))]) hx hb dX8_views_71 hl (by decide) rfl (fun ls hl => ?_)
                    refine lv_iinc (v := (nI (j + 1))) (lv' := [(5, .int (nI (j + 1))), (4, .int 0), (0, .ref m0), (1, .int p1), (2, .int ya), (3, .int (nI k))]) hx hb dX8_views_73 hl (k := 5) rfl (nI_1 _) (by decide) rfl (fun ls hl => ?_)
                    refine lv_goto (tgt := 22) hx hb dX8_views_76 (by decide) ?_
                    exact ih22 (j + 1) 0 ⟨by omega, by omega⟩ (by omega) (fun _ => hbk) _ (lv_sub hl [2, 3, 4, 5, 1, 0] rfl)
                  · skip
                    have ic_19 := ci_ne (rfl : Int32.toInt r_18 = _) (show Int32.toInt 0 = 0 by decide) c_19
                    refine lv_iconst (v := 1) hx hb dX8_views_66 (by decide) ?_
                    refine lv_goto (tgt := 71) hx hb dX8_views_67 (by decide) ?_
                    refine lv_istore (lv' := [(4, .int 1), (0, .ref m0), (1, .int p1), (2, .int ya), (3, .int (nI k)), (5, .int (nI j))]) hx hb dX8_views_71 hl (by decide) rfl (fun ls hl => ?_)
                    refine lv_iinc (v := (nI (j + 1))) (lv' := [(5, .int (nI (j + 1))), (4, .int 1), (0, .ref m0), (1, .int p1), (2, .int ya), (3, .int (nI k))]) hx hb dX8_views_73 hl (k := 5) rfl (nI_1 _) (by decide) rfl (fun ls hl => ?_)
                    refine lv_goto (tgt := 22) hx hb dX8_views_76 (by decide) ?_
                    exact ih22 (j + 1) 1 ⟨by omega, by omega⟩ (by omega) (fun _ => hbk) _ (lv_sub hl [2, 3, 4, 5, 1, 0] rfl)
        exact L22 (k + 1) 0 r_3 ⟨by omega, by omega⟩ (by omega) hys0 _ (lv_sub hl [2, 3, 4, 5, 1, 0] rfl)
  exact L4 (n + 1) 0 0 ⟨by omega, by omega⟩ (by omega)  _ (lv_sub hl [2, 3, 1, 0] rfl)

set_option maxHeartbeats 4000000 in
set_option maxRecDepth 100000 in
theorem mX8_turnedBy (l : Launch) (dC : Nat → ClassId) (dI : Nat → Nat → Nat) (cyI cyZ : ClassId) (m0 : Nat) (st : Nat) (im : Nat) (kq : Nat) (pw : Nat) (nx : Nat) (li : Nat) (il : Nat) (mv : Nat) (so : Nat) (la : Nat) (co : Nat) (d6 : Int32) (d11 : Int32) (d12 : Int32) (n : Nat) (fs : Nat → Int32) (p1 : Int32) (hn3 : 3 ≤ n) (hn : n ≤ 10) (h0f : fs 0 = nI n) : Met l yX8_turnedBy wsX8_turnedBy ({ frames := 1, cells := 0, slots := 0, locals := 21 }) (bs_R dC dI cyI cyZ [.ref m0, .int p1] [(m0, .inr (6, [.ref st, .ref im, .ref kq, .ref pw, .ref nx, .ref li, .int d6, .ref il, .ref mv, .ref so, .ref la, .int d11, .int d12, .ref co])), (st, .inl (cyI, 72, .inl fs))]) (vp_Si (fun r : Int32 => True)) 0 0 (fun _ => False) := by
  refine Met.ofW (cc := cX8_turnedBy) (maxL := 5) (ret := (some .int)) (by decide) rfl ?_
  intro p e s m args below meth c s₁ B hml hv
  obtain ⟨rfl, hB, hP⟩ := hv
  have hK := hB.1
  have hN := hB.2
  have hx := B.exec
  have hb := B.bytes
  have hr := B.returns
  have hts := atoms_spec (ws := wsX8_turnedBy) B.pre
  have hown : s.vm.findClass RX8 = some m.cls := findClass_of_methodNamed B.named
  have hlocks := B.notSynchronized
  have hP : va_P (dC, dI) vwCl [(m0, .inr (6, [.ref st, .ref im, .ref kq, .ref pw, .ref nx, .ref li, .int d6, .ref il, .ref mv, .ref so, .ref la, .int d11, .int d12, .ref co])), (st, .inl (cyI, 72, .inl fs))] s.heap := hP
  have hl := lv_entry ([.ref m0, .int p1]) (n := 5) (Nat.le_of_ble_eq_true rfl)
  rw [lg_entry_eq]
  generalize (lg_sl ([.ref m0, .int p1]) ++ List.replicate (5 - (lg_sl ([.ref m0, .int p1])).length) Slot.unset).toArray = ls at hl ⊢
  have hl : lv_has ls 5 [(0, .ref m0), (1, .int p1)] := hl
  refine lv_iload_n hx hb dX8_turnedBy_0 rfl (lv_at hl 1 rfl) ?_
  refine lv_if_ne (tgt := 7) hx hb dX8_turnedBy_1 (by decide) (fun c_1 => ?_) (fun c_1 => ?_)
  · skip
    have ic_1 := ci_ne (rfl : Int32.toInt p1 = _) (show Int32.toInt 0 = 0 by decide) c_1
    refine lv_iconst (v := 1) hx hb dX8_turnedBy_7 (by decide) ?_
    refine lv_istore_n (lv' := [(2, .int 1), (0, .ref m0), (1, .int p1)]) hx hb dX8_turnedBy_8 rfl hl (by decide) rfl (fun ls hl => ?_)
    have L9 : ∀ (n9 : Nat), ∀ (k : Nat), (1 ≤ k ∧ k ≤ n) → (n + 1 ≤ k + n9) → ∀ (ls : Array Slot), lv_has ls 5 [(0, .ref m0), (1, .int p1), (2, .int (nI k))] → W p l e (headSpec wsX8_turnedBy ({ frames := 1, cells := 0, slots := 0, locals := 21 })).room s m ([.ref m0, .int p1] : List Value).toArray below meth c s.heap [] 0 0 (MQ below (vp_Si (fun r : Int32 => True)) ([.ref m0, .int p1] : List Value).toArray s 0 0 (fun _ => False)) (F0 m 9 ls []) := by
      intro n9
      induction n9 with
      | zero =>
        intro k hk9 hn9 ls hl
        exfalso
        omega
      | succ n9 ih9 =>
        intro k hk9 hn9 ls hl
        refine lv_iload_n hx hb dX8_turnedBy_9 rfl (lv_at hl 2 rfl) ?_
        refine lv_aload_n hx hb dX8_turnedBy_10 rfl (lv_at hl 0 rfl) ?_
        refine vp_callSi (va_Run.run (va_runV (As := []) (rest := [.int (nI k)]) ⟨hx, hb, hml, hown, hts⟩ (mX8_cells l dC dI cyI cyZ m0 st im kq pw nx li il mv so la co d6 d11 d12 n fs hn3 hn h0f) (cwV 0 hts gX8_turnedBy_X8_cells rfl rfl rfl (by decide +kernel) ⟨Nat.le_of_ble_eq_true rfl, Nat.le_of_ble_eq_true rfl⟩) (bs_RV hB (hP.sub (ws' := [(m0, .inr (6, [.ref st, .ref im, .ref kq, .ref pw, .ref nx, .ref li, .int d6, .ref il, .ref mv, .ref so, .ref la, .int d11, .int d12, .ref co])), (st, .inl (cyI, 72, .inl fs))]) [0, 1] rfl) 0 rfl rfl) rfl rfl hl.1 rfl (lv_room (Nat.le_of_ble_eq_true rfl)) dX8_turnedBy_11 ⟨Nat.le_of_ble_eq_true rfl, Nat.le_of_ble_eq_true rfl⟩)) (fun r_2 hr_2 => ?_)
        obtain rfl : (nI n) = r_2 := Eq.symm hr_2
        refine lv_icmp_ge (tgt := 81) hx hb dX8_turnedBy_14 (by decide) (fun c_3 => ?_) (fun c_3 => ?_)
        · skip
          have ic_3 := ci_le (nI_toInt (n := n) (by omega)) (nI_toInt (n := k) (by omega)) c_3
          refine lv_aload_n hx hb dX8_turnedBy_81 rfl (lv_at hl 0 rfl) ?_
          refine vp_callSi (va_Run.run (va_runV (As := []) (rest := []) ⟨hx, hb, hml, hown, hts⟩ (mX8_cells l dC dI cyI cyZ m0 st im kq pw nx li il mv so la co d6 d11 d12 n fs hn3 hn h0f) (cwV 0 hts gX8_turnedBy_X8_cells rfl rfl rfl (by decide +kernel) ⟨Nat.le_of_ble_eq_true rfl, Nat.le_of_ble_eq_true rfl⟩) (bs_RV hB (hP.sub (ws' := [(m0, .inr (6, [.ref st, .ref im, .ref kq, .ref pw, .ref nx, .ref li, .int d6, .ref il, .ref mv, .ref so, .ref la, .int d11, .int d12, .ref co])), (st, .inl (cyI, 72, .inl fs))]) [0, 1] rfl) 0 rfl rfl) rfl rfl hl.1 rfl (lv_room (Nat.le_of_ble_eq_true rfl)) dX8_turnedBy_82 ⟨Nat.le_of_ble_eq_true rfl, Nat.le_of_ble_eq_true rfl⟩)) (fun r_4 hr_4 => ?_)
          obtain rfl : (nI n) = r_4 := Eq.symm hr_4
          exact W.iret (v := (nI n)) hx hb hr (fun t ht hW => ⟨(nI n), rfl, trivial, ht⟩) (fun q h => by cases h) dX8_turnedBy_85
        · skip
          have ic_3 := ci_nle (nI_toInt (n := n) (by omega)) (nI_toInt (n := k) (by omega)) c_3
          refine lv_iconst (v := 1) hx hb dX8_turnedBy_17 (by decide) ?_
          refine lv_istore_n (lv' := [(3, .int 1), (0, .ref m0), (1, .int p1), (2, .int (nI k))]) hx hb dX8_turnedBy_18 rfl hl (by decide) rfl (fun ls hl => ?_)
          refine lv_iconst (v := 0) hx hb dX8_turnedBy_19 (by decide) ?_
          refine lv_istore (lv' := [(4, .int 0), (3, .int 1), (0, .ref m0), (1, .int p1), (2, .int (nI k))]) hx hb dX8_turnedBy_20 hl (by decide) rfl (fun ls hl => ?_)
          have L22 : ∀ (n22 : Nat), ∀ (j : Nat) (ya : Int32), (0 ≤ j ∧ j ≤ n) → (n + 1 ≤ j + n22) → ∀ (ls : Array Slot), lv_has ls 5 [(0, .ref m0), (1, .int p1), (2, .int (nI k)), (3, .int ya), (4, .int (nI j))] → W p l e (headSpec wsX8_turnedBy ({ frames := 1, cells := 0, slots := 0, locals := 21 })).room s m ([.ref m0, .int p1] : List Value).toArray below meth c s.heap [] 0 0 (MQ below (vp_Si (fun r : Int32 => True)) ([.ref m0, .int p1] : List Value).toArray s 0 0 (fun _ => False)) (F0 m 22 ls []) := by
            intro n22
            induction n22 with
            | zero =>
              intro j ya hk22 hn22 ls hl
              exfalso
              omega
            | succ n22 ih22 =>
              intro j ya hk22 hn22 ls hl
              refine lv_iload hx hb dX8_turnedBy_22 (lv_at hl 4 rfl) ?_
              refine lv_aload_n hx hb dX8_turnedBy_24 rfl (lv_at hl 0 rfl) ?_
              refine vp_callSi (va_Run.run (va_runV (As := []) (rest := [.int (nI j)]) ⟨hx, hb, hml, hown, hts⟩ (mX8_cells l dC dI cyI cyZ m0 st im kq pw nx li il mv so la co d6 d11 d12 n fs hn3 hn h0f) (cwV 0 hts gX8_turnedBy_X8_cells rfl rfl rfl (by decide +kernel) ⟨Nat.le_of_ble_eq_true rfl, Nat.le_of_ble_eq_true rfl⟩) (bs_RV hB (hP.sub (ws' := [(m0, .inr (6, [.ref st, .ref im, .ref kq, .ref pw, .ref nx, .ref li, .int d6, .ref il, .ref mv, .ref so, .ref la, .int d11, .int d12, .ref co])), (st, .inl (cyI, 72, .inl fs))]) [0, 1] rfl) 0 rfl rfl) rfl rfl hl.1 rfl (lv_room (Nat.le_of_ble_eq_true rfl)) dX8_turnedBy_25 ⟨Nat.le_of_ble_eq_true rfl, Nat.le_of_ble_eq_true rfl⟩)) (fun r_5 hr_5 => ?_)
              obtain rfl : (nI n) = r_5 := Eq.symm hr_5
              refine lv_icmp_ge (tgt := 69) hx hb dX8_turnedBy_28 (by decide) (fun c_6 => ?_) (fun c_6 => ?_)
              · skip
                have ic_6 := ci_le (nI_toInt (n := n) (by omega)) (nI_toInt (n := j) (by omega)) c_6
                refine lv_iload_n hx hb dX8_turnedBy_69 rfl (lv_at hl 3 rfl) ?_
                refine lv_if_eq (tgt := 75) hx hb dX8_turnedBy_70 (by decide) (fun c_7 => ?_) (fun c_7 => ?_)
                · skip
                  have ic_7 := ci_eq (rfl : Int32.toInt ya = _) (show Int32.toInt 0 = 0 by decide) c_7
                  refine lv_iinc (v := (nI (k + 1))) (lv' := [(2, .int (nI (k + 1))), (0, .ref m0), (1, .int p1), (3, .int ya), (4, .int (nI j))]) hx hb dX8_turnedBy_75 hl (k := 2) rfl (nI_1 _) (by decide) rfl (fun ls hl => ?_)
                  refine lv_goto (tgt := 9) hx hb dX8_turnedBy_78 (by decide) ?_
                  exact ih9 (k + 1)  ⟨by omega, by omega⟩ (by omega)  _ (lv_sub hl [1, 2, 0] rfl)
                · skip
                  have ic_7 := ci_ne (rfl : Int32.toInt ya = _) (show Int32.toInt 0 = 0 by decide) c_7
                  refine lv_iload_n hx hb dX8_turnedBy_73 rfl (lv_at hl 2 rfl) ?_
                  exact W.iret (v := (nI k)) hx hb hr (fun t ht hW => ⟨(nI k), rfl, trivial, ht⟩) (fun q h => by cases h) dX8_turnedBy_74
              · skip
                have ic_6 := ci_nle (nI_toInt (n := n) (by omega)) (nI_toInt (n := j) (by omega)) c_6
                refine lv_iload_n hx hb dX8_turnedBy_31 rfl (lv_at hl 3 rfl) ?_
                refine lv_if_eq (tgt := 61) hx hb dX8_turnedBy_32 (by decide) (fun c_8 => ?_) (fun c_8 => ?_)
                · skip
                  have ic_8 := ci_eq (rfl : Int32.toInt ya = _) (show Int32.toInt 0 = 0 by decide) c_8
                  refine lv_iconst (v := 0) hx hb dX8_turnedBy_61 (by decide) ?_
                  refine lv_istore_n (lv' := [(3, .int 0), (0, .ref m0), (1, .int p1), (2, .int (nI k)), (4, .int (nI j))]) hx hb dX8_turnedBy_62 rfl hl (by decide) rfl (fun ls hl => ?_)
                  refine lv_iinc (v := (nI (j + 1))) (lv' := [(4, .int (nI (j + 1))), (3, .int 0), (0, .ref m0), (1, .int p1), (2, .int (nI k))]) hx hb dX8_turnedBy_63 hl (k := 4) rfl (nI_1 _) (by decide) rfl (fun ls hl => ?_)
                  refine lv_goto (tgt := 22) hx hb dX8_turnedBy_66 (by decide) ?_
                  exact ih22 (j + 1) 0 ⟨by omega, by omega⟩ (by omega)  _ (lv_sub hl [2, 3, 4, 1, 0] rfl)
                · skip
                  have ic_8 := ci_ne (rfl : Int32.toInt ya = _) (show Int32.toInt 0 = 0 by decide) c_8
                  refine lv_iload_n hx hb dX8_turnedBy_35 rfl (lv_at hl 1 rfl) ?_
                  refine lv_iload hx hb dX8_turnedBy_36 (lv_at hl 4 rfl) ?_
                  refine vp_callSi (va_Run.run (va_runS (As := [.int p1, .int (nI j)]) (rest := []) ⟨hx, hb, hml, hown, hts⟩ (mX8_has l dC dI cyI cyZ p1 (nI j) ) (va_cwS 2 hts gX8_turnedBy_X8_has rfl rfl rfl (by decide +kernel) ⟨Nat.le_of_ble_eq_true rfl, Nat.le_of_ble_eq_true rfl⟩) (bs_RS hB (hP.sub (ws' := []) [] rfl)) rfl rfl hl.1 rfl (lv_room (Nat.le_of_ble_eq_true rfl)) dX8_turnedBy_38 ⟨Nat.le_of_ble_eq_true rfl, Nat.le_of_ble_eq_true rfl⟩)) (fun r_9 hr_9 => ?_)
                  refine lv_iload_n hx hb dX8_turnedBy_41 rfl (lv_at hl 1 rfl) ?_
                  refine lv_iload hx hb dX8_turnedBy_42 (lv_at hl 4 rfl) ?_
                  refine lv_iload_n hx hb dX8_turnedBy_44 rfl (lv_at hl 2 rfl) ?_
                  refine lv_iadd hx hb dX8_turnedBy_45 ?_
                  refine lv_topi (fun x_10 ex_10 => ?_)
                  obtain rfl : (nI (j + k)) = x_10 := (ex_10.trans (nI_add _ _)).symm
                  refine lv_aload_n hx hb dX8_turnedBy_46 rfl (lv_at hl 0 rfl) ?_
                  refine vp_callSi (va_Run.run (va_runV (As := []) (rest := [.int (nI (j + k)), .int p1, .int r_9]) ⟨hx, hb, hml, hown, hts⟩ (mX8_cells l dC dI cyI cyZ m0 st im kq pw nx li il mv so la co d6 d11 d12 n fs hn3 hn h0f) (cwV 0 hts gX8_turnedBy_X8_cells rfl rfl rfl (by decide +kernel) ⟨Nat.le_of_ble_eq_true rfl, Nat.le_of_ble_eq_true rfl⟩) (bs_RV hB (hP.sub (ws' := [(m0, .inr (6, [.ref st, .ref im, .ref kq, .ref pw, .ref nx, .ref li, .int d6, .ref il, .ref mv, .ref so, .ref la, .int d11, .int d12, .ref co])), (st, .inl (cyI, 72, .inl fs))]) [0, 1] rfl) 0 rfl rfl) rfl rfl hl.1 rfl (lv_room (Nat.le_of_ble_eq_true rfl)) dX8_turnedBy_47 ⟨Nat.le_of_ble_eq_true rfl, Nat.le_of_ble_eq_true rfl⟩)) (fun r_11 hr_11 => ?_)
                  obtain rfl : (nI n) = r_11 := Eq.symm hr_11
                  refine lv_irem hx hb dX8_turnedBy_50 (nI_ne0 (by omega) (by omega)) ?_
                  refine lv_topi (fun x_12 ex_12 => ?_)
                  refine vp_callSi (va_Run.run (va_runS (As := [.int p1, .int x_12]) (rest := [.int r_9]) ⟨hx, hb, hml, hown, hts⟩ (mX8_has l dC dI cyI cyZ p1 x_12 ) (va_cwS 2 hts gX8_turnedBy_X8_has rfl rfl rfl (by decide +kernel) ⟨Nat.le_of_ble_eq_true rfl, Nat.le_of_ble_eq_true rfl⟩) (bs_RS hB (hP.sub (ws' := []) [] rfl)) rfl rfl hl.1 rfl (lv_room (Nat.le_of_ble_eq_true rfl)) dX8_turnedBy_51 ⟨Nat.le_of_ble_eq_true rfl, Nat.le_of_ble_eq_true rfl⟩)) (fun r_13 hr_13 => ?_)
                  refine lv_icmp_ne (tgt := 61) hx hb dX8_turnedBy_54 (by decide) (fun c_14 => ?_) (fun c_14 => ?_)
                  · skip
                    have ic_14 := ci_ne (rfl : Int32.toInt r_9 = _) (rfl : Int32.toInt r_13 = _) c_14
                    refine lv_iconst (v := 0) hx hb dX8_turnedBy_61 (by decide) ?_
                    refine lv_istore_n (lv' := [(3, .int 0), (0, .ref m0), (1, .int p1), (2, .int (nI k)), (4, .int (nI j))]) hx hb dX8_turnedBy_62 rfl hl (by decide) rfl (fun ls hl => ?_)
                    refine lv_iinc (v := (nI (j + 1))) (lv' := [(4, .int (nI (j + 1))), (3, .int 0), (0, .ref m0), (1, .int p1), (2, .int (nI k))]) hx hb dX8_turnedBy_63 hl (k := 4) rfl (nI_1 _) (by decide) rfl (fun ls hl => ?_)
                    refine lv_goto (tgt := 22) hx hb dX8_turnedBy_66 (by decide) ?_
                    exact ih22 (j + 1) 0 ⟨by omega, by omega⟩ (by omega)  _ (lv_sub hl [2, 3, 4, 1, 0] rfl)
                  · skip
                    have ic_14 := ci_eq (rfl : Int32.toInt r_9 = _) (rfl : Int32.toInt r_13 = _) c_14
                    refine lv_iconst (v := 1) hx hb dX8_turnedBy_57 (by decide) ?_
                    refine lv_goto (tgt := 62) hx hb dX8_turnedBy_58 (by decide) ?_
                    refine lv_istore_n (lv' := [(3, .int 1), (0, .ref m0), (1, .int p1), (2, .int (nI k)), (4, .int (nI j))]) hx hb dX8_turnedBy_62 rfl hl (by decide) rfl (fun ls hl => ?_)
                    refine lv_iinc (v := (nI (j + 1))) (lv' := [(4, .int (nI (j + 1))), (3, .int 1), (0, .ref m0), (1, .int p1), (2, .int (nI k))]) hx hb dX8_turnedBy_63 hl (k := 4) rfl (nI_1 _) (by decide) rfl (fun ls hl => ?_)
                    refine lv_goto (tgt := 22) hx hb dX8_turnedBy_66 (by decide) ?_
                    exact ih22 (j + 1) 1 ⟨by omega, by omega⟩ (by omega)  _ (lv_sub hl [2, 3, 4, 1, 0] rfl)
          exact L22 (n + 1) 0 1 ⟨by omega, by omega⟩ (by omega)  _ (lv_sub hl [2, 3, 4, 1, 0] rfl)
    exact L9 (n + 1) 1  ⟨by omega, by omega⟩ (by omega)  _ (lv_sub hl [1, 2, 0] rfl)
  · skip
    have ic_1 := ci_eq (rfl : Int32.toInt p1 = _) (show Int32.toInt 0 = 0 by decide) c_1
    refine lv_bipush (v := (-6)) hx hb dX8_turnedBy_4 (by decide) ?_
    exact W.iret (v := (-6)) hx hb hr (fun t ht hW => ⟨(-6), rfl, trivial, ht⟩) (fun q h => by cases h) dX8_turnedBy_6

set_option maxHeartbeats 4000000 in
set_option maxRecDepth 100000 in
theorem mX8_shape (l : Launch) (dC : Nat → ClassId) (dI : Nat → Nat → Nat) (cyI cyZ : ClassId) (m0 : Nat) (st : Nat) (im : Nat) (kq : Nat) (pw : Nat) (nx : Nat) (li : Nat) (il : Nat) (mv : Nat) (so : Nat) (la : Nat) (co : Nat) (d6 : Int32) (d11 : Int32) (d12 : Int32) (n : Nat) (fs : Nat → Int32) (wq : Nat → Nat) (fp : Nat → Int32) (p1 : Int32) (hn3 : 3 ≤ n) (hn : n ≤ 10) (h0f : fs 0 = nI n) (hwk : ∀ j, j < 10 → fs (1 + j) = nI (wq j)) (hws : mn_sum wq 10 ≤ 5) (hp : ∀ j, j ≤ 10 → fp j = nI (3 ^ j)) : Met l yX8_shape wsX8_shape ({ frames := 7, cells := 0, slots := 0, locals := 168 }) (bs_R dC dI cyI cyZ [.ref m0, .int p1] [(m0, .inr (6, [.ref st, .ref im, .ref kq, .ref pw, .ref nx, .ref li, .int d6, .ref il, .ref mv, .ref so, .ref la, .int d11, .int d12, .ref co])), (st, .inl (cyI, 72, .inl fs)), (pw, .inl (cyI, 11, .inl fp))]) (vp_Si (fun r : Int32 => True)) 0 0 (fun _ => False) := by
  refine Met.ofW (cc := cX8_shape) (maxL := 3) (ret := (some .int)) (by decide) rfl ?_
  intro p e s m args below meth c s₁ B hml hv
  obtain ⟨rfl, hB, hP⟩ := hv
  have hK := hB.1
  have hN := hB.2
  have hx := B.exec
  have hb := B.bytes
  have hr := B.returns
  have hts := atoms_spec (ws := wsX8_shape) B.pre
  have hown : s.vm.findClass RX8 = some m.cls := findClass_of_methodNamed B.named
  have hlocks := B.notSynchronized
  have hP : va_P (dC, dI) vwCl [(m0, .inr (6, [.ref st, .ref im, .ref kq, .ref pw, .ref nx, .ref li, .int d6, .ref il, .ref mv, .ref so, .ref la, .int d11, .int d12, .ref co])), (st, .inl (cyI, 72, .inl fs)), (pw, .inl (cyI, 11, .inl fp))] s.heap := hP
  have hl := lv_entry ([.ref m0, .int p1]) (n := 3) (Nat.le_of_ble_eq_true rfl)
  rw [lg_entry_eq]
  generalize (lg_sl ([.ref m0, .int p1]) ++ List.replicate (3 - (lg_sl ([.ref m0, .int p1])).length) Slot.unset).toArray = ls at hl ⊢
  have hl : lv_has ls 3 [(0, .ref m0), (1, .int p1)] := hl
  refine lv_aload_n hx hb dX8_shape_0 rfl (lv_at hl 0 rfl) ?_
  refine lv_aload_n hx hb dX8_shape_1 rfl (lv_at hl 0 rfl) ?_
  refine vp_callSi (va_Run.run (va_runV (As := []) (rest := [.ref m0]) ⟨hx, hb, hml, hown, hts⟩ (mX8_now l dC dI cyI cyZ m0 st im kq pw nx li il mv so la co d6 d11 d12 n fs wq fp hn3 hn h0f hwk hws hp) (cwV 0 hts gX8_shape_X8_now rfl rfl rfl (by decide +kernel) ⟨Nat.le_of_ble_eq_true rfl, Nat.le_of_ble_eq_true rfl⟩) (bs_RV hB (hP.sub (ws' := [(m0, .inr (6, [.ref st, .ref im, .ref kq, .ref pw, .ref nx, .ref li, .int d6, .ref il, .ref mv, .ref so, .ref la, .int d11, .int d12, .ref co])), (st, .inl (cyI, 72, .inl fs)), (pw, .inl (cyI, 11, .inl fp))]) [0, 1, 2] rfl) 0 rfl rfl) rfl rfl hl.1 rfl (lv_room (Nat.le_of_ble_eq_true rfl)) dX8_shape_2 ⟨Nat.le_of_ble_eq_true rfl, Nat.le_of_ble_eq_true rfl⟩)) (fun r_1 hr_1 => ?_)
  obtain rfl : (nI (mn_code wq n)) = r_1 := Eq.symm hr_1
  refine vp_callSi (va_Run.run (va_runV (As := [.int (nI (mn_code wq n))]) (rest := []) ⟨hx, hb, hml, hown, hts⟩ (mX8_standsOf l dC dI cyI cyZ m0 st im kq pw nx li il mv so la co d6 d11 d12 n fs fp (nI (mn_code wq n)) hn3 hn h0f hp) (cwV 1 hts gX8_shape_X8_standsOf rfl rfl rfl (by decide +kernel) ⟨Nat.le_of_ble_eq_true rfl, Nat.le_of_ble_eq_true rfl⟩) (bs_RV hB (hP.sub (ws' := [(m0, .inr (6, [.ref st, .ref im, .ref kq, .ref pw, .ref nx, .ref li, .int d6, .ref il, .ref mv, .ref so, .ref la, .int d11, .int d12, .ref co])), (st, .inl (cyI, 72, .inl fs)), (pw, .inl (cyI, 11, .inl fp))]) [0, 1, 2] rfl) 0 rfl rfl) rfl rfl hl.1 rfl (lv_room (Nat.le_of_ble_eq_true rfl)) dX8_shape_5 ⟨Nat.le_of_ble_eq_true rfl, Nat.le_of_ble_eq_true rfl⟩)) (fun r_2 hr_2 => ?_)
  obtain rfl : (nb_st (nI (mn_code wq n)) n) = r_2 := Eq.symm hr_2
  refine lv_istore_n (lv' := [(2, .int (nb_st (nI (mn_code wq n)) n)), (0, .ref m0), (1, .int p1)]) hx hb dX8_shape_8 rfl hl (by decide) rfl (fun ls hl => ?_)
  refine lv_iload_n hx hb dX8_shape_9 rfl (lv_at hl 2 rfl) ?_
  rcases nb_sw p1 5 5 rfl with w_3 | ⟨w_3k, w_3l, w_3⟩
  · skip
    refine lv_tableOut (tgt := 120) hx hb dX8_shape_10 w_3 (by decide) ?_
    refine lv_bipush (v := (-2)) hx hb dX8_shape_120 (by decide) ?_
    exact W.iret (v := (-2)) hx hb hr (fun t ht hW => ⟨(-2), rfl, trivial, ht⟩) (fun q h => by cases h) dX8_shape_122
  · skip
    rcases (show w_3k = 0 ∨ w_3k = 1 ∨ w_3k = 2 ∨ w_3k = 3 ∨ w_3k = 4 ∨ w_3k = 5 by omega) with rfl | rfl | rfl | rfl | rfl | rfl
    · skip
      have ew_3 : p1 = 0 := w_3
      refine W.eq (g2 := F0 m 10 ls (.int 0 :: [])) (by rw [ew_3]) ?_
      refine lv_tableIn (off := 38) (tgt := 48) hx hb dX8_shape_10 (by decide) (by decide) (by decide) (by decide) ?_
      refine lv_aload_n hx hb dX8_shape_48 rfl (lv_at hl 1 rfl) ?_
      refine lv_iload_n hx hb dX8_shape_49 rfl (lv_at hl 0 rfl) ?_
      refine vp_callSi (va_Run.run (va_runV (As := [.int (nb_st (nI (mn_code wq n)) n)]) (rest := []) ⟨hx, hb, hml, hown, hts⟩ (mX8_isTurned l dC dI cyI cyZ m0 st im kq pw nx li il mv so la co d6 d11 d12 n fs (nb_st (nI (mn_code wq n)) n) hn3 hn h0f) (cwV 1 hts gX8_shape_X8_isTurned rfl rfl rfl (by decide +kernel) ⟨Nat.le_of_ble_eq_true rfl, Nat.le_of_ble_eq_true rfl⟩) (bs_RV hB (hP.sub (ws' := [(m0, .inr (6, [.ref st, .ref im, .ref kq, .ref pw, .ref nx, .ref li, .int d6, .ref il, .ref mv, .ref so, .ref la, .int d11, .int d12, .ref co])), (st, .inl (cyI, 72, .inl fs))]) [0, 1] rfl) 0 rfl rfl) rfl rfl hl.1 rfl (lv_room (Nat.le_of_ble_eq_true rfl)) dX8_shape_50 ⟨Nat.le_of_ble_eq_true rfl, Nat.le_of_ble_eq_true rfl⟩)) (fun r_4 hr_4 => ?_)
      refine lv_if_eq (tgt := 60) hx hb dX8_shape_53 (by decide) (fun c_5 => ?_) (fun c_5 => ?_)
      · skip
        have ic_5 := ci_eq (rfl : Int32.toInt r_4 = _) (show Int32.toInt 0 = 0 by decide) c_5
        refine lv_iconst (v := 0) hx hb dX8_shape_60 (by decide) ?_
        exact W.iret (v := 0) hx hb hr (fun t ht hW => ⟨0, rfl, trivial, ht⟩) (fun q h => by cases h) dX8_shape_61
      · skip
        have ic_5 := ci_ne (rfl : Int32.toInt r_4 = _) (show Int32.toInt 0 = 0 by decide) c_5
        refine lv_iconst (v := 1) hx hb dX8_shape_56 (by decide) ?_
        refine lv_goto (tgt := 61) hx hb dX8_shape_57 (by decide) ?_
        exact W.iret (v := 1) hx hb hr (fun t ht hW => ⟨1, rfl, trivial, ht⟩) (fun q h => by cases h) dX8_shape_61
    · skip
      have ew_3 : p1 = 1 := w_3
      refine W.eq (g2 := F0 m 10 ls (.int 1 :: [])) (by rw [ew_3]) ?_
      refine lv_tableIn (off := 52) (tgt := 62) hx hb dX8_shape_10 (by decide) (by decide) (by decide) (by decide) ?_
      refine lv_aload_n hx hb dX8_shape_62 rfl (lv_at hl 1 rfl) ?_
      refine lv_iload_n hx hb dX8_shape_63 rfl (lv_at hl 0 rfl) ?_
      refine vp_callSi (va_Run.run (va_runV (As := [.int (nb_st (nI (mn_code wq n)) n)]) (rest := []) ⟨hx, hb, hml, hown, hts⟩ (mX8_isMirrored l dC dI cyI cyZ m0 st im kq pw nx li il mv so la co d6 d11 d12 n fs (nb_st (nI (mn_code wq n)) n) hn3 hn h0f) (cwV 1 hts gX8_shape_X8_isMirrored rfl rfl rfl (by decide +kernel) ⟨Nat.le_of_ble_eq_true rfl, Nat.le_of_ble_eq_true rfl⟩) (bs_RV hB (hP.sub (ws' := [(m0, .inr (6, [.ref st, .ref im, .ref kq, .ref pw, .ref nx, .ref li, .int d6, .ref il, .ref mv, .ref so, .ref la, .int d11, .int d12, .ref co])), (st, .inl (cyI, 72, .inl fs))]) [0, 1] rfl) 0 rfl rfl) rfl rfl hl.1 rfl (lv_room (Nat.le_of_ble_eq_true rfl)) dX8_shape_64 ⟨Nat.le_of_ble_eq_true rfl, Nat.le_of_ble_eq_true rfl⟩)) (fun r_6 hr_6 => ?_)
      refine lv_if_eq (tgt := 74) hx hb dX8_shape_67 (by decide) (fun c_7 => ?_) (fun c_7 => ?_)
      · skip
        have ic_7 := ci_eq (rfl : Int32.toInt r_6 = _) (show Int32.toInt 0 = 0 by decide) c_7
        refine lv_iconst (v := 0) hx hb dX8_shape_74 (by decide) ?_
        exact W.iret (v := 0) hx hb hr (fun t ht hW => ⟨0, rfl, trivial, ht⟩) (fun q h => by cases h) dX8_shape_75
      · skip
        have ic_7 := ci_ne (rfl : Int32.toInt r_6 = _) (show Int32.toInt 0 = 0 by decide) c_7
        refine lv_iconst (v := 1) hx hb dX8_shape_70 (by decide) ?_
        refine lv_goto (tgt := 75) hx hb dX8_shape_71 (by decide) ?_
        exact W.iret (v := 1) hx hb hr (fun t ht hW => ⟨1, rfl, trivial, ht⟩) (fun q h => by cases h) dX8_shape_75
    · skip
      have ew_3 : p1 = 2 := w_3
      refine W.eq (g2 := F0 m 10 ls (.int 2 :: [])) (by rw [ew_3]) ?_
      refine lv_tableIn (off := 66) (tgt := 76) hx hb dX8_shape_10 (by decide) (by decide) (by decide) (by decide) ?_
      refine lv_iload_n hx hb dX8_shape_76 rfl (lv_at hl 0 rfl) ?_
      refine lv_if_eq (tgt := 100) hx hb dX8_shape_77 (by decide) (fun c_8 => ?_) (fun c_8 => ?_)
      · skip
        have ic_8 := ci_eq (rfl : Int32.toInt (nb_st (nI (mn_code wq n)) n) = _) (show Int32.toInt 0 = 0 by decide) c_8
        refine lv_iconst (v := 0) hx hb dX8_shape_100 (by decide) ?_
        exact W.iret (v := 0) hx hb hr (fun t ht hW => ⟨0, rfl, trivial, ht⟩) (fun q h => by cases h) dX8_shape_101
      · skip
        have ic_8 := ci_ne (rfl : Int32.toInt (nb_st (nI (mn_code wq n)) n) = _) (show Int32.toInt 0 = 0 by decide) c_8
        refine lv_aload_n hx hb dX8_shape_80 rfl (lv_at hl 1 rfl) ?_
        refine lv_iload_n hx hb dX8_shape_81 rfl (lv_at hl 0 rfl) ?_
        refine vp_callSi (va_Run.run (va_runV (As := [.int (nb_st (nI (mn_code wq n)) n)]) (rest := []) ⟨hx, hb, hml, hown, hts⟩ (mX8_isTurned l dC dI cyI cyZ m0 st im kq pw nx li il mv so la co d6 d11 d12 n fs (nb_st (nI (mn_code wq n)) n) hn3 hn h0f) (cwV 1 hts gX8_shape_X8_isTurned rfl rfl rfl (by decide +kernel) ⟨Nat.le_of_ble_eq_true rfl, Nat.le_of_ble_eq_true rfl⟩) (bs_RV hB (hP.sub (ws' := [(m0, .inr (6, [.ref st, .ref im, .ref kq, .ref pw, .ref nx, .ref li, .int d6, .ref il, .ref mv, .ref so, .ref la, .int d11, .int d12, .ref co])), (st, .inl (cyI, 72, .inl fs))]) [0, 1] rfl) 0 rfl rfl) rfl rfl hl.1 rfl (lv_room (Nat.le_of_ble_eq_true rfl)) dX8_shape_82 ⟨Nat.le_of_ble_eq_true rfl, Nat.le_of_ble_eq_true rfl⟩)) (fun r_9 hr_9 => ?_)
        refine lv_if_ne (tgt := 100) hx hb dX8_shape_85 (by decide) (fun c_10 => ?_) (fun c_10 => ?_)
        · skip
          have ic_10 := ci_ne (rfl : Int32.toInt r_9 = _) (show Int32.toInt 0 = 0 by decide) c_10
          refine lv_iconst (v := 0) hx hb dX8_shape_100 (by decide) ?_
          exact W.iret (v := 0) hx hb hr (fun t ht hW => ⟨0, rfl, trivial, ht⟩) (fun q h => by cases h) dX8_shape_101
        · skip
          have ic_10 := ci_eq (rfl : Int32.toInt r_9 = _) (show Int32.toInt 0 = 0 by decide) c_10
          refine lv_aload_n hx hb dX8_shape_88 rfl (lv_at hl 1 rfl) ?_
          refine lv_iload_n hx hb dX8_shape_89 rfl (lv_at hl 0 rfl) ?_
          refine vp_callSi (va_Run.run (va_runV (As := [.int (nb_st (nI (mn_code wq n)) n)]) (rest := []) ⟨hx, hb, hml, hown, hts⟩ (mX8_isMirrored l dC dI cyI cyZ m0 st im kq pw nx li il mv so la co d6 d11 d12 n fs (nb_st (nI (mn_code wq n)) n) hn3 hn h0f) (cwV 1 hts gX8_shape_X8_isMirrored rfl rfl rfl (by decide +kernel) ⟨Nat.le_of_ble_eq_true rfl, Nat.le_of_ble_eq_true rfl⟩) (bs_RV hB (hP.sub (ws' := [(m0, .inr (6, [.ref st, .ref im, .ref kq, .ref pw, .ref nx, .ref li, .int d6, .ref il, .ref mv, .ref so, .ref la, .int d11, .int d12, .ref co])), (st, .inl (cyI, 72, .inl fs))]) [0, 1] rfl) 0 rfl rfl) rfl rfl hl.1 rfl (lv_room (Nat.le_of_ble_eq_true rfl)) dX8_shape_90 ⟨Nat.le_of_ble_eq_true rfl, Nat.le_of_ble_eq_true rfl⟩)) (fun r_11 hr_11 => ?_)
          refine lv_if_ne (tgt := 100) hx hb dX8_shape_93 (by decide) (fun c_12 => ?_) (fun c_12 => ?_)
          · skip
            have ic_12 := ci_ne (rfl : Int32.toInt r_11 = _) (show Int32.toInt 0 = 0 by decide) c_12
            refine lv_iconst (v := 0) hx hb dX8_shape_100 (by decide) ?_
            exact W.iret (v := 0) hx hb hr (fun t ht hW => ⟨0, rfl, trivial, ht⟩) (fun q h => by cases h) dX8_shape_101
          · skip
            have ic_12 := ci_eq (rfl : Int32.toInt r_11 = _) (show Int32.toInt 0 = 0 by decide) c_12
            refine lv_iconst (v := 1) hx hb dX8_shape_96 (by decide) ?_
            refine lv_goto (tgt := 101) hx hb dX8_shape_97 (by decide) ?_
            exact W.iret (v := 1) hx hb hr (fun t ht hW => ⟨1, rfl, trivial, ht⟩) (fun q h => by cases h) dX8_shape_101
    · skip
      have ew_3 : p1 = 3 := w_3
      refine W.eq (g2 := F0 m 10 ls (.int 3 :: [])) (by rw [ew_3]) ?_
      refine lv_tableIn (off := 92) (tgt := 102) hx hb dX8_shape_10 (by decide) (by decide) (by decide) (by decide) ?_
      refine lv_aload_n hx hb dX8_shape_102 rfl (lv_at hl 1 rfl) ?_
      refine lv_iload_n hx hb dX8_shape_103 rfl (lv_at hl 0 rfl) ?_
      refine vp_callSi (va_Run.run (va_runV (As := [.int (nb_st (nI (mn_code wq n)) n)]) (rest := []) ⟨hx, hb, hml, hown, hts⟩ (mX8_even l dC dI cyI cyZ m0 st im kq pw nx li il mv so la co d6 d11 d12 n fs (nb_st (nI (mn_code wq n)) n) hn3 hn h0f) (cwV 1 hts gX8_shape_X8_even rfl rfl rfl (by decide +kernel) ⟨Nat.le_of_ble_eq_true rfl, Nat.le_of_ble_eq_true rfl⟩) (bs_RV hB (hP.sub (ws' := [(m0, .inr (6, [.ref st, .ref im, .ref kq, .ref pw, .ref nx, .ref li, .int d6, .ref il, .ref mv, .ref so, .ref la, .int d11, .int d12, .ref co])), (st, .inl (cyI, 72, .inl fs))]) [0, 1] rfl) 0 rfl rfl) rfl rfl hl.1 rfl (lv_room (Nat.le_of_ble_eq_true rfl)) dX8_shape_104 ⟨Nat.le_of_ble_eq_true rfl, Nat.le_of_ble_eq_true rfl⟩)) (fun r_13 hr_13 => ?_)
      exact W.iret (v := r_13) hx hb hr (fun t ht hW => ⟨r_13, rfl, trivial, ht⟩) (fun q h => by cases h) dX8_shape_107
    · skip
      have ew_3 : p1 = 4 := w_3
      refine W.eq (g2 := F0 m 10 ls (.int 4 :: [])) (by rw [ew_3]) ?_
      refine lv_tableIn (off := 98) (tgt := 108) hx hb dX8_shape_10 (by decide) (by decide) (by decide) (by decide) ?_
      refine lv_aload_n hx hb dX8_shape_108 rfl (lv_at hl 1 rfl) ?_
      refine lv_iload_n hx hb dX8_shape_109 rfl (lv_at hl 0 rfl) ?_
      refine vp_callSi (va_Run.run (va_runV (As := [.int (nb_st (nI (mn_code wq n)) n)]) (rest := []) ⟨hx, hb, hml, hown, hts⟩ (mX8_views l dC dI cyI cyZ m0 st im kq pw nx li il mv so la co d6 d11 d12 n fs (nb_st (nI (mn_code wq n)) n) hn3 hn h0f) (cwV 1 hts gX8_shape_X8_views rfl rfl rfl (by decide +kernel) ⟨Nat.le_of_ble_eq_true rfl, Nat.le_of_ble_eq_true rfl⟩) (bs_RV hB (hP.sub (ws' := [(m0, .inr (6, [.ref st, .ref im, .ref kq, .ref pw, .ref nx, .ref li, .int d6, .ref il, .ref mv, .ref so, .ref la, .int d11, .int d12, .ref co])), (st, .inl (cyI, 72, .inl fs))]) [0, 1] rfl) 0 rfl rfl) rfl rfl hl.1 rfl (lv_room (Nat.le_of_ble_eq_true rfl)) dX8_shape_110 ⟨Nat.le_of_ble_eq_true rfl, Nat.le_of_ble_eq_true rfl⟩)) (fun r_14 hr_14 => ?_)
      exact W.iret (v := r_14) hx hb hr (fun t ht hW => ⟨r_14, rfl, trivial, ht⟩) (fun q h => by cases h) dX8_shape_113
    · skip
      have ew_3 : p1 = 5 := w_3
      refine W.eq (g2 := F0 m 10 ls (.int 5 :: [])) (by rw [ew_3]) ?_
      refine lv_tableIn (off := 104) (tgt := 114) hx hb dX8_shape_10 (by decide) (by decide) (by decide) (by decide) ?_
      refine lv_aload_n hx hb dX8_shape_114 rfl (lv_at hl 1 rfl) ?_
      refine lv_iload_n hx hb dX8_shape_115 rfl (lv_at hl 0 rfl) ?_
      refine vp_callSi (va_Run.run (va_runV (As := [.int (nb_st (nI (mn_code wq n)) n)]) (rest := []) ⟨hx, hb, hml, hown, hts⟩ (mX8_turnedBy l dC dI cyI cyZ m0 st im kq pw nx li il mv so la co d6 d11 d12 n fs (nb_st (nI (mn_code wq n)) n) hn3 hn h0f) (cwV 1 hts gX8_shape_X8_turnedBy rfl rfl rfl (by decide +kernel) ⟨Nat.le_of_ble_eq_true rfl, Nat.le_of_ble_eq_true rfl⟩) (bs_RV hB (hP.sub (ws' := [(m0, .inr (6, [.ref st, .ref im, .ref kq, .ref pw, .ref nx, .ref li, .int d6, .ref il, .ref mv, .ref so, .ref la, .int d11, .int d12, .ref co])), (st, .inl (cyI, 72, .inl fs))]) [0, 1] rfl) 0 rfl rfl) rfl rfl hl.1 rfl (lv_room (Nat.le_of_ble_eq_true rfl)) dX8_shape_116 ⟨Nat.le_of_ble_eq_true rfl, Nat.le_of_ble_eq_true rfl⟩)) (fun r_15 hr_15 => ?_)
      exact W.iret (v := r_15) hx hb hr (fun t ht hW => ⟨r_15, rfl, trivial, ht⟩) (fun q h => by cases h) dX8_shape_119

set_option maxHeartbeats 4000000 in
set_option maxRecDepth 100000 in
theorem mX8_gap (l : Launch) (dC : Nat → ClassId) (dI : Nat → Nat → Nat) (cyI cyZ : ClassId) (m0 : Nat) (st : Nat) (im : Nat) (kq : Nat) (pw : Nat) (nx : Nat) (li : Nat) (il : Nat) (mv : Nat) (so : Nat) (la : Nat) (co : Nat) (d6 : Int32) (d11 : Int32) (d12 : Int32) (n : Nat) (fs : Nat → Int32) (wq : Nat → Nat) (fp : Nat → Int32) (p1 : Int32) (p2 : Int32) (p3 : Int32) (hn3 : 3 ≤ n) (hn : n ≤ 10) (h0f : fs 0 = nI n) (hwk : ∀ j, j < 10 → fs (1 + j) = nI (wq j)) (hws : mn_sum wq 10 ≤ 5) (hp : ∀ j, j ≤ 10 → fp j = nI (3 ^ j)) : Met l yX8_gap wsX8_gap ({ frames := 6, cells := 0, slots := 0, locals := 143 }) (bs_R dC dI cyI cyZ [.ref m0, .int p1, .int p2, .int p3] [(m0, .inr (6, [.ref st, .ref im, .ref kq, .ref pw, .ref nx, .ref li, .int d6, .ref il, .ref mv, .ref so, .ref la, .int d11, .int d12, .ref co])), (st, .inl (cyI, 72, .inl fs)), (pw, .inl (cyI, 11, .inl fp))]) (vp_Si (fun r : Int32 => True)) 0 0 (fun _ => False) := by
  refine Met.ofW (cc := cX8_gap) (maxL := 7) (ret := (some .int)) (by decide) rfl ?_
  intro p e s m args below meth c s₁ B hml hv
  obtain ⟨rfl, hB, hP⟩ := hv
  have hK := hB.1
  have hN := hB.2
  have hx := B.exec
  have hb := B.bytes
  have hr := B.returns
  have hts := atoms_spec (ws := wsX8_gap) B.pre
  have hown : s.vm.findClass RX8 = some m.cls := findClass_of_methodNamed B.named
  have hlocks := B.notSynchronized
  have hP : va_P (dC, dI) vwCl [(m0, .inr (6, [.ref st, .ref im, .ref kq, .ref pw, .ref nx, .ref li, .int d6, .ref il, .ref mv, .ref so, .ref la, .int d11, .int d12, .ref co])), (st, .inl (cyI, 72, .inl fs)), (pw, .inl (cyI, 11, .inl fp))] s.heap := hP
  have hl := lv_entry ([.ref m0, .int p1, .int p2, .int p3]) (n := 7) (Nat.le_of_ble_eq_true rfl)
  rw [lg_entry_eq]
  generalize (lg_sl ([.ref m0, .int p1, .int p2, .int p3]) ++ List.replicate (7 - (lg_sl ([.ref m0, .int p1, .int p2, .int p3])).length) Slot.unset).toArray = ls at hl ⊢
  have hl : lv_has ls 7 [(0, .ref m0), (1, .int p1), (2, .int p2), (3, .int p3)] := hl
  refine lv_aload_n hx hb dX8_gap_0 rfl (lv_at hl 0 rfl) ?_
  refine lv_iload_n hx hb dX8_gap_1 rfl (lv_at hl 1 rfl) ?_
  refine vp_callSi (va_Run.run (va_runV (As := [.int p1]) (rest := []) ⟨hx, hb, hml, hown, hts⟩ (mX8_isStand l dC dI cyI cyZ m0 st im kq pw nx li il mv so la co d6 d11 d12 n fs wq p1 hn3 hn h0f hwk hws) (cwV 1 hts gX8_gap_X8_isStand rfl rfl rfl (by decide +kernel) ⟨Nat.le_of_ble_eq_true rfl, Nat.le_of_ble_eq_true rfl⟩) (bs_RV hB (hP.sub (ws' := [(m0, .inr (6, [.ref st, .ref im, .ref kq, .ref pw, .ref nx, .ref li, .int d6, .ref il, .ref mv, .ref so, .ref la, .int d11, .int d12, .ref co])), (st, .inl (cyI, 72, .inl fs))]) [0, 1] rfl) 0 rfl rfl) rfl rfl hl.1 rfl (lv_room (Nat.le_of_ble_eq_true rfl)) dX8_gap_2 ⟨Nat.le_of_ble_eq_true rfl, Nat.le_of_ble_eq_true rfl⟩)) (fun r_1 hr_1 => ?_)
  refine lv_if_ne (tgt := 10) hx hb dX8_gap_5 (by decide) (fun c_2 => ?_) (fun c_2 => ?_)
  · skip
    have ic_2 := ci_ne (rfl : Int32.toInt r_1 = _) (show Int32.toInt 0 = 0 by decide) c_2
    obtain ⟨a9, la9, ea9, qa9⟩ := hr_1.2 (hr_1.1.resolve_left c_2)
    subst ea9
    have hbs : nb_bit (nb_st (nI (mn_code wq n)) n) a9 := mn_stand hn la9 qa9
    refine lv_iload_n hx hb dX8_gap_10 rfl (lv_at hl 2 rfl) ?_
    refine lv_iconst (v := 0) hx hb dX8_gap_11 (by decide) ?_
    refine lv_iconst (v := 2) hx hb dX8_gap_12 (by decide) ?_
    refine vp_callSi (va_Run.run (va_runS (As := [.int p2, .int 0, .int 2]) (rest := []) ⟨hx, hb, hml, hown, hts⟩ (mX8_in l dC dI cyI cyZ p2 0 2 0 2 (by decide) (by decide)) (va_cwS 3 hts gX8_gap_X8_in rfl rfl rfl (by decide +kernel) ⟨Nat.le_of_ble_eq_true rfl, Nat.le_of_ble_eq_true rfl⟩) (bs_RS hB (hP.sub (ws' := []) [] rfl)) rfl rfl hl.1 rfl (lv_room (Nat.le_of_ble_eq_true rfl)) dX8_gap_13 ⟨Nat.le_of_ble_eq_true rfl, Nat.le_of_ble_eq_true rfl⟩)) (fun r_3 hr_3 => ?_)
    refine lv_if_ne (tgt := 22) hx hb dX8_gap_16 (by decide) (fun c_4 => ?_) (fun c_4 => ?_)
    · skip
      have ic_4 := ci_ne (rfl : Int32.toInt r_3 = _) (show Int32.toInt 0 = 0 by decide) c_4
      refine lv_aload_n hx hb dX8_gap_22 rfl (lv_at hl 0 rfl) ?_
      refine lv_aload_n hx hb dX8_gap_23 rfl (lv_at hl 0 rfl) ?_
      refine vp_callSi (va_Run.run (va_runV (As := []) (rest := [.ref m0]) ⟨hx, hb, hml, hown, hts⟩ (mX8_now l dC dI cyI cyZ m0 st im kq pw nx li il mv so la co d6 d11 d12 n fs wq fp hn3 hn h0f hwk hws hp) (cwV 0 hts gX8_gap_X8_now rfl rfl rfl (by decide +kernel) ⟨Nat.le_of_ble_eq_true rfl, Nat.le_of_ble_eq_true rfl⟩) (bs_RV hB (hP.sub (ws' := [(m0, .inr (6, [.ref st, .ref im, .ref kq, .ref pw, .ref nx, .ref li, .int d6, .ref il, .ref mv, .ref so, .ref la, .int d11, .int d12, .ref co])), (st, .inl (cyI, 72, .inl fs)), (pw, .inl (cyI, 11, .inl fp))]) [0, 1, 2] rfl) 0 rfl rfl) rfl rfl hl.1 rfl (lv_room (Nat.le_of_ble_eq_true rfl)) dX8_gap_24 ⟨Nat.le_of_ble_eq_true rfl, Nat.le_of_ble_eq_true rfl⟩)) (fun r_5 hr_5 => ?_)
      obtain rfl : (nI (mn_code wq n)) = r_5 := Eq.symm hr_5
      refine vp_callSi (va_Run.run (va_runV (As := [.int (nI (mn_code wq n))]) (rest := []) ⟨hx, hb, hml, hown, hts⟩ (mX8_standsOf l dC dI cyI cyZ m0 st im kq pw nx li il mv so la co d6 d11 d12 n fs fp (nI (mn_code wq n)) hn3 hn h0f hp) (cwV 1 hts gX8_gap_X8_standsOf rfl rfl rfl (by decide +kernel) ⟨Nat.le_of_ble_eq_true rfl, Nat.le_of_ble_eq_true rfl⟩) (bs_RV hB (hP.sub (ws' := [(m0, .inr (6, [.ref st, .ref im, .ref kq, .ref pw, .ref nx, .ref li, .int d6, .ref il, .ref mv, .ref so, .ref la, .int d11, .int d12, .ref co])), (st, .inl (cyI, 72, .inl fs)), (pw, .inl (cyI, 11, .inl fp))]) [0, 1, 2] rfl) 0 rfl rfl) rfl rfl hl.1 rfl (lv_room (Nat.le_of_ble_eq_true rfl)) dX8_gap_27 ⟨Nat.le_of_ble_eq_true rfl, Nat.le_of_ble_eq_true rfl⟩)) (fun r_6 hr_6 => ?_)
      obtain rfl : (nb_st (nI (mn_code wq n)) n) = r_6 := Eq.symm hr_6
      refine lv_istore (lv' := [(4, .int (nb_st (nI (mn_code wq n)) n)), (0, .ref m0), (1, .int (nI a9)), (2, .int p2), (3, .int p3)]) hx hb dX8_gap_30 hl (by decide) rfl (fun ls hl => ?_)
      refine lv_iload hx hb dX8_gap_32 (lv_at hl 0 rfl) ?_
      refine vp_callSi (va_Run.run (va_runS (As := [.int (nb_st (nI (mn_code wq n)) n)]) (rest := []) ⟨hx, hb, hml, hown, hts⟩ (mX8_size l dC dI cyI cyZ (nb_st (nI (mn_code wq n)) n) ) (va_cwS 1 hts gX8_gap_X8_size rfl rfl rfl (by decide +kernel) ⟨Nat.le_of_ble_eq_true rfl, Nat.le_of_ble_eq_true rfl⟩) (bs_RS hB (hP.sub (ws' := []) [] rfl)) rfl rfl hl.1 rfl (lv_room (Nat.le_of_ble_eq_true rfl)) dX8_gap_34 ⟨Nat.le_of_ble_eq_true rfl, Nat.le_of_ble_eq_true rfl⟩)) (fun r_7 hr_7 => ?_)
      obtain ⟨v_8, lv_8, ev_8⟩ := hr_7
      obtain rfl : nI v_8 = r_7 := Eq.symm ev_8
      refine lv_istore (lv' := [(5, .int (nI v_8)), (4, .int (nb_st (nI (mn_code wq n)) n)), (0, .ref m0), (1, .int (nI a9)), (2, .int p2), (3, .int p3)]) hx hb dX8_gap_37 hl (by decide) rfl (fun ls hl => ?_)
      refine lv_iload_n hx hb dX8_gap_39 rfl (lv_at hl 5 rfl) ?_
      refine lv_iconst (v := (-1)) hx hb dX8_gap_40 (by decide) ?_
      refine lv_icmp_ne (tgt := 47) hx hb dX8_gap_41 (by decide) (fun c_9 => ?_) (fun c_9 => ?_)
      · skip
        have ic_9 := ci_ne (rfl : Int32.toInt p3 = _) (show Int32.toInt (-1) = -1 by decide) c_9
        refine lv_iload_n hx hb dX8_gap_47 rfl (lv_at hl 4 rfl) ?_
        refine lv_if_ne (tgt := 55) hx hb dX8_gap_48 (by decide) (fun c_10 => ?_) (fun c_10 => ?_)
        · skip
          have ic_10 := ci_ne (rfl : Int32.toInt p2 = _) (show Int32.toInt 0 = 0 by decide) c_10
          refine lv_iload_n hx hb dX8_gap_55 rfl (lv_at hl 4 rfl) ?_
          refine lv_iconst (v := 1) hx hb dX8_gap_56 (by decide) ?_
          refine lv_icmp_ne (tgt := 64) hx hb dX8_gap_57 (by decide) (fun c_11 => ?_) (fun c_11 => ?_)
          · skip
            have ic_11 := ci_ne (rfl : Int32.toInt p2 = _) (show Int32.toInt 1 = 1 by decide) c_11
            refine lv_aload_n hx hb dX8_gap_64 rfl (lv_at hl 2 rfl) ?_
            refine lv_iload hx hb dX8_gap_65 (lv_at hl 1 rfl) ?_
            refine lv_iload_n hx hb dX8_gap_67 rfl (lv_at hl 3 rfl) ?_
            refine vp_callSi (va_Run.run (va_runV (As := [.int (nb_st (nI (mn_code wq n)) n), .int (nI a9)]) (rest := []) ⟨hx, hb, hml, hown, hts⟩ (mX8_viewWay l dC dI cyI cyZ m0 st im kq pw nx li il mv so la co d6 d11 d12 n fs a9 (nb_st (nI (mn_code wq n)) n) hn3 hn h0f (by omega) hbs) (cwV 2 hts gX8_gap_X8_viewWay rfl rfl rfl (by decide +kernel) ⟨Nat.le_of_ble_eq_true rfl, Nat.le_of_ble_eq_true rfl⟩) (bs_RV hB (hP.sub (ws' := [(m0, .inr (6, [.ref st, .ref im, .ref kq, .ref pw, .ref nx, .ref li, .int d6, .ref il, .ref mv, .ref so, .ref la, .int d11, .int d12, .ref co])), (st, .inl (cyI, 72, .inl fs))]) [0, 1] rfl) 0 rfl rfl) rfl rfl hl.1 rfl (lv_room (Nat.le_of_ble_eq_true rfl)) dX8_gap_68 ⟨Nat.le_of_ble_eq_true rfl, Nat.le_of_ble_eq_true rfl⟩)) (fun r_12 hr_12 => ?_)
            obtain ⟨w_13, hw_13, pw_13⟩ := mn_pm hr_12
            refine lv_istore (lv' := [(6, .int r_12), (5, .int (nI v_8)), (4, .int (nb_st (nI (mn_code wq n)) n)), (0, .ref m0), (1, .int (nI a9)), (2, .int p2), (3, .int p3)]) hx hb dX8_gap_71 hl (by decide) rfl (fun ls hl => ?_)
            refine lv_iload_n hx hb dX8_gap_73 rfl (lv_at hl 6 rfl) ?_
            refine lv_iconst (v := 0) hx hb dX8_gap_74 (by decide) ?_
            refine lv_iload hx hb dX8_gap_75 (lv_at hl 1 rfl) ?_
            refine lv_iconst (v := 1) hx hb dX8_gap_77 (by decide) ?_
            refine lv_isub hx hb dX8_gap_78 ?_
            refine lv_topi (fun x_14 ex_14 => ?_)
            refine vp_callSi (va_Run.run (va_runS (As := [.int p3, .int 0, .int x_14]) (rest := []) ⟨hx, hb, hml, hown, hts⟩ (mX8_in l dC dI cyI cyZ p3 0 x_14 0 ((v_8 : Int) - 1) (by decide) (by rw [ex_14]; exact mn_pm1 lv_8)) (va_cwS 3 hts gX8_gap_X8_in rfl rfl rfl (by decide +kernel) ⟨Nat.le_of_ble_eq_true rfl, Nat.le_of_ble_eq_true rfl⟩) (bs_RS hB (hP.sub (ws' := []) [] rfl)) rfl rfl hl.1 rfl (lv_room (Nat.le_of_ble_eq_true rfl)) dX8_gap_79 ⟨Nat.le_of_ble_eq_true rfl, Nat.le_of_ble_eq_true rfl⟩)) (fun r_15 hr_15 => ?_)
            refine lv_if_eq (tgt := 98) hx hb dX8_gap_82 (by decide) (fun c_16 => ?_) (fun c_16 => ?_)
            · skip
              have ic_16 := ci_eq (rfl : Int32.toInt r_15 = _) (show Int32.toInt 0 = 0 by decide) c_16
              refine lv_bipush (v := (-6)) hx hb dX8_gap_98 (by decide) ?_
              exact W.iret (v := (-6)) hx hb hr (fun t ht hW => ⟨(-6), rfl, trivial, ht⟩) (fun q h => by cases h) dX8_gap_100
            · skip
              have ic_16 := ci_ne (rfl : Int32.toInt r_15 = _) (show Int32.toInt 0 = 0 by decide) c_16
              have hs9 := hr_15.2.1 (hr_15.1.resolve_left c_16)
              refine lv_aload_n hx hb dX8_gap_85 rfl (lv_at hl 3 rfl) ?_
              refine lv_iload hx hb dX8_gap_86 (lv_at hl 2 rfl) ?_
              refine lv_iload_n hx hb dX8_gap_88 rfl (lv_at hl 4 rfl) ?_
              refine lv_iload hx hb dX8_gap_89 (lv_at hl 0 rfl) ?_
              refine lv_iload_n hx hb dX8_gap_91 rfl (lv_at hl 6 rfl) ?_
              refine vp_callSi (va_Run.run (va_runV (As := [.int (nb_st (nI (mn_code wq n)) n), .int (nI a9), .int r_12, .int p3]) (rest := []) ⟨hx, hb, hml, hown, hts⟩ (mX8_gapAt l dC dI cyI cyZ m0 st im kq pw nx li il mv so la co d6 d11 d12 n fs a9 w_13 (nb_st (nI (mn_code wq n)) n) r_12 p3 hn3 hn h0f (by omega) hw_13 hbs pw_13 (by omega)) (cwV 4 hts gX8_gap_X8_gapAt rfl rfl rfl (by decide +kernel) ⟨Nat.le_of_ble_eq_true rfl, Nat.le_of_ble_eq_true rfl⟩) (bs_RV hB (hP.sub (ws' := [(m0, .inr (6, [.ref st, .ref im, .ref kq, .ref pw, .ref nx, .ref li, .int d6, .ref il, .ref mv, .ref so, .ref la, .int d11, .int d12, .ref co])), (st, .inl (cyI, 72, .inl fs))]) [0, 1] rfl) 0 rfl rfl) rfl rfl hl.1 rfl (lv_room (Nat.le_of_ble_eq_true rfl)) dX8_gap_92 ⟨Nat.le_of_ble_eq_true rfl, Nat.le_of_ble_eq_true rfl⟩)) (fun r_17 hr_17 => ?_)
              refine lv_goto (tgt := 100) hx hb dX8_gap_95 (by decide) ?_
              exact W.iret (v := r_17) hx hb hr (fun t ht hW => ⟨r_17, rfl, trivial, ht⟩) (fun q h => by cases h) dX8_gap_100
          · skip
            have ic_11 := ci_eq (rfl : Int32.toInt p2 = _) (show Int32.toInt 1 = 1 by decide) c_11
            refine lv_iconst (v := (-1)) hx hb dX8_gap_60 (by decide) ?_
            refine lv_goto (tgt := 71) hx hb dX8_gap_61 (by decide) ?_
            refine lv_istore (lv' := [(6, .int (-1)), (5, .int (nI v_8)), (4, .int (nb_st (nI (mn_code wq n)) n)), (0, .ref m0), (1, .int (nI a9)), (2, .int p2), (3, .int p3)]) hx hb dX8_gap_71 hl (by decide) rfl (fun ls hl => ?_)
            refine lv_iload_n hx hb dX8_gap_73 rfl (lv_at hl 6 rfl) ?_
            refine lv_iconst (v := 0) hx hb dX8_gap_74 (by decide) ?_
            refine lv_iload hx hb dX8_gap_75 (lv_at hl 1 rfl) ?_
            refine lv_iconst (v := 1) hx hb dX8_gap_77 (by decide) ?_
            refine lv_isub hx hb dX8_gap_78 ?_
            refine lv_topi (fun x_18 ex_18 => ?_)
            refine vp_callSi (va_Run.run (va_runS (As := [.int p3, .int 0, .int x_18]) (rest := []) ⟨hx, hb, hml, hown, hts⟩ (mX8_in l dC dI cyI cyZ p3 0 x_18 0 ((v_8 : Int) - 1) (by decide) (by rw [ex_18]; exact mn_pm1 lv_8)) (va_cwS 3 hts gX8_gap_X8_in rfl rfl rfl (by decide +kernel) ⟨Nat.le_of_ble_eq_true rfl, Nat.le_of_ble_eq_true rfl⟩) (bs_RS hB (hP.sub (ws' := []) [] rfl)) rfl rfl hl.1 rfl (lv_room (Nat.le_of_ble_eq_true rfl)) dX8_gap_79 ⟨Nat.le_of_ble_eq_true rfl, Nat.le_of_ble_eq_true rfl⟩)) (fun r_19 hr_19 => ?_)
            refine lv_if_eq (tgt := 98) hx hb dX8_gap_82 (by decide) (fun c_20 => ?_) (fun c_20 => ?_)
            · skip
              have ic_20 := ci_eq (rfl : Int32.toInt r_19 = _) (show Int32.toInt 0 = 0 by decide) c_20
              refine lv_bipush (v := (-6)) hx hb dX8_gap_98 (by decide) ?_
              exact W.iret (v := (-6)) hx hb hr (fun t ht hW => ⟨(-6), rfl, trivial, ht⟩) (fun q h => by cases h) dX8_gap_100
            · skip
              have ic_20 := ci_ne (rfl : Int32.toInt r_19 = _) (show Int32.toInt 0 = 0 by decide) c_20
              have hs9 := hr_19.2.1 (hr_19.1.resolve_left c_20)
              refine lv_aload_n hx hb dX8_gap_85 rfl (lv_at hl 3 rfl) ?_
              refine lv_iload hx hb dX8_gap_86 (lv_at hl 2 rfl) ?_
              refine lv_iload_n hx hb dX8_gap_88 rfl (lv_at hl 4 rfl) ?_
              refine lv_iload hx hb dX8_gap_89 (lv_at hl 0 rfl) ?_
              refine lv_iload_n hx hb dX8_gap_91 rfl (lv_at hl 6 rfl) ?_
              refine vp_callSi (va_Run.run (va_runV (As := [.int (nb_st (nI (mn_code wq n)) n), .int (nI a9), .int (-1), .int p3]) (rest := []) ⟨hx, hb, hml, hown, hts⟩ (mX8_gapAt l dC dI cyI cyZ m0 st im kq pw nx li il mv so la co d6 d11 d12 n fs a9 9 (nb_st (nI (mn_code wq n)) n) (-1) p3 hn3 hn h0f (by omega) (Or.inl rfl) hbs (by decide) (by omega)) (cwV 4 hts gX8_gap_X8_gapAt rfl rfl rfl (by decide +kernel) ⟨Nat.le_of_ble_eq_true rfl, Nat.le_of_ble_eq_true rfl⟩) (bs_RV hB (hP.sub (ws' := [(m0, .inr (6, [.ref st, .ref im, .ref kq, .ref pw, .ref nx, .ref li, .int d6, .ref il, .ref mv, .ref so, .ref la, .int d11, .int d12, .ref co])), (st, .inl (cyI, 72, .inl fs))]) [0, 1] rfl) 0 rfl rfl) rfl rfl hl.1 rfl (lv_room (Nat.le_of_ble_eq_true rfl)) dX8_gap_92 ⟨Nat.le_of_ble_eq_true rfl, Nat.le_of_ble_eq_true rfl⟩)) (fun r_21 hr_21 => ?_)
              refine lv_goto (tgt := 100) hx hb dX8_gap_95 (by decide) ?_
              exact W.iret (v := r_21) hx hb hr (fun t ht hW => ⟨r_21, rfl, trivial, ht⟩) (fun q h => by cases h) dX8_gap_100
        · skip
          have ic_10 := ci_eq (rfl : Int32.toInt p2 = _) (show Int32.toInt 0 = 0 by decide) c_10
          refine lv_iconst (v := 1) hx hb dX8_gap_51 (by decide) ?_
          refine lv_goto (tgt := 71) hx hb dX8_gap_52 (by decide) ?_
          refine lv_istore (lv' := [(6, .int 1), (5, .int (nI v_8)), (4, .int (nb_st (nI (mn_code wq n)) n)), (0, .ref m0), (1, .int (nI a9)), (2, .int p2), (3, .int p3)]) hx hb dX8_gap_71 hl (by decide) rfl (fun ls hl => ?_)
          refine lv_iload_n hx hb dX8_gap_73 rfl (lv_at hl 6 rfl) ?_
          refine lv_iconst (v := 0) hx hb dX8_gap_74 (by decide) ?_
          refine lv_iload hx hb dX8_gap_75 (lv_at hl 1 rfl) ?_
          refine lv_iconst (v := 1) hx hb dX8_gap_77 (by decide) ?_
          refine lv_isub hx hb dX8_gap_78 ?_
          refine lv_topi (fun x_22 ex_22 => ?_)
          refine vp_callSi (va_Run.run (va_runS (As := [.int p3, .int 0, .int x_22]) (rest := []) ⟨hx, hb, hml, hown, hts⟩ (mX8_in l dC dI cyI cyZ p3 0 x_22 0 ((v_8 : Int) - 1) (by decide) (by rw [ex_22]; exact mn_pm1 lv_8)) (va_cwS 3 hts gX8_gap_X8_in rfl rfl rfl (by decide +kernel) ⟨Nat.le_of_ble_eq_true rfl, Nat.le_of_ble_eq_true rfl⟩) (bs_RS hB (hP.sub (ws' := []) [] rfl)) rfl rfl hl.1 rfl (lv_room (Nat.le_of_ble_eq_true rfl)) dX8_gap_79 ⟨Nat.le_of_ble_eq_true rfl, Nat.le_of_ble_eq_true rfl⟩)) (fun r_23 hr_23 => ?_)
          refine lv_if_eq (tgt := 98) hx hb dX8_gap_82 (by decide) (fun c_24 => ?_) (fun c_24 => ?_)
          · skip
            have ic_24 := ci_eq (rfl : Int32.toInt r_23 = _) (show Int32.toInt 0 = 0 by decide) c_24
            refine lv_bipush (v := (-6)) hx hb dX8_gap_98 (by decide) ?_
            exact W.iret (v := (-6)) hx hb hr (fun t ht hW => ⟨(-6), rfl, trivial, ht⟩) (fun q h => by cases h) dX8_gap_100
          · skip
            have ic_24 := ci_ne (rfl : Int32.toInt r_23 = _) (show Int32.toInt 0 = 0 by decide) c_24
            have hs9 := hr_23.2.1 (hr_23.1.resolve_left c_24)
            refine lv_aload_n hx hb dX8_gap_85 rfl (lv_at hl 3 rfl) ?_
            refine lv_iload hx hb dX8_gap_86 (lv_at hl 2 rfl) ?_
            refine lv_iload_n hx hb dX8_gap_88 rfl (lv_at hl 4 rfl) ?_
            refine lv_iload hx hb dX8_gap_89 (lv_at hl 0 rfl) ?_
            refine lv_iload_n hx hb dX8_gap_91 rfl (lv_at hl 6 rfl) ?_
            refine vp_callSi (va_Run.run (va_runV (As := [.int (nb_st (nI (mn_code wq n)) n), .int (nI a9), .int 1, .int p3]) (rest := []) ⟨hx, hb, hml, hown, hts⟩ (mX8_gapAt l dC dI cyI cyZ m0 st im kq pw nx li il mv so la co d6 d11 d12 n fs a9 11 (nb_st (nI (mn_code wq n)) n) 1 p3 hn3 hn h0f (by omega) (Or.inr rfl) hbs (by decide) (by omega)) (cwV 4 hts gX8_gap_X8_gapAt rfl rfl rfl (by decide +kernel) ⟨Nat.le_of_ble_eq_true rfl, Nat.le_of_ble_eq_true rfl⟩) (bs_RV hB (hP.sub (ws' := [(m0, .inr (6, [.ref st, .ref im, .ref kq, .ref pw, .ref nx, .ref li, .int d6, .ref il, .ref mv, .ref so, .ref la, .int d11, .int d12, .ref co])), (st, .inl (cyI, 72, .inl fs))]) [0, 1] rfl) 0 rfl rfl) rfl rfl hl.1 rfl (lv_room (Nat.le_of_ble_eq_true rfl)) dX8_gap_92 ⟨Nat.le_of_ble_eq_true rfl, Nat.le_of_ble_eq_true rfl⟩)) (fun r_25 hr_25 => ?_)
            refine lv_goto (tgt := 100) hx hb dX8_gap_95 (by decide) ?_
            exact W.iret (v := r_25) hx hb hr (fun t ht hW => ⟨r_25, rfl, trivial, ht⟩) (fun q h => by cases h) dX8_gap_100
      · skip
        have ic_9 := ci_eq (rfl : Int32.toInt p3 = _) (show Int32.toInt (-1) = -1 by decide) c_9
        refine lv_iload hx hb dX8_gap_44 (lv_at hl 0 rfl) ?_
        exact W.iret (v := (nI v_8)) hx hb hr (fun t ht hW => ⟨(nI v_8), rfl, trivial, ht⟩) (fun q h => by cases h) dX8_gap_46
    · skip
      have ic_4 := ci_eq (rfl : Int32.toInt r_3 = _) (show Int32.toInt 0 = 0 by decide) c_4
      refine lv_bipush (v := (-2)) hx hb dX8_gap_19 (by decide) ?_
      exact W.iret (v := (-2)) hx hb hr (fun t ht hW => ⟨(-2), rfl, trivial, ht⟩) (fun q h => by cases h) dX8_gap_21
  · skip
    have ic_2 := ci_eq (rfl : Int32.toInt r_1 = _) (show Int32.toInt 0 = 0 by decide) c_2
    refine lv_iconst (v := (-1)) hx hb dX8_gap_8 (by decide) ?_
    exact W.iret (v := (-1)) hx hb hr (fun t ht hW => ⟨(-1), rfl, trivial, ht⟩) (fun q h => by cases h) dX8_gap_9

theorem hnX8_fits_X8 : ∀ w ∈ wsX80, w ∈ wsX8_fits := fun _ h => List.mem_cons_of_mem _ (List.mem_append_right _ h)
set_option maxHeartbeats 4000000 in
set_option maxRecDepth 100000 in
theorem mX8_fits (l : Launch) (dC : Nat → ClassId) (dI : Nat → Nat → Nat) (cyI cyZ : ClassId) (m0 : Nat) (st : Nat) (im : Nat) (kq : Nat) (pw : Nat) (nx : Nat) (li : Nat) (il : Nat) (mv : Nat) (so : Nat) (la : Nat) (co : Nat) (d6 : Int32) (d11 : Int32) (d12 : Int32) (n : Nat) (fs : Nat → Int32) (va : Nat) (j : Nat) (p2 : Int32) (p4 : Int32) (hn3 : 3 ≤ n) (hn : n ≤ 10) (h0f : fs 0 = nI n) (ha9 : va < n) (hbt : nb_bit p2 va) (hj9 : j < 10) : Met l yX8_fits wsX8_fits ({ frames := 6, cells := 0, slots := 0, locals := 143 }) (bs_R dC dI cyI cyZ [.ref m0, .int (nI j), .int p2, .int (nI va), .int p4] [(m0, .inr (6, [.ref st, .ref im, .ref kq, .ref pw, .ref nx, .ref li, .int d6, .ref il, .ref mv, .ref so, .ref la, .int d11, .int d12, .ref co])), (st, .inl (cyI, 72, .inl fs))]) (vp_Si (fun r : Int32 => r = 0 ∨ r = 1)) 0 0 (fun _ => False) := by
  refine Met.ofW (cc := cX8_fits) (maxL := 8) (ret := (some .boolean)) (by decide) rfl ?_
  intro p e s m args below meth c s₁ B hml hv
  obtain ⟨rfl, hB, hP⟩ := hv
  have hK := hB.1
  have hN := hB.2
  have hx := B.exec
  have hb := B.bytes
  have hr := B.returns
  have hts := atoms_spec (ws := wsX8_fits) B.pre
  have hown : s.vm.findClass RX8 = some m.cls := findClass_of_methodNamed B.named
  have hlocks := B.notSynchronized
  have hP : va_P (dC, dI) vwCl [(m0, .inr (6, [.ref st, .ref im, .ref kq, .ref pw, .ref nx, .ref li, .int d6, .ref il, .ref mv, .ref so, .ref la, .int d11, .int d12, .ref co])), (st, .inl (cyI, 72, .inl fs))] s.heap := hP
  have hl := lv_entry ([.ref m0, .int (nI j), .int p2, .int (nI va), .int p4]) (n := 8) (Nat.le_of_ble_eq_true rfl)
  rw [lg_entry_eq]
  generalize (lg_sl ([.ref m0, .int (nI j), .int p2, .int (nI va), .int p4]) ++ List.replicate (8 - (lg_sl ([.ref m0, .int (nI j), .int p2, .int (nI va), .int p4])).length) Slot.unset).toArray = ls at hl ⊢
  have hl : lv_has ls 8 [(0, .ref m0), (1, .int (nI j)), (2, .int p2), (3, .int (nI va)), (4, .int p4)] := hl
  refine lv_bipush (v := 12) hx hb dX8_fits_0 (by decide) ?_
  refine lv_bipush (v := 6) hx hb dX8_fits_2 (by decide) ?_
  refine lv_iload_n hx hb dX8_fits_4 rfl (lv_at hl 1 rfl) ?_
  refine lv_imul hx hb dX8_fits_5 ?_
  refine lv_topi (fun x_1 ex_1 => ?_)
  obtain rfl : (nI (6 * j)) = x_1 := (ex_1.trans (nb_mul 6 _)).symm
  refine lv_iadd hx hb dX8_fits_6 ?_
  refine lv_topi (fun x_2 ex_2 => ?_)
  obtain rfl : (nI (12 + (6 * j))) = x_2 := (ex_2.trans (nI_add 12 _)).symm
  refine lv_istore (lv' := [(5, .int (nI (12 + (6 * j)))), (0, .ref m0), (1, .int (nI j)), (2, .int p2), (3, .int (nI va)), (4, .int p4)]) hx hb dX8_fits_7 hl (by decide) rfl (fun ls hl => ?_)
  refine lv_iload_n hx hb dX8_fits_9 rfl (lv_at hl 3 rfl) ?_
  refine vp_callSi (va_Run.run (va_runS (As := [.int p2]) (rest := []) ⟨hx, hb, hml, hown, hts⟩ (mX8_size l dC dI cyI cyZ p2 ) (va_cwS 1 hts gX8_fits_X8_size rfl rfl rfl (by decide +kernel) ⟨Nat.le_of_ble_eq_true rfl, Nat.le_of_ble_eq_true rfl⟩) (bs_RS hB (hP.sub (ws' := []) [] rfl)) rfl rfl hl.1 rfl (lv_room (Nat.le_of_ble_eq_true rfl)) dX8_fits_10 ⟨Nat.le_of_ble_eq_true rfl, Nat.le_of_ble_eq_true rfl⟩)) (fun r_3 hr_3 => ?_)
  obtain ⟨v_4, lv_4, ev_4⟩ := hr_3
  obtain rfl : nI v_4 = r_3 := Eq.symm ev_4
  refine lv_istore (lv' := [(6, .int (nI v_4)), (5, .int (nI (12 + (6 * j)))), (0, .ref m0), (1, .int (nI j)), (2, .int p2), (3, .int (nI va)), (4, .int p4)]) hx hb dX8_fits_13 hl (by decide) rfl (fun ls hl => ?_)
  refine lv_aload_n hx hb dX8_fits_15 rfl (lv_at hl 2 rfl) ?_
  refine va_get (D := (dC, dI)) (ci := 6) (v := .ref st) (C := RX8) (T := TX8) (N := 14) hx hb hts hnX8_fits_X8 hown hK hP 0 rfl rfl 0 (by decide) (hts (.fieldLink RX8 7 "RingMeetsModel" "state" "[I") (by decide +kernel)) (fun _ h9 => h9) rfl dX8_fits_16 ?_
  refine lv_iload hx hb dX8_fits_19 (lv_at hl 1 rfl) ?_
  refine va_iald (D := (dC, dI)) hx hb hK hP 1 0 rfl rfl (vp_in_nI (n := (12 + (6 * j))) (N := 72) (by omega) (by omega)) dX8_fits_21 ?_
  refine lv_topi (fun x_5 ex_5 => ?_)
  rw [nI_clamp (n := (12 + (6 * j))) (by omega)] at ex_5
  refine lv_if_le (tgt := 37) hx hb dX8_fits_22 (by decide) (fun c_6 => ?_) (fun c_6 => ?_)
  · skip
    have ic_6 := ci_le (rfl : Int32.toInt x_5 = _) (show Int32.toInt 0 = 0 by decide) c_6
    refine lv_aload_n hx hb dX8_fits_37 rfl (lv_at hl 2 rfl) ?_
    refine va_get (D := (dC, dI)) (ci := 6) (v := .ref st) (C := RX8) (T := TX8) (N := 14) hx hb hts hnX8_fits_X8 hown hK hP 0 rfl rfl 0 (by decide) (hts (.fieldLink RX8 7 "RingMeetsModel" "state" "[I") (by decide +kernel)) (fun _ h9 => h9) rfl dX8_fits_38 ?_
    refine lv_iload hx hb dX8_fits_41 (lv_at hl 1 rfl) ?_
    refine lv_iconst (v := 1) hx hb dX8_fits_43 (by decide) ?_
    refine lv_iadd hx hb dX8_fits_44 ?_
    refine lv_topi (fun x_7 ex_7 => ?_)
    obtain rfl : (nI ((12 + (6 * j)) + 1)) = x_7 := (ex_7.trans (nI_1 _)).symm
    refine va_iald (D := (dC, dI)) hx hb hK hP 1 0 rfl rfl (vp_in_nI (n := ((12 + (6 * j)) + 1)) (N := 72) (by omega) (by omega)) dX8_fits_45 ?_
    refine lv_topi (fun x_8 ex_8 => ?_)
    rw [nI_clamp (n := ((12 + (6 * j)) + 1)) (by omega)] at ex_8
    refine lv_iload hx hb dX8_fits_46 (lv_at hl 0 rfl) ?_
    refine lv_icmp_ge (tgt := 73) hx hb dX8_fits_48 (by decide) (fun c_9 => ?_) (fun c_9 => ?_)
    · skip
      have ic_9 := ci_le (nI_toInt (n := v_4) (by omega)) (rfl : Int32.toInt x_8 = _) c_9
      refine lv_iconst (v := 0) hx hb dX8_fits_73 (by decide) ?_
      exact W.zret (v := 0) hx hb hr (show narrow .boolean (.int 0) = .int 0 from rfl) (fun t ht hW => ⟨0, rfl, Or.inl rfl, ht⟩) (fun q h => by cases h) dX8_fits_74
    · skip
      have ic_9 := ci_nle (nI_toInt (n := v_4) (by omega)) (rfl : Int32.toInt x_8 = _) c_9
      refine lv_aload_n hx hb dX8_fits_51 rfl (lv_at hl 2 rfl) ?_
      refine va_get (D := (dC, dI)) (ci := 6) (v := .ref st) (C := RX8) (T := TX8) (N := 14) hx hb hts hnX8_fits_X8 hown hK hP 0 rfl rfl 0 (by decide) (hts (.fieldLink RX8 7 "RingMeetsModel" "state" "[I") (by decide +kernel)) (fun _ h9 => h9) rfl dX8_fits_52 ?_
      refine lv_iload hx hb dX8_fits_55 (lv_at hl 1 rfl) ?_
      refine lv_iconst (v := 5) hx hb dX8_fits_57 (by decide) ?_
      refine lv_iadd hx hb dX8_fits_58 ?_
      refine lv_topi (fun x_10 ex_10 => ?_)
      obtain rfl : (nI ((12 + (6 * j)) + 5)) = x_10 := (ex_10.trans (nI_add _ 5)).symm
      refine va_iald (D := (dC, dI)) hx hb hK hP 1 0 rfl rfl (vp_in_nI (n := ((12 + (6 * j)) + 5)) (N := 72) (by omega) (by omega)) dX8_fits_59 ?_
      refine lv_topi (fun x_11 ex_11 => ?_)
      rw [nI_clamp (n := ((12 + (6 * j)) + 5)) (by omega)] at ex_11
      refine lv_iload hx hb dX8_fits_60 (lv_at hl 6 rfl) ?_
      refine lv_if_eq (tgt := 69) hx hb dX8_fits_62 (by decide) (fun c_12 => ?_) (fun c_12 => ?_)
      · skip
        have ic_12 := ci_eq (rfl : Int32.toInt p4 = _) (show Int32.toInt 0 = 0 by decide) c_12
        refine lv_iconst (v := 1) hx hb dX8_fits_69 (by decide) ?_
        refine lv_icmp_ne (tgt := 75) hx hb dX8_fits_70 (by decide) (fun c_13 => ?_) (fun c_13 => ?_)
        · skip
          have ic_13 := ci_ne (rfl : Int32.toInt x_11 = _) (show Int32.toInt 1 = 1 by decide) c_13
          refine lv_aload_n hx hb dX8_fits_75 rfl (lv_at hl 2 rfl) ?_
          refine lv_iload_n hx hb dX8_fits_76 rfl (lv_at hl 4 rfl) ?_
          refine lv_iload_n hx hb dX8_fits_77 rfl (lv_at hl 5 rfl) ?_
          refine lv_aload_n hx hb dX8_fits_78 rfl (lv_at hl 2 rfl) ?_
          refine lv_iload_n hx hb dX8_fits_79 rfl (lv_at hl 4 rfl) ?_
          refine lv_iload_n hx hb dX8_fits_80 rfl (lv_at hl 5 rfl) ?_
          refine vp_callSi (va_Run.run (va_runV (As := [.int p2, .int (nI va)]) (rest := [.int (nI va), .int p2, .ref m0]) ⟨hx, hb, hml, hown, hts⟩ (mX8_viewWay l dC dI cyI cyZ m0 st im kq pw nx li il mv so la co d6 d11 d12 n fs va p2 hn3 hn h0f (by omega) hbt) (cwV 2 hts gX8_fits_X8_viewWay rfl rfl rfl (by decide +kernel) ⟨Nat.le_of_ble_eq_true rfl, Nat.le_of_ble_eq_true rfl⟩) (bs_RV hB (hP.sub (ws' := [(m0, .inr (6, [.ref st, .ref im, .ref kq, .ref pw, .ref nx, .ref li, .int d6, .ref il, .ref mv, .ref so, .ref la, .int d11, .int d12, .ref co])), (st, .inl (cyI, 72, .inl fs))]) [0, 1] rfl) 0 rfl rfl) rfl rfl hl.1 rfl (lv_room (Nat.le_of_ble_eq_true rfl)) dX8_fits_81 ⟨Nat.le_of_ble_eq_true rfl, Nat.le_of_ble_eq_true rfl⟩)) (fun r_14 hr_14 => ?_)
          obtain ⟨w_15, hw_15, pw_15⟩ := mn_pm hr_14
          refine lv_aload_n hx hb dX8_fits_84 rfl (lv_at hl 2 rfl) ?_
          refine va_get (D := (dC, dI)) (ci := 6) (v := .ref st) (C := RX8) (T := TX8) (N := 14) hx hb hts hnX8_fits_X8 hown hK hP 0 rfl rfl 0 (by decide) (hts (.fieldLink RX8 7 "RingMeetsModel" "state" "[I") (by decide +kernel)) (fun _ h9 => h9) rfl dX8_fits_85 ?_
          refine lv_iload hx hb dX8_fits_88 (lv_at hl 1 rfl) ?_
          refine lv_iconst (v := 1) hx hb dX8_fits_90 (by decide) ?_
          refine lv_iadd hx hb dX8_fits_91 ?_
          refine lv_topi (fun x_16 ex_16 => ?_)
          obtain rfl : (nI ((12 + (6 * j)) + 1)) = x_16 := (ex_16.trans (nI_1 _)).symm
          refine va_iald (D := (dC, dI)) hx hb hK hP 1 0 rfl rfl (vp_in_nI (n := ((12 + (6 * j)) + 1)) (N := 72) (by omega) (by omega)) dX8_fits_92 ?_
          refine lv_topi (fun x_17 ex_17 => ?_)
          rw [nI_clamp (n := ((12 + (6 * j)) + 1)) (by omega)] at ex_17
          refine vp_callSi (va_Run.run (va_runV (As := [.int p2, .int (nI va), .int r_14, .int x_17]) (rest := []) ⟨hx, hb, hml, hown, hts⟩ (mX8_gapAt l dC dI cyI cyZ m0 st im kq pw nx li il mv so la co d6 d11 d12 n fs va w_15 p2 r_14 x_17 hn3 hn h0f (by omega) hw_15 hbt pw_15 (by have e9 : x_17 = x_8 := ex_17.trans ex_8.symm; rw [e9]; omega)) (cwV 4 hts gX8_fits_X8_gapAt rfl rfl rfl (by decide +kernel) ⟨Nat.le_of_ble_eq_true rfl, Nat.le_of_ble_eq_true rfl⟩) (bs_RV hB (hP.sub (ws' := [(m0, .inr (6, [.ref st, .ref im, .ref kq, .ref pw, .ref nx, .ref li, .int d6, .ref il, .ref mv, .ref so, .ref la, .int d11, .int d12, .ref co])), (st, .inl (cyI, 72, .inl fs))]) [0, 1] rfl) 0 rfl rfl) rfl rfl hl.1 rfl (lv_room (Nat.le_of_ble_eq_true rfl)) dX8_fits_93 ⟨Nat.le_of_ble_eq_true rfl, Nat.le_of_ble_eq_true rfl⟩)) (fun r_18 hr_18 => ?_)
          refine lv_istore (lv' := [(7, .int r_18), (6, .int (nI v_4)), (5, .int (nI (12 + (6 * j)))), (0, .ref m0), (1, .int (nI j)), (2, .int p2), (3, .int (nI va)), (4, .int p4)]) hx hb dX8_fits_96 hl (by decide) rfl (fun ls hl => ?_)
          refine lv_aload_n hx hb dX8_fits_98 rfl (lv_at hl 3 rfl) ?_
          refine va_get (D := (dC, dI)) (ci := 6) (v := .ref st) (C := RX8) (T := TX8) (N := 14) hx hb hts hnX8_fits_X8 hown hK hP 0 rfl rfl 0 (by decide) (hts (.fieldLink RX8 7 "RingMeetsModel" "state" "[I") (by decide +kernel)) (fun _ h9 => h9) rfl dX8_fits_99 ?_
          refine lv_iload hx hb dX8_fits_102 (lv_at hl 2 rfl) ?_
          refine lv_iconst (v := 2) hx hb dX8_fits_104 (by decide) ?_
          refine lv_iadd hx hb dX8_fits_105 ?_
          refine lv_topi (fun x_19 ex_19 => ?_)
          obtain rfl : (nI ((12 + (6 * j)) + 2)) = x_19 := (ex_19.trans (nI_add _ 2)).symm
          refine va_iald (D := (dC, dI)) hx hb hK hP 1 0 rfl rfl (vp_in_nI (n := ((12 + (6 * j)) + 2)) (N := 72) (by omega) (by omega)) dX8_fits_106 ?_
          refine lv_topi (fun x_20 ex_20 => ?_)
          rw [nI_clamp (n := ((12 + (6 * j)) + 2)) (by omega)] at ex_20
          refine lv_if_ne (tgt := 132) hx hb dX8_fits_107 (by decide) (fun c_21 => ?_) (fun c_21 => ?_)
          · skip
            have ic_21 := ci_ne (rfl : Int32.toInt x_20 = _) (show Int32.toInt 0 = 0 by decide) c_21
            refine lv_aload_n hx hb dX8_fits_132 rfl (lv_at hl 3 rfl) ?_
            refine va_get (D := (dC, dI)) (ci := 6) (v := .ref st) (C := RX8) (T := TX8) (N := 14) hx hb hts hnX8_fits_X8 hown hK hP 0 rfl rfl 0 (by decide) (hts (.fieldLink RX8 7 "RingMeetsModel" "state" "[I") (by decide +kernel)) (fun _ h9 => h9) rfl dX8_fits_133 ?_
            refine lv_iload hx hb dX8_fits_136 (lv_at hl 2 rfl) ?_
            refine lv_iconst (v := 2) hx hb dX8_fits_138 (by decide) ?_
            refine lv_iadd hx hb dX8_fits_139 ?_
            refine lv_topi (fun x_22 ex_22 => ?_)
            obtain rfl : (nI ((12 + (6 * j)) + 2)) = x_22 := (ex_22.trans (nI_add _ 2)).symm
            refine va_iald (D := (dC, dI)) hx hb hK hP 1 0 rfl rfl (vp_in_nI (n := ((12 + (6 * j)) + 2)) (N := 72) (by omega) (by omega)) dX8_fits_140 ?_
            refine lv_topi (fun x_23 ex_23 => ?_)
            rw [nI_clamp (n := ((12 + (6 * j)) + 2)) (by omega)] at ex_23
            refine lv_iconst (v := 1) hx hb dX8_fits_141 (by decide) ?_
            refine lv_icmp_ne (tgt := 167) hx hb dX8_fits_142 (by decide) (fun c_24 => ?_) (fun c_24 => ?_)
            · skip
              have ic_24 := ci_ne (rfl : Int32.toInt x_23 = _) (show Int32.toInt 1 = 1 by decide) c_24
              refine lv_iload hx hb dX8_fits_167 (lv_at hl 0 rfl) ?_
              refine lv_aload_n hx hb dX8_fits_169 rfl (lv_at hl 3 rfl) ?_
              refine va_get (D := (dC, dI)) (ci := 6) (v := .ref st) (C := RX8) (T := TX8) (N := 14) hx hb hts hnX8_fits_X8 hown hK hP 0 rfl rfl 0 (by decide) (hts (.fieldLink RX8 7 "RingMeetsModel" "state" "[I") (by decide +kernel)) (fun _ h9 => h9) rfl dX8_fits_170 ?_
              refine lv_iload hx hb dX8_fits_173 (lv_at hl 2 rfl) ?_
              refine lv_iconst (v := 3) hx hb dX8_fits_175 (by decide) ?_
              refine lv_iadd hx hb dX8_fits_176 ?_
              refine lv_topi (fun x_25 ex_25 => ?_)
              obtain rfl : (nI ((12 + (6 * j)) + 3)) = x_25 := (ex_25.trans (nI_add _ 3)).symm
              refine va_iald (D := (dC, dI)) hx hb hK hP 1 0 rfl rfl (vp_in_nI (n := ((12 + (6 * j)) + 3)) (N := 72) (by omega) (by omega)) dX8_fits_177 ?_
              refine lv_topi (fun x_26 ex_26 => ?_)
              rw [nI_clamp (n := ((12 + (6 * j)) + 3)) (by omega)] at ex_26
              refine lv_icmp_le (tgt := 185) hx hb dX8_fits_178 (by decide) (fun c_27 => ?_) (fun c_27 => ?_)
              · skip
                have ic_27 := ci_le (rfl : Int32.toInt r_18 = _) (rfl : Int32.toInt x_26 = _) c_27
                refine lv_iconst (v := 0) hx hb dX8_fits_185 (by decide) ?_
                exact W.zret (v := 0) hx hb hr (show narrow .boolean (.int 0) = .int 0 from rfl) (fun t ht hW => ⟨0, rfl, Or.inl rfl, ht⟩) (fun q h => by cases h) dX8_fits_186
              · skip
                have ic_27 := ci_nle (rfl : Int32.toInt r_18 = _) (rfl : Int32.toInt x_26 = _) c_27
                refine lv_iconst (v := 1) hx hb dX8_fits_181 (by decide) ?_
                refine lv_goto (tgt := 186) hx hb dX8_fits_182 (by decide) ?_
                exact W.zret (v := 1) hx hb hr (show narrow .boolean (.int 1) = .int 1 from rfl) (fun t ht hW => ⟨1, rfl, Or.inr rfl, ht⟩) (fun q h => by cases h) dX8_fits_186
            · skip
              have ic_24 := ci_eq (rfl : Int32.toInt x_23 = _) (show Int32.toInt 1 = 1 by decide) c_24
              refine lv_iload hx hb dX8_fits_145 (lv_at hl 0 rfl) ?_
              refine lv_aload_n hx hb dX8_fits_147 rfl (lv_at hl 3 rfl) ?_
              refine va_get (D := (dC, dI)) (ci := 6) (v := .ref st) (C := RX8) (T := TX8) (N := 14) hx hb hts hnX8_fits_X8 hown hK hP 0 rfl rfl 0 (by decide) (hts (.fieldLink RX8 7 "RingMeetsModel" "state" "[I") (by decide +kernel)) (fun _ h9 => h9) rfl dX8_fits_148 ?_
              refine lv_iload hx hb dX8_fits_151 (lv_at hl 2 rfl) ?_
              refine lv_iconst (v := 3) hx hb dX8_fits_153 (by decide) ?_
              refine lv_iadd hx hb dX8_fits_154 ?_
              refine lv_topi (fun x_28 ex_28 => ?_)
              obtain rfl : (nI ((12 + (6 * j)) + 3)) = x_28 := (ex_28.trans (nI_add _ 3)).symm
              refine va_iald (D := (dC, dI)) hx hb hK hP 1 0 rfl rfl (vp_in_nI (n := ((12 + (6 * j)) + 3)) (N := 72) (by omega) (by omega)) dX8_fits_155 ?_
              refine lv_topi (fun x_29 ex_29 => ?_)
              rw [nI_clamp (n := ((12 + (6 * j)) + 3)) (by omega)] at ex_29
              refine lv_icmp_ne (tgt := 163) hx hb dX8_fits_156 (by decide) (fun c_30 => ?_) (fun c_30 => ?_)
              · skip
                have ic_30 := ci_ne (rfl : Int32.toInt r_18 = _) (rfl : Int32.toInt x_29 = _) c_30
                refine lv_iconst (v := 0) hx hb dX8_fits_163 (by decide) ?_
                refine lv_goto (tgt := 186) hx hb dX8_fits_164 (by decide) ?_
                exact W.zret (v := 0) hx hb hr (show narrow .boolean (.int 0) = .int 0 from rfl) (fun t ht hW => ⟨0, rfl, Or.inl rfl, ht⟩) (fun q h => by cases h) dX8_fits_186
              · skip
                have ic_30 := ci_eq (rfl : Int32.toInt r_18 = _) (rfl : Int32.toInt x_29 = _) c_30
                refine lv_iconst (v := 1) hx hb dX8_fits_159 (by decide) ?_
                refine lv_goto (tgt := 186) hx hb dX8_fits_160 (by decide) ?_
                exact W.zret (v := 1) hx hb hr (show narrow .boolean (.int 1) = .int 1 from rfl) (fun t ht hW => ⟨1, rfl, Or.inr rfl, ht⟩) (fun q h => by cases h) dX8_fits_186
          · skip
            have ic_21 := ci_eq (rfl : Int32.toInt x_20 = _) (show Int32.toInt 0 = 0 by decide) c_21
            refine lv_iload hx hb dX8_fits_110 (lv_at hl 0 rfl) ?_
            refine lv_aload_n hx hb dX8_fits_112 rfl (lv_at hl 3 rfl) ?_
            refine va_get (D := (dC, dI)) (ci := 6) (v := .ref st) (C := RX8) (T := TX8) (N := 14) hx hb hts hnX8_fits_X8 hown hK hP 0 rfl rfl 0 (by decide) (hts (.fieldLink RX8 7 "RingMeetsModel" "state" "[I") (by decide +kernel)) (fun _ h9 => h9) rfl dX8_fits_113 ?_
            refine lv_iload hx hb dX8_fits_116 (lv_at hl 2 rfl) ?_
            refine lv_iconst (v := 3) hx hb dX8_fits_118 (by decide) ?_
            refine lv_iadd hx hb dX8_fits_119 ?_
            refine lv_topi (fun x_31 ex_31 => ?_)
            obtain rfl : (nI ((12 + (6 * j)) + 3)) = x_31 := (ex_31.trans (nI_add _ 3)).symm
            refine va_iald (D := (dC, dI)) hx hb hK hP 1 0 rfl rfl (vp_in_nI (n := ((12 + (6 * j)) + 3)) (N := 72) (by omega) (by omega)) dX8_fits_120 ?_
            refine lv_topi (fun x_32 ex_32 => ?_)
            rw [nI_clamp (n := ((12 + (6 * j)) + 3)) (by omega)] at ex_32
            refine lv_icmp_ge (tgt := 128) hx hb dX8_fits_121 (by decide) (fun c_33 => ?_) (fun c_33 => ?_)
            · skip
              have ic_33 := ci_le (rfl : Int32.toInt x_32 = _) (rfl : Int32.toInt r_18 = _) c_33
              refine lv_iconst (v := 0) hx hb dX8_fits_128 (by decide) ?_
              refine lv_goto (tgt := 186) hx hb dX8_fits_129 (by decide) ?_
              exact W.zret (v := 0) hx hb hr (show narrow .boolean (.int 0) = .int 0 from rfl) (fun t ht hW => ⟨0, rfl, Or.inl rfl, ht⟩) (fun q h => by cases h) dX8_fits_186
            · skip
              have ic_33 := ci_nle (rfl : Int32.toInt x_32 = _) (rfl : Int32.toInt r_18 = _) c_33
              refine lv_iconst (v := 1) hx hb dX8_fits_124 (by decide) ?_
              refine lv_goto (tgt := 186) hx hb dX8_fits_125 (by decide) ?_
              exact W.zret (v := 1) hx hb hr (show narrow .boolean (.int 1) = .int 1 from rfl) (fun t ht hW => ⟨1, rfl, Or.inr rfl, ht⟩) (fun q h => by cases h) dX8_fits_186
        · skip
          have ic_13 := ci_eq (rfl : Int32.toInt x_11 = _) (show Int32.toInt 1 = 1 by decide) c_13
          refine lv_iconst (v := 0) hx hb dX8_fits_73 (by decide) ?_
          exact W.zret (v := 0) hx hb hr (show narrow .boolean (.int 0) = .int 0 from rfl) (fun t ht hW => ⟨0, rfl, Or.inl rfl, ht⟩) (fun q h => by cases h) dX8_fits_74
      · skip
        have ic_12 := ci_ne (rfl : Int32.toInt p4 = _) (show Int32.toInt 0 = 0 by decide) c_12
        refine lv_iconst (v := 0) hx hb dX8_fits_65 (by decide) ?_
        refine lv_goto (tgt := 70) hx hb dX8_fits_66 (by decide) ?_
        refine lv_icmp_ne (tgt := 75) hx hb dX8_fits_70 (by decide) (fun c_34 => ?_) (fun c_34 => ?_)
        · skip
          have ic_34 := ci_ne (rfl : Int32.toInt x_11 = _) (show Int32.toInt 0 = 0 by decide) c_34
          refine lv_aload_n hx hb dX8_fits_75 rfl (lv_at hl 2 rfl) ?_
          refine lv_iload_n hx hb dX8_fits_76 rfl (lv_at hl 4 rfl) ?_
          refine lv_iload_n hx hb dX8_fits_77 rfl (lv_at hl 5 rfl) ?_
          refine lv_aload_n hx hb dX8_fits_78 rfl (lv_at hl 2 rfl) ?_
          refine lv_iload_n hx hb dX8_fits_79 rfl (lv_at hl 4 rfl) ?_
          refine lv_iload_n hx hb dX8_fits_80 rfl (lv_at hl 5 rfl) ?_
          refine vp_callSi (va_Run.run (va_runV (As := [.int p2, .int (nI va)]) (rest := [.int (nI va), .int p2, .ref m0]) ⟨hx, hb, hml, hown, hts⟩ (mX8_viewWay l dC dI cyI cyZ m0 st im kq pw nx li il mv so la co d6 d11 d12 n fs va p2 hn3 hn h0f (by omega) hbt) (cwV 2 hts gX8_fits_X8_viewWay rfl rfl rfl (by decide +kernel) ⟨Nat.le_of_ble_eq_true rfl, Nat.le_of_ble_eq_true rfl⟩) (bs_RV hB (hP.sub (ws' := [(m0, .inr (6, [.ref st, .ref im, .ref kq, .ref pw, .ref nx, .ref li, .int d6, .ref il, .ref mv, .ref so, .ref la, .int d11, .int d12, .ref co])), (st, .inl (cyI, 72, .inl fs))]) [0, 1] rfl) 0 rfl rfl) rfl rfl hl.1 rfl (lv_room (Nat.le_of_ble_eq_true rfl)) dX8_fits_81 ⟨Nat.le_of_ble_eq_true rfl, Nat.le_of_ble_eq_true rfl⟩)) (fun r_35 hr_35 => ?_)
          obtain ⟨w_36, hw_36, pw_36⟩ := mn_pm hr_35
          refine lv_aload_n hx hb dX8_fits_84 rfl (lv_at hl 2 rfl) ?_
          refine va_get (D := (dC, dI)) (ci := 6) (v := .ref st) (C := RX8) (T := TX8) (N := 14) hx hb hts hnX8_fits_X8 hown hK hP 0 rfl rfl 0 (by decide) (hts (.fieldLink RX8 7 "RingMeetsModel" "state" "[I") (by decide +kernel)) (fun _ h9 => h9) rfl dX8_fits_85 ?_
          refine lv_iload hx hb dX8_fits_88 (lv_at hl 1 rfl) ?_
          refine lv_iconst (v := 1) hx hb dX8_fits_90 (by decide) ?_
          refine lv_iadd hx hb dX8_fits_91 ?_
          refine lv_topi (fun x_37 ex_37 => ?_)
          obtain rfl : (nI ((12 + (6 * j)) + 1)) = x_37 := (ex_37.trans (nI_1 _)).symm
          refine va_iald (D := (dC, dI)) hx hb hK hP 1 0 rfl rfl (vp_in_nI (n := ((12 + (6 * j)) + 1)) (N := 72) (by omega) (by omega)) dX8_fits_92 ?_
          refine lv_topi (fun x_38 ex_38 => ?_)
          rw [nI_clamp (n := ((12 + (6 * j)) + 1)) (by omega)] at ex_38
          refine vp_callSi (va_Run.run (va_runV (As := [.int p2, .int (nI va), .int r_35, .int x_38]) (rest := []) ⟨hx, hb, hml, hown, hts⟩ (mX8_gapAt l dC dI cyI cyZ m0 st im kq pw nx li il mv so la co d6 d11 d12 n fs va w_36 p2 r_35 x_38 hn3 hn h0f (by omega) hw_36 hbt pw_36 (by have e9 : x_38 = x_8 := ex_38.trans ex_8.symm; rw [e9]; omega)) (cwV 4 hts gX8_fits_X8_gapAt rfl rfl rfl (by decide +kernel) ⟨Nat.le_of_ble_eq_true rfl, Nat.le_of_ble_eq_true rfl⟩) (bs_RV hB (hP.sub (ws' := [(m0, .inr (6, [.ref st, .ref im, .ref kq, .ref pw, .ref nx, .ref li, .int d6, .ref il, .ref mv, .ref so, .ref la, .int d11, .int d12, .ref co])), (st, .inl (cyI, 72, .inl fs))]) [0, 1] rfl) 0 rfl rfl) rfl rfl hl.1 rfl (lv_room (Nat.le_of_ble_eq_true rfl)) dX8_fits_93 ⟨Nat.le_of_ble_eq_true rfl, Nat.le_of_ble_eq_true rfl⟩)) (fun r_39 hr_39 => ?_)
          refine lv_istore (lv' := [(7, .int r_39), (6, .int (nI v_4)), (5, .int (nI (12 + (6 * j)))), (0, .ref m0), (1, .int (nI j)), (2, .int p2), (3, .int (nI va)), (4, .int p4)]) hx hb dX8_fits_96 hl (by decide) rfl (fun ls hl => ?_)
          refine lv_aload_n hx hb dX8_fits_98 rfl (lv_at hl 3 rfl) ?_
          refine va_get (D := (dC, dI)) (ci := 6) (v := .ref st) (C := RX8) (T := TX8) (N := 14) hx hb hts hnX8_fits_X8 hown hK hP 0 rfl rfl 0 (by decide) (hts (.fieldLink RX8 7 "RingMeetsModel" "state" "[I") (by decide +kernel)) (fun _ h9 => h9) rfl dX8_fits_99 ?_
          refine lv_iload hx hb dX8_fits_102 (lv_at hl 2 rfl) ?_
          refine lv_iconst (v := 2) hx hb dX8_fits_104 (by decide) ?_
          refine lv_iadd hx hb dX8_fits_105 ?_
          refine lv_topi (fun x_40 ex_40 => ?_)
          obtain rfl : (nI ((12 + (6 * j)) + 2)) = x_40 := (ex_40.trans (nI_add _ 2)).symm
          refine va_iald (D := (dC, dI)) hx hb hK hP 1 0 rfl rfl (vp_in_nI (n := ((12 + (6 * j)) + 2)) (N := 72) (by omega) (by omega)) dX8_fits_106 ?_
          refine lv_topi (fun x_41 ex_41 => ?_)
          rw [nI_clamp (n := ((12 + (6 * j)) + 2)) (by omega)] at ex_41
          refine lv_if_ne (tgt := 132) hx hb dX8_fits_107 (by decide) (fun c_42 => ?_) (fun c_42 => ?_)
          · skip
            have ic_42 := ci_ne (rfl : Int32.toInt x_41 = _) (show Int32.toInt 0 = 0 by decide) c_42
            refine lv_aload_n hx hb dX8_fits_132 rfl (lv_at hl 3 rfl) ?_
            refine va_get (D := (dC, dI)) (ci := 6) (v := .ref st) (C := RX8) (T := TX8) (N := 14) hx hb hts hnX8_fits_X8 hown hK hP 0 rfl rfl 0 (by decide) (hts (.fieldLink RX8 7 "RingMeetsModel" "state" "[I") (by decide +kernel)) (fun _ h9 => h9) rfl dX8_fits_133 ?_
            refine lv_iload hx hb dX8_fits_136 (lv_at hl 2 rfl) ?_
            refine lv_iconst (v := 2) hx hb dX8_fits_138 (by decide) ?_
            refine lv_iadd hx hb dX8_fits_139 ?_
            refine lv_topi (fun x_43 ex_43 => ?_)
            obtain rfl : (nI ((12 + (6 * j)) + 2)) = x_43 := (ex_43.trans (nI_add _ 2)).symm
            refine va_iald (D := (dC, dI)) hx hb hK hP 1 0 rfl rfl (vp_in_nI (n := ((12 + (6 * j)) + 2)) (N := 72) (by omega) (by omega)) dX8_fits_140 ?_
            refine lv_topi (fun x_44 ex_44 => ?_)
            rw [nI_clamp (n := ((12 + (6 * j)) + 2)) (by omega)] at ex_44
            refine lv_iconst (v := 1) hx hb dX8_fits_141 (by decide) ?_
            refine lv_icmp_ne (tgt := 167) hx hb dX8_fits_142 (by decide) (fun c_45 => ?_) (fun c_45 => ?_)
            · skip
              have ic_45 := ci_ne (rfl : Int32.toInt x_44 = _) (show Int32.toInt 1 = 1 by decide) c_45
              refine lv_iload hx hb dX8_fits_167 (lv_at hl 0 rfl) ?_
              refine lv_aload_n hx hb dX8_fits_169 rfl (lv_at hl 3 rfl) ?_
              refine va_get (D := (dC, dI)) (ci := 6) (v := .ref st) (C := RX8) (T := TX8) (N := 14) hx hb hts hnX8_fits_X8 hown hK hP 0 rfl rfl 0 (by decide) (hts (.fieldLink RX8 7 "RingMeetsModel" "state" "[I") (by decide +kernel)) (fun _ h9 => h9) rfl dX8_fits_170 ?_
              refine lv_iload hx hb dX8_fits_173 (lv_at hl 2 rfl) ?_
              refine lv_iconst (v := 3) hx hb dX8_fits_175 (by decide) ?_
              refine lv_iadd hx hb dX8_fits_176 ?_
              refine lv_topi (fun x_46 ex_46 => ?_)
              obtain rfl : (nI ((12 + (6 * j)) + 3)) = x_46 := (ex_46.trans (nI_add _ 3)).symm
              refine va_iald (D := (dC, dI)) hx hb hK hP 1 0 rfl rfl (vp_in_nI (n := ((12 + (6 * j)) + 3)) (N := 72) (by omega) (by omega)) dX8_fits_177 ?_
              refine lv_topi (fun x_47 ex_47 => ?_)
              rw [nI_clamp (n := ((12 + (6 * j)) + 3)) (by omega)] at ex_47
              refine lv_icmp_le (tgt := 185) hx hb dX8_fits_178 (by decide) (fun c_48 => ?_) (fun c_48 => ?_)
              · skip
                have ic_48 := ci_le (rfl : Int32.toInt r_39 = _) (rfl : Int32.toInt x_47 = _) c_48
                refine lv_iconst (v := 0) hx hb dX8_fits_185 (by decide) ?_
                exact W.zret (v := 0) hx hb hr (show narrow .boolean (.int 0) = .int 0 from rfl) (fun t ht hW => ⟨0, rfl, Or.inl rfl, ht⟩) (fun q h => by cases h) dX8_fits_186
              · skip
                have ic_48 := ci_nle (rfl : Int32.toInt r_39 = _) (rfl : Int32.toInt x_47 = _) c_48
                refine lv_iconst (v := 1) hx hb dX8_fits_181 (by decide) ?_
                refine lv_goto (tgt := 186) hx hb dX8_fits_182 (by decide) ?_
                exact W.zret (v := 1) hx hb hr (show narrow .boolean (.int 1) = .int 1 from rfl) (fun t ht hW => ⟨1, rfl, Or.inr rfl, ht⟩) (fun q h => by cases h) dX8_fits_186
            · skip
              have ic_45 := ci_eq (rfl : Int32.toInt x_44 = _) (show Int32.toInt 1 = 1 by decide) c_45
              refine lv_iload hx hb dX8_fits_145 (lv_at hl 0 rfl) ?_
              refine lv_aload_n hx hb dX8_fits_147 rfl (lv_at hl 3 rfl) ?_
              refine va_get (D := (dC, dI)) (ci := 6) (v := .ref st) (C := RX8) (T := TX8) (N := 14) hx hb hts hnX8_fits_X8 hown hK hP 0 rfl rfl 0 (by decide) (hts (.fieldLink RX8 7 "RingMeetsModel" "state" "[I") (by decide +kernel)) (fun _ h9 => h9) rfl dX8_fits_148 ?_
              refine lv_iload hx hb dX8_fits_151 (lv_at hl 2 rfl) ?_
              refine lv_iconst (v := 3) hx hb dX8_fits_153 (by decide) ?_
              refine lv_iadd hx hb dX8_fits_154 ?_
              refine lv_topi (fun x_49 ex_49 => ?_)
              obtain rfl : (nI ((12 + (6 * j)) + 3)) = x_49 := (ex_49.trans (nI_add _ 3)).symm
              refine va_iald (D := (dC, dI)) hx hb hK hP 1 0 rfl rfl (vp_in_nI (n := ((12 + (6 * j)) + 3)) (N := 72) (by omega) (by omega)) dX8_fits_155 ?_
              refine lv_topi (fun x_50 ex_50 => ?_)
              rw [nI_clamp (n := ((12 + (6 * j)) + 3)) (by omega)] at ex_50
              refine lv_icmp_ne (tgt := 163) hx hb dX8_fits_156 (by decide) (fun c_51 => ?_) (fun c_51 => ?_)
              · skip
                have ic_51 := ci_ne (rfl : Int32.toInt r_39 = _) (rfl : Int32.toInt x_50 = _) c_51
                refine lv_iconst (v := 0) hx hb dX8_fits_163 (by decide) ?_
                refine lv_goto (tgt := 186) hx hb dX8_fits_164 (by decide) ?_
                exact W.zret (v := 0) hx hb hr (show narrow .boolean (.int 0) = .int 0 from rfl) (fun t ht hW => ⟨0, rfl, Or.inl rfl, ht⟩) (fun q h => by cases h) dX8_fits_186
              · skip
                have ic_51 := ci_eq (rfl : Int32.toInt r_39 = _) (rfl : Int32.toInt x_50 = _) c_51
                refine lv_iconst (v := 1) hx hb dX8_fits_159 (by decide) ?_
                refine lv_goto (tgt := 186) hx hb dX8_fits_160 (by decide) ?_
                exact W.zret (v := 1) hx hb hr (show narrow .boolean (.int 1) = .int 1 from rfl) (fun t ht hW => ⟨1, rfl, Or.inr rfl, ht⟩) (fun q h => by cases h) dX8_fits_186
          · skip
            have ic_42 := ci_eq (rfl : Int32.toInt x_41 = _) (show Int32.toInt 0 = 0 by decide) c_42
            refine lv_iload hx hb dX8_fits_110 (lv_at hl 0 rfl) ?_
            refine lv_aload_n hx hb dX8_fits_112 rfl (lv_at hl 3 rfl) ?_
            refine va_get (D := (dC, dI)) (ci := 6) (v := .ref st) (C := RX8) (T := TX8) (N := 14) hx hb hts hnX8_fits_X8 hown hK hP 0 rfl rfl 0 (by decide) (hts (.fieldLink RX8 7 "RingMeetsModel" "state" "[I") (by decide +kernel)) (fun _ h9 => h9) rfl dX8_fits_113 ?_
            refine lv_iload hx hb dX8_fits_116 (lv_at hl 2 rfl) ?_
            refine lv_iconst (v := 3) hx hb dX8_fits_118 (by decide) ?_
            refine lv_iadd hx hb dX8_fits_119 ?_
            refine lv_topi (fun x_52 ex_52 => ?_)
            obtain rfl : (nI ((12 + (6 * j)) + 3)) = x_52 := (ex_52.trans (nI_add _ 3)).symm
            refine va_iald (D := (dC, dI)) hx hb hK hP 1 0 rfl rfl (vp_in_nI (n := ((12 + (6 * j)) + 3)) (N := 72) (by omega) (by omega)) dX8_fits_120 ?_
            refine lv_topi (fun x_53 ex_53 => ?_)
            rw [nI_clamp (n := ((12 + (6 * j)) + 3)) (by omega)] at ex_53
            refine lv_icmp_ge (tgt := 128) hx hb dX8_fits_121 (by decide) (fun c_54 => ?_) (fun c_54 => ?_)
            · skip
              have ic_54 := ci_le (rfl : Int32.toInt x_53 = _) (rfl : Int32.toInt r_39 = _) c_54
              refine lv_iconst (v := 0) hx hb dX8_fits_128 (by decide) ?_
              refine lv_goto (tgt := 186) hx hb dX8_fits_129 (by decide) ?_
              exact W.zret (v := 0) hx hb hr (show narrow .boolean (.int 0) = .int 0 from rfl) (fun t ht hW => ⟨0, rfl, Or.inl rfl, ht⟩) (fun q h => by cases h) dX8_fits_186
            · skip
              have ic_54 := ci_nle (rfl : Int32.toInt x_53 = _) (rfl : Int32.toInt r_39 = _) c_54
              refine lv_iconst (v := 1) hx hb dX8_fits_124 (by decide) ?_
              refine lv_goto (tgt := 186) hx hb dX8_fits_125 (by decide) ?_
              exact W.zret (v := 1) hx hb hr (show narrow .boolean (.int 1) = .int 1 from rfl) (fun t ht hW => ⟨1, rfl, Or.inr rfl, ht⟩) (fun q h => by cases h) dX8_fits_186
        · skip
          have ic_34 := ci_eq (rfl : Int32.toInt x_11 = _) (show Int32.toInt 0 = 0 by decide) c_34
          refine lv_iconst (v := 0) hx hb dX8_fits_73 (by decide) ?_
          exact W.zret (v := 0) hx hb hr (show narrow .boolean (.int 0) = .int 0 from rfl) (fun t ht hW => ⟨0, rfl, Or.inl rfl, ht⟩) (fun q h => by cases h) dX8_fits_74
  · skip
    have ic_6 := ci_nle (rfl : Int32.toInt x_5 = _) (show Int32.toInt 0 = 0 by decide) c_6
    refine lv_aload_n hx hb dX8_fits_25 rfl (lv_at hl 2 rfl) ?_
    refine va_get (D := (dC, dI)) (ci := 6) (v := .ref st) (C := RX8) (T := TX8) (N := 14) hx hb hts hnX8_fits_X8 hown hK hP 0 rfl rfl 0 (by decide) (hts (.fieldLink RX8 7 "RingMeetsModel" "state" "[I") (by decide +kernel)) (fun _ h9 => h9) rfl dX8_fits_26 ?_
    refine lv_iload hx hb dX8_fits_29 (lv_at hl 1 rfl) ?_
    refine va_iald (D := (dC, dI)) hx hb hK hP 1 0 rfl rfl (vp_in_nI (n := (12 + (6 * j))) (N := 72) (by omega) (by omega)) dX8_fits_31 ?_
    refine lv_topi (fun x_55 ex_55 => ?_)
    rw [nI_clamp (n := (12 + (6 * j))) (by omega)] at ex_55
    refine lv_iload hx hb dX8_fits_32 (lv_at hl 0 rfl) ?_
    refine lv_icmp_ne (tgt := 73) hx hb dX8_fits_34 (by decide) (fun c_56 => ?_) (fun c_56 => ?_)
    · skip
      have ic_56 := ci_ne (rfl : Int32.toInt x_55 = _) (nI_toInt (n := v_4) (by omega)) c_56
      refine lv_iconst (v := 0) hx hb dX8_fits_73 (by decide) ?_
      exact W.zret (v := 0) hx hb hr (show narrow .boolean (.int 0) = .int 0 from rfl) (fun t ht hW => ⟨0, rfl, Or.inl rfl, ht⟩) (fun q h => by cases h) dX8_fits_74
    · skip
      have ic_56 := ci_eq (rfl : Int32.toInt x_55 = _) (nI_toInt (n := v_4) (by omega)) c_56
      refine lv_aload_n hx hb dX8_fits_37 rfl (lv_at hl 2 rfl) ?_
      refine va_get (D := (dC, dI)) (ci := 6) (v := .ref st) (C := RX8) (T := TX8) (N := 14) hx hb hts hnX8_fits_X8 hown hK hP 0 rfl rfl 0 (by decide) (hts (.fieldLink RX8 7 "RingMeetsModel" "state" "[I") (by decide +kernel)) (fun _ h9 => h9) rfl dX8_fits_38 ?_
      refine lv_iload hx hb dX8_fits_41 (lv_at hl 1 rfl) ?_
      refine lv_iconst (v := 1) hx hb dX8_fits_43 (by decide) ?_
      refine lv_iadd hx hb dX8_fits_44 ?_
      refine lv_topi (fun x_57 ex_57 => ?_)
      obtain rfl : (nI ((12 + (6 * j)) + 1)) = x_57 := (ex_57.trans (nI_1 _)).symm
      refine va_iald (D := (dC, dI)) hx hb hK hP 1 0 rfl rfl (vp_in_nI (n := ((12 + (6 * j)) + 1)) (N := 72) (by omega) (by omega)) dX8_fits_45 ?_
      refine lv_topi (fun x_58 ex_58 => ?_)
      rw [nI_clamp (n := ((12 + (6 * j)) + 1)) (by omega)] at ex_58
      refine lv_iload hx hb dX8_fits_46 (lv_at hl 0 rfl) ?_
      refine lv_icmp_ge (tgt := 73) hx hb dX8_fits_48 (by decide) (fun c_59 => ?_) (fun c_59 => ?_)
      · skip
        have ic_59 := ci_le (nI_toInt (n := v_4) (by omega)) (rfl : Int32.toInt x_58 = _) c_59
        refine lv_iconst (v := 0) hx hb dX8_fits_73 (by decide) ?_
        exact W.zret (v := 0) hx hb hr (show narrow .boolean (.int 0) = .int 0 from rfl) (fun t ht hW => ⟨0, rfl, Or.inl rfl, ht⟩) (fun q h => by cases h) dX8_fits_74
      · skip
        have ic_59 := ci_nle (nI_toInt (n := v_4) (by omega)) (rfl : Int32.toInt x_58 = _) c_59
        refine lv_aload_n hx hb dX8_fits_51 rfl (lv_at hl 2 rfl) ?_
        refine va_get (D := (dC, dI)) (ci := 6) (v := .ref st) (C := RX8) (T := TX8) (N := 14) hx hb hts hnX8_fits_X8 hown hK hP 0 rfl rfl 0 (by decide) (hts (.fieldLink RX8 7 "RingMeetsModel" "state" "[I") (by decide +kernel)) (fun _ h9 => h9) rfl dX8_fits_52 ?_
        refine lv_iload hx hb dX8_fits_55 (lv_at hl 1 rfl) ?_
        refine lv_iconst (v := 5) hx hb dX8_fits_57 (by decide) ?_
        refine lv_iadd hx hb dX8_fits_58 ?_
        refine lv_topi (fun x_60 ex_60 => ?_)
        obtain rfl : (nI ((12 + (6 * j)) + 5)) = x_60 := (ex_60.trans (nI_add _ 5)).symm
        refine va_iald (D := (dC, dI)) hx hb hK hP 1 0 rfl rfl (vp_in_nI (n := ((12 + (6 * j)) + 5)) (N := 72) (by omega) (by omega)) dX8_fits_59 ?_
        refine lv_topi (fun x_61 ex_61 => ?_)
        rw [nI_clamp (n := ((12 + (6 * j)) + 5)) (by omega)] at ex_61
        refine lv_iload hx hb dX8_fits_60 (lv_at hl 6 rfl) ?_
        refine lv_if_eq (tgt := 69) hx hb dX8_fits_62 (by decide) (fun c_62 => ?_) (fun c_62 => ?_)
        · skip
          have ic_62 := ci_eq (rfl : Int32.toInt p4 = _) (show Int32.toInt 0 = 0 by decide) c_62
          refine lv_iconst (v := 1) hx hb dX8_fits_69 (by decide) ?_
          refine lv_icmp_ne (tgt := 75) hx hb dX8_fits_70 (by decide) (fun c_63 => ?_) (fun c_63 => ?_)
          · skip
            have ic_63 := ci_ne (rfl : Int32.toInt x_61 = _) (show Int32.toInt 1 = 1 by decide) c_63
            refine lv_aload_n hx hb dX8_fits_75 rfl (lv_at hl 2 rfl) ?_
            refine lv_iload_n hx hb dX8_fits_76 rfl (lv_at hl 4 rfl) ?_
            refine lv_iload_n hx hb dX8_fits_77 rfl (lv_at hl 5 rfl) ?_
            refine lv_aload_n hx hb dX8_fits_78 rfl (lv_at hl 2 rfl) ?_
            refine lv_iload_n hx hb dX8_fits_79 rfl (lv_at hl 4 rfl) ?_
            refine lv_iload_n hx hb dX8_fits_80 rfl (lv_at hl 5 rfl) ?_
            refine vp_callSi (va_Run.run (va_runV (As := [.int p2, .int (nI va)]) (rest := [.int (nI va), .int p2, .ref m0]) ⟨hx, hb, hml, hown, hts⟩ (mX8_viewWay l dC dI cyI cyZ m0 st im kq pw nx li il mv so la co d6 d11 d12 n fs va p2 hn3 hn h0f (by omega) hbt) (cwV 2 hts gX8_fits_X8_viewWay rfl rfl rfl (by decide +kernel) ⟨Nat.le_of_ble_eq_true rfl, Nat.le_of_ble_eq_true rfl⟩) (bs_RV hB (hP.sub (ws' := [(m0, .inr (6, [.ref st, .ref im, .ref kq, .ref pw, .ref nx, .ref li, .int d6, .ref il, .ref mv, .ref so, .ref la, .int d11, .int d12, .ref co])), (st, .inl (cyI, 72, .inl fs))]) [0, 1] rfl) 0 rfl rfl) rfl rfl hl.1 rfl (lv_room (Nat.le_of_ble_eq_true rfl)) dX8_fits_81 ⟨Nat.le_of_ble_eq_true rfl, Nat.le_of_ble_eq_true rfl⟩)) (fun r_64 hr_64 => ?_)
            obtain ⟨w_65, hw_65, pw_65⟩ := mn_pm hr_64
            refine lv_aload_n hx hb dX8_fits_84 rfl (lv_at hl 2 rfl) ?_
            refine va_get (D := (dC, dI)) (ci := 6) (v := .ref st) (C := RX8) (T := TX8) (N := 14) hx hb hts hnX8_fits_X8 hown hK hP 0 rfl rfl 0 (by decide) (hts (.fieldLink RX8 7 "RingMeetsModel" "state" "[I") (by decide +kernel)) (fun _ h9 => h9) rfl dX8_fits_85 ?_
            refine lv_iload hx hb dX8_fits_88 (lv_at hl 1 rfl) ?_
            refine lv_iconst (v := 1) hx hb dX8_fits_90 (by decide) ?_
            refine lv_iadd hx hb dX8_fits_91 ?_
            refine lv_topi (fun x_66 ex_66 => ?_)
            obtain rfl : (nI ((12 + (6 * j)) + 1)) = x_66 := (ex_66.trans (nI_1 _)).symm
            refine va_iald (D := (dC, dI)) hx hb hK hP 1 0 rfl rfl (vp_in_nI (n := ((12 + (6 * j)) + 1)) (N := 72) (by omega) (by omega)) dX8_fits_92 ?_
            refine lv_topi (fun x_67 ex_67 => ?_)
            rw [nI_clamp (n := ((12 + (6 * j)) + 1)) (by omega)] at ex_67
            refine vp_callSi (va_Run.run (va_runV (As := [.int p2, .int (nI va), .int r_64, .int x_67]) (rest := []) ⟨hx, hb, hml, hown, hts⟩ (mX8_gapAt l dC dI cyI cyZ m0 st im kq pw nx li il mv so la co d6 d11 d12 n fs va w_65 p2 r_64 x_67 hn3 hn h0f (by omega) hw_65 hbt pw_65 (by have e9 : x_67 = x_58 := ex_67.trans ex_58.symm; rw [e9]; omega)) (cwV 4 hts gX8_fits_X8_gapAt rfl rfl rfl (by decide +kernel) ⟨Nat.le_of_ble_eq_true rfl, Nat.le_of_ble_eq_true rfl⟩) (bs_RV hB (hP.sub (ws' := [(m0, .inr (6, [.ref st, .ref im, .ref kq, .ref pw, .ref nx, .ref li, .int d6, .ref il, .ref mv, .ref so, .ref la, .int d11, .int d12, .ref co])), (st, .inl (cyI, 72, .inl fs))]) [0, 1] rfl) 0 rfl rfl) rfl rfl hl.1 rfl (lv_room (Nat.le_of_ble_eq_true rfl)) dX8_fits_93 ⟨Nat.le_of_ble_eq_true rfl, Nat.le_of_ble_eq_true rfl⟩)) (fun r_68 hr_68 => ?_)
            refine lv_istore (lv' := [(7, .int r_68), (6, .int (nI v_4)), (5, .int (nI (12 + (6 * j)))), (0, .ref m0), (1, .int (nI j)), (2, .int p2), (3, .int (nI va)), (4, .int p4)]) hx hb dX8_fits_96 hl (by decide) rfl (fun ls hl => ?_)
            refine lv_aload_n hx hb dX8_fits_98 rfl (lv_at hl 3 rfl) ?_
            refine va_get (D := (dC, dI)) (ci := 6) (v := .ref st) (C := RX8) (T := TX8) (N := 14) hx hb hts hnX8_fits_X8 hown hK hP 0 rfl rfl 0 (by decide) (hts (.fieldLink RX8 7 "RingMeetsModel" "state" "[I") (by decide +kernel)) (fun _ h9 => h9) rfl dX8_fits_99 ?_
            refine lv_iload hx hb dX8_fits_102 (lv_at hl 2 rfl) ?_
            refine lv_iconst (v := 2) hx hb dX8_fits_104 (by decide) ?_
            refine lv_iadd hx hb dX8_fits_105 ?_
            refine lv_topi (fun x_69 ex_69 => ?_)
            obtain rfl : (nI ((12 + (6 * j)) + 2)) = x_69 := (ex_69.trans (nI_add _ 2)).symm
            refine va_iald (D := (dC, dI)) hx hb hK hP 1 0 rfl rfl (vp_in_nI (n := ((12 + (6 * j)) + 2)) (N := 72) (by omega) (by omega)) dX8_fits_106 ?_
            refine lv_topi (fun x_70 ex_70 => ?_)
            rw [nI_clamp (n := ((12 + (6 * j)) + 2)) (by omega)] at ex_70
            refine lv_if_ne (tgt := 132) hx hb dX8_fits_107 (by decide) (fun c_71 => ?_) (fun c_71 => ?_)
            · skip
              have ic_71 := ci_ne (rfl : Int32.toInt x_70 = _) (show Int32.toInt 0 = 0 by decide) c_71
              refine lv_aload_n hx hb dX8_fits_132 rfl (lv_at hl 3 rfl) ?_
              refine va_get (D := (dC, dI)) (ci := 6) (v := .ref st) (C := RX8) (T := TX8) (N := 14) hx hb hts hnX8_fits_X8 hown hK hP 0 rfl rfl 0 (by decide) (hts (.fieldLink RX8 7 "RingMeetsModel" "state" "[I") (by decide +kernel)) (fun _ h9 => h9) rfl dX8_fits_133 ?_
              refine lv_iload hx hb dX8_fits_136 (lv_at hl 2 rfl) ?_
              refine lv_iconst (v := 2) hx hb dX8_fits_138 (by decide) ?_
              refine lv_iadd hx hb dX8_fits_139 ?_
              refine lv_topi (fun x_72 ex_72 => ?_)
              obtain rfl : (nI ((12 + (6 * j)) + 2)) = x_72 := (ex_72.trans (nI_add _ 2)).symm
              refine va_iald (D := (dC, dI)) hx hb hK hP 1 0 rfl rfl (vp_in_nI (n := ((12 + (6 * j)) + 2)) (N := 72) (by omega) (by omega)) dX8_fits_140 ?_
              refine lv_topi (fun x_73 ex_73 => ?_)
              rw [nI_clamp (n := ((12 + (6 * j)) + 2)) (by omega)] at ex_73
              refine lv_iconst (v := 1) hx hb dX8_fits_141 (by decide) ?_
              refine lv_icmp_ne (tgt := 167) hx hb dX8_fits_142 (by decide) (fun c_74 => ?_) (fun c_74 => ?_)
              · skip
                have ic_74 := ci_ne (rfl : Int32.toInt x_73 = _) (show Int32.toInt 1 = 1 by decide) c_74
                refine lv_iload hx hb dX8_fits_167 (lv_at hl 0 rfl) ?_
                refine lv_aload_n hx hb dX8_fits_169 rfl (lv_at hl 3 rfl) ?_
                refine va_get (D := (dC, dI)) (ci := 6) (v := .ref st) (C := RX8) (T := TX8) (N := 14) hx hb hts hnX8_fits_X8 hown hK hP 0 rfl rfl 0 (by decide) (hts (.fieldLink RX8 7 "RingMeetsModel" "state" "[I") (by decide +kernel)) (fun _ h9 => h9) rfl dX8_fits_170 ?_
                refine lv_iload hx hb dX8_fits_173 (lv_at hl 2 rfl) ?_
                refine lv_iconst (v := 3) hx hb dX8_fits_175 (by decide) ?_
                refine lv_iadd hx hb dX8_fits_176 ?_
                refine lv_topi (fun x_75 ex_75 => ?_)
                obtain rfl : (nI ((12 + (6 * j)) + 3)) = x_75 := (ex_75.trans (nI_add _ 3)).symm
                refine va_iald (D := (dC, dI)) hx hb hK hP 1 0 rfl rfl (vp_in_nI (n := ((12 + (6 * j)) + 3)) (N := 72) (by omega) (by omega)) dX8_fits_177 ?_
                refine lv_topi (fun x_76 ex_76 => ?_)
                rw [nI_clamp (n := ((12 + (6 * j)) + 3)) (by omega)] at ex_76
                refine lv_icmp_le (tgt := 185) hx hb dX8_fits_178 (by decide) (fun c_77 => ?_) (fun c_77 => ?_)
                · skip
                  have ic_77 := ci_le (rfl : Int32.toInt r_68 = _) (rfl : Int32.toInt x_76 = _) c_77
                  refine lv_iconst (v := 0) hx hb dX8_fits_185 (by decide) ?_
                  exact W.zret (v := 0) hx hb hr (show narrow .boolean (.int 0) = .int 0 from rfl) (fun t ht hW => ⟨0, rfl, Or.inl rfl, ht⟩) (fun q h => by cases h) dX8_fits_186
                · skip
                  have ic_77 := ci_nle (rfl : Int32.toInt r_68 = _) (rfl : Int32.toInt x_76 = _) c_77
                  refine lv_iconst (v := 1) hx hb dX8_fits_181 (by decide) ?_
                  refine lv_goto (tgt := 186) hx hb dX8_fits_182 (by decide) ?_
                  exact W.zret (v := 1) hx hb hr (show narrow .boolean (.int 1) = .int 1 from rfl) (fun t ht hW => ⟨1, rfl, Or.inr rfl, ht⟩) (fun q h => by cases h) dX8_fits_186
              · skip
                have ic_74 := ci_eq (rfl : Int32.toInt x_73 = _) (show Int32.toInt 1 = 1 by decide) c_74
                refine lv_iload hx hb dX8_fits_145 (lv_at hl 0 rfl) ?_
                refine lv_aload_n hx hb dX8_fits_147 rfl (lv_at hl 3 rfl) ?_
                refine va_get (D := (dC, dI)) (ci := 6) (v := .ref st) (C := RX8) (T := TX8) (N := 14) hx hb hts hnX8_fits_X8 hown hK hP 0 rfl rfl 0 (by decide) (hts (.fieldLink RX8 7 "RingMeetsModel" "state" "[I") (by decide +kernel)) (fun _ h9 => h9) rfl dX8_fits_148 ?_
                refine lv_iload hx hb dX8_fits_151 (lv_at hl 2 rfl) ?_
                refine lv_iconst (v := 3) hx hb dX8_fits_153 (by decide) ?_
                refine lv_iadd hx hb dX8_fits_154 ?_
                refine lv_topi (fun x_78 ex_78 => ?_)
                obtain rfl : (nI ((12 + (6 * j)) + 3)) = x_78 := (ex_78.trans (nI_add _ 3)).symm
                refine va_iald (D := (dC, dI)) hx hb hK hP 1 0 rfl rfl (vp_in_nI (n := ((12 + (6 * j)) + 3)) (N := 72) (by omega) (by omega)) dX8_fits_155 ?_
                refine lv_topi (fun x_79 ex_79 => ?_)
                rw [nI_clamp (n := ((12 + (6 * j)) + 3)) (by omega)] at ex_79
                refine lv_icmp_ne (tgt := 163) hx hb dX8_fits_156 (by decide) (fun c_80 => ?_) (fun c_80 => ?_)
                · skip
                  have ic_80 := ci_ne (rfl : Int32.toInt r_68 = _) (rfl : Int32.toInt x_79 = _) c_80
                  refine lv_iconst (v := 0) hx hb dX8_fits_163 (by decide) ?_
                  refine lv_goto (tgt := 186) hx hb dX8_fits_164 (by decide) ?_
                  exact W.zret (v := 0) hx hb hr (show narrow .boolean (.int 0) = .int 0 from rfl) (fun t ht hW => ⟨0, rfl, Or.inl rfl, ht⟩) (fun q h => by cases h) dX8_fits_186
                · skip
                  have ic_80 := ci_eq (rfl : Int32.toInt r_68 = _) (rfl : Int32.toInt x_79 = _) c_80
                  refine lv_iconst (v := 1) hx hb dX8_fits_159 (by decide) ?_
                  refine lv_goto (tgt := 186) hx hb dX8_fits_160 (by decide) ?_
                  exact W.zret (v := 1) hx hb hr (show narrow .boolean (.int 1) = .int 1 from rfl) (fun t ht hW => ⟨1, rfl, Or.inr rfl, ht⟩) (fun q h => by cases h) dX8_fits_186
            · skip
              have ic_71 := ci_eq (rfl : Int32.toInt x_70 = _) (show Int32.toInt 0 = 0 by decide) c_71
              refine lv_iload hx hb dX8_fits_110 (lv_at hl 0 rfl) ?_
              refine lv_aload_n hx hb dX8_fits_112 rfl (lv_at hl 3 rfl) ?_
              refine va_get (D := (dC, dI)) (ci := 6) (v := .ref st) (C := RX8) (T := TX8) (N := 14) hx hb hts hnX8_fits_X8 hown hK hP 0 rfl rfl 0 (by decide) (hts (.fieldLink RX8 7 "RingMeetsModel" "state" "[I") (by decide +kernel)) (fun _ h9 => h9) rfl dX8_fits_113 ?_
              refine lv_iload hx hb dX8_fits_116 (lv_at hl 2 rfl) ?_
              refine lv_iconst (v := 3) hx hb dX8_fits_118 (by decide) ?_
              refine lv_iadd hx hb dX8_fits_119 ?_
              refine lv_topi (fun x_81 ex_81 => ?_)
              obtain rfl : (nI ((12 + (6 * j)) + 3)) = x_81 := (ex_81.trans (nI_add _ 3)).symm
              refine va_iald (D := (dC, dI)) hx hb hK hP 1 0 rfl rfl (vp_in_nI (n := ((12 + (6 * j)) + 3)) (N := 72) (by omega) (by omega)) dX8_fits_120 ?_
              refine lv_topi (fun x_82 ex_82 => ?_)
              rw [nI_clamp (n := ((12 + (6 * j)) + 3)) (by omega)] at ex_82
              refine lv_icmp_ge (tgt := 128) hx hb dX8_fits_121 (by decide) (fun c_83 => ?_) (fun c_83 => ?_)
              · skip
                have ic_83 := ci_le (rfl : Int32.toInt x_82 = _) (rfl : Int32.toInt r_68 = _) c_83
                refine lv_iconst (v := 0) hx hb dX8_fits_128 (by decide) ?_
                refine lv_goto (tgt := 186) hx hb dX8_fits_129 (by decide) ?_
                exact W.zret (v := 0) hx hb hr (show narrow .boolean (.int 0) = .int 0 from rfl) (fun t ht hW => ⟨0, rfl, Or.inl rfl, ht⟩) (fun q h => by cases h) dX8_fits_186
              · skip
                have ic_83 := ci_nle (rfl : Int32.toInt x_82 = _) (rfl : Int32.toInt r_68 = _) c_83
                refine lv_iconst (v := 1) hx hb dX8_fits_124 (by decide) ?_
                refine lv_goto (tgt := 186) hx hb dX8_fits_125 (by decide) ?_
                exact W.zret (v := 1) hx hb hr (show narrow .boolean (.int 1) = .int 1 from rfl) (fun t ht hW => ⟨1, rfl, Or.inr rfl, ht⟩) (fun q h => by cases h) dX8_fits_186
          · skip
            have ic_63 := ci_eq (rfl : Int32.toInt x_61 = _) (show Int32.toInt 1 = 1 by decide) c_63
            refine lv_iconst (v := 0) hx hb dX8_fits_73 (by decide) ?_
            exact W.zret (v := 0) hx hb hr (show narrow .boolean (.int 0) = .int 0 from rfl) (fun t ht hW => ⟨0, rfl, Or.inl rfl, ht⟩) (fun q h => by cases h) dX8_fits_74
        · skip
          have ic_62 := ci_ne (rfl : Int32.toInt p4 = _) (show Int32.toInt 0 = 0 by decide) c_62
          refine lv_iconst (v := 0) hx hb dX8_fits_65 (by decide) ?_
          refine lv_goto (tgt := 70) hx hb dX8_fits_66 (by decide) ?_
          refine lv_icmp_ne (tgt := 75) hx hb dX8_fits_70 (by decide) (fun c_84 => ?_) (fun c_84 => ?_)
          · skip
            have ic_84 := ci_ne (rfl : Int32.toInt x_61 = _) (show Int32.toInt 0 = 0 by decide) c_84
            refine lv_aload_n hx hb dX8_fits_75 rfl (lv_at hl 2 rfl) ?_
            refine lv_iload_n hx hb dX8_fits_76 rfl (lv_at hl 4 rfl) ?_
            refine lv_iload_n hx hb dX8_fits_77 rfl (lv_at hl 5 rfl) ?_
            refine lv_aload_n hx hb dX8_fits_78 rfl (lv_at hl 2 rfl) ?_
            refine lv_iload_n hx hb dX8_fits_79 rfl (lv_at hl 4 rfl) ?_
            refine lv_iload_n hx hb dX8_fits_80 rfl (lv_at hl 5 rfl) ?_
            refine vp_callSi (va_Run.run (va_runV (As := [.int p2, .int (nI va)]) (rest := [.int (nI va), .int p2, .ref m0]) ⟨hx, hb, hml, hown, hts⟩ (mX8_viewWay l dC dI cyI cyZ m0 st im kq pw nx li il mv so la co d6 d11 d12 n fs va p2 hn3 hn h0f (by omega) hbt) (cwV 2 hts gX8_fits_X8_viewWay rfl rfl rfl (by decide +kernel) ⟨Nat.le_of_ble_eq_true rfl, Nat.le_of_ble_eq_true rfl⟩) (bs_RV hB (hP.sub (ws' := [(m0, .inr (6, [.ref st, .ref im, .ref kq, .ref pw, .ref nx, .ref li, .int d6, .ref il, .ref mv, .ref so, .ref la, .int d11, .int d12, .ref co])), (st, .inl (cyI, 72, .inl fs))]) [0, 1] rfl) 0 rfl rfl) rfl rfl hl.1 rfl (lv_room (Nat.le_of_ble_eq_true rfl)) dX8_fits_81 ⟨Nat.le_of_ble_eq_true rfl, Nat.le_of_ble_eq_true rfl⟩)) (fun r_85 hr_85 => ?_)
            obtain ⟨w_86, hw_86, pw_86⟩ := mn_pm hr_85
            refine lv_aload_n hx hb dX8_fits_84 rfl (lv_at hl 2 rfl) ?_
            refine va_get (D := (dC, dI)) (ci := 6) (v := .ref st) (C := RX8) (T := TX8) (N := 14) hx hb hts hnX8_fits_X8 hown hK hP 0 rfl rfl 0 (by decide) (hts (.fieldLink RX8 7 "RingMeetsModel" "state" "[I") (by decide +kernel)) (fun _ h9 => h9) rfl dX8_fits_85 ?_
            refine lv_iload hx hb dX8_fits_88 (lv_at hl 1 rfl) ?_
            refine lv_iconst (v := 1) hx hb dX8_fits_90 (by decide) ?_
            refine lv_iadd hx hb dX8_fits_91 ?_
            refine lv_topi (fun x_87 ex_87 => ?_)
            obtain rfl : (nI ((12 + (6 * j)) + 1)) = x_87 := (ex_87.trans (nI_1 _)).symm
            refine va_iald (D := (dC, dI)) hx hb hK hP 1 0 rfl rfl (vp_in_nI (n := ((12 + (6 * j)) + 1)) (N := 72) (by omega) (by omega)) dX8_fits_92 ?_
            refine lv_topi (fun x_88 ex_88 => ?_)
            rw [nI_clamp (n := ((12 + (6 * j)) + 1)) (by omega)] at ex_88
            refine vp_callSi (va_Run.run (va_runV (As := [.int p2, .int (nI va), .int r_85, .int x_88]) (rest := []) ⟨hx, hb, hml, hown, hts⟩ (mX8_gapAt l dC dI cyI cyZ m0 st im kq pw nx li il mv so la co d6 d11 d12 n fs va w_86 p2 r_85 x_88 hn3 hn h0f (by omega) hw_86 hbt pw_86 (by have e9 : x_88 = x_58 := ex_88.trans ex_58.symm; rw [e9]; omega)) (cwV 4 hts gX8_fits_X8_gapAt rfl rfl rfl (by decide +kernel) ⟨Nat.le_of_ble_eq_true rfl, Nat.le_of_ble_eq_true rfl⟩) (bs_RV hB (hP.sub (ws' := [(m0, .inr (6, [.ref st, .ref im, .ref kq, .ref pw, .ref nx, .ref li, .int d6, .ref il, .ref mv, .ref so, .ref la, .int d11, .int d12, .ref co])), (st, .inl (cyI, 72, .inl fs))]) [0, 1] rfl) 0 rfl rfl) rfl rfl hl.1 rfl (lv_room (Nat.le_of_ble_eq_true rfl)) dX8_fits_93 ⟨Nat.le_of_ble_eq_true rfl, Nat.le_of_ble_eq_true rfl⟩)) (fun r_89 hr_89 => ?_)
            refine lv_istore (lv' := [(7, .int r_89), (6, .int (nI v_4)), (5, .int (nI (12 + (6 * j)))), (0, .ref m0), (1, .int (nI j)), (2, .int p2), (3, .int (nI va)), (4, .int p4)]) hx hb dX8_fits_96 hl (by decide) rfl (fun ls hl => ?_)
            refine lv_aload_n hx hb dX8_fits_98 rfl (lv_at hl 3 rfl) ?_
            refine va_get (D := (dC, dI)) (ci := 6) (v := .ref st) (C := RX8) (T := TX8) (N := 14) hx hb hts hnX8_fits_X8 hown hK hP 0 rfl rfl 0 (by decide) (hts (.fieldLink RX8 7 "RingMeetsModel" "state" "[I") (by decide +kernel)) (fun _ h9 => h9) rfl dX8_fits_99 ?_
            refine lv_iload hx hb dX8_fits_102 (lv_at hl 2 rfl) ?_
            refine lv_iconst (v := 2) hx hb dX8_fits_104 (by decide) ?_
            refine lv_iadd hx hb dX8_fits_105 ?_
            refine lv_topi (fun x_90 ex_90 => ?_)
            obtain rfl : (nI ((12 + (6 * j)) + 2)) = x_90 := (ex_90.trans (nI_add _ 2)).symm
            refine va_iald (D := (dC, dI)) hx hb hK hP 1 0 rfl rfl (vp_in_nI (n := ((12 + (6 * j)) + 2)) (N := 72) (by omega) (by omega)) dX8_fits_106 ?_
            refine lv_topi (fun x_91 ex_91 => ?_)
            rw [nI_clamp (n := ((12 + (6 * j)) + 2)) (by omega)] at ex_91
            refine lv_if_ne (tgt := 132) hx hb dX8_fits_107 (by decide) (fun c_92 => ?_) (fun c_92 => ?_)
            · skip
              have ic_92 := ci_ne (rfl : Int32.toInt x_91 = _) (show Int32.toInt 0 = 0 by decide) c_92
              refine lv_aload_n hx hb dX8_fits_132 rfl (lv_at hl 3 rfl) ?_
              refine va_get (D := (dC, dI)) (ci := 6) (v := .ref st) (C := RX8) (T := TX8) (N := 14) hx hb hts hnX8_fits_X8 hown hK hP 0 rfl rfl 0 (by decide) (hts (.fieldLink RX8 7 "RingMeetsModel" "state" "[I") (by decide +kernel)) (fun _ h9 => h9) rfl dX8_fits_133 ?_
              refine lv_iload hx hb dX8_fits_136 (lv_at hl 2 rfl) ?_
              refine lv_iconst (v := 2) hx hb dX8_fits_138 (by decide) ?_
              refine lv_iadd hx hb dX8_fits_139 ?_
              refine lv_topi (fun x_93 ex_93 => ?_)
              obtain rfl : (nI ((12 + (6 * j)) + 2)) = x_93 := (ex_93.trans (nI_add _ 2)).symm
              refine va_iald (D := (dC, dI)) hx hb hK hP 1 0 rfl rfl (vp_in_nI (n := ((12 + (6 * j)) + 2)) (N := 72) (by omega) (by omega)) dX8_fits_140 ?_
              refine lv_topi (fun x_94 ex_94 => ?_)
              rw [nI_clamp (n := ((12 + (6 * j)) + 2)) (by omega)] at ex_94
              refine lv_iconst (v := 1) hx hb dX8_fits_141 (by decide) ?_
              refine lv_icmp_ne (tgt := 167) hx hb dX8_fits_142 (by decide) (fun c_95 => ?_) (fun c_95 => ?_)
              · skip
                have ic_95 := ci_ne (rfl : Int32.toInt x_94 = _) (show Int32.toInt 1 = 1 by decide) c_95
                refine lv_iload hx hb dX8_fits_167 (lv_at hl 0 rfl) ?_
                refine lv_aload_n hx hb dX8_fits_169 rfl (lv_at hl 3 rfl) ?_
                refine va_get (D := (dC, dI)) (ci := 6) (v := .ref st) (C := RX8) (T := TX8) (N := 14) hx hb hts hnX8_fits_X8 hown hK hP 0 rfl rfl 0 (by decide) (hts (.fieldLink RX8 7 "RingMeetsModel" "state" "[I") (by decide +kernel)) (fun _ h9 => h9) rfl dX8_fits_170 ?_
                refine lv_iload hx hb dX8_fits_173 (lv_at hl 2 rfl) ?_
                refine lv_iconst (v := 3) hx hb dX8_fits_175 (by decide) ?_
                refine lv_iadd hx hb dX8_fits_176 ?_
                refine lv_topi (fun x_96 ex_96 => ?_)
                obtain rfl : (nI ((12 + (6 * j)) + 3)) = x_96 := (ex_96.trans (nI_add _ 3)).symm
                refine va_iald (D := (dC, dI)) hx hb hK hP 1 0 rfl rfl (vp_in_nI (n := ((12 + (6 * j)) + 3)) (N := 72) (by omega) (by omega)) dX8_fits_177 ?_
                refine lv_topi (fun x_97 ex_97 => ?_)
                rw [nI_clamp (n := ((12 + (6 * j)) + 3)) (by omega)] at ex_97
                refine lv_icmp_le (tgt := 185) hx hb dX8_fits_178 (by decide) (fun c_98 => ?_) (fun c_98 => ?_)
                · skip
                  have ic_98 := ci_le (rfl : Int32.toInt r_89 = _) (rfl : Int32.toInt x_97 = _) c_98
                  refine lv_iconst (v := 0) hx hb dX8_fits_185 (by decide) ?_
                  exact W.zret (v := 0) hx hb hr (show narrow .boolean (.int 0) = .int 0 from rfl) (fun t ht hW => ⟨0, rfl, Or.inl rfl, ht⟩) (fun q h => by cases h) dX8_fits_186
                · skip
                  have ic_98 := ci_nle (rfl : Int32.toInt r_89 = _) (rfl : Int32.toInt x_97 = _) c_98
                  refine lv_iconst (v := 1) hx hb dX8_fits_181 (by decide) ?_
                  refine lv_goto (tgt := 186) hx hb dX8_fits_182 (by decide) ?_
                  exact W.zret (v := 1) hx hb hr (show narrow .boolean (.int 1) = .int 1 from rfl) (fun t ht hW => ⟨1, rfl, Or.inr rfl, ht⟩) (fun q h => by cases h) dX8_fits_186
              · skip
                have ic_95 := ci_eq (rfl : Int32.toInt x_94 = _) (show Int32.toInt 1 = 1 by decide) c_95
                refine lv_iload hx hb dX8_fits_145 (lv_at hl 0 rfl) ?_
                refine lv_aload_n hx hb dX8_fits_147 rfl (lv_at hl 3 rfl) ?_
                refine va_get (D := (dC, dI)) (ci := 6) (v := .ref st) (C := RX8) (T := TX8) (N := 14) hx hb hts hnX8_fits_X8 hown hK hP 0 rfl rfl 0 (by decide) (hts (.fieldLink RX8 7 "RingMeetsModel" "state" "[I") (by decide +kernel)) (fun _ h9 => h9) rfl dX8_fits_148 ?_
                refine lv_iload hx hb dX8_fits_151 (lv_at hl 2 rfl) ?_
                refine lv_iconst (v := 3) hx hb dX8_fits_153 (by decide) ?_
                refine lv_iadd hx hb dX8_fits_154 ?_
                refine lv_topi (fun x_99 ex_99 => ?_)
                obtain rfl : (nI ((12 + (6 * j)) + 3)) = x_99 := (ex_99.trans (nI_add _ 3)).symm
                refine va_iald (D := (dC, dI)) hx hb hK hP 1 0 rfl rfl (vp_in_nI (n := ((12 + (6 * j)) + 3)) (N := 72) (by omega) (by omega)) dX8_fits_155 ?_
                refine lv_topi (fun x_100 ex_100 => ?_)
                rw [nI_clamp (n := ((12 + (6 * j)) + 3)) (by omega)] at ex_100
                refine lv_icmp_ne (tgt := 163) hx hb dX8_fits_156 (by decide) (fun c_101 => ?_) (fun c_101 => ?_)
                · skip
                  have ic_101 := ci_ne (rfl : Int32.toInt r_89 = _) (rfl : Int32.toInt x_100 = _) c_101
                  refine lv_iconst (v := 0) hx hb dX8_fits_163 (by decide) ?_
                  refine lv_goto (tgt := 186) hx hb dX8_fits_164 (by decide) ?_
                  exact W.zret (v := 0) hx hb hr (show narrow .boolean (.int 0) = .int 0 from rfl) (fun t ht hW => ⟨0, rfl, Or.inl rfl, ht⟩) (fun q h => by cases h) dX8_fits_186
                · skip
                  have ic_101 := ci_eq (rfl : Int32.toInt r_89 = _) (rfl : Int32.toInt x_100 = _) c_101
                  refine lv_iconst (v := 1) hx hb dX8_fits_159 (by decide) ?_
                  refine lv_goto (tgt := 186) hx hb dX8_fits_160 (by decide) ?_
                  exact W.zret (v := 1) hx hb hr (show narrow .boolean (.int 1) = .int 1 from rfl) (fun t ht hW => ⟨1, rfl, Or.inr rfl, ht⟩) (fun q h => by cases h) dX8_fits_186
            · skip
              have ic_92 := ci_eq (rfl : Int32.toInt x_91 = _) (show Int32.toInt 0 = 0 by decide) c_92
              refine lv_iload hx hb dX8_fits_110 (lv_at hl 0 rfl) ?_
              refine lv_aload_n hx hb dX8_fits_112 rfl (lv_at hl 3 rfl) ?_
              refine va_get (D := (dC, dI)) (ci := 6) (v := .ref st) (C := RX8) (T := TX8) (N := 14) hx hb hts hnX8_fits_X8 hown hK hP 0 rfl rfl 0 (by decide) (hts (.fieldLink RX8 7 "RingMeetsModel" "state" "[I") (by decide +kernel)) (fun _ h9 => h9) rfl dX8_fits_113 ?_
              refine lv_iload hx hb dX8_fits_116 (lv_at hl 2 rfl) ?_
              refine lv_iconst (v := 3) hx hb dX8_fits_118 (by decide) ?_
              refine lv_iadd hx hb dX8_fits_119 ?_
              refine lv_topi (fun x_102 ex_102 => ?_)
              obtain rfl : (nI ((12 + (6 * j)) + 3)) = x_102 := (ex_102.trans (nI_add _ 3)).symm
              refine va_iald (D := (dC, dI)) hx hb hK hP 1 0 rfl rfl (vp_in_nI (n := ((12 + (6 * j)) + 3)) (N := 72) (by omega) (by omega)) dX8_fits_120 ?_
              refine lv_topi (fun x_103 ex_103 => ?_)
              rw [nI_clamp (n := ((12 + (6 * j)) + 3)) (by omega)] at ex_103
              refine lv_icmp_ge (tgt := 128) hx hb dX8_fits_121 (by decide) (fun c_104 => ?_) (fun c_104 => ?_)
              · skip
                have ic_104 := ci_le (rfl : Int32.toInt x_103 = _) (rfl : Int32.toInt r_89 = _) c_104
                refine lv_iconst (v := 0) hx hb dX8_fits_128 (by decide) ?_
                refine lv_goto (tgt := 186) hx hb dX8_fits_129 (by decide) ?_
                exact W.zret (v := 0) hx hb hr (show narrow .boolean (.int 0) = .int 0 from rfl) (fun t ht hW => ⟨0, rfl, Or.inl rfl, ht⟩) (fun q h => by cases h) dX8_fits_186
              · skip
                have ic_104 := ci_nle (rfl : Int32.toInt x_103 = _) (rfl : Int32.toInt r_89 = _) c_104
                refine lv_iconst (v := 1) hx hb dX8_fits_124 (by decide) ?_
                refine lv_goto (tgt := 186) hx hb dX8_fits_125 (by decide) ?_
                exact W.zret (v := 1) hx hb hr (show narrow .boolean (.int 1) = .int 1 from rfl) (fun t ht hW => ⟨1, rfl, Or.inr rfl, ht⟩) (fun q h => by cases h) dX8_fits_186
          · skip
            have ic_84 := ci_eq (rfl : Int32.toInt x_61 = _) (show Int32.toInt 0 = 0 by decide) c_84
            refine lv_iconst (v := 0) hx hb dX8_fits_73 (by decide) ?_
            exact W.zret (v := 0) hx hb hr (show narrow .boolean (.int 0) = .int 0 from rfl) (fun t ht hW => ⟨0, rfl, Or.inl rfl, ht⟩) (fun q h => by cases h) dX8_fits_74

theorem hnX8_ruleOf_X8 : ∀ w ∈ wsX80, w ∈ wsX8_ruleOf := fun _ h => List.mem_cons_of_mem _ (List.mem_append_right _ h)
set_option maxHeartbeats 4000000 in
set_option maxRecDepth 100000 in
theorem mX8_ruleOf (l : Launch) (dC : Nat → ClassId) (dI : Nat → Nat → Nat) (cyI cyZ : ClassId) (m0 : Nat) (st : Nat) (im : Nat) (kq : Nat) (pw : Nat) (nx : Nat) (li : Nat) (il : Nat) (mv : Nat) (so : Nat) (la : Nat) (co : Nat) (d6 : Int32) (d11 : Int32) (d12 : Int32) (n : Nat) (fs : Nat → Int32) (zz : Nat) (va : Nat) (p1 : Int32) (p3 : Int32) (hn3 : 3 ≤ n) (hn : n ≤ 10) (h0f : fs 0 = nI n) (hzf : fs 11 = nI zz) (hz10 : zz ≤ 10) (ha9 : va < n) (hbt : nb_bit p1 va) : Met l yX8_ruleOf wsX8_ruleOf ({ frames := 7, cells := 0, slots := 0, locals := 170 }) (bs_R dC dI cyI cyZ [.ref m0, .int p1, .int (nI va), .int p3] [(m0, .inr (6, [.ref st, .ref im, .ref kq, .ref pw, .ref nx, .ref li, .int d6, .ref il, .ref mv, .ref so, .ref la, .int d11, .int d12, .ref co])), (st, .inl (cyI, 72, .inl fs))]) (vp_Si (fun r : Int32 => r = -6 ∨ ∃ j, j < zz ∧ r = nI j)) 0 0 (fun _ => False) := by
  refine Met.ofW (cc := cX8_ruleOf) (maxL := 5) (ret := (some .int)) (by decide) rfl ?_
  intro p e s m args below meth c s₁ B hml hv
  obtain ⟨rfl, hB, hP⟩ := hv
  have hK := hB.1
  have hN := hB.2
  have hx := B.exec
  have hb := B.bytes
  have hr := B.returns
  have hts := atoms_spec (ws := wsX8_ruleOf) B.pre
  have hown : s.vm.findClass RX8 = some m.cls := findClass_of_methodNamed B.named
  have hlocks := B.notSynchronized
  have hP : va_P (dC, dI) vwCl [(m0, .inr (6, [.ref st, .ref im, .ref kq, .ref pw, .ref nx, .ref li, .int d6, .ref il, .ref mv, .ref so, .ref la, .int d11, .int d12, .ref co])), (st, .inl (cyI, 72, .inl fs))] s.heap := hP
  have hl := lv_entry ([.ref m0, .int p1, .int (nI va), .int p3]) (n := 5) (Nat.le_of_ble_eq_true rfl)
  rw [lg_entry_eq]
  generalize (lg_sl ([.ref m0, .int p1, .int (nI va), .int p3]) ++ List.replicate (5 - (lg_sl ([.ref m0, .int p1, .int (nI va), .int p3])).length) Slot.unset).toArray = ls at hl ⊢
  have hl : lv_has ls 5 [(0, .ref m0), (1, .int p1), (2, .int (nI va)), (3, .int p3)] := hl
  refine lv_iconst (v := 0) hx hb dX8_ruleOf_0 (by decide) ?_
  refine lv_istore (lv' := [(4, .int 0), (0, .ref m0), (1, .int p1), (2, .int (nI va)), (3, .int p3)]) hx hb dX8_ruleOf_1 hl (by decide) rfl (fun ls hl => ?_)
  have L3 : ∀ (n3 : Nat), ∀ (k : Nat), (0 ≤ k ∧ k ≤ zz) → (zz + 1 ≤ k + n3) → ∀ (ls : Array Slot), lv_has ls 5 [(0, .ref m0), (1, .int p1), (2, .int (nI va)), (3, .int p3), (4, .int (nI k))] → W p l e (headSpec wsX8_ruleOf ({ frames := 7, cells := 0, slots := 0, locals := 170 })).room s m ([.ref m0, .int p1, .int (nI va), .int p3] : List Value).toArray below meth c s.heap [] 0 0 (MQ below (vp_Si (fun r : Int32 => r = -6 ∨ ∃ j, j < zz ∧ r = nI j)) ([.ref m0, .int p1, .int (nI va), .int p3] : List Value).toArray s 0 0 (fun _ => False)) (F0 m 3 ls []) := by
    intro n3
    induction n3 with
    | zero =>
      intro k hk3z hn3z ls hl
      exfalso
      omega
    | succ n3 ih3 =>
      intro k hk3z hn3z ls hl
      refine lv_iload hx hb dX8_ruleOf_3 (lv_at hl 4 rfl) ?_
      refine lv_aload_n hx hb dX8_ruleOf_5 rfl (lv_at hl 0 rfl) ?_
      refine va_get (D := (dC, dI)) (ci := 6) (v := .ref st) (C := RX8) (T := TX8) (N := 14) hx hb hts hnX8_ruleOf_X8 hown hK hP 0 rfl rfl 0 (by decide) (hts (.fieldLink RX8 7 "RingMeetsModel" "state" "[I") (by decide +kernel)) (fun _ h9 => h9) rfl dX8_ruleOf_6 ?_
      refine lv_bipush (v := 11) hx hb dX8_ruleOf_9 (by decide) ?_
      refine va_iald (D := (dC, dI)) hx hb hK hP 1 0 rfl rfl (show vp_in 11 72 from vp_in_nI (n := 11) (N := 72) (by decide) (by decide)) dX8_ruleOf_11 ?_
      refine lv_topi (fun x_1 ex_1 => ?_)
      have ex_1 : x_1 = fs 11 := ex_1
      obtain rfl : (nI zz) = x_1 := (ex_1.trans (hzf)).symm
      refine lv_icmp_ge (tgt := 36) hx hb dX8_ruleOf_12 (by decide) (fun c_2 => ?_) (fun c_2 => ?_)
      · skip
        have ic_2 := ci_le (nI_toInt (n := zz) (by omega)) (nI_toInt (n := k) (by omega)) c_2
        refine lv_bipush (v := (-6)) hx hb dX8_ruleOf_36 (by decide) ?_
        exact W.iret (v := (-6)) hx hb hr (fun t ht hW => ⟨(-6), rfl, Or.inl rfl, ht⟩) (fun q h => by cases h) dX8_ruleOf_38
      · skip
        have ic_2 := ci_nle (nI_toInt (n := zz) (by omega)) (nI_toInt (n := k) (by omega)) c_2
        refine lv_aload_n hx hb dX8_ruleOf_15 rfl (lv_at hl 0 rfl) ?_
        refine lv_iload hx hb dX8_ruleOf_16 (lv_at hl 4 rfl) ?_
        refine lv_iload_n hx hb dX8_ruleOf_18 rfl (lv_at hl 1 rfl) ?_
        refine lv_iload_n hx hb dX8_ruleOf_19 rfl (lv_at hl 2 rfl) ?_
        refine lv_iload_n hx hb dX8_ruleOf_20 rfl (lv_at hl 3 rfl) ?_
        refine vp_callSi (va_Run.run (va_runV (As := [.int (nI k), .int p1, .int (nI va), .int p3]) (rest := []) ⟨hx, hb, hml, hown, hts⟩ (mX8_fits l dC dI cyI cyZ m0 st im kq pw nx li il mv so la co d6 d11 d12 n fs va k p1 p3 hn3 hn h0f (by omega) hbt (by omega)) (cwV 4 hts gX8_ruleOf_X8_fits rfl rfl rfl (by decide +kernel) ⟨Nat.le_of_ble_eq_true rfl, Nat.le_of_ble_eq_true rfl⟩) (bs_RV hB (hP.sub (ws' := [(m0, .inr (6, [.ref st, .ref im, .ref kq, .ref pw, .ref nx, .ref li, .int d6, .ref il, .ref mv, .ref so, .ref la, .int d11, .int d12, .ref co])), (st, .inl (cyI, 72, .inl fs))]) [0, 1] rfl) 0 rfl rfl) rfl rfl hl.1 rfl (lv_room (Nat.le_of_ble_eq_true rfl)) dX8_ruleOf_21 ⟨Nat.le_of_ble_eq_true rfl, Nat.le_of_ble_eq_true rfl⟩)) (fun r_3 hr_3 => ?_)
        refine lv_if_eq (tgt := 30) hx hb dX8_ruleOf_24 (by decide) (fun c_4 => ?_) (fun c_4 => ?_)
        · skip
          have ic_4 := ci_eq (rfl : Int32.toInt r_3 = _) (show Int32.toInt 0 = 0 by decide) c_4
          refine lv_iinc (v := (nI (k + 1))) (lv' := [(4, .int (nI (k + 1))), (0, .ref m0), (1, .int p1), (2, .int (nI va)), (3, .int p3)]) hx hb dX8_ruleOf_30 hl (k := 4) rfl (nI_1 _) (by decide) rfl (fun ls hl => ?_)
          refine lv_goto (tgt := 3) hx hb dX8_ruleOf_33 (by decide) ?_
          exact ih3 (k + 1)  ⟨by omega, by omega⟩ (by omega)  _ (lv_sub hl [1, 2, 3, 4, 0] rfl)
        · skip
          have ic_4 := ci_ne (rfl : Int32.toInt r_3 = _) (show Int32.toInt 0 = 0 by decide) c_4
          refine lv_iload hx hb dX8_ruleOf_27 (lv_at hl 4 rfl) ?_
          exact W.iret (v := (nI k)) hx hb hr (fun t ht hW => ⟨(nI k), rfl, Or.inr ⟨k, by omega, rfl⟩, ht⟩) (fun q h => by cases h) dX8_ruleOf_29
  exact L3 (zz + 1) 0  ⟨by omega, by omega⟩ (by omega)  _ (lv_sub hl [1, 2, 3, 4, 0] rfl)

theorem hnX8_doneBy_X8 : ∀ w ∈ wsX80, w ∈ wsX8_doneBy := fun _ h => List.mem_cons_of_mem _ (List.mem_append_right _ h)
set_option maxHeartbeats 4000000 in
set_option maxRecDepth 100000 in
theorem mX8_doneBy (l : Launch) (dC : Nat → ClassId) (dI : Nat → Nat → Nat) (cyI cyZ : ClassId) (m0 : Nat) (st : Nat) (im : Nat) (kq : Nat) (pw : Nat) (nx : Nat) (li : Nat) (il : Nat) (mv : Nat) (so : Nat) (la : Nat) (co : Nat) (d6 : Int32) (d11 : Int32) (d12 : Int32) (zz : Nat) (fs : Nat → Int32) (p1 : Int32) (hzf : fs 11 = nI zz) (hz10 : zz ≤ 10) (hp1 : p1 = -6 ∨ ∃ j, j < zz ∧ p1 = nI j) : Met l yX8_doneBy wsX8_doneBy ({ frames := 0, cells := 0, slots := 0, locals := 0 }) (bs_R dC dI cyI cyZ [.ref m0, .int p1] [(m0, .inr (6, [.ref st, .ref im, .ref kq, .ref pw, .ref nx, .ref li, .int d6, .ref il, .ref mv, .ref so, .ref la, .int d11, .int d12, .ref co])), (st, .inl (cyI, 72, .inl fs))]) (vp_Si (fun r : Int32 => True)) 0 0 (fun _ => False) := by
  refine Met.ofW (cc := cX8_doneBy) (maxL := 2) (ret := (some .int)) (by decide) rfl ?_
  intro p e s m args below meth c s₁ B hml hv
  obtain ⟨rfl, hB, hP⟩ := hv
  have hK := hB.1
  have hN := hB.2
  have hx := B.exec
  have hb := B.bytes
  have hr := B.returns
  have hts := atoms_spec (ws := wsX8_doneBy) B.pre
  have hown : s.vm.findClass RX8 = some m.cls := findClass_of_methodNamed B.named
  have hlocks := B.notSynchronized
  have hP : va_P (dC, dI) vwCl [(m0, .inr (6, [.ref st, .ref im, .ref kq, .ref pw, .ref nx, .ref li, .int d6, .ref il, .ref mv, .ref so, .ref la, .int d11, .int d12, .ref co])), (st, .inl (cyI, 72, .inl fs))] s.heap := hP
  have hl := lv_entry ([.ref m0, .int p1]) (n := 2) (Nat.le_of_ble_eq_true rfl)
  rw [lg_entry_eq]
  generalize (lg_sl ([.ref m0, .int p1]) ++ List.replicate (2 - (lg_sl ([.ref m0, .int p1])).length) Slot.unset).toArray = ls at hl ⊢
  have hl : lv_has ls 2 [(0, .ref m0), (1, .int p1)] := hl
  refine lv_iload_n hx hb dX8_doneBy_0 rfl (lv_at hl 1 rfl) ?_
  refine lv_if_ge (tgt := 8) hx hb dX8_doneBy_1 (by decide) (fun c_1 => ?_) (fun c_1 => ?_)
  · skip
    have ic_1 := ci_le (show Int32.toInt 0 = 0 by decide) (rfl : Int32.toInt p1 = _) c_1
    obtain ⟨j9, lj9, ej9⟩ := hp1.resolve_left (fun q => absurd c_1 (by rw [q]; decide))
    subst ej9
    refine lv_aload_n hx hb dX8_doneBy_8 rfl (lv_at hl 0 rfl) ?_
    refine va_get (D := (dC, dI)) (ci := 6) (v := .ref st) (C := RX8) (T := TX8) (N := 14) hx hb hts hnX8_doneBy_X8 hown hK hP 0 rfl rfl 0 (by decide) (hts (.fieldLink RX8 7 "RingMeetsModel" "state" "[I") (by decide +kernel)) (fun _ h9 => h9) rfl dX8_doneBy_9 ?_
    refine lv_bipush (v := 12) hx hb dX8_doneBy_12 (by decide) ?_
    refine lv_bipush (v := 6) hx hb dX8_doneBy_14 (by decide) ?_
    refine lv_iload_n hx hb dX8_doneBy_16 rfl (lv_at hl 1 rfl) ?_
    refine lv_imul hx hb dX8_doneBy_17 ?_
    refine lv_topi (fun x_2 ex_2 => ?_)
    obtain rfl : (nI (6 * j9)) = x_2 := (ex_2.trans (nb_mul 6 _)).symm
    refine lv_iadd hx hb dX8_doneBy_18 ?_
    refine lv_topi (fun x_3 ex_3 => ?_)
    obtain rfl : (nI (12 + (6 * j9))) = x_3 := (ex_3.trans (nI_add 12 _)).symm
    refine lv_iconst (v := 4) hx hb dX8_doneBy_19 (by decide) ?_
    refine lv_iadd hx hb dX8_doneBy_20 ?_
    refine lv_topi (fun x_4 ex_4 => ?_)
    obtain rfl : (nI ((12 + (6 * j9)) + 4)) = x_4 := (ex_4.trans (nI_add _ 4)).symm
    refine va_iald (D := (dC, dI)) hx hb hK hP 1 0 rfl rfl (vp_in_nI (n := ((12 + (6 * j9)) + 4)) (N := 72) (by omega) (by omega)) dX8_doneBy_21 ?_
    refine lv_topi (fun x_5 ex_5 => ?_)
    rw [nI_clamp (n := ((12 + (6 * j9)) + 4)) (by omega)] at ex_5
    exact W.iret (v := x_5) hx hb hr (fun t ht hW => ⟨x_5, rfl, trivial, ht⟩) (fun q h => by cases h) dX8_doneBy_22
  · skip
    have ic_1 := ci_nle (show Int32.toInt 0 = 0 by decide) (rfl : Int32.toInt p1 = _) c_1
    refine lv_iconst (v := 0) hx hb dX8_doneBy_4 (by decide) ?_
    refine lv_goto (tgt := 22) hx hb dX8_doneBy_5 (by decide) ?_
    exact W.iret (v := 0) hx hb hr (fun t ht hW => ⟨0, rfl, trivial, ht⟩) (fun q h => by cases h) dX8_doneBy_22

set_option maxHeartbeats 4000000 in
set_option maxRecDepth 100000 in
theorem mX8_behind (l : Launch) (dC : Nat → ClassId) (dI : Nat → Nat → Nat) (cyI cyZ : ClassId) (m0 : Nat) (st : Nat) (im : Nat) (kq : Nat) (pw : Nat) (nx : Nat) (li : Nat) (il : Nat) (mv : Nat) (so : Nat) (la : Nat) (co : Nat) (d6 : Int32) (d11 : Int32) (d12 : Int32) (n : Nat) (fs : Nat → Int32) (va : Nat) (p1 : Int32) (p3 : Int32) (hn3 : 3 ≤ n) (hn : n ≤ 10) (h0f : fs 0 = nI n) (ha9 : va < n) (hbt : nb_bit p1 va) : Met l yX8_behind wsX8_behind ({ frames := 6, cells := 0, slots := 0, locals := 143 }) (bs_R dC dI cyI cyZ [.ref m0, .int p1, .int (nI va), .int p3] [(m0, .inr (6, [.ref st, .ref im, .ref kq, .ref pw, .ref nx, .ref li, .int d6, .ref il, .ref mv, .ref so, .ref la, .int d11, .int d12, .ref co])), (st, .inl (cyI, 72, .inl fs))]) (vp_Si (fun r : Int32 => ∃ b, b < n ∧ r = nI b)) 0 0 (fun _ => False) := by
  refine Met.ofW (cc := cX8_behind) (maxL := 5) (ret := (some .int)) (by decide) rfl ?_
  intro p e s m args below meth c s₁ B hml hv
  obtain ⟨rfl, hB, hP⟩ := hv
  have hK := hB.1
  have hN := hB.2
  have hx := B.exec
  have hb := B.bytes
  have hr := B.returns
  have hts := atoms_spec (ws := wsX8_behind) B.pre
  have hown : s.vm.findClass RX8 = some m.cls := findClass_of_methodNamed B.named
  have hlocks := B.notSynchronized
  have hP : va_P (dC, dI) vwCl [(m0, .inr (6, [.ref st, .ref im, .ref kq, .ref pw, .ref nx, .ref li, .int d6, .ref il, .ref mv, .ref so, .ref la, .int d11, .int d12, .ref co])), (st, .inl (cyI, 72, .inl fs))] s.heap := hP
  have hl := lv_entry ([.ref m0, .int p1, .int (nI va), .int p3]) (n := 5) (Nat.le_of_ble_eq_true rfl)
  rw [lg_entry_eq]
  generalize (lg_sl ([.ref m0, .int p1, .int (nI va), .int p3]) ++ List.replicate (5 - (lg_sl ([.ref m0, .int p1, .int (nI va), .int p3])).length) Slot.unset).toArray = ls at hl ⊢
  have hl : lv_has ls 5 [(0, .ref m0), (1, .int p1), (2, .int (nI va)), (3, .int p3)] := hl
  refine lv_aload_n hx hb dX8_behind_0 rfl (lv_at hl 0 rfl) ?_
  refine lv_iload_n hx hb dX8_behind_1 rfl (lv_at hl 1 rfl) ?_
  refine lv_iload_n hx hb dX8_behind_2 rfl (lv_at hl 2 rfl) ?_
  refine vp_callSi (va_Run.run (va_runV (As := [.int p1, .int (nI va)]) (rest := []) ⟨hx, hb, hml, hown, hts⟩ (mX8_viewWay l dC dI cyI cyZ m0 st im kq pw nx li il mv so la co d6 d11 d12 n fs va p1 hn3 hn h0f (by omega) hbt) (cwV 2 hts gX8_behind_X8_viewWay rfl rfl rfl (by decide +kernel) ⟨Nat.le_of_ble_eq_true rfl, Nat.le_of_ble_eq_true rfl⟩) (bs_RV hB (hP.sub (ws' := [(m0, .inr (6, [.ref st, .ref im, .ref kq, .ref pw, .ref nx, .ref li, .int d6, .ref il, .ref mv, .ref so, .ref la, .int d11, .int d12, .ref co])), (st, .inl (cyI, 72, .inl fs))]) [0, 1] rfl) 0 rfl rfl) rfl rfl hl.1 rfl (lv_room (Nat.le_of_ble_eq_true rfl)) dX8_behind_3 ⟨Nat.le_of_ble_eq_true rfl, Nat.le_of_ble_eq_true rfl⟩)) (fun r_1 hr_1 => ?_)
  obtain ⟨w_2, hw_2, pw_2⟩ := mn_pm hr_1
  refine lv_istore (lv' := [(4, .int r_1), (0, .ref m0), (1, .int p1), (2, .int (nI va)), (3, .int p3)]) hx hb dX8_behind_6 hl (by decide) rfl (fun ls hl => ?_)
  refine lv_iload_n hx hb dX8_behind_8 rfl (lv_at hl 4 rfl) ?_
  refine lv_if_ne (tgt := 16) hx hb dX8_behind_9 (by decide) (fun c_3 => ?_) (fun c_3 => ?_)
  · skip
    have ic_3 := ci_ne (rfl : Int32.toInt p3 = _) (show Int32.toInt 0 = 0 by decide) c_3
    refine lv_aload_n hx hb dX8_behind_16 rfl (lv_at hl 1 rfl) ?_
    refine lv_iload_n hx hb dX8_behind_17 rfl (lv_at hl 3 rfl) ?_
    refine lv_iload_n hx hb dX8_behind_18 rfl (lv_at hl 4 rfl) ?_
    refine lv_iconst (v := 1) hx hb dX8_behind_19 (by decide) ?_
    refine lv_icmp_ne (tgt := 28) hx hb dX8_behind_20 (by decide) (fun c_4 => ?_) (fun c_4 => ?_)
    · skip
      have ic_4 := ci_ne (rfl : Int32.toInt p3 = _) (show Int32.toInt 1 = 1 by decide) c_4
      refine lv_iload hx hb dX8_behind_28 (lv_at hl 0 rfl) ?_
      refine lv_ineg hx hb dX8_behind_30 ?_
      refine lv_topi (fun x_5 ex_5 => ?_)
      obtain ⟨w_6, hw_6, qw_6⟩ := mn_neg hw_2
      have pw_6 : x_5 = nI w_6 - 10 := by rw [ex_5, pw_2]; exact qw_6
      refine vp_callSi (va_Run.run (va_runV (As := [.int (nI va), .int x_5]) (rest := []) ⟨hx, hb, hml, hown, hts⟩ (mX8_beside l dC dI cyI cyZ m0 st im kq pw nx li il mv so la co d6 d11 d12 n fs va w_6 x_5 hn3 hn h0f (by omega) (by omega) pw_6) (cwV 2 hts gX8_behind_X8_beside rfl rfl rfl (by decide +kernel) ⟨Nat.le_of_ble_eq_true rfl, Nat.le_of_ble_eq_true rfl⟩) (bs_RV hB (hP.sub (ws' := [(m0, .inr (6, [.ref st, .ref im, .ref kq, .ref pw, .ref nx, .ref li, .int d6, .ref il, .ref mv, .ref so, .ref la, .int d11, .int d12, .ref co])), (st, .inl (cyI, 72, .inl fs))]) [0, 1] rfl) 0 rfl rfl) rfl rfl hl.1 rfl (lv_room (Nat.le_of_ble_eq_true rfl)) dX8_behind_31 ⟨Nat.le_of_ble_eq_true rfl, Nat.le_of_ble_eq_true rfl⟩)) (fun r_7 hr_7 => ?_)
      obtain rfl : (nI ((va + n + w_6 - 10) % n)) = r_7 := Eq.symm hr_7
      exact W.iret (v := (nI ((va + n + w_6 - 10) % n))) hx hb hr (fun t ht hW => ⟨(nI ((va + n + w_6 - 10) % n)), rfl, ⟨((va + n + w_6 - 10) % n), Nat.mod_lt _ (by omega), rfl⟩, ht⟩) (fun q h => by cases h) dX8_behind_34
    · skip
      have ic_4 := ci_eq (rfl : Int32.toInt p3 = _) (show Int32.toInt 1 = 1 by decide) c_4
      refine lv_iload hx hb dX8_behind_23 (lv_at hl 0 rfl) ?_
      refine lv_goto (tgt := 31) hx hb dX8_behind_25 (by decide) ?_
      refine vp_callSi (va_Run.run (va_runV (As := [.int (nI va), .int r_1]) (rest := []) ⟨hx, hb, hml, hown, hts⟩ (mX8_beside l dC dI cyI cyZ m0 st im kq pw nx li il mv so la co d6 d11 d12 n fs va w_2 r_1 hn3 hn h0f (by omega) (by omega) pw_2) (cwV 2 hts gX8_behind_X8_beside rfl rfl rfl (by decide +kernel) ⟨Nat.le_of_ble_eq_true rfl, Nat.le_of_ble_eq_true rfl⟩) (bs_RV hB (hP.sub (ws' := [(m0, .inr (6, [.ref st, .ref im, .ref kq, .ref pw, .ref nx, .ref li, .int d6, .ref il, .ref mv, .ref so, .ref la, .int d11, .int d12, .ref co])), (st, .inl (cyI, 72, .inl fs))]) [0, 1] rfl) 0 rfl rfl) rfl rfl hl.1 rfl (lv_room (Nat.le_of_ble_eq_true rfl)) dX8_behind_31 ⟨Nat.le_of_ble_eq_true rfl, Nat.le_of_ble_eq_true rfl⟩)) (fun r_8 hr_8 => ?_)
      obtain rfl : (nI ((va + n + w_2 - 10) % n)) = r_8 := Eq.symm hr_8
      exact W.iret (v := (nI ((va + n + w_2 - 10) % n))) hx hb hr (fun t ht hW => ⟨(nI ((va + n + w_2 - 10) % n)), rfl, ⟨((va + n + w_2 - 10) % n), Nat.mod_lt _ (by omega), rfl⟩, ht⟩) (fun q h => by cases h) dX8_behind_34
  · skip
    have ic_3 := ci_eq (rfl : Int32.toInt p3 = _) (show Int32.toInt 0 = 0 by decide) c_3
    refine lv_iload_n hx hb dX8_behind_12 rfl (lv_at hl 3 rfl) ?_
    refine lv_goto (tgt := 34) hx hb dX8_behind_13 (by decide) ?_
    exact W.iret (v := (nI va)) hx hb hr (fun t ht hW => ⟨(nI va), rfl, ⟨va, ha9, rfl⟩, ht⟩) (fun q h => by cases h) dX8_behind_34

theorem hnX8_does_X8 : ∀ w ∈ wsX80, w ∈ wsX8_does := fun _ h => List.mem_cons_of_mem _ (List.mem_append_right _ h)
set_option maxHeartbeats 4000000 in
set_option maxRecDepth 100000 in
theorem mX8_does (l : Launch) (dC : Nat → ClassId) (dI : Nat → Nat → Nat) (cyI cyZ : ClassId) (m0 : Nat) (st : Nat) (im : Nat) (kq : Nat) (pw : Nat) (nx : Nat) (li : Nat) (il : Nat) (mv : Nat) (so : Nat) (la : Nat) (co : Nat) (d6 : Int32) (d11 : Int32) (d12 : Int32) (n : Nat) (fs : Nat → Int32) (wq : Nat → Nat) (fp : Nat → Int32) (zz : Nat) (p1 : Int32) (p2 : Int32) (hn3 : 3 ≤ n) (hn : n ≤ 10) (h0f : fs 0 = nI n) (hwk : ∀ j, j < 10 → fs (1 + j) = nI (wq j)) (hws : mn_sum wq 10 ≤ 5) (hp : ∀ j, j ≤ 10 → fp j = nI (3 ^ j)) (hzf : fs 11 = nI zz) (hz10 : zz ≤ 10) : Met l yX8_does wsX8_does ({ frames := 8, cells := 0, slots := 0, locals := 194 }) (bs_R dC dI cyI cyZ [.ref m0, .int p1, .int p2] [(m0, .inr (6, [.ref st, .ref im, .ref kq, .ref pw, .ref nx, .ref li, .int d6, .ref il, .ref mv, .ref so, .ref la, .int d11, .int d12, .ref co])), (st, .inl (cyI, 72, .inl fs)), (pw, .inl (cyI, 11, .inl fp))]) (vp_Si (fun r : Int32 => True)) 0 0 (fun _ => False) := by
  refine Met.ofW (cc := cX8_does) (maxL := 5) (ret := (some .int)) (by decide) rfl ?_
  intro p e s m args below meth c s₁ B hml hv
  obtain ⟨rfl, hB, hP⟩ := hv
  have hK := hB.1
  have hN := hB.2
  have hx := B.exec
  have hb := B.bytes
  have hr := B.returns
  have hts := atoms_spec (ws := wsX8_does) B.pre
  have hown : s.vm.findClass RX8 = some m.cls := findClass_of_methodNamed B.named
  have hlocks := B.notSynchronized
  have hP : va_P (dC, dI) vwCl [(m0, .inr (6, [.ref st, .ref im, .ref kq, .ref pw, .ref nx, .ref li, .int d6, .ref il, .ref mv, .ref so, .ref la, .int d11, .int d12, .ref co])), (st, .inl (cyI, 72, .inl fs)), (pw, .inl (cyI, 11, .inl fp))] s.heap := hP
  have hl := lv_entry ([.ref m0, .int p1, .int p2]) (n := 5) (Nat.le_of_ble_eq_true rfl)
  rw [lg_entry_eq]
  generalize (lg_sl ([.ref m0, .int p1, .int p2]) ++ List.replicate (5 - (lg_sl ([.ref m0, .int p1, .int p2])).length) Slot.unset).toArray = ls at hl ⊢
  have hl : lv_has ls 5 [(0, .ref m0), (1, .int p1), (2, .int p2)] := hl
  refine lv_aload_n hx hb dX8_does_0 rfl (lv_at hl 0 rfl) ?_
  refine lv_iload_n hx hb dX8_does_1 rfl (lv_at hl 1 rfl) ?_
  refine vp_callSi (va_Run.run (va_runV (As := [.int p1]) (rest := []) ⟨hx, hb, hml, hown, hts⟩ (mX8_isStand l dC dI cyI cyZ m0 st im kq pw nx li il mv so la co d6 d11 d12 n fs wq p1 hn3 hn h0f hwk hws) (cwV 1 hts gX8_does_X8_isStand rfl rfl rfl (by decide +kernel) ⟨Nat.le_of_ble_eq_true rfl, Nat.le_of_ble_eq_true rfl⟩) (bs_RV hB (hP.sub (ws' := [(m0, .inr (6, [.ref st, .ref im, .ref kq, .ref pw, .ref nx, .ref li, .int d6, .ref il, .ref mv, .ref so, .ref la, .int d11, .int d12, .ref co])), (st, .inl (cyI, 72, .inl fs))]) [0, 1] rfl) 0 rfl rfl) rfl rfl hl.1 rfl (lv_room (Nat.le_of_ble_eq_true rfl)) dX8_does_2 ⟨Nat.le_of_ble_eq_true rfl, Nat.le_of_ble_eq_true rfl⟩)) (fun r_1 hr_1 => ?_)
  refine lv_if_ne (tgt := 10) hx hb dX8_does_5 (by decide) (fun c_2 => ?_) (fun c_2 => ?_)
  · skip
    have ic_2 := ci_ne (rfl : Int32.toInt r_1 = _) (show Int32.toInt 0 = 0 by decide) c_2
    obtain ⟨a9, la9, ea9, qa9⟩ := hr_1.2 (hr_1.1.resolve_left c_2)
    subst ea9
    have hbs : nb_bit (nb_st (nI (mn_code wq n)) n) a9 := mn_stand hn la9 qa9
    have hwj := mn_sum_le wq (j := a9) (k := 10) (by omega)
    refine lv_aload_n hx hb dX8_does_10 rfl (lv_at hl 0 rfl) ?_
    refine lv_aload_n hx hb dX8_does_11 rfl (lv_at hl 0 rfl) ?_
    refine vp_callSi (va_Run.run (va_runV (As := []) (rest := [.ref m0]) ⟨hx, hb, hml, hown, hts⟩ (mX8_now l dC dI cyI cyZ m0 st im kq pw nx li il mv so la co d6 d11 d12 n fs wq fp hn3 hn h0f hwk hws hp) (cwV 0 hts gX8_does_X8_now rfl rfl rfl (by decide +kernel) ⟨Nat.le_of_ble_eq_true rfl, Nat.le_of_ble_eq_true rfl⟩) (bs_RV hB (hP.sub (ws' := [(m0, .inr (6, [.ref st, .ref im, .ref kq, .ref pw, .ref nx, .ref li, .int d6, .ref il, .ref mv, .ref so, .ref la, .int d11, .int d12, .ref co])), (st, .inl (cyI, 72, .inl fs)), (pw, .inl (cyI, 11, .inl fp))]) [0, 1, 2] rfl) 0 rfl rfl) rfl rfl hl.1 rfl (lv_room (Nat.le_of_ble_eq_true rfl)) dX8_does_12 ⟨Nat.le_of_ble_eq_true rfl, Nat.le_of_ble_eq_true rfl⟩)) (fun r_3 hr_3 => ?_)
    obtain rfl : (nI (mn_code wq n)) = r_3 := Eq.symm hr_3
    refine vp_callSi (va_Run.run (va_runV (As := [.int (nI (mn_code wq n))]) (rest := []) ⟨hx, hb, hml, hown, hts⟩ (mX8_standsOf l dC dI cyI cyZ m0 st im kq pw nx li il mv so la co d6 d11 d12 n fs fp (nI (mn_code wq n)) hn3 hn h0f hp) (cwV 1 hts gX8_does_X8_standsOf rfl rfl rfl (by decide +kernel) ⟨Nat.le_of_ble_eq_true rfl, Nat.le_of_ble_eq_true rfl⟩) (bs_RV hB (hP.sub (ws' := [(m0, .inr (6, [.ref st, .ref im, .ref kq, .ref pw, .ref nx, .ref li, .int d6, .ref il, .ref mv, .ref so, .ref la, .int d11, .int d12, .ref co])), (st, .inl (cyI, 72, .inl fs)), (pw, .inl (cyI, 11, .inl fp))]) [0, 1, 2] rfl) 0 rfl rfl) rfl rfl hl.1 rfl (lv_room (Nat.le_of_ble_eq_true rfl)) dX8_does_15 ⟨Nat.le_of_ble_eq_true rfl, Nat.le_of_ble_eq_true rfl⟩)) (fun r_4 hr_4 => ?_)
    obtain rfl : (nb_st (nI (mn_code wq n)) n) = r_4 := Eq.symm hr_4
    refine lv_istore_n (lv' := [(3, .int (nb_st (nI (mn_code wq n)) n)), (0, .ref m0), (1, .int (nI a9)), (2, .int p2)]) hx hb dX8_does_18 rfl hl (by decide) rfl (fun ls hl => ?_)
    refine lv_aload_n hx hb dX8_does_19 rfl (lv_at hl 1 rfl) ?_
    refine lv_iload_n hx hb dX8_does_20 rfl (lv_at hl 0 rfl) ?_
    refine lv_iload_n hx hb dX8_does_21 rfl (lv_at hl 2 rfl) ?_
    refine lv_aload_n hx hb dX8_does_22 rfl (lv_at hl 1 rfl) ?_
    refine va_get (D := (dC, dI)) (ci := 6) (v := .ref st) (C := RX8) (T := TX8) (N := 14) hx hb hts hnX8_does_X8 hown hK hP 0 rfl rfl 0 (by decide) (hts (.fieldLink RX8 7 "RingMeetsModel" "state" "[I") (by decide +kernel)) (fun _ h9 => h9) rfl dX8_does_23 ?_
    refine lv_iconst (v := 1) hx hb dX8_does_26 (by decide) ?_
    refine lv_iload_n hx hb dX8_does_27 rfl (lv_at hl 2 rfl) ?_
    refine lv_iadd hx hb dX8_does_28 ?_
    refine lv_topi (fun x_5 ex_5 => ?_)
    obtain rfl : (nI (1 + a9)) = x_5 := (ex_5.trans (nI_add 1 _)).symm
    refine va_iald (D := (dC, dI)) hx hb hK hP 1 0 rfl rfl (vp_in_nI (n := (1 + a9)) (N := 72) (by omega) (by omega)) dX8_does_29 ?_
    refine lv_topi (fun x_6 ex_6 => ?_)
    rw [nI_clamp (n := (1 + a9)) (by omega)] at ex_6
    obtain rfl : (nI (wq a9)) = x_6 := (ex_6.trans (hwk _ (by omega))).symm
    refine lv_iconst (v := 1) hx hb dX8_does_30 (by decide) ?_
    refine lv_icmp_le (tgt := 38) hx hb dX8_does_31 (by decide) (fun c_7 => ?_) (fun c_7 => ?_)
    · skip
      have ic_7 := ci_le (nI_toInt (n := (wq a9)) (by omega)) (show Int32.toInt 1 = 1 by decide) c_7
      refine lv_iconst (v := 0) hx hb dX8_does_38 (by decide) ?_
      refine vp_callSi (va_Run.run (va_runV (As := [.int (nb_st (nI (mn_code wq n)) n), .int (nI a9), .int 0]) (rest := []) ⟨hx, hb, hml, hown, hts⟩ (mX8_ruleOf l dC dI cyI cyZ m0 st im kq pw nx li il mv so la co d6 d11 d12 n fs zz a9 (nb_st (nI (mn_code wq n)) n) 0 hn3 hn h0f hzf hz10 (by omega) hbs) (cwV 3 hts gX8_does_X8_ruleOf rfl rfl rfl (by decide +kernel) ⟨Nat.le_of_ble_eq_true rfl, Nat.le_of_ble_eq_true rfl⟩) (bs_RV hB (hP.sub (ws' := [(m0, .inr (6, [.ref st, .ref im, .ref kq, .ref pw, .ref nx, .ref li, .int d6, .ref il, .ref mv, .ref so, .ref la, .int d11, .int d12, .ref co])), (st, .inl (cyI, 72, .inl fs))]) [0, 1] rfl) 0 rfl rfl) rfl rfl hl.1 rfl (lv_room (Nat.le_of_ble_eq_true rfl)) dX8_does_39 ⟨Nat.le_of_ble_eq_true rfl, Nat.le_of_ble_eq_true rfl⟩)) (fun r_8 hr_8 => ?_)
      refine lv_istore (lv' := [(4, .int r_8), (3, .int (nb_st (nI (mn_code wq n)) n)), (0, .ref m0), (1, .int (nI a9)), (2, .int p2)]) hx hb dX8_does_42 hl (by decide) rfl (fun ls hl => ?_)
      refine lv_iload_n hx hb dX8_does_44 rfl (lv_at hl 4 rfl) ?_
      rcases nb_sw p2 4 4 rfl with w_9 | ⟨w_9k, w_9l, w_9⟩
      · skip
        refine lv_tableOut (tgt := 137) hx hb dX8_does_45 w_9 (by decide) ?_
        refine lv_bipush (v := (-2)) hx hb dX8_does_137 (by decide) ?_
        exact W.iret (v := (-2)) hx hb hr (fun t ht hW => ⟨(-2), rfl, trivial, ht⟩) (fun q h => by cases h) dX8_does_139
      · skip
        rcases (show w_9k = 0 ∨ w_9k = 1 ∨ w_9k = 2 ∨ w_9k = 3 ∨ w_9k = 4 by omega) with rfl | rfl | rfl | rfl | rfl
        · skip
          have ew_9 : p2 = 0 := w_9
          refine W.eq (g2 := F0 m 45 ls (.int 0 :: [])) (by rw [ew_9]) ?_
          refine lv_tableIn (off := 35) (tgt := 80) hx hb dX8_does_45 (by decide) (by decide) (by decide) (by decide) ?_
          refine lv_aload_n hx hb dX8_does_80 rfl (lv_at hl 2 rfl) ?_
          refine lv_iload_n hx hb dX8_does_81 rfl (lv_at hl 1 rfl) ?_
          refine lv_iload_n hx hb dX8_does_82 rfl (lv_at hl 3 rfl) ?_
          refine vp_callSi (va_Run.run (va_runV (As := [.int (nb_st (nI (mn_code wq n)) n), .int (nI a9)]) (rest := []) ⟨hx, hb, hml, hown, hts⟩ (mX8_viewWay l dC dI cyI cyZ m0 st im kq pw nx li il mv so la co d6 d11 d12 n fs a9 (nb_st (nI (mn_code wq n)) n) hn3 hn h0f (by omega) hbs) (cwV 2 hts gX8_does_X8_viewWay rfl rfl rfl (by decide +kernel) ⟨Nat.le_of_ble_eq_true rfl, Nat.le_of_ble_eq_true rfl⟩) (bs_RV hB (hP.sub (ws' := [(m0, .inr (6, [.ref st, .ref im, .ref kq, .ref pw, .ref nx, .ref li, .int d6, .ref il, .ref mv, .ref so, .ref la, .int d11, .int d12, .ref co])), (st, .inl (cyI, 72, .inl fs))]) [0, 1] rfl) 0 rfl rfl) rfl rfl hl.1 rfl (lv_room (Nat.le_of_ble_eq_true rfl)) dX8_does_83 ⟨Nat.le_of_ble_eq_true rfl, Nat.le_of_ble_eq_true rfl⟩)) (fun r_10 hr_10 => ?_)
          obtain ⟨w_11, hw_11, pw_11⟩ := mn_pm hr_10
          refine lv_iconst (v := 1) hx hb dX8_does_86 (by decide) ?_
          refine lv_icmp_ne (tgt := 94) hx hb dX8_does_87 (by decide) (fun c_12 => ?_) (fun c_12 => ?_)
          · skip
            have ic_12 := ci_ne (rfl : Int32.toInt r_10 = _) (show Int32.toInt 1 = 1 by decide) c_12
            refine lv_iconst (v := 0) hx hb dX8_does_94 (by decide) ?_
            exact W.iret (v := 0) hx hb hr (fun t ht hW => ⟨0, rfl, trivial, ht⟩) (fun q h => by cases h) dX8_does_95
          · skip
            have ic_12 := ci_eq (rfl : Int32.toInt r_10 = _) (show Int32.toInt 1 = 1 by decide) c_12
            refine lv_iconst (v := 1) hx hb dX8_does_90 (by decide) ?_
            refine lv_goto (tgt := 95) hx hb dX8_does_91 (by decide) ?_
            exact W.iret (v := 1) hx hb hr (fun t ht hW => ⟨1, rfl, trivial, ht⟩) (fun q h => by cases h) dX8_does_95
        · skip
          have ew_9 : p2 = 1 := w_9
          refine W.eq (g2 := F0 m 45 ls (.int 1 :: [])) (by rw [ew_9]) ?_
          refine lv_tableIn (off := 51) (tgt := 96) hx hb dX8_does_45 (by decide) (by decide) (by decide) (by decide) ?_
          refine lv_aload_n hx hb dX8_does_96 rfl (lv_at hl 2 rfl) ?_
          refine lv_iload_n hx hb dX8_does_97 rfl (lv_at hl 1 rfl) ?_
          refine lv_iload_n hx hb dX8_does_98 rfl (lv_at hl 3 rfl) ?_
          refine lv_iconst (v := 1) hx hb dX8_does_99 (by decide) ?_
          refine lv_iload_n hx hb dX8_does_100 rfl (lv_at hl 3 rfl) ?_
          refine lv_iconst (v := (-1)) hx hb dX8_does_101 (by decide) ?_
          refine vp_callSi (va_Run.run (va_runV (As := [.int (nb_st (nI (mn_code wq n)) n), .int (nI a9), .int 1, .int (nI a9), .int (-1)]) (rest := []) ⟨hx, hb, hml, hown, hts⟩ (mX8_held l dC dI cyI cyZ m0 st im kq pw nx li il mv so la co d6 d11 d12 n fs a9 a9 11 9 (nb_st (nI (mn_code wq n)) n) 1 (-1) hn3 hn h0f (by omega) (by omega) (Or.inr rfl) (Or.inl rfl) hbs hbs (by decide) (by decide)) (cwV 5 hts gX8_does_X8_held rfl rfl rfl (by decide +kernel) ⟨Nat.le_of_ble_eq_true rfl, Nat.le_of_ble_eq_true rfl⟩) (bs_RV hB (hP.sub (ws' := [(m0, .inr (6, [.ref st, .ref im, .ref kq, .ref pw, .ref nx, .ref li, .int d6, .ref il, .ref mv, .ref so, .ref la, .int d11, .int d12, .ref co])), (st, .inl (cyI, 72, .inl fs))]) [0, 1] rfl) 0 rfl rfl) rfl rfl hl.1 rfl (lv_room (Nat.le_of_ble_eq_true rfl)) dX8_does_102 ⟨Nat.le_of_ble_eq_true rfl, Nat.le_of_ble_eq_true rfl⟩)) (fun r_13 hr_13 => ?_)
          refine lv_if_ne (tgt := 112) hx hb dX8_does_105 (by decide) (fun c_14 => ?_) (fun c_14 => ?_)
          · skip
            have ic_14 := ci_ne (rfl : Int32.toInt r_13 = _) (show Int32.toInt 0 = 0 by decide) c_14
            refine lv_iconst (v := 0) hx hb dX8_does_112 (by decide) ?_
            exact W.iret (v := 0) hx hb hr (fun t ht hW => ⟨0, rfl, trivial, ht⟩) (fun q h => by cases h) dX8_does_113
          · skip
            have ic_14 := ci_eq (rfl : Int32.toInt r_13 = _) (show Int32.toInt 0 = 0 by decide) c_14
            refine lv_iconst (v := 1) hx hb dX8_does_108 (by decide) ?_
            refine lv_goto (tgt := 113) hx hb dX8_does_109 (by decide) ?_
            exact W.iret (v := 1) hx hb hr (fun t ht hW => ⟨1, rfl, trivial, ht⟩) (fun q h => by cases h) dX8_does_113
        · skip
          have ew_9 : p2 = 2 := w_9
          refine W.eq (g2 := F0 m 45 ls (.int 2 :: [])) (by rw [ew_9]) ?_
          refine lv_tableIn (off := 69) (tgt := 114) hx hb dX8_does_45 (by decide) (by decide) (by decide) (by decide) ?_
          refine lv_iload hx hb dX8_does_114 (lv_at hl 0 rfl) ?_
          exact W.iret (v := r_8) hx hb hr (fun t ht hW => ⟨r_8, rfl, trivial, ht⟩) (fun q h => by cases h) dX8_does_116
        · skip
          have ew_9 : p2 = 3 := w_9
          refine W.eq (g2 := F0 m 45 ls (.int 3 :: [])) (by rw [ew_9]) ?_
          refine lv_tableIn (off := 72) (tgt := 117) hx hb dX8_does_45 (by decide) (by decide) (by decide) (by decide) ?_
          refine lv_aload_n hx hb dX8_does_117 rfl (lv_at hl 2 rfl) ?_
          refine lv_iload hx hb dX8_does_118 (lv_at hl 0 rfl) ?_
          refine vp_callSi (va_Run.run (va_runV (As := [.int r_8]) (rest := []) ⟨hx, hb, hml, hown, hts⟩ (mX8_doneBy l dC dI cyI cyZ m0 st im kq pw nx li il mv so la co d6 d11 d12 zz fs r_8 hzf hz10 hr_8) (cwV 1 hts gX8_does_X8_doneBy rfl rfl rfl (by decide +kernel) ⟨Nat.le_of_ble_eq_true rfl, Nat.le_of_ble_eq_true rfl⟩) (bs_RV hB (hP.sub (ws' := [(m0, .inr (6, [.ref st, .ref im, .ref kq, .ref pw, .ref nx, .ref li, .int d6, .ref il, .ref mv, .ref so, .ref la, .int d11, .int d12, .ref co])), (st, .inl (cyI, 72, .inl fs))]) [0, 1] rfl) 0 rfl rfl) rfl rfl hl.1 rfl (lv_room (Nat.le_of_ble_eq_true rfl)) dX8_does_120 ⟨Nat.le_of_ble_eq_true rfl, Nat.le_of_ble_eq_true rfl⟩)) (fun r_15 hr_15 => ?_)
          exact W.iret (v := r_15) hx hb hr (fun t ht hW => ⟨r_15, rfl, trivial, ht⟩) (fun q h => by cases h) dX8_does_123
        · skip
          have ew_9 : p2 = 4 := w_9
          refine W.eq (g2 := F0 m 45 ls (.int 4 :: [])) (by rw [ew_9]) ?_
          refine lv_tableIn (off := 79) (tgt := 124) hx hb dX8_does_45 (by decide) (by decide) (by decide) (by decide) ?_
          refine lv_aload_n hx hb dX8_does_124 rfl (lv_at hl 2 rfl) ?_
          refine lv_iload_n hx hb dX8_does_125 rfl (lv_at hl 1 rfl) ?_
          refine lv_iload_n hx hb dX8_does_126 rfl (lv_at hl 3 rfl) ?_
          refine lv_aload_n hx hb dX8_does_127 rfl (lv_at hl 2 rfl) ?_
          refine lv_iload hx hb dX8_does_128 (lv_at hl 0 rfl) ?_
          refine vp_callSi (va_Run.run (va_runV (As := [.int r_8]) (rest := [.int (nI a9), .int (nb_st (nI (mn_code wq n)) n), .ref m0]) ⟨hx, hb, hml, hown, hts⟩ (mX8_doneBy l dC dI cyI cyZ m0 st im kq pw nx li il mv so la co d6 d11 d12 zz fs r_8 hzf hz10 hr_8) (cwV 1 hts gX8_does_X8_doneBy rfl rfl rfl (by decide +kernel) ⟨Nat.le_of_ble_eq_true rfl, Nat.le_of_ble_eq_true rfl⟩) (bs_RV hB (hP.sub (ws' := [(m0, .inr (6, [.ref st, .ref im, .ref kq, .ref pw, .ref nx, .ref li, .int d6, .ref il, .ref mv, .ref so, .ref la, .int d11, .int d12, .ref co])), (st, .inl (cyI, 72, .inl fs))]) [0, 1] rfl) 0 rfl rfl) rfl rfl hl.1 rfl (lv_room (Nat.le_of_ble_eq_true rfl)) dX8_does_130 ⟨Nat.le_of_ble_eq_true rfl, Nat.le_of_ble_eq_true rfl⟩)) (fun r_16 hr_16 => ?_)
          refine vp_callSi (va_Run.run (va_runV (As := [.int (nb_st (nI (mn_code wq n)) n), .int (nI a9), .int r_16]) (rest := []) ⟨hx, hb, hml, hown, hts⟩ (mX8_behind l dC dI cyI cyZ m0 st im kq pw nx li il mv so la co d6 d11 d12 n fs a9 (nb_st (nI (mn_code wq n)) n) r_16 hn3 hn h0f (by omega) hbs) (cwV 3 hts gX8_does_X8_behind rfl rfl rfl (by decide +kernel) ⟨Nat.le_of_ble_eq_true rfl, Nat.le_of_ble_eq_true rfl⟩) (bs_RV hB (hP.sub (ws' := [(m0, .inr (6, [.ref st, .ref im, .ref kq, .ref pw, .ref nx, .ref li, .int d6, .ref il, .ref mv, .ref so, .ref la, .int d11, .int d12, .ref co])), (st, .inl (cyI, 72, .inl fs))]) [0, 1] rfl) 0 rfl rfl) rfl rfl hl.1 rfl (lv_room (Nat.le_of_ble_eq_true rfl)) dX8_does_133 ⟨Nat.le_of_ble_eq_true rfl, Nat.le_of_ble_eq_true rfl⟩)) (fun r_17 hr_17 => ?_)
          obtain ⟨v_18, lv_18, ev_18⟩ := hr_17
          obtain rfl : nI v_18 = r_17 := Eq.symm ev_18
          exact W.iret (v := (nI v_18)) hx hb hr (fun t ht hW => ⟨(nI v_18), rfl, trivial, ht⟩) (fun q h => by cases h) dX8_does_136
    · skip
      have ic_7 := ci_nle (nI_toInt (n := (wq a9)) (by omega)) (show Int32.toInt 1 = 1 by decide) c_7
      refine lv_iconst (v := 1) hx hb dX8_does_34 (by decide) ?_
      refine lv_goto (tgt := 39) hx hb dX8_does_35 (by decide) ?_
      refine vp_callSi (va_Run.run (va_runV (As := [.int (nb_st (nI (mn_code wq n)) n), .int (nI a9), .int 1]) (rest := []) ⟨hx, hb, hml, hown, hts⟩ (mX8_ruleOf l dC dI cyI cyZ m0 st im kq pw nx li il mv so la co d6 d11 d12 n fs zz a9 (nb_st (nI (mn_code wq n)) n) 1 hn3 hn h0f hzf hz10 (by omega) hbs) (cwV 3 hts gX8_does_X8_ruleOf rfl rfl rfl (by decide +kernel) ⟨Nat.le_of_ble_eq_true rfl, Nat.le_of_ble_eq_true rfl⟩) (bs_RV hB (hP.sub (ws' := [(m0, .inr (6, [.ref st, .ref im, .ref kq, .ref pw, .ref nx, .ref li, .int d6, .ref il, .ref mv, .ref so, .ref la, .int d11, .int d12, .ref co])), (st, .inl (cyI, 72, .inl fs))]) [0, 1] rfl) 0 rfl rfl) rfl rfl hl.1 rfl (lv_room (Nat.le_of_ble_eq_true rfl)) dX8_does_39 ⟨Nat.le_of_ble_eq_true rfl, Nat.le_of_ble_eq_true rfl⟩)) (fun r_19 hr_19 => ?_)
      refine lv_istore (lv' := [(4, .int r_19), (3, .int (nb_st (nI (mn_code wq n)) n)), (0, .ref m0), (1, .int (nI a9)), (2, .int p2)]) hx hb dX8_does_42 hl (by decide) rfl (fun ls hl => ?_)
      refine lv_iload_n hx hb dX8_does_44 rfl (lv_at hl 4 rfl) ?_
      rcases nb_sw p2 4 4 rfl with w_20 | ⟨w_20k, w_20l, w_20⟩
      · skip
        refine lv_tableOut (tgt := 137) hx hb dX8_does_45 w_20 (by decide) ?_
        refine lv_bipush (v := (-2)) hx hb dX8_does_137 (by decide) ?_
        exact W.iret (v := (-2)) hx hb hr (fun t ht hW => ⟨(-2), rfl, trivial, ht⟩) (fun q h => by cases h) dX8_does_139
      · skip
        rcases (show w_20k = 0 ∨ w_20k = 1 ∨ w_20k = 2 ∨ w_20k = 3 ∨ w_20k = 4 by omega) with rfl | rfl | rfl | rfl | rfl
        · skip
          have ew_20 : p2 = 0 := w_20
          refine W.eq (g2 := F0 m 45 ls (.int 0 :: [])) (by rw [ew_20]) ?_
          refine lv_tableIn (off := 35) (tgt := 80) hx hb dX8_does_45 (by decide) (by decide) (by decide) (by decide) ?_
          refine lv_aload_n hx hb dX8_does_80 rfl (lv_at hl 2 rfl) ?_
          refine lv_iload_n hx hb dX8_does_81 rfl (lv_at hl 1 rfl) ?_
          refine lv_iload_n hx hb dX8_does_82 rfl (lv_at hl 3 rfl) ?_
          refine vp_callSi (va_Run.run (va_runV (As := [.int (nb_st (nI (mn_code wq n)) n), .int (nI a9)]) (rest := []) ⟨hx, hb, hml, hown, hts⟩ (mX8_viewWay l dC dI cyI cyZ m0 st im kq pw nx li il mv so la co d6 d11 d12 n fs a9 (nb_st (nI (mn_code wq n)) n) hn3 hn h0f (by omega) hbs) (cwV 2 hts gX8_does_X8_viewWay rfl rfl rfl (by decide +kernel) ⟨Nat.le_of_ble_eq_true rfl, Nat.le_of_ble_eq_true rfl⟩) (bs_RV hB (hP.sub (ws' := [(m0, .inr (6, [.ref st, .ref im, .ref kq, .ref pw, .ref nx, .ref li, .int d6, .ref il, .ref mv, .ref so, .ref la, .int d11, .int d12, .ref co])), (st, .inl (cyI, 72, .inl fs))]) [0, 1] rfl) 0 rfl rfl) rfl rfl hl.1 rfl (lv_room (Nat.le_of_ble_eq_true rfl)) dX8_does_83 ⟨Nat.le_of_ble_eq_true rfl, Nat.le_of_ble_eq_true rfl⟩)) (fun r_21 hr_21 => ?_)
          obtain ⟨w_22, hw_22, pw_22⟩ := mn_pm hr_21
          refine lv_iconst (v := 1) hx hb dX8_does_86 (by decide) ?_
          refine lv_icmp_ne (tgt := 94) hx hb dX8_does_87 (by decide) (fun c_23 => ?_) (fun c_23 => ?_)
          · skip
            have ic_23 := ci_ne (rfl : Int32.toInt r_21 = _) (show Int32.toInt 1 = 1 by decide) c_23
            refine lv_iconst (v := 0) hx hb dX8_does_94 (by decide) ?_
            exact W.iret (v := 0) hx hb hr (fun t ht hW => ⟨0, rfl, trivial, ht⟩) (fun q h => by cases h) dX8_does_95
          · skip
            have ic_23 := ci_eq (rfl : Int32.toInt r_21 = _) (show Int32.toInt 1 = 1 by decide) c_23
            refine lv_iconst (v := 1) hx hb dX8_does_90 (by decide) ?_
            refine lv_goto (tgt := 95) hx hb dX8_does_91 (by decide) ?_
            exact W.iret (v := 1) hx hb hr (fun t ht hW => ⟨1, rfl, trivial, ht⟩) (fun q h => by cases h) dX8_does_95
        · skip
          have ew_20 : p2 = 1 := w_20
          refine W.eq (g2 := F0 m 45 ls (.int 1 :: [])) (by rw [ew_20]) ?_
          refine lv_tableIn (off := 51) (tgt := 96) hx hb dX8_does_45 (by decide) (by decide) (by decide) (by decide) ?_
          refine lv_aload_n hx hb dX8_does_96 rfl (lv_at hl 2 rfl) ?_
          refine lv_iload_n hx hb dX8_does_97 rfl (lv_at hl 1 rfl) ?_
          refine lv_iload_n hx hb dX8_does_98 rfl (lv_at hl 3 rfl) ?_
          refine lv_iconst (v := 1) hx hb dX8_does_99 (by decide) ?_
          refine lv_iload_n hx hb dX8_does_100 rfl (lv_at hl 3 rfl) ?_
          refine lv_iconst (v := (-1)) hx hb dX8_does_101 (by decide) ?_
          refine vp_callSi (va_Run.run (va_runV (As := [.int (nb_st (nI (mn_code wq n)) n), .int (nI a9), .int 1, .int (nI a9), .int (-1)]) (rest := []) ⟨hx, hb, hml, hown, hts⟩ (mX8_held l dC dI cyI cyZ m0 st im kq pw nx li il mv so la co d6 d11 d12 n fs a9 a9 11 9 (nb_st (nI (mn_code wq n)) n) 1 (-1) hn3 hn h0f (by omega) (by omega) (Or.inr rfl) (Or.inl rfl) hbs hbs (by decide) (by decide)) (cwV 5 hts gX8_does_X8_held rfl rfl rfl (by decide +kernel) ⟨Nat.le_of_ble_eq_true rfl, Nat.le_of_ble_eq_true rfl⟩) (bs_RV hB (hP.sub (ws' := [(m0, .inr (6, [.ref st, .ref im, .ref kq, .ref pw, .ref nx, .ref li, .int d6, .ref il, .ref mv, .ref so, .ref la, .int d11, .int d12, .ref co])), (st, .inl (cyI, 72, .inl fs))]) [0, 1] rfl) 0 rfl rfl) rfl rfl hl.1 rfl (lv_room (Nat.le_of_ble_eq_true rfl)) dX8_does_102 ⟨Nat.le_of_ble_eq_true rfl, Nat.le_of_ble_eq_true rfl⟩)) (fun r_24 hr_24 => ?_)
          refine lv_if_ne (tgt := 112) hx hb dX8_does_105 (by decide) (fun c_25 => ?_) (fun c_25 => ?_)
          · skip
            have ic_25 := ci_ne (rfl : Int32.toInt r_24 = _) (show Int32.toInt 0 = 0 by decide) c_25
            refine lv_iconst (v := 0) hx hb dX8_does_112 (by decide) ?_
            exact W.iret (v := 0) hx hb hr (fun t ht hW => ⟨0, rfl, trivial, ht⟩) (fun q h => by cases h) dX8_does_113
          · skip
            have ic_25 := ci_eq (rfl : Int32.toInt r_24 = _) (show Int32.toInt 0 = 0 by decide) c_25
            refine lv_iconst (v := 1) hx hb dX8_does_108 (by decide) ?_
            refine lv_goto (tgt := 113) hx hb dX8_does_109 (by decide) ?_
            exact W.iret (v := 1) hx hb hr (fun t ht hW => ⟨1, rfl, trivial, ht⟩) (fun q h => by cases h) dX8_does_113
        · skip
          have ew_20 : p2 = 2 := w_20
          refine W.eq (g2 := F0 m 45 ls (.int 2 :: [])) (by rw [ew_20]) ?_
          refine lv_tableIn (off := 69) (tgt := 114) hx hb dX8_does_45 (by decide) (by decide) (by decide) (by decide) ?_
          refine lv_iload hx hb dX8_does_114 (lv_at hl 0 rfl) ?_
          exact W.iret (v := r_19) hx hb hr (fun t ht hW => ⟨r_19, rfl, trivial, ht⟩) (fun q h => by cases h) dX8_does_116
        · skip
          have ew_20 : p2 = 3 := w_20
          refine W.eq (g2 := F0 m 45 ls (.int 3 :: [])) (by rw [ew_20]) ?_
          refine lv_tableIn (off := 72) (tgt := 117) hx hb dX8_does_45 (by decide) (by decide) (by decide) (by decide) ?_
          refine lv_aload_n hx hb dX8_does_117 rfl (lv_at hl 2 rfl) ?_
          refine lv_iload hx hb dX8_does_118 (lv_at hl 0 rfl) ?_
          refine vp_callSi (va_Run.run (va_runV (As := [.int r_19]) (rest := []) ⟨hx, hb, hml, hown, hts⟩ (mX8_doneBy l dC dI cyI cyZ m0 st im kq pw nx li il mv so la co d6 d11 d12 zz fs r_19 hzf hz10 hr_19) (cwV 1 hts gX8_does_X8_doneBy rfl rfl rfl (by decide +kernel) ⟨Nat.le_of_ble_eq_true rfl, Nat.le_of_ble_eq_true rfl⟩) (bs_RV hB (hP.sub (ws' := [(m0, .inr (6, [.ref st, .ref im, .ref kq, .ref pw, .ref nx, .ref li, .int d6, .ref il, .ref mv, .ref so, .ref la, .int d11, .int d12, .ref co])), (st, .inl (cyI, 72, .inl fs))]) [0, 1] rfl) 0 rfl rfl) rfl rfl hl.1 rfl (lv_room (Nat.le_of_ble_eq_true rfl)) dX8_does_120 ⟨Nat.le_of_ble_eq_true rfl, Nat.le_of_ble_eq_true rfl⟩)) (fun r_26 hr_26 => ?_)
          exact W.iret (v := r_26) hx hb hr (fun t ht hW => ⟨r_26, rfl, trivial, ht⟩) (fun q h => by cases h) dX8_does_123
        · skip
          have ew_20 : p2 = 4 := w_20
          refine W.eq (g2 := F0 m 45 ls (.int 4 :: [])) (by rw [ew_20]) ?_
          refine lv_tableIn (off := 79) (tgt := 124) hx hb dX8_does_45 (by decide) (by decide) (by decide) (by decide) ?_
          refine lv_aload_n hx hb dX8_does_124 rfl (lv_at hl 2 rfl) ?_
          refine lv_iload_n hx hb dX8_does_125 rfl (lv_at hl 1 rfl) ?_
          refine lv_iload_n hx hb dX8_does_126 rfl (lv_at hl 3 rfl) ?_
          refine lv_aload_n hx hb dX8_does_127 rfl (lv_at hl 2 rfl) ?_
          refine lv_iload hx hb dX8_does_128 (lv_at hl 0 rfl) ?_
          refine vp_callSi (va_Run.run (va_runV (As := [.int r_19]) (rest := [.int (nI a9), .int (nb_st (nI (mn_code wq n)) n), .ref m0]) ⟨hx, hb, hml, hown, hts⟩ (mX8_doneBy l dC dI cyI cyZ m0 st im kq pw nx li il mv so la co d6 d11 d12 zz fs r_19 hzf hz10 hr_19) (cwV 1 hts gX8_does_X8_doneBy rfl rfl rfl (by decide +kernel) ⟨Nat.le_of_ble_eq_true rfl, Nat.le_of_ble_eq_true rfl⟩) (bs_RV hB (hP.sub (ws' := [(m0, .inr (6, [.ref st, .ref im, .ref kq, .ref pw, .ref nx, .ref li, .int d6, .ref il, .ref mv, .ref so, .ref la, .int d11, .int d12, .ref co])), (st, .inl (cyI, 72, .inl fs))]) [0, 1] rfl) 0 rfl rfl) rfl rfl hl.1 rfl (lv_room (Nat.le_of_ble_eq_true rfl)) dX8_does_130 ⟨Nat.le_of_ble_eq_true rfl, Nat.le_of_ble_eq_true rfl⟩)) (fun r_27 hr_27 => ?_)
          refine vp_callSi (va_Run.run (va_runV (As := [.int (nb_st (nI (mn_code wq n)) n), .int (nI a9), .int r_27]) (rest := []) ⟨hx, hb, hml, hown, hts⟩ (mX8_behind l dC dI cyI cyZ m0 st im kq pw nx li il mv so la co d6 d11 d12 n fs a9 (nb_st (nI (mn_code wq n)) n) r_27 hn3 hn h0f (by omega) hbs) (cwV 3 hts gX8_does_X8_behind rfl rfl rfl (by decide +kernel) ⟨Nat.le_of_ble_eq_true rfl, Nat.le_of_ble_eq_true rfl⟩) (bs_RV hB (hP.sub (ws' := [(m0, .inr (6, [.ref st, .ref im, .ref kq, .ref pw, .ref nx, .ref li, .int d6, .ref il, .ref mv, .ref so, .ref la, .int d11, .int d12, .ref co])), (st, .inl (cyI, 72, .inl fs))]) [0, 1] rfl) 0 rfl rfl) rfl rfl hl.1 rfl (lv_room (Nat.le_of_ble_eq_true rfl)) dX8_does_133 ⟨Nat.le_of_ble_eq_true rfl, Nat.le_of_ble_eq_true rfl⟩)) (fun r_28 hr_28 => ?_)
          obtain ⟨v_29, lv_29, ev_29⟩ := hr_28
          obtain rfl : nI v_29 = r_28 := Eq.symm ev_29
          exact W.iret (v := (nI v_29)) hx hb hr (fun t ht hW => ⟨(nI v_29), rfl, trivial, ht⟩) (fun q h => by cases h) dX8_does_136
  · skip
    have ic_2 := ci_eq (rfl : Int32.toInt r_1 = _) (show Int32.toInt 0 = 0 by decide) c_2
    refine lv_iconst (v := (-1)) hx hb dX8_does_8 (by decide) ?_
    exact W.iret (v := (-1)) hx hb hr (fun t ht hW => ⟨(-1), rfl, trivial, ht⟩) (fun q h => by cases h) dX8_does_9
