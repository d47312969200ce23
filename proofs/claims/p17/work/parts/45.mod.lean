theorem hnX8_rule_X8 : ∀ w ∈ wsX80, w ∈ wsX8_rule := fun _ h => List.mem_cons_of_mem _ (List.mem_append_right _ h)
set_option maxHeartbeats 4000000 in
set_option maxRecDepth 100000 in
theorem mX8_rule (l : Launch) (dC : Nat → ClassId) (dI : Nat → Nat → Nat) (cyI cyZ : ClassId) (m0 : Nat) (st : Nat) (im : Nat) (kq : Nat) (pw : Nat) (nx : Nat) (li : Nat) (il : Nat) (mv : Nat) (so : Nat) (la : Nat) (co : Nat) (d6 : Int32) (d11 : Int32) (d12 : Int32) (n : Nat) (fs : Nat → Int32) (wq : Nat → Nat) (zz : Nat) (p1 : Int32) (p2 : Int32) (p3 : Int32) (p4 : Int32) (p5 : Int32) (hn3 : 3 ≤ n) (hn : n ≤ 10) (h0f : fs 0 = nI n) (hwk : ∀ j, j < 10 → fs (1 + j) = nI (wq j)) (hws : mn_sum wq 10 ≤ 5) (hzf : fs 11 = nI zz) (hz10 : zz ≤ 10) (sz : Nat) : Met l yX8_rule wsX8_rule ({ frames := 1, cells := 0, slots := 0, locals := 22 }) (bs_W dC dI cyI cyZ [.ref m0, .int p1, .int p2, .int p3, .int p4, .int p5] [(m0, .inr (6, [.ref st, .ref im, .ref kq, .ref pw, .ref nx, .ref li, .int d6, .ref il, .ref mv, .ref so, .ref la, .int d11, .int d12, .ref co])), (st, .inl (cyI, 72, .inl fs))] sz) (va_Qi (S := (Nat → Int32)) (fun (r : Int32) (q : (Nat → Int32)) => mn_I q) (fun q t => bs_E dC dI (va_A [(m0, .inr (6, [.ref st, .ref im, .ref kq, .ref pw, .ref nx, .ref li, .int d6, .ref il, .ref mv, .ref so, .ref la, .int d11, .int d12, .ref co])), (st, .inl (cyI, 72, .inl fs))] sz) [(m0, .inr (6, [.ref st, .ref im, .ref kq, .ref pw, .ref nx, .ref li, .int d6, .ref il, .ref mv, .ref so, .ref la, .int d11, .int d12, .ref co])), (st, .inl (cyI, 72, .inl q))] t) (va_A [(m0, .inr (6, [.ref st, .ref im, .ref kq, .ref pw, .ref nx, .ref li, .int d6, .ref il, .ref mv, .ref so, .ref la, .int d11, .int d12, .ref co])), (st, .inl (cyI, 72, .inl fs))] sz)) 0 0 (va_A [(m0, .inr (6, [.ref st, .ref im, .ref kq, .ref pw, .ref nx, .ref li, .int d6, .ref il, .ref mv, .ref so, .ref la, .int d11, .int d12, .ref co])), (st, .inl (cyI, 72, .inl fs))] sz) := by
  refine Met.ofW (cc := cX8_rule) (maxL := 7) (ret := (some .int)) (by decide) rfl ?_
  intro p e s m args below meth c s₁ B hml hv
  obtain ⟨rfl, hsz, hB, hP, hD0⟩ := hv
  have hK := hB.1
  have hN := hB.2
  have hx := B.exec
  have hb := B.bytes
  have hr := B.returns
  have hts := atoms_spec (ws := wsX8_rule) B.pre
  have hown : s.vm.findClass RX8 = some m.cls := findClass_of_methodNamed B.named
  have hlocks := B.notSynchronized
  subst hsz
  have hD := hD0.self (sz := s.heap.size)
  generalize hAe : va_A [(m0, .inr (6, [.ref st, .ref im, .ref kq, .ref pw, .ref nx, .ref li, .int d6, .ref il, .ref mv, .ref so, .ref la, .int d11, .int d12, .ref co])), (st, .inl (cyI, 72, .inl fs))] s.heap.size = A at hD ⊢
  have hA : ∀ q : Nat, s.heap.size ≤ q → A q := fun q h => by rw [← hAe]; exact Or.inr h
  have hS : va_S A s.heap s.heap [] := va_S.rf
  have hP : va_P (dC, dI) vwCl [(m0, .inr (6, [.ref st, .ref im, .ref kq, .ref pw, .ref nx, .ref li, .int d6, .ref il, .ref mv, .ref so, .ref la, .int d11, .int d12, .ref co])), (st, .inl (cyI, 72, .inl fs))] s.heap := hP
  have hl := lv_entry ([.ref m0, .int p1, .int p2, .int p3, .int p4, .int p5]) (n := 7) (Nat.le_of_ble_eq_true rfl)
  rw [lg_entry_eq]
  generalize (lg_sl ([.ref m0, .int p1, .int p2, .int p3, .int p4, .int p5]) ++ List.replicate (7 - (lg_sl ([.ref m0, .int p1, .int p2, .int p3, .int p4, .int p5])).length) Slot.unset).toArray = ls at hl ⊢
  have hl : lv_has ls 7 [(0, .ref m0), (1, .int p1), (2, .int p2), (3, .int p3), (4, .int p4), (5, .int p5)] := hl
  have hI : mn_I fs := ⟨n, wq, zz, hn3, hn, h0f, hwk, hws, hzf, hz10⟩
  have h11 := hzf
  refine lv_iload_n hx hb dX8_rule_0 rfl (lv_at hl 1 rfl) ?_
  refine lv_iconst (v := 0) hx hb dX8_rule_1 (by decide) ?_
  refine lv_iconst (v := 5) hx hb dX8_rule_2 (by decide) ?_
  refine vp_callSi (va_Run.run (va_runS (As := [.int p1, .int 0, .int 5]) (rest := []) ⟨hx, hb, hml, hown, hts⟩ (mX8_in l dC dI cyI cyZ p1 0 5 0 5 (by decide) (by decide)) (va_cwS 3 hts gX8_rule_X8_in rfl rfl rfl (by decide +kernel) ⟨Nat.le_of_ble_eq_true rfl, Nat.le_of_ble_eq_true rfl⟩) (bs_RS hB (hP.sub (ws' := []) [] rfl)) rfl rfl hl.1 rfl (lv_room (Nat.le_of_ble_eq_true rfl)) dX8_rule_3 ⟨Nat.le_of_ble_eq_true rfl, Nat.le_of_ble_eq_true rfl⟩)) (fun r_1 hr_1 => ?_)
  refine lv_if_eq (tgt := 48) hx hb dX8_rule_6 (by decide) (fun c_2 => ?_) (fun c_2 => ?_)
  · skip
    have ic_2 := ci_eq (rfl : Int32.toInt r_1 = _) (show Int32.toInt 0 = 0 by decide) c_2
    refine lv_bipush (v := (-2)) hx hb dX8_rule_48 (by decide) ?_
    exact W.iret (v := (-2)) hx hb hr (fun t ht hW => ⟨⟨(-2), fs, rfl, ⟨n, wq, zz, hn3, hn, h0f, hwk, hws, hzf, hz10⟩, ⟨by rw [ht]; exact hP.sub (ws' := [(m0, .inr (6, [.ref st, .ref im, .ref kq, .ref pw, .ref nx, .ref li, .int d6, .ref il, .ref mv, .ref so, .ref la, .int d11, .int d12, .ref co])), (st, .inl (cyI, 72, .inl fs))]) [0, 1] rfl, hD.sub (ws' := [(m0, .inr (6, [.ref st, .ref im, .ref kq, .ref pw, .ref nx, .ref li, .int d6, .ref il, .ref mv, .ref so, .ref la, .int d11, .int d12, .ref co])), (st, .inl (cyI, 72, .inl fs))]) [0, 1] (by decide) rfl⟩⟩, hS.F ht⟩) hS.2.2 dX8_rule_50
  · skip
    have ic_2 := ci_ne (rfl : Int32.toInt r_1 = _) (show Int32.toInt 0 = 0 by decide) c_2
    refine lv_iload_n hx hb dX8_rule_9 rfl (lv_at hl 2 rfl) ?_
    refine lv_iconst (v := 0) hx hb dX8_rule_10 (by decide) ?_
    refine lv_iconst (v := 4) hx hb dX8_rule_11 (by decide) ?_
    refine vp_callSi (va_Run.run (va_runS (As := [.int p2, .int 0, .int 4]) (rest := []) ⟨hx, hb, hml, hown, hts⟩ (mX8_in l dC dI cyI cyZ p2 0 4 0 4 (by decide) (by decide)) (va_cwS 3 hts gX8_rule_X8_in rfl rfl rfl (by decide +kernel) ⟨Nat.le_of_ble_eq_true rfl, Nat.le_of_ble_eq_true rfl⟩) (bs_RS hB (hP.sub (ws' := []) [] rfl)) rfl rfl hl.1 rfl (lv_room (Nat.le_of_ble_eq_true rfl)) dX8_rule_12 ⟨Nat.le_of_ble_eq_true rfl, Nat.le_of_ble_eq_true rfl⟩)) (fun r_3 hr_3 => ?_)
    refine lv_if_eq (tgt := 48) hx hb dX8_rule_15 (by decide) (fun c_4 => ?_) (fun c_4 => ?_)
    · skip
      have ic_4 := ci_eq (rfl : Int32.toInt r_3 = _) (show Int32.toInt 0 = 0 by decide) c_4
      refine lv_bipush (v := (-2)) hx hb dX8_rule_48 (by decide) ?_
      exact W.iret (v := (-2)) hx hb hr (fun t ht hW => ⟨⟨(-2), fs, rfl, ⟨n, wq, zz, hn3, hn, h0f, hwk, hws, hzf, hz10⟩, ⟨by rw [ht]; exact hP.sub (ws' := [(m0, .inr (6, [.ref st, .ref im, .ref kq, .ref pw, .ref nx, .ref li, .int d6, .ref il, .ref mv, .ref so, .ref la, .int d11, .int d12, .ref co])), (st, .inl (cyI, 72, .inl fs))]) [0, 1] rfl, hD.sub (ws' := [(m0, .inr (6, [.ref st, .ref im, .ref kq, .ref pw, .ref nx, .ref li, .int d6, .ref il, .ref mv, .ref so, .ref la, .int d11, .int d12, .ref co])), (st, .inl (cyI, 72, .inl fs))]) [0, 1] (by decide) rfl⟩⟩, hS.F ht⟩) hS.2.2 dX8_rule_50
    · skip
      have ic_4 := ci_ne (rfl : Int32.toInt r_3 = _) (show Int32.toInt 0 = 0 by decide) c_4
      refine lv_iload_n hx hb dX8_rule_18 rfl (lv_at hl 3 rfl) ?_
      refine lv_iconst (v := 0) hx hb dX8_rule_19 (by decide) ?_
      refine lv_iconst (v := 2) hx hb dX8_rule_20 (by decide) ?_
      refine vp_callSi (va_Run.run (va_runS (As := [.int p3, .int 0, .int 2]) (rest := []) ⟨hx, hb, hml, hown, hts⟩ (mX8_in l dC dI cyI cyZ p3 0 2 0 2 (by decide) (by decide)) (va_cwS 3 hts gX8_rule_X8_in rfl rfl rfl (by decide +kernel) ⟨Nat.le_of_ble_eq_true rfl, Nat.le_of_ble_eq_true rfl⟩) (bs_RS hB (hP.sub (ws' := []) [] rfl)) rfl rfl hl.1 rfl (lv_room (Nat.le_of_ble_eq_true rfl)) dX8_rule_21 ⟨Nat.le_of_ble_eq_true rfl, Nat.le_of_ble_eq_true rfl⟩)) (fun r_5 hr_5 => ?_)
      refine lv_if_eq (tgt := 48) hx hb dX8_rule_24 (by decide) (fun c_6 => ?_) (fun c_6 => ?_)
      · skip
        have ic_6 := ci_eq (rfl : Int32.toInt r_5 = _) (show Int32.toInt 0 = 0 by decide) c_6
        refine lv_bipush (v := (-2)) hx hb dX8_rule_48 (by decide) ?_
        exact W.iret (v := (-2)) hx hb hr (fun t ht hW => ⟨⟨(-2), fs, rfl, ⟨n, wq, zz, hn3, hn, h0f, hwk, hws, hzf, hz10⟩, ⟨by rw [ht]; exact hP.sub (ws' := [(m0, .inr (6, [.ref st, .ref im, .ref kq, .ref pw, .ref nx, .ref li, .int d6, .ref il, .ref mv, .ref so, .ref la, .int d11, .int d12, .ref co])), (st, .inl (cyI, 72, .inl fs))]) [0, 1] rfl, hD.sub (ws' := [(m0, .inr (6, [.ref st, .ref im, .ref kq, .ref pw, .ref nx, .ref li, .int d6, .ref il, .ref mv, .ref so, .ref la, .int d11, .int d12, .ref co])), (st, .inl (cyI, 72, .inl fs))]) [0, 1] (by decide) rfl⟩⟩, hS.F ht⟩) hS.2.2 dX8_rule_50
      · skip
        have ic_6 := ci_ne (rfl : Int32.toInt r_5 = _) (show Int32.toInt 0 = 0 by decide) c_6
        refine lv_iload hx hb dX8_rule_27 (lv_at hl 4 rfl) ?_
        refine lv_iconst (v := 1) hx hb dX8_rule_29 (by decide) ?_
        refine lv_bipush (v := 10) hx hb dX8_rule_30 (by decide) ?_
        refine vp_callSi (va_Run.run (va_runS (As := [.int p4, .int 1, .int 10]) (rest := []) ⟨hx, hb, hml, hown, hts⟩ (mX8_in l dC dI cyI cyZ p4 1 10 1 10 (by decide) (by decide)) (va_cwS 3 hts gX8_rule_X8_in rfl rfl rfl (by decide +kernel) ⟨Nat.le_of_ble_eq_true rfl, Nat.le_of_ble_eq_true rfl⟩) (bs_RS hB (hP.sub (ws' := []) [] rfl)) rfl rfl hl.1 rfl (lv_room (Nat.le_of_ble_eq_true rfl)) dX8_rule_32 ⟨Nat.le_of_ble_eq_true rfl, Nat.le_of_ble_eq_true rfl⟩)) (fun r_7 hr_7 => ?_)
        refine lv_if_eq (tgt := 48) hx hb dX8_rule_35 (by decide) (fun c_8 => ?_) (fun c_8 => ?_)
        · skip
          have ic_8 := ci_eq (rfl : Int32.toInt r_7 = _) (show Int32.toInt 0 = 0 by decide) c_8
          refine lv_bipush (v := (-2)) hx hb dX8_rule_48 (by decide) ?_
          exact W.iret (v := (-2)) hx hb hr (fun t ht hW => ⟨⟨(-2), fs, rfl, ⟨n, wq, zz, hn3, hn, h0f, hwk, hws, hzf, hz10⟩, ⟨by rw [ht]; exact hP.sub (ws' := [(m0, .inr (6, [.ref st, .ref im, .ref kq, .ref pw, .ref nx, .ref li, .int d6, .ref il, .ref mv, .ref so, .ref la, .int d11, .int d12, .ref co])), (st, .inl (cyI, 72, .inl fs))]) [0, 1] rfl, hD.sub (ws' := [(m0, .inr (6, [.ref st, .ref im, .ref kq, .ref pw, .ref nx, .ref li, .int d6, .ref il, .ref mv, .ref so, .ref la, .int d11, .int d12, .ref co])), (st, .inl (cyI, 72, .inl fs))]) [0, 1] (by decide) rfl⟩⟩, hS.F ht⟩) hS.2.2 dX8_rule_50
        · skip
          have ic_8 := ci_ne (rfl : Int32.toInt r_7 = _) (show Int32.toInt 0 = 0 by decide) c_8
          refine lv_iload hx hb dX8_rule_38 (lv_at hl 5 rfl) ?_
          refine lv_iconst (v := 0) hx hb dX8_rule_40 (by decide) ?_
          refine lv_iconst (v := 2) hx hb dX8_rule_41 (by decide) ?_
          refine vp_callSi (va_Run.run (va_runS (As := [.int p5, .int 0, .int 2]) (rest := []) ⟨hx, hb, hml, hown, hts⟩ (mX8_in l dC dI cyI cyZ p5 0 2 0 2 (by decide) (by decide)) (va_cwS 3 hts gX8_rule_X8_in rfl rfl rfl (by decide +kernel) ⟨Nat.le_of_ble_eq_true rfl, Nat.le_of_ble_eq_true rfl⟩) (bs_RS hB (hP.sub (ws' := []) [] rfl)) rfl rfl hl.1 rfl (lv_room (Nat.le_of_ble_eq_true rfl)) dX8_rule_42 ⟨Nat.le_of_ble_eq_true rfl, Nat.le_of_ble_eq_true rfl⟩)) (fun r_9 hr_9 => ?_)
          refine lv_if_ne (tgt := 51) hx hb dX8_rule_45 (by decide) (fun c_10 => ?_) (fun c_10 => ?_)
          · skip
            have ic_10 := ci_ne (rfl : Int32.toInt r_9 = _) (show Int32.toInt 0 = 0 by decide) c_10
            refine lv_aload_n hx hb dX8_rule_51 rfl (lv_at hl 0 rfl) ?_
            refine va_get (D := (dC, dI)) (ci := 6) (v := .ref st) (C := RX8) (T := TX8) (N := 14) hx hb hts hnX8_rule_X8 hown hK hP 0 rfl rfl 0 (by decide) (hts (.fieldLink RX8 7 "RingMeetsModel" "state" "[I") (by decide +kernel)) (fun _ h9 => h9) rfl dX8_rule_52 ?_
            refine lv_bipush (v := 11) hx hb dX8_rule_55 (by decide) ?_
            refine va_iald (D := (dC, dI)) hx hb hK hP 1 0 rfl rfl (show vp_in 11 72 from vp_in_nI (n := 11) (N := 72) (by decide) (by decide)) dX8_rule_57 ?_
            refine lv_topi (fun x_11 ex_11 => ?_)
            have ex_11 : x_11 = fs 11 := ex_11
            obtain rfl : (nI zz) = x_11 := (ex_11.trans (hzf)).symm
            refine lv_bipush (v := 10) hx hb dX8_rule_58 (by decide) ?_
            refine lv_icmp_ne (tgt := 66) hx hb dX8_rule_60 (by decide) (fun c_12 => ?_) (fun c_12 => ?_)
            · skip
              have ic_12 := ci_ne (nI_toInt (n := zz) (by omega)) (show Int32.toInt 10 = 10 by decide) c_12
              refine lv_bipush (v := 12) hx hb dX8_rule_66 (by decide) ?_
              refine lv_bipush (v := 6) hx hb dX8_rule_68 (by decide) ?_
              refine lv_aload_n hx hb dX8_rule_70 rfl (lv_at hl 0 rfl) ?_
              refine va_get (D := (dC, dI)) (ci := 6) (v := .ref st) (C := RX8) (T := TX8) (N := 14) hx hb hts hnX8_rule_X8 hown hK hP 0 rfl rfl 0 (by decide) (hts (.fieldLink RX8 7 "RingMeetsModel" "state" "[I") (by decide +kernel)) (fun _ h9 => h9) rfl dX8_rule_71 ?_
              refine lv_bipush (v := 11) hx hb dX8_rule_74 (by decide) ?_
              refine va_iald (D := (dC, dI)) hx hb hK hP 1 0 rfl rfl (show vp_in 11 72 from vp_in_nI (n := 11) (N := 72) (by decide) (by decide)) dX8_rule_76 ?_
              refine lv_topi (fun x_13 ex_13 => ?_)
              have ex_13 : x_13 = fs 11 := ex_13
              obtain rfl : (nI zz) = x_13 := (ex_13.trans (hzf)).symm
              refine lv_imul hx hb dX8_rule_77 ?_
              refine lv_topi (fun x_14 ex_14 => ?_)
              obtain rfl : (nI (6 * zz)) = x_14 := (ex_14.trans (nb_mul 6 _)).symm
              refine lv_iadd hx hb dX8_rule_78 ?_
              refine lv_topi (fun x_15 ex_15 => ?_)
              obtain rfl : (nI (12 + (6 * zz))) = x_15 := (ex_15.trans (nI_add 12 _)).symm
              refine lv_istore (lv' := [(6, .int (nI (12 + (6 * zz)))), (0, .ref m0), (1, .int p1), (2, .int p2), (3, .int p3), (4, .int p4), (5, .int p5)]) hx hb dX8_rule_79 hl (by decide) rfl (fun ls hl => ?_)
              refine lv_aload_n hx hb dX8_rule_81 rfl (lv_at hl 1 rfl) ?_
              refine va_get (D := (dC, dI)) (ci := 6) (v := .ref st) (C := RX8) (T := TX8) (N := 14) hx hb hts hnX8_rule_X8 hown hK hP 0 rfl rfl 0 (by decide) (hts (.fieldLink RX8 7 "RingMeetsModel" "state" "[I") (by decide +kernel)) (fun _ h9 => h9) rfl dX8_rule_82 ?_
              refine lv_iload hx hb dX8_rule_85 (lv_at hl 0 rfl) ?_
              refine lv_iload_n hx hb dX8_rule_87 rfl (lv_at hl 2 rfl) ?_
              refine va_iast (D := (dC, dI)) hx hb hK hP hD hS 1 0 rfl rfl (vp_in_nI (n := (12 + (6 * zz))) (N := 72) (by omega) (by omega)) dX8_rule_88 (fun H locs hP hD hS => ?_)
              obtain ⟨g_16, eg_16⟩ : ∃ y : Nat → Int32, y = upd fs (Int32.toNatClampNeg (nI (12 + (6 * zz)))) p1 := ⟨_, rfl⟩
              have hP : va_P (dC, dI) vwCl [(m0, .inr (6, [.ref st, .ref im, .ref kq, .ref pw, .ref nx, .ref li, .int d6, .ref il, .ref mv, .ref so, .ref la, .int d11, .int d12, .ref co])), (st, .inl (cyI, 72, .inl g_16))] H := by rw [eg_16]; exact hP
              have hD : va_D A [(m0, .inr (6, [.ref st, .ref im, .ref kq, .ref pw, .ref nx, .ref li, .int d6, .ref il, .ref mv, .ref so, .ref la, .int d11, .int d12, .ref co])), (st, .inl (cyI, 72, .inl g_16))] := by rw [eg_16]; exact hD
              rw [nI_clamp (n := (12 + (6 * zz))) (by omega)] at eg_16
              have hI := mn_I_upd hI (by omega) eg_16
              have h11 := mn_u11 eg_16 (by omega) h11
              refine lv_aload_n hx hb dX8_rule_89 rfl (lv_at hl 1 rfl) ?_
              refine va_get (D := (dC, dI)) (ci := 6) (v := .ref st) (C := RX8) (T := TX8) (N := 14) hx hb hts hnX8_rule_X8 hown hK hP 0 rfl rfl 0 (by decide) (hts (.fieldLink RX8 7 "RingMeetsModel" "state" "[I") (by decide +kernel)) (fun _ h9 => h9) rfl dX8_rule_90 ?_
              refine lv_iload hx hb dX8_rule_93 (lv_at hl 0 rfl) ?_
              refine lv_iconst (v := 1) hx hb dX8_rule_95 (by decide) ?_
              refine lv_iadd hx hb dX8_rule_96 ?_
              refine lv_topi (fun x_17 ex_17 => ?_)
              obtain rfl : (nI ((12 + (6 * zz)) + 1)) = x_17 := (ex_17.trans (nI_1 _)).symm
              refine lv_iload_n hx hb dX8_rule_97 rfl (lv_at hl 3 rfl) ?_
              refine va_iast (D := (dC, dI)) hx hb hK hP hD hS 1 0 rfl rfl (vp_in_nI (n := ((12 + (6 * zz)) + 1)) (N := 72) (by omega) (by omega)) dX8_rule_98 (fun H locs hP hD hS => ?_)
              obtain ⟨g_18, eg_18⟩ : ∃ y : Nat → Int32, y = upd g_16 (Int32.toNatClampNeg (nI ((12 + (6 * zz)) + 1))) p2 := ⟨_, rfl⟩
              have hP : va_P (dC, dI) vwCl [(m0, .inr (6, [.ref st, .ref im, .ref kq, .ref pw, .ref nx, .ref li, .int d6, .ref il, .ref mv, .ref so, .ref la, .int d11, .int d12, .ref co])), (st, .inl (cyI, 72, .inl g_18))] H := by rw [eg_18]; exact hP
              have hD : va_D A [(m0, .inr (6, [.ref st, .ref im, .ref kq, .ref pw, .ref nx, .ref li, .int d6, .ref il, .ref mv, .ref so, .ref la, .int d11, .int d12, .ref co])), (st, .inl (cyI, 72, .inl g_18))] := by rw [eg_18]; exact hD
              rw [nI_clamp (n := ((12 + (6 * zz)) + 1)) (by omega)] at eg_18
              have hI := mn_I_upd hI (by omega) eg_18
              have h11 := mn_u11 eg_18 (by omega) h11
              refine lv_aload_n hx hb dX8_rule_99 rfl (lv_at hl 1 rfl) ?_
              refine va_get (D := (dC, dI)) (ci := 6) (v := .ref st) (C := RX8) (T := TX8) (N := 14) hx hb hts hnX8_rule_X8 hown hK hP 0 rfl rfl 0 (by decide) (hts (.fieldLink RX8 7 "RingMeetsModel" "state" "[I") (by decide +kernel)) (fun _ h9 => h9) rfl dX8_rule_100 ?_
              refine lv_iload hx hb dX8_rule_103 (lv_at hl 0 rfl) ?_
              refine lv_iconst (v := 2) hx hb dX8_rule_105 (by decide) ?_
              refine lv_iadd hx hb dX8_rule_106 ?_
              refine lv_topi (fun x_19 ex_19 => ?_)
              obtain rfl : (nI ((12 + (6 * zz)) + 2)) = x_19 := (ex_19.trans (nI_add _ 2)).symm
              refine lv_iload_n hx hb dX8_rule_107 rfl (lv_at hl 4 rfl) ?_
              refine va_iast (D := (dC, dI)) hx hb hK hP hD hS 1 0 rfl rfl (vp_in_nI (n := ((12 + (6 * zz)) + 2)) (N := 72) (by omega) (by omega)) dX8_rule_108 (fun H locs hP hD hS => ?_)
              obtain ⟨g_20, eg_20⟩ : ∃ y : Nat → Int32, y = upd g_18 (Int32.toNatClampNeg (nI ((12 + (6 * zz)) + 2))) p3 := ⟨_, rfl⟩
              have hP : va_P (dC, dI) vwCl [(m0, .inr (6, [.ref st, .ref im, .ref kq, .ref pw, .ref nx, .ref li, .int d6, .ref il, .ref mv, .ref so, .ref la, .int d11, .int d12, .ref co])), (st, .inl (cyI, 72, .inl g_20))] H := by rw [eg_20]; exact hP
              have hD : va_D A [(m0, .inr (6, [.ref st, .ref im, .ref kq, .ref pw, .ref nx, .ref li, .int d6, .ref il, .ref mv, .ref so, .ref la, .int d11, .int d12, .ref co])), (st, .inl (cyI, 72, .inl g_20))] := by rw [eg_20]; exact hD
              rw [nI_clamp (n := ((12 + (6 * zz)) + 2)) (by omega)] at eg_20
              have hI := mn_I_upd hI (by omega) eg_20
              have h11 := mn_u11 eg_20 (by omega) h11
              refine lv_aload_n hx hb dX8_rule_109 rfl (lv_at hl 1 rfl) ?_
              refine va_get (D := (dC, dI)) (ci := 6) (v := .ref st) (C := RX8) (T := TX8) (N := 14) hx hb hts hnX8_rule_X8 hown hK hP 0 rfl rfl 0 (by decide) (hts (.fieldLink RX8 7 "RingMeetsModel" "state" "[I") (by decide +kernel)) (fun _ h9 => h9) rfl dX8_rule_110 ?_
              refine lv_iload hx hb dX8_rule_113 (lv_at hl 0 rfl) ?_
              refine lv_iconst (v := 3) hx hb dX8_rule_115 (by decide) ?_
              refine lv_iadd hx hb dX8_rule_116 ?_
              refine lv_topi (fun x_21 ex_21 => ?_)
              obtain rfl : (nI ((12 + (6 * zz)) + 3)) = x_21 := (ex_21.trans (nI_add _ 3)).symm
              refine lv_iload hx hb dX8_rule_117 (lv_at hl 5 rfl) ?_
              refine va_iast (D := (dC, dI)) hx hb hK hP hD hS 1 0 rfl rfl (vp_in_nI (n := ((12 + (6 * zz)) + 3)) (N := 72) (by omega) (by omega)) dX8_rule_119 (fun H locs hP hD hS => ?_)
              obtain ⟨g_22, eg_22⟩ : ∃ y : Nat → Int32, y = upd g_20 (Int32.toNatClampNeg (nI ((12 + (6 * zz)) + 3))) p4 := ⟨_, rfl⟩
              have hP : va_P (dC, dI) vwCl [(m0, .inr (6, [.ref st, .ref im, .ref kq, .ref pw, .ref nx, .ref li, .int d6, .ref il, .ref mv, .ref so, .ref la, .int d11, .int d12, .ref co])), (st, .inl (cyI, 72, .inl g_22))] H := by rw [eg_22]; exact hP
              have hD : va_D A [(m0, .inr (6, [.ref st, .ref im, .ref kq, .ref pw, .ref nx, .ref li, .int d6, .ref il, .ref mv, .ref so, .ref la, .int d11, .int d12, .ref co])), (st, .inl (cyI, 72, .inl g_22))] := by rw [eg_22]; exact hD
              rw [nI_clamp (n := ((12 + (6 * zz)) + 3)) (by omega)] at eg_22
              have hI := mn_I_upd hI (by omega) eg_22
              have h11 := mn_u11 eg_22 (by omega) h11
              refine lv_aload_n hx hb dX8_rule_120 rfl (lv_at hl 1 rfl) ?_
              refine va_get (D := (dC, dI)) (ci := 6) (v := .ref st) (C := RX8) (T := TX8) (N := 14) hx hb hts hnX8_rule_X8 hown hK hP 0 rfl rfl 0 (by decide) (hts (.fieldLink RX8 7 "RingMeetsModel" "state" "[I") (by decide +kernel)) (fun _ h9 => h9) rfl dX8_rule_121 ?_
              refine lv_iload hx hb dX8_rule_124 (lv_at hl 0 rfl) ?_
              refine lv_iconst (v := 4) hx hb dX8_rule_126 (by decide) ?_
              refine lv_iadd hx hb dX8_rule_127 ?_
              refine lv_topi (fun x_23 ex_23 => ?_)
              obtain rfl : (nI ((12 + (6 * zz)) + 4)) = x_23 := (ex_23.trans (nI_add _ 4)).symm
              refine lv_iload hx hb dX8_rule_128 (lv_at hl 6 rfl) ?_
              refine va_iast (D := (dC, dI)) hx hb hK hP hD hS 1 0 rfl rfl (vp_in_nI (n := ((12 + (6 * zz)) + 4)) (N := 72) (by omega) (by omega)) dX8_rule_130 (fun H locs hP hD hS => ?_)
              obtain ⟨g_24, eg_24⟩ : ∃ y : Nat → Int32, y = upd g_22 (Int32.toNatClampNeg (nI ((12 + (6 * zz)) + 4))) p5 := ⟨_, rfl⟩
              have hP : va_P (dC, dI) vwCl [(m0, .inr (6, [.ref st, .ref im, .ref kq, .ref pw, .ref nx, .ref li, .int d6, .ref il, .ref mv, .ref so, .ref la, .int d11, .int d12, .ref co])), (st, .inl (cyI, 72, .inl g_24))] H := by rw [eg_24]; exact hP
              have hD : va_D A [(m0, .inr (6, [.ref st, .ref im, .ref kq, .ref pw, .ref nx, .ref li, .int d6, .ref il, .ref mv, .ref so, .ref la, .int d11, .int d12, .ref co])), (st, .inl (cyI, 72, .inl g_24))] := by rw [eg_24]; exact hD
              rw [nI_clamp (n := ((12 + (6 * zz)) + 4)) (by omega)] at eg_24
              have hI := mn_I_upd hI (by omega) eg_24
              have h11 := mn_u11 eg_24 (by omega) h11
              refine lv_aload_n hx hb dX8_rule_131 rfl (lv_at hl 1 rfl) ?_
              refine va_get (D := (dC, dI)) (ci := 6) (v := .ref st) (C := RX8) (T := TX8) (N := 14) hx hb hts hnX8_rule_X8 hown hK hP 0 rfl rfl 0 (by decide) (hts (.fieldLink RX8 7 "RingMeetsModel" "state" "[I") (by decide +kernel)) (fun _ h9 => h9) rfl dX8_rule_132 ?_
              refine lv_iload hx hb dX8_rule_135 (lv_at hl 0 rfl) ?_
              refine lv_iconst (v := 5) hx hb dX8_rule_137 (by decide) ?_
              refine lv_iadd hx hb dX8_rule_138 ?_
              refine lv_topi (fun x_25 ex_25 => ?_)
              obtain rfl : (nI ((12 + (6 * zz)) + 5)) = x_25 := (ex_25.trans (nI_add _ 5)).symm
              refine lv_iconst (v := 2) hx hb dX8_rule_139 (by decide) ?_
              refine va_iast (D := (dC, dI)) hx hb hK hP hD hS 1 0 rfl rfl (vp_in_nI (n := ((12 + (6 * zz)) + 5)) (N := 72) (by omega) (by omega)) dX8_rule_140 (fun H locs hP hD hS => ?_)
              obtain ⟨g_26, eg_26⟩ : ∃ y : Nat → Int32, y = upd g_24 (Int32.toNatClampNeg (nI ((12 + (6 * zz)) + 5))) 2 := ⟨_, rfl⟩
              have hP : va_P (dC, dI) vwCl [(m0, .inr (6, [.ref st, .ref im, .ref kq, .ref pw, .ref nx, .ref li, .int d6, .ref il, .ref mv, .ref so, .ref la, .int d11, .int d12, .ref co])), (st, .inl (cyI, 72, .inl g_26))] H := by rw [eg_26]; exact hP
              have hD : va_D A [(m0, .inr (6, [.ref st, .ref im, .ref kq, .ref pw, .ref nx, .ref li, .int d6, .ref il, .ref mv, .ref so, .ref la, .int d11, .int d12, .ref co])), (st, .inl (cyI, 72, .inl g_26))] := by rw [eg_26]; exact hD
              rw [nI_clamp (n := ((12 + (6 * zz)) + 5)) (by omega)] at eg_26
              have hI := mn_I_upd hI (by omega) eg_26
              have h11 := mn_u11 eg_26 (by omega) h11
              refine lv_aload_n hx hb dX8_rule_141 rfl (lv_at hl 1 rfl) ?_
              refine va_get (D := (dC, dI)) (ci := 6) (v := .ref st) (C := RX8) (T := TX8) (N := 14) hx hb hts hnX8_rule_X8 hown hK hP 0 rfl rfl 0 (by decide) (hts (.fieldLink RX8 7 "RingMeetsModel" "state" "[I") (by decide +kernel)) (fun _ h9 => h9) rfl dX8_rule_142 ?_
              refine lv_bipush (v := 11) hx hb dX8_rule_145 (by decide) ?_
              refine lv_dup2_11 hx hb dX8_rule_147 rfl rfl ?_
              refine va_iald (D := (dC, dI)) hx hb hK hP 1 0 rfl rfl (show vp_in 11 72 from vp_in_nI (n := 11) (N := 72) (by decide) (by decide)) dX8_rule_148 ?_
              refine lv_topi (fun x_27 ex_27 => ?_)
              have ex_27 : x_27 = g_26 11 := ex_27
              obtain rfl : (nI zz) = x_27 := (ex_27.trans (h11)).symm
              refine lv_iconst (v := 1) hx hb dX8_rule_149 (by decide) ?_
              refine lv_iadd hx hb dX8_rule_150 ?_
              refine lv_topi (fun x_28 ex_28 => ?_)
              obtain rfl : (nI (zz + 1)) = x_28 := (ex_28.trans (nI_1 _)).symm
              refine va_iast (D := (dC, dI)) hx hb hK hP hD hS 1 0 rfl rfl (show vp_in 11 72 from vp_in_nI (n := 11) (N := 72) (by decide) (by decide)) dX8_rule_151 (fun H locs hP hD hS => ?_)
              obtain ⟨g_29, eg_29⟩ : ∃ y : Nat → Int32, y = upd g_26 (Int32.toNatClampNeg 11) (nI (zz + 1)) := ⟨_, rfl⟩
              have hP : va_P (dC, dI) vwCl [(m0, .inr (6, [.ref st, .ref im, .ref kq, .ref pw, .ref nx, .ref li, .int d6, .ref il, .ref mv, .ref so, .ref la, .int d11, .int d12, .ref co])), (st, .inl (cyI, 72, .inl g_29))] H := by rw [eg_29]; exact hP
              have hD : va_D A [(m0, .inr (6, [.ref st, .ref im, .ref kq, .ref pw, .ref nx, .ref li, .int d6, .ref il, .ref mv, .ref so, .ref la, .int d11, .int d12, .ref co])), (st, .inl (cyI, 72, .inl g_29))] := by rw [eg_29]; exact hD
              have eg_29 : g_29 = upd g_26 11 (nI (zz + 1)) := eg_29
              refine lv_aload_n hx hb dX8_rule_152 rfl (lv_at hl 1 rfl) ?_
              refine va_get (D := (dC, dI)) (ci := 6) (v := .ref st) (C := RX8) (T := TX8) (N := 14) hx hb hts hnX8_rule_X8 hown hK hP 0 rfl rfl 0 (by decide) (hts (.fieldLink RX8 7 "RingMeetsModel" "state" "[I") (by decide +kernel)) (fun _ h9 => h9) rfl dX8_rule_153 ?_
              refine lv_bipush (v := 11) hx hb dX8_rule_156 (by decide) ?_
              refine va_iald (D := (dC, dI)) hx hb hK hP 1 0 rfl rfl (show vp_in 11 72 from vp_in_nI (n := 11) (N := 72) (by decide) (by decide)) dX8_rule_158 ?_
              refine lv_topi (fun x_30 ex_30 => ?_)
              have ex_30 : x_30 = g_29 11 := ex_30
              obtain rfl : (nI (zz + 1)) = x_30 := (ex_30.trans (by rw [eg_29]; rfl)).symm
              refine lv_iconst (v := 1) hx hb dX8_rule_159 (by decide) ?_
              refine lv_isub hx hb dX8_rule_160 ?_
              refine lv_topi (fun x_31 ex_31 => ?_)
              obtain rfl : (nI ((zz + 1) - 1)) = x_31 := (ex_31.trans (nb_sub (a := (zz + 1)) (b := 1) (by omega))).symm
              exact W.iret (v := (nI ((zz + 1) - 1))) hx hb hr (fun t ht hW => ⟨⟨(nI ((zz + 1) - 1)), g_29, rfl, mn_I_11 hI (by omega) eg_29, ⟨by rw [ht]; exact hP.sub (ws' := [(m0, .inr (6, [.ref st, .ref im, .ref kq, .ref pw, .ref nx, .ref li, .int d6, .ref il, .ref mv, .ref so, .ref la, .int d11, .int d12, .ref co])), (st, .inl (cyI, 72, .inl g_29))]) [0, 1] rfl, hD.sub (ws' := [(m0, .inr (6, [.ref st, .ref im, .ref kq, .ref pw, .ref nx, .ref li, .int d6, .ref il, .ref mv, .ref so, .ref la, .int d11, .int d12, .ref co])), (st, .inl (cyI, 72, .inl g_29))]) [0, 1] (by decide) rfl⟩⟩, hS.F ht⟩) hS.2.2 dX8_rule_161
            · skip
              have ic_12 := ci_eq (nI_toInt (n := zz) (by omega)) (show Int32.toInt 10 = 10 by decide) c_12
              refine lv_bipush (v := (-4)) hx hb dX8_rule_63 (by decide) ?_
              exact W.iret (v := (-4)) hx hb hr (fun t ht hW => ⟨⟨(-4), fs, rfl, ⟨n, wq, zz, hn3, hn, h0f, hwk, hws, hzf, hz10⟩, ⟨by rw [ht]; exact hP.sub (ws' := [(m0, .inr (6, [.ref st, .ref im, .ref kq, .ref pw, .ref nx, .ref li, .int d6, .ref il, .ref mv, .ref so, .ref la, .int d11, .int d12, .ref co])), (st, .inl (cyI, 72, .inl fs))]) [0, 1] rfl, hD.sub (ws' := [(m0, .inr (6, [.ref st, .ref im, .ref kq, .ref pw, .ref nx, .ref li, .int d6, .ref il, .ref mv, .ref so, .ref la, .int d11, .int d12, .ref co])), (st, .inl (cyI, 72, .inl fs))]) [0, 1] (by decide) rfl⟩⟩, hS.F ht⟩) hS.2.2 dX8_rule_65
          · skip
            have ic_10 := ci_eq (rfl : Int32.toInt r_9 = _) (show Int32.toInt 0 = 0 by decide) c_10
            refine lv_bipush (v := (-2)) hx hb dX8_rule_48 (by decide) ?_
            exact W.iret (v := (-2)) hx hb hr (fun t ht hW => ⟨⟨(-2), fs, rfl, ⟨n, wq, zz, hn3, hn, h0f, hwk, hws, hzf, hz10⟩, ⟨by rw [ht]; exact hP.sub (ws' := [(m0, .inr (6, [.ref st, .ref im, .ref kq, .ref pw, .ref nx, .ref li, .int d6, .ref il, .ref mv, .ref so, .ref la, .int d11, .int d12, .ref co])), (st, .inl (cyI, 72, .inl fs))]) [0, 1] rfl, hD.sub (ws' := [(m0, .inr (6, [.ref st, .ref im, .ref kq, .ref pw, .ref nx, .ref li, .int d6, .ref il, .ref mv, .ref so, .ref la, .int d11, .int d12, .ref co])), (st, .inl (cyI, 72, .inl fs))]) [0, 1] (by decide) rfl⟩⟩, hS.F ht⟩) hS.2.2 dX8_rule_50

theorem hnX8_drop_X8 : ∀ w ∈ wsX80, w ∈ wsX8_drop := fun _ h => List.mem_cons_of_mem _ (List.mem_append_right _ h)
set_option maxHeartbeats 4000000 in
set_option maxRecDepth 100000 in
theorem mX8_drop (l : Launch) (dC : Nat → ClassId) (dI : Nat → Nat → Nat) (cyI cyZ : ClassId) (m0 : Nat) (st : Nat) (im : Nat) (kq : Nat) (pw : Nat) (nx : Nat) (li : Nat) (il : Nat) (mv : Nat) (so : Nat) (la : Nat) (co : Nat) (d6 : Int32) (d11 : Int32) (d12 : Int32) (n : Nat) (fs : Nat → Int32) (wq : Nat → Nat) (zz : Nat) (p1 : Int32) (hn3 : 3 ≤ n) (hn : n ≤ 10) (h0f : fs 0 = nI n) (hwk : ∀ j, j < 10 → fs (1 + j) = nI (wq j)) (hws : mn_sum wq 10 ≤ 5) (hzf : fs 11 = nI zz) (hz10 : zz ≤ 10) (sz : Nat) : Met l yX8_drop wsX8_drop ({ frames := 2, cells := 0, slots := 0, locals := 43 }) (bs_W dC dI cyI cyZ [.ref m0, .int p1] [(m0, .inr (6, [.ref st, .ref im, .ref kq, .ref pw, .ref nx, .ref li, .int d6, .ref il, .ref mv, .ref so, .ref la, .int d11, .int d12, .ref co])), (st, .inl (cyI, 72, .inl fs))] sz) (va_Qi (S := (Nat → Int32)) (fun (r : Int32) (q : (Nat → Int32)) => mn_I q) (fun q t => bs_E dC dI (va_A [(m0, .inr (6, [.ref st, .ref im, .ref kq, .ref pw, .ref nx, .ref li, .int d6, .ref il, .ref mv, .ref so, .ref la, .int d11, .int d12, .ref co])), (st, .inl (cyI, 72, .inl fs))] sz) [(m0, .inr (6, [.ref st, .ref im, .ref kq, .ref pw, .ref nx, .ref li, .int d6, .ref il, .ref mv, .ref so, .ref la, .int d11, .int d12, .ref co])), (st, .inl (cyI, 72, .inl q))] t) (va_A [(m0, .inr (6, [.ref st, .ref im, .ref kq, .ref pw, .ref nx, .ref li, .int d6, .ref il, .ref mv, .ref so, .ref la, .int d11, .int d12, .ref co])), (st, .inl (cyI, 72, .inl fs))] sz)) 0 0 (va_A [(m0, .inr (6, [.ref st, .ref im, .ref kq, .ref pw, .ref nx, .ref li, .int d6, .ref il, .ref mv, .ref so, .ref la, .int d11, .int d12, .ref co])), (st, .inl (cyI, 72, .inl fs))] sz) := by
  refine Met.ofW (cc := cX8_drop) (maxL := 3) (ret := (some .int)) (by decide) rfl ?_
  intro p e s m args below meth c s₁ B hml hv
  obtain ⟨rfl, hsz, hB, hP, hD0⟩ := hv
  have hK := hB.1
  have hN := hB.2
  have hx := B.exec
  have hb := B.bytes
  have hr := B.returns
  have hts := atoms_spec (ws := wsX8_drop) B.pre
  have hown : s.vm.findClass RX8 = some m.cls := findClass_of_methodNamed B.named
  have hlocks := B.notSynchronized
  subst hsz
  have hD := hD0.self (sz := s.heap.size)
  generalize hAe : va_A [(m0, .inr (6, [.ref st, .ref im, .ref kq, .ref pw, .ref nx, .ref li, .int d6, .ref il, .ref mv, .ref so, .ref la, .int d11, .int d12, .ref co])), (st, .inl (cyI, 72, .inl fs))] s.heap.size = A at hD ⊢
  have hA : ∀ q : Nat, s.heap.size ≤ q → A q := fun q h => by rw [← hAe]; exact Or.inr h
  have hS : va_S A s.heap s.heap [] := va_S.rf
  have hP : va_P (dC, dI) vwCl [(m0, .inr (6, [.ref st, .ref im, .ref kq, .ref pw, .ref nx, .ref li, .int d6, .ref il, .ref mv, .ref so, .ref la, .int d11, .int d12, .ref co])), (st, .inl (cyI, 72, .inl fs))] s.heap := hP
  have hl := lv_entry ([.ref m0, .int p1]) (n := 3) (Nat.le_of_ble_eq_true rfl)
  rw [lg_entry_eq]
  generalize (lg_sl ([.ref m0, .int p1]) ++ List.replicate (3 - (lg_sl ([.ref m0, .int p1])).length) Slot.unset).toArray = ls at hl ⊢
  have hl : lv_has ls 3 [(0, .ref m0), (1, .int p1)] := hl
  have hI : mn_I fs := ⟨n, wq, zz, hn3, hn, h0f, hwk, hws, hzf, hz10⟩
  refine lv_aload_n hx hb dX8_drop_0 rfl (lv_at hl 0 rfl) ?_
  refine lv_iload_n hx hb dX8_drop_1 rfl (lv_at hl 1 rfl) ?_
  refine vp_callSi (va_Run.run (va_runV (As := [.int p1]) (rest := []) ⟨hx, hb, hml, hown, hts⟩ (mX8_isRule l dC dI cyI cyZ m0 st im kq pw nx li il mv so la co d6 d11 d12 zz fs p1 hzf hz10) (cwV 1 hts gX8_drop_X8_isRule rfl rfl rfl (by decide +kernel) ⟨Nat.le_of_ble_eq_true rfl, Nat.le_of_ble_eq_true rfl⟩) (bs_RV hB (hP.sub (ws' := [(m0, .inr (6, [.ref st, .ref im, .ref kq, .ref pw, .ref nx, .ref li, .int d6, .ref il, .ref mv, .ref so, .ref la, .int d11, .int d12, .ref co])), (st, .inl (cyI, 72, .inl fs))]) [0, 1] rfl) 0 rfl rfl) rfl rfl hl.1 rfl (lv_room (Nat.le_of_ble_eq_true rfl)) dX8_drop_2 ⟨Nat.le_of_ble_eq_true rfl, Nat.le_of_ble_eq_true rfl⟩)) (fun r_1 hr_1 => ?_)
  refine lv_if_ne (tgt := 10) hx hb dX8_drop_5 (by decide) (fun c_2 => ?_) (fun c_2 => ?_)
  · skip
    have ic_2 := ci_ne (rfl : Int32.toInt r_1 = _) (show Int32.toInt 0 = 0 by decide) c_2
    obtain ⟨j9, lj9, ej9⟩ := hr_1.2.1 (hr_1.1.resolve_left c_2)
    subst ej9
    refine lv_bipush (v := 12) hx hb dX8_drop_10 (by decide) ?_
    refine lv_bipush (v := 6) hx hb dX8_drop_12 (by decide) ?_
    refine lv_iload_n hx hb dX8_drop_14 rfl (lv_at hl 1 rfl) ?_
    refine lv_imul hx hb dX8_drop_15 ?_
    refine lv_topi (fun x_3 ex_3 => ?_)
    obtain rfl : (nI (6 * j9)) = x_3 := (ex_3.trans (nb_mul 6 _)).symm
    refine lv_iadd hx hb dX8_drop_16 ?_
    refine lv_topi (fun x_4 ex_4 => ?_)
    obtain rfl : (nI (12 + (6 * j9))) = x_4 := (ex_4.trans (nI_add 12 _)).symm
    refine lv_istore_n (lv' := [(2, .int (nI (12 + (6 * j9)))), (0, .ref m0), (1, .int (nI j9))]) hx hb dX8_drop_17 rfl hl (by decide) rfl (fun ls hl => ?_)
    have L18 : ∀ (n18 : Nat), ∀ (k : Nat) (fs2 : Nat → Int32), (12 + 6 * j9 ≤ k ∧ k ≤ 66) → (66 + 1 ≤ k + n18) → (mn_I fs2) → (fs2 11 = nI zz) → ∀ (H : Heap) (locs : List Loc), va_P (dC, dI) vwCl [(m0, .inr (6, [.ref st, .ref im, .ref kq, .ref pw, .ref nx, .ref li, .int d6, .ref il, .ref mv, .ref so, .ref la, .int d11, .int d12, .ref co])), (st, .inl (cyI, 72, .inl fs2))] H → va_D A [(m0, .inr (6, [.ref st, .ref im, .ref kq, .ref pw, .ref nx, .ref li, .int d6, .ref il, .ref mv, .ref so, .ref la, .int d11, .int d12, .ref co])), (st, .inl (cyI, 72, .inl fs2))] → va_S A s.heap H locs → ∀ (ls : Array Slot), lv_has ls 3 [(0, .ref m0), (2, .int (nI k))] → W p l e (headSpec wsX8_drop ({ frames := 2, cells := 0, slots := 0, locals := 43 })).room s m ([.ref m0, .int (nI j9)] : List Value).toArray below meth c H locs 0 0 (MQ below (va_Qi (S := (Nat → Int32)) (fun (r : Int32) (q : (Nat → Int32)) => mn_I q) (fun q t => bs_E dC dI A [(m0, .inr (6, [.ref st, .ref im, .ref kq, .ref pw, .ref nx, .ref li, .int d6, .ref il, .ref mv, .ref so, .ref la, .int d11, .int d12, .ref co])), (st, .inl (cyI, 72, .inl q))] t) A) ([.ref m0, .int (nI j9)] : List Value).toArray s 0 0 A) (F0 m 18 ls []) := by
      intro n18
      induction n18 with
      | zero =>
        intro k fs2 hk18 hn18 h2a h2b H locs hP hD hS ls hl
        exfalso
        omega
      | succ n18 ih18 =>
        intro k fs2 hk18 hn18 h2a h2b H locs hP hD hS ls hl
        refine lv_iload_n hx hb dX8_drop_18 rfl (lv_at hl 1 rfl) ?_
        refine lv_bipush (v := 6) hx hb dX8_drop_19 (by decide) ?_
        refine lv_iadd hx hb dX8_drop_21 ?_
        refine lv_topi (fun x_5 ex_5 => ?_)
        obtain rfl : (nI (k + 6)) = x_5 := (ex_5.trans (nI_add _ 6)).symm
        refine lv_bipush (v := 72) hx hb dX8_drop_22 (by decide) ?_
        refine lv_icmp_ge (tgt := 48) hx hb dX8_drop_24 (by decide) (fun c_6 => ?_) (fun c_6 => ?_)
        · skip
          have ic_6 := ci_le (show Int32.toInt 72 = 72 by decide) (nI_toInt (n := (k + 6)) (by omega)) c_6
          refine lv_aload_n hx hb dX8_drop_48 rfl (lv_at hl 0 rfl) ?_
          refine va_get (D := (dC, dI)) (ci := 6) (v := .ref st) (C := RX8) (T := TX8) (N := 14) hx hb hts hnX8_drop_X8 hown hK hP 0 rfl rfl 0 (by decide) (hts (.fieldLink RX8 7 "RingMeetsModel" "state" "[I") (by decide +kernel)) (fun _ h9 => h9) rfl dX8_drop_49 ?_
          refine lv_bipush (v := 11) hx hb dX8_drop_52 (by decide) ?_
          refine lv_dup2_11 hx hb dX8_drop_54 rfl rfl ?_
          refine va_iald (D := (dC, dI)) hx hb hK hP 1 0 rfl rfl (show vp_in 11 72 from vp_in_nI (n := 11) (N := 72) (by decide) (by decide)) dX8_drop_55 ?_
          refine lv_topi (fun x_7 ex_7 => ?_)
          have ex_7 : x_7 = fs2 11 := ex_7
          obtain rfl : (nI zz) = x_7 := (ex_7.trans (h2b)).symm
          refine lv_iconst (v := 1) hx hb dX8_drop_56 (by decide) ?_
          refine lv_isub hx hb dX8_drop_57 ?_
          refine lv_topi (fun x_8 ex_8 => ?_)
          obtain rfl : (nI (zz - 1)) = x_8 := (ex_8.trans (nb_sub (a := zz) (b := 1) (by omega))).symm
          refine va_iast (D := (dC, dI)) hx hb hK hP hD hS 1 0 rfl rfl (show vp_in 11 72 from vp_in_nI (n := 11) (N := 72) (by decide) (by decide)) dX8_drop_58 (fun H locs hP hD hS => ?_)
          obtain ⟨g_9, eg_9⟩ : ∃ y : Nat → Int32, y = upd fs2 (Int32.toNatClampNeg 11) (nI (zz - 1)) := ⟨_, rfl⟩
          have hP : va_P (dC, dI) vwCl [(m0, .inr (6, [.ref st, .ref im, .ref kq, .ref pw, .ref nx, .ref li, .int d6, .ref il, .ref mv, .ref so, .ref la, .int d11, .int d12, .ref co])), (st, .inl (cyI, 72, .inl g_9))] H := by rw [eg_9]; exact hP
          have hD : va_D A [(m0, .inr (6, [.ref st, .ref im, .ref kq, .ref pw, .ref nx, .ref li, .int d6, .ref il, .ref mv, .ref so, .ref la, .int d11, .int d12, .ref co])), (st, .inl (cyI, 72, .inl g_9))] := by rw [eg_9]; exact hD
          have eg_9 : g_9 = upd fs2 11 (nI (zz - 1)) := eg_9
          refine lv_aload_n hx hb dX8_drop_59 rfl (lv_at hl 0 rfl) ?_
          refine va_get (D := (dC, dI)) (ci := 6) (v := .ref st) (C := RX8) (T := TX8) (N := 14) hx hb hts hnX8_drop_X8 hown hK hP 0 rfl rfl 0 (by decide) (hts (.fieldLink RX8 7 "RingMeetsModel" "state" "[I") (by decide +kernel)) (fun _ h9 => h9) rfl dX8_drop_60 ?_
          refine lv_bipush (v := 11) hx hb dX8_drop_63 (by decide) ?_
          refine va_iald (D := (dC, dI)) hx hb hK hP 1 0 rfl rfl (show vp_in 11 72 from vp_in_nI (n := 11) (N := 72) (by decide) (by decide)) dX8_drop_65 ?_
          refine lv_topi (fun x_10 ex_10 => ?_)
          have ex_10 : x_10 = g_9 11 := ex_10
          obtain rfl : (nI (zz - 1)) = x_10 := (ex_10.trans (by rw [eg_9]; rfl)).symm
          exact W.iret (v := (nI (zz - 1))) hx hb hr (fun t ht hW => ⟨⟨(nI (zz - 1)), g_9, rfl, mn_I_11 h2a (by omega) eg_9, ⟨by rw [ht]; exact hP.sub (ws' := [(m0, .inr (6, [.ref st, .ref im, .ref kq, .ref pw, .ref nx, .ref li, .int d6, .ref il, .ref mv, .ref so, .ref la, .int d11, .int d12, .ref co])), (st, .inl (cyI, 72, .inl g_9))]) [0, 1] rfl, hD.sub (ws' := [(m0, .inr (6, [.ref st, .ref im, .ref kq, .ref pw, .ref nx, .ref li, .int d6, .ref il, .ref mv, .ref so, .ref la, .int d11, .int d12, .ref co])), (st, .inl (cyI, 72, .inl g_9))]) [0, 1] (by decide) rfl⟩⟩, hS.F ht⟩) hS.2.2 dX8_drop_66
        · skip
          have ic_6 := ci_nle (show Int32.toInt 72 = 72 by decide) (nI_toInt (n := (k + 6)) (by omega)) c_6
          refine lv_aload_n hx hb dX8_drop_27 rfl (lv_at hl 0 rfl) ?_
          refine va_get (D := (dC, dI)) (ci := 6) (v := .ref st) (C := RX8) (T := TX8) (N := 14) hx hb hts hnX8_drop_X8 hown hK hP 0 rfl rfl 0 (by decide) (hts (.fieldLink RX8 7 "RingMeetsModel" "state" "[I") (by decide +kernel)) (fun _ h9 => h9) rfl dX8_drop_28 ?_
          refine lv_iload_n hx hb dX8_drop_31 rfl (lv_at hl 1 rfl) ?_
          refine lv_aload_n hx hb dX8_drop_32 rfl (lv_at hl 0 rfl) ?_
          refine va_get (D := (dC, dI)) (ci := 6) (v := .ref st) (C := RX8) (T := TX8) (N := 14) hx hb hts hnX8_drop_X8 hown hK hP 0 rfl rfl 0 (by decide) (hts (.fieldLink RX8 7 "RingMeetsModel" "state" "[I") (by decide +kernel)) (fun _ h9 => h9) rfl dX8_drop_33 ?_
          refine lv_iload_n hx hb dX8_drop_36 rfl (lv_at hl 1 rfl) ?_
          refine lv_bipush (v := 6) hx hb dX8_drop_37 (by decide) ?_
          refine lv_iadd hx hb dX8_drop_39 ?_
          refine lv_topi (fun x_11 ex_11 => ?_)
          obtain rfl : (nI (k + 6)) = x_11 := (ex_11.trans (nI_add _ 6)).symm
          refine va_iald (D := (dC, dI)) hx hb hK hP 1 0 rfl rfl (vp_in_nI (n := (k + 6)) (N := 72) (by omega) (by omega)) dX8_drop_40 ?_
          refine lv_topi (fun x_12 ex_12 => ?_)
          rw [nI_clamp (n := (k + 6)) (by omega)] at ex_12
          refine va_iast (D := (dC, dI)) hx hb hK hP hD hS 1 0 rfl rfl (vp_in_nI (n := k) (N := 72) (by omega) (by omega)) dX8_drop_41 (fun H locs hP hD hS => ?_)
          obtain ⟨g_13, eg_13⟩ : ∃ y : Nat → Int32, y = upd fs2 (Int32.toNatClampNeg (nI k)) x_12 := ⟨_, rfl⟩
          have hP : va_P (dC, dI) vwCl [(m0, .inr (6, [.ref st, .ref im, .ref kq, .ref pw, .ref nx, .ref li, .int d6, .ref il, .ref mv, .ref so, .ref la, .int d11, .int d12, .ref co])), (st, .inl (cyI, 72, .inl g_13))] H := by rw [eg_13]; exact hP
          have hD : va_D A [(m0, .inr (6, [.ref st, .ref im, .ref kq, .ref pw, .ref nx, .ref li, .int d6, .ref il, .ref mv, .ref so, .ref la, .int d11, .int d12, .ref co])), (st, .inl (cyI, 72, .inl g_13))] := by rw [eg_13]; exact hD
          rw [nI_clamp (n := k) (by omega)] at eg_13
          refine lv_iinc (v := (nI (k + 1))) (lv' := [(2, .int (nI (k + 1))), (0, .ref m0)]) hx hb dX8_drop_42 hl (k := 1) rfl (nI_1 _) (by decide) rfl (fun ls hl => ?_)
          refine lv_goto (tgt := 18) hx hb dX8_drop_45 (by decide) ?_
          exact ih18 (k + 1) g_13 ⟨by omega, by omega⟩ (by omega) (mn_I_upd h2a (by omega) eg_13) (mn_u11 eg_13 (by omega) h2b) _ _ (hP.sub [0, 1] rfl) (hD.sub [0, 1] (by decide) rfl) hS _ (lv_sub hl [1, 0] rfl)
    exact L18 (66 + 1) (12 + 6 * j9) fs ⟨by omega, by omega⟩ (by omega) hI hzf _ _ (hP.sub [0, 1] rfl) (hD.sub [0, 1] (by decide) rfl) hS _ (lv_sub hl [1, 0] rfl)
  · skip
    have ic_2 := ci_eq (rfl : Int32.toInt r_1 = _) (show Int32.toInt 0 = 0 by decide) c_2
    refine lv_iconst (v := (-1)) hx hb dX8_drop_8 (by decide) ?_
    exact W.iret (v := (-1)) hx hb hr (fun t ht hW => ⟨⟨(-1), fs, rfl, ⟨n, wq, zz, hn3, hn, h0f, hwk, hws, hzf, hz10⟩, ⟨by rw [ht]; exact hP.sub (ws' := [(m0, .inr (6, [.ref st, .ref im, .ref kq, .ref pw, .ref nx, .ref li, .int d6, .ref il, .ref mv, .ref so, .ref la, .int d11, .int d12, .ref co])), (st, .inl (cyI, 72, .inl fs))]) [0, 1] rfl, hD.sub (ws' := [(m0, .inr (6, [.ref st, .ref im, .ref kq, .ref pw, .ref nx, .ref li, .int d6, .ref il, .ref mv, .ref so, .ref la, .int d11, .int d12, .ref co])), (st, .inl (cyI, 72, .inl fs))]) [0, 1] (by decide) rfl⟩⟩, hS.F ht⟩) hS.2.2 dX8_drop_9

theorem hnX8_image_X8 : ∀ w ∈ wsX80, w ∈ wsX8_image := fun _ h => List.mem_cons_of_mem _ (List.mem_append_right _ h)
set_option maxHeartbeats 4000000 in
set_option maxRecDepth 100000 in
theorem mX8_image (l : Launch) (dC : Nat → ClassId) (dI : Nat → Nat → Nat) (cyI cyZ : ClassId) (m0 : Nat) (st : Nat) (im : Nat) (kq : Nat) (pw : Nat) (nx : Nat) (li : Nat) (il : Nat) (mv : Nat) (so : Nat) (la : Nat) (co : Nat) (d6 : Int32) (d11 : Int32) (d12 : Int32) (n : Nat) (fs : Nat → Int32) (wq : Nat → Nat) (zz : Nat) (fi : Nat → Int32) (fk : Nat → Int32) (p1 : Int32) (hn3 : 3 ≤ n) (hn : n ≤ 10) (h0f : fs 0 = nI n) (hwk : ∀ j, j < 10 → fs (1 + j) = nI (wq j)) (hws : mn_sum wq 10 ≤ 5) (hzf : fs 11 = nI zz) (hz10 : zz ≤ 10) (hJ : mn_J fi fk) (sz : Nat) : Met l yX8_image wsX8_image ({ frames := 1, cells := 0, slots := 0, locals := 22 }) (bs_W dC dI cyI cyZ [.ref m0, .int p1] [(m0, .inr (6, [.ref st, .ref im, .ref kq, .ref pw, .ref nx, .ref li, .int d6, .ref il, .ref mv, .ref so, .ref la, .int d11, .int d12, .ref co])), (st, .inl (cyI, 72, .inl fs)), (im, .inl (cyI, 144, .inl fi)), (kq, .inl (cyZ, 2, .inl fk))] sz) (va_Qi (S := (Nat → Int32) × (Nat → Int32)) (fun (r : Int32) (q : (Nat → Int32) × (Nat → Int32)) => mn_J q.1 q.2 ∧ r = (if 0 ≤ p1.toInt ∧ p1.toInt ≤ 1 then 1 else -2)) (fun q t => bs_E dC dI (va_A [(m0, .inr (6, [.ref st, .ref im, .ref kq, .ref pw, .ref nx, .ref li, .int d6, .ref il, .ref mv, .ref so, .ref la, .int d11, .int d12, .ref co])), (st, .inl (cyI, 72, .inl fs)), (im, .inl (cyI, 144, .inl fi)), (kq, .inl (cyZ, 2, .inl fk))] sz) [(m0, .inr (6, [.ref st, .ref im, .ref kq, .ref pw, .ref nx, .ref li, .int d6, .ref il, .ref mv, .ref so, .ref la, .int d11, .int d12, .ref co])), (st, .inl (cyI, 72, .inl fs)), (im, .inl (cyI, 144, .inl q.1)), (kq, .inl (cyZ, 2, .inl q.2))] t) (va_A [(m0, .inr (6, [.ref st, .ref im, .ref kq, .ref pw, .ref nx, .ref li, .int d6, .ref il, .ref mv, .ref so, .ref la, .int d11, .int d12, .ref co])), (st, .inl (cyI, 72, .inl fs)), (im, .inl (cyI, 144, .inl fi)), (kq, .inl (cyZ, 2, .inl fk))] sz)) 0 0 (va_A [(m0, .inr (6, [.ref st, .ref im, .ref kq, .ref pw, .ref nx, .ref li, .int d6, .ref il, .ref mv, .ref so, .ref la, .int d11, .int d12, .ref co])), (st, .inl (cyI, 72, .inl fs)), (im, .inl (cyI, 144, .inl fi)), (kq, .inl (cyZ, 2, .inl fk))] sz) := by
  refine Met.ofW (cc := cX8_image) (maxL := 3) (ret := (some .int)) (by decide) rfl ?_
  intro p e s m args below meth c s₁ B hml hv
  obtain ⟨rfl, hsz, hB, hP, hD0⟩ := hv
  have hK := hB.1
  have hN := hB.2
  have hx := B.exec
  have hb := B.bytes
  have hr := B.returns
  have hts := atoms_spec (ws := wsX8_image) B.pre
  have hown : s.vm.findClass RX8 = some m.cls := findClass_of_methodNamed B.named
  have hlocks := B.notSynchronized
  subst hsz
  have hD := hD0.self (sz := s.heap.size)
  generalize hAe : va_A [(m0, .inr (6, [.ref st, .ref im, .ref kq, .ref pw, .ref nx, .ref li, .int d6, .ref il, .ref mv, .ref so, .ref la, .int d11, .int d12, .ref co])), (st, .inl (cyI, 72, .inl fs)), (im, .inl (cyI, 144, .inl fi)), (kq, .inl (cyZ, 2, .inl fk))] s.heap.size = A at hD ⊢
  have hA : ∀ q : Nat, s.heap.size ≤ q → A q := fun q h => by rw [← hAe]; exact Or.inr h
  have hS : va_S A s.heap s.heap [] := va_S.rf
  have hP : va_P (dC, dI) vwCl [(m0, .inr (6, [.ref st, .ref im, .ref kq, .ref pw, .ref nx, .ref li, .int d6, .ref il, .ref mv, .ref so, .ref la, .int d11, .int d12, .ref co])), (st, .inl (cyI, 72, .inl fs)), (im, .inl (cyI, 144, .inl fi)), (kq, .inl (cyZ, 2, .inl fk))] s.heap := hP
  have hl := lv_entry ([.ref m0, .int p1]) (n := 3) (Nat.le_of_ble_eq_true rfl)
  rw [lg_entry_eq]
  generalize (lg_sl ([.ref m0, .int p1]) ++ List.replicate (3 - (lg_sl ([.ref m0, .int p1])).length) Slot.unset).toArray = ls at hl ⊢
  have hl : lv_has ls 3 [(0, .ref m0), (1, .int p1)] := hl
  have hI : mn_I fs := ⟨n, wq, zz, hn3, hn, h0f, hwk, hws, hzf, hz10⟩
  refine lv_iload_n hx hb dX8_image_0 rfl (lv_at hl 1 rfl) ?_
  refine lv_iconst (v := 0) hx hb dX8_image_1 (by decide) ?_
  refine lv_iconst (v := 1) hx hb dX8_image_2 (by decide) ?_
  refine vp_callSi (va_Run.run (va_runS (As := [.int p1, .int 0, .int 1]) (rest := []) ⟨hx, hb, hml, hown, hts⟩ (mX8_in l dC dI cyI cyZ p1 0 1 0 1 (by decide) (by decide)) (va_cwS 3 hts gX8_image_X8_in rfl rfl rfl (by decide +kernel) ⟨Nat.le_of_ble_eq_true rfl, Nat.le_of_ble_eq_true rfl⟩) (bs_RS hB (hP.sub (ws' := []) [] rfl)) rfl rfl hl.1 rfl (lv_room (Nat.le_of_ble_eq_true rfl)) dX8_image_3 ⟨Nat.le_of_ble_eq_true rfl, Nat.le_of_ble_eq_true rfl⟩)) (fun r_1 hr_1 => ?_)
  refine lv_if_ne (tgt := 12) hx hb dX8_image_6 (by decide) (fun c_2 => ?_) (fun c_2 => ?_)
  · skip
    have ic_2 := ci_ne (rfl : Int32.toInt r_1 = _) (show Int32.toInt 0 = 0 by decide) c_2
    have hs9 := hr_1.2.1 (hr_1.1.resolve_left c_2)
    have hs1 : 0 ≤ p1.toInt ∧ p1.toInt ≤ 1 := ⟨by omega, by omega⟩
    obtain ⟨a9, ha99, ea99⟩ := nb_of (x := p1) (n := 1) (by omega) (by omega) (by decide)
    subst ea99
    refine lv_iconst (v := 0) hx hb dX8_image_12 (by decide) ?_
    refine lv_istore_n (lv' := [(2, .int 0), (0, .ref m0), (1, .int (nI a9))]) hx hb dX8_image_13 rfl hl (by decide) rfl (fun ls hl => ?_)
    have L14 : ∀ (n14 : Nat), ∀ (k : Nat) (fi2 : Nat → Int32), (0 ≤ k ∧ k ≤ 72) → (72 + 1 ≤ k + n14) → (∀ j, fi2 j = if 72 * a9 ≤ j ∧ j < 72 * a9 + k then fs (j - 72 * a9) else fi j) → ∀ (H : Heap) (locs : List Loc), va_P (dC, dI) vwCl [(m0, .inr (6, [.ref st, .ref im, .ref kq, .ref pw, .ref nx, .ref li, .int d6, .ref il, .ref mv, .ref so, .ref la, .int d11, .int d12, .ref co])), (st, .inl (cyI, 72, .inl fs)), (im, .inl (cyI, 144, .inl fi2)), (kq, .inl (cyZ, 2, .inl fk))] H → va_D A [(m0, .inr (6, [.ref st, .ref im, .ref kq, .ref pw, .ref nx, .ref li, .int d6, .ref il, .ref mv, .ref so, .ref la, .int d11, .int d12, .ref co])), (st, .inl (cyI, 72, .inl fs)), (im, .inl (cyI, 144, .inl fi2)), (kq, .inl (cyZ, 2, .inl fk))] → va_S A s.heap H locs → ∀ (ls : Array Slot), lv_has ls 3 [(0, .ref m0), (1, .int (nI a9)), (2, .int (nI k))] → W p l e (headSpec wsX8_image ({ frames := 1, cells := 0, slots := 0, locals := 22 })).room s m ([.ref m0, .int (nI a9)] : List Value).toArray below meth c H locs 0 0 (MQ below (va_Qi (S := (Nat → Int32) × (Nat → Int32)) (fun (r : Int32) (q : (Nat → Int32) × (Nat → Int32)) => mn_J q.1 q.2 ∧ r = (if 0 ≤ (nI a9).toInt ∧ (nI a9).toInt ≤ 1 then 1 else -2)) (fun q t => bs_E dC dI A [(m0, .inr (6, [.ref st, .ref im, .ref kq, .ref pw, .ref nx, .ref li, .int d6, .ref il, .ref mv, .ref so, .ref la, .int d11, .int d12, .ref co])), (st, .inl (cyI, 72, .inl fs)), (im, .inl (cyI, 144, .inl q.1)), (kq, .inl (cyZ, 2, .inl q.2))] t) A) ([.ref m0, .int (nI a9)] : List Value).toArray s 0 0 A) (F0 m 14 ls []) := by
      intro n14
      induction n14 with
      | zero =>
        intro k fi2 hk14 hn14 h2a H locs hP hD hS ls hl
        exfalso
        omega
      | succ n14 ih14 =>
        intro k fi2 hk14 hn14 h2a H locs hP hD hS ls hl
        refine lv_iload_n hx hb dX8_image_14 rfl (lv_at hl 2 rfl) ?_
        refine lv_bipush (v := 72) hx hb dX8_image_15 (by decide) ?_
        refine lv_icmp_ge (tgt := 43) hx hb dX8_image_17 (by decide) (fun c_3 => ?_) (fun c_3 => ?_)
        · skip
          have ic_3 := ci_le (show Int32.toInt 72 = 72 by decide) (nI_toInt (n := k) (by omega)) c_3
          refine lv_aload_n hx hb dX8_image_43 rfl (lv_at hl 0 rfl) ?_
          refine va_get (D := (dC, dI)) (ci := 6) (v := .ref kq) (C := RX8) (T := TX8) (N := 14) hx hb hts hnX8_image_X8 hown hK hP 0 rfl rfl 2 (by decide) (hts (.fieldLink RX8 16 "RingMeetsModel" "isKept" "[Z") (by decide +kernel)) (fun _ h9 => h9) rfl dX8_image_44 ?_
          refine lv_iload_n hx hb dX8_image_47 rfl (lv_at hl 1 rfl) ?_
          refine lv_iconst (v := 1) hx hb dX8_image_48 (by decide) ?_
          refine va_zast (D := (dC, dI)) hx hb hK hP hD hS 3 1 rfl rfl (vp_in_nI (n := a9) (N := 2) (by omega) (by omega)) dX8_image_49 (fun H locs hP hD hS => ?_)
          obtain ⟨g_4, eg_4⟩ : ∃ y : Nat → Int32, y = upd fk (Int32.toNatClampNeg (nI a9)) (vp_nar .boolean 1) := ⟨_, rfl⟩
          have hP : va_P (dC, dI) vwCl [(m0, .inr (6, [.ref st, .ref im, .ref kq, .ref pw, .ref nx, .ref li, .int d6, .ref il, .ref mv, .ref so, .ref la, .int d11, .int d12, .ref co])), (st, .inl (cyI, 72, .inl fs)), (im, .inl (cyI, 144, .inl fi2)), (kq, .inl (cyZ, 2, .inl g_4))] H := by rw [eg_4]; exact hP
          have hD : va_D A [(m0, .inr (6, [.ref st, .ref im, .ref kq, .ref pw, .ref nx, .ref li, .int d6, .ref il, .ref mv, .ref so, .ref la, .int d11, .int d12, .ref co])), (st, .inl (cyI, 72, .inl fs)), (im, .inl (cyI, 144, .inl fi2)), (kq, .inl (cyZ, 2, .inl g_4))] := by rw [eg_4]; exact hD
          rw [nI_clamp (n := a9) (by omega)] at eg_4
          have eg_4 : g_4 = upd fk a9 1 := eg_4
          refine lv_iconst (v := 1) hx hb dX8_image_50 (by decide) ?_
          exact W.iret (v := 1) hx hb hr (fun t ht hW => ⟨⟨1, (fi2, g_4), rfl, ⟨mn_J_im hJ hI (by have h9 := h2a; rw [show k = 72 by omega] at h9; exact h9) eg_4, by rw [if_pos hs1]⟩, ⟨by rw [ht]; exact hP.sub (ws' := [(m0, .inr (6, [.ref st, .ref im, .ref kq, .ref pw, .ref nx, .ref li, .int d6, .ref il, .ref mv, .ref so, .ref la, .int d11, .int d12, .ref co])), (st, .inl (cyI, 72, .inl fs)), (im, .inl (cyI, 144, .inl fi2)), (kq, .inl (cyZ, 2, .inl g_4))]) [0, 1, 2, 3] rfl, hD.sub (ws' := [(m0, .inr (6, [.ref st, .ref im, .ref kq, .ref pw, .ref nx, .ref li, .int d6, .ref il, .ref mv, .ref so, .ref la, .int d11, .int d12, .ref co])), (st, .inl (cyI, 72, .inl fs)), (im, .inl (cyI, 144, .inl fi2)), (kq, .inl (cyZ, 2, .inl g_4))]) [0, 1, 2, 3] (by decide) rfl⟩⟩, hS.F ht⟩) hS.2.2 dX8_image_51
        · skip
          have ic_3 := ci_nle (show Int32.toInt 72 = 72 by decide) (nI_toInt (n := k) (by omega)) c_3
          refine lv_aload_n hx hb dX8_image_20 rfl (lv_at hl 0 rfl) ?_
          refine va_get (D := (dC, dI)) (ci := 6) (v := .ref im) (C := RX8) (T := TX8) (N := 14) hx hb hts hnX8_image_X8 hown hK hP 0 rfl rfl 1 (by decide) (hts (.fieldLink RX8 13 "RingMeetsModel" "images" "[I") (by decide +kernel)) (fun _ h9 => h9) rfl dX8_image_21 ?_
          refine lv_bipush (v := 72) hx hb dX8_image_24 (by decide) ?_
          refine lv_iload_n hx hb dX8_image_26 rfl (lv_at hl 1 rfl) ?_
          refine lv_imul hx hb dX8_image_27 ?_
          refine lv_topi (fun x_5 ex_5 => ?_)
          obtain rfl : (nI (72 * a9)) = x_5 := (ex_5.trans (nb_mul 72 _)).symm
          refine lv_iload_n hx hb dX8_image_28 rfl (lv_at hl 2 rfl) ?_
          refine lv_iadd hx hb dX8_image_29 ?_
          refine lv_topi (fun x_6 ex_6 => ?_)
          obtain rfl : (nI ((72 * a9) + k)) = x_6 := (ex_6.trans (nI_add _ _)).symm
          refine lv_aload_n hx hb dX8_image_30 rfl (lv_at hl 0 rfl) ?_
          refine va_get (D := (dC, dI)) (ci := 6) (v := .ref st) (C := RX8) (T := TX8) (N := 14) hx hb hts hnX8_image_X8 hown hK hP 0 rfl rfl 0 (by decide) (hts (.fieldLink RX8 7 "RingMeetsModel" "state" "[I") (by decide +kernel)) (fun _ h9 => h9) rfl dX8_image_31 ?_
          refine lv_iload_n hx hb dX8_image_34 rfl (lv_at hl 2 rfl) ?_
          refine va_iald (D := (dC, dI)) hx hb hK hP 1 0 rfl rfl (vp_in_nI (n := k) (N := 72) (by omega) (by omega)) dX8_image_35 ?_
          refine lv_topi (fun x_7 ex_7 => ?_)
          rw [nI_clamp (n := k) (by omega)] at ex_7
          refine va_iast (D := (dC, dI)) hx hb hK hP hD hS 2 0 rfl rfl (vp_in_nI (n := ((72 * a9) + k)) (N := 144) (by omega) (by omega)) dX8_image_36 (fun H locs hP hD hS => ?_)
          obtain ⟨g_8, eg_8⟩ : ∃ y : Nat → Int32, y = upd fi2 (Int32.toNatClampNeg (nI ((72 * a9) + k))) x_7 := ⟨_, rfl⟩
          have hP : va_P (dC, dI) vwCl [(m0, .inr (6, [.ref st, .ref im, .ref kq, .ref pw, .ref nx, .ref li, .int d6, .ref il, .ref mv, .ref so, .ref la, .int d11, .int d12, .ref co])), (st, .inl (cyI, 72, .inl fs)), (im, .inl (cyI, 144, .inl g_8)), (kq, .inl (cyZ, 2, .inl fk))] H := by rw [eg_8]; exact hP
          have hD : va_D A [(m0, .inr (6, [.ref st, .ref im, .ref kq, .ref pw, .ref nx, .ref li, .int d6, .ref il, .ref mv, .ref so, .ref la, .int d11, .int d12, .ref co])), (st, .inl (cyI, 72, .inl fs)), (im, .inl (cyI, 144, .inl g_8)), (kq, .inl (cyZ, 2, .inl fk))] := by rw [eg_8]; exact hD
          rw [nI_clamp (n := ((72 * a9) + k)) (by omega)] at eg_8
          refine lv_iinc (v := (nI (k + 1))) (lv' := [(2, .int (nI (k + 1))), (0, .ref m0), (1, .int (nI a9))]) hx hb dX8_image_37 hl (k := 2) rfl (nI_1 _) (by decide) rfl (fun ls hl => ?_)
          refine lv_goto (tgt := 14) hx hb dX8_image_40 (by decide) ?_
          exact ih14 (k + 1) g_8 ⟨by omega, by omega⟩ (by omega) (mn_cp h2a eg_8 ex_7) _ _ (hP.sub [0, 1, 2, 3] rfl) (hD.sub [0, 1, 2, 3] (by decide) rfl) hS _ (lv_sub hl [1, 2, 0] rfl)
    exact L14 (72 + 1) 0 fi ⟨by omega, by omega⟩ (by omega) (fun j => by rw [if_neg (by omega)]) _ _ (hP.sub [0, 1, 2, 3] rfl) (hD.sub [0, 1, 2, 3] (by decide) rfl) hS _ (lv_sub hl [1, 2, 0] rfl)
  · skip
    have ic_2 := ci_eq (rfl : Int32.toInt r_1 = _) (show Int32.toInt 0 = 0 by decide) c_2
    have hs0 := hr_1.2.2 c_2
    refine lv_bipush (v := (-2)) hx hb dX8_image_9 (by decide) ?_
    exact W.iret (v := (-2)) hx hb hr (fun t ht hW => ⟨⟨(-2), (fi, fk), rfl, ⟨hJ, by rw [if_neg (by omega)]⟩, ⟨by rw [ht]; exact hP.sub (ws' := [(m0, .inr (6, [.ref st, .ref im, .ref kq, .ref pw, .ref nx, .ref li, .int d6, .ref il, .ref mv, .ref so, .ref la, .int d11, .int d12, .ref co])), (st, .inl (cyI, 72, .inl fs)), (im, .inl (cyI, 144, .inl fi)), (kq, .inl (cyZ, 2, .inl fk))]) [0, 1, 2, 3] rfl, hD.sub (ws' := [(m0, .inr (6, [.ref st, .ref im, .ref kq, .ref pw, .ref nx, .ref li, .int d6, .ref il, .ref mv, .ref so, .ref la, .int d11, .int d12, .ref co])), (st, .inl (cyI, 72, .inl fs)), (im, .inl (cyI, 144, .inl fi)), (kq, .inl (cyZ, 2, .inl fk))]) [0, 1, 2, 3] (by decide) rfl⟩⟩, hS.F ht⟩) hS.2.2 dX8_image_11

theorem hnX8_restore_X8 : ∀ w ∈ wsX80, w ∈ wsX8_restore := fun _ h => List.mem_cons_of_mem _ (List.mem_append_right _ h)
set_option maxHeartbeats 4000000 in
set_option maxRecDepth 100000 in
theorem mX8_restore (l : Launch) (dC : Nat → ClassId) (dI : Nat → Nat → Nat) (cyI cyZ : ClassId) (m0 : Nat) (st : Nat) (im : Nat) (kq : Nat) (pw : Nat) (nx : Nat) (li : Nat) (il : Nat) (mv : Nat) (so : Nat) (la : Nat) (co : Nat) (d6 : Int32) (d11 : Int32) (d12 : Int32) (n : Nat) (fs : Nat → Int32) (wq : Nat → Nat) (zz : Nat) (fi : Nat → Int32) (fk : Nat → Int32) (p1 : Int32) (hn3 : 3 ≤ n) (hn : n ≤ 10) (h0f : fs 0 = nI n) (hwk : ∀ j, j < 10 → fs (1 + j) = nI (wq j)) (hws : mn_sum wq 10 ≤ 5) (hzf : fs 11 = nI zz) (hz10 : zz ≤ 10) (hJ : mn_J fi fk) (sz : Nat) : Met l yX8_restore wsX8_restore ({ frames := 1, cells := 0, slots := 0, locals := 22 }) (bs_W dC dI cyI cyZ [.ref m0, .int p1] [(m0, .inr (6, [.ref st, .ref im, .ref kq, .ref pw, .ref nx, .ref li, .int d6, .ref il, .ref mv, .ref so, .ref la, .int d11, .int d12, .ref co])), (st, .inl (cyI, 72, .inl fs)), (im, .inl (cyI, 144, .inl fi)), (kq, .inl (cyZ, 2, .inl fk))] sz) (va_Qi (S := (Nat → Int32)) (fun (r : Int32) (q : (Nat → Int32)) => mn_I q) (fun q t => bs_E dC dI (va_A [(m0, .inr (6, [.ref st, .ref im, .ref kq, .ref pw, .ref nx, .ref li, .int d6, .ref il, .ref mv, .ref so, .ref la, .int d11, .int d12, .ref co])), (st, .inl (cyI, 72, .inl fs)), (im, .inl (cyI, 144, .inl fi)), (kq, .inl (cyZ, 2, .inl fk))] sz) [(m0, .inr (6, [.ref st, .ref im, .ref kq, .ref pw, .ref nx, .ref li, .int d6, .ref il, .ref mv, .ref so, .ref la, .int d11, .int d12, .ref co])), (st, .inl (cyI, 72, .inl q)), (im, .inl (cyI, 144, .inl fi)), (kq, .inl (cyZ, 2, .inl fk))] t) (va_A [(m0, .inr (6, [.ref st, .ref im, .ref kq, .ref pw, .ref nx, .ref li, .int d6, .ref il, .ref mv, .ref so, .ref la, .int d11, .int d12, .ref co])), (st, .inl (cyI, 72, .inl fs)), (im, .inl (cyI, 144, .inl fi)), (kq, .inl (cyZ, 2, .inl fk))] sz)) 0 0 (va_A [(m0, .inr (6, [.ref st, .ref im, .ref kq, .ref pw, .ref nx, .ref li, .int d6, .ref il, .ref mv, .ref so, .ref la, .int d11, .int d12, .ref co])), (st, .inl (cyI, 72, .inl fs)), (im, .inl (cyI, 144, .inl fi)), (kq, .inl (cyZ, 2, .inl fk))] sz) := by
  refine Met.ofW (cc := cX8_restore) (maxL := 3) (ret := (some .int)) (by decide) rfl ?_
  intro p e s m args below meth c s₁ B hml hv
  obtain ⟨rfl, hsz, hB, hP, hD0⟩ := hv
  have hK := hB.1
  have hN := hB.2
  have hx := B.exec
  have hb := B.bytes
  have hr := B.returns
  have hts := atoms_spec (ws := wsX8_restore) B.pre
  have hown : s.vm.findClass RX8 = some m.cls := findClass_of_methodNamed B.named
  have hlocks := B.notSynchronized
  subst hsz
  have hD := hD0.self (sz := s.heap.size)
  generalize hAe : va_A [(m0, .inr (6, [.ref st, .ref im, .ref kq, .ref pw, .ref nx, .ref li, .int d6, .ref il, .ref mv, .ref so, .ref la, .int d11, .int d12, .ref co])), (st, .inl (cyI, 72, .inl fs)), (im, .inl (cyI, 144, .inl fi)), (kq, .inl (cyZ, 2, .inl fk))] s.heap.size = A at hD ⊢
  have hA : ∀ q : Nat, s.heap.size ≤ q → A q := fun q h => by rw [← hAe]; exact Or.inr h
  have hS : va_S A s.heap s.heap [] := va_S.rf
  have hP : va_P (dC, dI) vwCl [(m0, .inr (6, [.ref st, .ref im, .ref kq, .ref pw, .ref nx, .ref li, .int d6, .ref il, .ref mv, .ref so, .ref la, .int d11, .int d12, .ref co])), (st, .inl (cyI, 72, .inl fs)), (im, .inl (cyI, 144, .inl fi)), (kq, .inl (cyZ, 2, .inl fk))] s.heap := hP
  have hl := lv_entry ([.ref m0, .int p1]) (n := 3) (Nat.le_of_ble_eq_true rfl)
  rw [lg_entry_eq]
  generalize (lg_sl ([.ref m0, .int p1]) ++ List.replicate (3 - (lg_sl ([.ref m0, .int p1])).length) Slot.unset).toArray = ls at hl ⊢
  have hl : lv_has ls 3 [(0, .ref m0), (1, .int p1)] := hl
  have hI : mn_I fs := ⟨n, wq, zz, hn3, hn, h0f, hwk, hws, hzf, hz10⟩
  refine lv_iload_n hx hb dX8_restore_0 rfl (lv_at hl 1 rfl) ?_
  refine lv_iconst (v := 0) hx hb dX8_restore_1 (by decide) ?_
  refine lv_iconst (v := 1) hx hb dX8_restore_2 (by decide) ?_
  refine vp_callSi (va_Run.run (va_runS (As := [.int p1, .int 0, .int 1]) (rest := []) ⟨hx, hb, hml, hown, hts⟩ (mX8_in l dC dI cyI cyZ p1 0 1 0 1 (by decide) (by decide)) (va_cwS 3 hts gX8_restore_X8_in rfl rfl rfl (by decide +kernel) ⟨Nat.le_of_ble_eq_true rfl, Nat.le_of_ble_eq_true rfl⟩) (bs_RS hB (hP.sub (ws' := []) [] rfl)) rfl rfl hl.1 rfl (lv_room (Nat.le_of_ble_eq_true rfl)) dX8_restore_3 ⟨Nat.le_of_ble_eq_true rfl, Nat.le_of_ble_eq_true rfl⟩)) (fun r_1 hr_1 => ?_)
  refine lv_if_ne (tgt := 12) hx hb dX8_restore_6 (by decide) (fun c_2 => ?_) (fun c_2 => ?_)
  · skip
    have ic_2 := ci_ne (rfl : Int32.toInt r_1 = _) (show Int32.toInt 0 = 0 by decide) c_2
    have hs9 := hr_1.2.1 (hr_1.1.resolve_left c_2)
    obtain ⟨a9, ha99, ea99⟩ := nb_of (x := p1) (n := 1) (by omega) (by omega) (by decide)
    subst ea99
    refine lv_aload_n hx hb dX8_restore_12 rfl (lv_at hl 0 rfl) ?_
    refine va_get (D := (dC, dI)) (ci := 6) (v := .ref kq) (C := RX8) (T := TX8) (N := 14) hx hb hts hnX8_restore_X8 hown hK hP 0 rfl rfl 2 (by decide) (hts (.fieldLink RX8 16 "RingMeetsModel" "isKept" "[Z") (by decide +kernel)) (fun _ h9 => h9) rfl dX8_restore_13 ?_
    refine lv_iload_n hx hb dX8_restore_16 rfl (lv_at hl 1 rfl) ?_
    refine va_zald (D := (dC, dI)) hx hb hK hP 3 1 rfl rfl (vp_in_nI (n := a9) (N := 2) (by omega) (by omega)) dX8_restore_17 ?_
    refine lv_topi (fun x_3 ex_3 => ?_)
    rw [nI_clamp (n := a9) (by omega)] at ex_3
    refine lv_if_ne (tgt := 24) hx hb dX8_restore_18 (by decide) (fun c_4 => ?_) (fun c_4 => ?_)
    · skip
      have ic_4 := ci_ne (rfl : Int32.toInt x_3 = _) (show Int32.toInt 0 = 0 by decide) c_4
      have hIk := hJ a9 (by omega) (by rw [← ex_3]; exact c_4)
      refine lv_iconst (v := 0) hx hb dX8_restore_24 (by decide) ?_
      refine lv_istore_n (lv' := [(2, .int 0), (0, .ref m0), (1, .int (nI a9))]) hx hb dX8_restore_25 rfl hl (by decide) rfl (fun ls hl => ?_)
      have L26 : ∀ (n26 : Nat), ∀ (k : Nat) (fs2 : Nat → Int32), (0 ≤ k ∧ k ≤ 72) → (72 + 1 ≤ k + n26) → (∀ j, fs2 j = if 0 ≤ j ∧ j < 0 + k then (fun i => fi (72 * a9 + i)) (j - 0) else fs j) → ∀ (H : Heap) (locs : List Loc), va_P (dC, dI) vwCl [(m0, .inr (6, [.ref st, .ref im, .ref kq, .ref pw, .ref nx, .ref li, .int d6, .ref il, .ref mv, .ref so, .ref la, .int d11, .int d12, .ref co])), (st, .inl (cyI, 72, .inl fs2)), (im, .inl (cyI, 144, .inl fi)), (kq, .inl (cyZ, 2, .inl fk))] H → va_D A [(m0, .inr (6, [.ref st, .ref im, .ref kq, .ref pw, .ref nx, .ref li, .int d6, .ref il, .ref mv, .ref so, .ref la, .int d11, .int d12, .ref co])), (st, .inl (cyI, 72, .inl fs2)), (im, .inl (cyI, 144, .inl fi)), (kq, .inl (cyZ, 2, .inl fk))] → va_S A s.heap H locs → ∀ (ls : Array Slot), lv_has ls 3 [(0, .ref m0), (1, .int (nI a9)), (2, .int (nI k))] → W p l e (headSpec wsX8_restore ({ frames := 1, cells := 0, slots := 0, locals := 22 })).room s m ([.ref m0, .int (nI a9)] : List Value).toArray below meth c H locs 0 0 (MQ below (va_Qi (S := (Nat → Int32)) (fun (r : Int32) (q : (Nat → Int32)) => mn_I q) (fun q t => bs_E dC dI A [(m0, .inr (6, [.ref st, .ref im, .ref kq, .ref pw, .ref nx, .ref li, .int d6, .ref il, .ref mv, .ref so, .ref la, .int d11, .int d12, .ref co])), (st, .inl (cyI, 72, .inl q)), (im, .inl (cyI, 144, .inl fi)), (kq, .inl (cyZ, 2, .inl fk))] t) A) ([.ref m0, .int (nI a9)] : List Value).toArray s 0 0 A) (F0 m 26 ls []) := by
        intro n26
        induction n26 with
        | zero =>
          intro k fs2 hk26 hn26 h2a H locs hP hD hS ls hl
          exfalso
          omega
        | succ n26 ih26 =>
          intro k fs2 hk26 hn26 h2a H locs hP hD hS ls hl
          refine lv_iload_n hx hb dX8_restore_26 rfl (lv_at hl 2 rfl) ?_
          refine lv_bipush (v := 72) hx hb dX8_restore_27 (by decide) ?_
          refine lv_icmp_ge (tgt := 55) hx hb dX8_restore_29 (by decide) (fun c_5 => ?_) (fun c_5 => ?_)
          · skip
            have ic_5 := ci_le (show Int32.toInt 72 = 72 by decide) (nI_toInt (n := k) (by omega)) c_5
            refine lv_iconst (v := 1) hx hb dX8_restore_55 (by decide) ?_
            exact W.iret (v := 1) hx hb hr (fun t ht hW => ⟨⟨1, fs2, rfl, mn_I_c hIk (fun i hi => by rw [h2a i, if_pos (by omega)]; rfl), ⟨by rw [ht]; exact hP.sub (ws' := [(m0, .inr (6, [.ref st, .ref im, .ref kq, .ref pw, .ref nx, .ref li, .int d6, .ref il, .ref mv, .ref so, .ref la, .int d11, .int d12, .ref co])), (st, .inl (cyI, 72, .inl fs2)), (im, .inl (cyI, 144, .inl fi)), (kq, .inl (cyZ, 2, .inl fk))]) [0, 1, 2, 3] rfl, hD.sub (ws' := [(m0, .inr (6, [.ref st, .ref im, .ref kq, .ref pw, .ref nx, .ref li, .int d6, .ref il, .ref mv, .ref so, .ref la, .int d11, .int d12, .ref co])), (st, .inl (cyI, 72, .inl fs2)), (im, .inl (cyI, 144, .inl fi)), (kq, .inl (cyZ, 2, .inl fk))]) [0, 1, 2, 3] (by decide) rfl⟩⟩, hS.F ht⟩) hS.2.2 dX8_restore_56
          · skip
            have ic_5 := ci_nle (show Int32.toInt 72 = 72 by decide) (nI_toInt (n := k) (by omega)) c_5
            refine lv_aload_n hx hb dX8_restore_32 rfl (lv_at hl 0 rfl) ?_
            refine va_get (D := (dC, dI)) (ci := 6) (v := .ref st) (C := RX8) (T := TX8) (N := 14) hx hb hts hnX8_restore_X8 hown hK hP 0 rfl rfl 0 (by decide) (hts (.fieldLink RX8 7 "RingMeetsModel" "state" "[I") (by decide +kernel)) (fun _ h9 => h9) rfl dX8_restore_33 ?_
            refine lv_iload_n hx hb dX8_restore_36 rfl (lv_at hl 2 rfl) ?_
            refine lv_aload_n hx hb dX8_restore_37 rfl (lv_at hl 0 rfl) ?_
            refine va_get (D := (dC, dI)) (ci := 6) (v := .ref im) (C := RX8) (T := TX8) (N := 14) hx hb hts hnX8_restore_X8 hown hK hP 0 rfl rfl 1 (by decide) (hts (.fieldLink RX8 13 "RingMeetsModel" "images" "[I") (by decide +kernel)) (fun _ h9 => h9) rfl dX8_restore_38 ?_
            refine lv_bipush (v := 72) hx hb dX8_restore_41 (by decide) ?_
            refine lv_iload_n hx hb dX8_restore_43 rfl (lv_at hl 1 rfl) ?_
            refine lv_imul hx hb dX8_restore_44 ?_
            refine lv_topi (fun x_6 ex_6 => ?_)
            obtain rfl : (nI (72 * a9)) = x_6 := (ex_6.trans (nb_mul 72 _)).symm
            refine lv_iload_n hx hb dX8_restore_45 rfl (lv_at hl 2 rfl) ?_
            refine lv_iadd hx hb dX8_restore_46 ?_
            refine lv_topi (fun x_7 ex_7 => ?_)
            obtain rfl : (nI ((72 * a9) + k)) = x_7 := (ex_7.trans (nI_add _ _)).symm
            refine va_iald (D := (dC, dI)) hx hb hK hP 2 0 rfl rfl (vp_in_nI (n := ((72 * a9) + k)) (N := 144) (by omega) (by omega)) dX8_restore_47 ?_
            refine lv_topi (fun x_8 ex_8 => ?_)
            rw [nI_clamp (n := ((72 * a9) + k)) (by omega)] at ex_8
            refine va_iast (D := (dC, dI)) hx hb hK hP hD hS 1 0 rfl rfl (vp_in_nI (n := k) (N := 72) (by omega) (by omega)) dX8_restore_48 (fun H locs hP hD hS => ?_)
            obtain ⟨g_9, eg_9⟩ : ∃ y : Nat → Int32, y = upd fs2 (Int32.toNatClampNeg (nI k)) x_8 := ⟨_, rfl⟩
            have hP : va_P (dC, dI) vwCl [(m0, .inr (6, [.ref st, .ref im, .ref kq, .ref pw, .ref nx, .ref li, .int d6, .ref il, .ref mv, .ref so, .ref la, .int d11, .int d12, .ref co])), (st, .inl (cyI, 72, .inl g_9)), (im, .inl (cyI, 144, .inl fi)), (kq, .inl (cyZ, 2, .inl fk))] H := by rw [eg_9]; exact hP
            have hD : va_D A [(m0, .inr (6, [.ref st, .ref im, .ref kq, .ref pw, .ref nx, .ref li, .int d6, .ref il, .ref mv, .ref so, .ref la, .int d11, .int d12, .ref co])), (st, .inl (cyI, 72, .inl g_9)), (im, .inl (cyI, 144, .inl fi)), (kq, .inl (cyZ, 2, .inl fk))] := by rw [eg_9]; exact hD
            rw [nI_clamp (n := k) (by omega)] at eg_9
            refine lv_iinc (v := (nI (k + 1))) (lv' := [(2, .int (nI (k + 1))), (0, .ref m0), (1, .int (nI a9))]) hx hb dX8_restore_49 hl (k := 2) rfl (nI_1 _) (by decide) rfl (fun ls hl => ?_)
            refine lv_goto (tgt := 26) hx hb dX8_restore_52 (by decide) ?_
            exact ih26 (k + 1) g_9 ⟨by omega, by omega⟩ (by omega) (mn_cp (f := fun i => fi (72 * a9 + i)) (b := 0) h2a (show g_9 = upd fs2 (0 + k) x_8 by rw [Nat.zero_add]; exact eg_9) ex_8) _ _ (hP.sub [0, 1, 2, 3] rfl) (hD.sub [0, 1, 2, 3] (by decide) rfl) hS _ (lv_sub hl [1, 2, 0] rfl)
      exact L26 (72 + 1) 0 fs ⟨by omega, by omega⟩ (by omega) (fun j => by rw [if_neg (by omega)]) _ _ (hP.sub [0, 1, 2, 3] rfl) (hD.sub [0, 1, 2, 3] (by decide) rfl) hS _ (lv_sub hl [1, 2, 0] rfl)
    · skip
      have ic_4 := ci_eq (rfl : Int32.toInt x_3 = _) (show Int32.toInt 0 = 0 by decide) c_4
      refine lv_bipush (v := (-3)) hx hb dX8_restore_21 (by decide) ?_
      exact W.iret (v := (-3)) hx hb hr (fun t ht hW => ⟨⟨(-3), fs, rfl, ⟨n, wq, zz, hn3, hn, h0f, hwk, hws, hzf, hz10⟩, ⟨by rw [ht]; exact hP.sub (ws' := [(m0, .inr (6, [.ref st, .ref im, .ref kq, .ref pw, .ref nx, .ref li, .int d6, .ref il, .ref mv, .ref so, .ref la, .int d11, .int d12, .ref co])), (st, .inl (cyI, 72, .inl fs)), (im, .inl (cyI, 144, .inl fi)), (kq, .inl (cyZ, 2, .inl fk))]) [0, 1, 2, 3] rfl, hD.sub (ws' := [(m0, .inr (6, [.ref st, .ref im, .ref kq, .ref pw, .ref nx, .ref li, .int d6, .ref il, .ref mv, .ref so, .ref la, .int d11, .int d12, .ref co])), (st, .inl (cyI, 72, .inl fs)), (im, .inl (cyI, 144, .inl fi)), (kq, .inl (cyZ, 2, .inl fk))]) [0, 1, 2, 3] (by decide) rfl⟩⟩, hS.F ht⟩) hS.2.2 dX8_restore_23
  · skip
    have ic_2 := ci_eq (rfl : Int32.toInt r_1 = _) (show Int32.toInt 0 = 0 by decide) c_2
    refine lv_bipush (v := (-2)) hx hb dX8_restore_9 (by decide) ?_
    exact W.iret (v := (-2)) hx hb hr (fun t ht hW => ⟨⟨(-2), fs, rfl, ⟨n, wq, zz, hn3, hn, h0f, hwk, hws, hzf, hz10⟩, ⟨by rw [ht]; exact hP.sub (ws' := [(m0, .inr (6, [.ref st, .ref im, .ref kq, .ref pw, .ref nx, .ref li, .int d6, .ref il, .ref mv, .ref so, .ref la, .int d11, .int d12, .ref co])), (st, .inl (cyI, 72, .inl fs)), (im, .inl (cyI, 144, .inl fi)), (kq, .inl (cyZ, 2, .inl fk))]) [0, 1, 2, 3] rfl, hD.sub (ws' := [(m0, .inr (6, [.ref st, .ref im, .ref kq, .ref pw, .ref nx, .ref li, .int d6, .ref il, .ref mv, .ref so, .ref la, .int d11, .int d12, .ref co])), (st, .inl (cyI, 72, .inl fs)), (im, .inl (cyI, 144, .inl fi)), (kq, .inl (cyZ, 2, .inl fk))]) [0, 1, 2, 3] (by decide) rfl⟩⟩, hS.F ht⟩) hS.2.2 dX8_restore_11

theorem hnX8_step_X8 : ∀ w ∈ wsX80, w ∈ wsX8_step := fun _ h => List.mem_cons_of_mem _ (List.mem_append_right _ h)
set_option maxHeartbeats 4000000 in
set_option maxRecDepth 100000 in
theorem mX8_step (l : Launch) (dC : Nat → ClassId) (dI : Nat → Nat → Nat) (cyI cyZ : ClassId) (m0 : Nat) (st : Nat) (im : Nat) (kq : Nat) (pw : Nat) (nx : Nat) (li : Nat) (il : Nat) (mv : Nat) (so : Nat) (la : Nat) (co : Nat) (d6 : Int32) (d11 : Int32) (d12 : Int32) (n : Nat) (fs : Nat → Int32) (wq : Nat → Nat) (fp : Nat → Int32) (zz : Nat) (fn : Nat → Int32) (p1 : Int32) (hn3 : 3 ≤ n) (hn : n ≤ 10) (h0f : fs 0 = nI n) (hwk : ∀ j, j < 10 → fs (1 + j) = nI (wq j)) (hws : mn_sum wq 10 ≤ 5) (hp : ∀ j, j ≤ 10 → fp j = nI (3 ^ j)) (hzf : fs 11 = nI zz) (hz10 : zz ≤ 10) (sz : Nat) : Met l yX8_step wsX8_step ({ frames := 8, cells := 0, slots := 0, locals := 194 }) (bs_W dC dI cyI cyZ [.ref m0, .int p1] [(m0, .inr (6, [.ref st, .ref im, .ref kq, .ref pw, .ref nx, .ref li, .int d6, .ref il, .ref mv, .ref so, .ref la, .int d11, .int d12, .ref co])), (st, .inl (cyI, 72, .inl fs)), (pw, .inl (cyI, 11, .inl fp)), (nx, .inl (cyI, 10, .inl fn))] sz) (va_Qi (S := (Nat → Int32) × (Nat → Int32)) (fun (r : Int32) (q : (Nat → Int32) × (Nat → Int32)) => mn_I q.1) (fun q t => bs_E dC dI (va_A [(m0, .inr (6, [.ref st, .ref im, .ref kq, .ref pw, .ref nx, .ref li, .int d6, .ref il, .ref mv, .ref so, .ref la, .int d11, .int d12, .ref co])), (st, .inl (cyI, 72, .inl fs)), (pw, .inl (cyI, 11, .inl fp)), (nx, .inl (cyI, 10, .inl fn))] sz) [(m0, .inr (6, [.ref st, .ref im, .ref kq, .ref pw, .ref nx, .ref li, .int d6, .ref il, .ref mv, .ref so, .ref la, .int d11, .int d12, .ref co])), (st, .inl (cyI, 72, .inl q.1)), (pw, .inl (cyI, 11, .inl fp)), (nx, .inl (cyI, 10, .inl q.2))] t) (va_A [(m0, .inr (6, [.ref st, .ref im, .ref kq, .ref pw, .ref nx, .ref li, .int d6, .ref il, .ref mv, .ref so, .ref la, .int d11, .int d12, .ref co])), (st, .inl (cyI, 72, .inl fs)), (pw, .inl (cyI, 11, .inl fp)), (nx, .inl (cyI, 10, .inl fn))] sz)) 0 0 (va_A [(m0, .inr (6, [.ref st, .ref im, .ref kq, .ref pw, .ref nx, .ref li, .int d6, .ref il, .ref mv, .ref so, .ref la, .int d11, .int d12, .ref co])), (st, .inl (cyI, 72, .inl fs)), (pw, .inl (cyI, 11, .inl fp)), (nx, .inl (cyI, 10, .inl fn))] sz) := by
  refine Met.ofW (cc := cX8_step) (maxL := 5) (ret := (some .int)) (by decide) rfl ?_
  intro p e s m args below meth c s₁ B hml hv
  obtain ⟨rfl, hsz, hB, hP, hD0⟩ := hv
  have hK := hB.1
  have hN := hB.2
  have hx := B.exec
  have hb := B.bytes
  have hr := B.returns
  have hts := atoms_spec (ws := wsX8_step) B.pre
  have hown : s.vm.findClass RX8 = some m.cls := findClass_of_methodNamed B.named
  have hlocks := B.notSynchronized
  subst hsz
  have hD := hD0.self (sz := s.heap.size)
  generalize hAe : va_A [(m0, .inr (6, [.ref st, .ref im, .ref kq, .ref pw, .ref nx, .ref li, .int d6, .ref il, .ref mv, .ref so, .ref la, .int d11, .int d12, .ref co])), (st, .inl (cyI, 72, .inl fs)), (pw, .inl (cyI, 11, .inl fp)), (nx, .inl (cyI, 10, .inl fn))] s.heap.size = A at hD ⊢
  have hA : ∀ q : Nat, s.heap.size ≤ q → A q := fun q h => by rw [← hAe]; exact Or.inr h
  have hS : va_S A s.heap s.heap [] := va_S.rf
  have hP : va_P (dC, dI) vwCl [(m0, .inr (6, [.ref st, .ref im, .ref kq, .ref pw, .ref nx, .ref li, .int d6, .ref il, .ref mv, .ref so, .ref la, .int d11, .int d12, .ref co])), (st, .inl (cyI, 72, .inl fs)), (pw, .inl (cyI, 11, .inl fp)), (nx, .inl (cyI, 10, .inl fn))] s.heap := hP
  have hl := lv_entry ([.ref m0, .int p1]) (n := 5) (Nat.le_of_ble_eq_true rfl)
  rw [lg_entry_eq]
  generalize (lg_sl ([.ref m0, .int p1]) ++ List.replicate (5 - (lg_sl ([.ref m0, .int p1])).length) Slot.unset).toArray = ls at hl ⊢
  have hl : lv_has ls 5 [(0, .ref m0), (1, .int p1)] := hl
  refine lv_aload_n hx hb dX8_step_0 rfl (lv_at hl 0 rfl) ?_
  refine lv_aload_n hx hb dX8_step_1 rfl (lv_at hl 0 rfl) ?_
  refine vp_callSi (va_Run.run (va_runV (As := []) (rest := [.ref m0]) ⟨hx, hb, hml, hown, hts⟩ (mX8_now l dC dI cyI cyZ m0 st im kq pw nx li il mv so la co d6 d11 d12 n fs wq fp hn3 hn h0f hwk hws hp) (cwV 0 hts gX8_step_X8_now rfl rfl rfl (by decide +kernel) ⟨Nat.le_of_ble_eq_true rfl, Nat.le_of_ble_eq_true rfl⟩) (bs_RV hB (hP.sub (ws' := [(m0, .inr (6, [.ref st, .ref im, .ref kq, .ref pw, .ref nx, .ref li, .int d6, .ref il, .ref mv, .ref so, .ref la, .int d11, .int d12, .ref co])), (st, .inl (cyI, 72, .inl fs)), (pw, .inl (cyI, 11, .inl fp))]) [0, 1, 2] rfl) 0 rfl rfl) rfl rfl hl.1 rfl (lv_room (Nat.le_of_ble_eq_true rfl)) dX8_step_2 ⟨Nat.le_of_ble_eq_true rfl, Nat.le_of_ble_eq_true rfl⟩)) (fun r_1 hr_1 => ?_)
  obtain rfl : (nI (mn_code wq n)) = r_1 := Eq.symm hr_1
  refine vp_callSi (va_Run.run (va_runV (As := [.int (nI (mn_code wq n))]) (rest := []) ⟨hx, hb, hml, hown, hts⟩ (mX8_standsOf l dC dI cyI cyZ m0 st im kq pw nx li il mv so la co d6 d11 d12 n fs fp (nI (mn_code wq n)) hn3 hn h0f hp) (cwV 1 hts gX8_step_X8_standsOf rfl rfl rfl (by decide +kernel) ⟨Nat.le_of_ble_eq_true rfl, Nat.le_of_ble_eq_true rfl⟩) (bs_RV hB (hP.sub (ws' := [(m0, .inr (6, [.ref st, .ref im, .ref kq, .ref pw, .ref nx, .ref li, .int d6, .ref il, .ref mv, .ref so, .ref la, .int d11, .int d12, .ref co])), (st, .inl (cyI, 72, .inl fs)), (pw, .inl (cyI, 11, .inl fp))]) [0, 1, 2] rfl) 0 rfl rfl) rfl rfl hl.1 rfl (lv_room (Nat.le_of_ble_eq_true rfl)) dX8_step_5 ⟨Nat.le_of_ble_eq_true rfl, Nat.le_of_ble_eq_true rfl⟩)) (fun r_2 hr_2 => ?_)
  obtain rfl : (nb_st (nI (mn_code wq n)) n) = r_2 := Eq.symm hr_2
  refine lv_istore_n (lv' := [(2, .int (nb_st (nI (mn_code wq n)) n)), (0, .ref m0), (1, .int p1)]) hx hb dX8_step_8 rfl hl (by decide) rfl (fun ls hl => ?_)
  refine lv_iload_n hx hb dX8_step_9 rfl (lv_at hl 2 rfl) ?_
  refine lv_if_lt (tgt := 21) hx hb dX8_step_10 (by decide) (fun c_3 => ?_) (fun c_3 => ?_)
  · skip
    have ic_3 := ci_lt (rfl : Int32.toInt p1 = _) (show Int32.toInt 0 = 0 by decide) c_3
    refine lv_bipush (v := (-2)) hx hb dX8_step_21 (by decide) ?_
    exact W.iret (v := (-2)) hx hb hr (fun t ht hW => ⟨⟨(-2), (fs, fn), rfl, ⟨n, wq, zz, hn3, hn, h0f, hwk, hws, hzf, hz10⟩, ⟨by rw [ht]; exact hP.sub (ws' := [(m0, .inr (6, [.ref st, .ref im, .ref kq, .ref pw, .ref nx, .ref li, .int d6, .ref il, .ref mv, .ref so, .ref la, .int d11, .int d12, .ref co])), (st, .inl (cyI, 72, .inl fs)), (pw, .inl (cyI, 11, .inl fp)), (nx, .inl (cyI, 10, .inl fn))]) [0, 1, 2, 3] rfl, hD.sub (ws' := [(m0, .inr (6, [.ref st, .ref im, .ref kq, .ref pw, .ref nx, .ref li, .int d6, .ref il, .ref mv, .ref so, .ref la, .int d11, .int d12, .ref co])), (st, .inl (cyI, 72, .inl fs)), (pw, .inl (cyI, 11, .inl fp)), (nx, .inl (cyI, 10, .inl fn))]) [0, 1, 2, 3] (by decide) rfl⟩⟩, hS.F ht⟩) hS.2.2 dX8_step_23
  · skip
    have ic_3 := ci_nlt (rfl : Int32.toInt p1 = _) (show Int32.toInt 0 = 0 by decide) c_3
    refine lv_iload_n hx hb dX8_step_13 rfl (lv_at hl 2 rfl) ?_
    refine lv_iload_n hx hb dX8_step_14 rfl (lv_at hl 0 rfl) ?_
    refine lv_iconst (v := (-1)) hx hb dX8_step_15 (by decide) ?_
    refine lv_ixor hx hb dX8_step_16 ?_
    refine lv_topi (fun x_4 ex_4 => ?_)
    refine lv_iand hx hb dX8_step_17 ?_
    refine lv_topi (fun x_5 ex_5 => ?_)
    refine lv_if_eq (tgt := 24) hx hb dX8_step_18 (by decide) (fun c_6 => ?_) (fun c_6 => ?_)
    · skip
      have ic_6 := ci_eq (rfl : Int32.toInt x_5 = _) (show Int32.toInt 0 = 0 by decide) c_6
      refine lv_iconst (v := 0) hx hb dX8_step_24 (by decide) ?_
      refine lv_istore_n (lv' := [(3, .int 0), (2, .int (nb_st (nI (mn_code wq n)) n)), (0, .ref m0), (1, .int p1)]) hx hb dX8_step_25 rfl hl (by decide) rfl (fun ls hl => ?_)
      have L26 : ∀ (n26 : Nat), ∀ (k : Nat) (fn2 : Nat → Int32), (0 ≤ k ∧ k ≤ 10) → (10 + 1 ≤ k + n26) → (∀ j, j < k → fn2 j = 0) → ∀ (H : Heap) (locs : List Loc), va_P (dC, dI) vwCl [(m0, .inr (6, [.ref st, .ref im, .ref kq, .ref pw, .ref nx, .ref li, .int d6, .ref il, .ref mv, .ref so, .ref la, .int d11, .int d12, .ref co])), (st, .inl (cyI, 72, .inl fs)), (pw, .inl (cyI, 11, .inl fp)), (nx, .inl (cyI, 10, .inl fn2))] H → va_D A [(m0, .inr (6, [.ref st, .ref im, .ref kq, .ref pw, .ref nx, .ref li, .int d6, .ref il, .ref mv, .ref so, .ref la, .int d11, .int d12, .ref co])), (st, .inl (cyI, 72, .inl fs)), (pw, .inl (cyI, 11, .inl fp)), (nx, .inl (cyI, 10, .inl fn2))] → va_S A s.heap H locs → ∀ (ls : Array Slot), lv_has ls 5 [(0, .ref m0), (1, .int p1), (2, .int (nb_st (nI (mn_code wq n)) n)), (3, .int (nI k))] → W p l e (headSpec wsX8_step ({ frames := 8, cells := 0, slots := 0, locals := 194 })).room s m ([.ref m0, .int p1] : List Value).toArray below meth c H locs 0 0 (MQ below (va_Qi (S := (Nat → Int32) × (Nat → Int32)) (fun (r : Int32) (q : (Nat → Int32) × (Nat → Int32)) => mn_I q.1) (fun q t => bs_E dC dI A [(m0, .inr (6, [.ref st, .ref im, .ref kq, .ref pw, .ref nx, .ref li, .int d6, .ref il, .ref mv, .ref so, .ref la, .int d11, .int d12, .ref co])), (st, .inl (cyI, 72, .inl q.1)), (pw, .inl (cyI, 11, .inl fp)), (nx, .inl (cyI, 10, .inl q.2))] t) A) ([.ref m0, .int p1] : List Value).toArray s 0 0 A) (F0 m 26 ls []) := by
        intro n26
        induction n26 with
        | zero =>
          intro k fn2 hk26 hn26 hz2 H locs hP hD hS ls hl
          exfalso
          omega
        | succ n26 ih26 =>
          intro k fn2 hk26 hn26 hz2 H locs hP hD hS ls hl
          refine lv_iload_n hx hb dX8_step_26 rfl (lv_at hl 3 rfl) ?_
          refine lv_bipush (v := 10) hx hb dX8_step_27 (by decide) ?_
          refine lv_icmp_ge (tgt := 45) hx hb dX8_step_29 (by decide) (fun c_7 => ?_) (fun c_7 => ?_)
          · skip
            have ic_7 := ci_le (show Int32.toInt 10 = 10 by decide) (nI_toInt (n := k) (by omega)) c_7
            refine lv_iconst (v := 0) hx hb dX8_step_45 (by decide) ?_
            refine lv_istore_n (lv' := [(3, .int 0), (0, .ref m0), (1, .int p1), (2, .int (nb_st (nI (mn_code wq n)) n))]) hx hb dX8_step_46 rfl hl (by decide) rfl (fun ls hl => ?_)
            have L47 : ∀ (n47 : Nat), ∀ (k : Nat) (fn2 : Nat → Int32) (nq : Nat → Nat), (0 ≤ k ∧ k ≤ n) → (n + 1 ≤ k + n47) → (∀ j, j < 10 → fn2 j = nI (nq j)) → (mn_sum nq 10 ≤ mn_sum wq k) → ∀ (H : Heap) (locs : List Loc), va_P (dC, dI) vwCl [(m0, .inr (6, [.ref st, .ref im, .ref kq, .ref pw, .ref nx, .ref li, .int d6, .ref il, .ref mv, .ref so, .ref la, .int d11, .int d12, .ref co])), (st, .inl (cyI, 72, .inl fs)), (pw, .inl (cyI, 11, .inl fp)), (nx, .inl (cyI, 10, .inl fn2))] H → va_D A [(m0, .inr (6, [.ref st, .ref im, .ref kq, .ref pw, .ref nx, .ref li, .int d6, .ref il, .ref mv, .ref so, .ref la, .int d11, .int d12, .ref co])), (st, .inl (cyI, 72, .inl fs)), (pw, .inl (cyI, 11, .inl fp)), (nx, .inl (cyI, 10, .inl fn2))] → va_S A s.heap H locs → ∀ (ls : Array Slot), lv_has ls 5 [(0, .ref m0), (1, .int p1), (2, .int (nb_st (nI (mn_code wq n)) n)), (3, .int (nI k))] → W p l e (headSpec wsX8_step ({ frames := 8, cells := 0, slots := 0, locals := 194 })).room s m ([.ref m0, .int p1] : List Value).toArray below meth c H locs 0 0 (MQ below (va_Qi (S := (Nat → Int32) × (Nat → Int32)) (fun (r : Int32) (q : (Nat → Int32) × (Nat → Int32)) => mn_I q.1) (fun q t => bs_E dC dI A [(m0, .inr (6, [.ref st, .ref im, .ref kq, .ref pw, .ref nx, .ref li, .int d6, .ref il, .ref mv, .ref so, .ref la, .int d11, .int d12, .ref co])), (st, .inl (cyI, 72, .inl q.1)), (pw, .inl (cyI, 11, .inl fp)), (nx, .inl (cyI, 10, .inl q.2))] t) A) ([.ref m0, .int p1] : List Value).toArray s 0 0 A) (F0 m 47 ls []) := by
              intro n47
              induction n47 with
              | zero =>
                intro k fn2 nq hk47 hn47 hnq hsq H locs hP hD hS ls hl
                exfalso
                omega
              | succ n47 ih47 =>
                intro k fn2 nq hk47 hn47 hnq hsq H locs hP hD hS ls hl
                refine lv_iload_n hx hb dX8_step_47 rfl (lv_at hl 3 rfl) ?_
                refine lv_aload_n hx hb dX8_step_48 rfl (lv_at hl 0 rfl) ?_
                refine vp_callSi (va_Run.run (va_runV (As := []) (rest := [.int (nI k)]) ⟨hx, hb, hml, hown, hts⟩ (mX8_cells l dC dI cyI cyZ m0 st im kq pw nx li il mv so la co d6 d11 d12 n fs hn3 hn h0f) (cwV 0 hts gX8_step_X8_cells rfl rfl rfl (by decide +kernel) ⟨Nat.le_of_ble_eq_true rfl, Nat.le_of_ble_eq_true rfl⟩) (bs_RV hB (hP.sub (ws' := [(m0, .inr (6, [.ref st, .ref im, .ref kq, .ref pw, .ref nx, .ref li, .int d6, .ref il, .ref mv, .ref so, .ref la, .int d11, .int d12, .ref co])), (st, .inl (cyI, 72, .inl fs))]) [0, 1] rfl) 0 rfl rfl) rfl rfl hl.1 rfl (lv_room (Nat.le_of_ble_eq_true rfl)) dX8_step_49 ⟨Nat.le_of_ble_eq_true rfl, Nat.le_of_ble_eq_true rfl⟩)) (fun r_8 hr_8 => ?_)
                obtain rfl : (nI n) = r_8 := Eq.symm hr_8
                refine lv_icmp_ge (tgt := 134) hx hb dX8_step_52 (by decide) (fun c_9 => ?_) (fun c_9 => ?_)
                · skip
                  have ic_9 := ci_le (nI_toInt (n := n) (by omega)) (nI_toInt (n := k) (by omega)) c_9
                  have hsn : mn_sum nq 10 ≤ 5 := by have h9 := mn_sum_mono wq (j := k) (k := 10) (by omega); omega
                  refine lv_iconst (v := 0) hx hb dX8_step_134 (by decide) ?_
                  refine lv_istore_n (lv' := [(3, .int 0), (0, .ref m0), (1, .int p1), (2, .int (nb_st (nI (mn_code wq n)) n))]) hx hb dX8_step_135 rfl hl (by decide) rfl (fun ls hl => ?_)
                  have L136 : ∀ (n136 : Nat), ∀ (k2 : Nat) (fs2 : Nat → Int32), (0 ≤ k2 ∧ k2 ≤ 10) → (10 + 1 ≤ k2 + n136) → (fs2 0 = nI n) → (fs2 11 = nI zz) → (∀ j, j < k2 → fs2 (1 + j) = nI (nq j)) → ∀ (H : Heap) (locs : List Loc), va_P (dC, dI) vwCl [(m0, .inr (6, [.ref st, .ref im, .ref kq, .ref pw, .ref nx, .ref li, .int d6, .ref il, .ref mv, .ref so, .ref la, .int d11, .int d12, .ref co])), (st, .inl (cyI, 72, .inl fs2)), (pw, .inl (cyI, 11, .inl fp)), (nx, .inl (cyI, 10, .inl fn2))] H → va_D A [(m0, .inr (6, [.ref st, .ref im, .ref kq, .ref pw, .ref nx, .ref li, .int d6, .ref il, .ref mv, .ref so, .ref la, .int d11, .int d12, .ref co])), (st, .inl (cyI, 72, .inl fs2)), (pw, .inl (cyI, 11, .inl fp)), (nx, .inl (cyI, 10, .inl fn2))] → va_S A s.heap H locs → ∀ (ls : Array Slot), lv_has ls 5 [(0, .ref m0), (3, .int (nI k2))] → W p l e (headSpec wsX8_step ({ frames := 8, cells := 0, slots := 0, locals := 194 })).room s m ([.ref m0, .int p1] : List Value).toArray below meth c H locs 0 0 (MQ below (va_Qi (S := (Nat → Int32) × (Nat → Int32)) (fun (r : Int32) (q : (Nat → Int32) × (Nat → Int32)) => mn_I q.1) (fun q t => bs_E dC dI A [(m0, .inr (6, [.ref st, .ref im, .ref kq, .ref pw, .ref nx, .ref li, .int d6, .ref il, .ref mv, .ref so, .ref la, .int d11, .int d12, .ref co])), (st, .inl (cyI, 72, .inl q.1)), (pw, .inl (cyI, 11, .inl fp)), (nx, .inl (cyI, 10, .inl q.2))] t) A) ([.ref m0, .int p1] : List Value).toArray s 0 0 A) (F0 m 136 ls []) := by
                    intro n136
                    induction n136 with
                    | zero =>
                      intro k2 fs2 hk136 hn136 h20 h2z h2w H locs hP hD hS ls hl
                      exfalso
                      omega
                    | succ n136 ih136 =>
                      intro k2 fs2 hk136 hn136 h20 h2z h2w H locs hP hD hS ls hl
                      refine lv_iload_n hx hb dX8_step_136 rfl (lv_at hl 1 rfl) ?_
                      refine lv_bipush (v := 10) hx hb dX8_step_137 (by decide) ?_
                      refine lv_icmp_ge (tgt := 162) hx hb dX8_step_139 (by decide) (fun c_10 => ?_) (fun c_10 => ?_)
                      · skip
                        have ic_10 := ci_le (show Int32.toInt 10 = 10 by decide) (nI_toInt (n := k2) (by omega)) c_10
                        have h0f : fs2 0 = nI n := h20
                        have hzf : fs2 11 = nI zz := h2z
                        have hwk : ∀ j, j < 10 → fs2 (1 + j) = nI (nq j) := fun j hj => h2w j (by omega)
                        have hws := hsn
                        refine lv_aload_n hx hb dX8_step_162 rfl (lv_at hl 0 rfl) ?_
                        refine lv_aload_n hx hb dX8_step_163 rfl (lv_at hl 0 rfl) ?_
                        refine vp_callSi (va_Run.run (va_runV (As := []) (rest := [.ref m0]) ⟨hx, hb, hml, hown, hts⟩ (mX8_now l dC dI cyI cyZ m0 st im kq pw nx li il mv so la co d6 d11 d12 n fs2 nq fp hn3 hn h0f hwk hws hp) (cwV 0 hts gX8_step_X8_now rfl rfl rfl (by decide +kernel) ⟨Nat.le_of_ble_eq_true rfl, Nat.le_of_ble_eq_true rfl⟩) (bs_RV hB (hP.sub (ws' := [(m0, .inr (6, [.ref st, .ref im, .ref kq, .ref pw, .ref nx, .ref li, .int d6, .ref il, .ref mv, .ref so, .ref la, .int d11, .int d12, .ref co])), (st, .inl (cyI, 72, .inl fs2)), (pw, .inl (cyI, 11, .inl fp))]) [0, 1, 2] rfl) 0 rfl rfl) rfl rfl hl.1 rfl (lv_room (Nat.le_of_ble_eq_true rfl)) dX8_step_164 ⟨Nat.le_of_ble_eq_true rfl, Nat.le_of_ble_eq_true rfl⟩)) (fun r_11 hr_11 => ?_)
                        obtain rfl : (nI (mn_code nq n)) = r_11 := Eq.symm hr_11
                        refine vp_callSi (va_Run.run (va_runV (As := [.int (nI (mn_code nq n))]) (rest := []) ⟨hx, hb, hml, hown, hts⟩ (mX8_standsOf l dC dI cyI cyZ m0 st im kq pw nx li il mv so la co d6 d11 d12 n fs2 fp (nI (mn_code nq n)) hn3 hn h0f hp) (cwV 1 hts gX8_step_X8_standsOf rfl rfl rfl (by decide +kernel) ⟨Nat.le_of_ble_eq_true rfl, Nat.le_of_ble_eq_true rfl⟩) (bs_RV hB (hP.sub (ws' := [(m0, .inr (6, [.ref st, .ref im, .ref kq, .ref pw, .ref nx, .ref li, .int d6, .ref il, .ref mv, .ref so, .ref la, .int d11, .int d12, .ref co])), (st, .inl (cyI, 72, .inl fs2)), (pw, .inl (cyI, 11, .inl fp))]) [0, 1, 2] rfl) 0 rfl rfl) rfl rfl hl.1 rfl (lv_room (Nat.le_of_ble_eq_true rfl)) dX8_step_167 ⟨Nat.le_of_ble_eq_true rfl, Nat.le_of_ble_eq_true rfl⟩)) (fun r_12 hr_12 => ?_)
                        obtain rfl : (nb_st (nI (mn_code nq n)) n) = r_12 := Eq.symm hr_12
                        refine vp_callSi (va_Run.run (va_runS (As := [.int (nb_st (nI (mn_code nq n)) n)]) (rest := []) ⟨hx, hb, hml, hown, hts⟩ (mX8_size l dC dI cyI cyZ (nb_st (nI (mn_code nq n)) n) ) (va_cwS 1 hts gX8_step_X8_size rfl rfl rfl (by decide +kernel) ⟨Nat.le_of_ble_eq_true rfl, Nat.le_of_ble_eq_true rfl⟩) (bs_RS hB (hP.sub (ws' := []) [] rfl)) rfl rfl hl.1 rfl (lv_room (Nat.le_of_ble_eq_true rfl)) dX8_step_170 ⟨Nat.le_of_ble_eq_true rfl, Nat.le_of_ble_eq_true rfl⟩)) (fun r_13 hr_13 => ?_)
                        obtain ⟨v_14, lv_14, ev_14⟩ := hr_13
                        obtain rfl : nI v_14 = r_13 := Eq.symm ev_14
                        exact W.iret (v := (nI v_14)) hx hb hr (fun t ht hW => ⟨⟨(nI v_14), (fs2, fn2), rfl, ⟨n, nq, zz, hn3, hn, h0f, hwk, hws, hzf, hz10⟩, ⟨by rw [ht]; exact hP.sub (ws' := [(m0, .inr (6, [.ref st, .ref im, .ref kq, .ref pw, .ref nx, .ref li, .int d6, .ref il, .ref mv, .ref so, .ref la, .int d11, .int d12, .ref co])), (st, .inl (cyI, 72, .inl fs2)), (pw, .inl (cyI, 11, .inl fp)), (nx, .inl (cyI, 10, .inl fn2))]) [0, 1, 2, 3] rfl, hD.sub (ws' := [(m0, .inr (6, [.ref st, .ref im, .ref kq, .ref pw, .ref nx, .ref li, .int d6, .ref il, .ref mv, .ref so, .ref la, .int d11, .int d12, .ref co])), (st, .inl (cyI, 72, .inl fs2)), (pw, .inl (cyI, 11, .inl fp)), (nx, .inl (cyI, 10, .inl fn2))]) [0, 1, 2, 3] (by decide) rfl⟩⟩, hS.F ht⟩) hS.2.2 dX8_step_173
                      · skip
                        have ic_10 := ci_nle (show Int32.toInt 10 = 10 by decide) (nI_toInt (n := k2) (by omega)) c_10
                        refine lv_aload_n hx hb dX8_step_142 rfl (lv_at hl 0 rfl) ?_
                        refine va_get (D := (dC, dI)) (ci := 6) (v := .ref st) (C := RX8) (T := TX8) (N := 14) hx hb hts hnX8_step_X8 hown hK hP 0 rfl rfl 0 (by decide) (hts (.fieldLink RX8 7 "RingMeetsModel" "state" "[I") (by decide +kernel)) (fun _ h9 => h9) rfl dX8_step_143 ?_
                        refine lv_iconst (v := 1) hx hb dX8_step_146 (by decide) ?_
                        refine lv_iload_n hx hb dX8_step_147 rfl (lv_at hl 1 rfl) ?_
                        refine lv_iadd hx hb dX8_step_148 ?_
                        refine lv_topi (fun x_15 ex_15 => ?_)
                        obtain rfl : (nI (1 + k2)) = x_15 := (ex_15.trans (nI_add 1 _)).symm
                        refine lv_aload_n hx hb dX8_step_149 rfl (lv_at hl 0 rfl) ?_
                        refine va_get (D := (dC, dI)) (ci := 6) (v := .ref nx) (C := RX8) (T := TX8) (N := 14) hx hb hts hnX8_step_X8 hown hK hP 0 rfl rfl 4 (by decide) (hts (.fieldLink RX8 23 "RingMeetsModel" "next" "[I") (by decide +kernel)) (fun _ h9 => h9) rfl dX8_step_150 ?_
                        refine lv_iload_n hx hb dX8_step_153 rfl (lv_at hl 1 rfl) ?_
                        refine va_iald (D := (dC, dI)) hx hb hK hP 3 0 rfl rfl (vp_in_nI (n := k2) (N := 10) (by omega) (by omega)) dX8_step_154 ?_
                        refine lv_topi (fun x_16 ex_16 => ?_)
                        rw [nI_clamp (n := k2) (by omega)] at ex_16
                        obtain rfl : (nI (nq k2)) = x_16 := (ex_16.trans (hnq _ (by omega))).symm
                        refine va_iast (D := (dC, dI)) hx hb hK hP hD hS 1 0 rfl rfl (vp_in_nI (n := (1 + k2)) (N := 72) (by omega) (by omega)) dX8_step_155 (fun H locs hP hD hS => ?_)
                        obtain ⟨g_17, eg_17⟩ : ∃ y : Nat → Int32, y = upd fs2 (Int32.toNatClampNeg (nI (1 + k2))) (nI (nq k2)) := ⟨_, rfl⟩
                        have hP : va_P (dC, dI) vwCl [(m0, .inr (6, [.ref st, .ref im, .ref kq, .ref pw, .ref nx, .ref li, .int d6, .ref il, .ref mv, .ref so, .ref la, .int d11, .int d12, .ref co])), (st, .inl (cyI, 72, .inl g_17)), (pw, .inl (cyI, 11, .inl fp)), (nx, .inl (cyI, 10, .inl fn2))] H := by rw [eg_17]; exact hP
                        have hD : va_D A [(m0, .inr (6, [.ref st, .ref im, .ref kq, .ref pw, .ref nx, .ref li, .int d6, .ref il, .ref mv, .ref so, .ref la, .int d11, .int d12, .ref co])), (st, .inl (cyI, 72, .inl g_17)), (pw, .inl (cyI, 11, .inl fp)), (nx, .inl (cyI, 10, .inl fn2))] := by rw [eg_17]; exact hD
                        rw [nI_clamp (n := (1 + k2)) (by omega)] at eg_17
                        refine lv_iinc (v := (nI (k2 + 1))) (lv' := [(3, .int (nI (k2 + 1))), (0, .ref m0)]) hx hb dX8_step_156 hl (k := 1) rfl (nI_1 _) (by decide) rfl (fun ls hl => ?_)
                        refine lv_goto (tgt := 136) hx hb dX8_step_159 (by decide) ?_
                        exact ih136 (k2 + 1) g_17 ⟨by omega, by omega⟩ (by omega) (by rw [eg_17]; unfold upd; rw [if_neg (by omega)]; exact h20) (by rw [eg_17]; unfold upd; rw [if_neg (by omega)]; exact h2z) (fun j hj => by rw [eg_17]; unfold upd; by_cases q : 1 + j = 1 + k2; (rw [if_pos q, show j = k2 by omega]); (rw [if_neg q]; exact h2w j (by omega))) _ _ (hP.sub [0, 1, 2, 3] rfl) (hD.sub [0, 1, 2, 3] (by decide) rfl) hS _ (lv_sub hl [1, 0] rfl)
                  exact L136 (10 + 1) 0 fs ⟨by omega, by omega⟩ (by omega) h0f hzf (fun j hj => by omega) _ _ (hP.sub [0, 1, 2, 3] rfl) (hD.sub [0, 1, 2, 3] (by decide) rfl) hS _ (lv_sub hl [1, 0] rfl)
                · skip
                  have ic_9 := ci_nle (nI_toInt (n := n) (by omega)) (nI_toInt (n := k) (by omega)) c_9
                  have hwj := mn_sum_le wq (j := k) (k := 10) (by omega)
                  refine lv_iload_n hx hb dX8_step_55 rfl (lv_at hl 2 rfl) ?_
                  refine lv_iload_n hx hb dX8_step_56 rfl (lv_at hl 3 rfl) ?_
                  refine vp_callSi (va_Run.run (va_runS (As := [.int (nb_st (nI (mn_code wq n)) n), .int (nI k)]) (rest := []) ⟨hx, hb, hml, hown, hts⟩ (mX8_has l dC dI cyI cyZ (nb_st (nI (mn_code wq n)) n) (nI k) ) (va_cwS 2 hts gX8_step_X8_has rfl rfl rfl (by decide +kernel) ⟨Nat.le_of_ble_eq_true rfl, Nat.le_of_ble_eq_true rfl⟩) (bs_RS hB (hP.sub (ws' := []) [] rfl)) rfl rfl hl.1 rfl (lv_room (Nat.le_of_ble_eq_true rfl)) dX8_step_57 ⟨Nat.le_of_ble_eq_true rfl, Nat.le_of_ble_eq_true rfl⟩)) (fun r_18 hr_18 => ?_)
                  refine lv_if_eq (tgt := 128) hx hb dX8_step_60 (by decide) (fun c_19 => ?_) (fun c_19 => ?_)
                  · skip
                    have ic_19 := ci_eq (rfl : Int32.toInt r_18 = _) (show Int32.toInt 0 = 0 by decide) c_19
                    refine lv_iinc (v := (nI (k + 1))) (lv' := [(3, .int (nI (k + 1))), (0, .ref m0), (1, .int p1), (2, .int (nb_st (nI (mn_code wq n)) n))]) hx hb dX8_step_128 hl (k := 3) rfl (nI_1 _) (by decide) rfl (fun ls hl => ?_)
                    refine lv_goto (tgt := 47) hx hb dX8_step_131 (by decide) ?_
                    exact ih47 (k + 1) fn2 nq ⟨by omega, by omega⟩ (by omega) hnq (by have h9 : mn_sum wq (k + 1) = mn_sum wq k + wq k := rfl; omega) _ _ (hP.sub [0, 1, 2, 3] rfl) (hD.sub [0, 1, 2, 3] (by decide) rfl) hS _ (lv_sub hl [1, 2, 3, 0] rfl)
                  · skip
                    have ic_19 := ci_ne (rfl : Int32.toInt r_18 = _) (show Int32.toInt 0 = 0 by decide) c_19
                    have hbs : nb_bit (nb_st (nI (mn_code wq n)) n) k := hr_18.2 (hr_18.1.resolve_left c_19)
                    refine lv_iload_n hx hb dX8_step_63 rfl (lv_at hl 1 rfl) ?_
                    refine lv_iload_n hx hb dX8_step_64 rfl (lv_at hl 3 rfl) ?_
                    refine vp_callSi (va_Run.run (va_runS (As := [.int p1, .int (nI k)]) (rest := []) ⟨hx, hb, hml, hown, hts⟩ (mX8_has l dC dI cyI cyZ p1 (nI k) ) (va_cwS 2 hts gX8_step_X8_has rfl rfl rfl (by decide +kernel) ⟨Nat.le_of_ble_eq_true rfl, Nat.le_of_ble_eq_true rfl⟩) (bs_RS hB (hP.sub (ws' := []) [] rfl)) rfl rfl hl.1 rfl (lv_room (Nat.le_of_ble_eq_true rfl)) dX8_step_65 ⟨Nat.le_of_ble_eq_true rfl, Nat.le_of_ble_eq_true rfl⟩)) (fun r_20 hr_20 => ?_)
                    refine lv_if_eq (tgt := 101) hx hb dX8_step_68 (by decide) (fun c_21 => ?_) (fun c_21 => ?_)
                    · skip
                      have ic_21 := ci_eq (rfl : Int32.toInt r_20 = _) (show Int32.toInt 0 = 0 by decide) c_21
                      refine lv_iconst (v := 0) hx hb dX8_step_101 (by decide) ?_
                      refine lv_istore (lv' := [(4, .int 0), (0, .ref m0), (1, .int p1), (2, .int (nb_st (nI (mn_code wq n)) n)), (3, .int (nI k))]) hx hb dX8_step_102 hl (by decide) rfl (fun ls hl => ?_)
                      refine lv_aload_n hx hb dX8_step_104 rfl (lv_at hl 1 rfl) ?_
                      refine va_get (D := (dC, dI)) (ci := 6) (v := .ref nx) (C := RX8) (T := TX8) (N := 14) hx hb hts hnX8_step_X8 hown hK hP 0 rfl rfl 4 (by decide) (hts (.fieldLink RX8 23 "RingMeetsModel" "next" "[I") (by decide +kernel)) (fun _ h9 => h9) rfl dX8_step_105 ?_
                      refine lv_aload_n hx hb dX8_step_108 rfl (lv_at hl 1 rfl) ?_
                      refine lv_iload_n hx hb dX8_step_109 rfl (lv_at hl 3 rfl) ?_
                      refine lv_iload_n hx hb dX8_step_110 rfl (lv_at hl 4 rfl) ?_
                      refine lv_iload hx hb dX8_step_111 (lv_at hl 0 rfl) ?_
                      refine vp_callSi (va_Run.run (va_runV (As := [.int (nb_st (nI (mn_code wq n)) n), .int (nI k), .int 0]) (rest := [.ref nx]) ⟨hx, hb, hml, hown, hts⟩ (mX8_behind l dC dI cyI cyZ m0 st im kq pw nx li il mv so la co d6 d11 d12 n fs k (nb_st (nI (mn_code wq n)) n) 0 hn3 hn h0f (by omega) hbs) (cwV 3 hts gX8_step_X8_behind rfl rfl rfl (by decide +kernel) ⟨Nat.le_of_ble_eq_true rfl, Nat.le_of_ble_eq_true rfl⟩) (bs_RV hB (hP.sub (ws' := [(m0, .inr (6, [.ref st, .ref im, .ref kq, .ref pw, .ref nx, .ref li, .int d6, .ref il, .ref mv, .ref so, .ref la, .int d11, .int d12, .ref co])), (st, .inl (cyI, 72, .inl fs))]) [0, 1] rfl) 0 rfl rfl) rfl rfl hl.1 rfl (lv_room (Nat.le_of_ble_eq_true rfl)) dX8_step_113 ⟨Nat.le_of_ble_eq_true rfl, Nat.le_of_ble_eq_true rfl⟩)) (fun r_22 hr_22 => ?_)
                      obtain ⟨v_23, lv_23, ev_23⟩ := hr_22
                      obtain rfl : nI v_23 = r_22 := Eq.symm ev_23
                      refine lv_dup2_11 hx hb dX8_step_116 rfl rfl ?_
                      refine va_iald (D := (dC, dI)) hx hb hK hP 3 0 rfl rfl (vp_in_nI (n := v_23) (N := 10) (by omega) (by omega)) dX8_step_117 ?_
                      refine lv_topi (fun x_24 ex_24 => ?_)
                      rw [nI_clamp (n := v_23) (by omega)] at ex_24
                      obtain rfl : (nI (nq v_23)) = x_24 := (ex_24.trans (hnq _ (by omega))).symm
                      refine lv_aload_n hx hb dX8_step_118 rfl (lv_at hl 1 rfl) ?_
                      refine va_get (D := (dC, dI)) (ci := 6) (v := .ref st) (C := RX8) (T := TX8) (N := 14) hx hb hts hnX8_step_X8 hown hK hP 0 rfl rfl 0 (by decide) (hts (.fieldLink RX8 7 "RingMeetsModel" "state" "[I") (by decide +kernel)) (fun _ h9 => h9) rfl dX8_step_119 ?_
                      refine lv_iconst (v := 1) hx hb dX8_step_122 (by decide) ?_
                      refine lv_iload_n hx hb dX8_step_123 rfl (lv_at hl 4 rfl) ?_
                      refine lv_iadd hx hb dX8_step_124 ?_
                      refine lv_topi (fun x_25 ex_25 => ?_)
                      obtain rfl : (nI (1 + k)) = x_25 := (ex_25.trans (nI_add 1 _)).symm
                      refine va_iald (D := (dC, dI)) hx hb hK hP 1 0 rfl rfl (vp_in_nI (n := (1 + k)) (N := 72) (by omega) (by omega)) dX8_step_125 ?_
                      refine lv_topi (fun x_26 ex_26 => ?_)
                      rw [nI_clamp (n := (1 + k)) (by omega)] at ex_26
                      obtain rfl : (nI (wq k)) = x_26 := (ex_26.trans (hwk _ (by omega))).symm
                      refine lv_iadd hx hb dX8_step_126 ?_
                      refine lv_topi (fun x_27 ex_27 => ?_)
                      obtain rfl : (nI ((nq v_23) + (wq k))) = x_27 := (ex_27.trans (nI_add _ _)).symm
                      refine va_iast (D := (dC, dI)) hx hb hK hP hD hS 3 0 rfl rfl (vp_in_nI (n := v_23) (N := 10) (by omega) (by omega)) dX8_step_127 (fun H locs hP hD hS => ?_)
                      obtain ⟨g_28, eg_28⟩ : ∃ y : Nat → Int32, y = upd fn2 (Int32.toNatClampNeg (nI v_23)) (nI ((nq v_23) + (wq k))) := ⟨_, rfl⟩
                      have hP : va_P (dC, dI) vwCl [(m0, .inr (6, [.ref st, .ref im, .ref kq, .ref pw, .ref nx, .ref li, .int d6, .ref il, .ref mv, .ref so, .ref la, .int d11, .int d12, .ref co])), (st, .inl (cyI, 72, .inl fs)), (pw, .inl (cyI, 11, .inl fp)), (nx, .inl (cyI, 10, .inl g_28))] H := by rw [eg_28]; exact hP
                      have hD : va_D A [(m0, .inr (6, [.ref st, .ref im, .ref kq, .ref pw, .ref nx, .ref li, .int d6, .ref il, .ref mv, .ref so, .ref la, .int d11, .int d12, .ref co])), (st, .inl (cyI, 72, .inl fs)), (pw, .inl (cyI, 11, .inl fp)), (nx, .inl (cyI, 10, .inl g_28))] := by rw [eg_28]; exact hD
                      rw [nI_clamp (n := v_23) (by omega)] at eg_28
                      refine lv_iinc (v := (nI (k + 1))) (lv' := [(3, .int (nI (k + 1))), (4, .int 0), (0, .ref m0), (1, .int p1), (2, .int (nb_st (nI (mn_code wq n)) n))]) hx hb dX8_step_128 hl (k := 4) rfl (nI_1 _) (by decide) rfl (fun ls hl => ?_)
                      refine lv_goto (tgt := 47) hx hb dX8_step_131 (by decide) ?_
                      exact ih47 (k + 1) g_28 (mn_up nq v_23 (nq v_23 + wq k)) ⟨by omega, by omega⟩ (by omega) (mn_nq hnq eg_28) (by have h9 : mn_sum wq (k + 1) = mn_sum wq k + wq k := rfl; rw [mn_sum_ad (by omega)]; omega) _ _ (hP.sub [0, 1, 2, 3] rfl) (hD.sub [0, 1, 2, 3] (by decide) rfl) hS _ (lv_sub hl [2, 3, 4, 0] rfl)
                    · skip
                      have ic_21 := ci_ne (rfl : Int32.toInt r_20 = _) (show Int32.toInt 0 = 0 by decide) c_21
                      refine lv_aload_n hx hb dX8_step_71 rfl (lv_at hl 0 rfl) ?_
                      refine lv_aload_n hx hb dX8_step_72 rfl (lv_at hl 0 rfl) ?_
                      refine lv_iload_n hx hb dX8_step_73 rfl (lv_at hl 2 rfl) ?_
                      refine lv_iload_n hx hb dX8_step_74 rfl (lv_at hl 3 rfl) ?_
                      refine lv_aload_n hx hb dX8_step_75 rfl (lv_at hl 0 rfl) ?_
                      refine va_get (D := (dC, dI)) (ci := 6) (v := .ref st) (C := RX8) (T := TX8) (N := 14) hx hb hts hnX8_step_X8 hown hK hP 0 rfl rfl 0 (by decide) (hts (.fieldLink RX8 7 "RingMeetsModel" "state" "[I") (by decide +kernel)) (fun _ h9 => h9) rfl dX8_step_76 ?_
                      refine lv_iconst (v := 1) hx hb dX8_step_79 (by decide) ?_
                      refine lv_iload_n hx hb dX8_step_80 rfl (lv_at hl 3 rfl) ?_
                      refine lv_iadd hx hb dX8_step_81 ?_
                      refine lv_topi (fun x_29 ex_29 => ?_)
                      obtain rfl : (nI (1 + k)) = x_29 := (ex_29.trans (nI_add 1 _)).symm
                      refine va_iald (D := (dC, dI)) hx hb hK hP 1 0 rfl rfl (vp_in_nI (n := (1 + k)) (N := 72) (by omega) (by omega)) dX8_step_82 ?_
                      refine lv_topi (fun x_30 ex_30 => ?_)
                      rw [nI_clamp (n := (1 + k)) (by omega)] at ex_30
                      obtain rfl : (nI (wq k)) = x_30 := (ex_30.trans (hwk _ (by omega))).symm
                      refine lv_iconst (v := 1) hx hb dX8_step_83 (by decide) ?_
                      refine lv_icmp_le (tgt := 91) hx hb dX8_step_84 (by decide) (fun c_31 => ?_) (fun c_31 => ?_)
                      · skip
                        have ic_31 := ci_le (nI_toInt (n := (wq k)) (by omega)) (show Int32.toInt 1 = 1 by decide) c_31
                        refine lv_iconst (v := 0) hx hb dX8_step_91 (by decide) ?_
                        refine vp_callSi (va_Run.run (va_runV (As := [.int (nb_st (nI (mn_code wq n)) n), .int (nI k), .int 0]) (rest := [.ref m0]) ⟨hx, hb, hml, hown, hts⟩ (mX8_ruleOf l dC dI cyI cyZ m0 st im kq pw nx li il mv so la co d6 d11 d12 n fs zz k (nb_st (nI (mn_code wq n)) n) 0 hn3 hn h0f hzf hz10 (by omega) hbs) (cwV 3 hts gX8_step_X8_ruleOf rfl rfl rfl (by decide +kernel) ⟨Nat.le_of_ble_eq_true rfl, Nat.le_of_ble_eq_true rfl⟩) (bs_RV hB (hP.sub (ws' := [(m0, .inr (6, [.ref st, .ref im, .ref kq, .ref pw, .ref nx, .ref li, .int d6, .ref il, .ref mv, .ref so, .ref la, .int d11, .int d12, .ref co])), (st, .inl (cyI, 72, .inl fs))]) [0, 1] rfl) 0 rfl rfl) rfl rfl hl.1 rfl (lv_room (Nat.le_of_ble_eq_true rfl)) dX8_step_92 ⟨Nat.le_of_ble_eq_true rfl, Nat.le_of_ble_eq_true rfl⟩)) (fun r_32 hr_32 => ?_)
                        refine vp_callSi (va_Run.run (va_runV (As := [.int r_32]) (rest := []) ⟨hx, hb, hml, hown, hts⟩ (mX8_doneBy l dC dI cyI cyZ m0 st im kq pw nx li il mv so la co d6 d11 d12 zz fs r_32 hzf hz10 hr_32) (cwV 1 hts gX8_step_X8_doneBy rfl rfl rfl (by decide +kernel) ⟨Nat.le_of_ble_eq_true rfl, Nat.le_of_ble_eq_true rfl⟩) (bs_RV hB (hP.sub (ws' := [(m0, .inr (6, [.ref st, .ref im, .ref kq, .ref pw, .ref nx, .ref li, .int d6, .ref il, .ref mv, .ref so, .ref la, .int d11, .int d12, .ref co])), (st, .inl (cyI, 72, .inl fs))]) [0, 1] rfl) 0 rfl rfl) rfl rfl hl.1 rfl (lv_room (Nat.le_of_ble_eq_true rfl)) dX8_step_95 ⟨Nat.le_of_ble_eq_true rfl, Nat.le_of_ble_eq_true rfl⟩)) (fun r_33 hr_33 => ?_)
                        refine lv_goto (tgt := 102) hx hb dX8_step_98 (by decide) ?_
                        refine lv_istore (lv' := [(4, .int r_33), (0, .ref m0), (1, .int p1), (2, .int (nb_st (nI (mn_code wq n)) n)), (3, .int (nI k))]) hx hb dX8_step_102 hl (by decide) rfl (fun ls hl => ?_)
                        refine lv_aload_n hx hb dX8_step_104 rfl (lv_at hl 1 rfl) ?_
                        refine va_get (D := (dC, dI)) (ci := 6) (v := .ref nx) (C := RX8) (T := TX8) (N := 14) hx hb hts hnX8_step_X8 hown hK hP 0 rfl rfl 4 (by decide) (hts (.fieldLink RX8 23 "RingMeetsModel" "next" "[I") (by decide +kernel)) (fun _ h9 => h9) rfl dX8_step_105 ?_
                        refine lv_aload_n hx hb dX8_step_108 rfl (lv_at hl 1 rfl) ?_
                        refine lv_iload_n hx hb dX8_step_109 rfl (lv_at hl 3 rfl) ?_
                        refine lv_iload_n hx hb dX8_step_110 rfl (lv_at hl 4 rfl) ?_
                        refine lv_iload hx hb dX8_step_111 (lv_at hl 0 rfl) ?_
                        refine vp_callSi (va_Run.run (va_runV (As := [.int (nb_st (nI (mn_code wq n)) n), .int (nI k), .int r_33]) (rest := [.ref nx]) ⟨hx, hb, hml, hown, hts⟩ (mX8_behind l dC dI cyI cyZ m0 st im kq pw nx li il mv so la co d6 d11 d12 n fs k (nb_st (nI (mn_code wq n)) n) r_33 hn3 hn h0f (by omega) hbs) (cwV 3 hts gX8_step_X8_behind rfl rfl rfl (by decide +kernel) ⟨Nat.le_of_ble_eq_true rfl, Nat.le_of_ble_eq_true rfl⟩) (bs_RV hB (hP.sub (ws' := [(m0, .inr (6, [.ref st, .ref im, .ref kq, .ref pw, .ref nx, .ref li, .int d6, .ref il, .ref mv, .ref so, .ref la, .int d11, .int d12, .ref co])), (st, .inl (cyI, 72, .inl fs))]) [0, 1] rfl) 0 rfl rfl) rfl rfl hl.1 rfl (lv_room (Nat.le_of_ble_eq_true rfl)) dX8_step_113 ⟨Nat.le_of_ble_eq_true rfl, Nat.le_of_ble_eq_true rfl⟩)) (fun r_34 hr_34 => ?_)
                        obtain ⟨v_35, lv_35, ev_35⟩ := hr_34
                        obtain rfl : nI v_35 = r_34 := Eq.symm ev_35
                        refine lv_dup2_11 hx hb dX8_step_116 rfl rfl ?_
                        refine va_iald (D := (dC, dI)) hx hb hK hP 3 0 rfl rfl (vp_in_nI (n := v_35) (N := 10) (by omega) (by omega)) dX8_step_117 ?_
                        refine lv_topi (fun x_36 ex_36 => ?_)
                        rw [nI_clamp (n := v_35) (by omega)] at ex_36
                        obtain rfl : (nI (nq v_35)) = x_36 := (ex_36.trans (hnq _ (by omega))).symm
                        refine lv_aload_n hx hb dX8_step_118 rfl (lv_at hl 1 rfl) ?_
                        refine va_get (D := (dC, dI)) (ci := 6) (v := .ref st) (C := RX8) (T := TX8) (N := 14) hx hb hts hnX8_step_X8 hown hK hP 0 rfl rfl 0 (by decide) (hts (.fieldLink RX8 7 "RingMeetsModel" "state" "[I") (by decide +kernel)) (fun _ h9 => h9) rfl dX8_step_119 ?_
                        refine lv_iconst (v := 1) hx hb dX8_step_122 (by decide) ?_
                        refine lv_iload_n hx hb dX8_step_123 rfl (lv_at hl 4 rfl) ?_
                        refine lv_iadd hx hb dX8_step_124 ?_
                        refine lv_topi (fun x_37 ex_37 => ?_)
                        obtain rfl : (nI (1 + k)) = x_37 := (ex_37.trans (nI_add 1 _)).symm
                        refine va_iald (D := (dC, dI)) hx hb hK hP 1 0 rfl rfl (vp_in_nI (n := (1 + k)) (N := 72) (by omega) (by omega)) dX8_step_125 ?_
                        refine lv_topi (fun x_38 ex_38 => ?_)
                        rw [nI_clamp (n := (1 + k)) (by omega)] at ex_38
                        obtain rfl : (nI (wq k)) = x_38 := (ex_38.trans (hwk _ (by omega))).symm
                        refine lv_iadd hx hb dX8_step_126 ?_
                        refine lv_topi (fun x_39 ex_39 => ?_)
                        obtain rfl : (nI ((nq v_35) + (wq k))) = x_39 := (ex_39.trans (nI_add _ _)).symm
                        refine va_iast (D := (dC, dI)) hx hb hK hP hD hS 3 0 rfl rfl (vp_in_nI (n := v_35) (N := 10) (by omega) (by omega)) dX8_step_127 (fun H locs hP hD hS => ?_)
                        obtain ⟨g_40, eg_40⟩ : ∃ y : Nat → Int32, y = upd fn2 (Int32.toNatClampNeg (nI v_35)) (nI ((nq v_35) + (wq k))) := ⟨_, rfl⟩
                        have hP : va_P (dC, dI) vwCl [(m0, .inr (6, [.ref st, .ref im, .ref kq, .ref pw, .ref nx, .ref li, .int d6, .ref il, .ref mv, .ref so, .ref la, .int d11, .int d12, .ref co])), (st, .inl (cyI, 72, .inl fs)), (pw, .inl (cyI, 11, .inl fp)), (nx, .inl (cyI, 10, .inl g_40))] H := by rw [eg_40]; exact hP
                        have hD : va_D A [(m0, .inr (6, [.ref st, .ref im, .ref kq, .ref pw, .ref nx, .ref li, .int d6, .ref il, .ref mv, .ref so, .ref la, .int d11, .int d12, .ref co])), (st, .inl (cyI, 72, .inl fs)), (pw, .inl (cyI, 11, .inl fp)), (nx, .inl (cyI, 10, .inl g_40))] := by rw [eg_40]; exact hD
                        rw [nI_clamp (n := v_35) (by omega)] at eg_40
                        refine lv_iinc (v := (nI (k + 1))) (lv' := [(3, .int (nI (k + 1))), (4, .int r_33), (0, .ref m0), (1, .int p1), (2, .int (nb_st (nI (mn_code wq n)) n))]) hx hb dX8_step_128 hl (k := 4) rfl (nI_1 _) (by decide) rfl (fun ls hl => ?_)
                        refine lv_goto (tgt := 47) hx hb dX8_step_131 (by decide) ?_
                        exact ih47 (k + 1) g_40 (mn_up nq v_35 (nq v_35 + wq k)) ⟨by omega, by omega⟩ (by omega) (mn_nq hnq eg_40) (by have h9 : mn_sum wq (k + 1) = mn_sum wq k + wq k := rfl; rw [mn_sum_ad (by omega)]; omega) _ _ (hP.sub [0, 1, 2, 3] rfl) (hD.sub [0, 1, 2, 3] (by decide) rfl) hS _ (lv_sub hl [2, 3, 4, 0] rfl)
                      · skip
                        have ic_31 := ci_nle (nI_toInt (n := (wq k)) (by omega)) (show Int32.toInt 1 = 1 by decide) c_31
                        refine lv_iconst (v := 1) hx hb dX8_step_87 (by decide) ?_
                        refine lv_goto (tgt := 92) hx hb dX8_step_88 (by decide) ?_
                        refine vp_callSi (va_Run.run (va_runV (As := [.int (nb_st (nI (mn_code wq n)) n), .int (nI k), .int 1]) (rest := [.ref m0]) ⟨hx, hb, hml, hown, hts⟩ (mX8_ruleOf l dC dI cyI cyZ m0 st im kq pw nx li il mv so la co d6 d11 d12 n fs zz k (nb_st (nI (mn_code wq n)) n) 1 hn3 hn h0f hzf hz10 (by omega) hbs) (cwV 3 hts gX8_step_X8_ruleOf rfl rfl rfl (by decide +kernel) ⟨Nat.le_of_ble_eq_true rfl, Nat.le_of_ble_eq_true rfl⟩) (bs_RV hB (hP.sub (ws' := [(m0, .inr (6, [.ref st, .ref im, .ref kq, .ref pw, .ref nx, .ref li, .int d6, .ref il, .ref mv, .ref so, .ref la, .int d11, .int d12, .ref co])), (st, .inl (cyI, 72, .inl fs))]) [0, 1] rfl) 0 rfl rfl) rfl rfl hl.1 rfl (lv_room (Nat.le_of_ble_eq_true rfl)) dX8_step_92 ⟨Nat.le_of_ble_eq_true rfl, Nat.le_of_ble_eq_true rfl⟩)) (fun r_41 hr_41 => ?_)
                        refine vp_callSi (va_Run.run (va_runV (As := [.int r_41]) (rest := []) ⟨hx, hb, hml, hown, hts⟩ (mX8_doneBy l dC dI cyI cyZ m0 st im kq pw nx li il mv so la co d6 d11 d12 zz fs r_41 hzf hz10 hr_41) (cwV 1 hts gX8_step_X8_doneBy rfl rfl rfl (by decide +kernel) ⟨Nat.le_of_ble_eq_true rfl, Nat.le_of_ble_eq_true rfl⟩) (bs_RV hB (hP.sub (ws' := [(m0, .inr (6, [.ref st, .ref im, .ref kq, .ref pw, .ref nx, .ref li, .int d6, .ref il, .ref mv, .ref so, .ref la, .int d11, .int d12, .ref co])), (st, .inl (cyI, 72, .inl fs))]) [0, 1] rfl) 0 rfl rfl) rfl rfl hl.1 rfl (lv_room (Nat.le_of_ble_eq_true rfl)) dX8_step_95 ⟨Nat.le_of_ble_eq_true rfl, Nat.le_of_ble_eq_true rfl⟩)) (fun r_42 hr_42 => ?_)
                        refine lv_goto (tgt := 102) hx hb dX8_step_98 (by decide) ?_
                        refine lv_istore (lv' := [(4, .int r_42), (0, .ref m0), (1, .int p1), (2, .int (nb_st (nI (mn_code wq n)) n)), (3, .int (nI k))]) hx hb dX8_step_102 hl (by decide) rfl (fun ls hl => ?_)
                        refine lv_aload_n hx hb dX8_step_104 rfl (lv_at hl 1 rfl) ?_
                        refine va_get (D := (dC, dI)) (ci := 6) (v := .ref nx) (C := RX8) (T := TX8) (N := 14) hx hb hts hnX8_step_X8 hown hK hP 0 rfl rfl 4 (by decide) (hts (.fieldLink RX8 23 "RingMeetsModel" "next" "[I") (by decide +kernel)) (fun _ h9 => h9) rfl dX8_step_105 ?_
                        refine lv_aload_n hx hb dX8_step_108 rfl (lv_at hl 1 rfl) ?_
                        refine lv_iload_n hx hb dX8_step_109 rfl (lv_at hl 3 rfl) ?_
                        refine lv_iload_n hx hb dX8_step_110 rfl (lv_at hl 4 rfl) ?_
                        refine lv_iload hx hb dX8_step_111 (lv_at hl 0 rfl) ?_
                        refine vp_callSi (va_Run.run (va_runV (As := [.int (nb_st (nI (mn_code wq n)) n), .int (nI k), .int r_42]) (rest := [.ref nx]) ⟨hx, hb, hml, hown, hts⟩ (mX8_behind l dC dI cyI cyZ m0 st im kq pw nx li il mv so la co d6 d11 d12 n fs k (nb_st (nI (mn_code wq n)) n) r_42 hn3 hn h0f (by omega) hbs) (cwV 3 hts gX8_step_X8_behind rfl rfl rfl (by decide +kernel) ⟨Nat.le_of_ble_eq_true rfl, Nat.le_of_ble_eq_true rfl⟩) (bs_RV hB (hP.sub (ws' := [(m0, .inr (6, [.ref st, .ref im, .ref kq, .ref pw, .ref nx, .ref li, .int d6, .ref il, .ref mv, .ref so, .ref la, .int d11, .int d12, .ref co])), (st, .inl (cyI, 72, .inl fs))]) [0, 1] rfl) 0 rfl rfl) rfl rfl hl.1 rfl (lv_room (Nat.le_of_ble_eq_true rfl)) dX8_step_113 ⟨Nat.le_of_ble_eq_true rfl, Nat.le_of_ble_eq_true rfl⟩)) (fun r_43 hr_43 => ?_)
                        obtain ⟨v_44, lv_44, ev_44⟩ := hr_43
                        obtain rfl : nI v_44 = r_43 := Eq.symm ev_44
                        refine lv_dup2_11 hx hb dX8_step_116 rfl rfl ?_
                        refine va_iald (D := (dC, dI)) hx hb hK hP 3 0 rfl rfl (vp_in_nI (n := v_44) (N := 10) (by omega) (by omega)) dX8_step_117 ?_
                        refine lv_topi (fun x_45 ex_45 => ?_)
                        rw [nI_clamp (n := v_44) (by omega)] at ex_45
                        obtain rfl : (nI (nq v_44)) = x_45 := (ex_45.trans (hnq _ (by omega))).symm
                        refine lv_aload_n hx hb dX8_step_118 rfl (lv_at hl 1 rfl) ?_
                        refine va_get (D := (dC, dI)) (ci := 6) (v := .ref st) (C := RX8) (T := TX8) (N := 14) hx hb hts hnX8_step_X8 hown hK hP 0 rfl rfl 0 (by decide) (hts (.fieldLink RX8 7 "RingMeetsModel" "state" "[I") (by decide +kernel)) (fun _ h9 => h9) rfl dX8_step_119 ?_
                        refine lv_iconst (v := 1) hx hb dX8_step_122 (by decide) ?_
                        refine lv_iload_n hx hb dX8_step_123 rfl (lv_at hl 4 rfl) ?_
                        refine lv_iadd hx hb dX8_step_124 ?_
                        refine lv_topi (fun x_46 ex_46 => ?_)
                        obtain rfl : (nI (1 + k)) = x_46 := (ex_46.trans (nI_add 1 _)).symm
                        refine va_iald (D := (dC, dI)) hx hb hK hP 1 0 rfl rfl (vp_in_nI (n := (1 + k)) (N := 72) (by omega) (by omega)) dX8_step_125 ?_
                        refine lv_topi (fun x_47 ex_47 => ?_)
                        rw [nI_clamp (n := (1 + k)) (by omega)] at ex_47
                        obtain rfl : (nI (wq k)) = x_47 := (ex_47.trans (hwk _ (by omega))).symm
                        refine lv_iadd hx hb dX8_step_126 ?_
                        refine lv_topi (fun x_48 ex_48 => ?_)
                        obtain rfl : (nI ((nq v_44) + (wq k))) = x_48 := (ex_48.trans (nI_add _ _)).symm
                        refine va_iast (D := (dC, dI)) hx hb hK hP hD hS 3 0 rfl rfl (vp_in_nI (n := v_44) (N := 10) (by omega) (by omega)) dX8_step_127 (fun H locs hP hD hS => ?_)
                        obtain ⟨g_49, eg_49⟩ : ∃ y : Nat → Int32, y = upd fn2 (Int32.toNatClampNeg (nI v_44)) (nI ((nq v_44) + (wq k))) := ⟨_, rfl⟩
                        have hP : va_P (dC, dI) vwCl [(m0, .inr (6, [.ref st, .ref im, .ref kq, .ref pw, .ref nx, .ref li, .int d6, .ref il, .ref mv, .ref so, .ref la, .int d11, .int d12, .ref co])), (st, .inl (cyI, 72, .inl fs)), (pw, .inl (cyI, 11, .inl fp)), (nx, .inl (cyI, 10, .inl g_49))] H := by rw [eg_49]; exact hP
                        have hD : va_D A [(m0, .inr (6, [.ref st, .ref im, .ref kq, .ref pw, .ref nx, .ref li, .int d6, .ref il, .ref mv, .ref so, .ref la, .int d11, .int d12, .ref co])), (st, .inl (cyI, 72, .inl fs)), (pw, .inl (cyI, 11, .inl fp)), (nx, .inl (cyI, 10, .inl g_49))] := by rw [eg_49]; exact hD
                        rw [nI_clamp (n := v_44) (by omega)] at eg_49
                        refine lv_iinc (v := (nI (k + 1))) (lv' := [(3, .int (nI (k + 1))), (4, .int r_42), (0, .ref m0), (1, .int p1), (2, .int (nb_st (nI (mn_code wq n)) n))]) hx hb dX8_step_128 hl (k := 4) rfl (nI_1 _) (by decide) rfl (fun ls hl => ?_)
                        refine lv_goto (tgt := 47) hx hb dX8_step_131 (by decide) ?_
                        exact ih47 (k + 1) g_49 (mn_up nq v_44 (nq v_44 + wq k)) ⟨by omega, by omega⟩ (by omega) (mn_nq hnq eg_49) (by have h9 : mn_sum wq (k + 1) = mn_sum wq k + wq k := rfl; rw [mn_sum_ad (by omega)]; omega) _ _ (hP.sub [0, 1, 2, 3] rfl) (hD.sub [0, 1, 2, 3] (by decide) rfl) hS _ (lv_sub hl [2, 3, 4, 0] rfl)
            exact L47 (n + 1) 0 fn2 (fun _ => 0) ⟨by omega, by omega⟩ (by omega) (fun j hj => hz2 j (by omega)) (Nat.le_of_eq rfl) _ _ (hP.sub [0, 1, 2, 3] rfl) (hD.sub [0, 1, 2, 3] (by decide) rfl) hS _ (lv_sub hl [1, 2, 3, 0] rfl)
          · skip
            have ic_7 := ci_nle (show Int32.toInt 10 = 10 by decide) (nI_toInt (n := k) (by omega)) c_7
            refine lv_aload_n hx hb dX8_step_32 rfl (lv_at hl 0 rfl) ?_
            refine va_get (D := (dC, dI)) (ci := 6) (v := .ref nx) (C := RX8) (T := TX8) (N := 14) hx hb hts hnX8_step_X8 hown hK hP 0 rfl rfl 4 (by decide) (hts (.fieldLink RX8 23 "RingMeetsModel" "next" "[I") (by decide +kernel)) (fun _ h9 => h9) rfl dX8_step_33 ?_
            refine lv_iload_n hx hb dX8_step_36 rfl (lv_at hl 3 rfl) ?_
            refine lv_iconst (v := 0) hx hb dX8_step_37 (by decide) ?_
            refine va_iast (D := (dC, dI)) hx hb hK hP hD hS 3 0 rfl rfl (vp_in_nI (n := k) (N := 10) (by omega) (by omega)) dX8_step_38 (fun H locs hP hD hS => ?_)
            obtain ⟨g_50, eg_50⟩ : ∃ y : Nat → Int32, y = upd fn2 (Int32.toNatClampNeg (nI k)) 0 := ⟨_, rfl⟩
            have hP : va_P (dC, dI) vwCl [(m0, .inr (6, [.ref st, .ref im, .ref kq, .ref pw, .ref nx, .ref li, .int d6, .ref il, .ref mv, .ref so, .ref la, .int d11, .int d12, .ref co])), (st, .inl (cyI, 72, .inl fs)), (pw, .inl (cyI, 11, .inl fp)), (nx, .inl (cyI, 10, .inl g_50))] H := by rw [eg_50]; exact hP
            have hD : va_D A [(m0, .inr (6, [.ref st, .ref im, .ref kq, .ref pw, .ref nx, .ref li, .int d6, .ref il, .ref mv, .ref so, .ref la, .int d11, .int d12, .ref co])), (st, .inl (cyI, 72, .inl fs)), (pw, .inl (cyI, 11, .inl fp)), (nx, .inl (cyI, 10, .inl g_50))] := by rw [eg_50]; exact hD
            rw [nI_clamp (n := k) (by omega)] at eg_50
            refine lv_iinc (v := (nI (k + 1))) (lv' := [(3, .int (nI (k + 1))), (0, .ref m0), (1, .int p1), (2, .int (nb_st (nI (mn_code wq n)) n))]) hx hb dX8_step_39 hl (k := 3) rfl (nI_1 _) (by decide) rfl (fun ls hl => ?_)
            refine lv_goto (tgt := 26) hx hb dX8_step_42 (by decide) ?_
            exact ih26 (k + 1) g_50 ⟨by omega, by omega⟩ (by omega) (fun j hj => by rw [eg_50]; unfold upd; split; rfl; exact hz2 j (by omega)) _ _ (hP.sub [0, 1, 2, 3] rfl) (hD.sub [0, 1, 2, 3] (by decide) rfl) hS _ (lv_sub hl [1, 2, 3, 0] rfl)
      exact L26 (10 + 1) 0 fn ⟨by omega, by omega⟩ (by omega) (fun j hj => by omega) _ _ (hP.sub [0, 1, 2, 3] rfl) (hD.sub [0, 1, 2, 3] (by decide) rfl) hS _ (lv_sub hl [2, 3, 1, 0] rfl)
    · skip
      have ic_6 := ci_ne (rfl : Int32.toInt x_5 = _) (show Int32.toInt 0 = 0 by decide) c_6
      refine lv_bipush (v := (-2)) hx hb dX8_step_21 (by decide) ?_
      exact W.iret (v := (-2)) hx hb hr (fun t ht hW => ⟨⟨(-2), (fs, fn), rfl, ⟨n, wq, zz, hn3, hn, h0f, hwk, hws, hzf, hz10⟩, ⟨by rw [ht]; exact hP.sub (ws' := [(m0, .inr (6, [.ref st, .ref im, .ref kq, .ref pw, .ref nx, .ref li, .int d6, .ref il, .ref mv, .ref so, .ref la, .int d11, .int d12, .ref co])), (st, .inl (cyI, 72, .inl fs)), (pw, .inl (cyI, 11, .inl fp)), (nx, .inl (cyI, 10, .inl fn))]) [0, 1, 2, 3] rfl, hD.sub (ws' := [(m0, .inr (6, [.ref st, .ref im, .ref kq, .ref pw, .ref nx, .ref li, .int d6, .ref il, .ref mv, .ref so, .ref la, .int d11, .int d12, .ref co])), (st, .inl (cyI, 72, .inl fs)), (pw, .inl (cyI, 11, .inl fp)), (nx, .inl (cyI, 10, .inl fn))]) [0, 1, 2, 3] (by decide) rfl⟩⟩, hS.F ht⟩) hS.2.2 dX8_step_23
