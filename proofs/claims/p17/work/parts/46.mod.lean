theorem hnX8_note_X8 : ∀ w ∈ wsX80, w ∈ wsX8_note := fun _ h => List.mem_cons_of_mem _ (List.mem_append_right _ h)
set_option maxHeartbeats 4000000 in
set_option maxRecDepth 100000 in
theorem mX8_note (l : Launch) (dC : Nat → ClassId) (dI : Nat → Nat → Nat) (cyI cyZ : ClassId) (m0 : Nat) (st : Nat) (im : Nat) (kq : Nat) (pw : Nat) (nx : Nat) (li : Nat) (il : Nat) (mv : Nat) (so : Nat) (la : Nat) (co : Nat) (L : Nat) (d11 : Int32) (d12 : Int32) (n : Nat) (fs : Nat → Int32) (fp : Nat → Int32) (zz : Nat) (cv : Nat) (lf : Nat → Int32) (ilf : Nat → Int32) (mf : Nat → Int32) (hn3 : 3 ≤ n) (hn : n ≤ 10) (h0f : fs 0 = nI n) (hp : ∀ j, j ≤ 10 → fp j = nI (3 ^ j)) (hzf : fs 11 = nI zz) (hz10 : zz ≤ 10) (hcv : cv < 3 ^ n) (hL : mn_L n L lf ilf) (sz : Nat) : Met l yX8_note wsX8_note ({ frames := 8, cells := 0, slots := 0, locals := 194 }) (bs_W dC dI cyI cyZ [.ref m0, .int (nI cv)] [(m0, .inr (6, [.ref st, .ref im, .ref kq, .ref pw, .ref nx, .ref li, .int (nI L), .ref il, .ref mv, .ref so, .ref la, .int d11, .int d12, .ref co])), (st, .inl (cyI, 72, .inl fs)), (pw, .inl (cyI, 11, .inl fp)), (li, .inl (cyI, 59049, .inl lf)), (il, .inl (cyZ, 59049, .inl ilf)), (mv, .inl (cyI, 59049, .inl mf))] sz) (va_Qv (S := Nat × Int32 × (Nat → Int32) × (Nat → Int32) × (Nat → Int32)) (fun q : Nat × Int32 × (Nat → Int32) × (Nat → Int32) × (Nat → Int32) => mn_L n q.1 q.2.2.1 q.2.2.2.1 ∧ L ≤ q.1) (fun q t => bs_E dC dI (va_A [(m0, .inr (6, [.ref st, .ref im, .ref kq, .ref pw, .ref nx, .ref li, .int (nI L), .ref il, .ref mv, .ref so, .ref la, .int d11, .int d12, .ref co])), (st, .inl (cyI, 72, .inl fs)), (pw, .inl (cyI, 11, .inl fp)), (li, .inl (cyI, 59049, .inl lf)), (il, .inl (cyZ, 59049, .inl ilf)), (mv, .inl (cyI, 59049, .inl mf))] sz) [(m0, .inr (6, [.ref st, .ref im, .ref kq, .ref pw, .ref nx, .ref li, .int (nI q.1), .ref il, .ref mv, .ref so, .ref la, .int q.2.1, .int d12, .ref co])), (st, .inl (cyI, 72, .inl fs)), (pw, .inl (cyI, 11, .inl fp)), (li, .inl (cyI, 59049, .inl q.2.2.1)), (il, .inl (cyZ, 59049, .inl q.2.2.2.1)), (mv, .inl (cyI, 59049, .inl q.2.2.2.2))] t) (va_A [(m0, .inr (6, [.ref st, .ref im, .ref kq, .ref pw, .ref nx, .ref li, .int (nI L), .ref il, .ref mv, .ref so, .ref la, .int d11, .int d12, .ref co])), (st, .inl (cyI, 72, .inl fs)), (pw, .inl (cyI, 11, .inl fp)), (li, .inl (cyI, 59049, .inl lf)), (il, .inl (cyZ, 59049, .inl ilf)), (mv, .inl (cyI, 59049, .inl mf))] sz)) 0 0 (va_A [(m0, .inr (6, [.ref st, .ref im, .ref kq, .ref pw, .ref nx, .ref li, .int (nI L), .ref il, .ref mv, .ref so, .ref la, .int d11, .int d12, .ref co])), (st, .inl (cyI, 72, .inl fs)), (pw, .inl (cyI, 11, .inl fp)), (li, .inl (cyI, 59049, .inl lf)), (il, .inl (cyZ, 59049, .inl ilf)), (mv, .inl (cyI, 59049, .inl mf))] sz) := by
  refine Met.ofW (cc := cX8_note) (maxL := 7) (ret := none) (by decide) rfl ?_
  intro p e s m args below meth c s₁ B hml hv
  obtain ⟨rfl, hsz, hB, hP, hD0⟩ := hv
  have hK := hB.1
  have hN := hB.2
  have hx := B.exec
  have hb := B.bytes
  have hr := B.returns
  have hts := atoms_spec (ws := wsX8_note) B.pre
  have hown : s.vm.findClass RX8 = some m.cls := findClass_of_methodNamed B.named
  have hlocks := B.notSynchronized
  subst hsz
  have hD := hD0.self (sz := s.heap.size)
  generalize hAe : va_A [(m0, .inr (6, [.ref st, .ref im, .ref kq, .ref pw, .ref nx, .ref li, .int (nI L), .ref il, .ref mv, .ref so, .ref la, .int d11, .int d12, .ref co])), (st, .inl (cyI, 72, .inl fs)), (pw, .inl (cyI, 11, .inl fp)), (li, .inl (cyI, 59049, .inl lf)), (il, .inl (cyZ, 59049, .inl ilf)), (mv, .inl (cyI, 59049, .inl mf))] s.heap.size = A at hD ⊢
  have hA : ∀ q : Nat, s.heap.size ≤ q → A q := fun q h => by rw [← hAe]; exact Or.inr h
  have hS : va_S A s.heap s.heap [] := va_S.rf
  have hP : va_P (dC, dI) vwCl [(m0, .inr (6, [.ref st, .ref im, .ref kq, .ref pw, .ref nx, .ref li, .int (nI L), .ref il, .ref mv, .ref so, .ref la, .int d11, .int d12, .ref co])), (st, .inl (cyI, 72, .inl fs)), (pw, .inl (cyI, 11, .inl fp)), (li, .inl (cyI, 59049, .inl lf)), (il, .inl (cyZ, 59049, .inl ilf)), (mv, .inl (cyI, 59049, .inl mf))] s.heap := hP
  have hl := lv_entry ([.ref m0, .int (nI cv)]) (n := 7) (Nat.le_of_ble_eq_true rfl)
  rw [lg_entry_eq]
  generalize (lg_sl ([.ref m0, .int (nI cv)]) ++ List.replicate (7 - (lg_sl ([.ref m0, .int (nI cv)])).length) Slot.unset).toArray = ls at hl ⊢
  have hl : lv_has ls 7 [(0, .ref m0), (1, .int (nI cv))] := hl
  have hc9 := mn_c9 hn hcv
  refine lv_aload_n hx hb dX8_note_0 rfl (lv_at hl 0 rfl) ?_
  refine va_get (D := (dC, dI)) (ci := 6) (v := .ref il) (C := RX8) (T := TX8) (N := 14) hx hb hts hnX8_note_X8 hown hK hP 0 rfl rfl 7 (by decide) (hts (.fieldLink RX8 30 "RingMeetsModel" "isListed" "[Z") (by decide +kernel)) (fun _ h9 => h9) rfl dX8_note_1 ?_
  refine lv_iload_n hx hb dX8_note_4 rfl (lv_at hl 1 rfl) ?_
  refine va_zald (D := (dC, dI)) hx hb hK hP 4 1 rfl rfl (vp_in_nI (n := cv) (N := 59049) (by omega) (by omega)) dX8_note_5 ?_
  refine lv_topi (fun x_1 ex_1 => ?_)
  rw [nI_clamp (n := cv) (by omega)] at ex_1
  refine lv_if_eq (tgt := 10) hx hb dX8_note_6 (by decide) (fun c_2 => ?_) (fun c_2 => ?_)
  · skip
    have ic_2 := ci_eq (rfl : Int32.toInt x_1 = _) (show Int32.toInt 0 = 0 by decide) c_2
    have hz9 : ilf cv = 0 := ex_1.symm.trans c_2
    have hLt := mn_L_lt hL hc9 hz9
    refine lv_aload_n hx hb dX8_note_10 rfl (lv_at hl 0 rfl) ?_
    refine va_get (D := (dC, dI)) (ci := 6) (v := .ref il) (C := RX8) (T := TX8) (N := 14) hx hb hts hnX8_note_X8 hown hK hP 0 rfl rfl 7 (by decide) (hts (.fieldLink RX8 30 "RingMeetsModel" "isListed" "[Z") (by decide +kernel)) (fun _ h9 => h9) rfl dX8_note_11 ?_
    refine lv_iload_n hx hb dX8_note_14 rfl (lv_at hl 1 rfl) ?_
    refine lv_iconst (v := 1) hx hb dX8_note_15 (by decide) ?_
    refine va_zast (D := (dC, dI)) hx hb hK hP hD hS 4 1 rfl rfl (vp_in_nI (n := cv) (N := 59049) (by omega) (by omega)) dX8_note_16 (fun H locs hP hD hS => ?_)
    obtain ⟨g_3, eg_3⟩ : ∃ y : Nat → Int32, y = upd ilf (Int32.toNatClampNeg (nI cv)) (vp_nar .boolean 1) := ⟨_, rfl⟩
    have hP : va_P (dC, dI) vwCl [(m0, .inr (6, [.ref st, .ref im, .ref kq, .ref pw, .ref nx, .ref li, .int (nI L), .ref il, .ref mv, .ref so, .ref la, .int d11, .int d12, .ref co])), (st, .inl (cyI, 72, .inl fs)), (pw, .inl (cyI, 11, .inl fp)), (li, .inl (cyI, 59049, .inl lf)), (il, .inl (cyZ, 59049, .inl g_3)), (mv, .inl (cyI, 59049, .inl mf))] H := by rw [eg_3]; exact hP
    have hD : va_D A [(m0, .inr (6, [.ref st, .ref im, .ref kq, .ref pw, .ref nx, .ref li, .int (nI L), .ref il, .ref mv, .ref so, .ref la, .int d11, .int d12, .ref co])), (st, .inl (cyI, 72, .inl fs)), (pw, .inl (cyI, 11, .inl fp)), (li, .inl (cyI, 59049, .inl lf)), (il, .inl (cyZ, 59049, .inl g_3)), (mv, .inl (cyI, 59049, .inl mf))] := by rw [eg_3]; exact hD
    rw [nI_clamp (n := cv) (by omega)] at eg_3
    have eg_3 : g_3 = upd ilf cv 1 := eg_3
    refine lv_aload_n hx hb dX8_note_17 rfl (lv_at hl 0 rfl) ?_
    refine va_get (D := (dC, dI)) (ci := 6) (v := .ref li) (C := RX8) (T := TX8) (N := 14) hx hb hts hnX8_note_X8 hown hK hP 0 rfl rfl 5 (by decide) (hts (.fieldLink RX8 27 "RingMeetsModel" "list" "[I") (by decide +kernel)) (fun _ h9 => h9) rfl dX8_note_18 ?_
    refine lv_aload_n hx hb dX8_note_21 rfl (lv_at hl 0 rfl) ?_
    refine va_get (D := (dC, dI)) (ci := 6) (v := .int (nI L)) (C := RX8) (T := TX8) (N := 14) hx hb hts hnX8_note_X8 hown hK hP 0 rfl rfl 6 (by decide) (hts (.fieldLink RX8 128 "RingMeetsModel" "listed" "I") (by decide +kernel)) (fun _ h9 => h9) rfl dX8_note_22 ?_
    refine lv_iload_n hx hb dX8_note_25 rfl (lv_at hl 1 rfl) ?_
    refine va_iast (D := (dC, dI)) hx hb hK hP hD hS 3 0 rfl rfl (vp_in_nI (n := L) (N := 59049) (by omega) (by omega)) dX8_note_26 (fun H locs hP hD hS => ?_)
    obtain ⟨g_4, eg_4⟩ : ∃ y : Nat → Int32, y = upd lf (Int32.toNatClampNeg (nI L)) (nI cv) := ⟨_, rfl⟩
    have hP : va_P (dC, dI) vwCl [(m0, .inr (6, [.ref st, .ref im, .ref kq, .ref pw, .ref nx, .ref li, .int (nI L), .ref il, .ref mv, .ref so, .ref la, .int d11, .int d12, .ref co])), (st, .inl (cyI, 72, .inl fs)), (pw, .inl (cyI, 11, .inl fp)), (li, .inl (cyI, 59049, .inl g_4)), (il, .inl (cyZ, 59049, .inl g_3)), (mv, .inl (cyI, 59049, .inl mf))] H := by rw [eg_4]; exact hP
    have hD : va_D A [(m0, .inr (6, [.ref st, .ref im, .ref kq, .ref pw, .ref nx, .ref li, .int (nI L), .ref il, .ref mv, .ref so, .ref la, .int d11, .int d12, .ref co])), (st, .inl (cyI, 72, .inl fs)), (pw, .inl (cyI, 11, .inl fp)), (li, .inl (cyI, 59049, .inl g_4)), (il, .inl (cyZ, 59049, .inl g_3)), (mv, .inl (cyI, 59049, .inl mf))] := by rw [eg_4]; exact hD
    rw [nI_clamp (n := L) (by omega)] at eg_4
    refine lv_aload_n hx hb dX8_note_27 rfl (lv_at hl 0 rfl) ?_
    refine lv_dup hx hb dX8_note_28 rfl ?_
    refine va_get (D := (dC, dI)) (ci := 6) (v := .int (nI L)) (C := RX8) (T := TX8) (N := 14) hx hb hts hnX8_note_X8 hown hK hP 0 rfl rfl 6 (by decide) (hts (.fieldLink RX8 128 "RingMeetsModel" "listed" "I") (by decide +kernel)) (fun _ h9 => h9) rfl dX8_note_29 ?_
    refine lv_iconst (v := 1) hx hb dX8_note_32 (by decide) ?_
    refine lv_iadd hx hb dX8_note_33 ?_
    refine lv_topi (fun x_5 ex_5 => ?_)
    obtain rfl : (nI (L + 1)) = x_5 := (ex_5.trans (nI_1 _)).symm
    refine va_put (D := (dC, dI)) (ci := 6) (v := .int (nI (L + 1))) (ty := .int) (C := RX8) (T := TX8) (N := 14) hx hb hts hnX8_note_X8 tyX8 tyX8_ok nmX8 hown hK hP hD hS 0 rfl rfl 6 (by decide) (hts (.fieldLink RX8 128 "RingMeetsModel" "listed" "I") (by decide +kernel)) (fun _ h9 => h9) rfl (by decide +kernel) rfl rfl (Nat.le_of_ble_eq_true rfl) dX8_note_34 (fun H locs hP hD hS => ?_)
    have hP : va_P (dC, dI) vwCl [(m0, .inr (6, [.ref st, .ref im, .ref kq, .ref pw, .ref nx, .ref li, .int (nI (L + 1)), .ref il, .ref mv, .ref so, .ref la, .int d11, .int d12, .ref co])), (st, .inl (cyI, 72, .inl fs)), (pw, .inl (cyI, 11, .inl fp)), (li, .inl (cyI, 59049, .inl g_4)), (il, .inl (cyZ, 59049, .inl g_3)), (mv, .inl (cyI, 59049, .inl mf))] _ := hP
    have hD : va_D A [(m0, .inr (6, [.ref st, .ref im, .ref kq, .ref pw, .ref nx, .ref li, .int (nI (L + 1)), .ref il, .ref mv, .ref so, .ref la, .int d11, .int d12, .ref co])), (st, .inl (cyI, 72, .inl fs)), (pw, .inl (cyI, 11, .inl fp)), (li, .inl (cyI, 59049, .inl g_4)), (il, .inl (cyZ, 59049, .inl g_3)), (mv, .inl (cyI, 59049, .inl mf))] := hD
    have hL2 := mn_L_note hL hn hcv hz9 eg_3 eg_4
    refine lv_aload_n hx hb dX8_note_37 rfl (lv_at hl 0 rfl) ?_
    refine lv_iload_n hx hb dX8_note_38 rfl (lv_at hl 1 rfl) ?_
    refine vp_callSi (va_Run.run (va_runV (As := [.int (nI cv)]) (rest := []) ⟨hx, hb, hml, hown, hts⟩ (mX8_standsOf l dC dI cyI cyZ m0 st im kq pw nx li il mv so la co (nI (L + 1)) d11 d12 n fs fp (nI cv) hn3 hn h0f hp) (cwV 1 hts gX8_note_X8_standsOf rfl rfl rfl (by decide +kernel) ⟨Nat.le_of_ble_eq_true rfl, Nat.le_of_ble_eq_true rfl⟩) (bs_RV hB (hP.sub (ws' := [(m0, .inr (6, [.ref st, .ref im, .ref kq, .ref pw, .ref nx, .ref li, .int (nI (L + 1)), .ref il, .ref mv, .ref so, .ref la, .int d11, .int d12, .ref co])), (st, .inl (cyI, 72, .inl fs)), (pw, .inl (cyI, 11, .inl fp))]) [0, 1, 2] rfl) 0 rfl rfl) rfl rfl hl.1 rfl (lv_room (Nat.le_of_ble_eq_true rfl)) dX8_note_39 ⟨Nat.le_of_ble_eq_true rfl, Nat.le_of_ble_eq_true rfl⟩)) (fun r_6 hr_6 => ?_)
    obtain rfl : (nb_st (nI cv) n) = r_6 := Eq.symm hr_6
    refine lv_istore_n (lv' := [(2, .int (nb_st (nI cv) n)), (0, .ref m0), (1, .int (nI cv))]) hx hb dX8_note_42 rfl hl (by decide) rfl (fun ls hl => ?_)
    refine lv_iconst (v := 0) hx hb dX8_note_43 (by decide) ?_
    refine lv_istore_n (lv' := [(3, .int 0), (2, .int (nb_st (nI cv) n)), (0, .ref m0), (1, .int (nI cv))]) hx hb dX8_note_44 rfl hl (by decide) rfl (fun ls hl => ?_)
    refine lv_iconst (v := 0) hx hb dX8_note_45 (by decide) ?_
    refine lv_istore (lv' := [(4, .int 0), (3, .int 0), (2, .int (nb_st (nI cv) n)), (0, .ref m0), (1, .int (nI cv))]) hx hb dX8_note_46 hl (by decide) rfl (fun ls hl => ?_)
    have L48 : ∀ (n48 : Nat), ∀ (k : Nat) (ya ub : Int32), (0 ≤ k ∧ k ≤ n) → (n + 1 ≤ k + n48) → ∀ (H : Heap) (locs : List Loc), va_P (dC, dI) vwCl [(m0, .inr (6, [.ref st, .ref im, .ref kq, .ref pw, .ref nx, .ref li, .int (nI (L + 1)), .ref il, .ref mv, .ref so, .ref la, .int ub, .int d12, .ref co])), (st, .inl (cyI, 72, .inl fs)), (pw, .inl (cyI, 11, .inl fp)), (li, .inl (cyI, 59049, .inl g_4)), (il, .inl (cyZ, 59049, .inl g_3)), (mv, .inl (cyI, 59049, .inl mf))] H → va_D A [(m0, .inr (6, [.ref st, .ref im, .ref kq, .ref pw, .ref nx, .ref li, .int (nI (L + 1)), .ref il, .ref mv, .ref so, .ref la, .int ub, .int d12, .ref co])), (st, .inl (cyI, 72, .inl fs)), (pw, .inl (cyI, 11, .inl fp)), (li, .inl (cyI, 59049, .inl g_4)), (il, .inl (cyZ, 59049, .inl g_3)), (mv, .inl (cyI, 59049, .inl mf))] → va_S A s.heap H locs → ∀ (ls : Array Slot), lv_has ls 7 [(0, .ref m0), (1, .int (nI cv)), (2, .int (nb_st (nI cv) n)), (3, .int ya), (4, .int (nI k))] → W p l e (headSpec wsX8_note ({ frames := 8, cells := 0, slots := 0, locals := 194 })).room s m ([.ref m0, .int (nI cv)] : List Value).toArray below meth c H locs 0 0 (MQ below (va_Qv (S := Nat × Int32 × (Nat → Int32) × (Nat → Int32) × (Nat → Int32)) (fun q : Nat × Int32 × (Nat → Int32) × (Nat → Int32) × (Nat → Int32) => mn_L n q.1 q.2.2.1 q.2.2.2.1 ∧ L ≤ q.1) (fun q t => bs_E dC dI A [(m0, .inr (6, [.ref st, .ref im, .ref kq, .ref pw, .ref nx, .ref li, .int (nI q.1), .ref il, .ref mv, .ref so, .ref la, .int q.2.1, .int d12, .ref co])), (st, .inl (cyI, 72, .inl fs)), (pw, .inl (cyI, 11, .inl fp)), (li, .inl (cyI, 59049, .inl q.2.2.1)), (il, .inl (cyZ, 59049, .inl q.2.2.2.1)), (mv, .inl (cyI, 59049, .inl q.2.2.2.2))] t) A) ([.ref m0, .int (nI cv)] : List Value).toArray s 0 0 A) (F0 m 48 ls []) := by
      intro n48
      induction n48 with
      | zero =>
        intro k ya ub hk48 hn48 H locs hP hD hS ls hl
        exfalso
        omega
      | succ n48 ih48 =>
        intro k ya ub hk48 hn48 H locs hP hD hS ls hl
        refine lv_iload hx hb dX8_note_48 (lv_at hl 4 rfl) ?_
        refine lv_aload_n hx hb dX8_note_50 rfl (lv_at hl 0 rfl) ?_
        refine vp_callSi (va_Run.run (va_runV (As := []) (rest := [.int (nI k)]) ⟨hx, hb, hml, hown, hts⟩ (mX8_cells l dC dI cyI cyZ m0 st im kq pw nx li il mv so la co (nI (L + 1)) ub d12 n fs hn3 hn h0f) (cwV 0 hts gX8_note_X8_cells rfl rfl rfl (by decide +kernel) ⟨Nat.le_of_ble_eq_true rfl, Nat.le_of_ble_eq_true rfl⟩) (bs_RV hB (hP.sub (ws' := [(m0, .inr (6, [.ref st, .ref im, .ref kq, .ref pw, .ref nx, .ref li, .int (nI (L + 1)), .ref il, .ref mv, .ref so, .ref la, .int ub, .int d12, .ref co])), (st, .inl (cyI, 72, .inl fs))]) [0, 1] rfl) 0 rfl rfl) rfl rfl hl.1 rfl (lv_room (Nat.le_of_ble_eq_true rfl)) dX8_note_51 ⟨Nat.le_of_ble_eq_true rfl, Nat.le_of_ble_eq_true rfl⟩)) (fun r_7 hr_7 => ?_)
        obtain rfl : (nI n) = r_7 := Eq.symm hr_7
        refine lv_icmp_ge (tgt := 192) hx hb dX8_note_54 (by decide) (fun c_8 => ?_) (fun c_8 => ?_)
        · skip
          have ic_8 := ci_le (nI_toInt (n := n) (by omega)) (nI_toInt (n := k) (by omega)) c_8
          refine lv_aload_n hx hb dX8_note_192 rfl (lv_at hl 0 rfl) ?_
          refine va_get (D := (dC, dI)) (ci := 6) (v := .ref mv) (C := RX8) (T := TX8) (N := 14) hx hb hts hnX8_note_X8 hown hK hP 0 rfl rfl 8 (by decide) (hts (.fieldLink RX8 33 "RingMeetsModel" "moves" "[I") (by decide +kernel)) (fun _ h9 => h9) rfl dX8_note_193 ?_
          refine lv_iload_n hx hb dX8_note_196 rfl (lv_at hl 1 rfl) ?_
          refine lv_iload_n hx hb dX8_note_197 rfl (lv_at hl 2 rfl) ?_
          refine vp_callSi (va_Run.run (va_runS (As := [.int (nb_st (nI cv) n)]) (rest := [.int (nI cv), .ref mv]) ⟨hx, hb, hml, hown, hts⟩ (mX8_size l dC dI cyI cyZ (nb_st (nI cv) n) ) (va_cwS 1 hts gX8_note_X8_size rfl rfl rfl (by decide +kernel) ⟨Nat.le_of_ble_eq_true rfl, Nat.le_of_ble_eq_true rfl⟩) (bs_RS hB (hP.sub (ws' := []) [] rfl)) rfl rfl hl.1 rfl (lv_room (Nat.le_of_ble_eq_true rfl)) dX8_note_198 ⟨Nat.le_of_ble_eq_true rfl, Nat.le_of_ble_eq_true rfl⟩)) (fun r_9 hr_9 => ?_)
          obtain ⟨v_10, lv_10, ev_10⟩ := hr_9
          obtain rfl : nI v_10 = r_9 := Eq.symm ev_10
          refine lv_iconst (v := 2) hx hb dX8_note_201 (by decide) ?_
          refine lv_icmp_ge (tgt := 209) hx hb dX8_note_202 (by decide) (fun c_11 => ?_) (fun c_11 => ?_)
          · skip
            have ic_11 := ci_le (show Int32.toInt 2 = 2 by decide) (nI_toInt (n := v_10) (by omega)) c_11
            refine lv_iload_n hx hb dX8_note_209 rfl (lv_at hl 3 rfl) ?_
            refine va_iast (D := (dC, dI)) hx hb hK hP hD hS 5 0 rfl rfl (vp_in_nI (n := cv) (N := 59049) (by omega) (by omega)) dX8_note_210 (fun H locs hP hD hS => ?_)
            obtain ⟨g_12, eg_12⟩ : ∃ y : Nat → Int32, y = upd mf (Int32.toNatClampNeg (nI cv)) ya := ⟨_, rfl⟩
            have hP : va_P (dC, dI) vwCl [(m0, .inr (6, [.ref st, .ref im, .ref kq, .ref pw, .ref nx, .ref li, .int (nI (L + 1)), .ref il, .ref mv, .ref so, .ref la, .int ub, .int d12, .ref co])), (st, .inl (cyI, 72, .inl fs)), (pw, .inl (cyI, 11, .inl fp)), (li, .inl (cyI, 59049, .inl g_4)), (il, .inl (cyZ, 59049, .inl g_3)), (mv, .inl (cyI, 59049, .inl g_12))] H := by rw [eg_12]; exact hP
            have hD : va_D A [(m0, .inr (6, [.ref st, .ref im, .ref kq, .ref pw, .ref nx, .ref li, .int (nI (L + 1)), .ref il, .ref mv, .ref so, .ref la, .int ub, .int d12, .ref co])), (st, .inl (cyI, 72, .inl fs)), (pw, .inl (cyI, 11, .inl fp)), (li, .inl (cyI, 59049, .inl g_4)), (il, .inl (cyZ, 59049, .inl g_3)), (mv, .inl (cyI, 59049, .inl g_12))] := by rw [eg_12]; exact hD
            rw [nI_clamp (n := cv) (by omega)] at eg_12
            exact W.vret hx hb hr (fun t ht hW => ⟨⟨((L + 1), ub, g_4, g_3, g_12), rfl, ⟨hL2, Nat.le_succ _⟩, ⟨by rw [ht]; exact hP.sub (ws' := [(m0, .inr (6, [.ref st, .ref im, .ref kq, .ref pw, .ref nx, .ref li, .int (nI (L + 1)), .ref il, .ref mv, .ref so, .ref la, .int ub, .int d12, .ref co])), (st, .inl (cyI, 72, .inl fs)), (pw, .inl (cyI, 11, .inl fp)), (li, .inl (cyI, 59049, .inl g_4)), (il, .inl (cyZ, 59049, .inl g_3)), (mv, .inl (cyI, 59049, .inl g_12))]) [0, 1, 2, 3, 4, 5] rfl, hD.sub (ws' := [(m0, .inr (6, [.ref st, .ref im, .ref kq, .ref pw, .ref nx, .ref li, .int (nI (L + 1)), .ref il, .ref mv, .ref so, .ref la, .int ub, .int d12, .ref co])), (st, .inl (cyI, 72, .inl fs)), (pw, .inl (cyI, 11, .inl fp)), (li, .inl (cyI, 59049, .inl g_4)), (il, .inl (cyZ, 59049, .inl g_3)), (mv, .inl (cyI, 59049, .inl g_12))]) [0, 1, 2, 3, 4, 5] (by decide) rfl⟩⟩, hS.F ht⟩) hS.2.2 dX8_note_211
          · skip
            have ic_11 := ci_nle (show Int32.toInt 2 = 2 by decide) (nI_toInt (n := v_10) (by omega)) c_11
            refine lv_iconst (v := 0) hx hb dX8_note_205 (by decide) ?_
            refine lv_goto (tgt := 210) hx hb dX8_note_206 (by decide) ?_
            refine va_iast (D := (dC, dI)) hx hb hK hP hD hS 5 0 rfl rfl (vp_in_nI (n := cv) (N := 59049) (by omega) (by omega)) dX8_note_210 (fun H locs hP hD hS => ?_)
            obtain ⟨g_13, eg_13⟩ : ∃ y : Nat → Int32, y = upd mf (Int32.toNatClampNeg (nI cv)) 0 := ⟨_, rfl⟩
            have hP : va_P (dC, dI) vwCl [(m0, .inr (6, [.ref st, .ref im, .ref kq, .ref pw, .ref nx, .ref li, .int (nI (L + 1)), .ref il, .ref mv, .ref so, .ref la, .int ub, .int d12, .ref co])), (st, .inl (cyI, 72, .inl fs)), (pw, .inl (cyI, 11, .inl fp)), (li, .inl (cyI, 59049, .inl g_4)), (il, .inl (cyZ, 59049, .inl g_3)), (mv, .inl (cyI, 59049, .inl g_13))] H := by rw [eg_13]; exact hP
            have hD : va_D A [(m0, .inr (6, [.ref st, .ref im, .ref kq, .ref pw, .ref nx, .ref li, .int (nI (L + 1)), .ref il, .ref mv, .ref so, .ref la, .int ub, .int d12, .ref co])), (st, .inl (cyI, 72, .inl fs)), (pw, .inl (cyI, 11, .inl fp)), (li, .inl (cyI, 59049, .inl g_4)), (il, .inl (cyZ, 59049, .inl g_3)), (mv, .inl (cyI, 59049, .inl g_13))] := by rw [eg_13]; exact hD
            rw [nI_clamp (n := cv) (by omega)] at eg_13
            exact W.vret hx hb hr (fun t ht hW => ⟨⟨((L + 1), ub, g_4, g_3, g_13), rfl, ⟨hL2, Nat.le_succ _⟩, ⟨by rw [ht]; exact hP.sub (ws' := [(m0, .inr (6, [.ref st, .ref im, .ref kq, .ref pw, .ref nx, .ref li, .int (nI (L + 1)), .ref il, .ref mv, .ref so, .ref la, .int ub, .int d12, .ref co])), (st, .inl (cyI, 72, .inl fs)), (pw, .inl (cyI, 11, .inl fp)), (li, .inl (cyI, 59049, .inl g_4)), (il, .inl (cyZ, 59049, .inl g_3)), (mv, .inl (cyI, 59049, .inl g_13))]) [0, 1, 2, 3, 4, 5] rfl, hD.sub (ws' := [(m0, .inr (6, [.ref st, .ref im, .ref kq, .ref pw, .ref nx, .ref li, .int (nI (L + 1)), .ref il, .ref mv, .ref so, .ref la, .int ub, .int d12, .ref co])), (st, .inl (cyI, 72, .inl fs)), (pw, .inl (cyI, 11, .inl fp)), (li, .inl (cyI, 59049, .inl g_4)), (il, .inl (cyZ, 59049, .inl g_3)), (mv, .inl (cyI, 59049, .inl g_13))]) [0, 1, 2, 3, 4, 5] (by decide) rfl⟩⟩, hS.F ht⟩) hS.2.2 dX8_note_211
        · skip
          have ic_8 := ci_nle (nI_toInt (n := n) (by omega)) (nI_toInt (n := k) (by omega)) c_8
          refine lv_iload_n hx hb dX8_note_57 rfl (lv_at hl 2 rfl) ?_
          refine lv_iload hx hb dX8_note_58 (lv_at hl 4 rfl) ?_
          refine vp_callSi (va_Run.run (va_runS (As := [.int (nb_st (nI cv) n), .int (nI k)]) (rest := []) ⟨hx, hb, hml, hown, hts⟩ (mX8_has l dC dI cyI cyZ (nb_st (nI cv) n) (nI k) ) (va_cwS 2 hts gX8_note_X8_has rfl rfl rfl (by decide +kernel) ⟨Nat.le_of_ble_eq_true rfl, Nat.le_of_ble_eq_true rfl⟩) (bs_RS hB (hP.sub (ws' := []) [] rfl)) rfl rfl hl.1 rfl (lv_room (Nat.le_of_ble_eq_true rfl)) dX8_note_60 ⟨Nat.le_of_ble_eq_true rfl, Nat.le_of_ble_eq_true rfl⟩)) (fun r_14 hr_14 => ?_)
          refine lv_if_eq (tgt := 186) hx hb dX8_note_63 (by decide) (fun c_15 => ?_) (fun c_15 => ?_)
          · skip
            have ic_15 := ci_eq (rfl : Int32.toInt r_14 = _) (show Int32.toInt 0 = 0 by decide) c_15
            refine lv_iinc (v := (nI (k + 1))) (lv' := [(4, .int (nI (k + 1))), (0, .ref m0), (1, .int (nI cv)), (2, .int (nb_st (nI cv) n)), (3, .int ya)]) hx hb dX8_note_186 hl (k := 4) rfl (nI_1 _) (by decide) rfl (fun ls hl => ?_)
            refine lv_goto (tgt := 48) hx hb dX8_note_189 (by decide) ?_
            exact ih48 (k + 1) ya ub ⟨by omega, by omega⟩ (by omega)  _ _ (hP.sub [0, 1, 2, 3, 4, 5] rfl) (hD.sub [0, 1, 2, 3, 4, 5] (by decide) rfl) hS _ (lv_sub hl [1, 2, 3, 4, 0] rfl)
          · skip
            have ic_15 := ci_ne (rfl : Int32.toInt r_14 = _) (show Int32.toInt 0 = 0 by decide) c_15
            have hbs : nb_bit (nb_st (nI cv) n) k := hr_14.2 (hr_14.1.resolve_left c_15)
            refine lv_aload_n hx hb dX8_note_66 rfl (lv_at hl 0 rfl) ?_
            refine lv_iload_n hx hb dX8_note_67 rfl (lv_at hl 2 rfl) ?_
            refine lv_iload hx hb dX8_note_68 (lv_at hl 4 rfl) ?_
            refine lv_aload_n hx hb dX8_note_70 rfl (lv_at hl 0 rfl) ?_
            refine va_get (D := (dC, dI)) (ci := 6) (v := .int d12) (C := RX8) (T := TX8) (N := 14) hx hb hts hnX8_note_X8 hown hK hP 0 rfl rfl 12 (by decide) (hts (.fieldLink RX8 132 "RingMeetsModel" "isBlind" "Z") (by decide +kernel)) (fun _ h9 => h9) rfl dX8_note_71 ?_
            refine lv_if_ne (tgt := 96) hx hb dX8_note_74 (by decide) (fun c_16 => ?_) (fun c_16 => ?_)
            · skip
              have ic_16 := ci_ne (rfl : Int32.toInt d12 = _) (show Int32.toInt 0 = 0 by decide) c_16
              refine lv_iconst (v := 0) hx hb dX8_note_96 (by decide) ?_
              refine vp_callSi (va_Run.run (va_runV (As := [.int (nb_st (nI cv) n), .int (nI k), .int 0]) (rest := []) ⟨hx, hb, hml, hown, hts⟩ (mX8_ruleOf l dC dI cyI cyZ m0 st im kq pw nx li il mv so la co (nI (L + 1)) ub d12 n fs zz k (nb_st (nI cv) n) 0 hn3 hn h0f hzf hz10 (by omega) hbs) (cwV 3 hts gX8_note_X8_ruleOf rfl rfl rfl (by decide +kernel) ⟨Nat.le_of_ble_eq_true rfl, Nat.le_of_ble_eq_true rfl⟩) (bs_RV hB (hP.sub (ws' := [(m0, .inr (6, [.ref st, .ref im, .ref kq, .ref pw, .ref nx, .ref li, .int (nI (L + 1)), .ref il, .ref mv, .ref so, .ref la, .int ub, .int d12, .ref co])), (st, .inl (cyI, 72, .inl fs))]) [0, 1] rfl) 0 rfl rfl) rfl rfl hl.1 rfl (lv_room (Nat.le_of_ble_eq_true rfl)) dX8_note_97 ⟨Nat.le_of_ble_eq_true rfl, Nat.le_of_ble_eq_true rfl⟩)) (fun r_17 hr_17 => ?_)
              refine lv_istore (lv' := [(5, .int r_17), (0, .ref m0), (1, .int (nI cv)), (2, .int (nb_st (nI cv) n)), (3, .int ya), (4, .int (nI k))]) hx hb dX8_note_100 hl (by decide) rfl (fun ls hl => ?_)
              refine lv_aload_n hx hb dX8_note_102 rfl (lv_at hl 1 rfl) ?_
              refine lv_iload_n hx hb dX8_note_103 rfl (lv_at hl 3 rfl) ?_
              refine lv_iload hx hb dX8_note_104 (lv_at hl 5 rfl) ?_
              refine lv_aload_n hx hb dX8_note_106 rfl (lv_at hl 1 rfl) ?_
              refine lv_iload hx hb dX8_note_107 (lv_at hl 0 rfl) ?_
              refine vp_callSi (va_Run.run (va_runV (As := [.int r_17]) (rest := [.int (nI k), .int (nb_st (nI cv) n), .ref m0]) ⟨hx, hb, hml, hown, hts⟩ (mX8_doneBy l dC dI cyI cyZ m0 st im kq pw nx li il mv so la co (nI (L + 1)) ub d12 zz fs r_17 hzf hz10 hr_17) (cwV 1 hts gX8_note_X8_doneBy rfl rfl rfl (by decide +kernel) ⟨Nat.le_of_ble_eq_true rfl, Nat.le_of_ble_eq_true rfl⟩) (bs_RV hB (hP.sub (ws' := [(m0, .inr (6, [.ref st, .ref im, .ref kq, .ref pw, .ref nx, .ref li, .int (nI (L + 1)), .ref il, .ref mv, .ref so, .ref la, .int ub, .int d12, .ref co])), (st, .inl (cyI, 72, .inl fs))]) [0, 1] rfl) 0 rfl rfl) rfl rfl hl.1 rfl (lv_room (Nat.le_of_ble_eq_true rfl)) dX8_note_109 ⟨Nat.le_of_ble_eq_true rfl, Nat.le_of_ble_eq_true rfl⟩)) (fun r_18 hr_18 => ?_)
              refine vp_callSi (va_Run.run (va_runV (As := [.int (nb_st (nI cv) n), .int (nI k), .int r_18]) (rest := []) ⟨hx, hb, hml, hown, hts⟩ (mX8_behind l dC dI cyI cyZ m0 st im kq pw nx li il mv so la co (nI (L + 1)) ub d12 n fs k (nb_st (nI cv) n) r_18 hn3 hn h0f (by omega) hbs) (cwV 3 hts gX8_note_X8_behind rfl rfl rfl (by decide +kernel) ⟨Nat.le_of_ble_eq_true rfl, Nat.le_of_ble_eq_true rfl⟩) (bs_RV hB (hP.sub (ws' := [(m0, .inr (6, [.ref st, .ref im, .ref kq, .ref pw, .ref nx, .ref li, .int (nI (L + 1)), .ref il, .ref mv, .ref so, .ref la, .int ub, .int d12, .ref co])), (st, .inl (cyI, 72, .inl fs))]) [0, 1] rfl) 0 rfl rfl) rfl rfl hl.1 rfl (lv_room (Nat.le_of_ble_eq_true rfl)) dX8_note_112 ⟨Nat.le_of_ble_eq_true rfl, Nat.le_of_ble_eq_true rfl⟩)) (fun r_19 hr_19 => ?_)
              obtain ⟨v_20, lv_20, ev_20⟩ := hr_19
              obtain rfl : nI v_20 = r_19 := Eq.symm ev_20
              refine lv_istore (lv' := [(6, .int (nI v_20)), (5, .int r_17), (0, .ref m0), (1, .int (nI cv)), (2, .int (nb_st (nI cv) n)), (3, .int ya), (4, .int (nI k))]) hx hb dX8_note_115 hl (by decide) rfl (fun ls hl => ?_)
              refine lv_iload_n hx hb dX8_note_117 rfl (lv_at hl 5 rfl) ?_
              refine lv_aload_n hx hb dX8_note_118 rfl (lv_at hl 2 rfl) ?_
              refine va_get (D := (dC, dI)) (ci := 6) (v := .ref pw) (C := RX8) (T := TX8) (N := 14) hx hb hts hnX8_note_X8 hown hK hP 0 rfl rfl 3 (by decide) (hts (.fieldLink RX8 20 "RingMeetsModel" "power" "[I") (by decide +kernel)) (fun _ h9 => h9) rfl dX8_note_119 ?_
              refine lv_iload hx hb dX8_note_122 (lv_at hl 6 rfl) ?_
              refine va_iald (D := (dC, dI)) hx hb hK hP 2 0 rfl rfl (vp_in_nI (n := k) (N := 11) (by omega) (by omega)) dX8_note_124 ?_
              refine lv_topi (fun x_21 ex_21 => ?_)
              rw [nI_clamp (n := k) (by omega)] at ex_21
              obtain rfl : (nI (3 ^ k)) = x_21 := (ex_21.trans (hp _ (by omega))).symm
              refine lv_iload hx hb dX8_note_125 (lv_at hl 0 rfl) ?_
              refine lv_iload hx hb dX8_note_127 (lv_at hl 6 rfl) ?_
              refine lv_icmp_ne (tgt := 136) hx hb dX8_note_129 (by decide) (fun c_22 => ?_) (fun c_22 => ?_)
              · skip
                have ic_22 := ci_ne (nI_toInt (n := v_20) (by omega)) (nI_toInt (n := k) (by omega)) c_22
                refine lv_iload hx hb dX8_note_136 (lv_at hl 0 rfl) ?_
                refine lv_aload_n hx hb dX8_note_138 rfl (lv_at hl 2 rfl) ?_
                refine lv_iload hx hb dX8_note_139 (lv_at hl 6 rfl) ?_
                refine lv_iconst (v := 1) hx hb dX8_note_141 (by decide) ?_
                refine vp_callSi (va_Run.run (va_runV (As := [.int (nI k), .int 1]) (rest := [.int (nI v_20), .int (nI (3 ^ k)), .int ya]) ⟨hx, hb, hml, hown, hts⟩ (mX8_beside l dC dI cyI cyZ m0 st im kq pw nx li il mv so la co (nI (L + 1)) ub d12 n fs k 11 1 hn3 hn h0f (by omega) (by omega) (by decide)) (cwV 2 hts gX8_note_X8_beside rfl rfl rfl (by decide +kernel) ⟨Nat.le_of_ble_eq_true rfl, Nat.le_of_ble_eq_true rfl⟩) (bs_RV hB (hP.sub (ws' := [(m0, .inr (6, [.ref st, .ref im, .ref kq, .ref pw, .ref nx, .ref li, .int (nI (L + 1)), .ref il, .ref mv, .ref so, .ref la, .int ub, .int d12, .ref co])), (st, .inl (cyI, 72, .inl fs))]) [0, 1] rfl) 0 rfl rfl) rfl rfl hl.1 rfl (lv_room (Nat.le_of_ble_eq_true rfl)) dX8_note_142 ⟨Nat.le_of_ble_eq_true rfl, Nat.le_of_ble_eq_true rfl⟩)) (fun r_23 hr_23 => ?_)
                refine lv_icmp_ne (tgt := 152) hx hb dX8_note_145 (by decide) (fun c_24 => ?_) (fun c_24 => ?_)
                · skip
                  have ic_24 := ci_ne (nI_toInt (n := v_20) (by omega)) (rfl : Int32.toInt r_23 = _) c_24
                  refine lv_iconst (v := 2) hx hb dX8_note_152 (by decide) ?_
                  refine lv_imul hx hb dX8_note_153 ?_
                  refine lv_topi (fun x_25 ex_25 => ?_)
                  obtain rfl : (nI ((3 ^ k) * 2)) = x_25 := (ex_25.trans (nb_mul _ 2)).symm
                  refine lv_iadd hx hb dX8_note_154 ?_
                  refine lv_topi (fun x_26 ex_26 => ?_)
                  refine lv_istore_n (lv' := [(3, .int x_26), (6, .int (nI v_20)), (5, .int r_17), (0, .ref m0), (1, .int (nI cv)), (2, .int (nb_st (nI cv) n)), (4, .int (nI k))]) hx hb dX8_note_155 rfl hl (by decide) rfl (fun ls hl => ?_)
                  refine lv_aload_n hx hb dX8_note_156 rfl (lv_at hl 3 rfl) ?_
                  refine lv_dup hx hb dX8_note_157 rfl ?_
                  refine va_get (D := (dC, dI)) (ci := 6) (v := .int ub) (C := RX8) (T := TX8) (N := 14) hx hb hts hnX8_note_X8 hown hK hP 0 rfl rfl 11 (by decide) (hts (.fieldLink RX8 136 "RingMeetsModel" "usedRules" "I") (by decide +kernel)) (fun _ h9 => h9) rfl dX8_note_158 ?_
                  refine lv_iload hx hb dX8_note_161 (lv_at hl 2 rfl) ?_
                  refine lv_if_lt (tgt := 181) hx hb dX8_note_163 (by decide) (fun c_27 => ?_) (fun c_27 => ?_)
                  · skip
                    have ic_27 := ci_lt (rfl : Int32.toInt r_17 = _) (show Int32.toInt 0 = 0 by decide) c_27
                    refine lv_iconst (v := 0) hx hb dX8_note_181 (by decide) ?_
                    refine lv_ior hx hb dX8_note_182 ?_
                    refine lv_topi (fun x_28 ex_28 => ?_)
                    obtain rfl : ub = x_28 := (ex_28.trans (Int32.or_zero)).symm
                    refine va_put (D := (dC, dI)) (ci := 6) (v := .int ub) (ty := .int) (C := RX8) (T := TX8) (N := 14) hx hb hts hnX8_note_X8 tyX8 tyX8_ok nmX8 hown hK hP hD hS 0 rfl rfl 11 (by decide) (hts (.fieldLink RX8 136 "RingMeetsModel" "usedRules" "I") (by decide +kernel)) (fun _ h9 => h9) rfl (by decide +kernel) rfl rfl (Nat.le_of_ble_eq_true rfl) dX8_note_183 (fun H locs hP hD hS => ?_)
                    have hP : va_P (dC, dI) vwCl [(m0, .inr (6, [.ref st, .ref im, .ref kq, .ref pw, .ref nx, .ref li, .int (nI (L + 1)), .ref il, .ref mv, .ref so, .ref la, .int ub, .int d12, .ref co])), (st, .inl (cyI, 72, .inl fs)), (pw, .inl (cyI, 11, .inl fp)), (li, .inl (cyI, 59049, .inl g_4)), (il, .inl (cyZ, 59049, .inl g_3)), (mv, .inl (cyI, 59049, .inl mf))] _ := hP
                    have hD : va_D A [(m0, .inr (6, [.ref st, .ref im, .ref kq, .ref pw, .ref nx, .ref li, .int (nI (L + 1)), .ref il, .ref mv, .ref so, .ref la, .int ub, .int d12, .ref co])), (st, .inl (cyI, 72, .inl fs)), (pw, .inl (cyI, 11, .inl fp)), (li, .inl (cyI, 59049, .inl g_4)), (il, .inl (cyZ, 59049, .inl g_3)), (mv, .inl (cyI, 59049, .inl mf))] := hD
                    refine lv_iinc (v := (nI (k + 1))) (lv' := [(4, .int (nI (k + 1))), (3, .int x_26), (6, .int (nI v_20)), (5, .int r_17), (0, .ref m0), (1, .int (nI cv)), (2, .int (nb_st (nI cv) n))]) hx hb dX8_note_186 hl (k := 6) rfl (nI_1 _) (by decide) rfl (fun ls hl => ?_)
                    refine lv_goto (tgt := 48) hx hb dX8_note_189 (by decide) ?_
                    exact ih48 (k + 1) x_26 ub ⟨by omega, by omega⟩ (by omega)  _ _ (hP.sub [0, 1, 2, 3, 4, 5] rfl) (hD.sub [0, 1, 2, 3, 4, 5] (by decide) rfl) hS _ (lv_sub hl [4, 5, 6, 1, 0] rfl)
                  · skip
                    have ic_27 := ci_nlt (rfl : Int32.toInt r_17 = _) (show Int32.toInt 0 = 0 by decide) c_27
                    refine lv_iload_n hx hb dX8_note_166 rfl (lv_at hl 5 rfl) ?_
                    refine vp_callSi (va_Run.run (va_runS (As := [.int (nb_st (nI cv) n)]) (rest := [.int ub, .ref m0]) ⟨hx, hb, hml, hown, hts⟩ (mX8_size l dC dI cyI cyZ (nb_st (nI cv) n) ) (va_cwS 1 hts gX8_note_X8_size rfl rfl rfl (by decide +kernel) ⟨Nat.le_of_ble_eq_true rfl, Nat.le_of_ble_eq_true rfl⟩) (bs_RS hB (hP.sub (ws' := []) [] rfl)) rfl rfl hl.1 rfl (lv_room (Nat.le_of_ble_eq_true rfl)) dX8_note_167 ⟨Nat.le_of_ble_eq_true rfl, Nat.le_of_ble_eq_true rfl⟩)) (fun r_29 hr_29 => ?_)
                    obtain ⟨v_30, lv_30, ev_30⟩ := hr_29
                    obtain rfl : nI v_30 = r_29 := Eq.symm ev_30
                    refine lv_iconst (v := 1) hx hb dX8_note_170 (by decide) ?_
                    refine lv_icmp_le (tgt := 181) hx hb dX8_note_171 (by decide) (fun c_31 => ?_) (fun c_31 => ?_)
                    · skip
                      have ic_31 := ci_le (nI_toInt (n := v_30) (by omega)) (show Int32.toInt 1 = 1 by decide) c_31
                      refine lv_iconst (v := 0) hx hb dX8_note_181 (by decide) ?_
                      refine lv_ior hx hb dX8_note_182 ?_
                      refine lv_topi (fun x_32 ex_32 => ?_)
                      obtain rfl : ub = x_32 := (ex_32.trans (Int32.or_zero)).symm
                      refine va_put (D := (dC, dI)) (ci := 6) (v := .int ub) (ty := .int) (C := RX8) (T := TX8) (N := 14) hx hb hts hnX8_note_X8 tyX8 tyX8_ok nmX8 hown hK hP hD hS 0 rfl rfl 11 (by decide) (hts (.fieldLink RX8 136 "RingMeetsModel" "usedRules" "I") (by decide +kernel)) (fun _ h9 => h9) rfl (by decide +kernel) rfl rfl (Nat.le_of_ble_eq_true rfl) dX8_note_183 (fun H locs hP hD hS => ?_)
                      have hP : va_P (dC, dI) vwCl [(m0, .inr (6, [.ref st, .ref im, .ref kq, .ref pw, .ref nx, .ref li, .int (nI (L + 1)), .ref il, .ref mv, .ref so, .ref la, .int ub, .int d12, .ref co])), (st, .inl (cyI, 72, .inl fs)), (pw, .inl (cyI, 11, .inl fp)), (li, .inl (cyI, 59049, .inl g_4)), (il, .inl (cyZ, 59049, .inl g_3)), (mv, .inl (cyI, 59049, .inl mf))] _ := hP
                      have hD : va_D A [(m0, .inr (6, [.ref st, .ref im, .ref kq, .ref pw, .ref nx, .ref li, .int (nI (L + 1)), .ref il, .ref mv, .ref so, .ref la, .int ub, .int d12, .ref co])), (st, .inl (cyI, 72, .inl fs)), (pw, .inl (cyI, 11, .inl fp)), (li, .inl (cyI, 59049, .inl g_4)), (il, .inl (cyZ, 59049, .inl g_3)), (mv, .inl (cyI, 59049, .inl mf))] := hD
                      refine lv_iinc (v := (nI (k + 1))) (lv' := [(4, .int (nI (k + 1))), (3, .int x_26), (6, .int (nI v_20)), (5, .int r_17), (0, .ref m0), (1, .int (nI cv)), (2, .int (nb_st (nI cv) n))]) hx hb dX8_note_186 hl (k := 6) rfl (nI_1 _) (by decide) rfl (fun ls hl => ?_)
                      refine lv_goto (tgt := 48) hx hb dX8_note_189 (by decide) ?_
                      exact ih48 (k + 1) x_26 ub ⟨by omega, by omega⟩ (by omega)  _ _ (hP.sub [0, 1, 2, 3, 4, 5] rfl) (hD.sub [0, 1, 2, 3, 4, 5] (by decide) rfl) hS _ (lv_sub hl [4, 5, 6, 1, 0] rfl)
                    · skip
                      have ic_31 := ci_nle (nI_toInt (n := v_30) (by omega)) (show Int32.toInt 1 = 1 by decide) c_31
                      refine lv_iconst (v := 1) hx hb dX8_note_174 (by decide) ?_
                      refine lv_iload hx hb dX8_note_175 (lv_at hl 2 rfl) ?_
                      refine lv_ishl hx hb dX8_note_177 ?_
                      refine lv_topi (fun x_33 ex_33 => ?_)
                      refine lv_goto (tgt := 182) hx hb dX8_note_178 (by decide) ?_
                      refine lv_ior hx hb dX8_note_182 ?_
                      refine lv_topi (fun x_34 ex_34 => ?_)
                      refine va_put (D := (dC, dI)) (ci := 6) (v := .int x_34) (ty := .int) (C := RX8) (T := TX8) (N := 14) hx hb hts hnX8_note_X8 tyX8 tyX8_ok nmX8 hown hK hP hD hS 0 rfl rfl 11 (by decide) (hts (.fieldLink RX8 136 "RingMeetsModel" "usedRules" "I") (by decide +kernel)) (fun _ h9 => h9) rfl (by decide +kernel) rfl rfl (Nat.le_of_ble_eq_true rfl) dX8_note_183 (fun H locs hP hD hS => ?_)
                      have hP : va_P (dC, dI) vwCl [(m0, .inr (6, [.ref st, .ref im, .ref kq, .ref pw, .ref nx, .ref li, .int (nI (L + 1)), .ref il, .ref mv, .ref so, .ref la, .int x_34, .int d12, .ref co])), (st, .inl (cyI, 72, .inl fs)), (pw, .inl (cyI, 11, .inl fp)), (li, .inl (cyI, 59049, .inl g_4)), (il, .inl (cyZ, 59049, .inl g_3)), (mv, .inl (cyI, 59049, .inl mf))] _ := hP
                      have hD : va_D A [(m0, .inr (6, [.ref st, .ref im, .ref kq, .ref pw, .ref nx, .ref li, .int (nI (L + 1)), .ref il, .ref mv, .ref so, .ref la, .int x_34, .int d12, .ref co])), (st, .inl (cyI, 72, .inl fs)), (pw, .inl (cyI, 11, .inl fp)), (li, .inl (cyI, 59049, .inl g_4)), (il, .inl (cyZ, 59049, .inl g_3)), (mv, .inl (cyI, 59049, .inl mf))] := hD
                      refine lv_iinc (v := (nI (k + 1))) (lv' := [(4, .int (nI (k + 1))), (3, .int x_26), (6, .int (nI v_20)), (5, .int r_17), (0, .ref m0), (1, .int (nI cv)), (2, .int (nb_st (nI cv) n))]) hx hb dX8_note_186 hl (k := 6) rfl (nI_1 _) (by decide) rfl (fun ls hl => ?_)
                      refine lv_goto (tgt := 48) hx hb dX8_note_189 (by decide) ?_
                      exact ih48 (k + 1) x_26 x_34 ⟨by omega, by omega⟩ (by omega)  _ _ (hP.sub [0, 1, 2, 3, 4, 5] rfl) (hD.sub [0, 1, 2, 3, 4, 5] (by decide) rfl) hS _ (lv_sub hl [4, 5, 6, 1, 0] rfl)
                · skip
                  have ic_24 := ci_eq (nI_toInt (n := v_20) (by omega)) (rfl : Int32.toInt r_23 = _) c_24
                  refine lv_iconst (v := 1) hx hb dX8_note_148 (by decide) ?_
                  refine lv_goto (tgt := 153) hx hb dX8_note_149 (by decide) ?_
                  refine lv_imul hx hb dX8_note_153 ?_
                  refine lv_topi (fun x_35 ex_35 => ?_)
                  obtain rfl : (nI ((3 ^ k) * 1)) = x_35 := (ex_35.trans (nb_mul _ 1)).symm
                  refine lv_iadd hx hb dX8_note_154 ?_
                  refine lv_topi (fun x_36 ex_36 => ?_)
                  refine lv_istore_n (lv' := [(3, .int x_36), (6, .int (nI v_20)), (5, .int r_17), (0, .ref m0), (1, .int (nI cv)), (2, .int (nb_st (nI cv) n)), (4, .int (nI k))]) hx hb dX8_note_155 rfl hl (by decide) rfl (fun ls hl => ?_)
                  refine lv_aload_n hx hb dX8_note_156 rfl (lv_at hl 3 rfl) ?_
                  refine lv_dup hx hb dX8_note_157 rfl ?_
                  refine va_get (D := (dC, dI)) (ci := 6) (v := .int ub) (C := RX8) (T := TX8) (N := 14) hx hb hts hnX8_note_X8 hown hK hP 0 rfl rfl 11 (by decide) (hts (.fieldLink RX8 136 "RingMeetsModel" "usedRules" "I") (by decide +kernel)) (fun _ h9 => h9) rfl dX8_note_158 ?_
                  refine lv_iload hx hb dX8_note_161 (lv_at hl 2 rfl) ?_
                  refine lv_if_lt (tgt := 181) hx hb dX8_note_163 (by decide) (fun c_37 => ?_) (fun c_37 => ?_)
                  · skip
                    have ic_37 := ci_lt (rfl : Int32.toInt r_17 = _) (show Int32.toInt 0 = 0 by decide) c_37
                    refine lv_iconst (v := 0) hx hb dX8_note_181 (by decide) ?_
                    refine lv_ior hx hb dX8_note_182 ?_
                    refine lv_topi (fun x_38 ex_38 => ?_)
                    obtain rfl : ub = x_38 := (ex_38.trans (Int32.or_zero)).symm
                    refine va_put (D := (dC, dI)) (ci := 6) (v := .int ub) (ty := .int) (C := RX8) (T := TX8) (N := 14) hx hb hts hnX8_note_X8 tyX8 tyX8_ok nmX8 hown hK hP hD hS 0 rfl rfl 11 (by decide) (hts (.fieldLink RX8 136 "RingMeetsModel" "usedRules" "I") (by decide +kernel)) (fun _ h9 => h9) rfl (by decide +kernel) rfl rfl (Nat.le_of_ble_eq_true rfl) dX8_note_183 (fun H locs hP hD hS => ?_)
                    have hP : va_P (dC, dI) vwCl [(m0, .inr (6, [.ref st, .ref im, .ref kq, .ref pw, .ref nx, .ref li, .int (nI (L + 1)), .ref il, .ref mv, .ref so, .ref la, .int ub, .int d12, .ref co])), (st, .inl (cyI, 72, .inl fs)), (pw, .inl (cyI, 11, .inl fp)), (li, .inl (cyI, 59049, .inl g_4)), (il, .inl (cyZ, 59049, .inl g_3)), (mv, .inl (cyI, 59049, .inl mf))] _ := hP
                    have hD : va_D A [(m0, .inr (6, [.ref st, .ref im, .ref kq, .ref pw, .ref nx, .ref li, .int (nI (L + 1)), .ref il, .ref mv, .ref so, .ref la, .int ub, .int d12, .ref co])), (st, .inl (cyI, 72, .inl fs)), (pw, .inl (cyI, 11, .inl fp)), (li, .inl (cyI, 59049, .inl g_4)), (il, .inl (cyZ, 59049, .inl g_3)), (mv, .inl (cyI, 59049, .inl mf))] := hD
                    refine lv_iinc (v := (nI (k + 1))) (lv' := [(4, .int (nI (k + 1))), (3, .int x_36), (6, .int (nI v_20)), (5, .int r_17), (0, .ref m0), (1, .int (nI cv)), (2, .int (nb_st (nI cv) n))]) hx hb dX8_note_186 hl (k := 6) rfl (nI_1 _) (by decide) rfl (fun ls hl => ?_)
                    refine lv_goto (tgt := 48) hx hb dX8_note_189 (by decide) ?_
                    exact ih48 (k + 1) x_36 ub ⟨by omega, by omega⟩ (by omega)  _ _ (hP.sub [0, 1, 2, 3, 4, 5] rfl) (hD.sub [0, 1, 2, 3, 4, 5] (by decide) rfl) hS _ (lv_sub hl [4, 5, 6, 1, 0] rfl)
                  · skip
                    have ic_37 := ci_nlt (rfl : Int32.toInt r_17 = _) (show Int32.toInt 0 = 0 by decide) c_37
                    refine lv_iload_n hx hb dX8_note_166 rfl (lv_at hl 5 rfl) ?_
                    refine vp_callSi (va_Run.run (va_runS (As := [.int (nb_st (nI cv) n)]) (rest := [.int ub, .ref m0]) ⟨hx, hb, hml, hown, hts⟩ (mX8_size l dC dI cyI cyZ (nb_st (nI cv) n) ) (va_cwS 1 hts gX8_note_X8_size rfl rfl rfl (by decide +kernel) ⟨Nat.le_of_ble_eq_true rfl, Nat.le_of_ble_eq_true rfl⟩) (bs_RS hB (hP.sub (ws' := []) [] rfl)) rfl rfl hl.1 rfl (lv_room (Nat.le_of_ble_eq_true rfl)) dX8_note_167 ⟨Nat.le_of_ble_eq_true rfl, Nat.le_of_ble_eq_true rfl⟩)) (fun r_39 hr_39 => ?_)
                    obtain ⟨v_40, lv_40, ev_40⟩ := hr_39
                    obtain rfl : nI v_40 = r_39 := Eq.symm ev_40
                    refine lv_iconst (v := 1) hx hb dX8_note_170 (by decide) ?_
                    refine lv_icmp_le (tgt := 181) hx hb dX8_note_171 (by decide) (fun c_41 => ?_) (fun c_41 => ?_)
                    · skip
                      have ic_41 := ci_le (nI_toInt (n := v_40) (by omega)) (show Int32.toInt 1 = 1 by decide) c_41
                      refine lv_iconst (v := 0) hx hb dX8_note_181 (by decide) ?_
                      refine lv_ior hx hb dX8_note_182 ?_
                      refine lv_topi (fun x_42 ex_42 => ?_)
                      obtain rfl : ub = x_42 := (ex_42.trans (Int32.or_zero)).symm
                      refine va_put (D := (dC, dI)) (ci := 6) (v := .int ub) (ty := .int) (C := RX8) (T := TX8) (N := 14) hx hb hts hnX8_note_X8 tyX8 tyX8_ok nmX8 hown hK hP hD hS 0 rfl rfl 11 (by decide) (hts (.fieldLink RX8 136 "RingMeetsModel" "usedRules" "I") (by decide +kernel)) (fun _ h9 => h9) rfl (by decide +kernel) rfl rfl (Nat.le_of_ble_eq_true rfl) dX8_note_183 (fun H locs hP hD hS => ?_)
                      have hP : va_P (dC, dI) vwCl [(m0, .inr (6, [.ref st, .ref im, .ref kq, .ref pw, .ref nx, .ref li, .int (nI (L + 1)), .ref il, .ref mv, .ref so, .ref la, .int ub, .int d12, .ref co])), (st, .inl (cyI, 72, .inl fs)), (pw, .inl (cyI, 11, .inl fp)), (li, .inl (cyI, 59049, .inl g_4)), (il, .inl (cyZ, 59049, .inl g_3)), (mv, .inl (cyI, 59049, .inl mf))] _ := hP
                      have hD : va_D A [(m0, .inr (6, [.ref st, .ref im, .ref kq, .ref pw, .ref nx, .ref li, .int (nI (L + 1)), .ref il, .ref mv, .ref so, .ref la, .int ub, .int d12, .ref co])), (st, .inl (cyI, 72, .inl fs)), (pw, .inl (cyI, 11, .inl fp)), (li, .inl (cyI, 59049, .inl g_4)), (il, .inl (cyZ, 59049, .inl g_3)), (mv, .inl (cyI, 59049, .inl mf))] := hD
                      refine lv_iinc (v := (nI (k + 1))) (lv' := [(4, .int (nI (k + 1))), (3, .int x_36), (6, .int (nI v_20)), (5, .int r_17), (0, .ref m0), (1, .int (nI cv)), (2, .int (nb_st (nI cv) n))]) hx hb dX8_note_186 hl (k := 6) rfl (nI_1 _) (by decide) rfl (fun ls hl => ?_)
                      refine lv_goto (tgt := 48) hx hb dX8_note_189 (by decide) ?_
                      exact ih48 (k + 1) x_36 ub ⟨by omega, by omega⟩ (by omega)  _ _ (hP.sub [0, 1, 2, 3, 4, 5] rfl) (hD.sub [0, 1, 2, 3, 4, 5] (by decide) rfl) hS _ (lv_sub hl [4, 5, 6, 1, 0] rfl)
                    · skip
                      have ic_41 := ci_nle (nI_toInt (n := v_40) (by omega)) (show Int32.toInt 1 = 1 by decide) c_41
                      refine lv_iconst (v := 1) hx hb dX8_note_174 (by decide) ?_
                      refine lv_iload hx hb dX8_note_175 (lv_at hl 2 rfl) ?_
                      refine lv_ishl hx hb dX8_note_177 ?_
                      refine lv_topi (fun x_43 ex_43 => ?_)
                      refine lv_goto (tgt := 182) hx hb dX8_note_178 (by decide) ?_
                      refine lv_ior hx hb dX8_note_182 ?_
                      refine lv_topi (fun x_44 ex_44 => ?_)
                      refine va_put (D := (dC, dI)) (ci := 6) (v := .int x_44) (ty := .int) (C := RX8) (T := TX8) (N := 14) hx hb hts hnX8_note_X8 tyX8 tyX8_ok nmX8 hown hK hP hD hS 0 rfl rfl 11 (by decide) (hts (.fieldLink RX8 136 "RingMeetsModel" "usedRules" "I") (by decide +kernel)) (fun _ h9 => h9) rfl (by decide +kernel) rfl rfl (Nat.le_of_ble_eq_true rfl) dX8_note_183 (fun H locs hP hD hS => ?_)
                      have hP : va_P (dC, dI) vwCl [(m0, .inr (6, [.ref st, .ref im, .ref kq, .ref pw, .ref nx, .ref li, .int (nI (L + 1)), .ref il, .ref mv, .ref so, .ref la, .int x_44, .int d12, .ref co])), (st, .inl (cyI, 72, .inl fs)), (pw, .inl (cyI, 11, .inl fp)), (li, .inl (cyI, 59049, .inl g_4)), (il, .inl (cyZ, 59049, .inl g_3)), (mv, .inl (cyI, 59049, .inl mf))] _ := hP
                      have hD : va_D A [(m0, .inr (6, [.ref st, .ref im, .ref kq, .ref pw, .ref nx, .ref li, .int (nI (L + 1)), .ref il, .ref mv, .ref so, .ref la, .int x_44, .int d12, .ref co])), (st, .inl (cyI, 72, .inl fs)), (pw, .inl (cyI, 11, .inl fp)), (li, .inl (cyI, 59049, .inl g_4)), (il, .inl (cyZ, 59049, .inl g_3)), (mv, .inl (cyI, 59049, .inl mf))] := hD
                      refine lv_iinc (v := (nI (k + 1))) (lv' := [(4, .int (nI (k + 1))), (3, .int x_36), (6, .int (nI v_20)), (5, .int r_17), (0, .ref m0), (1, .int (nI cv)), (2, .int (nb_st (nI cv) n))]) hx hb dX8_note_186 hl (k := 6) rfl (nI_1 _) (by decide) rfl (fun ls hl => ?_)
                      refine lv_goto (tgt := 48) hx hb dX8_note_189 (by decide) ?_
                      exact ih48 (k + 1) x_36 x_44 ⟨by omega, by omega⟩ (by omega)  _ _ (hP.sub [0, 1, 2, 3, 4, 5] rfl) (hD.sub [0, 1, 2, 3, 4, 5] (by decide) rfl) hS _ (lv_sub hl [4, 5, 6, 1, 0] rfl)
              · skip
                have ic_22 := ci_eq (nI_toInt (n := v_20) (by omega)) (nI_toInt (n := k) (by omega)) c_22
                refine lv_iconst (v := 0) hx hb dX8_note_132 (by decide) ?_
                refine lv_goto (tgt := 153) hx hb dX8_note_133 (by decide) ?_
                refine lv_imul hx hb dX8_note_153 ?_
                refine lv_topi (fun x_45 ex_45 => ?_)
                obtain rfl : 0 = x_45 := (ex_45.trans (Int32.mul_zero)).symm
                refine lv_iadd hx hb dX8_note_154 ?_
                refine lv_topi (fun x_46 ex_46 => ?_)
                obtain rfl : ya = x_46 := (ex_46.trans (Int32.add_zero _)).symm
                refine lv_istore_n (lv' := [(3, .int ya), (6, .int (nI v_20)), (5, .int r_17), (0, .ref m0), (1, .int (nI cv)), (2, .int (nb_st (nI cv) n)), (4, .int (nI k))]) hx hb dX8_note_155 rfl hl (by decide) rfl (fun ls hl => ?_)
                refine lv_aload_n hx hb dX8_note_156 rfl (lv_at hl 3 rfl) ?_
                refine lv_dup hx hb dX8_note_157 rfl ?_
                refine va_get (D := (dC, dI)) (ci := 6) (v := .int ub) (C := RX8) (T := TX8) (N := 14) hx hb hts hnX8_note_X8 hown hK hP 0 rfl rfl 11 (by decide) (hts (.fieldLink RX8 136 "RingMeetsModel" "usedRules" "I") (by decide +kernel)) (fun _ h9 => h9) rfl dX8_note_158 ?_
                refine lv_iload hx hb dX8_note_161 (lv_at hl 2 rfl) ?_
                refine lv_if_lt (tgt := 181) hx hb dX8_note_163 (by decide) (fun c_47 => ?_) (fun c_47 => ?_)
                · skip
                  have ic_47 := ci_lt (rfl : Int32.toInt r_17 = _) (show Int32.toInt 0 = 0 by decide) c_47
                  refine lv_iconst (v := 0) hx hb dX8_note_181 (by decide) ?_
                  refine lv_ior hx hb dX8_note_182 ?_
                  refine lv_topi (fun x_48 ex_48 => ?_)
                  obtain rfl : ub = x_48 := (ex_48.trans (Int32.or_zero)).symm
                  refine va_put (D := (dC, dI)) (ci := 6) (v := .int ub) (ty := .int) (C := RX8) (T := TX8) (N := 14) hx hb hts hnX8_note_X8 tyX8 tyX8_ok nmX8 hown hK hP hD hS 0 rfl rfl 11 (by decide) (hts (.fieldLink RX8 136 "RingMeetsModel" "usedRules" "I") (by decide +kernel)) (fun _ h9 => h9) rfl (by decide +kernel) rfl rfl (Nat.le_of_ble_eq_true rfl) dX8_note_183 (fun H locs hP hD hS => ?_)
                  have hP : va_P (dC, dI) vwCl [(m0, .inr (6, [.ref st, .ref im, .ref kq, .ref pw, .ref nx, .ref li, .int (nI (L + 1)), .ref il, .ref mv, .ref so, .ref la, .int ub, .int d12, .ref co])), (st, .inl (cyI, 72, .inl fs)), (pw, .inl (cyI, 11, .inl fp)), (li, .inl (cyI, 59049, .inl g_4)), (il, .inl (cyZ, 59049, .inl g_3)), (mv, .inl (cyI, 59049, .inl mf))] _ := hP
                  have hD : va_D A [(m0, .inr (6, [.ref st, .ref im, .ref kq, .ref pw, .ref nx, .ref li, .int (nI (L + 1)), .ref il, .ref mv, .ref so, .ref la, .int ub, .int d12, .ref co])), (st, .inl (cyI, 72, .inl fs)), (pw, .inl (cyI, 11, .inl fp)), (li, .inl (cyI, 59049, .inl g_4)), (il, .inl (cyZ, 59049, .inl g_3)), (mv, .inl (cyI, 59049, .inl mf))] := hD
                  refine lv_iinc (v := (nI (k + 1))) (lv' := [(4, .int (nI (k + 1))), (3, .int ya), (6, .int (nI v_20)), (5, .int r_17), (0, .ref m0), (1, .int (nI cv)), (2, .int (nb_st (nI cv) n))]) hx hb dX8_note_186 hl (k := 6) rfl (nI_1 _) (by decide) rfl (fun ls hl => ?_)
                  refine lv_goto (tgt := 48) hx hb dX8_note_189 (by decide) ?_
                  exact ih48 (k + 1) ya ub ⟨by omega, by omega⟩ (by omega)  _ _ (hP.sub [0, 1, 2, 3, 4, 5] rfl) (hD.sub [0, 1, 2, 3, 4, 5] (by decide) rfl) hS _ (lv_sub hl [4, 5, 6, 1, 0] rfl)
                · skip
                  have ic_47 := ci_nlt (rfl : Int32.toInt r_17 = _) (show Int32.toInt 0 = 0 by decide) c_47
                  refine lv_iload_n hx hb dX8_note_166 rfl (lv_at hl 5 rfl) ?_
                  refine vp_callSi (va_Run.run (va_runS (As := [.int (nb_st (nI cv) n)]) (rest := [.int ub, .ref m0]) ⟨hx, hb, hml, hown, hts⟩ (mX8_size l dC dI cyI cyZ (nb_st (nI cv) n) ) (va_cwS 1 hts gX8_note_X8_size rfl rfl rfl (by decide +kernel) ⟨Nat.le_of_ble_eq_true rfl, Nat.le_of_ble_eq_true rfl⟩) (bs_RS hB (hP.sub (ws' := []) [] rfl)) rfl rfl hl.1 rfl (lv_room (Nat.le_of_ble_eq_true rfl)) dX8_note_167 ⟨Nat.le_of_ble_eq_true rfl, Nat.le_of_ble_eq_true rfl⟩)) (fun r_49 hr_49 => ?_)
                  obtain ⟨v_50, lv_50, ev_50⟩ := hr_49
                  obtain rfl : nI v_50 = r_49 := Eq.symm ev_50
                  refine lv_iconst (v := 1) hx hb dX8_note_170 (by decide) ?_
                  refine lv_icmp_le (tgt := 181) hx hb dX8_note_171 (by decide) (fun c_51 => ?_) (fun c_51 => ?_)
                  · skip
                    have ic_51 := ci_le (nI_toInt (n := v_50) (by omega)) (show Int32.toInt 1 = 1 by decide) c_51
                    refine lv_iconst (v := 0) hx hb dX8_note_181 (by decide) ?_
                    refine lv_ior hx hb dX8_note_182 ?_
                    refine lv_topi (fun x_52 ex_52 => ?_)
                    obtain rfl : ub = x_52 := (ex_52.trans (Int32.or_zero)).symm
                    refine va_put (D := (dC, dI)) (ci := 6) (v := .int ub) (ty := .int) (C := RX8) (T := TX8) (N := 14) hx hb hts hnX8_note_X8 tyX8 tyX8_ok nmX8 hown hK hP hD hS 0 rfl rfl 11 (by decide) (hts (.fieldLink RX8 136 "RingMeetsModel" "usedRules" "I") (by decide +kernel)) (fun _ h9 => h9) rfl (by decide +kernel) rfl rfl (Nat.le_of_ble_eq_true rfl) dX8_note_183 (fun H locs hP hD hS => ?_)
                    have hP : va_P (dC, dI) vwCl [(m0, .inr (6, [.ref st, .ref im, .ref kq, .ref pw, .ref nx, .ref li, .int (nI (L + 1)), .ref il, .ref mv, .ref so, .ref la, .int ub, .int d12, .ref co])), (st, .inl (cyI, 72, .inl fs)), (pw, .inl (cyI, 11, .inl fp)), (li, .inl (cyI, 59049, .inl g_4)), (il, .inl (cyZ, 59049, .inl g_3)), (mv, .inl (cyI, 59049, .inl mf))] _ := hP
                    have hD : va_D A [(m0, .inr (6, [.ref st, .ref im, .ref kq, .ref pw, .ref nx, .ref li, .int (nI (L + 1)), .ref il, .ref mv, .ref so, .ref la, .int ub, .int d12, .ref co])), (st, .inl (cyI, 72, .inl fs)), (pw, .inl (cyI, 11, .inl fp)), (li, .inl (cyI, 59049, .inl g_4)), (il, .inl (cyZ, 59049, .inl g_3)), (mv, .inl (cyI, 59049, .inl mf))] := hD
                    refine lv_iinc (v := (nI (k + 1))) (lv' := [(4, .int (nI (k + 1))), (3, .int ya), (6, .int (nI v_20)), (5, .int r_17), (0, .ref m0), (1, .int (nI cv)), (2, .int (nb_st (nI cv) n))]) hx hb dX8_note_186 hl (k := 6) rfl (nI_1 _) (by decide) rfl (fun ls hl => ?_)
                    refine lv_goto (tgt := 48) hx hb dX8_note_189 (by decide) ?_
                    exact ih48 (k + 1) ya ub ⟨by omega, by omega⟩ (by omega)  _ _ (hP.sub [0, 1, 2, 3, 4, 5] rfl) (hD.sub [0, 1, 2, 3, 4, 5] (by decide) rfl) hS _ (lv_sub hl [4, 5, 6, 1, 0] rfl)
                  · skip
                    have ic_51 := ci_nle (nI_toInt (n := v_50) (by omega)) (show Int32.toInt 1 = 1 by decide) c_51
                    refine lv_iconst (v := 1) hx hb dX8_note_174 (by decide) ?_
                    refine lv_iload hx hb dX8_note_175 (lv_at hl 2 rfl) ?_
                    refine lv_ishl hx hb dX8_note_177 ?_
                    refine lv_topi (fun x_53 ex_53 => ?_)
                    refine lv_goto (tgt := 182) hx hb dX8_note_178 (by decide) ?_
                    refine lv_ior hx hb dX8_note_182 ?_
                    refine lv_topi (fun x_54 ex_54 => ?_)
                    refine va_put (D := (dC, dI)) (ci := 6) (v := .int x_54) (ty := .int) (C := RX8) (T := TX8) (N := 14) hx hb hts hnX8_note_X8 tyX8 tyX8_ok nmX8 hown hK hP hD hS 0 rfl rfl 11 (by decide) (hts (.fieldLink RX8 136 "RingMeetsModel" "usedRules" "I") (by decide +kernel)) (fun _ h9 => h9) rfl (by decide +kernel) rfl rfl (Nat.le_of_ble_eq_true rfl) dX8_note_183 (fun H locs hP hD hS => ?_)
                    have hP : va_P (dC, dI) vwCl [(m0, .inr (6, [.ref st, .ref im, .ref kq, .ref pw, .ref nx, .ref li, .int (nI (L + 1)), .ref il, .ref mv, .ref so, .ref la, .int x_54, .int d12, .ref co])), (st, .inl (cyI, 72, .inl fs)), (pw, .inl (cyI, 11, .inl fp)), (li, .inl (cyI, 59049, .inl g_4)), (il, .inl (cyZ, 59049, .inl g_3)), (mv, .inl (cyI, 59049, .inl mf))] _ := hP
                    have hD : va_D A [(m0, .inr (6, [.ref st, .ref im, .ref kq, .ref pw, .ref nx, .ref li, .int (nI (L + 1)), .ref il, .ref mv, .ref so, .ref la, .int x_54, .int d12, .ref co])), (st, .inl (cyI, 72, .inl fs)), (pw, .inl (cyI, 11, .inl fp)), (li, .inl (cyI, 59049, .inl g_4)), (il, .inl (cyZ, 59049, .inl g_3)), (mv, .inl (cyI, 59049, .inl mf))] := hD
                    refine lv_iinc (v := (nI (k + 1))) (lv' := [(4, .int (nI (k + 1))), (3, .int ya), (6, .int (nI v_20)), (5, .int r_17), (0, .ref m0), (1, .int (nI cv)), (2, .int (nb_st (nI cv) n))]) hx hb dX8_note_186 hl (k := 6) rfl (nI_1 _) (by decide) rfl (fun ls hl => ?_)
                    refine lv_goto (tgt := 48) hx hb dX8_note_189 (by decide) ?_
                    exact ih48 (k + 1) ya x_54 ⟨by omega, by omega⟩ (by omega)  _ _ (hP.sub [0, 1, 2, 3, 4, 5] rfl) (hD.sub [0, 1, 2, 3, 4, 5] (by decide) rfl) hS _ (lv_sub hl [4, 5, 6, 1, 0] rfl)
            · skip
              have ic_16 := ci_eq (rfl : Int32.toInt d12 = _) (show Int32.toInt 0 = 0 by decide) c_16
              refine lv_iload_n hx hb dX8_note_77 rfl (lv_at hl 1 rfl) ?_
              refine lv_aload_n hx hb dX8_note_78 rfl (lv_at hl 0 rfl) ?_
              refine va_get (D := (dC, dI)) (ci := 6) (v := .ref pw) (C := RX8) (T := TX8) (N := 14) hx hb hts hnX8_note_X8 hown hK hP 0 rfl rfl 3 (by decide) (hts (.fieldLink RX8 20 "RingMeetsModel" "power" "[I") (by decide +kernel)) (fun _ h9 => h9) rfl dX8_note_79 ?_
              refine lv_iload hx hb dX8_note_82 (lv_at hl 4 rfl) ?_
              refine va_iald (D := (dC, dI)) hx hb hK hP 2 0 rfl rfl (vp_in_nI (n := k) (N := 11) (by omega) (by omega)) dX8_note_84 ?_
              refine lv_topi (fun x_55 ex_55 => ?_)
              rw [nI_clamp (n := k) (by omega)] at ex_55
              obtain rfl : (nI (3 ^ k)) = x_55 := (ex_55.trans (hp _ (by omega))).symm
              refine lv_idiv hx hb dX8_note_85 (nb_p3 (by omega)) ?_
              refine lv_topi (fun x_56 ex_56 => ?_)
              refine lv_iconst (v := 3) hx hb dX8_note_86 (by decide) ?_
              refine lv_irem hx hb dX8_note_87 (by decide) ?_
              refine lv_topi (fun x_57 ex_57 => ?_)
              refine lv_iconst (v := 2) hx hb dX8_note_88 (by decide) ?_
              refine lv_icmp_ne (tgt := 96) hx hb dX8_note_89 (by decide) (fun c_58 => ?_) (fun c_58 => ?_)
              · skip
                have ic_58 := ci_ne (rfl : Int32.toInt x_57 = _) (show Int32.toInt 2 = 2 by decide) c_58
                refine lv_iconst (v := 0) hx hb dX8_note_96 (by decide) ?_
                refine vp_callSi (va_Run.run (va_runV (As := [.int (nb_st (nI cv) n), .int (nI k), .int 0]) (rest := []) ⟨hx, hb, hml, hown, hts⟩ (mX8_ruleOf l dC dI cyI cyZ m0 st im kq pw nx li il mv so la co (nI (L + 1)) ub d12 n fs zz k (nb_st (nI cv) n) 0 hn3 hn h0f hzf hz10 (by omega) hbs) (cwV 3 hts gX8_note_X8_ruleOf rfl rfl rfl (by decide +kernel) ⟨Nat.le_of_ble_eq_true rfl, Nat.le_of_ble_eq_true rfl⟩) (bs_RV hB (hP.sub (ws' := [(m0, .inr (6, [.ref st, .ref im, .ref kq, .ref pw, .ref nx, .ref li, .int (nI (L + 1)), .ref il, .ref mv, .ref so, .ref la, .int ub, .int d12, .ref co])), (st, .inl (cyI, 72, .inl fs))]) [0, 1] rfl) 0 rfl rfl) rfl rfl hl.1 rfl (lv_room (Nat.le_of_ble_eq_true rfl)) dX8_note_97 ⟨Nat.le_of_ble_eq_true rfl, Nat.le_of_ble_eq_true rfl⟩)) (fun r_59 hr_59 => ?_)
                refine lv_istore (lv' := [(5, .int r_59), (0, .ref m0), (1, .int (nI cv)), (2, .int (nb_st (nI cv) n)), (3, .int ya), (4, .int (nI k))]) hx hb dX8_note_100 hl (by decide) rfl (fun ls hl => ?_)
                refine lv_aload_n hx hb dX8_note_102 rfl (lv_at hl 1 rfl) ?_
                refine lv_iload_n hx hb dX8_note_103 rfl (lv_at hl 3 rfl) ?_
                refine lv_iload hx hb dX8_note_104 (lv_at hl 5 rfl) ?_
                refine lv_aload_n hx hb dX8_note_106 rfl (lv_at hl 1 rfl) ?_
                refine lv_iload hx hb dX8_note_107 (lv_at hl 0 rfl) ?_
                refine vp_callSi (va_Run.run (va_runV (As := [.int r_59]) (rest := [.int (nI k), .int (nb_st (nI cv) n), .ref m0]) ⟨hx, hb, hml, hown, hts⟩ (mX8_doneBy l dC dI cyI cyZ m0 st im kq pw nx li il mv so la co (nI (L + 1)) ub d12 zz fs r_59 hzf hz10 hr_59) (cwV 1 hts gX8_note_X8_doneBy rfl rfl rfl (by decide +kernel) ⟨Nat.le_of_ble_eq_true rfl, Nat.le_of_ble_eq_true rfl⟩) (bs_RV hB (hP.sub (ws' := [(m0, .inr (6, [.ref st, .ref im, .ref kq, .ref pw, .ref nx, .ref li, .int (nI (L + 1)), .ref il, .ref mv, .ref so, .ref la, .int ub, .int d12, .ref co])), (st, .inl (cyI, 72, .inl fs))]) [0, 1] rfl) 0 rfl rfl) rfl rfl hl.1 rfl (lv_room (Nat.le_of_ble_eq_true rfl)) dX8_note_109 ⟨Nat.le_of_ble_eq_true rfl, Nat.le_of_ble_eq_true rfl⟩)) (fun r_60 hr_60 => ?_)
                refine vp_callSi (va_Run.run (va_runV (As := [.int (nb_st (nI cv) n), .int (nI k), .int r_60]) (rest := []) ⟨hx, hb, hml, hown, hts⟩ (mX8_behind l dC dI cyI cyZ m0 st im kq pw nx li il mv so la co (nI (L + 1)) ub d12 n fs k (nb_st (nI cv) n) r_60 hn3 hn h0f (by omega) hbs) (cwV 3 hts gX8_note_X8_behind rfl rfl rfl (by decide +kernel) ⟨Nat.le_of_ble_eq_true rfl, Nat.le_of_ble_eq_true rfl⟩) (bs_RV hB (hP.sub (ws' := [(m0, .inr (6, [.ref st, .ref im, .ref kq, .ref pw, .ref nx, .ref li, .int (nI (L + 1)), .ref il, .ref mv, .ref so, .ref la, .int ub, .int d12, .ref co])), (st, .inl (cyI, 72, .inl fs))]) [0, 1] rfl) 0 rfl rfl) rfl rfl hl.1 rfl (lv_room (Nat.le_of_ble_eq_true rfl)) dX8_note_112 ⟨Nat.le_of_ble_eq_true rfl, Nat.le_of_ble_eq_true rfl⟩)) (fun r_61 hr_61 => ?_)
                obtain ⟨v_62, lv_62, ev_62⟩ := hr_61
                obtain rfl : nI v_62 = r_61 := Eq.symm ev_62
                refine lv_istore (lv' := [(6, .int (nI v_62)), (5, .int r_59), (0, .ref m0), (1, .int (nI cv)), (2, .int (nb_st (nI cv) n)), (3, .int ya), (4, .int (nI k))]) hx hb dX8_note_115 hl (by decide) rfl (fun ls hl => ?_)
                refine lv_iload_n hx hb dX8_note_117 rfl (lv_at hl 5 rfl) ?_
                refine lv_aload_n hx hb dX8_note_118 rfl (lv_at hl 2 rfl) ?_
                refine va_get (D := (dC, dI)) (ci := 6) (v := .ref pw) (C := RX8) (T := TX8) (N := 14) hx hb hts hnX8_note_X8 hown hK hP 0 rfl rfl 3 (by decide) (hts (.fieldLink RX8 20 "RingMeetsModel" "power" "[I") (by decide +kernel)) (fun _ h9 => h9) rfl dX8_note_119 ?_
                refine lv_iload hx hb dX8_note_122 (lv_at hl 6 rfl) ?_
                refine va_iald (D := (dC, dI)) hx hb hK hP 2 0 rfl rfl (vp_in_nI (n := k) (N := 11) (by omega) (by omega)) dX8_note_124 ?_
                refine lv_topi (fun x_63 ex_63 => ?_)
                rw [nI_clamp (n := k) (by omega)] at ex_63
                obtain rfl : (nI (3 ^ k)) = x_63 := (ex_63.trans (hp _ (by omega))).symm
                refine lv_iload hx hb dX8_note_125 (lv_at hl 0 rfl) ?_
                refine lv_iload hx hb dX8_note_127 (lv_at hl 6 rfl) ?_
                refine lv_icmp_ne (tgt := 136) hx hb dX8_note_129 (by decide) (fun c_64 => ?_) (fun c_64 => ?_)
                · skip
                  have ic_64 := ci_ne (nI_toInt (n := v_62) (by omega)) (nI_toInt (n := k) (by omega)) c_64
                  refine lv_iload hx hb dX8_note_136 (lv_at hl 0 rfl) ?_
                  refine lv_aload_n hx hb dX8_note_138 rfl (lv_at hl 2 rfl) ?_
                  refine lv_iload hx hb dX8_note_139 (lv_at hl 6 rfl) ?_
                  refine lv_iconst (v := 1) hx hb dX8_note_141 (by decide) ?_
                  refine vp_callSi (va_Run.run (va_runV (As := [.int (nI k), .int 1]) (rest := [.int (nI v_62), .int (nI (3 ^ k)), .int ya]) ⟨hx, hb, hml, hown, hts⟩ (mX8_beside l dC dI cyI cyZ m0 st im kq pw nx li il mv so la co (nI (L + 1)) ub d12 n fs k 11 1 hn3 hn h0f (by omega) (by omega) (by decide)) (cwV 2 hts gX8_note_X8_beside rfl rfl rfl (by decide +kernel) ⟨Nat.le_of_ble_eq_true rfl, Nat.le_of_ble_eq_true rfl⟩) (bs_RV hB (hP.sub (ws' := [(m0, .inr (6, [.ref st, .ref im, .ref kq, .ref pw, .ref nx, .ref li, .int (nI (L + 1)), .ref il, .ref mv, .ref so, .ref la, .int ub, .int d12, .ref co])), (st, .inl (cyI, 72, .inl fs))]) [0, 1] rfl) 0 rfl rfl) rfl rfl hl.1 rfl (lv_room (Nat.le_of_ble_eq_true rfl)) dX8_note_142 ⟨Nat.le_of_ble_eq_true rfl, Nat.le_of_ble_eq_true rfl⟩)) (fun r_65 hr_65 => ?_)
                  refine lv_icmp_ne (tgt := 152) hx hb dX8_note_145 (by decide) (fun c_66 => ?_) (fun c_66 => ?_)
                  · skip
                    have ic_66 := ci_ne (nI_toInt (n := v_62) (by omega)) (rfl : Int32.toInt r_65 = _) c_66
                    refine lv_iconst (v := 2) hx hb dX8_note_152 (by decide) ?_
                    refine lv_imul hx hb dX8_note_153 ?_
                    refine lv_topi (fun x_67 ex_67 => ?_)
                    obtain rfl : (nI ((3 ^ k) * 2)) = x_67 := (ex_67.trans (nb_mul _ 2)).symm
                    refine lv_iadd hx hb dX8_note_154 ?_
                    refine lv_topi (fun x_68 ex_68 => ?_)
                    refine lv_istore_n (lv' := [(3, .int x_68), (6, .int (nI v_62)), (5, .int r_59), (0, .ref m0), (1, .int (nI cv)), (2, .int (nb_st (nI cv) n)), (4, .int (nI k))]) hx hb dX8_note_155 rfl hl (by decide) rfl (fun ls hl => ?_)
                    refine lv_aload_n hx hb dX8_note_156 rfl (lv_at hl 3 rfl) ?_
                    refine lv_dup hx hb dX8_note_157 rfl ?_
                    refine va_get (D := (dC, dI)) (ci := 6) (v := .int ub) (C := RX8) (T := TX8) (N := 14) hx hb hts hnX8_note_X8 hown hK hP 0 rfl rfl 11 (by decide) (hts (.fieldLink RX8 136 "RingMeetsModel" "usedRules" "I") (by decide +kernel)) (fun _ h9 => h9) rfl dX8_note_158 ?_
                    refine lv_iload hx hb dX8_note_161 (lv_at hl 2 rfl) ?_
                    refine lv_if_lt (tgt := 181) hx hb dX8_note_163 (by decide) (fun c_69 => ?_) (fun c_69 => ?_)
                    · skip
                      have ic_69 := ci_lt (rfl : Int32.toInt r_59 = _) (show Int32.toInt 0 = 0 by decide) c_69
                      refine lv_iconst (v := 0) hx hb dX8_note_181 (by decide) ?_
                      refine lv_ior hx hb dX8_note_182 ?_
                      refine lv_topi (fun x_70 ex_70 => ?_)
                      obtain rfl : ub = x_70 := (ex_70.trans (Int32.or_zero)).symm
                      refine va_put (D := (dC, dI)) (ci := 6) (v := .int ub) (ty := .int) (C := RX8) (T := TX8) (N := 14) hx hb hts hnX8_note_X8 tyX8 tyX8_ok nmX8 hown hK hP hD hS 0 rfl rfl 11 (by decide) (hts (.fieldLink RX8 136 "RingMeetsModel" "usedRules" "I") (by decide +kernel)) (fun _ h9 => h9) rfl (by decide +kernel) rfl rfl (Nat.le_of_ble_eq_true rfl) dX8_note_183 (fun H locs hP hD hS => ?_)
                      have hP : va_P (dC, dI) vwCl [(m0, .inr (6, [.ref st, .ref im, .ref kq, .ref pw, .ref nx, .ref li, .int (nI (L + 1)), .ref il, .ref mv, .ref so, .ref la, .int ub, .int d12, .ref co])), (st, .inl (cyI, 72, .inl fs)), (pw, .inl (cyI, 11, .inl fp)), (li, .inl (cyI, 59049, .inl g_4)), (il, .inl (cyZ, 59049, .inl g_3)), (mv, .inl (cyI, 59049, .inl mf))] _ := hP
                      have hD : va_D A [(m0, .inr (6, [.ref st, .ref im, .ref kq, .ref pw, .ref nx, .ref li, .int (nI (L + 1)), .ref il, .ref mv, .ref so, .ref la, .int ub, .int d12, .ref co])), (st, .inl (cyI, 72, .inl fs)), (pw, .inl (cyI, 11, .inl fp)), (li, .inl (cyI, 59049, .inl g_4)), (il, .inl (cyZ, 59049, .inl g_3)), (mv, .inl (cyI, 59049, .inl mf))] := hD
                      refine lv_iinc (v := (nI (k + 1))) (lv' := [(4, .int (nI (k + 1))), (3, .int x_68), (6, .int (nI v_62)), (5, .int r_59), (0, .ref m0), (1, .int (nI cv)), (2, .int (nb_st (nI cv) n))]) hx hb dX8_note_186 hl (k := 6) rfl (nI_1 _) (by decide) rfl (fun ls hl => ?_)
                      refine lv_goto (tgt := 48) hx hb dX8_note_189 (by decide) ?_
                      exact ih48 (k + 1) x_68 ub ⟨by omega, by omega⟩ (by omega)  _ _ (hP.sub [0, 1, 2, 3, 4, 5] rfl) (hD.sub [0, 1, 2, 3, 4, 5] (by decide) rfl) hS _ (lv_sub hl [4, 5, 6, 1, 0] rfl)
                    · skip
                      have ic_69 := ci_nlt (rfl : Int32.toInt r_59 = _) (show Int32.toInt 0 = 0 by decide) c_69
                      refine lv_iload_n hx hb dX8_note_166 rfl (lv_at hl 5 rfl) ?_
                      refine vp_callSi (va_Run.run (va_runS (As := [.int (nb_st (nI cv) n)]) (rest := [.int ub, .ref m0]) ⟨hx, hb, hml, hown, hts⟩ (mX8_size l dC dI cyI cyZ (nb_st (nI cv) n) ) (va_cwS 1 hts gX8_note_X8_size rfl rfl rfl (by decide +kernel) ⟨Nat.le_of_ble_eq_true rfl, Nat.le_of_ble_eq_true rfl⟩) (bs_RS hB (hP.sub (ws' := []) [] rfl)) rfl rfl hl.1 rfl (lv_room (Nat.le_of_ble_eq_true rfl)) dX8_note_167 ⟨Nat.le_of_ble_eq_true rfl, Nat.le_of_ble_eq_true rfl⟩)) (fun r_71 hr_71 => ?_)
                      obtain ⟨v_72, lv_72, ev_72⟩ := hr_71
                      obtain rfl : nI v_72 = r_71 := Eq.symm ev_72
                      refine lv_iconst (v := 1) hx hb dX8_note_170 (by decide) ?_
                      refine lv_icmp_le (tgt := 181) hx hb dX8_note_171 (by decide) (fun c_73 => ?_) (fun c_73 => ?_)
                      · skip
                        have ic_73 := ci_le (nI_toInt (n := v_72) (by omega)) (show Int32.toInt 1 = 1 by decide) c_73
                        refine lv_iconst (v := 0) hx hb dX8_note_181 (by decide) ?_
                        refine lv_ior hx hb dX8_note_182 ?_
                        refine lv_topi (fun x_74 ex_74 => ?_)
                        obtain rfl : ub = x_74 := (ex_74.trans (Int32.or_zero)).symm
                        refine va_put (D := (dC, dI)) (ci := 6) (v := .int ub) (ty := .int) (C := RX8) (T := TX8) (N := 14) hx hb hts hnX8_note_X8 tyX8 tyX8_ok nmX8 hown hK hP hD hS 0 rfl rfl 11 (by decide) (hts (.fieldLink RX8 136 "RingMeetsModel" "usedRules" "I") (by decide +kernel)) (fun _ h9 => h9) rfl (by decide +kernel) rfl rfl (Nat.le_of_ble_eq_true rfl) dX8_note_183 (fun H locs hP hD hS => ?_)
                        have hP : va_P (dC, dI) vwCl [(m0, .inr (6, [.ref st, .ref im, .ref kq, .ref pw, .ref nx, .ref li, .int (nI (L + 1)), .ref il, .ref mv, .ref so, .ref la, .int ub, .int d12, .ref co])), (st, .inl (cyI, 72, .inl fs)), (pw, .inl (cyI, 11, .inl fp)), (li, .inl (cyI, 59049, .inl g_4)), (il, .inl (cyZ, 59049, .inl g_3)), (mv, .inl (cyI, 59049, .inl mf))] _ := hP
                        have hD : va_D A [(m0, .inr (6, [.ref st, .ref im, .ref kq, .ref pw, .ref nx, .ref li, .int (nI (L + 1)), .ref il, .ref mv, .ref so, .ref la, .int ub, .int d12, .ref co])), (st, .inl (cyI, 72, .inl fs)), (pw, .inl (cyI, 11, .inl fp)), (li, .inl (cyI, 59049, .inl g_4)), (il, .inl (cyZ, 59049, .inl g_3)), (mv, .inl (cyI, 59049, .inl mf))] := hD
                        refine lv_iinc (v := (nI (k + 1))) (lv' := [(4, .int (nI (k + 1))), (3, .int x_68), (6, .int (nI v_62)), (5, .int r_59), (0, .ref m0), (1, .int (nI cv)), (2, .int (nb_st (nI cv) n))]) hx hb dX8_note_186 hl (k := 6) rfl (nI_1 _) (by decide) rfl (fun ls hl => ?_)
                        refine lv_goto (tgt := 48) hx hb dX8_note_189 (by decide) ?_
                        exact ih48 (k + 1) x_68 ub ⟨by omega, by omega⟩ (by omega)  _ _ (hP.sub [0, 1, 2, 3, 4, 5] rfl) (hD.sub [0, 1, 2, 3, 4, 5] (by decide) rfl) hS _ (lv_sub hl [4, 5, 6, 1, 0] rfl)
                      · skip
                        have ic_73 := ci_nle (nI_toInt (n := v_72) (by omega)) (show Int32.toInt 1 = 1 by decide) c_73
                        refine lv_iconst (v := 1) hx hb dX8_note_174 (by decide) ?_
                        refine lv_iload hx hb dX8_note_175 (lv_at hl 2 rfl) ?_
                        refine lv_ishl hx hb dX8_note_177 ?_
                        refine lv_topi (fun x_75 ex_75 => ?_)
                        refine lv_goto (tgt := 182) hx hb dX8_note_178 (by decide) ?_
                        refine lv_ior hx hb dX8_note_182 ?_
                        refine lv_topi (fun x_76 ex_76 => ?_)
                        refine va_put (D := (dC, dI)) (ci := 6) (v := .int x_76) (ty := .int) (C := RX8) (T := TX8) (N := 14) hx hb hts hnX8_note_X8 tyX8 tyX8_ok nmX8 hown hK hP hD hS 0 rfl rfl 11 (by decide) (hts (.fieldLink RX8 136 "RingMeetsModel" "usedRules" "I") (by decide +kernel)) (fun _ h9 => h9) rfl (by decide +kernel) rfl rfl (Nat.le_of_ble_eq_true rfl) dX8_note_183 (fun H locs hP hD hS => ?_)
                        have hP : va_P (dC, dI) vwCl [(m0, .inr (6, [.ref st, .ref im, .ref kq, .ref pw, .ref nx, .ref li, .int (nI (L + 1)), .ref il, .ref mv, .ref so, .ref la, .int x_76, .int d12, .ref co])), (st, .inl (cyI, 72, .inl fs)), (pw, .inl (cyI, 11, .inl fp)), (li, .inl (cyI, 59049, .inl g_4)), (il, .inl (cyZ, 59049, .inl g_3)), (mv, .inl (cyI, 59049, .inl mf))] _ := hP
                        have hD : va_D A [(m0, .inr (6, [.ref st, .ref im, .ref kq, .ref pw, .ref nx, .ref li, .int (nI (L + 1)), .ref il, .ref mv, .ref so, .ref la, .int x_76, .int d12, .ref co])), (st, .inl (cyI, 72, .inl fs)), (pw, .inl (cyI, 11, .inl fp)), (li, .inl (cyI, 59049, .inl g_4)), (il, .inl (cyZ, 59049, .inl g_3)), (mv, .inl (cyI, 59049, .inl mf))] := hD
                        refine lv_iinc (v := (nI (k + 1))) (lv' := [(4, .int (nI (k + 1))), (3, .int x_68), (6, .int (nI v_62)), (5, .int r_59), (0, .ref m0), (1, .int (nI cv)), (2, .int (nb_st (nI cv) n))]) hx hb dX8_note_186 hl (k := 6) rfl (nI_1 _) (by decide) rfl (fun ls hl => ?_)
                        refine lv_goto (tgt := 48) hx hb dX8_note_189 (by decide) ?_
                        exact ih48 (k + 1) x_68 x_76 ⟨by omega, by omega⟩ (by omega)  _ _ (hP.sub [0, 1, 2, 3, 4, 5] rfl) (hD.sub [0, 1, 2, 3, 4, 5] (by decide) rfl) hS _ (lv_sub hl [4, 5, 6, 1, 0] rfl)
                  · skip
                    have ic_66 := ci_eq (nI_toInt (n := v_62) (by omega)) (rfl : Int32.toInt r_65 = _) c_66
                    refine lv_iconst (v := 1) hx hb dX8_note_148 (by decide) ?_
                    refine lv_goto (tgt := 153) hx hb dX8_note_149 (by decide) ?_
                    refine lv_imul hx hb dX8_note_153 ?_
                    refine lv_topi (fun x_77 ex_77 => ?_)
                    obtain rfl : (nI ((3 ^ k) * 1)) = x_77 := (ex_77.trans (nb_mul _ 1)).symm
                    refine lv_iadd hx hb dX8_note_154 ?_
                    refine lv_topi (fun x_78 ex_78 => ?_)
                    refine lv_istore_n (lv' := [(3, .int x_78), (6, .int (nI v_62)), (5, .int r_59), (0, .ref m0), (1, .int (nI cv)), (2, .int (nb_st (nI cv) n)), (4, .int (nI k))]) hx hb dX8_note_155 rfl hl (by decide) rfl (fun ls hl => ?_)
                    refine lv_aload_n hx hb dX8_note_156 rfl (lv_at hl 3 rfl) ?_
                    refine lv_dup hx hb dX8_note_157 rfl ?_
                    refine va_get (D := (dC, dI)) (ci := 6) (v := .int ub) (C := RX8) (T := TX8) (N := 14) hx hb hts hnX8_note_X8 hown hK hP 0 rfl rfl 11 (by decide) (hts (.fieldLink RX8 136 "RingMeetsModel" "usedRules" "I") (by decide +kernel)) (fun _ h9 => h9) rfl dX8_note_158 ?_
                    refine lv_iload hx hb dX8_note_161 (lv_at hl 2 rfl) ?_
                    refine lv_if_lt (tgt := 181) hx hb dX8_note_163 (by decide) (fun c_79 => ?_) (fun c_79 => ?_)
                    · skip
                      have ic_79 := ci_lt (rfl : Int32.toInt r_59 = _) (show Int32.toInt 0 = 0 by decide) c_79
                      refine lv_iconst (v := 0) hx hb dX8_note_181 (by decide) ?_
                      refine lv_ior hx hb dX8_note_182 ?_
                      refine lv_topi (fun x_80 ex_80 => ?_)
                      obtain rfl : ub = x_80 := (ex_80.trans (Int32.or_zero)).symm
                      refine va_put (D := (dC, dI)) (ci := 6) (v := .int ub) (ty := .int) (C := RX8) (T := TX8) (N := 14) hx hb hts hnX8_note_X8 tyX8 tyX8_ok nmX8 hown hK hP hD hS 0 rfl rfl 11 (by decide) (hts (.fieldLink RX8 136 "RingMeetsModel" "usedRules" "I") (by decide +kernel)) (fun _ h9 => h9) rfl (by decide +kernel) rfl rfl (Nat.le_of_ble_eq_true rfl) dX8_note_183 (fun H locs hP hD hS => ?_)
                      have hP : va_P (dC, dI) vwCl [(m0, .inr (6, [.ref st, .ref im, .ref kq, .ref pw, .ref nx, .ref li, .int (nI (L + 1)), .ref il, .ref mv, .ref so, .ref la, .int ub, .int d12, .ref co])), (st, .inl (cyI, 72, .inl fs)), (pw, .inl (cyI, 11, .inl fp)), (li, .inl (cyI, 59049, .inl g_4)), (il, .inl (cyZ, 59049, .inl g_3)), (mv, .inl (cyI, 59049, .inl mf))] _ := hP
                      have hD : va_D A [(m0, .inr (6, [.ref st, .ref im, .ref kq, .ref pw, .ref nx, .ref li, .int (nI (L + 1)), .ref il, .ref mv, .ref so, .ref la, .int ub, .int d12, .ref co])), (st, .inl (cyI, 72, .inl fs)), (pw, .inl (cyI, 11, .inl fp)), (li, .inl (cyI, 59049, .inl g_4)), (il, .inl (cyZ, 59049, .inl g_3)), (mv, .inl (cyI, 59049, .inl mf))] := hD
                      refine lv_iinc (v := (nI (k + 1))) (lv' := [(4, .int (nI (k + 1))), (3, .int x_78), (6, .int (nI v_62)), (5, .int r_59), (0, .ref m0), (1, .int (nI cv)), (2, .int (nb_st (nI cv) n))]) hx hb dX8_note_186 hl (k := 6) rfl (nI_1 _) (by decide) rfl (fun ls hl => ?_)
                      refine lv_goto (tgt := 48) hx hb dX8_note_189 (by decide) ?_
                      exact ih48 (k + 1) x_78 ub ⟨by omega, by omega⟩ (by omega)  _ _ (hP.sub [0, 1, 2, 3, 4, 5] rfl) (hD.sub [0, 1, 2, 3, 4, 5] (by decide) rfl) hS _ (lv_sub hl [4, 5, 6, 1, 0] rfl)
                    · skip
                      have ic_79 := ci_nlt (rfl : Int32.toInt r_59 = _) (show Int32.toInt 0 = 0 by decide) c_79
                      refine lv_iload_n hx hb dX8_note_166 rfl (lv_at hl 5 rfl) ?_
                      refine vp_callSi (va_Run.run (va_runS (As := [.int (nb_st (nI cv) n)]) (rest := [.int ub, .ref m0]) ⟨hx, hb, hml, hown, hts⟩ (mX8_size l dC dI cyI cyZ (nb_st (nI cv) n) ) (va_cwS 1 hts gX8_note_X8_size rfl rfl rfl (by decide +kernel) ⟨Nat.le_of_ble_eq_true rfl, Nat.le_of_ble_eq_true rfl⟩) (bs_RS hB (hP.sub (ws' := []) [] rfl)) rfl rfl hl.1 rfl (lv_room (Nat.le_of_ble_eq_true rfl)) dX8_note_167 ⟨Nat.le_of_ble_eq_true rfl, Nat.le_of_ble_eq_true rfl⟩)) (fun r_81 hr_81 => ?_)
                      obtain ⟨v_82, lv_82, ev_82⟩ := hr_81
                      obtain rfl : nI v_82 = r_81 := Eq.symm ev_82
                      refine lv_iconst (v := 1) hx hb dX8_note_170 (by decide) ?_
                      refine lv_icmp_le (tgt := 181) hx hb dX8_note_171 (by decide) (fun c_83 => ?_) (fun c_83 => ?_)
                      · skip
                        have ic_83 := ci_le (nI_toInt (n := v_82) (by omega)) (show Int32.toInt 1 = 1 by decide) c_83
                        refine lv_iconst (v := 0) hx hb dX8_note_181 (by decide) ?_
                        refine lv_ior hx hb dX8_note_182 ?_
                        refine lv_topi (fun x_84 ex_84 => ?_)
                        obtain rfl : ub = x_84 := (ex_84.trans (Int32.or_zero)).symm
                        refine va_put (D := (dC, dI)) (ci := 6) (v := .int ub) (ty := .int) (C := RX8) (T := TX8) (N := 14) hx hb hts hnX8_note_X8 tyX8 tyX8_ok nmX8 hown hK hP hD hS 0 rfl rfl 11 (by decide) (hts (.fieldLink RX8 136 "RingMeetsModel" "usedRules" "I") (by decide +kernel)) (fun _ h9 => h9) rfl (by decide +kernel) rfl rfl (Nat.le_of_ble_eq_true rfl) dX8_note_183 (fun H locs hP hD hS => ?_)
                        have hP : va_P (dC, dI) vwCl [(m0, .inr (6, [.ref st, .ref im, .ref kq, .ref pw, .ref nx, .ref li, .int (nI (L + 1)), .ref il, .ref mv, .ref so, .ref la, .int ub, .int d12, .ref co])), (st, .inl (cyI, 72, .inl fs)), (pw, .inl (cyI, 11, .inl fp)), (li, .inl (cyI, 59049, .inl g_4)), (il, .inl (cyZ, 59049, .inl g_3)), (mv, .inl (cyI, 59049, .inl mf))] _ := hP
                        have hD : va_D A [(m0, .inr (6, [.ref st, .ref im, .ref kq, .ref pw, .ref nx, .ref li, .int (nI (L + 1)), .ref il, .ref mv, .ref so, .ref la, .int ub, .int d12, .ref co])), (st, .inl (cyI, 72, .inl fs)), (pw, .inl (cyI, 11, .inl fp)), (li, .inl (cyI, 59049, .inl g_4)), (il, .inl (cyZ, 59049, .inl g_3)), (mv, .inl (cyI, 59049, .inl mf))] := hD
                        refine lv_iinc (v := (nI (k + 1))) (lv' := [(4, .int (nI (k + 1))), (3, .int x_78), (6, .int (nI v_62)), (5, .int r_59), (0, .ref m0), (1, .int (nI cv)), (2, .int (nb_st (nI cv) n))]) hx hb dX8_note_186 hl (k := 6) rfl (nI_1 _) (by decide) rfl (fun ls hl => ?_)
                        refine lv_goto (tgt := 48) hx hb dX8_note_189 (by decide) ?_
                        exact ih48 (k + 1) x_78 ub ⟨by omega, by omega⟩ (by omega)  _ _ (hP.sub [0, 1, 2, 3, 4, 5] rfl) (hD.sub [0, 1, 2, 3, 4, 5] (by decide) rfl) hS _ (lv_sub hl [4, 5, 6, 1, 0] rfl)
                      · skip
                        have ic_83 := ci_nle (nI_toInt (n := v_82) (by omega)) (show Int32.toInt 1 = 1 by decide) c_83
                        refine lv_iconst (v := 1) hx hb dX8_note_174 (by decide) ?_
                        refine lv_iload hx hb dX8_note_175 (lv_at hl 2 rfl) ?_
                        refine lv_ishl hx hb dX8_note_177 ?_
                        refine lv_topi (fun x_85 ex_85 => ?_)
                        refine lv_goto (tgt := 182) hx hb dX8_note_178 (by decide) ?_
                        refine lv_ior hx hb dX8_note_182 ?_
                        refine lv_topi (fun x_86 ex_86 => ?_)
                        refine va_put (D := (dC, dI)) (ci := 6) (v := .int x_86) (ty := .int) (C := RX8) (T := TX8) (N := 14) hx hb hts hnX8_note_X8 tyX8 tyX8_ok nmX8 hown hK hP hD hS 0 rfl rfl 11 (by decide) (hts (.fieldLink RX8 136 "RingMeetsModel" "usedRules" "I") (by decide +kernel)) (fun _ h9 => h9) rfl (by decide +kernel) rfl rfl (Nat.le_of_ble_eq_true rfl) dX8_note_183 (fun H locs hP hD hS => ?_)
                        have hP : va_P (dC, dI) vwCl [(m0, .inr (6, [.ref st, .ref im, .ref kq, .ref pw, .ref nx, .ref li, .int (nI (L + 1)), .ref il, .ref mv, .ref so, .ref la, .int x_86, .int d12, .ref co])), (st, .inl (cyI, 72, .inl fs)), (pw, .inl (cyI, 11, .inl fp)), (li, .inl (cyI, 59049, .inl g_4)), (il, .inl (cyZ, 59049, .inl g_3)), (mv, .inl (cyI, 59049, .inl mf))] _ := hP
                        have hD : va_D A [(m0, .inr (6, [.ref st, .ref im, .ref kq, .ref pw, .ref nx, .ref li, .int (nI (L + 1)), .ref il, .ref mv, .ref so, .ref la, .int x_86, .int d12, .ref co])), (st, .inl (cyI, 72, .inl fs)), (pw, .inl (cyI, 11, .inl fp)), (li, .inl (cyI, 59049, .inl g_4)), (il, .inl (cyZ, 59049, .inl g_3)), (mv, .inl (cyI, 59049, .inl mf))] := hD
                        refine lv_iinc (v := (nI (k + 1))) (lv' := [(4, .int (nI (k + 1))), (3, .int x_78), (6, .int (nI v_62)), (5, .int r_59), (0, .ref m0), (1, .int (nI cv)), (2, .int (nb_st (nI cv) n))]) hx hb dX8_note_186 hl (k := 6) rfl (nI_1 _) (by decide) rfl (fun ls hl => ?_)
                        refine lv_goto (tgt := 48) hx hb dX8_note_189 (by decide) ?_
                        exact ih48 (k + 1) x_78 x_86 ⟨by omega, by omega⟩ (by omega)  _ _ (hP.sub [0, 1, 2, 3, 4, 5] rfl) (hD.sub [0, 1, 2, 3, 4, 5] (by decide) rfl) hS _ (lv_sub hl [4, 5, 6, 1, 0] rfl)
                · skip
                  have ic_64 := ci_eq (nI_toInt (n := v_62) (by omega)) (nI_toInt (n := k) (by omega)) c_64
                  refine lv_iconst (v := 0) hx hb dX8_note_132 (by decide) ?_
                  refine lv_goto (tgt := 153) hx hb dX8_note_133 (by decide) ?_
                  refine lv_imul hx hb dX8_note_153 ?_
                  refine lv_topi (fun x_87 ex_87 => ?_)
                  obtain rfl : 0 = x_87 := (ex_87.trans (Int32.mul_zero)).symm
                  refine lv_iadd hx hb dX8_note_154 ?_
                  refine lv_topi (fun x_88 ex_88 => ?_)
                  obtain rfl : ya = x_88 := (ex_88.trans (Int32.add_zero _)).symm
                  refine lv_istore_n (lv' := [(3, .int ya), (6, .int (nI v_62)), (5, .int r_59), (0, .ref m0), (1, .int (nI cv)), (2, .int (nb_st (nI cv) n)), (4, .int (nI k))]) hx hb dX8_note_155 rfl hl (by decide) rfl (fun ls hl => ?_)
                  refine lv_aload_n hx hb dX8_note_156 rfl (lv_at hl 3 rfl) ?_
                  refine lv_dup hx hb dX8_note_157 rfl ?_
                  refine va_get (D := (dC, dI)) (ci := 6) (v := .int ub) (C := RX8) (T := TX8) (N := 14) hx hb hts hnX8_note_X8 hown hK hP 0 rfl rfl 11 (by decide) (hts (.fieldLink RX8 136 "RingMeetsModel" "usedRules" "I") (by decide +kernel)) (fun _ h9 => h9) rfl dX8_note_158 ?_
                  refine lv_iload hx hb dX8_note_161 (lv_at hl 2 rfl) ?_
                  refine lv_if_lt (tgt := 181) hx hb dX8_note_163 (by decide) (fun c_89 => ?_) (fun c_89 => ?_)
                  · skip
                    have ic_89 := ci_lt (rfl : Int32.toInt r_59 = _) (show Int32.toInt 0 = 0 by decide) c_89
                    refine lv_iconst (v := 0) hx hb dX8_note_181 (by decide) ?_
                    refine lv_ior hx hb dX8_note_182 ?_
                    refine lv_topi (fun x_90 ex_90 => ?_)
                    obtain rfl : ub = x_90 := (ex_90.trans (Int32.or_zero)).symm
                    refine va_put (D := (dC, dI)) (ci := 6) (v := .int ub) (ty := .int) (C := RX8) (T := TX8) (N := 14) hx hb hts hnX8_note_X8 tyX8 tyX8_ok nmX8 hown hK hP hD hS 0 rfl rfl 11 (by decide) (hts (.fieldLink RX8 136 "RingMeetsModel" "usedRules" "I") (by decide +kernel)) (fun _ h9 => h9) rfl (by decide +kernel) rfl rfl (Nat.le_of_ble_eq_true rfl) dX8_note_183 (fun H locs hP hD hS => ?_)
                    have hP : va_P (dC, dI) vwCl [(m0, .inr (6, [.ref st, .ref im, .ref kq, .ref pw, .ref nx, .ref li, .int (nI (L + 1)), .ref il, .ref mv, .ref so, .ref la, .int ub, .int d12, .ref co])), (st, .inl (cyI, 72, .inl fs)), (pw, .inl (cyI, 11, .inl fp)), (li, .inl (cyI, 59049, .inl g_4)), (il, .inl (cyZ, 59049, .inl g_3)), (mv, .inl (cyI, 59049, .inl mf))] _ := hP
                    have hD : va_D A [(m0, .inr (6, [.ref st, .ref im, .ref kq, .ref pw, .ref nx, .ref li, .int (nI (L + 1)), .ref il, .ref mv, .ref so, .ref la, .int ub, .int d12, .ref co])), (st, .inl (cyI, 72, .inl fs)), (pw, .inl (cyI, 11, .inl fp)), (li, .inl (cyI, 59049, .inl g_4)), (il, .inl (cyZ, 59049, .inl g_3)), (mv, .inl (cyI, 59049, .inl mf))] := hD
                    refine lv_iinc (v := (nI (k + 1))) (lv' := [(4, .int (nI (k + 1))), (3, .int ya), (6, .int (nI v_62)), (5, .int r_59), (0, .ref m0), (1, .int (nI cv)), (2, .int (nb_st (nI cv) n))]) hx hb dX8_note_186 hl (k := 6) rfl (nI_1 _) (by decide) rfl (fun ls hl => ?_)
                    refine lv_goto (tgt := 48) hx hb dX8_note_189 (by decide) ?_
                    exact ih48 (k + 1) ya ub ⟨by omega, by omega⟩ (by omega)  _ _ (hP.sub [0, 1, 2, 3, 4, 5] rfl) (hD.sub [0, 1, 2, 3, 4, 5] (by decide) rfl) hS _ (lv_sub hl [4, 5, 6, 1, 0] rfl)
                  · skip
                    have ic_89 := ci_nlt (rfl : Int32.toInt r_59 = _) (show Int32.toInt 0 = 0 by decide) c_89
                    refine lv_iload_n hx hb dX8_note_166 rfl (lv_at hl 5 rfl) ?_
                    refine vp_callSi (va_Run.run (va_runS (As := [.int (nb_st (nI cv) n)]) (rest := [.int ub, .ref m0]) ⟨hx, hb, hml, hown, hts⟩ (mX8_size l dC dI cyI cyZ (nb_st (nI cv) n) ) (va_cwS 1 hts gX8_note_X8_size rfl rfl rfl (by decide +kernel) ⟨Nat.le_of_ble_eq_true rfl, Nat.le_of_ble_eq_true rfl⟩) (bs_RS hB (hP.sub (ws' := []) [] rfl)) rfl rfl hl.1 rfl (lv_room (Nat.le_of_ble_eq_true rfl)) dX8_note_167 ⟨Nat.le_of_ble_eq_true rfl, Nat.le_of_ble_eq_true rfl⟩)) (fun r_91 hr_91 => ?_)
                    obtain ⟨v_92, lv_92, ev_92⟩ := hr_91
                    obtain rfl : nI v_92 = r_91 := Eq.symm ev_92
                    refine lv_iconst (v := 1) hx hb dX8_note_170 (by decide) ?_
                    refine lv_icmp_le (tgt := 181) hx hb dX8_note_171 (by decide) (fun c_93 => ?_) (fun c_93 => ?_)
                    · skip
                      have ic_93 := ci_le (nI_toInt (n := v_92) (by omega)) (show Int32.toInt 1 = 1 by decide) c_93
                      refine lv_iconst (v := 0) hx hb dX8_note_181 (by decide) ?_
                      refine lv_ior hx hb dX8_note_182 ?_
                      refine lv_topi (fun x_94 ex_94 => ?_)
                      obtain rfl : ub = x_94 := (ex_94.trans (Int32.or_zero)).symm
                      refine va_put (D := (dC, dI)) (ci := 6) (v := .int ub) (ty := .int) (C := RX8) (T := TX8) (N := 14) hx hb hts hnX8_note_X8 tyX8 tyX8_ok nmX8 hown hK hP hD hS 0 rfl rfl 11 (by decide) (hts (.fieldLink RX8 136 "RingMeetsModel" "usedRules" "I") (by decide +kernel)) (fun _ h9 => h9) rfl (by decide +kernel) rfl rfl (Nat.le_of_ble_eq_true rfl) dX8_note_183 (fun H locs hP hD hS => ?_)
                      have hP : va_P (dC, dI) vwCl [(m0, .inr (6, [.ref st, .ref im, .ref kq, .ref pw, .ref nx, .ref li, .int (nI (L + 1)), .ref il, .ref mv, .ref so, .ref la, .int ub, .int d12, .ref co])), (st, .inl (cyI, 72, .inl fs)), (pw, .inl (cyI, 11, .inl fp)), (li, .inl (cyI, 59049, .inl g_4)), (il, .inl (cyZ, 59049, .inl g_3)), (mv, .inl (cyI, 59049, .inl mf))] _ := hP
                      have hD : va_D A [(m0, .inr (6, [.ref st, .ref im, .ref kq, .ref pw, .ref nx, .ref li, .int (nI (L + 1)), .ref il, .ref mv, .ref so, .ref la, .int ub, .int d12, .ref co])), (st, .inl (cyI, 72, .inl fs)), (pw, .inl (cyI, 11, .inl fp)), (li, .inl (cyI, 59049, .inl g_4)), (il, .inl (cyZ, 59049, .inl g_3)), (mv, .inl (cyI, 59049, .inl mf))] := hD
                      refine lv_iinc (v := (nI (k + 1))) (lv' := [(4, .int (nI (k + 1))), (3, .int ya), (6, .int (nI v_62)), (5, .int r_59), (0, .ref m0), (1, .int (nI cv)), (2, .int (nb_st (nI cv) n))]) hx hb dX8_note_186 hl (k := 6) rfl (nI_1 _) (by decide) rfl (fun ls hl => ?_)
                      refine lv_goto (tgt := 48) hx hb dX8_note_189 (by decide) ?_
                      exact ih48 (k + 1) ya ub ⟨by omega, by omega⟩ (by omega)  _ _ (hP.sub [0, 1, 2, 3, 4, 5] rfl) (hD.sub [0, 1, 2, 3, 4, 5] (by decide) rfl) hS _ (lv_sub hl [4, 5, 6, 1, 0] rfl)
                    · skip
                      have ic_93 := ci_nle (nI_toInt (n := v_92) (by omega)) (show Int32.toInt 1 = 1 by decide) c_93
                      refine lv_iconst (v := 1) hx hb dX8_note_174 (by decide) ?_
                      refine lv_iload hx hb dX8_note_175 (lv_at hl 2 rfl) ?_
                      refine lv_ishl hx hb dX8_note_177 ?_
                      refine lv_topi (fun x_95 ex_95 => ?_)
                      refine lv_goto (tgt := 182) hx hb dX8_note_178 (by decide) ?_
                      refine lv_ior hx hb dX8_note_182 ?_
                      refine lv_topi (fun x_96 ex_96 => ?_)
                      refine va_put (D := (dC, dI)) (ci := 6) (v := .int x_96) (ty := .int) (C := RX8) (T := TX8) (N := 14) hx hb hts hnX8_note_X8 tyX8 tyX8_ok nmX8 hown hK hP hD hS 0 rfl rfl 11 (by decide) (hts (.fieldLink RX8 136 "RingMeetsModel" "usedRules" "I") (by decide +kernel)) (fun _ h9 => h9) rfl (by decide +kernel) rfl rfl (Nat.le_of_ble_eq_true rfl) dX8_note_183 (fun H locs hP hD hS => ?_)
                      have hP : va_P (dC, dI) vwCl [(m0, .inr (6, [.ref st, .ref im, .ref kq, .ref pw, .ref nx, .ref li, .int (nI (L + 1)), .ref il, .ref mv, .ref so, .ref la, .int x_96, .int d12, .ref co])), (st, .inl (cyI, 72, .inl fs)), (pw, .inl (cyI, 11, .inl fp)), (li, .inl (cyI, 59049, .inl g_4)), (il, .inl (cyZ, 59049, .inl g_3)), (mv, .inl (cyI, 59049, .inl mf))] _ := hP
                      have hD : va_D A [(m0, .inr (6, [.ref st, .ref im, .ref kq, .ref pw, .ref nx, .ref li, .int (nI (L + 1)), .ref il, .ref mv, .ref so, .ref la, .int x_96, .int d12, .ref co])), (st, .inl (cyI, 72, .inl fs)), (pw, .inl (cyI, 11, .inl fp)), (li, .inl (cyI, 59049, .inl g_4)), (il, .inl (cyZ, 59049, .inl g_3)), (mv, .inl (cyI, 59049, .inl mf))] := hD
                      refine lv_iinc (v := (nI (k + 1))) (lv' := [(4, .int (nI (k + 1))), (3, .int ya), (6, .int (nI v_62)), (5, .int r_59), (0, .ref m0), (1, .int (nI cv)), (2, .int (nb_st (nI cv) n))]) hx hb dX8_note_186 hl (k := 6) rfl (nI_1 _) (by decide) rfl (fun ls hl => ?_)
                      refine lv_goto (tgt := 48) hx hb dX8_note_189 (by decide) ?_
                      exact ih48 (k + 1) ya x_96 ⟨by omega, by omega⟩ (by omega)  _ _ (hP.sub [0, 1, 2, 3, 4, 5] rfl) (hD.sub [0, 1, 2, 3, 4, 5] (by decide) rfl) hS _ (lv_sub hl [4, 5, 6, 1, 0] rfl)
              · skip
                have ic_58 := ci_eq (rfl : Int32.toInt x_57 = _) (show Int32.toInt 2 = 2 by decide) c_58
                refine lv_iconst (v := 1) hx hb dX8_note_92 (by decide) ?_
                refine lv_goto (tgt := 97) hx hb dX8_note_93 (by decide) ?_
                refine vp_callSi (va_Run.run (va_runV (As := [.int (nb_st (nI cv) n), .int (nI k), .int 1]) (rest := []) ⟨hx, hb, hml, hown, hts⟩ (mX8_ruleOf l dC dI cyI cyZ m0 st im kq pw nx li il mv so la co (nI (L + 1)) ub d12 n fs zz k (nb_st (nI cv) n) 1 hn3 hn h0f hzf hz10 (by omega) hbs) (cwV 3 hts gX8_note_X8_ruleOf rfl rfl rfl (by decide +kernel) ⟨Nat.le_of_ble_eq_true rfl, Nat.le_of_ble_eq_true rfl⟩) (bs_RV hB (hP.sub (ws' := [(m0, .inr (6, [.ref st, .ref im, .ref kq, .ref pw, .ref nx, .ref li, .int (nI (L + 1)), .ref il, .ref mv, .ref so, .ref la, .int ub, .int d12, .ref co])), (st, .inl (cyI, 72, .inl fs))]) [0, 1] rfl) 0 rfl rfl) rfl rfl hl.1 rfl (lv_room (Nat.le_of_ble_eq_true rfl)) dX8_note_97 ⟨Nat.le_of_ble_eq_true rfl, Nat.le_of_ble_eq_true rfl⟩)) (fun r_97 hr_97 => ?_)
                refine lv_istore (lv' := [(5, .int r_97), (0, .ref m0), (1, .int (nI cv)), (2, .int (nb_st (nI cv) n)), (3, .int ya), (4, .int (nI k))]) hx hb dX8_note_100 hl (by decide) rfl (fun ls hl => ?_)
                refine lv_aload_n hx hb dX8_note_102 rfl (lv_at hl 1 rfl) ?_
                refine lv_iload_n hx hb dX8_note_103 rfl (lv_at hl 3 rfl) ?_
                refine lv_iload hx hb dX8_note_104 (lv_at hl 5 rfl) ?_
                refine lv_aload_n hx hb dX8_note_106 rfl (lv_at hl 1 rfl) ?_
                refine lv_iload hx hb dX8_note_107 (lv_at hl 0 rfl) ?_
                refine vp_callSi (va_Run.run (va_runV (As := [.int r_97]) (rest := [.int (nI k), .int (nb_st (nI cv) n), .ref m0]) ⟨hx, hb, hml, hown, hts⟩ (mX8_doneBy l dC dI cyI cyZ m0 st im kq pw nx li il mv so la co (nI (L + 1)) ub d12 zz fs r_97 hzf hz10 hr_97) (cwV 1 hts gX8_note_X8_doneBy rfl rfl rfl (by decide +kernel) ⟨Nat.le_of_ble_eq_true rfl, Nat.le_of_ble_eq_true rfl⟩) (bs_RV hB (hP.sub (ws' := [(m0, .inr (6, [.ref st, .ref im, .ref kq, .ref pw, .ref nx, .ref li, .int (nI (L + 1)), .ref il, .ref mv, .ref so, .ref la, .int ub, .int d12, .ref co])), (st, .inl (cyI, 72, .inl fs))]) [0, 1] rfl) 0 rfl rfl) rfl rfl hl.1 rfl (lv_room (Nat.le_of_ble_eq_true rfl)) dX8_note_109 ⟨Nat.le_of_ble_eq_true rfl, Nat.le_of_ble_eq_true rfl⟩)) (fun r_98 hr_98 => ?_)
                refine vp_callSi (va_Run.run (va_runV (As := [.int (nb_st (nI cv) n), .int (nI k), .int r_98]) (rest := []) ⟨hx, hb, hml, hown, hts⟩ (mX8_behind l dC dI cyI cyZ m0 st im kq pw nx li il mv so la co (nI (L + 1)) ub d12 n fs k (nb_st (nI cv) n) r_98 hn3 hn h0f (by omega) hbs) (cwV 3 hts gX8_note_X8_behind rfl rfl rfl (by decide +kernel) ⟨Nat.le_of_ble_eq_true rfl, Nat.le_of_ble_eq_true rfl⟩) (bs_RV hB (hP.sub (ws' := [(m0, .inr (6, [.ref st, .ref im, .ref kq, .ref pw, .ref nx, .ref li, .int (nI (L + 1)), .ref il, .ref mv, .ref so, .ref la, .int ub, .int d12, .ref co])), (st, .inl (cyI, 72, .inl fs))]) [0, 1] rfl) 0 rfl rfl) rfl rfl hl.1 rfl (lv_room (Nat.le_of_ble_eq_true rfl)) dX8_note_112 ⟨Nat.le_of_ble_eq_true rfl, Nat.le_of_ble_eq_true rfl⟩)) (fun r_99 hr_99 => ?_)
                obtain ⟨v_100, lv_100, ev_100⟩ := hr_99
                obtain rfl : nI v_100 = r_99 := Eq.symm ev_100
                refine lv_istore (lv' := [(6, .int (nI v_100)), (5, .int r_97), (0, .ref m0), (1, .int (nI cv)), (2, .int (nb_st (nI cv) n)), (3, .int ya), (4, .int (nI k))]) hx hb dX8_note_115 hl (by decide) rfl (fun ls hl => ?_)
                refine lv_iload_n hx hb dX8_note_117 rfl (lv_at hl 5 rfl) ?_
                refine lv_aload_n hx hb dX8_note_118 rfl (lv_at hl 2 rfl) ?_
                refine va_get (D := (dC, dI)) (ci := 6) (v := .ref pw) (C := RX8) (T := TX8) (N := 14) hx hb hts hnX8_note_X8 hown hK hP 0 rfl rfl 3 (by decide) (hts (.fieldLink RX8 20 "RingMeetsModel" "power" "[I") (by decide +kernel)) (fun _ h9 => h9) rfl dX8_note_119 ?_
                refine lv_iload hx hb dX8_note_122 (lv_at hl 6 rfl) ?_
                refine va_iald (D := (dC, dI)) hx hb hK hP 2 0 rfl rfl (vp_in_nI (n := k) (N := 11) (by omega) (by omega)) dX8_note_124 ?_
                refine lv_topi (fun x_101 ex_101 => ?_)
                rw [nI_clamp (n := k) (by omega)] at ex_101
                obtain rfl : (nI (3 ^ k)) = x_101 := (ex_101.trans (hp _ (by omega))).symm
                refine lv_iload hx hb dX8_note_125 (lv_at hl 0 rfl) ?_
                refine lv_iload hx hb dX8_note_127 (lv_at hl 6 rfl) ?_
                refine lv_icmp_ne (tgt := 136) hx hb dX8_note_129 (by decide) (fun c_102 => ?_) (fun c_102 => ?_)
                · skip
                  have ic_102 := ci_ne (nI_toInt (n := v_100) (by omega)) (nI_toInt (n := k) (by omega)) c_102
                  refine lv_iload hx hb dX8_note_136 (lv_at hl 0 rfl) ?_
                  refine lv_aload_n hx hb dX8_note_138 rfl (lv_at hl 2 rfl) ?_
                  refine lv_iload hx hb dX8_note_139 (lv_at hl 6 rfl) ?_
                  refine lv_iconst (v := 1) hx hb dX8_note_141 (by decide) ?_
                  refine vp_callSi (va_Run.run (va_runV (As := [.int (nI k), .int 1]) (rest := [.int (nI v_100), .int (nI (3 ^ k)), .int ya]) ⟨hx, hb, hml, hown, hts⟩ (mX8_beside l dC dI cyI cyZ m0 st im kq pw nx li il mv so la co (nI (L + 1)) ub d12 n fs k 11 1 hn3 hn h0f (by omega) (by omega) (by decide)) (cwV 2 hts gX8_note_X8_beside rfl rfl rfl (by decide +kernel) ⟨Nat.le_of_ble_eq_true rfl, Nat.le_of_ble_eq_true rfl⟩) (bs_RV hB (hP.sub (ws' := [(m0, .inr (6, [.ref st, .ref im, .ref kq, .ref pw, .ref nx, .ref li, .int (nI (L + 1)), .ref il, .ref mv, .ref so, .ref la, .int ub, .int d12, .ref co])), (st, .inl (cyI, 72, .inl fs))]) [0, 1] rfl) 0 rfl rfl) rfl rfl hl.1 rfl (lv_room (Nat.le_of_ble_eq_true rfl)) dX8_note_142 ⟨Nat.le_of_ble_eq_true rfl, Nat.le_of_ble_eq_true rfl⟩)) (fun r_103 hr_103 => ?_)
                  refine lv_icmp_ne (tgt := 152) hx hb dX8_note_145 (by decide) (fun c_104 => ?_) (fun c_104 => ?_)
                  · skip
                    have ic_104 := ci_ne (nI_toInt (n := v_100) (by omega)) (rfl : Int32.toInt r_103 = _) c_104
                    refine lv_iconst (v := 2) hx hb dX8_note_152 (by decide) ?_
                    refine lv_imul hx hb dX8_note_153 ?_
                    refine lv_topi (fun x_105 ex_105 => ?_)
                    obtain rfl : (nI ((3 ^ k) * 2)) = x_105 := (ex_105.trans (nb_mul _ 2)).symm
                    refine lv_iadd hx hb dX8_note_154 ?_
                    refine lv_topi (fun x_106 ex_106 => ?_)
                    refine lv_istore_n (lv' := [(3, .int x_106), (6, .int (nI v_100)), (5, .int r_97), (0, .ref m0), (1, .int (nI cv)), (2, .int (nb_st (nI cv) n)), (4, .int (nI k))]) hx hb dX8_note_155 rfl hl (by decide) rfl (fun ls hl => ?_)
                    refine lv_aload_n hx hb dX8_note_156 rfl (lv_at hl 3 rfl) ?_
                    refine lv_dup hx hb dX8_note_157 rfl ?_
                    refine va_get (D := (dC, dI)) (ci := 6) (v := .int ub) (C := RX8) (T := TX8) (N := 14) hx hb hts hnX8_note_X8 hown hK hP 0 rfl rfl 11 (by decide) (hts (.fieldLink RX8 136 "RingMeetsModel" "usedRules" "I") (by decide +kernel)) (fun _ h9 => h9) rfl dX8_note_158 ?_
                    refine lv_iload hx hb dX8_note_161 (lv_at hl 2 rfl) ?_
                    refine lv_if_lt (tgt := 181) hx hb dX8_note_163 (by decide) (fun c_107 => ?_) (fun c_107 => ?_)
                    · skip
                      have ic_107 := ci_lt (rfl : Int32.toInt r_97 = _) (show Int32.toInt 0 = 0 by decide) c_107
                      refine lv_iconst (v := 0) hx hb dX8_note_181 (by decide) ?_
                      refine lv_ior hx hb dX8_note_182 ?_
                      refine lv_topi (fun x_108 ex_108 => ?_)
                      obtain rfl : ub = x_108 := (ex_108.trans (Int32.or_zero)).symm
                      refine va_put (D := (dC, dI)) (ci := 6) (v := .int ub) (ty := .int) (C := RX8) (T := TX8) (N := 14) hx hb hts hnX8_note_X8 tyX8 tyX8_ok nmX8 hown hK hP hD hS 0 rfl rfl 11 (by decide) (hts (.fieldLink RX8 136 "RingMeetsModel" "usedRules" "I") (by decide +kernel)) (fun _ h9 => h9) rfl (by decide +kernel) rfl rfl (Nat.le_of_ble_eq_true rfl) dX8_note_183 (fun H locs hP hD hS => ?_)
                      have hP : va_P (dC, dI) vwCl [(m0, .inr (6, [.ref st, .ref im, .ref kq, .ref pw, .ref nx, .ref li, .int (nI (L + 1)), .ref il, .ref mv, .ref so, .ref la, .int ub, .int d12, .ref co])), (st, .inl (cyI, 72, .inl fs)), (pw, .inl (cyI, 11, .inl fp)), (li, .inl (cyI, 59049, .inl g_4)), (il, .inl (cyZ, 59049, .inl g_3)), (mv, .inl (cyI, 59049, .inl mf))] _ := hP
                      have hD : va_D A [(m0, .inr (6, [.ref st, .ref im, .ref kq, .ref pw, .ref nx, .ref li, .int (nI (L + 1)), .ref il, .ref mv, .ref so, .ref la, .int ub, .int d12, .ref co])), (st, .inl (cyI, 72, .inl fs)), (pw, .inl (cyI, 11, .inl fp)), (li, .inl (cyI, 59049, .inl g_4)), (il, .inl (cyZ, 59049, .inl g_3)), (mv, .inl (cyI, 59049, .inl mf))] := hD
                      refine lv_iinc (v := (nI (k + 1))) (lv' := [(4, .int (nI (k + 1))), (3, .int x_106), (6, .int (nI v_100)), (5, .int r_97), (0, .ref m0), (1, .int (nI cv)), (2, .int (nb_st (nI cv) n))]) hx hb dX8_note_186 hl (k := 6) rfl (nI_1 _) (by decide) rfl (fun ls hl => ?_)
                      refine lv_goto (tgt := 48) hx hb dX8_note_189 (by decide) ?_
                      exact ih48 (k + 1) x_106 ub ⟨by omega, by omega⟩ (by omega)  _ _ (hP.sub [0, 1, 2, 3, 4, 5] rfl) (hD.sub [0, 1, 2, 3, 4, 5] (by decide) rfl) hS _ (lv_sub hl [4, 5, 6, 1, 0] rfl)
                    · skip
                      have ic_107 := ci_nlt (rfl : Int32.toInt r_97 = _) (show Int32.toInt 0 = 0 by decide) c_107
                      refine lv_iload_n hx hb dX8_note_166 rfl (lv_at hl 5 rfl) ?_
                      refine vp_callSi (va_Run.run (va_runS (As := [.int (nb_st (nI cv) n)]) (rest := [.int ub, .ref m0]) ⟨hx, hb, hml, hown, hts⟩ (mX8_size l dC dI cyI cyZ (nb_st (nI cv) n) ) (va_cwS 1 hts gX8_note_X8_size rfl rfl rfl (by decide +kernel) ⟨Nat.le_of_ble_eq_true rfl, Nat.le_of_ble_eq_true rfl⟩) (bs_RS hB (hP.sub (ws' := []) [] rfl)) rfl rfl hl.1 rfl (lv_room (Nat.le_of_ble_eq_true rfl)) dX8_note_167 ⟨Nat.le_of_ble_eq_true rfl, Nat.le_of_ble_eq_true rfl⟩)) (fun r_109 hr_109 => ?_)
                      obtain ⟨v_110, lv_110, ev_110⟩ := hr_109
                      obtain rfl : nI v_110 = r_109 := Eq.symm ev_110
                      refine lv_iconst (v := 1) hx hb dX8_note_170 (by decide) ?_
                      refine lv_icmp_le (tgt := 181) hx hb dX8_note_171 (by decide) (fun c_111 => ?_) (fun c_111 => ?_)
                      · skip
                        have ic_111 := ci_le (nI_toInt (n := v_110) (by omega)) (show Int32.toInt 1 = 1 by decide) c_111
                        refine lv_iconst (v := 0) hx hb dX8_note_181 (by decide) ?_
                        refine lv_ior hx hb dX8_note_182 ?_
                        refine lv_topi (fun x_112 ex_112 => ?_)
                        obtain rfl : ub = x_112 := (ex_112.trans (Int32.or_zero)).symm
                        refine va_put (D := (dC, dI)) (ci := 6) (v := .int ub) (ty := .int) (C := RX8) (T := TX8) (N := 14) hx hb hts hnX8_note_X8 tyX8 tyX8_ok nmX8 hown hK hP hD hS 0 rfl rfl 11 (by decide) (hts (.fieldLink RX8 136 "RingMeetsModel" "usedRules" "I") (by decide +kernel)) (fun _ h9 => h9) rfl (by decide +kernel) rfl rfl (Nat.le_of_ble_eq_true rfl) dX8_note_183 (fun H locs hP hD hS => ?_)
                        have hP : va_P (dC, dI) vwCl [(m0, .inr (6, [.ref st, .ref im, .ref kq, .ref pw, .ref nx, .ref li, .int (nI (L + 1)), .ref il, .ref mv, .ref so, .ref la, .int ub, .int d12, .ref co])), (st, .inl (cyI, 72, .inl fs)), (pw, .inl (cyI, 11, .inl fp)), (li, .inl (cyI, 59049, .inl g_4)), (il, .inl (cyZ, 59049, .inl g_3)), (mv, .inl (cyI, 59049, .inl mf))] _ := hP
                        have hD : va_D A [(m0, .inr (6, [.ref st, .ref im, .ref kq, .ref pw, .ref nx, .ref li, .int (nI (L + 1)), .ref il, .ref mv, .ref so, .ref la, .int ub, .int d12, .ref co])), (st, .inl (cyI, 72, .inl fs)), (pw, .inl (cyI, 11, .inl fp)), (li, .inl (cyI, 59049, .inl g_4)), (il, .inl (cyZ, 59049, .inl g_3)), (mv, .inl (cyI, 59049, .inl mf))] := hD
                        refine lv_iinc (v := (nI (k + 1))) (lv' := [(4, .int (nI (k + 1))), (3, .int x_106), (6, .int (nI v_100)), (5, .int r_97), (0, .ref m0), (1, .int (nI cv)), (2, .int (nb_st (nI cv) n))]) hx hb dX8_note_186 hl (k := 6) rfl (nI_1 _) (by decide) rfl (fun ls hl => ?_)
                        refine lv_goto (tgt := 48) hx hb dX8_note_189 (by decide) ?_
                        exact ih48 (k + 1) x_106 ub ⟨by omega, by omega⟩ (by omega)  _ _ (hP.sub [0, 1, 2, 3, 4, 5] rfl) (hD.sub [0, 1, 2, 3, 4, 5] (by decide) rfl) hS _ (lv_sub hl [4, 5, 6, 1, 0] rfl)
                      · skip
                        have ic_111 := ci_nle (nI_toInt (n := v_110) (by omega)) (show Int32.toInt 1 = 1 by decide) c_111
                        refine lv_iconst (v := 1) hx hb dX8_note_174 (by decide) ?_
                        refine lv_iload hx hb dX8_note_175 (lv_at hl 2 rfl) ?_
                        refine lv_ishl hx hb dX8_note_177 ?_
                        refine lv_topi (fun x_113 ex_113 => ?_)
                        refine lv_goto (tgt := 182) hx hb dX8_note_178 (by decide) ?_
                        refine lv_ior hx hb dX8_note_182 ?_
                        refine lv_topi (fun x_114 ex_114 => ?_)
                        refine va_put (D := (dC, dI)) (ci := 6) (v := .int x_114) (ty := .int) (C := RX8) (T := TX8) (N := 14) hx hb hts hnX8_note_X8 tyX8 tyX8_ok nmX8 hown hK hP hD hS 0 rfl rfl 11 (by decide) (hts (.fieldLink RX8 136 "RingMeetsModel" "usedRules" "I") (by decide +kernel)) (fun _ h9 => h9) rfl (by decide +kernel) rfl rfl (Nat.le_of_ble_eq_true rfl) dX8_note_183 (fun H locs hP hD hS => ?_)
                        have hP : va_P (dC, dI) vwCl [(m0, .inr (6, [.ref st, .ref im, .ref kq, .ref pw, .ref nx, .ref li, .int (nI (L + 1)), .ref il, .ref mv, .ref so, .ref la, .int x_114, .int d12, .ref co])), (st, .inl (cyI, 72, .inl fs)), (pw, .inl (cyI, 11, .inl fp)), (li, .inl (cyI, 59049, .inl g_4)), (il, .inl (cyZ, 59049, .inl g_3)), (mv, .inl (cyI, 59049, .inl mf))] _ := hP
                        have hD : va_D A [(m0, .inr (6, [.ref st, .ref im, .ref kq, .ref pw, .ref nx, .ref li, .int (nI (L + 1)), .ref il, .ref mv, .ref so, .ref la, .int x_114, .int d12, .ref co])), (st, .inl (cyI, 72, .inl fs)), (pw, .inl (cyI, 11, .inl fp)), (li, .inl (cyI, 59049, .inl g_4)), (il, .inl (cyZ, 59049, .inl g_3)), (mv, .inl (cyI, 59049, .inl mf))] := hD
                        refine lv_iinc (v := (nI (k + 1))) (lv' := [(4, .int (nI (k + 1))), (3, .int x_106), (6, .int (nI v_100)), (5, .int r_97), (0, .ref m0), (1, .int (nI cv)), (2, .int (nb_st (nI cv) n))]) hx hb dX8_note_186 hl (k := 6) rfl (nI_1 _) (by decide) rfl (fun ls hl => ?_)
                        refine lv_goto (tgt := 48) hx hb dX8_note_189 (by decide) ?_
                        exact ih48 (k + 1) x_106 x_114 ⟨by omega, by omega⟩ (by omega)  _ _ (hP.sub [0, 1, 2, 3, 4, 5] rfl) (hD.sub [0, 1, 2, 3, 4, 5] (by decide) rfl) hS _ (lv_sub hl [4, 5, 6, 1, 0] rfl)
                  · skip
                    have ic_104 := ci_eq (nI_toInt (n := v_100) (by omega)) (rfl : Int32.toInt r_103 = _) c_104
                    refine lv_iconst (v := 1) hx hb dX8_note_148 (by decide) ?_
                    refine lv_goto (tgt := 153) hx hb dX8_note_149 (by decide) ?_
                    refine lv_imul hx hb dX8_note_153 ?_
                    refine lv_topi (fun x_115 ex_115 => ?_)
                    obtain rfl : (nI ((3 ^ k) * 1)) = x_115 := (ex_115.trans (nb_mul _ 1)).symm
                    refine lv_iadd hx hb dX8_note_154 ?_
                    refine lv_topi (fun x_116 ex_116 => ?_)
                    refine lv_istore_n (lv' := [(3, .int x_116), (6, .int (nI v_100)), (5, .int r_97), (0, .ref m0), (1, .int (nI cv)), (2, .int (nb_st (nI cv) n)), (4, .int (nI k))]) hx hb dX8_note_155 rfl hl (by decide) rfl (fun ls hl => ?_)
                    refine lv_aload_n hx hb dX8_note_156 rfl (lv_at hl 3 rfl) ?_
                    refine lv_dup hx hb dX8_note_157 rfl ?_
                    refine va_get (D := (dC, dI)) (ci := 6) (v := .int ub) (C := RX8) (T := TX8) (N := 14) hx hb hts hnX8_note_X8 hown hK hP 0 rfl rfl 11 (by decide) (hts (.fieldLink RX8 136 "RingMeetsModel" "usedRules" "I") (by decide +kernel)) (fun _ h9 => h9) rfl dX8_note_158 ?_
                    refine lv_iload hx hb dX8_note_161 (lv_at hl 2 rfl) ?_
                    refine lv_if_lt (tgt := 181) hx hb dX8_note_163 (by decide) (fun c_117 => ?_) (fun c_117 => ?_)
                    · skip
                      have ic_117 := ci_lt (rfl : Int32.toInt r_97 = _) (show Int32.toInt 0 = 0 by decide) c_117
                      refine lv_iconst (v := 0) hx hb dX8_note_181 (by decide) ?_
                      refine lv_ior hx hb dX8_note_182 ?_
                      refine lv_topi (fun x_118 ex_118 => ?_)
                      obtain rfl : ub = x_118 := (ex_118.trans (Int32.or_zero)).symm
                      refine va_put (D := (dC, dI)) (ci := 6) (v := .int ub) (ty := .int) (C := RX8) (T := TX8) (N := 14) hx hb hts hnX8_note_X8 tyX8 tyX8_ok nmX8 hown hK hP hD hS 0 rfl rfl 11 (by decide) (hts (.fieldLink RX8 136 "RingMeetsModel" "usedRules" "I") (by decide +kernel)) (fun _ h9 => h9) rfl (by decide +kernel) rfl rfl (Nat.le_of_ble_eq_true rfl) dX8_note_183 (fun H locs hP hD hS => ?_)
                      have hP : va_P (dC, dI) vwCl [(m0, .inr (6, [.ref st, .ref im, .ref kq, .ref pw, .ref nx, .ref li, .int (nI (L + 1)), .ref il, .ref mv, .ref so, .ref la, .int ub, .int d12, .ref co])), (st, .inl (cyI, 72, .inl fs)), (pw, .inl (cyI, 11, .inl fp)), (li, .inl (cyI, 59049, .inl g_4)), (il, .inl (cyZ, 59049, .inl g_3)), (mv, .inl (cyI, 59049, .inl mf))] _ := hP
                      have hD : va_D A [(m0, .inr (6, [.ref st, .ref im, .ref kq, .ref pw, .ref nx, .ref li, .int (nI (L + 1)), .ref il, .ref mv, .ref so, .ref la, .int ub, .int d12, .ref co])), (st, .inl (cyI, 72, .inl fs)), (pw, .inl (cyI, 11, .inl fp)), (li, .inl (cyI, 59049, .inl g_4)), (il, .inl (cyZ, 59049, .inl g_3)), (mv, .inl (cyI, 59049, .inl mf))] := hD
                      refine lv_iinc (v := (nI (k + 1))) (lv' := [(4, .int (nI (k + 1))), (3, .int x_116), (6, .int (nI v_100)), (5, .int r_97), (0, .ref m0), (1, .int (nI cv)), (2, .int (nb_st (nI cv) n))]) hx hb dX8_note_186 hl (k := 6) rfl (nI_1 _) (by decide) rfl (fun ls hl => ?_)
                      refine lv_goto (tgt := 48) hx hb dX8_note_189 (by decide) ?_
                      exact ih48 (k + 1) x_116 ub ⟨by omega, by omega⟩ (by omega)  _ _ (hP.sub [0, 1, 2, 3, 4, 5] rfl) (hD.sub [0, 1, 2, 3, 4, 5] (by decide) rfl) hS _ (lv_sub hl [4, 5, 6, 1, 0] rfl)
                    · skip
                      have ic_117 := ci_nlt (rfl : Int32.toInt r_97 = _) (show Int32.toInt 0 = 0 by decide) c_117
                      refine lv_iload_n hx hb dX8_note_166 rfl (lv_at hl 5 rfl) ?_
                      refine vp_callSi (va_Run.run (va_runS (As := [.int (nb_st (nI cv) n)]) (rest := [.int ub, .ref m0]) ⟨hx, hb, hml, hown, hts⟩ (mX8_size l dC dI cyI cyZ (nb_st (nI cv) n) ) (va_cwS 1 hts gX8_note_X8_size rfl rfl rfl (by decide +kernel) ⟨Nat.le_of_ble_eq_true rfl, Nat.le_of_ble_eq_true rfl⟩) (bs_RS hB (hP.sub (ws' := []) [] rfl)) rfl rfl hl.1 rfl (lv_room (Nat.le_of_ble_eq_true rfl)) dX8_note_167 ⟨Nat.le_of_ble_eq_true rfl, Nat.le_of_ble_eq_true rfl⟩)) (fun r_119 hr_119 => ?_)
                      obtain ⟨v_120, lv_120, ev_120⟩ := hr_119
                      obtain rfl : nI v_120 = r_119 := Eq.symm ev_120
                      refine lv_iconst (v := 1) hx hb dX8_note_170 (by decide) ?_
                      refine lv_icmp_le (tgt := 181) hx hb dX8_note_171 (by decide) (fun c_121 => ?_) (fun c_121 => ?_)
                      · skip
                        have ic_121 := ci_le (nI_toInt (n := v_120) (by omega)) (show Int32.toInt 1 = 1 by decide) c_121
                        refine lv_iconst (v := 0) hx hb dX8_note_181 (by decide) ?_
                        refine lv_ior hx hb dX8_note_182 ?_
                        refine lv_topi (fun x_122 ex_122 => ?_)
                        obtain rfl : ub = x_122 := (ex_122.trans (Int32.or_zero)).symm
                        refine va_put (D := (dC, dI)) (ci := 6) (v := .int ub) (ty := .int) (C := RX8) (T := TX8) (N := 14) hx hb hts hnX8_note_X8 tyX8 tyX8_ok nmX8 hown hK hP hD hS 0 rfl rfl 11 (by decide) (hts (.fieldLink RX8 136 "RingMeetsModel" "usedRules" "I") (by decide +kernel)) (fun _ h9 => h9) rfl (by decide +kernel) rfl rfl (Nat.le_of_ble_eq_true rfl) dX8_note_183 (fun H locs hP hD hS => ?_)
                        have hP : va_P (dC, dI) vwCl [(m0, .inr (6, [.ref st, .ref im, .ref kq, .ref pw, .ref nx, .ref li, .int (nI (L + 1)), .ref il, .ref mv, .ref so, .ref la, .int ub, .int d12, .ref co])), (st, .inl (cyI, 72, .inl fs)), (pw, .inl (cyI, 11, .inl fp)), (li, .inl (cyI, 59049, .inl g_4)), (il, .inl (cyZ, 59049, .inl g_3)), (mv, .inl (cyI, 59049, .inl mf))] _ := hP
                        have hD : va_D A [(m0, .inr (6, [.ref st, .ref im, .ref kq, .ref pw, .ref nx, .ref li, .int (nI (L + 1)), .ref il, .ref mv, .ref so, .ref la, .int ub, .int d12, .ref co])), (st, .inl (cyI, 72, .inl fs)), (pw, .inl (cyI, 11, .inl fp)), (li, .inl (cyI, 59049, .inl g_4)), (il, .inl (cyZ, 59049, .inl g_3)), (mv, .inl (cyI, 59049, .inl mf))] := hD
                        refine lv_iinc (v := (nI (k + 1))) (lv' := [(4, .int (nI (k + 1))), (3, .int x_116), (6, .int (nI v_100)), (5, .int r_97), (0, .ref m0), (1, .int (nI cv)), (2, .int (nb_st (nI cv) n))]) hx hb dX8_note_186 hl (k := 6) rfl (nI_1 _) (by decide) rfl (fun ls hl => ?_)
                        refine lv_goto (tgt := 48) hx hb dX8_note_189 (by decide) ?_
                        exact ih48 (k + 1) x_116 ub ⟨by omega, by omega⟩ (by omega)  _ _ (hP.sub [0, 1, 2, 3, 4, 5] rfl) (hD.sub [0, 1, 2, 3, 4, 5] (by decide) rfl) hS _ (lv_sub hl [4, 5, 6, 1, 0] rfl)
                      · skip
                        have ic_121 := ci_nle (nI_toInt (n := v_120) (by omega)) (show Int32.toInt 1 = 1 by decide) c_121
                        refine lv_iconst (v := 1) hx hb dX8_note_174 (by decide) ?_
                        refine lv_iload hx hb dX8_note_175 (lv_at hl 2 rfl) ?_
                        refine lv_ishl hx hb dX8_note_177 ?_
                        refine lv_topi (fun x_123 ex_123 => ?_)
                        refine lv_goto (tgt := 182) hx hb dX8_note_178 (by decide) ?_
                        refine lv_ior hx hb dX8_note_182 ?_
                        refine lv_topi (fun x_124 ex_124 => ?_)
                        refine va_put (D := (dC, dI)) (ci := 6) (v := .int x_124) (ty := .int) (C := RX8) (T := TX8) (N := 14) hx hb hts hnX8_note_X8 tyX8 tyX8_ok nmX8 hown hK hP hD hS 0 rfl rfl 11 (by decide) (hts (.fieldLink RX8 136 "RingMeetsModel" "usedRules" "I") (by decide +kernel)) (fun _ h9 => h9) rfl (by decide +kernel) rfl rfl (Nat.le_of_ble_eq_true rfl) dX8_note_183 (fun H locs hP hD hS => ?_)
                        have hP : va_P (dC, dI) vwCl [(m0, .inr (6, [.ref st, .ref im, .ref kq, .ref pw, .ref nx, .ref li, .int (nI (L + 1)), .ref il, .ref mv, .ref so, .ref la, .int x_124, .int d12, .ref co])), (st, .inl (cyI, 72, .inl fs)), (pw, .inl (cyI, 11, .inl fp)), (li, .inl (cyI, 59049, .inl g_4)), (il, .inl (cyZ, 59049, .inl g_3)), (mv, .inl (cyI, 59049, .inl mf))] _ := hP
                        have hD : va_D A [(m0, .inr (6, [.ref st, .ref im, .ref kq, .ref pw, .ref nx, .ref li, .int (nI (L + 1)), .ref il, .ref mv, .ref so, .ref la, .int x_124, .int d12, .ref co])), (st, .inl (cyI, 72, .inl fs)), (pw, .inl (cyI, 11, .inl fp)), (li, .inl (cyI, 59049, .inl g_4)), (il, .inl (cyZ, 59049, .inl g_3)), (mv, .inl (cyI, 59049, .inl mf))] := hD
                        refine lv_iinc (v := (nI (k + 1))) (lv' := [(4, .int (nI (k + 1))), (3, .int x_116), (6, .int (nI v_100)), (5, .int r_97), (0, .ref m0), (1, .int (nI cv)), (2, .int (nb_st (nI cv) n))]) hx hb dX8_note_186 hl (k := 6) rfl (nI_1 _) (by decide) rfl (fun ls hl => ?_)
                        refine lv_goto (tgt := 48) hx hb dX8_note_189 (by decide) ?_
                        exact ih48 (k + 1) x_116 x_124 ⟨by omega, by omega⟩ (by omega)  _ _ (hP.sub [0, 1, 2, 3, 4, 5] rfl) (hD.sub [0, 1, 2, 3, 4, 5] (by decide) rfl) hS _ (lv_sub hl [4, 5, 6, 1, 0] rfl)
                · skip
                  have ic_102 := ci_eq (nI_toInt (n := v_100) (by omega)) (nI_toInt (n := k) (by omega)) c_102
                  refine lv_iconst (v := 0) hx hb dX8_note_132 (by decide) ?_
                  refine lv_goto (tgt := 153) hx hb dX8_note_133 (by decide) ?_
                  refine lv_imul hx hb dX8_note_153 ?_
                  refine lv_topi (fun x_125 ex_125 => ?_)
                  obtain rfl : 0 = x_125 := (ex_125.trans (Int32.mul_zero)).symm
                  refine lv_iadd hx hb dX8_note_154 ?_
                  refine lv_topi (fun x_126 ex_126 => ?_)
                  obtain rfl : ya = x_126 := (ex_126.trans (Int32.add_zero _)).symm
                  refine lv_istore_n (lv' := [(3, .int ya), (6, .int (nI v_100)), (5, .int r_97), (0, .ref m0), (1, .int (nI cv)), (2, .int (nb_st (nI cv) n)), (4, .int (nI k))]) hx hb dX8_note_155 rfl hl (by decide) rfl (fun ls hl => ?_)
                  refine lv_aload_n hx hb dX8_note_156 rfl (lv_at hl 3 rfl) ?_
                  refine lv_dup hx hb dX8_note_157 rfl ?_
                  refine va_get (D := (dC, dI)) (ci := 6) (v := .int ub) (C := RX8) (T := TX8) (N := 14) hx hb hts hnX8_note_X8 hown hK hP 0 rfl rfl 11 (by decide) (hts (.fieldLink RX8 136 "RingMeetsModel" "usedRules" "I") (by decide +kernel)) (fun _ h9 => h9) rfl dX8_note_158 ?_
                  refine lv_iload hx hb dX8_note_161 (lv_at hl 2 rfl) ?_
                  refine lv_if_lt (tgt := 181) hx hb dX8_note_163 (by decide) (fun c_127 => ?_) (fun c_127 => ?_)
                  · skip
                    have ic_127 := ci_lt (rfl : Int32.toInt r_97 = _) (show Int32.toInt 0 = 0 by decide) c_127
                    refine lv_iconst (v := 0) hx hb dX8_note_181 (by decide) ?_
                    refine lv_ior hx hb dX8_note_182 ?_
                    refine lv_topi (fun x_128 ex_128 => ?_)
                    obtain rfl : ub = x_128 := (ex_128.trans (Int32.or_zero)).symm
                    refine va_put (D := (dC, dI)) (ci := 6) (v := .int ub) (ty := .int) (C := RX8) (T := TX8) (N := 14) hx hb hts hnX8_note_X8 tyX8 tyX8_ok nmX8 hown hK hP hD hS 0 rfl rfl 11 (by decide) (hts (.fieldLink RX8 136 "RingMeetsModel" "usedRules" "I") (by decide +kernel)) (fun _ h9 => h9) rfl (by decide +kernel) rfl rfl (Nat.le_of_ble_eq_true rfl) dX8_note_183 (fun H locs hP hD hS => ?_)
                    have hP : va_P (dC, dI) vwCl [(m0, .inr (6, [.ref st, .ref im, .ref kq, .ref pw, .ref nx, .ref li, .int (nI (L + 1)), .ref il, .ref mv, .ref so, .ref la, .int ub, .int d12, .ref co])), (st, .inl (cyI, 72, .inl fs)), (pw, .inl (cyI, 11, .inl fp)), (li, .inl (cyI, 59049, .inl g_4)), (il, .inl (cyZ, 59049, .inl g_3)), (mv, .inl (cyI, 59049, .inl mf))] _ := hP
                    have hD : va_D A [(m0, .inr (6, [.ref st, .ref im, .ref kq, .ref pw, .ref nx, .ref li, .int (nI (L + 1)), .ref il, .ref mv, .ref so, .ref la, .int ub, .int d12, .ref co])), (st, .inl (cyI, 72, .inl fs)), (pw, .inl (cyI, 11, .inl fp)), (li, .inl (cyI, 59049, .inl g_4)), (il, .inl (cyZ, 59049, .inl g_3)), (mv, .inl (cyI, 59049, .inl mf))] := hD
                    refine lv_iinc (v := (nI (k + 1))) (lv' := [(4, .int (nI (k + 1))), (3, .int ya), (6, .int (nI v_100)), (5, .int r_97), (0, .ref m0), (1, .int (nI cv)), (2, .int (nb_st (nI cv) n))]) hx hb dX8_note_186 hl (k := 6) rfl (nI_1 _) (by decide) rfl (fun ls hl => ?_)
                    refine lv_goto (tgt := 48) hx hb dX8_note_189 (by decide) ?_
                    exact ih48 (k + 1) ya ub ⟨by omega, by omega⟩ (by omega)  _ _ (hP.sub [0, 1, 2, 3, 4, 5] rfl) (hD.sub [0, 1, 2, 3, 4, 5] (by decide) rfl) hS _ (lv_sub hl [4, 5, 6, 1, 0] rfl)
                  · skip
                    have ic_127 := ci_nlt (rfl : Int32.toInt r_97 = _) (show Int32.toInt 0 = 0 by decide) c_127
                    refine lv_iload_n hx hb dX8_note_166 rfl (lv_at hl 5 rfl) ?_
                    refine vp_callSi (va_Run.run (va_runS (As := [.int (nb_st (nI cv) n)]) (rest := [.int ub, .ref m0]) ⟨hx, hb, hml, hown, hts⟩ (mX8_size l dC dI cyI cyZ (nb_st (nI cv) n) ) (va_cwS 1 hts gX8_note_X8_size rfl rfl rfl (by decide +kernel) ⟨Nat.le_of_ble_eq_true rfl, Nat.le_of_ble_eq_true rfl⟩) (bs_RS hB (hP.sub (ws' := []) [] rfl)) rfl rfl hl.1 rfl (lv_room (Nat.le_of_ble_eq_true rfl)) dX8_note_167 ⟨Nat.le_of_ble_eq_true rfl, Nat.le_of_ble_eq_true rfl⟩)) (fun r_129 hr_129 => ?_)
                    obtain ⟨v_130, lv_130, ev_130⟩ := hr_129
                    obtain rfl : nI v_130 = r_129 := Eq.symm ev_130
                    refine lv_iconst (v := 1) hx hb dX8_note_170 (by decide) ?_
                    refine lv_icmp_le (tgt := 181) hx hb dX8_note_171 (by decide) (fun c_131 => ?_) (fun c_131 => ?_)
                    · skip
                      have ic_131 := ci_le (nI_toInt (n := v_130) (by omega)) (show Int32.toInt 1 = 1 by decide) c_131
                      refine lv_iconst (v := 0) hx hb dX8_note_181 (by decide) ?_
                      refine lv_ior hx hb dX8_note_182 ?_
                      refine lv_topi (fun x_132 ex_132 => ?_)
                      obtain rfl : ub = x_132 := (ex_132.trans (Int32.or_zero)).symm
                      refine va_put (D := (dC, dI)) (ci := 6) (v := .int ub) (ty := .int) (C := RX8) (T := TX8) (N := 14) hx hb hts hnX8_note_X8 tyX8 tyX8_ok nmX8 hown hK hP hD hS 0 rfl rfl 11 (by decide) (hts (.fieldLink RX8 136 "RingMeetsModel" "usedRules" "I") (by decide +kernel)) (fun _ h9 => h9) rfl (by decide +kernel) rfl rfl (Nat.le_of_ble_eq_true rfl) dX8_note_183 (fun H locs hP hD hS => ?_)
                      have hP : va_P (dC, dI) vwCl [(m0, .inr (6, [.ref st, .ref im, .ref kq, .ref pw, .ref nx, .ref li, .int (nI (L + 1)), .ref il, .ref mv, .ref so, .ref la, .int ub, .int d12, .ref co])), (st, .inl (cyI, 72, .inl fs)), (pw, .inl (cyI, 11, .inl fp)), (li, .inl (cyI, 59049, .inl g_4)), (il, .inl (cyZ, 59049, .inl g_3)), (mv, .inl (cyI, 59049, .inl mf))] _ := hP
                      have hD : va_D A [(m0, .inr (6, [.ref st, .ref im, .ref kq, .ref pw, .ref nx, .ref li, .int (nI (L + 1)), .ref il, .ref mv, .ref so, .ref la, .int ub, .int d12, .ref co])), (st, .inl (cyI, 72, .inl fs)), (pw, .inl (cyI, 11, .inl fp)), (li, .inl (cyI, 59049, .inl g_4)), (il, .inl (cyZ, 59049, .inl g_3)), (mv, .inl (cyI, 59049, .inl mf))] := hD
                      refine lv_iinc (v := (nI (k + 1))) (lv' := [(4, .int (nI (k + 1))), (3, .int ya), (6, .int (nI v_100)), (5, .int r_97), (0, .ref m0), (1, .int (nI cv)), (2, .int (nb_st (nI cv) n))]) hx hb dX8_note_186 hl (k := 6) rfl (nI_1 _) (by decide) rfl (fun ls hl => ?_)
                      refine lv_goto (tgt := 48) hx hb dX8_note_189 (by decide) ?_
                      exact ih48 (k + 1) ya ub ⟨by omega, by omega⟩ (by omega)  _ _ (hP.sub [0, 1, 2, 3, 4, 5] rfl) (hD.sub [0, 1, 2, 3, 4, 5] (by decide) rfl) hS _ (lv_sub hl [4, 5, 6, 1, 0] rfl)
                    · skip
                      have ic_131 := ci_nle (nI_toInt (n := v_130) (by omega)) (show Int32.toInt 1 = 1 by decide) c_131
                      refine lv_iconst (v := 1) hx hb dX8_note_174 (by decide) ?_
                      refine lv_iload hx hb dX8_note_175 (lv_at hl 2 rfl) ?_
                      refine lv_ishl hx hb dX8_note_177 ?_
                      refine lv_topi (fun x_133 ex_133 => ?_)
                      refine lv_goto (tgt := 182) hx hb dX8_note_178 (by decide) ?_
                      refine lv_ior hx hb dX8_note_182 ?_
                      refine lv_topi (fun x_134 ex_134 => ?_)
                      refine va_put (D := (dC, dI)) (ci := 6) (v := .int x_134) (ty := .int) (C := RX8) (T := TX8) (N := 14) hx hb hts hnX8_note_X8 tyX8 tyX8_ok nmX8 hown hK hP hD hS 0 rfl rfl 11 (by decide) (hts (.fieldLink RX8 136 "RingMeetsModel" "usedRules" "I") (by decide +kernel)) (fun _ h9 => h9) rfl (by decide +kernel) rfl rfl (Nat.le_of_ble_eq_true rfl) dX8_note_183 (fun H locs hP hD hS => ?_)
                      have hP : va_P (dC, dI) vwCl [(m0, .inr (6, [.ref st, .ref im, .ref kq, .ref pw, .ref nx, .ref li, .int (nI (L + 1)), .ref il, .ref mv, .ref so, .ref la, .int x_134, .int d12, .ref co])), (st, .inl (cyI, 72, .inl fs)), (pw, .inl (cyI, 11, .inl fp)), (li, .inl (cyI, 59049, .inl g_4)), (il, .inl (cyZ, 59049, .inl g_3)), (mv, .inl (cyI, 59049, .inl mf))] _ := hP
                      have hD : va_D A [(m0, .inr (6, [.ref st, .ref im, .ref kq, .ref pw, .ref nx, .ref li, .int (nI (L + 1)), .ref il, .ref mv, .ref so, .ref la, .int x_134, .int d12, .ref co])), (st, .inl (cyI, 72, .inl fs)), (pw, .inl (cyI, 11, .inl fp)), (li, .inl (cyI, 59049, .inl g_4)), (il, .inl (cyZ, 59049, .inl g_3)), (mv, .inl (cyI, 59049, .inl mf))] := hD
                      refine lv_iinc (v := (nI (k + 1))) (lv' := [(4, .int (nI (k + 1))), (3, .int ya), (6, .int (nI v_100)), (5, .int r_97), (0, .ref m0), (1, .int (nI cv)), (2, .int (nb_st (nI cv) n))]) hx hb dX8_note_186 hl (k := 6) rfl (nI_1 _) (by decide) rfl (fun ls hl => ?_)
                      refine lv_goto (tgt := 48) hx hb dX8_note_189 (by decide) ?_
                      exact ih48 (k + 1) ya x_134 ⟨by omega, by omega⟩ (by omega)  _ _ (hP.sub [0, 1, 2, 3, 4, 5] rfl) (hD.sub [0, 1, 2, 3, 4, 5] (by decide) rfl) hS _ (lv_sub hl [4, 5, 6, 1, 0] rfl)
    exact L48 (n + 1) 0 0 d11 ⟨by omega, by omega⟩ (by omega)  _ _ (hP.sub [0, 1, 2, 3, 4, 5] rfl) (hD.sub [0, 1, 2, 3, 4, 5] (by decide) rfl) hS _ (lv_sub hl [3, 4, 2, 1, 0] rfl)
  · skip
    have ic_2 := ci_ne (rfl : Int32.toInt x_1 = _) (show Int32.toInt 0 = 0 by decide) c_2
    exact W.vret hx hb hr (fun t ht hW => ⟨⟨(L, d11, lf, ilf, mf), rfl, ⟨hL, Nat.le_refl _⟩, ⟨by rw [ht]; exact hP.sub (ws' := [(m0, .inr (6, [.ref st, .ref im, .ref kq, .ref pw, .ref nx, .ref li, .int (nI L), .ref il, .ref mv, .ref so, .ref la, .int d11, .int d12, .ref co])), (st, .inl (cyI, 72, .inl fs)), (pw, .inl (cyI, 11, .inl fp)), (li, .inl (cyI, 59049, .inl lf)), (il, .inl (cyZ, 59049, .inl ilf)), (mv, .inl (cyI, 59049, .inl mf))]) [0, 1, 2, 3, 4, 5] rfl, hD.sub (ws' := [(m0, .inr (6, [.ref st, .ref im, .ref kq, .ref pw, .ref nx, .ref li, .int (nI L), .ref il, .ref mv, .ref so, .ref la, .int d11, .int d12, .ref co])), (st, .inl (cyI, 72, .inl fs)), (pw, .inl (cyI, 11, .inl fp)), (li, .inl (cyI, 59049, .inl lf)), (il, .inl (cyZ, 59049, .inl ilf)), (mv, .inl (cyI, 59049, .inl mf))]) [0, 1, 2, 3, 4, 5] (by decide) rfl⟩⟩, hS.F ht⟩) hS.2.2 dX8_note_9

theorem hnX8_movers_X8 : ∀ w ∈ wsX80, w ∈ wsX8_movers := fun _ h => List.mem_cons_of_mem _ (List.mem_append_right _ h)
set_option maxHeartbeats 4000000 in
set_option maxRecDepth 100000 in
theorem mX8_movers (l : Launch) (dC : Nat → ClassId) (dI : Nat → Nat → Nat) (cyI cyZ : ClassId) (m0 : Nat) (st : Nat) (im : Nat) (kq : Nat) (pw : Nat) (nx : Nat) (li : Nat) (il : Nat) (mv : Nat) (so : Nat) (la : Nat) (co : Nat) (d6 : Int32) (d11 : Int32) (d12 : Int32) (n : Nat) (fs : Nat → Int32) (fp : Nat → Int32) (cv : Nat) (mf : Nat → Int32) (hn3 : 3 ≤ n) (hn : n ≤ 10) (h0f : fs 0 = nI n) (hp : ∀ j, j ≤ 10 → fp j = nI (3 ^ j)) (hc9 : cv < 59049) : Met l yX8_movers wsX8_movers ({ frames := 2, cells := 0, slots := 0, locals := 43 }) (bs_R dC dI cyI cyZ [.ref m0, .int (nI cv)] [(m0, .inr (6, [.ref st, .ref im, .ref kq, .ref pw, .ref nx, .ref li, .int d6, .ref il, .ref mv, .ref so, .ref la, .int d11, .int d12, .ref co])), (st, .inl (cyI, 72, .inl fs)), (pw, .inl (cyI, 11, .inl fp)), (mv, .inl (cyI, 59049, .inl mf))]) (vp_Si (fun r : Int32 => ∃ v : Nat, v < 1024 ∧ r = nI v)) 0 0 (fun _ => False) := by
  refine Met.ofW (cc := cX8_movers) (maxL := 2) (ret := (some .int)) (by decide) rfl ?_
  intro p e s m args below meth c s₁ B hml hv
  obtain ⟨rfl, hB, hP⟩ := hv
  have hK := hB.1
  have hN := hB.2
  have hx := B.exec
  have hb := B.bytes
  have hr := B.returns
  have hts := atoms_spec (ws := wsX8_movers) B.pre
  have hown : s.vm.findClass RX8 = some m.cls := findClass_of_methodNamed B.named
  have hlocks := B.notSynchronized
  have hP : va_P (dC, dI) vwCl [(m0, .inr (6, [.ref st, .ref im, .ref kq, .ref pw, .ref nx, .ref li, .int d6, .ref il, .ref mv, .ref so, .ref la, .int d11, .int d12, .ref co])), (st, .inl (cyI, 72, .inl fs)), (pw, .inl (cyI, 11, .inl fp)), (mv, .inl (cyI, 59049, .inl mf))] s.heap := hP
  have hl := lv_entry ([.ref m0, .int (nI cv)]) (n := 2) (Nat.le_of_ble_eq_true rfl)
  rw [lg_entry_eq]
  generalize (lg_sl ([.ref m0, .int (nI cv)]) ++ List.replicate (2 - (lg_sl ([.ref m0, .int (nI cv)])).length) Slot.unset).toArray = ls at hl ⊢
  have hl : lv_has ls 2 [(0, .ref m0), (1, .int (nI cv))] := hl
  refine lv_aload_n hx hb dX8_movers_0 rfl (lv_at hl 0 rfl) ?_
  refine lv_aload_n hx hb dX8_movers_1 rfl (lv_at hl 0 rfl) ?_
  refine va_get (D := (dC, dI)) (ci := 6) (v := .ref mv) (C := RX8) (T := TX8) (N := 14) hx hb hts hnX8_movers_X8 hown hK hP 0 rfl rfl 8 (by decide) (hts (.fieldLink RX8 33 "RingMeetsModel" "moves" "[I") (by decide +kernel)) (fun _ h9 => h9) rfl dX8_movers_2 ?_
  refine lv_iload_n hx hb dX8_movers_5 rfl (lv_at hl 1 rfl) ?_
  refine va_iald (D := (dC, dI)) hx hb hK hP 3 0 rfl rfl (vp_in_nI (n := cv) (N := 59049) (by omega) (by omega)) dX8_movers_6 ?_
  refine lv_topi (fun x_1 ex_1 => ?_)
  rw [nI_clamp (n := cv) (by omega)] at ex_1
  refine vp_callSi (va_Run.run (va_runV (As := [.int x_1]) (rest := []) ⟨hx, hb, hml, hown, hts⟩ (mX8_standsOf l dC dI cyI cyZ m0 st im kq pw nx li il mv so la co d6 d11 d12 n fs fp x_1 hn3 hn h0f hp) (cwV 1 hts gX8_movers_X8_standsOf rfl rfl rfl (by decide +kernel) ⟨Nat.le_of_ble_eq_true rfl, Nat.le_of_ble_eq_true rfl⟩) (bs_RV hB (hP.sub (ws' := [(m0, .inr (6, [.ref st, .ref im, .ref kq, .ref pw, .ref nx, .ref li, .int d6, .ref il, .ref mv, .ref so, .ref la, .int d11, .int d12, .ref co])), (st, .inl (cyI, 72, .inl fs)), (pw, .inl (cyI, 11, .inl fp))]) [0, 1, 2] rfl) 0 rfl rfl) rfl rfl hl.1 rfl (lv_room (Nat.le_of_ble_eq_true rfl)) dX8_movers_7 ⟨Nat.le_of_ble_eq_true rfl, Nat.le_of_ble_eq_true rfl⟩)) (fun r_2 hr_2 => ?_)
  obtain rfl : (nb_st x_1 n) = r_2 := Eq.symm hr_2
  exact W.iret (v := (nb_st x_1 n)) hx hb hr (fun t ht hW => ⟨(nb_st x_1 n), rfl, (by obtain ⟨a9, h1, h2⟩ := mn_stn x_1 n hn; have h3 := nb_pw hn; exact ⟨a9, by omega, h2⟩), ht⟩) (fun q h => by cases h) dX8_movers_10

theorem hnX8_behindStep_X8 : ∀ w ∈ wsX80, w ∈ wsX8_behindStep := fun _ h => List.mem_cons_of_mem _ (List.mem_append_right _ h)
set_option maxHeartbeats 4000000 in
set_option maxRecDepth 100000 in
theorem mX8_behindStep (l : Launch) (dC : Nat → ClassId) (dI : Nat → Nat → Nat) (cyI cyZ : ClassId) (m0 : Nat) (st : Nat) (im : Nat) (kq : Nat) (pw : Nat) (nx : Nat) (li : Nat) (il : Nat) (mv : Nat) (so : Nat) (la : Nat) (co : Nat) (d6 : Int32) (d11 : Int32) (d12 : Int32) (n : Nat) (fs : Nat → Int32) (fp : Nat → Int32) (cv : Nat) (mf : Nat → Int32) (fc : Nat → Int32) (p2 : Int32) (hn3 : 3 ≤ n) (hn : n ≤ 10) (h0f : fs 0 = nI n) (hp : ∀ j, j ≤ 10 → fp j = nI (3 ^ j)) (hc9 : cv < 59049) (sz : Nat) : Met l yX8_behindStep wsX8_behindStep ({ frames := 2, cells := 0, slots := 0, locals := 42 }) (bs_W dC dI cyI cyZ [.ref m0, .int (nI cv), .int p2] [(m0, .inr (6, [.ref st, .ref im, .ref kq, .ref pw, .ref nx, .ref li, .int d6, .ref il, .ref mv, .ref so, .ref la, .int d11, .int d12, .ref co])), (st, .inl (cyI, 72, .inl fs)), (pw, .inl (cyI, 11, .inl fp)), (mv, .inl (cyI, 59049, .inl mf)), (co, .inl (cyI, 10, .inl fc))] sz) (va_Qi (S := (Nat → Int32)) (fun (r : Int32) (q : (Nat → Int32)) => ∃ v : Nat, v < 3 ^ n ∧ r = nI v) (fun q t => bs_E dC dI (va_A [(m0, .inr (6, [.ref st, .ref im, .ref kq, .ref pw, .ref nx, .ref li, .int d6, .ref il, .ref mv, .ref so, .ref la, .int d11, .int d12, .ref co])), (st, .inl (cyI, 72, .inl fs)), (pw, .inl (cyI, 11, .inl fp)), (mv, .inl (cyI, 59049, .inl mf)), (co, .inl (cyI, 10, .inl fc))] sz) [(m0, .inr (6, [.ref st, .ref im, .ref kq, .ref pw, .ref nx, .ref li, .int d6, .ref il, .ref mv, .ref so, .ref la, .int d11, .int d12, .ref co])), (st, .inl (cyI, 72, .inl fs)), (pw, .inl (cyI, 11, .inl fp)), (mv, .inl (cyI, 59049, .inl mf)), (co, .inl (cyI, 10, .inl q))] t) (va_A [(m0, .inr (6, [.ref st, .ref im, .ref kq, .ref pw, .ref nx, .ref li, .int d6, .ref il, .ref mv, .ref so, .ref la, .int d11, .int d12, .ref co])), (st, .inl (cyI, 72, .inl fs)), (pw, .inl (cyI, 11, .inl fp)), (mv, .inl (cyI, 59049, .inl mf)), (co, .inl (cyI, 10, .inl fc))] sz)) 0 0 (va_A [(m0, .inr (6, [.ref st, .ref im, .ref kq, .ref pw, .ref nx, .ref li, .int d6, .ref il, .ref mv, .ref so, .ref la, .int d11, .int d12, .ref co])), (st, .inl (cyI, 72, .inl fs)), (pw, .inl (cyI, 11, .inl fp)), (mv, .inl (cyI, 59049, .inl mf)), (co, .inl (cyI, 10, .inl fc))] sz) := by
  refine Met.ofW (cc := cX8_behindStep) (maxL := 7) (ret := (some .int)) (by decide) rfl ?_
  intro p e s m args below meth c s₁ B hml hv
  obtain ⟨rfl, hsz, hB, hP, hD0⟩ := hv
  have hK := hB.1
  have hN := hB.2
  have hx := B.exec
  have hb := B.bytes
  have hr := B.returns
  have hts := atoms_spec (ws := wsX8_behindStep) B.pre
  have hown : s.vm.findClass RX8 = some m.cls := findClass_of_methodNamed B.named
  have hlocks := B.notSynchronized
  subst hsz
  have hD := hD0.self (sz := s.heap.size)
  generalize hAe : va_A [(m0, .inr (6, [.ref st, .ref im, .ref kq, .ref pw, .ref nx, .ref li, .int d6, .ref il, .ref mv, .ref so, .ref la, .int d11, .int d12, .ref co])), (st, .inl (cyI, 72, .inl fs)), (pw, .inl (cyI, 11, .inl fp)), (mv, .inl (cyI, 59049, .inl mf)), (co, .inl (cyI, 10, .inl fc))] s.heap.size = A at hD ⊢
  have hA : ∀ q : Nat, s.heap.size ≤ q → A q := fun q h => by rw [← hAe]; exact Or.inr h
  have hS : va_S A s.heap s.heap [] := va_S.rf
  have hP : va_P (dC, dI) vwCl [(m0, .inr (6, [.ref st, .ref im, .ref kq, .ref pw, .ref nx, .ref li, .int d6, .ref il, .ref mv, .ref so, .ref la, .int d11, .int d12, .ref co])), (st, .inl (cyI, 72, .inl fs)), (pw, .inl (cyI, 11, .inl fp)), (mv, .inl (cyI, 59049, .inl mf)), (co, .inl (cyI, 10, .inl fc))] s.heap := hP
  have hl := lv_entry ([.ref m0, .int (nI cv), .int p2]) (n := 7) (Nat.le_of_ble_eq_true rfl)
  rw [lg_entry_eq]
  generalize (lg_sl ([.ref m0, .int (nI cv), .int p2]) ++ List.replicate (7 - (lg_sl ([.ref m0, .int (nI cv), .int p2])).length) Slot.unset).toArray = ls at hl ⊢
  have hl : lv_has ls 7 [(0, .ref m0), (1, .int (nI cv)), (2, .int p2)] := hl
  refine lv_iconst (v := 0) hx hb dX8_behindStep_0 (by decide) ?_
  refine lv_istore_n (lv' := [(3, .int 0), (0, .ref m0), (1, .int (nI cv)), (2, .int p2)]) hx hb dX8_behindStep_1 rfl hl (by decide) rfl (fun ls hl => ?_)
  have L2 : ∀ (n2 : Nat), ∀ (k : Nat) (fc2 : Nat → Int32), (0 ≤ k ∧ k ≤ n) → (n + 1 ≤ k + n2) → (∀ j, j < k → fc2 j = 0) → ∀ (H : Heap) (locs : List Loc), va_P (dC, dI) vwCl [(m0, .inr (6, [.ref st, .ref im, .ref kq, .ref pw, .ref nx, .ref li, .int d6, .ref il, .ref mv, .ref so, .ref la, .int d11, .int d12, .ref co])), (st, .inl (cyI, 72, .inl fs)), (pw, .inl (cyI, 11, .inl fp)), (mv, .inl (cyI, 59049, .inl mf)), (co, .inl (cyI, 10, .inl fc2))] H → va_D A [(m0, .inr (6, [.ref st, .ref im, .ref kq, .ref pw, .ref nx, .ref li, .int d6, .ref il, .ref mv, .ref so, .ref la, .int d11, .int d12, .ref co])), (st, .inl (cyI, 72, .inl fs)), (pw, .inl (cyI, 11, .inl fp)), (mv, .inl (cyI, 59049, .inl mf)), (co, .inl (cyI, 10, .inl fc2))] → va_S A s.heap H locs → ∀ (ls : Array Slot), lv_has ls 7 [(0, .ref m0), (1, .int (nI cv)), (2, .int p2), (3, .int (nI k))] → W p l e (headSpec wsX8_behindStep ({ frames := 2, cells := 0, slots := 0, locals := 42 })).room s m ([.ref m0, .int (nI cv), .int p2] : List Value).toArray below meth c H locs 0 0 (MQ below (va_Qi (S := (Nat → Int32)) (fun (r : Int32) (q : (Nat → Int32)) => ∃ v : Nat, v < 3 ^ n ∧ r = nI v) (fun q t => bs_E dC dI A [(m0, .inr (6, [.ref st, .ref im, .ref kq, .ref pw, .ref nx, .ref li, .int d6, .ref il, .ref mv, .ref so, .ref la, .int d11, .int d12, .ref co])), (st, .inl (cyI, 72, .inl fs)), (pw, .inl (cyI, 11, .inl fp)), (mv, .inl (cyI, 59049, .inl mf)), (co, .inl (cyI, 10, .inl q))] t) A) ([.ref m0, .int (nI cv), .int p2] : List Value).toArray s 0 0 A) (F0 m 2 ls []) := by
    intro n2
    induction n2 with
    | zero =>
      intro k fc2 hk2 hn2 hz2 H locs hP hD hS ls hl
      exfalso
      omega
    | succ n2 ih2 =>
      intro k fc2 hk2 hn2 hz2 H locs hP hD hS ls hl
      refine lv_iload_n hx hb dX8_behindStep_2 rfl (lv_at hl 3 rfl) ?_
      refine lv_aload_n hx hb dX8_behindStep_3 rfl (lv_at hl 0 rfl) ?_
      refine vp_callSi (va_Run.run (va_runV (As := []) (rest := [.int (nI k)]) ⟨hx, hb, hml, hown, hts⟩ (mX8_cells l dC dI cyI cyZ m0 st im kq pw nx li il mv so la co d6 d11 d12 n fs hn3 hn h0f) (cwV 0 hts gX8_behindStep_X8_cells rfl rfl rfl (by decide +kernel) ⟨Nat.le_of_ble_eq_true rfl, Nat.le_of_ble_eq_true rfl⟩) (bs_RV hB (hP.sub (ws' := [(m0, .inr (6, [.ref st, .ref im, .ref kq, .ref pw, .ref nx, .ref li, .int d6, .ref il, .ref mv, .ref so, .ref la, .int d11, .int d12, .ref co])), (st, .inl (cyI, 72, .inl fs))]) [0, 1] rfl) 0 rfl rfl) rfl rfl hl.1 rfl (lv_room (Nat.le_of_ble_eq_true rfl)) dX8_behindStep_4 ⟨Nat.le_of_ble_eq_true rfl, Nat.le_of_ble_eq_true rfl⟩)) (fun r_1 hr_1 => ?_)
      obtain rfl : (nI n) = r_1 := Eq.symm hr_1
      refine lv_icmp_ge (tgt := 23) hx hb dX8_behindStep_7 (by decide) (fun c_2 => ?_) (fun c_2 => ?_)
      · skip
        have ic_2 := ci_le (nI_toInt (n := n) (by omega)) (nI_toInt (n := k) (by omega)) c_2
        refine lv_iconst (v := 0) hx hb dX8_behindStep_23 (by decide) ?_
        refine lv_istore_n (lv' := [(3, .int 0), (0, .ref m0), (1, .int (nI cv)), (2, .int p2)]) hx hb dX8_behindStep_24 rfl hl (by decide) rfl (fun ls hl => ?_)
        have L25 : ∀ (n25 : Nat), ∀ (k : Nat) (fc2 : Nat → Int32) (cq : Nat → Nat), (0 ≤ k ∧ k ≤ n) → (n + 1 ≤ k + n25) → (∀ j, j < n → fc2 j = nI (cq j) ∧ cq j ≤ 2) → ∀ (H : Heap) (locs : List Loc), va_P (dC, dI) vwCl [(m0, .inr (6, [.ref st, .ref im, .ref kq, .ref pw, .ref nx, .ref li, .int d6, .ref il, .ref mv, .ref so, .ref la, .int d11, .int d12, .ref co])), (st, .inl (cyI, 72, .inl fs)), (pw, .inl (cyI, 11, .inl fp)), (mv, .inl (cyI, 59049, .inl mf)), (co, .inl (cyI, 10, .inl fc2))] H → va_D A [(m0, .inr (6, [.ref st, .ref im, .ref kq, .ref pw, .ref nx, .ref li, .int d6, .ref il, .ref mv, .ref so, .ref la, .int d11, .int d12, .ref co])), (st, .inl (cyI, 72, .inl fs)), (pw, .inl (cyI, 11, .inl fp)), (mv, .inl (cyI, 59049, .inl mf)), (co, .inl (cyI, 10, .inl fc2))] → va_S A s.heap H locs → ∀ (ls : Array Slot), lv_has ls 7 [(0, .ref m0), (1, .int (nI cv)), (2, .int p2), (3, .int (nI k))] → W p l e (headSpec wsX8_behindStep ({ frames := 2, cells := 0, slots := 0, locals := 42 })).room s m ([.ref m0, .int (nI cv), .int p2] : List Value).toArray below meth c H locs 0 0 (MQ below (va_Qi (S := (Nat → Int32)) (fun (r : Int32) (q : (Nat → Int32)) => ∃ v : Nat, v < 3 ^ n ∧ r = nI v) (fun q t => bs_E dC dI A [(m0, .inr (6, [.ref st, .ref im, .ref kq, .ref pw, .ref nx, .ref li, .int d6, .ref il, .ref mv, .ref so, .ref la, .int d11, .int d12, .ref co])), (st, .inl (cyI, 72, .inl fs)), (pw, .inl (cyI, 11, .inl fp)), (mv, .inl (cyI, 59049, .inl mf)), (co, .inl (cyI, 10, .inl q))] t) A) ([.ref m0, .int (nI cv), .int p2] : List Value).toArray s 0 0 A) (F0 m 25 ls []) := by
          intro n25
          induction n25 with
          | zero =>
            intro k fc2 cq hk25 hn25 hcq H locs hP hD hS ls hl
            exfalso
            omega
          | succ n25 ih25 =>
            intro k fc2 cq hk25 hn25 hcq H locs hP hD hS ls hl
            refine lv_iload_n hx hb dX8_behindStep_25 rfl (lv_at hl 3 rfl) ?_
            refine lv_aload_n hx hb dX8_behindStep_26 rfl (lv_at hl 0 rfl) ?_
            refine vp_callSi (va_Run.run (va_runV (As := []) (rest := [.int (nI k)]) ⟨hx, hb, hml, hown, hts⟩ (mX8_cells l dC dI cyI cyZ m0 st im kq pw nx li il mv so la co d6 d11 d12 n fs hn3 hn h0f) (cwV 0 hts gX8_behindStep_X8_cells rfl rfl rfl (by decide +kernel) ⟨Nat.le_of_ble_eq_true rfl, Nat.le_of_ble_eq_true rfl⟩) (bs_RV hB (hP.sub (ws' := [(m0, .inr (6, [.ref st, .ref im, .ref kq, .ref pw, .ref nx, .ref li, .int d6, .ref il, .ref mv, .ref so, .ref la, .int d11, .int d12, .ref co])), (st, .inl (cyI, 72, .inl fs))]) [0, 1] rfl) 0 rfl rfl) rfl rfl hl.1 rfl (lv_room (Nat.le_of_ble_eq_true rfl)) dX8_behindStep_27 ⟨Nat.le_of_ble_eq_true rfl, Nat.le_of_ble_eq_true rfl⟩)) (fun r_3 hr_3 => ?_)
            obtain rfl : (nI n) = r_3 := Eq.symm hr_3
            refine lv_icmp_ge (tgt := 135) hx hb dX8_behindStep_30 (by decide) (fun c_4 => ?_) (fun c_4 => ?_)
            · skip
              have ic_4 := ci_le (nI_toInt (n := n) (by omega)) (nI_toInt (n := k) (by omega)) c_4
              refine lv_iconst (v := 0) hx hb dX8_behindStep_135 (by decide) ?_
              refine lv_istore_n (lv' := [(3, .int 0), (0, .ref m0), (1, .int (nI cv)), (2, .int p2)]) hx hb dX8_behindStep_136 rfl hl (by decide) rfl (fun ls hl => ?_)
              refine lv_iconst (v := 0) hx hb dX8_behindStep_137 (by decide) ?_
              refine lv_istore (lv' := [(4, .int 0), (3, .int 0), (0, .ref m0), (1, .int (nI cv)), (2, .int p2)]) hx hb dX8_behindStep_138 hl (by decide) rfl (fun ls hl => ?_)
              have L140 : ∀ (n140 : Nat), ∀ (k3 : Nat) (v3 : Nat), (0 ≤ k3 ∧ k3 ≤ n) → (n + 1 ≤ k3 + n140) → (v3 < 3 ^ k3) → ∀ (H : Heap) (locs : List Loc), va_P (dC, dI) vwCl [(m0, .inr (6, [.ref st, .ref im, .ref kq, .ref pw, .ref nx, .ref li, .int d6, .ref il, .ref mv, .ref so, .ref la, .int d11, .int d12, .ref co])), (st, .inl (cyI, 72, .inl fs)), (pw, .inl (cyI, 11, .inl fp)), (mv, .inl (cyI, 59049, .inl mf)), (co, .inl (cyI, 10, .inl fc2))] H → va_D A [(m0, .inr (6, [.ref st, .ref im, .ref kq, .ref pw, .ref nx, .ref li, .int d6, .ref il, .ref mv, .ref so, .ref la, .int d11, .int d12, .ref co])), (st, .inl (cyI, 72, .inl fs)), (pw, .inl (cyI, 11, .inl fp)), (mv, .inl (cyI, 59049, .inl mf)), (co, .inl (cyI, 10, .inl fc2))] → va_S A s.heap H locs → ∀ (ls : Array Slot), lv_has ls 7 [(0, .ref m0), (3, .int (nI v3)), (4, .int (nI k3))] → W p l e (headSpec wsX8_behindStep ({ frames := 2, cells := 0, slots := 0, locals := 42 })).room s m ([.ref m0, .int (nI cv), .int p2] : List Value).toArray below meth c H locs 0 0 (MQ below (va_Qi (S := (Nat → Int32)) (fun (r : Int32) (q : (Nat → Int32)) => ∃ v : Nat, v < 3 ^ n ∧ r = nI v) (fun q t => bs_E dC dI A [(m0, .inr (6, [.ref st, .ref im, .ref kq, .ref pw, .ref nx, .ref li, .int d6, .ref il, .ref mv, .ref so, .ref la, .int d11, .int d12, .ref co])), (st, .inl (cyI, 72, .inl fs)), (pw, .inl (cyI, 11, .inl fp)), (mv, .inl (cyI, 59049, .inl mf)), (co, .inl (cyI, 10, .inl q))] t) A) ([.ref m0, .int (nI cv), .int p2] : List Value).toArray s 0 0 A) (F0 m 140 ls []) := by
                intro n140
                induction n140 with
                | zero =>
                  intro k3 v3 hk140 hn140 hv3 H locs hP hD hS ls hl
                  exfalso
                  omega
                | succ n140 ih140 =>
                  intro k3 v3 hk140 hn140 hv3 H locs hP hD hS ls hl
                  refine lv_iload hx hb dX8_behindStep_140 (lv_at hl 2 rfl) ?_
                  refine lv_aload_n hx hb dX8_behindStep_142 rfl (lv_at hl 0 rfl) ?_
                  refine vp_callSi (va_Run.run (va_runV (As := []) (rest := [.int (nI k3)]) ⟨hx, hb, hml, hown, hts⟩ (mX8_cells l dC dI cyI cyZ m0 st im kq pw nx li il mv so la co d6 d11 d12 n fs hn3 hn h0f) (cwV 0 hts gX8_behindStep_X8_cells rfl rfl rfl (by decide +kernel) ⟨Nat.le_of_ble_eq_true rfl, Nat.le_of_ble_eq_true rfl⟩) (bs_RV hB (hP.sub (ws' := [(m0, .inr (6, [.ref st, .ref im, .ref kq, .ref pw, .ref nx, .ref li, .int d6, .ref il, .ref mv, .ref so, .ref la, .int d11, .int d12, .ref co])), (st, .inl (cyI, 72, .inl fs))]) [0, 1] rfl) 0 rfl rfl) rfl rfl hl.1 rfl (lv_room (Nat.le_of_ble_eq_true rfl)) dX8_behindStep_143 ⟨Nat.le_of_ble_eq_true rfl, Nat.le_of_ble_eq_true rfl⟩)) (fun r_5 hr_5 => ?_)
                  obtain rfl : (nI n) = r_5 := Eq.symm hr_5
                  refine lv_icmp_ge (tgt := 173) hx hb dX8_behindStep_146 (by decide) (fun c_6 => ?_) (fun c_6 => ?_)
                  · skip
                    have ic_6 := ci_le (nI_toInt (n := n) (by omega)) (nI_toInt (n := k3) (by omega)) c_6
                    refine lv_iload_n hx hb dX8_behindStep_173 rfl (lv_at hl 1 rfl) ?_
                    exact W.iret (v := (nI v3)) hx hb hr (fun t ht hW => ⟨⟨(nI v3), fc2, rfl, ⟨v3, by rw [show n = k3 by omega]; exact hv3, rfl⟩, ⟨by rw [ht]; exact hP.sub (ws' := [(m0, .inr (6, [.ref st, .ref im, .ref kq, .ref pw, .ref nx, .ref li, .int d6, .ref il, .ref mv, .ref so, .ref la, .int d11, .int d12, .ref co])), (st, .inl (cyI, 72, .inl fs)), (pw, .inl (cyI, 11, .inl fp)), (mv, .inl (cyI, 59049, .inl mf)), (co, .inl (cyI, 10, .inl fc2))]) [0, 1, 2, 3, 4] rfl, hD.sub (ws' := [(m0, .inr (6, [.ref st, .ref im, .ref kq, .ref pw, .ref nx, .ref li, .int d6, .ref il, .ref mv, .ref so, .ref la, .int d11, .int d12, .ref co])), (st, .inl (cyI, 72, .inl fs)), (pw, .inl (cyI, 11, .inl fp)), (mv, .inl (cyI, 59049, .inl mf)), (co, .inl (cyI, 10, .inl fc2))]) [0, 1, 2, 3, 4] (by decide) rfl⟩⟩, hS.F ht⟩) hS.2.2 dX8_behindStep_174
                  · skip
                    have ic_6 := ci_nle (nI_toInt (n := n) (by omega)) (nI_toInt (n := k3) (by omega)) c_6
                    refine lv_iload_n hx hb dX8_behindStep_149 rfl (lv_at hl 1 rfl) ?_
                    refine lv_aload_n hx hb dX8_behindStep_150 rfl (lv_at hl 0 rfl) ?_
                    refine va_get (D := (dC, dI)) (ci := 6) (v := .ref pw) (C := RX8) (T := TX8) (N := 14) hx hb hts hnX8_behindStep_X8 hown hK hP 0 rfl rfl 3 (by decide) (hts (.fieldLink RX8 20 "RingMeetsModel" "power" "[I") (by decide +kernel)) (fun _ h9 => h9) rfl dX8_behindStep_151 ?_
                    refine lv_iload hx hb dX8_behindStep_154 (lv_at hl 2 rfl) ?_
                    refine va_iald (D := (dC, dI)) hx hb hK hP 2 0 rfl rfl (vp_in_nI (n := k3) (N := 11) (by omega) (by omega)) dX8_behindStep_156 ?_
                    refine lv_topi (fun x_7 ex_7 => ?_)
                    rw [nI_clamp (n := k3) (by omega)] at ex_7
                    obtain rfl : (nI (3 ^ k3)) = x_7 := (ex_7.trans (hp _ (by omega))).symm
                    refine lv_aload_n hx hb dX8_behindStep_157 rfl (lv_at hl 0 rfl) ?_
                    refine va_get (D := (dC, dI)) (ci := 6) (v := .ref co) (C := RX8) (T := TX8) (N := 14) hx hb hts hnX8_behindStep_X8 hown hK hP 0 rfl rfl 13 (by decide) (hts (.fieldLink RX8 42 "RingMeetsModel" "come" "[I") (by decide +kernel)) (fun _ h9 => h9) rfl dX8_behindStep_158 ?_
                    refine lv_iload hx hb dX8_behindStep_161 (lv_at hl 2 rfl) ?_
                    refine va_iald (D := (dC, dI)) hx hb hK hP 4 0 rfl rfl (vp_in_nI (n := k3) (N := 10) (by omega) (by omega)) dX8_behindStep_163 ?_
                    refine lv_topi (fun x_8 ex_8 => ?_)
                    rw [nI_clamp (n := k3) (by omega)] at ex_8
                    obtain rfl : (nI (cq k3)) = x_8 := (ex_8.trans ((hcq _ (by omega)).1)).symm
                    refine lv_imul hx hb dX8_behindStep_164 ?_
                    refine lv_topi (fun x_9 ex_9 => ?_)
                    obtain rfl : (nI (3 ^ k3 * cq k3)) = x_9 := (ex_9.trans (nb_mul _ _)).symm
                    refine lv_iadd hx hb dX8_behindStep_165 ?_
                    refine lv_topi (fun x_10 ex_10 => ?_)
                    obtain rfl : (nI (v3 + (3 ^ k3 * cq k3))) = x_10 := (ex_10.trans (nI_add _ _)).symm
                    refine lv_istore_n (lv' := [(3, .int (nI (v3 + (3 ^ k3 * cq k3)))), (0, .ref m0), (4, .int (nI k3))]) hx hb dX8_behindStep_166 rfl hl (by decide) rfl (fun ls hl => ?_)
                    refine lv_iinc (v := (nI (k3 + 1))) (lv' := [(4, .int (nI (k3 + 1))), (3, .int (nI (v3 + (3 ^ k3 * cq k3)))), (0, .ref m0)]) hx hb dX8_behindStep_167 hl (k := 2) rfl (nI_1 _) (by decide) rfl (fun ls hl => ?_)
                    refine lv_goto (tgt := 140) hx hb dX8_behindStep_170 (by decide) ?_
                    exact ih140 (k3 + 1) (v3 + (3 ^ k3 * cq k3)) ⟨by omega, by omega⟩ (by omega) (mn_st3 hv3 (hcq _ (by omega)).2) _ _ (hP.sub [0, 1, 2, 3, 4] rfl) (hD.sub [0, 1, 2, 3, 4] (by decide) rfl) hS _ (lv_sub hl [2, 1, 0] rfl)
              exact L140 (n + 1) 0 0 ⟨by omega, by omega⟩ (by omega) (by decide) _ _ (hP.sub [0, 1, 2, 3, 4] rfl) (hD.sub [0, 1, 2, 3, 4] (by decide) rfl) hS _ (lv_sub hl [2, 1, 0] rfl)
            · skip
              have ic_4 := ci_nle (nI_toInt (n := n) (by omega)) (nI_toInt (n := k) (by omega)) c_4
              refine lv_iload_n hx hb dX8_behindStep_33 rfl (lv_at hl 1 rfl) ?_
              refine lv_aload_n hx hb dX8_behindStep_34 rfl (lv_at hl 0 rfl) ?_
              refine va_get (D := (dC, dI)) (ci := 6) (v := .ref pw) (C := RX8) (T := TX8) (N := 14) hx hb hts hnX8_behindStep_X8 hown hK hP 0 rfl rfl 3 (by decide) (hts (.fieldLink RX8 20 "RingMeetsModel" "power" "[I") (by decide +kernel)) (fun _ h9 => h9) rfl dX8_behindStep_35 ?_
              refine lv_iload_n hx hb dX8_behindStep_38 rfl (lv_at hl 3 rfl) ?_
              refine va_iald (D := (dC, dI)) hx hb hK hP 2 0 rfl rfl (vp_in_nI (n := k) (N := 11) (by omega) (by omega)) dX8_behindStep_39 ?_
              refine lv_topi (fun x_11 ex_11 => ?_)
              rw [nI_clamp (n := k) (by omega)] at ex_11
              obtain rfl : (nI (3 ^ k)) = x_11 := (ex_11.trans (hp _ (by omega))).symm
              refine lv_idiv hx hb dX8_behindStep_40 (nb_p3 (by omega)) ?_
              refine lv_topi (fun x_12 ex_12 => ?_)
              refine lv_iconst (v := 3) hx hb dX8_behindStep_41 (by decide) ?_
              refine lv_irem hx hb dX8_behindStep_42 (by decide) ?_
              refine lv_topi (fun x_13 ex_13 => ?_)
              obtain ⟨ow, how, eow⟩ := mn_own hc9 (show k ≤ 10 by omega) ex_12 ex_13
              subst eow
              refine lv_istore (lv' := [(4, .int (nI ow)), (0, .ref m0), (1, .int (nI cv)), (2, .int p2), (3, .int (nI k))]) hx hb dX8_behindStep_43 hl (by decide) rfl (fun ls hl => ?_)
              refine lv_iload hx hb dX8_behindStep_45 (lv_at hl 0 rfl) ?_
              refine lv_if_le (tgt := 129) hx hb dX8_behindStep_47 (by decide) (fun c_14 => ?_) (fun c_14 => ?_)
              · skip
                have ic_14 := ci_le (nI_toInt (n := ow) (by omega)) (show Int32.toInt 0 = 0 by decide) c_14
                refine lv_iinc (v := (nI (k + 1))) (lv' := [(3, .int (nI (k + 1))), (4, .int (nI ow)), (0, .ref m0), (1, .int (nI cv)), (2, .int p2)]) hx hb dX8_behindStep_129 hl (k := 4) rfl (nI_1 _) (by decide) rfl (fun ls hl => ?_)
                refine lv_goto (tgt := 25) hx hb dX8_behindStep_132 (by decide) ?_
                exact ih25 (k + 1) fc2 cq ⟨by omega, by omega⟩ (by omega) hcq _ _ (hP.sub [0, 1, 2, 3, 4] rfl) (hD.sub [0, 1, 2, 3, 4] (by decide) rfl) hS _ (lv_sub hl [2, 3, 4, 0] rfl)
              · skip
                have ic_14 := ci_nle (nI_toInt (n := ow) (by omega)) (show Int32.toInt 0 = 0 by decide) c_14
                refine lv_iload_n hx hb dX8_behindStep_50 rfl (lv_at hl 3 rfl) ?_
                refine lv_iload_n hx hb dX8_behindStep_51 rfl (lv_at hl 4 rfl) ?_
                refine vp_callSi (va_Run.run (va_runS (As := [.int p2, .int (nI k)]) (rest := []) ⟨hx, hb, hml, hown, hts⟩ (mX8_has l dC dI cyI cyZ p2 (nI k) ) (va_cwS 2 hts gX8_behindStep_X8_has rfl rfl rfl (by decide +kernel) ⟨Nat.le_of_ble_eq_true rfl, Nat.le_of_ble_eq_true rfl⟩) (bs_RS hB (hP.sub (ws' := []) [] rfl)) rfl rfl hl.1 rfl (lv_room (Nat.le_of_ble_eq_true rfl)) dX8_behindStep_52 ⟨Nat.le_of_ble_eq_true rfl, Nat.le_of_ble_eq_true rfl⟩)) (fun r_15 hr_15 => ?_)
                refine lv_if_eq (tgt := 76) hx hb dX8_behindStep_55 (by decide) (fun c_16 => ?_) (fun c_16 => ?_)
                · skip
                  have ic_16 := ci_eq (rfl : Int32.toInt r_15 = _) (show Int32.toInt 0 = 0 by decide) c_16
                  refine lv_iconst (v := 0) hx hb dX8_behindStep_76 (by decide) ?_
                  refine lv_istore (lv' := [(5, .int 0), (4, .int (nI ow)), (0, .ref m0), (1, .int (nI cv)), (2, .int p2), (3, .int (nI k))]) hx hb dX8_behindStep_77 hl (by decide) rfl (fun ls hl => ?_)
                  refine lv_iload hx hb dX8_behindStep_79 (lv_at hl 0 rfl) ?_
                  refine lv_if_ne (tgt := 88) hx hb dX8_behindStep_81 (by decide) (fun c_17 => ?_) (fun c_17 => ?_)
                  · skip
                    exact absurd c_17 (by decide)
                  · skip
                    refine lv_iload_n hx hb dX8_behindStep_84 rfl (lv_at hl 5 rfl) ?_
                    refine lv_goto (tgt := 104) hx hb dX8_behindStep_85 (by decide) ?_
                    refine lv_istore (lv' := [(6, .int (nI k)), (5, .int 0), (4, .int (nI ow)), (0, .ref m0), (1, .int (nI cv)), (2, .int p2), (3, .int (nI k))]) hx hb dX8_behindStep_104 hl (by decide) rfl (fun ls hl => ?_)
                    refine lv_aload_n hx hb dX8_behindStep_106 rfl (lv_at hl 3 rfl) ?_
                    refine va_get (D := (dC, dI)) (ci := 6) (v := .ref co) (C := RX8) (T := TX8) (N := 14) hx hb hts hnX8_behindStep_X8 hown hK hP 0 rfl rfl 13 (by decide) (hts (.fieldLink RX8 42 "RingMeetsModel" "come" "[I") (by decide +kernel)) (fun _ h9 => h9) rfl dX8_behindStep_107 ?_
                    refine lv_iload hx hb dX8_behindStep_110 (lv_at hl 0 rfl) ?_
                    refine lv_aload_n hx hb dX8_behindStep_112 rfl (lv_at hl 3 rfl) ?_
                    refine va_get (D := (dC, dI)) (ci := 6) (v := .ref co) (C := RX8) (T := TX8) (N := 14) hx hb hts hnX8_behindStep_X8 hown hK hP 0 rfl rfl 13 (by decide) (hts (.fieldLink RX8 42 "RingMeetsModel" "come" "[I") (by decide +kernel)) (fun _ h9 => h9) rfl dX8_behindStep_113 ?_
                    refine lv_iload hx hb dX8_behindStep_116 (lv_at hl 0 rfl) ?_
                    refine va_iald (D := (dC, dI)) hx hb hK hP 4 0 rfl rfl (vp_in_nI (n := k) (N := 10) (by omega) (by omega)) dX8_behindStep_118 ?_
                    refine lv_topi (fun x_18 ex_18 => ?_)
                    rw [nI_clamp (n := k) (by omega)] at ex_18
                    refine lv_if_le (tgt := 126) hx hb dX8_behindStep_119 (by decide) (fun c_19 => ?_) (fun c_19 => ?_)
                    · skip
                      have ic_19 := ci_le (rfl : Int32.toInt x_18 = _) (show Int32.toInt 0 = 0 by decide) c_19
                      refine lv_iload hx hb dX8_behindStep_126 (lv_at hl 2 rfl) ?_
                      refine va_iast (D := (dC, dI)) hx hb hK hP hD hS 4 0 rfl rfl (vp_in_nI (n := k) (N := 10) (by omega) (by omega)) dX8_behindStep_128 (fun H locs hP hD hS => ?_)
                      obtain ⟨g_20, eg_20⟩ : ∃ y : Nat → Int32, y = upd fc2 (Int32.toNatClampNeg (nI k)) (nI ow) := ⟨_, rfl⟩
                      have hP : va_P (dC, dI) vwCl [(m0, .inr (6, [.ref st, .ref im, .ref kq, .ref pw, .ref nx, .ref li, .int d6, .ref il, .ref mv, .ref so, .ref la, .int d11, .int d12, .ref co])), (st, .inl (cyI, 72, .inl fs)), (pw, .inl (cyI, 11, .inl fp)), (mv, .inl (cyI, 59049, .inl mf)), (co, .inl (cyI, 10, .inl g_20))] H := by rw [eg_20]; exact hP
                      have hD : va_D A [(m0, .inr (6, [.ref st, .ref im, .ref kq, .ref pw, .ref nx, .ref li, .int d6, .ref il, .ref mv, .ref so, .ref la, .int d11, .int d12, .ref co])), (st, .inl (cyI, 72, .inl fs)), (pw, .inl (cyI, 11, .inl fp)), (mv, .inl (cyI, 59049, .inl mf)), (co, .inl (cyI, 10, .inl g_20))] := by rw [eg_20]; exact hD
                      rw [nI_clamp (n := k) (by omega)] at eg_20
                      refine lv_iinc (v := (nI (k + 1))) (lv' := [(3, .int (nI (k + 1))), (6, .int (nI k)), (5, .int 0), (4, .int (nI ow)), (0, .ref m0), (1, .int (nI cv)), (2, .int p2)]) hx hb dX8_behindStep_129 hl (k := 6) rfl (nI_1 _) (by decide) rfl (fun ls hl => ?_)
                      refine lv_goto (tgt := 25) hx hb dX8_behindStep_132 (by decide) ?_
                      exact ih25 (k + 1) g_20 (mn_up cq k ow) ⟨by omega, by omega⟩ (by omega) (mn_cq hcq eg_20 rfl (by omega)) _ _ (hP.sub [0, 1, 2, 3, 4] rfl) (hD.sub [0, 1, 2, 3, 4] (by decide) rfl) hS _ (lv_sub hl [4, 5, 6, 0] rfl)
                    · skip
                      have ic_19 := ci_nle (rfl : Int32.toInt x_18 = _) (show Int32.toInt 0 = 0 by decide) c_19
                      refine lv_iconst (v := 2) hx hb dX8_behindStep_122 (by decide) ?_
                      refine lv_goto (tgt := 128) hx hb dX8_behindStep_123 (by decide) ?_
                      refine va_iast (D := (dC, dI)) hx hb hK hP hD hS 4 0 rfl rfl (vp_in_nI (n := k) (N := 10) (by omega) (by omega)) dX8_behindStep_128 (fun H locs hP hD hS => ?_)
                      obtain ⟨g_21, eg_21⟩ : ∃ y : Nat → Int32, y = upd fc2 (Int32.toNatClampNeg (nI k)) 2 := ⟨_, rfl⟩
                      have hP : va_P (dC, dI) vwCl [(m0, .inr (6, [.ref st, .ref im, .ref kq, .ref pw, .ref nx, .ref li, .int d6, .ref il, .ref mv, .ref so, .ref la, .int d11, .int d12, .ref co])), (st, .inl (cyI, 72, .inl fs)), (pw, .inl (cyI, 11, .inl fp)), (mv, .inl (cyI, 59049, .inl mf)), (co, .inl (cyI, 10, .inl g_21))] H := by rw [eg_21]; exact hP
                      have hD : va_D A [(m0, .inr (6, [.ref st, .ref im, .ref kq, .ref pw, .ref nx, .ref li, .int d6, .ref il, .ref mv, .ref so, .ref la, .int d11, .int d12, .ref co])), (st, .inl (cyI, 72, .inl fs)), (pw, .inl (cyI, 11, .inl fp)), (mv, .inl (cyI, 59049, .inl mf)), (co, .inl (cyI, 10, .inl g_21))] := by rw [eg_21]; exact hD
                      rw [nI_clamp (n := k) (by omega)] at eg_21
                      refine lv_iinc (v := (nI (k + 1))) (lv' := [(3, .int (nI (k + 1))), (6, .int (nI k)), (5, .int 0), (4, .int (nI ow)), (0, .ref m0), (1, .int (nI cv)), (2, .int p2)]) hx hb dX8_behindStep_129 hl (k := 6) rfl (nI_1 _) (by decide) rfl (fun ls hl => ?_)
                      refine lv_goto (tgt := 25) hx hb dX8_behindStep_132 (by decide) ?_
                      exact ih25 (k + 1) g_21 (mn_up cq k 2) ⟨by omega, by omega⟩ (by omega) (mn_cq hcq eg_21 rfl (by omega)) _ _ (hP.sub [0, 1, 2, 3, 4] rfl) (hD.sub [0, 1, 2, 3, 4] (by decide) rfl) hS _ (lv_sub hl [4, 5, 6, 0] rfl)
                · skip
                  have ic_16 := ci_ne (rfl : Int32.toInt r_15 = _) (show Int32.toInt 0 = 0 by decide) c_16
                  refine lv_aload_n hx hb dX8_behindStep_58 rfl (lv_at hl 1 rfl) ?_
                  refine va_get (D := (dC, dI)) (ci := 6) (v := .ref mv) (C := RX8) (T := TX8) (N := 14) hx hb hts hnX8_behindStep_X8 hown hK hP 0 rfl rfl 8 (by decide) (hts (.fieldLink RX8 33 "RingMeetsModel" "moves" "[I") (by decide +kernel)) (fun _ h9 => h9) rfl dX8_behindStep_59 ?_
                  refine lv_iload_n hx hb dX8_behindStep_62 rfl (lv_at hl 2 rfl) ?_
                  refine va_iald (D := (dC, dI)) hx hb hK hP 3 0 rfl rfl (vp_in_nI (n := cv) (N := 59049) (by omega) (by omega)) dX8_behindStep_63 ?_
                  refine lv_topi (fun x_22 ex_22 => ?_)
                  rw [nI_clamp (n := cv) (by omega)] at ex_22
                  refine lv_aload_n hx hb dX8_behindStep_64 rfl (lv_at hl 1 rfl) ?_
                  refine va_get (D := (dC, dI)) (ci := 6) (v := .ref pw) (C := RX8) (T := TX8) (N := 14) hx hb hts hnX8_behindStep_X8 hown hK hP 0 rfl rfl 3 (by decide) (hts (.fieldLink RX8 20 "RingMeetsModel" "power" "[I") (by decide +kernel)) (fun _ h9 => h9) rfl dX8_behindStep_65 ?_
                  refine lv_iload_n hx hb dX8_behindStep_68 rfl (lv_at hl 4 rfl) ?_
                  refine va_iald (D := (dC, dI)) hx hb hK hP 2 0 rfl rfl (vp_in_nI (n := k) (N := 11) (by omega) (by omega)) dX8_behindStep_69 ?_
                  refine lv_topi (fun x_23 ex_23 => ?_)
                  rw [nI_clamp (n := k) (by omega)] at ex_23
                  obtain rfl : (nI (3 ^ k)) = x_23 := (ex_23.trans (hp _ (by omega))).symm
                  refine lv_idiv hx hb dX8_behindStep_70 (nb_p3 (by omega)) ?_
                  refine lv_topi (fun x_24 ex_24 => ?_)
                  refine lv_iconst (v := 3) hx hb dX8_behindStep_71 (by decide) ?_
                  refine lv_irem hx hb dX8_behindStep_72 (by decide) ?_
                  refine lv_topi (fun x_25 ex_25 => ?_)
                  refine lv_goto (tgt := 77) hx hb dX8_behindStep_73 (by decide) ?_
                  refine lv_istore (lv' := [(5, .int x_25), (4, .int (nI ow)), (0, .ref m0), (1, .int (nI cv)), (2, .int p2), (3, .int (nI k))]) hx hb dX8_behindStep_77 hl (by decide) rfl (fun ls hl => ?_)
                  refine lv_iload hx hb dX8_behindStep_79 (lv_at hl 0 rfl) ?_
                  refine lv_if_ne (tgt := 88) hx hb dX8_behindStep_81 (by decide) (fun c_26 => ?_) (fun c_26 => ?_)
                  · skip
                    have ic_26 := ci_ne (rfl : Int32.toInt x_25 = _) (show Int32.toInt 0 = 0 by decide) c_26
                    refine lv_aload_n hx hb dX8_behindStep_88 rfl (lv_at hl 2 rfl) ?_
                    refine lv_iload_n hx hb dX8_behindStep_89 rfl (lv_at hl 5 rfl) ?_
                    refine lv_iload hx hb dX8_behindStep_90 (lv_at hl 0 rfl) ?_
                    refine lv_iconst (v := 1) hx hb dX8_behindStep_92 (by decide) ?_
                    refine lv_icmp_ne (tgt := 100) hx hb dX8_behindStep_93 (by decide) (fun c_27 => ?_) (fun c_27 => ?_)
                    · skip
                      have ic_27 := ci_ne (rfl : Int32.toInt x_25 = _) (show Int32.toInt 1 = 1 by decide) c_27
                      refine lv_iconst (v := (-1)) hx hb dX8_behindStep_100 (by decide) ?_
                      refine vp_callSi (va_Run.run (va_runV (As := [.int (nI k), .int (-1)]) (rest := []) ⟨hx, hb, hml, hown, hts⟩ (mX8_beside l dC dI cyI cyZ m0 st im kq pw nx li il mv so la co d6 d11 d12 n fs k 9 (-1) hn3 hn h0f (by omega) (by omega) (by decide)) (cwV 2 hts gX8_behindStep_X8_beside rfl rfl rfl (by decide +kernel) ⟨Nat.le_of_ble_eq_true rfl, Nat.le_of_ble_eq_true rfl⟩) (bs_RV hB (hP.sub (ws' := [(m0, .inr (6, [.ref st, .ref im, .ref kq, .ref pw, .ref nx, .ref li, .int d6, .ref il, .ref mv, .ref so, .ref la, .int d11, .int d12, .ref co])), (st, .inl (cyI, 72, .inl fs))]) [0, 1] rfl) 0 rfl rfl) rfl rfl hl.1 rfl (lv_room (Nat.le_of_ble_eq_true rfl)) dX8_behindStep_101 ⟨Nat.le_of_ble_eq_true rfl, Nat.le_of_ble_eq_true rfl⟩)) (fun r_28 hr_28 => ?_)
                      obtain ⟨v_29, lv_29, ev_29⟩ : ∃ y : Nat, y < n ∧ r_28 = nI y := ⟨_, Nat.mod_lt _ (by omega), hr_28⟩
                      obtain rfl : nI v_29 = r_28 := Eq.symm ev_29
                      refine lv_istore (lv' := [(6, .int (nI v_29)), (5, .int x_25), (4, .int (nI ow)), (0, .ref m0), (1, .int (nI cv)), (2, .int p2), (3, .int (nI k))]) hx hb dX8_behindStep_104 hl (by decide) rfl (fun ls hl => ?_)
                      refine lv_aload_n hx hb dX8_behindStep_106 rfl (lv_at hl 3 rfl) ?_
                      refine va_get (D := (dC, dI)) (ci := 6) (v := .ref co) (C := RX8) (T := TX8) (N := 14) hx hb hts hnX8_behindStep_X8 hown hK hP 0 rfl rfl 13 (by decide) (hts (.fieldLink RX8 42 "RingMeetsModel" "come" "[I") (by decide +kernel)) (fun _ h9 => h9) rfl dX8_behindStep_107 ?_
                      refine lv_iload hx hb dX8_behindStep_110 (lv_at hl 0 rfl) ?_
                      refine lv_aload_n hx hb dX8_behindStep_112 rfl (lv_at hl 3 rfl) ?_
                      refine va_get (D := (dC, dI)) (ci := 6) (v := .ref co) (C := RX8) (T := TX8) (N := 14) hx hb hts hnX8_behindStep_X8 hown hK hP 0 rfl rfl 13 (by decide) (hts (.fieldLink RX8 42 "RingMeetsModel" "come" "[I") (by decide +kernel)) (fun _ h9 => h9) rfl dX8_behindStep_113 ?_
                      refine lv_iload hx hb dX8_behindStep_116 (lv_at hl 0 rfl) ?_
                      refine va_iald (D := (dC, dI)) hx hb hK hP 4 0 rfl rfl (vp_in_nI (n := v_29) (N := 10) (by omega) (by omega)) dX8_behindStep_118 ?_
                      refine lv_topi (fun x_30 ex_30 => ?_)
                      rw [nI_clamp (n := v_29) (by omega)] at ex_30
                      refine lv_if_le (tgt := 126) hx hb dX8_behindStep_119 (by decide) (fun c_31 => ?_) (fun c_31 => ?_)
                      · skip
                        have ic_31 := ci_le (rfl : Int32.toInt x_30 = _) (show Int32.toInt 0 = 0 by decide) c_31
                        refine lv_iload hx hb dX8_behindStep_126 (lv_at hl 2 rfl) ?_
                        refine va_iast (D := (dC, dI)) hx hb hK hP hD hS 4 0 rfl rfl (vp_in_nI (n := v_29) (N := 10) (by omega) (by omega)) dX8_behindStep_128 (fun H locs hP hD hS => ?_)
                        obtain ⟨g_32, eg_32⟩ : ∃ y : Nat → Int32, y = upd fc2 (Int32.toNatClampNeg (nI v_29)) (nI ow) := ⟨_, rfl⟩
                        have hP : va_P (dC, dI) vwCl [(m0, .inr (6, [.ref st, .ref im, .ref kq, .ref pw, .ref nx, .ref li, .int d6, .ref il, .ref mv, .ref so, .ref la, .int d11, .int d12, .ref co])), (st, .inl (cyI, 72, .inl fs)), (pw, .inl (cyI, 11, .inl fp)), (mv, .inl (cyI, 59049, .inl mf)), (co, .inl (cyI, 10, .inl g_32))] H := by rw [eg_32]; exact hP
                        have hD : va_D A [(m0, .inr (6, [.ref st, .ref im, .ref kq, .ref pw, .ref nx, .ref li, .int d6, .ref il, .ref mv, .ref so, .ref la, .int d11, .int d12, .ref co])), (st, .inl (cyI, 72, .inl fs)), (pw, .inl (cyI, 11, .inl fp)), (mv, .inl (cyI, 59049, .inl mf)), (co, .inl (cyI, 10, .inl g_32))] := by rw [eg_32]; exact hD
                        rw [nI_clamp (n := v_29) (by omega)] at eg_32
                        refine lv_iinc (v := (nI (k + 1))) (lv' := [(3, .int (nI (k + 1))), (6, .int (nI v_29)), (5, .int x_25), (4, .int (nI ow)), (0, .ref m0), (1, .int (nI cv)), (2, .int p2)]) hx hb dX8_behindStep_129 hl (k := 6) rfl (nI_1 _) (by decide) rfl (fun ls hl => ?_)
                        refine lv_goto (tgt := 25) hx hb dX8_behindStep_132 (by decide) ?_
                        exact ih25 (k + 1) g_32 (mn_up cq v_29 ow) ⟨by omega, by omega⟩ (by omega) (mn_cq hcq eg_32 rfl (by omega)) _ _ (hP.sub [0, 1, 2, 3, 4] rfl) (hD.sub [0, 1, 2, 3, 4] (by decide) rfl) hS _ (lv_sub hl [4, 5, 6, 0] rfl)
                      · skip
                        have ic_31 := ci_nle (rfl : Int32.toInt x_30 = _) (show Int32.toInt 0 = 0 by decide) c_31
                        refine lv_iconst (v := 2) hx hb dX8_behindStep_122 (by decide) ?_
                        refine lv_goto (tgt := 128) hx hb dX8_behindStep_123 (by decide) ?_
                        refine va_iast (D := (dC, dI)) hx hb hK hP hD hS 4 0 rfl rfl (vp_in_nI (n := v_29) (N := 10) (by omega) (by omega)) dX8_behindStep_128 (fun H locs hP hD hS => ?_)
                        obtain ⟨g_33, eg_33⟩ : ∃ y : Nat → Int32, y = upd fc2 (Int32.toNatClampNeg (nI v_29)) 2 := ⟨_, rfl⟩
                        have hP : va_P (dC, dI) vwCl [(m0, .inr (6, [.ref st, .ref im, .ref kq, .ref pw, .ref nx, .ref li, .int d6, .ref il, .ref mv, .ref so, .ref la, .int d11, .int d12, .ref co])), (st, .inl (cyI, 72, .inl fs)), (pw, .inl (cyI, 11, .inl fp)), (mv, .inl (cyI, 59049, .inl mf)), (co, .inl (cyI, 10, .inl g_33))] H := by rw [eg_33]; exact hP
                        have hD : va_D A [(m0, .inr (6, [.ref st, .ref im, .ref kq, .ref pw, .ref nx, .ref li, .int d6, .ref il, .ref mv, .ref so, .ref la, .int d11, .int d12, .ref co])), (st, .inl (cyI, 72, .inl fs)), (pw, .inl (cyI, 11, .inl fp)), (mv, .inl (cyI, 59049, .inl mf)), (co, .inl (cyI, 10, .inl g_33))] := by rw [eg_33]; exact hD
                        rw [nI_clamp (n := v_29) (by omega)] at eg_33
                        refine lv_iinc (v := (nI (k + 1))) (lv' := [(3, .int (nI (k + 1))), (6, .int (nI v_29)), (5, .int x_25), (4, .int (nI ow)), (0, .ref m0), (1, .int (nI cv)), (2, .int p2)]) hx hb dX8_behindStep_129 hl (k := 6) rfl (nI_1 _) (by decide) rfl (fun ls hl => ?_)
                        refine lv_goto (tgt := 25) hx hb dX8_behindStep_132 (by decide) ?_
                        exact ih25 (k + 1) g_33 (mn_up cq v_29 2) ⟨by omega, by omega⟩ (by omega) (mn_cq hcq eg_33 rfl (by omega)) _ _ (hP.sub [0, 1, 2, 3, 4] rfl) (hD.sub [0, 1, 2, 3, 4] (by decide) rfl) hS _ (lv_sub hl [4, 5, 6, 0] rfl)
                    · skip
                      have ic_27 := ci_eq (rfl : Int32.toInt x_25 = _) (show Int32.toInt 1 = 1 by decide) c_27
                      refine lv_iconst (v := 1) hx hb dX8_behindStep_96 (by decide) ?_
                      refine lv_goto (tgt := 101) hx hb dX8_behindStep_97 (by decide) ?_
                      refine vp_callSi (va_Run.run (va_runV (As := [.int (nI k), .int 1]) (rest := []) ⟨hx, hb, hml, hown, hts⟩ (mX8_beside l dC dI cyI cyZ m0 st im kq pw nx li il mv so la co d6 d11 d12 n fs k 11 1 hn3 hn h0f (by omega) (by omega) (by decide)) (cwV 2 hts gX8_behindStep_X8_beside rfl rfl rfl (by decide +kernel) ⟨Nat.le_of_ble_eq_true rfl, Nat.le_of_ble_eq_true rfl⟩) (bs_RV hB (hP.sub (ws' := [(m0, .inr (6, [.ref st, .ref im, .ref kq, .ref pw, .ref nx, .ref li, .int d6, .ref il, .ref mv, .ref so, .ref la, .int d11, .int d12, .ref co])), (st, .inl (cyI, 72, .inl fs))]) [0, 1] rfl) 0 rfl rfl) rfl rfl hl.1 rfl (lv_room (Nat.le_of_ble_eq_true rfl)) dX8_behindStep_101 ⟨Nat.le_of_ble_eq_true rfl, Nat.le_of_ble_eq_true rfl⟩)) (fun r_34 hr_34 => ?_)
                      obtain ⟨v_35, lv_35, ev_35⟩ : ∃ y : Nat, y < n ∧ r_34 = nI y := ⟨_, Nat.mod_lt _ (by omega), hr_34⟩
                      obtain rfl : nI v_35 = r_34 := Eq.symm ev_35
                      refine lv_istore (lv' := [(6, .int (nI v_35)), (5, .int x_25), (4, .int (nI ow)), (0, .ref m0), (1, .int (nI cv)), (2, .int p2), (3, .int (nI k))]) hx hb dX8_behindStep_104 hl (by decide) rfl (fun ls hl => ?_)
                      refine lv_aload_n hx hb dX8_behindStep_106 rfl (lv_at hl 3 rfl) ?_
                      refine va_get (D := (dC, dI)) (ci := 6) (v := .ref co) (C := RX8) (T := TX8) (N := 14) hx hb hts hnX8_behindStep_X8 hown hK hP 0 rfl rfl 13 (by decide) (hts (.fieldLink RX8 42 "RingMeetsModel" "come" "[I") (by decide +kernel)) (fun _ h9 => h9) rfl dX8_behindStep_107 ?_
                      refine lv_iload hx hb dX8_behindStep_110 (lv_at hl 0 rfl) ?_
                      refine lv_aload_n hx hb dX8_behindStep_112 rfl (lv_at hl 3 rfl) ?_
                      refine va_get (D := (dC, dI)) (ci := 6) (v := .ref co) (C := RX8) (T := TX8) (N := 14) hx hb hts hnX8_behindStep_X8 hown hK hP 0 rfl rfl 13 (by decide) (hts (.fieldLink RX8 42 "RingMeetsModel" "come" "[I") (by decide +kernel)) (fun _ h9 => h9) rfl dX8_behindStep_113 ?_
                      refine lv_iload hx hb dX8_behindStep_116 (lv_at hl 0 rfl) ?_
                      refine va_iald (D := (dC, dI)) hx hb hK hP 4 0 rfl rfl (vp_in_nI (n := v_35) (N := 10) (by omega) (by omega)) dX8_behindStep_118 ?_
                      refine lv_topi (fun x_36 ex_36 => ?_)
                      rw [nI_clamp (n := v_35) (by omega)] at ex_36
                      refine lv_if_le (tgt := 126) hx hb dX8_behindStep_119 (by decide) (fun c_37 => ?_) (fun c_37 => ?_)
                      · skip
                        have ic_37 := ci_le (rfl : Int32.toInt x_36 = _) (show Int32.toInt 0 = 0 by decide) c_37
                        refine lv_iload hx hb dX8_behindStep_126 (lv_at hl 2 rfl) ?_
                        refine va_iast (D := (dC, dI)) hx hb hK hP hD hS 4 0 rfl rfl (vp_in_nI (n := v_35) (N := 10) (by omega) (by omega)) dX8_behindStep_128 (fun H locs hP hD hS => ?_)
                        obtain ⟨g_38, eg_38⟩ : ∃ y : Nat → Int32, y = upd fc2 (Int32.toNatClampNeg (nI v_35)) (nI ow) := ⟨_, rfl⟩
                        have hP : va_P (dC, dI) vwCl [(m0, .inr (6, [.ref st, .ref im, .ref kq, .ref pw, .ref nx, .ref li, .int d6, .ref il, .ref mv, .ref so, .ref la, .int d11, .int d12, .ref co])), (st, .inl (cyI, 72, .inl fs)), (pw, .inl (cyI, 11, .inl fp)), (mv, .inl (cyI, 59049, .inl mf)), (co, .inl (cyI, 10, .inl g_38))] H := by rw [eg_38]; exact hP
                        have hD : va_D A [(m0, .inr (6, [.ref st, .ref im, .ref kq, .ref pw, .ref nx, .ref li, .int d6, .ref il, .ref mv, .ref so, .ref la, .int d11, .int d12, .ref co])), (st, .inl (cyI, 72, .inl fs)), (pw, .inl (cyI, 11, .inl fp)), (mv, .inl (cyI, 59049, .inl mf)), (co, .inl (cyI, 10, .inl g_38))] := by rw [eg_38]; exact hD
                        rw [nI_clamp (n := v_35) (by omega)] at eg_38
                        refine lv_iinc (v := (nI (k + 1))) (lv' := [(3, .int (nI (k + 1))), (6, .int (nI v_35)), (5, .int x_25), (4, .int (nI ow)), (0, .ref m0), (1, .int (nI cv)), (2, .int p2)]) hx hb dX8_behindStep_129 hl (k := 6) rfl (nI_1 _) (by decide) rfl (fun ls hl => ?_)
                        refine lv_goto (tgt := 25) hx hb dX8_behindStep_132 (by decide) ?_
                        exact ih25 (k + 1) g_38 (mn_up cq v_35 ow) ⟨by omega, by omega⟩ (by omega) (mn_cq hcq eg_38 rfl (by omega)) _ _ (hP.sub [0, 1, 2, 3, 4] rfl) (hD.sub [0, 1, 2, 3, 4] (by decide) rfl) hS _ (lv_sub hl [4, 5, 6, 0] rfl)
                      · skip
                        have ic_37 := ci_nle (rfl : Int32.toInt x_36 = _) (show Int32.toInt 0 = 0 by decide) c_37
                        refine lv_iconst (v := 2) hx hb dX8_behindStep_122 (by decide) ?_
                        refine lv_goto (tgt := 128) hx hb dX8_behindStep_123 (by decide) ?_
                        refine va_iast (D := (dC, dI)) hx hb hK hP hD hS 4 0 rfl rfl (vp_in_nI (n := v_35) (N := 10) (by omega) (by omega)) dX8_behindStep_128 (fun H locs hP hD hS => ?_)
                        obtain ⟨g_39, eg_39⟩ : ∃ y : Nat → Int32, y = upd fc2 (Int32.toNatClampNeg (nI v_35)) 2 := ⟨_, rfl⟩
                        have hP : va_P (dC, dI) vwCl [(m0, .inr (6, [.ref st, .ref im, .ref kq, .ref pw, .ref nx, .ref li, .int d6, .ref il, .ref mv, .ref so, .ref la, .int d11, .int d12, .ref co])), (st, .inl (cyI, 72, .inl fs)), (pw, .inl (cyI, 11, .inl fp)), (mv, .inl (cyI, 59049, .inl mf)), (co, .inl (cyI, 10, .inl g_39))] H := by rw [eg_39]; exact hP
                        have hD : va_D A [(m0, .inr (6, [.ref st, .ref im, .ref kq, .ref pw, .ref nx, .ref li, .int d6, .ref il, .ref mv, .ref so, .ref la, .int d11, .int d12, .ref co])), (st, .inl (cyI, 72, .inl fs)), (pw, .inl (cyI, 11, .inl fp)), (mv, .inl (cyI, 59049, .inl mf)), (co, .inl (cyI, 10, .inl g_39))] := by rw [eg_39]; exact hD
                        rw [nI_clamp (n := v_35) (by omega)] at eg_39
                        refine lv_iinc (v := (nI (k + 1))) (lv' := [(3, .int (nI (k + 1))), (6, .int (nI v_35)), (5, .int x_25), (4, .int (nI ow)), (0, .ref m0), (1, .int (nI cv)), (2, .int p2)]) hx hb dX8_behindStep_129 hl (k := 6) rfl (nI_1 _) (by decide) rfl (fun ls hl => ?_)
                        refine lv_goto (tgt := 25) hx hb dX8_behindStep_132 (by decide) ?_
                        exact ih25 (k + 1) g_39 (mn_up cq v_35 2) ⟨by omega, by omega⟩ (by omega) (mn_cq hcq eg_39 rfl (by omega)) _ _ (hP.sub [0, 1, 2, 3, 4] rfl) (hD.sub [0, 1, 2, 3, 4] (by decide) rfl) hS _ (lv_sub hl [4, 5, 6, 0] rfl)
                  · skip
                    have ic_26 := ci_eq (rfl : Int32.toInt x_25 = _) (show Int32.toInt 0 = 0 by decide) c_26
                    refine lv_iload_n hx hb dX8_behindStep_84 rfl (lv_at hl 5 rfl) ?_
                    refine lv_goto (tgt := 104) hx hb dX8_behindStep_85 (by decide) ?_
                    refine lv_istore (lv' := [(6, .int (nI k)), (5, .int x_25), (4, .int (nI ow)), (0, .ref m0), (1, .int (nI cv)), (2, .int p2), (3, .int (nI k))]) hx hb dX8_behindStep_104 hl (by decide) rfl (fun ls hl => ?_)
                    refine lv_aload_n hx hb dX8_behindStep_106 rfl (lv_at hl 3 rfl) ?_
                    refine va_get (D := (dC, dI)) (ci := 6) (v := .ref co) (C := RX8) (T := TX8) (N := 14) hx hb hts hnX8_behindStep_X8 hown hK hP 0 rfl rfl 13 (by decide) (hts (.fieldLink RX8 42 "RingMeetsModel" "come" "[I") (by decide +kernel)) (fun _ h9 => h9) rfl dX8_behindStep_107 ?_
                    refine lv_iload hx hb dX8_behindStep_110 (lv_at hl 0 rfl) ?_
                    refine lv_aload_n hx hb dX8_behindStep_112 rfl (lv_at hl 3 rfl) ?_
                    refine va_get (D := (dC, dI)) (ci := 6) (v := .ref co) (C := RX8) (T := TX8) (N := 14) hx hb hts hnX8_behindStep_X8 hown hK hP 0 rfl rfl 13 (by decide) (hts (.fieldLink RX8 42 "RingMeetsModel" "come" "[I") (by decide +kernel)) (fun _ h9 => h9) rfl dX8_behindStep_113 ?_
                    refine lv_iload hx hb dX8_behindStep_116 (lv_at hl 0 rfl) ?_
                    refine va_iald (D := (dC, dI)) hx hb hK hP 4 0 rfl rfl (vp_in_nI (n := k) (N := 10) (by omega) (by omega)) dX8_behindStep_118 ?_
                    refine lv_topi (fun x_40 ex_40 => ?_)
                    rw [nI_clamp (n := k) (by omega)] at ex_40
                    refine lv_if_le (tgt := 126) hx hb dX8_behindStep_119 (by decide) (fun c_41 => ?_) (fun c_41 => ?_)
                    · skip
                      have ic_41 := ci_le (rfl : Int32.toInt x_40 = _) (show Int32.toInt 0 = 0 by decide) c_41
                      refine lv_iload hx hb dX8_behindStep_126 (lv_at hl 2 rfl) ?_
                      refine va_iast (D := (dC, dI)) hx hb hK hP hD hS 4 0 rfl rfl (vp_in_nI (n := k) (N := 10) (by omega) (by omega)) dX8_behindStep_128 (fun H locs hP hD hS => ?_)
                      obtain ⟨g_42, eg_42⟩ : ∃ y : Nat → Int32, y = upd fc2 (Int32.toNatClampNeg (nI k)) (nI ow) := ⟨_, rfl⟩
                      have hP : va_P (dC, dI) vwCl [(m0, .inr (6, [.ref st, .ref im, .ref kq, .ref pw, .ref nx, .ref li, .int d6, .ref il, .ref mv, .ref so, .ref la, .int d11, .int d12, .ref co])), (st, .inl (cyI, 72, .inl fs)), (pw, .inl (cyI, 11, .inl fp)), (mv, .inl (cyI, 59049, .inl mf)), (co, .inl (cyI, 10, .inl g_42))] H := by rw [eg_42]; exact hP
                      have hD : va_D A [(m0, .inr (6, [.ref st, .ref im, .ref kq, .ref pw, .ref nx, .ref li, .int d6, .ref il, .ref mv, .ref so, .ref la, .int d11, .int d12, .ref co])), (st, .inl (cyI, 72, .inl fs)), (pw, .inl (cyI, 11, .inl fp)), (mv, .inl (cyI, 59049, .inl mf)), (co, .inl (cyI, 10, .inl g_42))] := by rw [eg_42]; exact hD
                      rw [nI_clamp (n := k) (by omega)] at eg_42
                      refine lv_iinc (v := (nI (k + 1))) (lv' := [(3, .int (nI (k + 1))), (6, .int (nI k)), (5, .int x_25), (4, .int (nI ow)), (0, .ref m0), (1, .int (nI cv)), (2, .int p2)]) hx hb dX8_behindStep_129 hl (k := 6) rfl (nI_1 _) (by decide) rfl (fun ls hl => ?_)
                      refine lv_goto (tgt := 25) hx hb dX8_behindStep_132 (by decide) ?_
                      exact ih25 (k + 1) g_42 (mn_up cq k ow) ⟨by omega, by omega⟩ (by omega) (mn_cq hcq eg_42 rfl (by omega)) _ _ (hP.sub [0, 1, 2, 3, 4] rfl) (hD.sub [0, 1, 2, 3, 4] (by decide) rfl) hS _ (lv_sub hl [4, 5, 6, 0] rfl)
                    · skip
                      have ic_41 := ci_nle (rfl : Int32.toInt x_40 = _) (show Int32.toInt 0 = 0 by decide) c_41
                      refine lv_iconst (v := 2) hx hb dX8_behindStep_122 (by decide) ?_
                      refine lv_goto (tgt := 128) hx hb dX8_behindStep_123 (by decide) ?_
                      refine va_iast (D := (dC, dI)) hx hb hK hP hD hS 4 0 rfl rfl (vp_in_nI (n := k) (N := 10) (by omega) (by omega)) dX8_behindStep_128 (fun H locs hP hD hS => ?_)
                      obtain ⟨g_43, eg_43⟩ : ∃ y : Nat → Int32, y = upd fc2 (Int32.toNatClampNeg (nI k)) 2 := ⟨_, rfl⟩
                      have hP : va_P (dC, dI) vwCl [(m0, .inr (6, [.ref st, .ref im, .ref kq, .ref pw, .ref nx, .ref li, .int d6, .ref il, .ref mv, .ref so, .ref la, .int d11, .int d12, .ref co])), (st, .inl (cyI, 72, .inl fs)), (pw, .inl (cyI, 11, .inl fp)), (mv, .inl (cyI, 59049, .inl mf)), (co, .inl (cyI, 10, .inl g_43))] H := by rw [eg_43]; exact hP
                      have hD : va_D A [(m0, .inr (6, [.ref st, .ref im, .ref kq, .ref pw, .ref nx, .ref li, .int d6, .ref il, .ref mv, .ref so, .ref la, .int d11, .int d12, .ref co])), (st, .inl (cyI, 72, .inl fs)), (pw, .inl (cyI, 11, .inl fp)), (mv, .inl (cyI, 59049, .inl mf)), (co, .inl (cyI, 10, .inl g_43))] := by rw [eg_43]; exact hD
                      rw [nI_clamp (n := k) (by omega)] at eg_43
                      refine lv_iinc (v := (nI (k + 1))) (lv' := [(3, .int (nI (k + 1))), (6, .int (nI k)), (5, .int x_25), (4, .int (nI ow)), (0, .ref m0), (1, .int (nI cv)), (2, .int p2)]) hx hb dX8_behindStep_129 hl (k := 6) rfl (nI_1 _) (by decide) rfl (fun ls hl => ?_)
                      refine lv_goto (tgt := 25) hx hb dX8_behindStep_132 (by decide) ?_
                      exact ih25 (k + 1) g_43 (mn_up cq k 2) ⟨by omega, by omega⟩ (by omega) (mn_cq hcq eg_43 rfl (by omega)) _ _ (hP.sub [0, 1, 2, 3, 4] rfl) (hD.sub [0, 1, 2, 3, 4] (by decide) rfl) hS _ (lv_sub hl [4, 5, 6, 0] rfl)
        exact L25 (n + 1) 0 fc2 (fun _ => 0) ⟨by omega, by omega⟩ (by omega) (fun j hj => ⟨hz2 j (by omega), by omega⟩) _ _ (hP.sub [0, 1, 2, 3, 4] rfl) (hD.sub [0, 1, 2, 3, 4] (by decide) rfl) hS _ (lv_sub hl [1, 2, 3, 0] rfl)
      · skip
        have ic_2 := ci_nle (nI_toInt (n := n) (by omega)) (nI_toInt (n := k) (by omega)) c_2
        refine lv_aload_n hx hb dX8_behindStep_10 rfl (lv_at hl 0 rfl) ?_
        refine va_get (D := (dC, dI)) (ci := 6) (v := .ref co) (C := RX8) (T := TX8) (N := 14) hx hb hts hnX8_behindStep_X8 hown hK hP 0 rfl rfl 13 (by decide) (hts (.fieldLink RX8 42 "RingMeetsModel" "come" "[I") (by decide +kernel)) (fun _ h9 => h9) rfl dX8_behindStep_11 ?_
        refine lv_iload_n hx hb dX8_behindStep_14 rfl (lv_at hl 3 rfl) ?_
        refine lv_iconst (v := 0) hx hb dX8_behindStep_15 (by decide) ?_
        refine va_iast (D := (dC, dI)) hx hb hK hP hD hS 4 0 rfl rfl (vp_in_nI (n := k) (N := 10) (by omega) (by omega)) dX8_behindStep_16 (fun H locs hP hD hS => ?_)
        obtain ⟨g_44, eg_44⟩ : ∃ y : Nat → Int32, y = upd fc2 (Int32.toNatClampNeg (nI k)) 0 := ⟨_, rfl⟩
        have hP : va_P (dC, dI) vwCl [(m0, .inr (6, [.ref st, .ref im, .ref kq, .ref pw, .ref nx, .ref li, .int d6, .ref il, .ref mv, .ref so, .ref la, .int d11, .int d12, .ref co])), (st, .inl (cyI, 72, .inl fs)), (pw, .inl (cyI, 11, .inl fp)), (mv, .inl (cyI, 59049, .inl mf)), (co, .inl (cyI, 10, .inl g_44))] H := by rw [eg_44]; exact hP
        have hD : va_D A [(m0, .inr (6, [.ref st, .ref im, .ref kq, .ref pw, .ref nx, .ref li, .int d6, .ref il, .ref mv, .ref so, .ref la, .int d11, .int d12, .ref co])), (st, .inl (cyI, 72, .inl fs)), (pw, .inl (cyI, 11, .inl fp)), (mv, .inl (cyI, 59049, .inl mf)), (co, .inl (cyI, 10, .inl g_44))] := by rw [eg_44]; exact hD
        rw [nI_clamp (n := k) (by omega)] at eg_44
        refine lv_iinc (v := (nI (k + 1))) (lv' := [(3, .int (nI (k + 1))), (0, .ref m0), (1, .int (nI cv)), (2, .int p2)]) hx hb dX8_behindStep_17 hl (k := 3) rfl (nI_1 _) (by decide) rfl (fun ls hl => ?_)
        refine lv_goto (tgt := 2) hx hb dX8_behindStep_20 (by decide) ?_
        exact ih2 (k + 1) g_44 ⟨by omega, by omega⟩ (by omega) (fun j hj => by rw [eg_44]; unfold upd; split; rfl; exact hz2 j (by omega)) _ _ (hP.sub [0, 1, 2, 3, 4] rfl) (hD.sub [0, 1, 2, 3, 4] (by decide) rfl) hS _ (lv_sub hl [1, 2, 3, 0] rfl)
  exact L2 (n + 1) 0 fc ⟨by omega, by omega⟩ (by omega) (fun j hj => by omega) _ _ (hP.sub [0, 1, 2, 3, 4] rfl) (hD.sub [0, 1, 2, 3, 4] (by decide) rfl) hS _ (lv_sub hl [1, 2, 3, 0] rfl)

set_option maxHeartbeats 4000000 in
set_option maxRecDepth 100000 in
theorem mX8_mayBe (l : Launch) (dC : Nat → ClassId) (dI : Nat → Nat → Nat) (cyI cyZ : ClassId) (p0 : Int32) (p1 : Int32) (p2 : Int32)  : Met l yX8_mayBe wsX8_mayBe ({ frames := 0, cells := 0, slots := 0, locals := 0 }) (bs_R dC dI cyI cyZ [.int p0, .int p1, .int p2] []) (vp_Si (fun r : Int32 => r = 0 ∨ r = 1)) 0 0 (fun _ => False) := by
  refine Met.ofW (cc := cX8_mayBe) (maxL := 3) (ret := (some .boolean)) (by decide) rfl ?_
  intro p e s m args below meth c s₁ B hml hv
  obtain ⟨rfl, hB, hP⟩ := hv
  have hK := hB.1
  have hN := hB.2
  have hx := B.exec
  have hb := B.bytes
  have hr := B.returns
  have hts := atoms_spec (ws := wsX8_mayBe) B.pre
  have hown : s.vm.findClass RX8 = some m.cls := findClass_of_methodNamed B.named
  have hlocks := B.notSynchronized
  have hP : va_P (dC, dI) vwCl [] s.heap := hP
  have hl := lv_entry ([.int p0, .int p1, .int p2]) (n := 3) (Nat.le_of_ble_eq_true rfl)
  rw [lg_entry_eq]
  generalize (lg_sl ([.int p0, .int p1, .int p2]) ++ List.replicate (3 - (lg_sl ([.int p0, .int p1, .int p2])).length) Slot.unset).toArray = ls at hl ⊢
  have hl : lv_has ls 3 [(0, .int p0), (1, .int p1), (2, .int p2)] := hl
  refine lv_iload_n hx hb dX8_mayBe_0 rfl (lv_at hl 0 rfl) ?_
  refine lv_if_ne (tgt := 20) hx hb dX8_mayBe_1 (by decide) (fun c_1 => ?_) (fun c_1 => ?_)
  · skip
    have ic_1 := ci_ne (rfl : Int32.toInt p0 = _) (show Int32.toInt 0 = 0 by decide) c_1
    refine lv_iload_n hx hb dX8_mayBe_20 rfl (lv_at hl 0 rfl) ?_
    refine lv_iconst (v := 2) hx hb dX8_mayBe_21 (by decide) ?_
    refine lv_icmp_eq (tgt := 30) hx hb dX8_mayBe_22 (by decide) (fun c_2 => ?_) (fun c_2 => ?_)
    · skip
      have ic_2 := ci_eq (rfl : Int32.toInt p0 = _) (show Int32.toInt 2 = 2 by decide) c_2
      refine lv_iconst (v := 1) hx hb dX8_mayBe_30 (by decide) ?_
      refine lv_goto (tgt := 35) hx hb dX8_mayBe_31 (by decide) ?_
      exact W.zret (v := 1) hx hb hr (show narrow .boolean (.int 1) = .int 1 from rfl) (fun t ht hW => ⟨1, rfl, Or.inr rfl, ht⟩) (fun q h => by cases h) dX8_mayBe_35
    · skip
      have ic_2 := ci_ne (rfl : Int32.toInt p0 = _) (show Int32.toInt 2 = 2 by decide) c_2
      refine lv_iload_n hx hb dX8_mayBe_25 rfl (lv_at hl 1 rfl) ?_
      refine lv_iload_n hx hb dX8_mayBe_26 rfl (lv_at hl 2 rfl) ?_
      refine lv_icmp_ne (tgt := 34) hx hb dX8_mayBe_27 (by decide) (fun c_3 => ?_) (fun c_3 => ?_)
      · skip
        have ic_3 := ci_ne (rfl : Int32.toInt p1 = _) (rfl : Int32.toInt p2 = _) c_3
        refine lv_iconst (v := 0) hx hb dX8_mayBe_34 (by decide) ?_
        exact W.zret (v := 0) hx hb hr (show narrow .boolean (.int 0) = .int 0 from rfl) (fun t ht hW => ⟨0, rfl, Or.inl rfl, ht⟩) (fun q h => by cases h) dX8_mayBe_35
      · skip
        have ic_3 := ci_eq (rfl : Int32.toInt p1 = _) (rfl : Int32.toInt p2 = _) c_3
        refine lv_iconst (v := 1) hx hb dX8_mayBe_30 (by decide) ?_
        refine lv_goto (tgt := 35) hx hb dX8_mayBe_31 (by decide) ?_
        exact W.zret (v := 1) hx hb hr (show narrow .boolean (.int 1) = .int 1 from rfl) (fun t ht hW => ⟨1, rfl, Or.inr rfl, ht⟩) (fun q h => by cases h) dX8_mayBe_35
  · skip
    have ic_1 := ci_eq (rfl : Int32.toInt p0 = _) (show Int32.toInt 0 = 0 by decide) c_1
    refine lv_iload_n hx hb dX8_mayBe_4 rfl (lv_at hl 1 rfl) ?_
    refine lv_iload_n hx hb dX8_mayBe_5 rfl (lv_at hl 1 rfl) ?_
    refine lv_iconst (v := 1) hx hb dX8_mayBe_6 (by decide) ?_
    refine lv_isub hx hb dX8_mayBe_7 ?_
    refine lv_topi (fun x_4 ex_4 => ?_)
    refine lv_iand hx hb dX8_mayBe_8 ?_
    refine lv_topi (fun x_5 ex_5 => ?_)
    refine lv_if_ne (tgt := 16) hx hb dX8_mayBe_9 (by decide) (fun c_6 => ?_) (fun c_6 => ?_)
    · skip
      have ic_6 := ci_ne (rfl : Int32.toInt x_5 = _) (show Int32.toInt 0 = 0 by decide) c_6
      refine lv_iconst (v := 0) hx hb dX8_mayBe_16 (by decide) ?_
      refine lv_goto (tgt := 35) hx hb dX8_mayBe_17 (by decide) ?_
      exact W.zret (v := 0) hx hb hr (show narrow .boolean (.int 0) = .int 0 from rfl) (fun t ht hW => ⟨0, rfl, Or.inl rfl, ht⟩) (fun q h => by cases h) dX8_mayBe_35
    · skip
      have ic_6 := ci_eq (rfl : Int32.toInt x_5 = _) (show Int32.toInt 0 = 0 by decide) c_6
      refine lv_iconst (v := 1) hx hb dX8_mayBe_12 (by decide) ?_
      refine lv_goto (tgt := 35) hx hb dX8_mayBe_13 (by decide) ?_
      exact W.zret (v := 1) hx hb hr (show narrow .boolean (.int 1) = .int 1 from rfl) (fun t ht hW => ⟨1, rfl, Or.inr rfl, ht⟩) (fun q h => by cases h) dX8_mayBe_35

set_option maxHeartbeats 4000000 in
set_option maxRecDepth 100000 in
theorem mX8_isMet (l : Launch) (dC : Nat → ClassId) (dI : Nat → Nat → Nat) (cyI cyZ : ClassId) (m0 : Nat) (st : Nat) (im : Nat) (kq : Nat) (pw : Nat) (nx : Nat) (li : Nat) (il : Nat) (mv : Nat) (so : Nat) (la : Nat) (co : Nat) (d6 : Int32) (d11 : Int32) (d12 : Int32) (n : Nat) (fs : Nat → Int32) (fp : Nat → Int32) (p1 : Int32) (hn3 : 3 ≤ n) (hn : n ≤ 10) (h0f : fs 0 = nI n) (hp : ∀ j, j ≤ 10 → fp j = nI (3 ^ j)) : Met l yX8_isMet wsX8_isMet ({ frames := 2, cells := 0, slots := 0, locals := 43 }) (bs_R dC dI cyI cyZ [.ref m0, .int p1] [(m0, .inr (6, [.ref st, .ref im, .ref kq, .ref pw, .ref nx, .ref li, .int d6, .ref il, .ref mv, .ref so, .ref la, .int d11, .int d12, .ref co])), (st, .inl (cyI, 72, .inl fs)), (pw, .inl (cyI, 11, .inl fp))]) (vp_Si (fun r : Int32 => r = 0 ∨ r = 1)) 0 0 (fun _ => False) := by
  refine Met.ofW (cc := cX8_isMet) (maxL := 2) (ret := (some .boolean)) (by decide) rfl ?_
  intro p e s m args below meth c s₁ B hml hv
  obtain ⟨rfl, hB, hP⟩ := hv
  have hK := hB.1
  have hN := hB.2
  have hx := B.exec
  have hb := B.bytes
  have hr := B.returns
  have hts := atoms_spec (ws := wsX8_isMet) B.pre
  have hown : s.vm.findClass RX8 = some m.cls := findClass_of_methodNamed B.named
  have hlocks := B.notSynchronized
  have hP : va_P (dC, dI) vwCl [(m0, .inr (6, [.ref st, .ref im, .ref kq, .ref pw, .ref nx, .ref li, .int d6, .ref il, .ref mv, .ref so, .ref la, .int d11, .int d12, .ref co])), (st, .inl (cyI, 72, .inl fs)), (pw, .inl (cyI, 11, .inl fp))] s.heap := hP
  have hl := lv_entry ([.ref m0, .int p1]) (n := 2) (Nat.le_of_ble_eq_true rfl)
  rw [lg_entry_eq]
  generalize (lg_sl ([.ref m0, .int p1]) ++ List.replicate (2 - (lg_sl ([.ref m0, .int p1])).length) Slot.unset).toArray = ls at hl ⊢
  have hl : lv_has ls 2 [(0, .ref m0), (1, .int p1)] := hl
  refine lv_aload_n hx hb dX8_isMet_0 rfl (lv_at hl 0 rfl) ?_
  refine lv_iload_n hx hb dX8_isMet_1 rfl (lv_at hl 1 rfl) ?_
  refine vp_callSi (va_Run.run (va_runV (As := [.int p1]) (rest := []) ⟨hx, hb, hml, hown, hts⟩ (mX8_standsOf l dC dI cyI cyZ m0 st im kq pw nx li il mv so la co d6 d11 d12 n fs fp p1 hn3 hn h0f hp) (cwV 1 hts gX8_isMet_X8_standsOf rfl rfl rfl (by decide +kernel) ⟨Nat.le_of_ble_eq_true rfl, Nat.le_of_ble_eq_true rfl⟩) (bs_RV hB (hP.sub (ws' := [(m0, .inr (6, [.ref st, .ref im, .ref kq, .ref pw, .ref nx, .ref li, .int d6, .ref il, .ref mv, .ref so, .ref la, .int d11, .int d12, .ref co])), (st, .inl (cyI, 72, .inl fs)), (pw, .inl (cyI, 11, .inl fp))]) [0, 1, 2] rfl) 0 rfl rfl) rfl rfl hl.1 rfl (lv_room (Nat.le_of_ble_eq_true rfl)) dX8_isMet_2 ⟨Nat.le_of_ble_eq_true rfl, Nat.le_of_ble_eq_true rfl⟩)) (fun r_1 hr_1 => ?_)
  obtain rfl : (nb_st p1 n) = r_1 := Eq.symm hr_1
  refine vp_callSi (va_Run.run (va_runS (As := [.int (nb_st p1 n)]) (rest := []) ⟨hx, hb, hml, hown, hts⟩ (mX8_size l dC dI cyI cyZ (nb_st p1 n) ) (va_cwS 1 hts gX8_isMet_X8_size rfl rfl rfl (by decide +kernel) ⟨Nat.le_of_ble_eq_true rfl, Nat.le_of_ble_eq_true rfl⟩) (bs_RS hB (hP.sub (ws' := []) [] rfl)) rfl rfl hl.1 rfl (lv_room (Nat.le_of_ble_eq_true rfl)) dX8_isMet_5 ⟨Nat.le_of_ble_eq_true rfl, Nat.le_of_ble_eq_true rfl⟩)) (fun r_2 hr_2 => ?_)
  obtain ⟨v_3, lv_3, ev_3⟩ := hr_2
  obtain rfl : nI v_3 = r_2 := Eq.symm ev_3
  refine lv_iconst (v := 1) hx hb dX8_isMet_8 (by decide) ?_
  refine lv_icmp_ne (tgt := 16) hx hb dX8_isMet_9 (by decide) (fun c_4 => ?_) (fun c_4 => ?_)
  · skip
    have ic_4 := ci_ne (nI_toInt (n := v_3) (by omega)) (show Int32.toInt 1 = 1 by decide) c_4
    refine lv_iconst (v := 0) hx hb dX8_isMet_16 (by decide) ?_
    exact W.zret (v := 0) hx hb hr (show narrow .boolean (.int 0) = .int 0 from rfl) (fun t ht hW => ⟨0, rfl, Or.inl rfl, ht⟩) (fun q h => by cases h) dX8_isMet_17
  · skip
    have ic_4 := ci_eq (nI_toInt (n := v_3) (by omega)) (show Int32.toInt 1 = 1 by decide) c_4
    refine lv_iconst (v := 1) hx hb dX8_isMet_12 (by decide) ?_
    refine lv_goto (tgt := 17) hx hb dX8_isMet_13 (by decide) ?_
    exact W.zret (v := 1) hx hb hr (show narrow .boolean (.int 1) = .int 1 from rfl) (fun t ht hW => ⟨1, rfl, Or.inr rfl, ht⟩) (fun q h => by cases h) dX8_isMet_17

theorem hnX8_begin_X8 : ∀ w ∈ wsX80, w ∈ wsX8_begin := fun _ h => List.mem_cons_of_mem _ (List.mem_append_right _ h)
set_option maxHeartbeats 4000000 in
set_option maxRecDepth 100000 in
theorem mX8_begin (l : Launch) (dC : Nat → ClassId) (dI : Nat → Nat → Nat) (cyI cyZ : ClassId) (m0 : Nat) (st : Nat) (im : Nat) (kq : Nat) (pw : Nat) (nx : Nat) (li : Nat) (il : Nat) (mv : Nat) (so : Nat) (la : Nat) (co : Nat) (d6 : Int32) (d11 : Int32) (d12 : Int32) (ilf : Nat → Int32) (p1 : Int32) (hp1 : p1 = 0 ∨ p1 = 1) (sz : Nat) : Met l yX8_begin wsX8_begin ({ frames := 0, cells := 0, slots := 0, locals := 0 }) (bs_W dC dI cyI cyZ [.ref m0, .int p1] [(m0, .inr (6, [.ref st, .ref im, .ref kq, .ref pw, .ref nx, .ref li, .int d6, .ref il, .ref mv, .ref so, .ref la, .int d11, .int d12, .ref co])), (il, .inl (cyZ, 59049, .inl ilf))] sz) (va_Qv (S := (Nat → Int32)) (fun q : (Nat → Int32) => True) (fun q t => bs_E dC dI (va_A [(m0, .inr (6, [.ref st, .ref im, .ref kq, .ref pw, .ref nx, .ref li, .int d6, .ref il, .ref mv, .ref so, .ref la, .int d11, .int d12, .ref co])), (il, .inl (cyZ, 59049, .inl ilf))] sz) [(m0, .inr (6, [.ref st, .ref im, .ref kq, .ref pw, .ref nx, .ref li, .int 0, .ref il, .ref mv, .ref so, .ref la, .int 0, .int p1, .ref co])), (il, .inl (cyZ, 59049, .inl q))] t) (va_A [(m0, .inr (6, [.ref st, .ref im, .ref kq, .ref pw, .ref nx, .ref li, .int d6, .ref il, .ref mv, .ref so, .ref la, .int d11, .int d12, .ref co])), (il, .inl (cyZ, 59049, .inl ilf))] sz)) 0 0 (va_A [(m0, .inr (6, [.ref st, .ref im, .ref kq, .ref pw, .ref nx, .ref li, .int d6, .ref il, .ref mv, .ref so, .ref la, .int d11, .int d12, .ref co])), (il, .inl (cyZ, 59049, .inl ilf))] sz) := by
  refine Met.ofW (cc := cX8_begin) (maxL := 3) (ret := none) (by decide) rfl ?_
  intro p e s m args below meth c s₁ B hml hv
  obtain ⟨rfl, hsz, hB, hP, hD0⟩ := hv
  have hK := hB.1
  have hN := hB.2
  have hx := B.exec
  have hb := B.bytes
  have hr := B.returns
  have hts := atoms_spec (ws := wsX8_begin) B.pre
  have hown : s.vm.findClass RX8 = some m.cls := findClass_of_methodNamed B.named
  have hlocks := B.notSynchronized
  subst hsz
  have hD := hD0.self (sz := s.heap.size)
  generalize hAe : va_A [(m0, .inr (6, [.ref st, .ref im, .ref kq, .ref pw, .ref nx, .ref li, .int d6, .ref il, .ref mv, .ref so, .ref la, .int d11, .int d12, .ref co])), (il, .inl (cyZ, 59049, .inl ilf))] s.heap.size = A at hD ⊢
  have hA : ∀ q : Nat, s.heap.size ≤ q → A q := fun q h => by rw [← hAe]; exact Or.inr h
  have hS : va_S A s.heap s.heap [] := va_S.rf
  have hP : va_P (dC, dI) vwCl [(m0, .inr (6, [.ref st, .ref im, .ref kq, .ref pw, .ref nx, .ref li, .int d6, .ref il, .ref mv, .ref so, .ref la, .int d11, .int d12, .ref co])), (il, .inl (cyZ, 59049, .inl ilf))] s.heap := hP
  have hl := lv_entry ([.ref m0, .int p1]) (n := 3) (Nat.le_of_ble_eq_true rfl)
  rw [lg_entry_eq]
  generalize (lg_sl ([.ref m0, .int p1]) ++ List.replicate (3 - (lg_sl ([.ref m0, .int p1])).length) Slot.unset).toArray = ls at hl ⊢
  have hl : lv_has ls 3 [(0, .ref m0), (1, .int p1)] := hl
  refine lv_iconst (v := 0) hx hb dX8_begin_0 (by decide) ?_
  refine lv_istore_n (lv' := [(2, .int 0), (0, .ref m0), (1, .int p1)]) hx hb dX8_begin_1 rfl hl (by decide) rfl (fun ls hl => ?_)
  have L2 : ∀ (n2 : Nat), ∀ (k : Nat) (ilf2 : Nat → Int32), (0 ≤ k ∧ k ≤ 59049) → (59049 + 1 ≤ k + n2) → ∀ (H : Heap) (locs : List Loc), va_P (dC, dI) vwCl [(m0, .inr (6, [.ref st, .ref im, .ref kq, .ref pw, .ref nx, .ref li, .int d6, .ref il, .ref mv, .ref so, .ref la, .int d11, .int d12, .ref co])), (il, .inl (cyZ, 59049, .inl ilf2))] H → va_D A [(m0, .inr (6, [.ref st, .ref im, .ref kq, .ref pw, .ref nx, .ref li, .int d6, .ref il, .ref mv, .ref so, .ref la, .int d11, .int d12, .ref co])), (il, .inl (cyZ, 59049, .inl ilf2))] → va_S A s.heap H locs → ∀ (ls : Array Slot), lv_has ls 3 [(0, .ref m0), (1, .int p1), (2, .int (nI k))] → W p l e (headSpec wsX8_begin ({ frames := 0, cells := 0, slots := 0, locals := 0 })).room s m ([.ref m0, .int p1] : List Value).toArray below meth c H locs 0 0 (MQ below (va_Qv (S := (Nat → Int32)) (fun q : (Nat → Int32) => True) (fun q t => bs_E dC dI A [(m0, .inr (6, [.ref st, .ref im, .ref kq, .ref pw, .ref nx, .ref li, .int 0, .ref il, .ref mv, .ref so, .ref la, .int 0, .int p1, .ref co])), (il, .inl (cyZ, 59049, .inl q))] t) A) ([.ref m0, .int p1] : List Value).toArray s 0 0 A) (F0 m 2 ls []) := by
    intro n2
    induction n2 with
    | zero =>
      intro k ilf2 hk2 hn2 H locs hP hD hS ls hl
      exfalso
      omega
    | succ n2 ih2 =>
      intro k ilf2 hk2 hn2 H locs hP hD hS ls hl
      refine lv_iload_n hx hb dX8_begin_2 rfl (lv_at hl 2 rfl) ?_
      refine lv_ldc (v := 59049) hx hb hown (hts (.constant RX8 26 (59049)) (by decide +kernel)) dX8_begin_3 ?_
      refine lv_icmp_ge (tgt := 21) hx hb dX8_begin_5 (by decide) (fun c_1 => ?_) (fun c_1 => ?_)
      · skip
        have ic_1 := ci_le (show Int32.toInt 59049 = 59049 by decide) (nI_toInt (n := k) (by omega)) c_1
        refine lv_aload_n hx hb dX8_begin_21 rfl (lv_at hl 0 rfl) ?_
        refine lv_iconst (v := 0) hx hb dX8_begin_22 (by decide) ?_
        refine va_put (D := (dC, dI)) (ci := 6) (v := .int 0) (ty := .int) (C := RX8) (T := TX8) (N := 14) hx hb hts hnX8_begin_X8 tyX8 tyX8_ok nmX8 hown hK hP hD hS 0 rfl rfl 6 (by decide) (hts (.fieldLink RX8 128 "RingMeetsModel" "listed" "I") (by decide +kernel)) (fun _ h9 => h9) rfl (by decide +kernel) rfl rfl (Nat.le_of_ble_eq_true rfl) dX8_begin_23 (fun H locs hP hD hS => ?_)
        have hP : va_P (dC, dI) vwCl [(m0, .inr (6, [.ref st, .ref im, .ref kq, .ref pw, .ref nx, .ref li, .int 0, .ref il, .ref mv, .ref so, .ref la, .int d11, .int d12, .ref co])), (il, .inl (cyZ, 59049, .inl ilf2))] _ := hP
        have hD : va_D A [(m0, .inr (6, [.ref st, .ref im, .ref kq, .ref pw, .ref nx, .ref li, .int 0, .ref il, .ref mv, .ref so, .ref la, .int d11, .int d12, .ref co])), (il, .inl (cyZ, 59049, .inl ilf2))] := hD
        refine lv_aload_n hx hb dX8_begin_26 rfl (lv_at hl 0 rfl) ?_
        refine lv_iconst (v := 0) hx hb dX8_begin_27 (by decide) ?_
        refine va_put (D := (dC, dI)) (ci := 6) (v := .int 0) (ty := .int) (C := RX8) (T := TX8) (N := 14) hx hb hts hnX8_begin_X8 tyX8 tyX8_ok nmX8 hown hK hP hD hS 0 rfl rfl 11 (by decide) (hts (.fieldLink RX8 136 "RingMeetsModel" "usedRules" "I") (by decide +kernel)) (fun _ h9 => h9) rfl (by decide +kernel) rfl rfl (Nat.le_of_ble_eq_true rfl) dX8_begin_28 (fun H locs hP hD hS => ?_)
        have hP : va_P (dC, dI) vwCl [(m0, .inr (6, [.ref st, .ref im, .ref kq, .ref pw, .ref nx, .ref li, .int 0, .ref il, .ref mv, .ref so, .ref la, .int 0, .int d12, .ref co])), (il, .inl (cyZ, 59049, .inl ilf2))] _ := hP
        have hD : va_D A [(m0, .inr (6, [.ref st, .ref im, .ref kq, .ref pw, .ref nx, .ref li, .int 0, .ref il, .ref mv, .ref so, .ref la, .int 0, .int d12, .ref co])), (il, .inl (cyZ, 59049, .inl ilf2))] := hD
        refine lv_aload_n hx hb dX8_begin_31 rfl (lv_at hl 0 rfl) ?_
        refine lv_iload_n hx hb dX8_begin_32 rfl (lv_at hl 1 rfl) ?_
        refine va_put (D := (dC, dI)) (ci := 6) (v := .int p1) (ty := .boolean) (C := RX8) (T := TX8) (N := 14) hx hb hts hnX8_begin_X8 tyX8 tyX8_ok nmX8 hown hK hP hD hS 0 rfl rfl 12 (by decide) (hts (.fieldLink RX8 132 "RingMeetsModel" "isBlind" "Z") (by decide +kernel)) (fun _ h9 => h9) rfl (by decide +kernel) (nb_nar hp1) (nb_fit hp1) (Nat.le_of_ble_eq_true rfl) dX8_begin_33 (fun H locs hP hD hS => ?_)
        have hP : va_P (dC, dI) vwCl [(m0, .inr (6, [.ref st, .ref im, .ref kq, .ref pw, .ref nx, .ref li, .int 0, .ref il, .ref mv, .ref so, .ref la, .int 0, .int p1, .ref co])), (il, .inl (cyZ, 59049, .inl ilf2))] _ := hP
        have hD : va_D A [(m0, .inr (6, [.ref st, .ref im, .ref kq, .ref pw, .ref nx, .ref li, .int 0, .ref il, .ref mv, .ref so, .ref la, .int 0, .int p1, .ref co])), (il, .inl (cyZ, 59049, .inl ilf2))] := hD
        exact W.vret hx hb hr (fun t ht hW => ⟨⟨ilf2, rfl, trivial, ⟨by rw [ht]; exact hP.sub (ws' := [(m0, .inr (6, [.ref st, .ref im, .ref kq, .ref pw, .ref nx, .ref li, .int 0, .ref il, .ref mv, .ref so, .ref la, .int 0, .int p1, .ref co])), (il, .inl (cyZ, 59049, .inl ilf2))]) [0, 1] rfl, hD.sub (ws' := [(m0, .inr (6, [.ref st, .ref im, .ref kq, .ref pw, .ref nx, .ref li, .int 0, .ref il, .ref mv, .ref so, .ref la, .int 0, .int p1, .ref co])), (il, .inl (cyZ, 59049, .inl ilf2))]) [0, 1] (by decide) rfl⟩⟩, hS.F ht⟩) hS.2.2 dX8_begin_36
      · skip
        have ic_1 := ci_nle (show Int32.toInt 59049 = 59049 by decide) (nI_toInt (n := k) (by omega)) c_1
        refine lv_aload_n hx hb dX8_begin_8 rfl (lv_at hl 0 rfl) ?_
        refine va_get (D := (dC, dI)) (ci := 6) (v := .ref il) (C := RX8) (T := TX8) (N := 14) hx hb hts hnX8_begin_X8 hown hK hP 0 rfl rfl 7 (by decide) (hts (.fieldLink RX8 30 "RingMeetsModel" "isListed" "[Z") (by decide +kernel)) (fun _ h9 => h9) rfl dX8_begin_9 ?_
        refine lv_iload_n hx hb dX8_begin_12 rfl (lv_at hl 2 rfl) ?_
        refine lv_iconst (v := 0) hx hb dX8_begin_13 (by decide) ?_
        refine va_zast (D := (dC, dI)) hx hb hK hP hD hS 1 1 rfl rfl (vp_in_nI (n := k) (N := 59049) (by omega) (by omega)) dX8_begin_14 (fun H locs hP hD hS => ?_)
        obtain ⟨g_2, eg_2⟩ : ∃ y : Nat → Int32, y = upd ilf2 (Int32.toNatClampNeg (nI k)) (vp_nar .boolean 0) := ⟨_, rfl⟩
        have hP : va_P (dC, dI) vwCl [(m0, .inr (6, [.ref st, .ref im, .ref kq, .ref pw, .ref nx, .ref li, .int d6, .ref il, .ref mv, .ref so, .ref la, .int d11, .int d12, .ref co])), (il, .inl (cyZ, 59049, .inl g_2))] H := by rw [eg_2]; exact hP
        have hD : va_D A [(m0, .inr (6, [.ref st, .ref im, .ref kq, .ref pw, .ref nx, .ref li, .int d6, .ref il, .ref mv, .ref so, .ref la, .int d11, .int d12, .ref co])), (il, .inl (cyZ, 59049, .inl g_2))] := by rw [eg_2]; exact hD
        rw [nI_clamp (n := k) (by omega)] at eg_2
        have eg_2 : g_2 = upd ilf2 k 0 := eg_2
        refine lv_iinc (v := (nI (k + 1))) (lv' := [(2, .int (nI (k + 1))), (0, .ref m0), (1, .int p1)]) hx hb dX8_begin_15 hl (k := 2) rfl (nI_1 _) (by decide) rfl (fun ls hl => ?_)
        refine lv_goto (tgt := 2) hx hb dX8_begin_18 (by decide) ?_
        exact ih2 (k + 1) g_2 ⟨by omega, by omega⟩ (by omega)  _ _ (hP.sub [0, 1] rfl) (hD.sub [0, 1] (by decide) rfl) hS _ (lv_sub hl [1, 2, 0] rfl)
  exact L2 (59049 + 1) 0 ilf ⟨by omega, by omega⟩ (by omega)  _ _ (hP.sub [0, 1] rfl) (hD.sub [0, 1] (by decide) rfl) hS _ (lv_sub hl [1, 2, 0] rfl)

theorem hnX8_look_X8 : ∀ w ∈ wsX80, w ∈ wsX8_look := fun _ h => List.mem_cons_of_mem _ (List.mem_append_right _ h)
set_option maxHeartbeats 4000000 in
set_option maxRecDepth 100000 in
theorem mX8_look (l : Launch) (dC : Nat → ClassId) (dI : Nat → Nat → Nat) (cyI cyZ : ClassId) (m0 : Nat) (st : Nat) (im : Nat) (kq : Nat) (pw : Nat) (nx : Nat) (li : Nat) (il : Nat) (mv : Nat) (so : Nat) (la : Nat) (co : Nat) (d6 : Int32) (d11 : Int32) (d12 : Int32) (n : Nat) (fs : Nat → Int32) (fp : Nat → Int32) (cv : Nat) (r9 : Nat) (mf : Nat → Int32) (fso : Nat → Int32) (fla : Nat → Int32) (fc : Nat → Int32) (p2 : Int32) (hn3 : 3 ≤ n) (hn : n ≤ 10) (h0f : fs 0 = nI n) (hp : ∀ j, j ≤ 10 → fp j = nI (3 ^ j)) (hc9 : cv < 59049) (hr9 : 1 ≤ r9 ∧ r9 ≤ 200000) (sz : Nat) : Met l yX8_look wsX8_look ({ frames := 3, cells := 0, slots := 0, locals := 68 }) (bs_W dC dI cyI cyZ [.ref m0, .int (nI cv), .int p2, .int (nI r9)] [(m0, .inr (6, [.ref st, .ref im, .ref kq, .ref pw, .ref nx, .ref li, .int d6, .ref il, .ref mv, .ref so, .ref la, .int d11, .int d12, .ref co])), (st, .inl (cyI, 72, .inl fs)), (pw, .inl (cyI, 11, .inl fp)), (mv, .inl (cyI, 59049, .inl mf)), (so, .inl (cyI, 59049, .inl fso)), (la, .inl (cyI, 59049, .inl fla)), (co, .inl (cyI, 10, .inl fc))] sz) (va_Qi (S := (Nat → Int32) × (Nat → Int32) × (Nat → Int32)) (fun (r : Int32) (q : (Nat → Int32) × (Nat → Int32) × (Nat → Int32)) => (r = 0 ∨ r = 1) ∧ mn_ct mn_ng q.1 59049 + mn_ct mn_ng q.2.1 59049 ≤ mn_ct mn_ng fso 59049 + mn_ct mn_ng fla 59049 ∧ (r = 1 → mn_ct mn_ng q.1 59049 + mn_ct mn_ng q.2.1 59049 < mn_ct mn_ng fso 59049 + mn_ct mn_ng fla 59049)) (fun q t => bs_E dC dI (va_A [(m0, .inr (6, [.ref st, .ref im, .ref kq, .ref pw, .ref nx, .ref li, .int d6, .ref il, .ref mv, .ref so, .ref la, .int d11, .int d12, .ref co])), (st, .inl (cyI, 72, .inl fs)), (pw, .inl (cyI, 11, .inl fp)), (mv, .inl (cyI, 59049, .inl mf)), (so, .inl (cyI, 59049, .inl fso)), (la, .inl (cyI, 59049, .inl fla)), (co, .inl (cyI, 10, .inl fc))] sz) [(m0, .inr (6, [.ref st, .ref im, .ref kq, .ref pw, .ref nx, .ref li, .int d6, .ref il, .ref mv, .ref so, .ref la, .int d11, .int d12, .ref co])), (st, .inl (cyI, 72, .inl fs)), (pw, .inl (cyI, 11, .inl fp)), (mv, .inl (cyI, 59049, .inl mf)), (so, .inl (cyI, 59049, .inl q.1)), (la, .inl (cyI, 59049, .inl q.2.1)), (co, .inl (cyI, 10, .inl q.2.2))] t) (va_A [(m0, .inr (6, [.ref st, .ref im, .ref kq, .ref pw, .ref nx, .ref li, .int d6, .ref il, .ref mv, .ref so, .ref la, .int d11, .int d12, .ref co])), (st, .inl (cyI, 72, .inl fs)), (pw, .inl (cyI, 11, .inl fp)), (mv, .inl (cyI, 59049, .inl mf)), (so, .inl (cyI, 59049, .inl fso)), (la, .inl (cyI, 59049, .inl fla)), (co, .inl (cyI, 10, .inl fc))] sz)) 0 0 (va_A [(m0, .inr (6, [.ref st, .ref im, .ref kq, .ref pw, .ref nx, .ref li, .int d6, .ref il, .ref mv, .ref so, .ref la, .int d11, .int d12, .ref co])), (st, .inl (cyI, 72, .inl fs)), (pw, .inl (cyI, 11, .inl fp)), (mv, .inl (cyI, 59049, .inl mf)), (so, .inl (cyI, 59049, .inl fso)), (la, .inl (cyI, 59049, .inl fla)), (co, .inl (cyI, 10, .inl fc))] sz) := by
  refine Met.ofW (cc := cX8_look) (maxL := 9) (ret := (some .boolean)) (by decide) rfl ?_
  intro p e s m args below meth c s₁ B hml hv
  obtain ⟨rfl, hsz, hB, hP, hD0⟩ := hv
  have hK := hB.1
  have hN := hB.2
  have hx := B.exec
  have hb := B.bytes
  have hr := B.returns
  have hts := atoms_spec (ws := wsX8_look) B.pre
  have hown : s.vm.findClass RX8 = some m.cls := findClass_of_methodNamed B.named
  have hlocks := B.notSynchronized
  subst hsz
  have hD := hD0.self (sz := s.heap.size)
  generalize hAe : va_A [(m0, .inr (6, [.ref st, .ref im, .ref kq, .ref pw, .ref nx, .ref li, .int d6, .ref il, .ref mv, .ref so, .ref la, .int d11, .int d12, .ref co])), (st, .inl (cyI, 72, .inl fs)), (pw, .inl (cyI, 11, .inl fp)), (mv, .inl (cyI, 59049, .inl mf)), (so, .inl (cyI, 59049, .inl fso)), (la, .inl (cyI, 59049, .inl fla)), (co, .inl (cyI, 10, .inl fc))] s.heap.size = A at hD ⊢
  have hA : ∀ q : Nat, s.heap.size ≤ q → A q := fun q h => by rw [← hAe]; exact Or.inr h
  have hS : va_S A s.heap s.heap [] := va_S.rf
  have hP : va_P (dC, dI) vwCl [(m0, .inr (6, [.ref st, .ref im, .ref kq, .ref pw, .ref nx, .ref li, .int d6, .ref il, .ref mv, .ref so, .ref la, .int d11, .int d12, .ref co])), (st, .inl (cyI, 72, .inl fs)), (pw, .inl (cyI, 11, .inl fp)), (mv, .inl (cyI, 59049, .inl mf)), (so, .inl (cyI, 59049, .inl fso)), (la, .inl (cyI, 59049, .inl fla)), (co, .inl (cyI, 10, .inl fc))] s.heap := hP
  have hl := lv_entry ([.ref m0, .int (nI cv), .int p2, .int (nI r9)]) (n := 9) (Nat.le_of_ble_eq_true rfl)
  rw [lg_entry_eq]
  generalize (lg_sl ([.ref m0, .int (nI cv), .int p2, .int (nI r9)]) ++ List.replicate (9 - (lg_sl ([.ref m0, .int (nI cv), .int p2, .int (nI r9)])).length) Slot.unset).toArray = ls at hl ⊢
  have hl : lv_has ls 9 [(0, .ref m0), (1, .int (nI cv)), (2, .int p2), (3, .int (nI r9))] := hl
  refine lv_aload_n hx hb dX8_look_0 rfl (lv_at hl 0 rfl) ?_
  refine lv_iload_n hx hb dX8_look_1 rfl (lv_at hl 1 rfl) ?_
  refine vp_callSi (va_Run.run (va_runV (As := [.int (nI cv)]) (rest := []) ⟨hx, hb, hml, hown, hts⟩ (mX8_movers l dC dI cyI cyZ m0 st im kq pw nx li il mv so la co d6 d11 d12 n fs fp cv mf hn3 hn h0f hp (by omega)) (cwV 1 hts gX8_look_X8_movers rfl rfl rfl (by decide +kernel) ⟨Nat.le_of_ble_eq_true rfl, Nat.le_of_ble_eq_true rfl⟩) (bs_RV hB (hP.sub (ws' := [(m0, .inr (6, [.ref st, .ref im, .ref kq, .ref pw, .ref nx, .ref li, .int d6, .ref il, .ref mv, .ref so, .ref la, .int d11, .int d12, .ref co])), (st, .inl (cyI, 72, .inl fs)), (pw, .inl (cyI, 11, .inl fp)), (mv, .inl (cyI, 59049, .inl mf))]) [0, 1, 2, 3] rfl) 0 rfl rfl) rfl rfl hl.1 rfl (lv_room (Nat.le_of_ble_eq_true rfl)) dX8_look_2 ⟨Nat.le_of_ble_eq_true rfl, Nat.le_of_ble_eq_true rfl⟩)) (fun r_1 hr_1 => ?_)
  obtain ⟨av, lav, eav⟩ := hr_1
  obtain rfl : nI av = r_1 := Eq.symm eav
  refine lv_istore (lv' := [(4, .int (nI av)), (0, .ref m0), (1, .int (nI cv)), (2, .int p2), (3, .int (nI r9))]) hx hb dX8_look_5 hl (by decide) rfl (fun ls hl => ?_)
  refine lv_iconst (v := 0) hx hb dX8_look_7 (by decide) ?_
  refine lv_istore (lv' := [(5, .int 0), (4, .int (nI av)), (0, .ref m0), (1, .int (nI cv)), (2, .int p2), (3, .int (nI r9))]) hx hb dX8_look_8 hl (by decide) rfl (fun ls hl => ?_)
  refine lv_iload hx hb dX8_look_10 (lv_at hl 1 rfl) ?_
  refine lv_if_eq (tgt := 19) hx hb dX8_look_12 (by decide) (fun c_2 => ?_) (fun c_2 => ?_)
  · skip
    have ic_2 := ci_eq (nI_toInt (n := av) (by omega)) (show Int32.toInt 0 = 0 by decide) c_2
    refine lv_iconst (v := 0) hx hb dX8_look_19 (by decide) ?_
    refine lv_istore (lv' := [(6, .int 0), (5, .int 0), (4, .int (nI av)), (0, .ref m0), (1, .int (nI cv)), (2, .int p2), (3, .int (nI r9))]) hx hb dX8_look_20 hl (by decide) rfl (fun ls hl => ?_)
    refine lv_iload hx hb dX8_look_22 (lv_at hl 2 rfl) ?_
    refine lv_ineg hx hb dX8_look_24 ?_
    refine lv_topi (fun x_3 ex_3 => ?_)
    refine lv_iload hx hb dX8_look_25 (lv_at hl 2 rfl) ?_
    refine lv_iand hx hb dX8_look_27 ?_
    refine lv_topi (fun x_4 ex_4 => ?_)
    obtain ⟨z0, hz0, ez0, dz0⟩ := mn_sub (a := av) (z := av) (Nat.le_refl av)
    have ey0 : x_4 = nI av - nI z0 := by rw [ex_4, ex_3]; exact ez0
    refine lv_istore (lv' := [(7, .int x_4), (6, .int 0), (5, .int 0), (4, .int (nI av)), (0, .ref m0), (1, .int (nI cv)), (2, .int p2), (3, .int (nI r9))]) hx hb dX8_look_28 hl (by decide) rfl (fun ls hl => ?_)
    have L30 : ∀ (n30 : Nat), ∀ (z : Nat) (x9 : Int32) (ya yb : Int32) (fc2 : Nat → Int32), (x9 = nI av - nI z) → (z ≤ av) → (x9 = 0 ∧ 1 ≤ n30 ∨ z + 2 ≤ n30) → ∀ (H : Heap) (locs : List Loc), va_P (dC, dI) vwCl [(m0, .inr (6, [.ref st, .ref im, .ref kq, .ref pw, .ref nx, .ref li, .int d6, .ref il, .ref mv, .ref so, .ref la, .int d11, .int d12, .ref co])), (st, .inl (cyI, 72, .inl fs)), (pw, .inl (cyI, 11, .inl fp)), (mv, .inl (cyI, 59049, .inl mf)), (so, .inl (cyI, 59049, .inl fso)), (la, .inl (cyI, 59049, .inl fla)), (co, .inl (cyI, 10, .inl fc2))] H → va_D A [(m0, .inr (6, [.ref st, .ref im, .ref kq, .ref pw, .ref nx, .ref li, .int d6, .ref il, .ref mv, .ref so, .ref la, .int d11, .int d12, .ref co])), (st, .inl (cyI, 72, .inl fs)), (pw, .inl (cyI, 11, .inl fp)), (mv, .inl (cyI, 59049, .inl mf)), (so, .inl (cyI, 59049, .inl fso)), (la, .inl (cyI, 59049, .inl fla)), (co, .inl (cyI, 10, .inl fc2))] → va_S A s.heap H locs → ∀ (ls : Array Slot), lv_has ls 9 [(0, .ref m0), (1, .int (nI cv)), (2, .int p2), (3, .int (nI r9)), (4, .int (nI av)), (5, .int ya), (6, .int yb), (7, .int x9)] → W p l e (headSpec wsX8_look ({ frames := 3, cells := 0, slots := 0, locals := 68 })).room s m ([.ref m0, .int (nI cv), .int p2, .int (nI r9)] : List Value).toArray below meth c H locs 0 0 (MQ below (va_Qi (S := (Nat → Int32) × (Nat → Int32) × (Nat → Int32)) (fun (r : Int32) (q : (Nat → Int32) × (Nat → Int32) × (Nat → Int32)) => (r = 0 ∨ r = 1) ∧ mn_ct mn_ng q.1 59049 + mn_ct mn_ng q.2.1 59049 ≤ mn_ct mn_ng fso 59049 + mn_ct mn_ng fla 59049 ∧ (r = 1 → mn_ct mn_ng q.1 59049 + mn_ct mn_ng q.2.1 59049 < mn_ct mn_ng fso 59049 + mn_ct mn_ng fla 59049)) (fun q t => bs_E dC dI A [(m0, .inr (6, [.ref st, .ref im, .ref kq, .ref pw, .ref nx, .ref li, .int d6, .ref il, .ref mv, .ref so, .ref la, .int d11, .int d12, .ref co])), (st, .inl (cyI, 72, .inl fs)), (pw, .inl (cyI, 11, .inl fp)), (mv, .inl (cyI, 59049, .inl mf)), (so, .inl (cyI, 59049, .inl q.1)), (la, .inl (cyI, 59049, .inl q.2.1)), (co, .inl (cyI, 10, .inl q.2.2))] t) A) ([.ref m0, .int (nI cv), .int p2, .int (nI r9)] : List Value).toArray s 0 0 A) (F0 m 30 ls []) := by
      intro n30
      induction n30 with
      | zero =>
        intro z x9 ya yb fc2 hx9 hz9 hq9 H locs hP hD hS ls hl
        exfalso
        rcases hq9 with h9 | h9; (have h8 := h9.2; omega); omega
      | succ n30 ih30 =>
        intro z x9 ya yb fc2 hx9 hz9 hq9 H locs hP hD hS ls hl
        refine lv_iload hx hb dX8_look_30 (lv_at hl 7 rfl) ?_
        refine lv_if_eq (tgt := 122) hx hb dX8_look_32 (by decide) (fun c_5 => ?_) (fun c_5 => ?_)
        · skip
          have ic_5 := ci_eq (rfl : Int32.toInt x9 = _) (show Int32.toInt 0 = 0 by decide) c_5
          refine lv_aload_n hx hb dX8_look_122 rfl (lv_at hl 0 rfl) ?_
          refine va_get (D := (dC, dI)) (ci := 6) (v := .ref so) (C := RX8) (T := TX8) (N := 14) hx hb hts hnX8_look_X8 hown hK hP 0 rfl rfl 9 (by decide) (hts (.fieldLink RX8 36 "RingMeetsModel" "soon" "[I") (by decide +kernel)) (fun _ h9 => h9) rfl dX8_look_123 ?_
          refine lv_iload_n hx hb dX8_look_126 rfl (lv_at hl 1 rfl) ?_
          refine va_iald (D := (dC, dI)) hx hb hK hP 4 0 rfl rfl (vp_in_nI (n := cv) (N := 59049) (by omega) (by omega)) dX8_look_127 ?_
          refine lv_topi (fun x_6 ex_6 => ?_)
          rw [nI_clamp (n := cv) (by omega)] at ex_6
          refine lv_if_ge (tgt := 140) hx hb dX8_look_128 (by decide) (fun c_7 => ?_) (fun c_7 => ?_)
          · skip
            have ic_7 := ci_le (show Int32.toInt 0 = 0 by decide) (rfl : Int32.toInt x_6 = _) c_7
            refine lv_iconst (v := 0) hx hb dX8_look_140 (by decide) ?_
            refine lv_istore (lv' := [(7, .int 0), (0, .ref m0), (1, .int (nI cv)), (2, .int p2), (3, .int (nI r9)), (4, .int (nI av)), (5, .int ya), (6, .int yb)]) hx hb dX8_look_141 hl (by decide) rfl (fun ls hl => ?_)
            refine lv_aload_n hx hb dX8_look_143 rfl (lv_at hl 1 rfl) ?_
            refine va_get (D := (dC, dI)) (ci := 6) (v := .ref la) (C := RX8) (T := TX8) (N := 14) hx hb hts hnX8_look_X8 hown hK hP 0 rfl rfl 10 (by decide) (hts (.fieldLink RX8 39 "RingMeetsModel" "late" "[I") (by decide +kernel)) (fun _ h9 => h9) rfl dX8_look_144 ?_
            refine lv_iload_n hx hb dX8_look_147 rfl (lv_at hl 2 rfl) ?_
            refine va_iald (D := (dC, dI)) hx hb hK hP 5 0 rfl rfl (vp_in_nI (n := cv) (N := 59049) (by omega) (by omega)) dX8_look_148 ?_
            refine lv_topi (fun x_8 ex_8 => ?_)
            rw [nI_clamp (n := cv) (by omega)] at ex_8
            refine lv_if_ge (tgt := 161) hx hb dX8_look_149 (by decide) (fun c_9 => ?_) (fun c_9 => ?_)
            · skip
              have ic_9 := ci_le (show Int32.toInt 0 = 0 by decide) (rfl : Int32.toInt x_8 = _) c_9
              refine lv_iconst (v := 0) hx hb dX8_look_161 (by decide) ?_
              refine lv_istore (lv' := [(8, .int 0), (7, .int 0), (0, .ref m0), (1, .int (nI cv)), (2, .int p2), (3, .int (nI r9)), (4, .int (nI av)), (5, .int ya), (6, .int yb)]) hx hb dX8_look_162 hl (by decide) rfl (fun ls hl => ?_)
              refine lv_aload_n hx hb dX8_look_164 rfl (lv_at hl 2 rfl) ?_
              refine va_get (D := (dC, dI)) (ci := 6) (v := .ref so) (C := RX8) (T := TX8) (N := 14) hx hb hts hnX8_look_X8 hown hK hP 0 rfl rfl 9 (by decide) (hts (.fieldLink RX8 36 "RingMeetsModel" "soon" "[I") (by decide +kernel)) (fun _ h9 => h9) rfl dX8_look_165 ?_
              refine lv_iload_n hx hb dX8_look_168 rfl (lv_at hl 3 rfl) ?_
              refine lv_iload hx hb dX8_look_169 (lv_at hl 1 rfl) ?_
              refine lv_if_eq (tgt := 178) hx hb dX8_look_171 (by decide) (fun c_10 => ?_) (fun c_10 => ?_)
              · skip
                refine lv_aload_n hx hb dX8_look_178 rfl (lv_at hl 2 rfl) ?_
                refine va_get (D := (dC, dI)) (ci := 6) (v := .ref so) (C := RX8) (T := TX8) (N := 14) hx hb hts hnX8_look_X8 hown hK hP 0 rfl rfl 9 (by decide) (hts (.fieldLink RX8 36 "RingMeetsModel" "soon" "[I") (by decide +kernel)) (fun _ h9 => h9) rfl dX8_look_179 ?_
                refine lv_iload_n hx hb dX8_look_182 rfl (lv_at hl 3 rfl) ?_
                refine va_iald (D := (dC, dI)) hx hb hK hP 4 0 rfl rfl (vp_in_nI (n := cv) (N := 59049) (by omega) (by omega)) dX8_look_183 ?_
                refine lv_topi (fun x_11 ex_11 => ?_)
                rw [nI_clamp (n := cv) (by omega)] at ex_11
                refine va_iast (D := (dC, dI)) hx hb hK hP hD hS 4 0 rfl rfl (vp_in_nI (n := cv) (N := 59049) (by omega) (by omega)) dX8_look_184 (fun H locs hP hD hS => ?_)
                obtain ⟨g_12, eg_12⟩ : ∃ y : Nat → Int32, y = upd fso (Int32.toNatClampNeg (nI cv)) x_11 := ⟨_, rfl⟩
                have hP : va_P (dC, dI) vwCl [(m0, .inr (6, [.ref st, .ref im, .ref kq, .ref pw, .ref nx, .ref li, .int d6, .ref il, .ref mv, .ref so, .ref la, .int d11, .int d12, .ref co])), (st, .inl (cyI, 72, .inl fs)), (pw, .inl (cyI, 11, .inl fp)), (mv, .inl (cyI, 59049, .inl mf)), (so, .inl (cyI, 59049, .inl g_12)), (la, .inl (cyI, 59049, .inl fla)), (co, .inl (cyI, 10, .inl fc2))] H := by rw [eg_12]; exact hP
                have hD : va_D A [(m0, .inr (6, [.ref st, .ref im, .ref kq, .ref pw, .ref nx, .ref li, .int d6, .ref il, .ref mv, .ref so, .ref la, .int d11, .int d12, .ref co])), (st, .inl (cyI, 72, .inl fs)), (pw, .inl (cyI, 11, .inl fp)), (mv, .inl (cyI, 59049, .inl mf)), (so, .inl (cyI, 59049, .inl g_12)), (la, .inl (cyI, 59049, .inl fla)), (co, .inl (cyI, 10, .inl fc2))] := by rw [eg_12]; exact hD
                rw [nI_clamp (n := cv) (by omega)] at eg_12
                have hcs : mn_ct mn_ng g_12 59049 = mn_ct mn_ng fso 59049 := mn_ct_eq hc9 eg_12 ex_11
                refine lv_aload_n hx hb dX8_look_185 rfl (lv_at hl 2 rfl) ?_
                refine va_get (D := (dC, dI)) (ci := 6) (v := .ref la) (C := RX8) (T := TX8) (N := 14) hx hb hts hnX8_look_X8 hown hK hP 0 rfl rfl 10 (by decide) (hts (.fieldLink RX8 39 "RingMeetsModel" "late" "[I") (by decide +kernel)) (fun _ h9 => h9) rfl dX8_look_186 ?_
                refine lv_iload_n hx hb dX8_look_189 rfl (lv_at hl 3 rfl) ?_
                refine lv_iload hx hb dX8_look_190 (lv_at hl 0 rfl) ?_
                refine lv_if_eq (tgt := 199) hx hb dX8_look_192 (by decide) (fun c_13 => ?_) (fun c_13 => ?_)
                · skip
                  refine lv_aload_n hx hb dX8_look_199 rfl (lv_at hl 2 rfl) ?_
                  refine va_get (D := (dC, dI)) (ci := 6) (v := .ref la) (C := RX8) (T := TX8) (N := 14) hx hb hts hnX8_look_X8 hown hK hP 0 rfl rfl 10 (by decide) (hts (.fieldLink RX8 39 "RingMeetsModel" "late" "[I") (by decide +kernel)) (fun _ h9 => h9) rfl dX8_look_200 ?_
                  refine lv_iload_n hx hb dX8_look_203 rfl (lv_at hl 3 rfl) ?_
                  refine va_iald (D := (dC, dI)) hx hb hK hP 5 0 rfl rfl (vp_in_nI (n := cv) (N := 59049) (by omega) (by omega)) dX8_look_204 ?_
                  refine lv_topi (fun x_14 ex_14 => ?_)
                  rw [nI_clamp (n := cv) (by omega)] at ex_14
                  refine va_iast (D := (dC, dI)) hx hb hK hP hD hS 5 0 rfl rfl (vp_in_nI (n := cv) (N := 59049) (by omega) (by omega)) dX8_look_205 (fun H locs hP hD hS => ?_)
                  obtain ⟨g_15, eg_15⟩ : ∃ y : Nat → Int32, y = upd fla (Int32.toNatClampNeg (nI cv)) x_14 := ⟨_, rfl⟩
                  have hP : va_P (dC, dI) vwCl [(m0, .inr (6, [.ref st, .ref im, .ref kq, .ref pw, .ref nx, .ref li, .int d6, .ref il, .ref mv, .ref so, .ref la, .int d11, .int d12, .ref co])), (st, .inl (cyI, 72, .inl fs)), (pw, .inl (cyI, 11, .inl fp)), (mv, .inl (cyI, 59049, .inl mf)), (so, .inl (cyI, 59049, .inl g_12)), (la, .inl (cyI, 59049, .inl g_15)), (co, .inl (cyI, 10, .inl fc2))] H := by rw [eg_15]; exact hP
                  have hD : va_D A [(m0, .inr (6, [.ref st, .ref im, .ref kq, .ref pw, .ref nx, .ref li, .int d6, .ref il, .ref mv, .ref so, .ref la, .int d11, .int d12, .ref co])), (st, .inl (cyI, 72, .inl fs)), (pw, .inl (cyI, 11, .inl fp)), (mv, .inl (cyI, 59049, .inl mf)), (so, .inl (cyI, 59049, .inl g_12)), (la, .inl (cyI, 59049, .inl g_15)), (co, .inl (cyI, 10, .inl fc2))] := by rw [eg_15]; exact hD
                  rw [nI_clamp (n := cv) (by omega)] at eg_15
                  have hcl : mn_ct mn_ng g_15 59049 = mn_ct mn_ng fla 59049 := mn_ct_eq hc9 eg_15 ex_14
                  refine lv_iload hx hb dX8_look_206 (lv_at hl 1 rfl) ?_
                  refine lv_if_ne (tgt := 216) hx hb dX8_look_208 (by decide) (fun c_16 => ?_) (fun c_16 => ?_)
                  · skip
                    exact absurd c_16 (by decide)
                  · skip
                    refine lv_iload hx hb dX8_look_211 (lv_at hl 0 rfl) ?_
                    refine lv_if_eq (tgt := 220) hx hb dX8_look_213 (by decide) (fun c_17 => ?_) (fun c_17 => ?_)
                    · skip
                      refine lv_iconst (v := 0) hx hb dX8_look_220 (by decide) ?_
                      exact W.zret (v := 0) hx hb hr (show narrow .boolean (.int 0) = .int 0 from rfl) (fun t ht hW => ⟨⟨0, (g_12, g_15, fc2), rfl, ⟨Or.inl rfl, show mn_ct mn_ng g_12 59049 + mn_ct mn_ng g_15 59049 ≤ mn_ct mn_ng fso 59049 + mn_ct mn_ng fla 59049 by omega, fun q => absurd q (by decide)⟩, ⟨by rw [ht]; exact hP.sub (ws' := [(m0, .inr (6, [.ref st, .ref im, .ref kq, .ref pw, .ref nx, .ref li, .int d6, .ref il, .ref mv, .ref so, .ref la, .int d11, .int d12, .ref co])), (st, .inl (cyI, 72, .inl fs)), (pw, .inl (cyI, 11, .inl fp)), (mv, .inl (cyI, 59049, .inl mf)), (so, .inl (cyI, 59049, .inl g_12)), (la, .inl (cyI, 59049, .inl g_15)), (co, .inl (cyI, 10, .inl fc2))]) [0, 1, 2, 3, 4, 5, 6] rfl, hD.sub (ws' := [(m0, .inr (6, [.ref st, .ref im, .ref kq, .ref pw, .ref nx, .ref li, .int d6, .ref il, .ref mv, .ref so, .ref la, .int d11, .int d12, .ref co])), (st, .inl (cyI, 72, .inl fs)), (pw, .inl (cyI, 11, .inl fp)), (mv, .inl (cyI, 59049, .inl mf)), (so, .inl (cyI, 59049, .inl g_12)), (la, .inl (cyI, 59049, .inl g_15)), (co, .inl (cyI, 10, .inl fc2))]) [0, 1, 2, 3, 4, 5, 6] (by decide) rfl⟩⟩, hS.F ht⟩) hS.2.2 dX8_look_221
                    · skip
                      exact absurd c_17 (by decide)
                · skip
                  exact absurd c_13 (by decide)
              · skip
                exact absurd c_10 (by decide)
            · skip
              have ic_9 := ci_nle (show Int32.toInt 0 = 0 by decide) (rfl : Int32.toInt x_8 = _) c_9
              refine lv_iload hx hb dX8_look_152 (lv_at hl 7 rfl) ?_
              refine lv_if_eq (tgt := 161) hx hb dX8_look_154 (by decide) (fun c_18 => ?_) (fun c_18 => ?_)
              · skip
                have ic_18 := ci_eq (rfl : Int32.toInt yb = _) (show Int32.toInt 0 = 0 by decide) c_18
                refine lv_iconst (v := 0) hx hb dX8_look_161 (by decide) ?_
                refine lv_istore (lv' := [(8, .int 0), (7, .int 0), (0, .ref m0), (1, .int (nI cv)), (2, .int p2), (3, .int (nI r9)), (4, .int (nI av)), (5, .int ya), (6, .int yb)]) hx hb dX8_look_162 hl (by decide) rfl (fun ls hl => ?_)
                refine lv_aload_n hx hb dX8_look_164 rfl (lv_at hl 2 rfl) ?_
                refine va_get (D := (dC, dI)) (ci := 6) (v := .ref so) (C := RX8) (T := TX8) (N := 14) hx hb hts hnX8_look_X8 hown hK hP 0 rfl rfl 9 (by decide) (hts (.fieldLink RX8 36 "RingMeetsModel" "soon" "[I") (by decide +kernel)) (fun _ h9 => h9) rfl dX8_look_165 ?_
                refine lv_iload_n hx hb dX8_look_168 rfl (lv_at hl 3 rfl) ?_
                refine lv_iload hx hb dX8_look_169 (lv_at hl 1 rfl) ?_
                refine lv_if_eq (tgt := 178) hx hb dX8_look_171 (by decide) (fun c_19 => ?_) (fun c_19 => ?_)
                · skip
                  refine lv_aload_n hx hb dX8_look_178 rfl (lv_at hl 2 rfl) ?_
                  refine va_get (D := (dC, dI)) (ci := 6) (v := .ref so) (C := RX8) (T := TX8) (N := 14) hx hb hts hnX8_look_X8 hown hK hP 0 rfl rfl 9 (by decide) (hts (.fieldLink RX8 36 "RingMeetsModel" "soon" "[I") (by decide +kernel)) (fun _ h9 => h9) rfl dX8_look_179 ?_
                  refine lv_iload_n hx hb dX8_look_182 rfl (lv_at hl 3 rfl) ?_
                  refine va_iald (D := (dC, dI)) hx hb hK hP 4 0 rfl rfl (vp_in_nI (n := cv) (N := 59049) (by omega) (by omega)) dX8_look_183 ?_
                  refine lv_topi (fun x_20 ex_20 => ?_)
                  rw [nI_clamp (n := cv) (by omega)] at ex_20
                  refine va_iast (D := (dC, dI)) hx hb hK hP hD hS 4 0 rfl rfl (vp_in_nI (n := cv) (N := 59049) (by omega) (by omega)) dX8_look_184 (fun H locs hP hD hS => ?_)
                  obtain ⟨g_21, eg_21⟩ : ∃ y : Nat → Int32, y = upd fso (Int32.toNatClampNeg (nI cv)) x_20 := ⟨_, rfl⟩
                  have hP : va_P (dC, dI) vwCl [(m0, .inr (6, [.ref st, .ref im, .ref kq, .ref pw, .ref nx, .ref li, .int d6, .ref il, .ref mv, .ref so, .ref la, .int d11, .int d12, .ref co])), (st, .inl (cyI, 72, .inl fs)), (pw, .inl (cyI, 11, .inl fp)), (mv, .inl (cyI, 59049, .inl mf)), (so, .inl (cyI, 59049, .inl g_21)), (la, .inl (cyI, 59049, .inl fla)), (co, .inl (cyI, 10, .inl fc2))] H := by rw [eg_21]; exact hP
                  have hD : va_D A [(m0, .inr (6, [.ref st, .ref im, .ref kq, .ref pw, .ref nx, .ref li, .int d6, .ref il, .ref mv, .ref so, .ref la, .int d11, .int d12, .ref co])), (st, .inl (cyI, 72, .inl fs)), (pw, .inl (cyI, 11, .inl fp)), (mv, .inl (cyI, 59049, .inl mf)), (so, .inl (cyI, 59049, .inl g_21)), (la, .inl (cyI, 59049, .inl fla)), (co, .inl (cyI, 10, .inl fc2))] := by rw [eg_21]; exact hD
                  rw [nI_clamp (n := cv) (by omega)] at eg_21
                  have hcs : mn_ct mn_ng g_21 59049 = mn_ct mn_ng fso 59049 := mn_ct_eq hc9 eg_21 ex_20
                  refine lv_aload_n hx hb dX8_look_185 rfl (lv_at hl 2 rfl) ?_
                  refine va_get (D := (dC, dI)) (ci := 6) (v := .ref la) (C := RX8) (T := TX8) (N := 14) hx hb hts hnX8_look_X8 hown hK hP 0 rfl rfl 10 (by decide) (hts (.fieldLink RX8 39 "RingMeetsModel" "late" "[I") (by decide +kernel)) (fun _ h9 => h9) rfl dX8_look_186 ?_
                  refine lv_iload_n hx hb dX8_look_189 rfl (lv_at hl 3 rfl) ?_
                  refine lv_iload hx hb dX8_look_190 (lv_at hl 0 rfl) ?_
                  refine lv_if_eq (tgt := 199) hx hb dX8_look_192 (by decide) (fun c_22 => ?_) (fun c_22 => ?_)
                  · skip
                    refine lv_aload_n hx hb dX8_look_199 rfl (lv_at hl 2 rfl) ?_
                    refine va_get (D := (dC, dI)) (ci := 6) (v := .ref la) (C := RX8) (T := TX8) (N := 14) hx hb hts hnX8_look_X8 hown hK hP 0 rfl rfl 10 (by decide) (hts (.fieldLink RX8 39 "RingMeetsModel" "late" "[I") (by decide +kernel)) (fun _ h9 => h9) rfl dX8_look_200 ?_
                    refine lv_iload_n hx hb dX8_look_203 rfl (lv_at hl 3 rfl) ?_
                    refine va_iald (D := (dC, dI)) hx hb hK hP 5 0 rfl rfl (vp_in_nI (n := cv) (N := 59049) (by omega) (by omega)) dX8_look_204 ?_
                    refine lv_topi (fun x_23 ex_23 => ?_)
                    rw [nI_clamp (n := cv) (by omega)] at ex_23
                    refine va_iast (D := (dC, dI)) hx hb hK hP hD hS 5 0 rfl rfl (vp_in_nI (n := cv) (N := 59049) (by omega) (by omega)) dX8_look_205 (fun H locs hP hD hS => ?_)
                    obtain ⟨g_24, eg_24⟩ : ∃ y : Nat → Int32, y = upd fla (Int32.toNatClampNeg (nI cv)) x_23 := ⟨_, rfl⟩
                    have hP : va_P (dC, dI) vwCl [(m0, .inr (6, [.ref st, .ref im, .ref kq, .ref pw, .ref nx, .ref li, .int d6, .ref il, .ref mv, .ref so, .ref la, .int d11, .int d12, .ref co])), (st, .inl (cyI, 72, .inl fs)), (pw, .inl (cyI, 11, .inl fp)), (mv, .inl (cyI, 59049, .inl mf)), (so, .inl (cyI, 59049, .inl g_21)), (la, .inl (cyI, 59049, .inl g_24)), (co, .inl (cyI, 10, .inl fc2))] H := by rw [eg_24]; exact hP
                    have hD : va_D A [(m0, .inr (6, [.ref st, .ref im, .ref kq, .ref pw, .ref nx, .ref li, .int d6, .ref il, .ref mv, .ref so, .ref la, .int d11, .int d12, .ref co])), (st, .inl (cyI, 72, .inl fs)), (pw, .inl (cyI, 11, .inl fp)), (mv, .inl (cyI, 59049, .inl mf)), (so, .inl (cyI, 59049, .inl g_21)), (la, .inl (cyI, 59049, .inl g_24)), (co, .inl (cyI, 10, .inl fc2))] := by rw [eg_24]; exact hD
                    rw [nI_clamp (n := cv) (by omega)] at eg_24
                    have hcl : mn_ct mn_ng g_24 59049 = mn_ct mn_ng fla 59049 := mn_ct_eq hc9 eg_24 ex_23
                    refine lv_iload hx hb dX8_look_206 (lv_at hl 1 rfl) ?_
                    refine lv_if_ne (tgt := 216) hx hb dX8_look_208 (by decide) (fun c_25 => ?_) (fun c_25 => ?_)
                    · skip
                      exact absurd c_25 (by decide)
                    · skip
                      refine lv_iload hx hb dX8_look_211 (lv_at hl 0 rfl) ?_
                      refine lv_if_eq (tgt := 220) hx hb dX8_look_213 (by decide) (fun c_26 => ?_) (fun c_26 => ?_)
                      · skip
                        refine lv_iconst (v := 0) hx hb dX8_look_220 (by decide) ?_
                        exact W.zret (v := 0) hx hb hr (show narrow .boolean (.int 0) = .int 0 from rfl) (fun t ht hW => ⟨⟨0, (g_21, g_24, fc2), rfl, ⟨Or.inl rfl, show mn_ct mn_ng g_21 59049 + mn_ct mn_ng g_24 59049 ≤ mn_ct mn_ng fso 59049 + mn_ct mn_ng fla 59049 by omega, fun q => absurd q (by decide)⟩, ⟨by rw [ht]; exact hP.sub (ws' := [(m0, .inr (6, [.ref st, .ref im, .ref kq, .ref pw, .ref nx, .ref li, .int d6, .ref il, .ref mv, .ref so, .ref la, .int d11, .int d12, .ref co])), (st, .inl (cyI, 72, .inl fs)), (pw, .inl (cyI, 11, .inl fp)), (mv, .inl (cyI, 59049, .inl mf)), (so, .inl (cyI, 59049, .inl g_21)), (la, .inl (cyI, 59049, .inl g_24)), (co, .inl (cyI, 10, .inl fc2))]) [0, 1, 2, 3, 4, 5, 6] rfl, hD.sub (ws' := [(m0, .inr (6, [.ref st, .ref im, .ref kq, .ref pw, .ref nx, .ref li, .int d6, .ref il, .ref mv, .ref so, .ref la, .int d11, .int d12, .ref co])), (st, .inl (cyI, 72, .inl fs)), (pw, .inl (cyI, 11, .inl fp)), (mv, .inl (cyI, 59049, .inl mf)), (so, .inl (cyI, 59049, .inl g_21)), (la, .inl (cyI, 59049, .inl g_24)), (co, .inl (cyI, 10, .inl fc2))]) [0, 1, 2, 3, 4, 5, 6] (by decide) rfl⟩⟩, hS.F ht⟩) hS.2.2 dX8_look_221
                      · skip
                        exact absurd c_26 (by decide)
                  · skip
                    exact absurd c_22 (by decide)
                · skip
                  exact absurd c_19 (by decide)
              · skip
                have ic_18 := ci_ne (rfl : Int32.toInt yb = _) (show Int32.toInt 0 = 0 by decide) c_18
                refine lv_iconst (v := 1) hx hb dX8_look_157 (by decide) ?_
                refine lv_goto (tgt := 162) hx hb dX8_look_158 (by decide) ?_
                refine lv_istore (lv' := [(8, .int 1), (7, .int 0), (0, .ref m0), (1, .int (nI cv)), (2, .int p2), (3, .int (nI r9)), (4, .int (nI av)), (5, .int ya), (6, .int yb)]) hx hb dX8_look_162 hl (by decide) rfl (fun ls hl => ?_)
                refine lv_aload_n hx hb dX8_look_164 rfl (lv_at hl 2 rfl) ?_
                refine va_get (D := (dC, dI)) (ci := 6) (v := .ref so) (C := RX8) (T := TX8) (N := 14) hx hb hts hnX8_look_X8 hown hK hP 0 rfl rfl 9 (by decide) (hts (.fieldLink RX8 36 "RingMeetsModel" "soon" "[I") (by decide +kernel)) (fun _ h9 => h9) rfl dX8_look_165 ?_
                refine lv_iload_n hx hb dX8_look_168 rfl (lv_at hl 3 rfl) ?_
                refine lv_iload hx hb dX8_look_169 (lv_at hl 1 rfl) ?_
                refine lv_if_eq (tgt := 178) hx hb dX8_look_171 (by decide) (fun c_27 => ?_) (fun c_27 => ?_)
                · skip
                  refine lv_aload_n hx hb dX8_look_178 rfl (lv_at hl 2 rfl) ?_
                  refine va_get (D := (dC, dI)) (ci := 6) (v := .ref so) (C := RX8) (T := TX8) (N := 14) hx hb hts hnX8_look_X8 hown hK hP 0 rfl rfl 9 (by decide) (hts (.fieldLink RX8 36 "RingMeetsModel" "soon" "[I") (by decide +kernel)) (fun _ h9 => h9) rfl dX8_look_179 ?_
                  refine lv_iload_n hx hb dX8_look_182 rfl (lv_at hl 3 rfl) ?_
                  refine va_iald (D := (dC, dI)) hx hb hK hP 4 0 rfl rfl (vp_in_nI (n := cv) (N := 59049) (by omega) (by omega)) dX8_look_183 ?_
                  refine lv_topi (fun x_28 ex_28 => ?_)
                  rw [nI_clamp (n := cv) (by omega)] at ex_28
                  refine va_iast (D := (dC, dI)) hx hb hK hP hD hS 4 0 rfl rfl (vp_in_nI (n := cv) (N := 59049) (by omega) (by omega)) dX8_look_184 (fun H locs hP hD hS => ?_)
                  obtain ⟨g_29, eg_29⟩ : ∃ y : Nat → Int32, y = upd fso (Int32.toNatClampNeg (nI cv)) x_28 := ⟨_, rfl⟩
                  have hP : va_P (dC, dI) vwCl [(m0, .inr (6, [.ref st, .ref im, .ref kq, .ref pw, .ref nx, .ref li, .int d6, .ref il, .ref mv, .ref so, .ref la, .int d11, .int d12, .ref co])), (st, .inl (cyI, 72, .inl fs)), (pw, .inl (cyI, 11, .inl fp)), (mv, .inl (cyI, 59049, .inl mf)), (so, .inl (cyI, 59049, .inl g_29)), (la, .inl (cyI, 59049, .inl fla)), (co, .inl (cyI, 10, .inl fc2))] H := by rw [eg_29]; exact hP
                  have hD : va_D A [(m0, .inr (6, [.ref st, .ref im, .ref kq, .ref pw, .ref nx, .ref li, .int d6, .ref il, .ref mv, .ref so, .ref la, .int d11, .int d12, .ref co])), (st, .inl (cyI, 72, .inl fs)), (pw, .inl (cyI, 11, .inl fp)), (mv, .inl (cyI, 59049, .inl mf)), (so, .inl (cyI, 59049, .inl g_29)), (la, .inl (cyI, 59049, .inl fla)), (co, .inl (cyI, 10, .inl fc2))] := by rw [eg_29]; exact hD
                  rw [nI_clamp (n := cv) (by omega)] at eg_29
                  have hcs : mn_ct mn_ng g_29 59049 = mn_ct mn_ng fso 59049 := mn_ct_eq hc9 eg_29 ex_28
                  refine lv_aload_n hx hb dX8_look_185 rfl (lv_at hl 2 rfl) ?_
                  refine va_get (D := (dC, dI)) (ci := 6) (v := .ref la) (C := RX8) (T := TX8) (N := 14) hx hb hts hnX8_look_X8 hown hK hP 0 rfl rfl 10 (by decide) (hts (.fieldLink RX8 39 "RingMeetsModel" "late" "[I") (by decide +kernel)) (fun _ h9 => h9) rfl dX8_look_186 ?_
                  refine lv_iload_n hx hb dX8_look_189 rfl (lv_at hl 3 rfl) ?_
                  refine lv_iload hx hb dX8_look_190 (lv_at hl 0 rfl) ?_
                  refine lv_if_eq (tgt := 199) hx hb dX8_look_192 (by decide) (fun c_30 => ?_) (fun c_30 => ?_)
                  · skip
                    exact absurd c_30 (by decide)
                  · skip
                    refine lv_iload_n hx hb dX8_look_195 rfl (lv_at hl 5 rfl) ?_
                    refine lv_goto (tgt := 205) hx hb dX8_look_196 (by decide) ?_
                    refine va_iast (D := (dC, dI)) hx hb hK hP hD hS 5 0 rfl rfl (vp_in_nI (n := cv) (N := 59049) (by omega) (by omega)) dX8_look_205 (fun H locs hP hD hS => ?_)
                    obtain ⟨g_31, eg_31⟩ : ∃ y : Nat → Int32, y = upd fla (Int32.toNatClampNeg (nI cv)) (nI r9) := ⟨_, rfl⟩
                    have hP : va_P (dC, dI) vwCl [(m0, .inr (6, [.ref st, .ref im, .ref kq, .ref pw, .ref nx, .ref li, .int d6, .ref il, .ref mv, .ref so, .ref la, .int d11, .int d12, .ref co])), (st, .inl (cyI, 72, .inl fs)), (pw, .inl (cyI, 11, .inl fp)), (mv, .inl (cyI, 59049, .inl mf)), (so, .inl (cyI, 59049, .inl g_29)), (la, .inl (cyI, 59049, .inl g_31)), (co, .inl (cyI, 10, .inl fc2))] H := by rw [eg_31]; exact hP
                    have hD : va_D A [(m0, .inr (6, [.ref st, .ref im, .ref kq, .ref pw, .ref nx, .ref li, .int d6, .ref il, .ref mv, .ref so, .ref la, .int d11, .int d12, .ref co])), (st, .inl (cyI, 72, .inl fs)), (pw, .inl (cyI, 11, .inl fp)), (mv, .inl (cyI, 59049, .inl mf)), (so, .inl (cyI, 59049, .inl g_29)), (la, .inl (cyI, 59049, .inl g_31)), (co, .inl (cyI, 10, .inl fc2))] := by rw [eg_31]; exact hD
                    rw [nI_clamp (n := cv) (by omega)] at eg_31
                    have hcl : mn_ct mn_ng g_31 59049 + 1 = mn_ct mn_ng fla 59049 := mn_ct_dn hc9 ex_8 c_9 eg_31 rfl (by omega)
                    refine lv_iload hx hb dX8_look_206 (lv_at hl 1 rfl) ?_
                    refine lv_if_ne (tgt := 216) hx hb dX8_look_208 (by decide) (fun c_32 => ?_) (fun c_32 => ?_)
                    · skip
                      exact absurd c_32 (by decide)
                    · skip
                      refine lv_iload hx hb dX8_look_211 (lv_at hl 0 rfl) ?_
                      refine lv_if_eq (tgt := 220) hx hb dX8_look_213 (by decide) (fun c_33 => ?_) (fun c_33 => ?_)
                      · skip
                        exact absurd c_33 (by decide)
                      · skip
                        refine lv_iconst (v := 1) hx hb dX8_look_216 (by decide) ?_
                        refine lv_goto (tgt := 221) hx hb dX8_look_217 (by decide) ?_
                        exact W.zret (v := 1) hx hb hr (show narrow .boolean (.int 1) = .int 1 from rfl) (fun t ht hW => ⟨⟨1, (g_29, g_31, fc2), rfl, ⟨Or.inr rfl, show mn_ct mn_ng g_29 59049 + mn_ct mn_ng g_31 59049 ≤ mn_ct mn_ng fso 59049 + mn_ct mn_ng fla 59049 by omega, fun _ => show mn_ct mn_ng g_29 59049 + mn_ct mn_ng g_31 59049 < mn_ct mn_ng fso 59049 + mn_ct mn_ng fla 59049 by omega⟩, ⟨by rw [ht]; exact hP.sub (ws' := [(m0, .inr (6, [.ref st, .ref im, .ref kq, .ref pw, .ref nx, .ref li, .int d6, .ref il, .ref mv, .ref so, .ref la, .int d11, .int d12, .ref co])), (st, .inl (cyI, 72, .inl fs)), (pw, .inl (cyI, 11, .inl fp)), (mv, .inl (cyI, 59049, .inl mf)), (so, .inl (cyI, 59049, .inl g_29)), (la, .inl (cyI, 59049, .inl g_31)), (co, .inl (cyI, 10, .inl fc2))]) [0, 1, 2, 3, 4, 5, 6] rfl, hD.sub (ws' := [(m0, .inr (6, [.ref st, .ref im, .ref kq, .ref pw, .ref nx, .ref li, .int d6, .ref il, .ref mv, .ref so, .ref la, .int d11, .int d12, .ref co])), (st, .inl (cyI, 72, .inl fs)), (pw, .inl (cyI, 11, .inl fp)), (mv, .inl (cyI, 59049, .inl mf)), (so, .inl (cyI, 59049, .inl g_29)), (la, .inl (cyI, 59049, .inl g_31)), (co, .inl (cyI, 10, .inl fc2))]) [0, 1, 2, 3, 4, 5, 6] (by decide) rfl⟩⟩, hS.F ht⟩) hS.2.2 dX8_look_221
                · skip
                  exact absurd c_27 (by decide)
          · skip
            have ic_7 := ci_nle (show Int32.toInt 0 = 0 by decide) (rfl : Int32.toInt x_6 = _) c_7
            refine lv_iload hx hb dX8_look_131 (lv_at hl 5 rfl) ?_
            refine lv_if_eq (tgt := 140) hx hb dX8_look_133 (by decide) (fun c_34 => ?_) (fun c_34 => ?_)
            · skip
              have ic_34 := ci_eq (rfl : Int32.toInt ya = _) (show Int32.toInt 0 = 0 by decide) c_34
              refine lv_iconst (v := 0) hx hb dX8_look_140 (by decide) ?_
              refine lv_istore (lv' := [(7, .int 0), (0, .ref m0), (1, .int (nI cv)), (2, .int p2), (3, .int (nI r9)), (4, .int (nI av)), (5, .int ya), (6, .int yb)]) hx hb dX8_look_141 hl (by decide) rfl (fun ls hl => ?_)
              refine lv_aload_n hx hb dX8_look_143 rfl (lv_at hl 1 rfl) ?_
              refine va_get (D := (dC, dI)) (ci := 6) (v := .ref la) (C := RX8) (T := TX8) (N := 14) hx hb hts hnX8_look_X8 hown hK hP 0 rfl rfl 10 (by decide) (hts (.fieldLink RX8 39 "RingMeetsModel" "late" "[I") (by decide +kernel)) (fun _ h9 => h9) rfl dX8_look_144 ?_
              refine lv_iload_n hx hb dX8_look_147 rfl (lv_at hl 2 rfl) ?_
              refine va_iald (D := (dC, dI)) hx hb hK hP 5 0 rfl rfl (vp_in_nI (n := cv) (N := 59049) (by omega) (by omega)) dX8_look_148 ?_
              refine lv_topi (fun x_35 ex_35 => ?_)
              rw [nI_clamp (n := cv) (by omega)] at ex_35
              refine lv_if_ge (tgt := 161) hx hb dX8_look_149 (by decide) (fun c_36 => ?_) (fun c_36 => ?_)
              · skip
                have ic_36 := ci_le (show Int32.toInt 0 = 0 by decide) (rfl : Int32.toInt x_35 = _) c_36
                refine lv_iconst (v := 0) hx hb dX8_look_161 (by decide) ?_
                refine lv_istore (lv' := [(8, .int 0), (7, .int 0), (0, .ref m0), (1, .int (nI cv)), (2, .int p2), (3, .int (nI r9)), (4, .int (nI av)), (5, .int ya), (6, .int yb)]) hx hb dX8_look_162 hl (by decide) rfl (fun ls hl => ?_)
                refine lv_aload_n hx hb dX8_look_164 rfl (lv_at hl 2 rfl) ?_
                refine va_get (D := (dC, dI)) (ci := 6) (v := .ref so) (C := RX8) (T := TX8) (N := 14) hx hb hts hnX8_look_X8 hown hK hP 0 rfl rfl 9 (by decide) (hts (.fieldLink RX8 36 "RingMeetsModel" "soon" "[I") (by decide +kernel)) (fun _ h9 => h9) rfl dX8_look_165 ?_
                refine lv_iload_n hx hb dX8_look_168 rfl (lv_at hl 3 rfl) ?_
                refine lv_iload hx hb dX8_look_169 (lv_at hl 1 rfl) ?_
                refine lv_if_eq (tgt := 178) hx hb dX8_look_171 (by decide) (fun c_37 => ?_) (fun c_37 => ?_)
                · skip
                  refine lv_aload_n hx hb dX8_look_178 rfl (lv_at hl 2 rfl) ?_
                  refine va_get (D := (dC, dI)) (ci := 6) (v := .ref so) (C := RX8) (T := TX8) (N := 14) hx hb hts hnX8_look_X8 hown hK hP 0 rfl rfl 9 (by decide) (hts (.fieldLink RX8 36 "RingMeetsModel" "soon" "[I") (by decide +kernel)) (fun _ h9 => h9) rfl dX8_look_179 ?_
                  refine lv_iload_n hx hb dX8_look_182 rfl (lv_at hl 3 rfl) ?_
                  refine va_iald (D := (dC, dI)) hx hb hK hP 4 0 rfl rfl (vp_in_nI (n := cv) (N := 59049) (by omega) (by omega)) dX8_look_183 ?_
                  refine lv_topi (fun x_38 ex_38 => ?_)
                  rw [nI_clamp (n := cv) (by omega)] at ex_38
                  refine va_iast (D := (dC, dI)) hx hb hK hP hD hS 4 0 rfl rfl (vp_in_nI (n := cv) (N := 59049) (by omega) (by omega)) dX8_look_184 (fun H locs hP hD hS => ?_)
                  obtain ⟨g_39, eg_39⟩ : ∃ y : Nat → Int32, y = upd fso (Int32.toNatClampNeg (nI cv)) x_38 := ⟨_, rfl⟩
                  have hP : va_P (dC, dI) vwCl [(m0, .inr (6, [.ref st, .ref im, .ref kq, .ref pw, .ref nx, .ref li, .int d6, .ref il, .ref mv, .ref so, .ref la, .int d11, .int d12, .ref co])), (st, .inl (cyI, 72, .inl fs)), (pw, .inl (cyI, 11, .inl fp)), (mv, .inl (cyI, 59049, .inl mf)), (so, .inl (cyI, 59049, .inl g_39)), (la, .inl (cyI, 59049, .inl fla)), (co, .inl (cyI, 10, .inl fc2))] H := by rw [eg_39]; exact hP
                  have hD : va_D A [(m0, .inr (6, [.ref st, .ref im, .ref kq, .ref pw, .ref nx, .ref li, .int d6, .ref il, .ref mv, .ref so, .ref la, .int d11, .int d12, .ref co])), (st, .inl (cyI, 72, .inl fs)), (pw, .inl (cyI, 11, .inl fp)), (mv, .inl (cyI, 59049, .inl mf)), (so, .inl (cyI, 59049, .inl g_39)), (la, .inl (cyI, 59049, .inl fla)), (co, .inl (cyI, 10, .inl fc2))] := by rw [eg_39]; exact hD
                  rw [nI_clamp (n := cv) (by omega)] at eg_39
                  have hcs : mn_ct mn_ng g_39 59049 = mn_ct mn_ng fso 59049 := mn_ct_eq hc9 eg_39 ex_38
                  refine lv_aload_n hx hb dX8_look_185 rfl (lv_at hl 2 rfl) ?_
                  refine va_get (D := (dC, dI)) (ci := 6) (v := .ref la) (C := RX8) (T := TX8) (N := 14) hx hb hts hnX8_look_X8 hown hK hP 0 rfl rfl 10 (by decide) (hts (.fieldLink RX8 39 "RingMeetsModel" "late" "[I") (by decide +kernel)) (fun _ h9 => h9) rfl dX8_look_186 ?_
                  refine lv_iload_n hx hb dX8_look_189 rfl (lv_at hl 3 rfl) ?_
                  refine lv_iload hx hb dX8_look_190 (lv_at hl 0 rfl) ?_
                  refine lv_if_eq (tgt := 199) hx hb dX8_look_192 (by decide) (fun c_40 => ?_) (fun c_40 => ?_)
                  · skip
                    refine lv_aload_n hx hb dX8_look_199 rfl (lv_at hl 2 rfl) ?_
                    refine va_get (D := (dC, dI)) (ci := 6) (v := .ref la) (C := RX8) (T := TX8) (N := 14) hx hb hts hnX8_look_X8 hown hK hP 0 rfl rfl 10 (by decide) (hts (.fieldLink RX8 39 "RingMeetsModel" "late" "[I") (by decide +kernel)) (fun _ h9 => h9) rfl dX8_look_200 ?_
                    refine lv_iload_n hx hb dX8_look_203 rfl (lv_at hl 3 rfl) ?_
                    refine va_iald (D := (dC, dI)) hx hb hK hP 5 0 rfl rfl (vp_in_nI (n := cv) (N := 59049) (by omega) (by omega)) dX8_look_204 ?_
                    refine lv_topi (fun x_41 ex_41 => ?_)
                    rw [nI_clamp (n := cv) (by omega)] at ex_41
                    refine va_iast (D := (dC, dI)) hx hb hK hP hD hS 5 0 rfl rfl (vp_in_nI (n := cv) (N := 59049) (by omega) (by omega)) dX8_look_205 (fun H locs hP hD hS => ?_)
                    obtain ⟨g_42, eg_42⟩ : ∃ y : Nat → Int32, y = upd fla (Int32.toNatClampNeg (nI cv)) x_41 := ⟨_, rfl⟩
                    have hP : va_P (dC, dI) vwCl [(m0, .inr (6, [.ref st, .ref im, .ref kq, .ref pw, .ref nx, .ref li, .int d6, .ref il, .ref mv, .ref so, .ref la, .int d11, .int d12, .ref co])), (st, .inl (cyI, 72, .inl fs)), (pw, .inl (cyI, 11, .inl fp)), (mv, .inl (cyI, 59049, .inl mf)), (so, .inl (cyI, 59049, .inl g_39)), (la, .inl (cyI, 59049, .inl g_42)), (co, .inl (cyI, 10, .inl fc2))] H := by rw [eg_42]; exact hP
                    have hD : va_D A [(m0, .inr (6, [.ref st, .ref im, .ref kq, .ref pw, .ref nx, .ref li, .int d6, .ref il, .ref mv, .ref so, .ref la, .int d11, .int d12, .ref co])), (st, .inl (cyI, 72, .inl fs)), (pw, .inl (cyI, 11, .inl fp)), (mv, .inl (cyI, 59049, .inl mf)), (so, .inl (cyI, 59049, .inl g_39)), (la, .inl (cyI, 59049, .inl g_42)), (co, .inl (cyI, 10, .inl fc2))] := by rw [eg_42]; exact hD
                    rw [nI_clamp (n := cv) (by omega)] at eg_42
                    have hcl : mn_ct mn_ng g_42 59049 = mn_ct mn_ng fla 59049 := mn_ct_eq hc9 eg_42 ex_41
                    refine lv_iload hx hb dX8_look_206 (lv_at hl 1 rfl) ?_
                    refine lv_if_ne (tgt := 216) hx hb dX8_look_208 (by decide) (fun c_43 => ?_) (fun c_43 => ?_)
                    · skip
                      exact absurd c_43 (by decide)
                    · skip
                      refine lv_iload hx hb dX8_look_211 (lv_at hl 0 rfl) ?_
                      refine lv_if_eq (tgt := 220) hx hb dX8_look_213 (by decide) (fun c_44 => ?_) (fun c_44 => ?_)
                      · skip
                        refine lv_iconst (v := 0) hx hb dX8_look_220 (by decide) ?_
                        exact W.zret (v := 0) hx hb hr (show narrow .boolean (.int 0) = .int 0 from rfl) (fun t ht hW => ⟨⟨0, (g_39, g_42, fc2), rfl, ⟨Or.inl rfl, show mn_ct mn_ng g_39 59049 + mn_ct mn_ng g_42 59049 ≤ mn_ct mn_ng fso 59049 + mn_ct mn_ng fla 59049 by omega, fun q => absurd q (by decide)⟩, ⟨by rw [ht]; exact hP.sub (ws' := [(m0, .inr (6, [.ref st, .ref im, .ref kq, .ref pw, .ref nx, .ref li, .int d6, .ref il, .ref mv, .ref so, .ref la, .int d11, .int d12, .ref co])), (st, .inl (cyI, 72, .inl fs)), (pw, .inl (cyI, 11, .inl fp)), (mv, .inl (cyI, 59049, .inl mf)), (so, .inl (cyI, 59049, .inl g_39)), (la, .inl (cyI, 59049, .inl g_42)), (co, .inl (cyI, 10, .inl fc2))]) [0, 1, 2, 3, 4, 5, 6] rfl, hD.sub (ws' := [(m0, .inr (6, [.ref st, .ref im, .ref kq, .ref pw, .ref nx, .ref li, .int d6, .ref il, .ref mv, .ref so, .ref la, .int d11, .int d12, .ref co])), (st, .inl (cyI, 72, .inl fs)), (pw, .inl (cyI, 11, .inl fp)), (mv, .inl (cyI, 59049, .inl mf)), (so, .inl (cyI, 59049, .inl g_39)), (la, .inl (cyI, 59049, .inl g_42)), (co, .inl (cyI, 10, .inl fc2))]) [0, 1, 2, 3, 4, 5, 6] (by decide) rfl⟩⟩, hS.F ht⟩) hS.2.2 dX8_look_221
                      · skip
                        exact absurd c_44 (by decide)
                  · skip
                    exact absurd c_40 (by decide)
                · skip
                  exact absurd c_37 (by decide)
              · skip
                have ic_36 := ci_nle (show Int32.toInt 0 = 0 by decide) (rfl : Int32.toInt x_35 = _) c_36
                refine lv_iload hx hb dX8_look_152 (lv_at hl 7 rfl) ?_
                refine lv_if_eq (tgt := 161) hx hb dX8_look_154 (by decide) (fun c_45 => ?_) (fun c_45 => ?_)
                · skip
                  have ic_45 := ci_eq (rfl : Int32.toInt yb = _) (show Int32.toInt 0 = 0 by decide) c_45
                  refine lv_iconst (v := 0) hx hb dX8_look_161 (by decide) ?_
                  refine lv_istore (lv' := [(8, .int 0), (7, .int 0), (0, .ref m0), (1, .int (nI cv)), (2, .int p2), (3, .int (nI r9)), (4, .int (nI av)), (5, .int ya), (6, .int yb)]) hx hb dX8_look_162 hl (by decide) rfl (fun ls hl => ?_)
                  refine lv_aload_n hx hb dX8_look_164 rfl (lv_at hl 2 rfl) ?_
                  refine va_get (D := (dC, dI)) (ci := 6) (v := .ref so) (C := RX8) (T := TX8) (N := 14) hx hb hts hnX8_look_X8 hown hK hP 0 rfl rfl 9 (by decide) (hts (.fieldLink RX8 36 "RingMeetsModel" "soon" "[I") (by decide +kernel)) (fun _ h9 => h9) rfl dX8_look_165 ?_
                  refine lv_iload_n hx hb dX8_look_168 rfl (lv_at hl 3 rfl) ?_
                  refine lv_iload hx hb dX8_look_169 (lv_at hl 1 rfl) ?_
                  refine lv_if_eq (tgt := 178) hx hb dX8_look_171 (by decide) (fun c_46 => ?_) (fun c_46 => ?_)
                  · skip
                    refine lv_aload_n hx hb dX8_look_178 rfl (lv_at hl 2 rfl) ?_
                    refine va_get (D := (dC, dI)) (ci := 6) (v := .ref so) (C := RX8) (T := TX8) (N := 14) hx hb hts hnX8_look_X8 hown hK hP 0 rfl rfl 9 (by decide) (hts (.fieldLink RX8 36 "RingMeetsModel" "soon" "[I") (by decide +kernel)) (fun _ h9 => h9) rfl dX8_look_179 ?_
                    refine lv_iload_n hx hb dX8_look_182 rfl (lv_at hl 3 rfl) ?_
                    refine va_iald (D := (dC, dI)) hx hb hK hP 4 0 rfl rfl (vp_in_nI (n := cv) (N := 59049) (by omega) (by omega)) dX8_look_183 ?_
                    refine lv_topi (fun x_47 ex_47 => ?_)
                    rw [nI_clamp (n := cv) (by omega)] at ex_47
                    refine va_iast (D := (dC, dI)) hx hb hK hP hD hS 4 0 rfl rfl (vp_in_nI (n := cv) (N := 59049) (by omega) (by omega)) dX8_look_184 (fun H locs hP hD hS => ?_)
                    obtain ⟨g_48, eg_48⟩ : ∃ y : Nat → Int32, y = upd fso (Int32.toNatClampNeg (nI cv)) x_47 := ⟨_, rfl⟩
                    have hP : va_P (dC, dI) vwCl [(m0, .inr (6, [.ref st, .ref im, .ref kq, .ref pw, .ref nx, .ref li, .int d6, .ref il, .ref mv, .ref so, .ref la, .int d11, .int d12, .ref co])), (st, .inl (cyI, 72, .inl fs)), (pw, .inl (cyI, 11, .inl fp)), (mv, .inl (cyI, 59049, .inl mf)), (so, .inl (cyI, 59049, .inl g_48)), (la, .inl (cyI, 59049, .inl fla)), (co, .inl (cyI, 10, .inl fc2))] H := by rw [eg_48]; exact hP
                    have hD : va_D A [(m0, .inr (6, [.ref st, .ref im, .ref kq, .ref pw, .ref nx, .ref li, .int d6, .ref il, .ref mv, .ref so, .ref la, .int d11, .int d12, .ref co])), (st, .inl (cyI, 72, .inl fs)), (pw, .inl (cyI, 11, .inl fp)), (mv, .inl (cyI, 59049, .inl mf)), (so, .inl (cyI, 59049, .inl g_48)), (la, .inl (cyI, 59049, .inl fla)), (co, .inl (cyI, 10, .inl fc2))] := by rw [eg_48]; exact hD
                    rw [nI_clamp (n := cv) (by omega)] at eg_48
                    have hcs : mn_ct mn_ng g_48 59049 = mn_ct mn_ng fso 59049 := mn_ct_eq hc9 eg_48 ex_47
                    refine lv_aload_n hx hb dX8_look_185 rfl (lv_at hl 2 rfl) ?_
                    refine va_get (D := (dC, dI)) (ci := 6) (v := .ref la) (C := RX8) (T := TX8) (N := 14) hx hb hts hnX8_look_X8 hown hK hP 0 rfl rfl 10 (by decide) (hts (.fieldLink RX8 39 "RingMeetsModel" "late" "[I") (by decide +kernel)) (fun _ h9 => h9) rfl dX8_look_186 ?_
                    refine lv_iload_n hx hb dX8_look_189 rfl (lv_at hl 3 rfl) ?_
                    refine lv_iload hx hb dX8_look_190 (lv_at hl 0 rfl) ?_
                    refine lv_if_eq (tgt := 199) hx hb dX8_look_192 (by decide) (fun c_49 => ?_) (fun c_49 => ?_)
                    · skip
                      refine lv_aload_n hx hb dX8_look_199 rfl (lv_at hl 2 rfl) ?_
                      refine va_get (D := (dC, dI)) (ci := 6) (v := .ref la) (C := RX8) (T := TX8) (N := 14) hx hb hts hnX8_look_X8 hown hK hP 0 rfl rfl 10 (by decide) (hts (.fieldLink RX8 39 "RingMeetsModel" "late" "[I") (by decide +kernel)) (fun _ h9 => h9) rfl dX8_look_200 ?_
                      refine lv_iload_n hx hb dX8_look_203 rfl (lv_at hl 3 rfl) ?_
                      refine va_iald (D := (dC, dI)) hx hb hK hP 5 0 rfl rfl (vp_in_nI (n := cv) (N := 59049) (by omega) (by omega)) dX8_look_204 ?_
                      refine lv_topi (fun x_50 ex_50 => ?_)
                      rw [nI_clamp (n := cv) (by omega)] at ex_50
                      refine va_iast (D := (dC, dI)) hx hb hK hP hD hS 5 0 rfl rfl (vp_in_nI (n := cv) (N := 59049) (by omega) (by omega)) dX8_look_205 (fun H locs hP hD hS => ?_)
                      obtain ⟨g_51, eg_51⟩ : ∃ y : Nat → Int32, y = upd fla (Int32.toNatClampNeg (nI cv)) x_50 := ⟨_, rfl⟩
                      have hP : va_P (dC, dI) vwCl [(m0, .inr (6, [.ref st, .ref im, .ref kq, .ref pw, .ref nx, .ref li, .int d6, .ref il, .ref mv, .ref so, .ref la, .int d11, .int d12, .ref co])), (st, .inl (cyI, 72, .inl fs)), (pw, .inl (cyI, 11, .inl fp)), (mv, .inl (cyI, 59049, .inl mf)), (so, .inl (cyI, 59049, .inl g_48)), (la, .inl (cyI, 59049, .inl g_51)), (co, .inl (cyI, 10, .inl fc2))] H := by rw [eg_51]; exact hP
                      have hD : va_D A [(m0, .inr (6, [.ref st, .ref im, .ref kq, .ref pw, .ref nx, .ref li, .int d6, .ref il, .ref mv, .ref so, .ref la, .int d11, .int d12, .ref co])), (st, .inl (cyI, 72, .inl fs)), (pw, .inl (cyI, 11, .inl fp)), (mv, .inl (cyI, 59049, .inl mf)), (so, .inl (cyI, 59049, .inl g_48)), (la, .inl (cyI, 59049, .inl g_51)), (co, .inl (cyI, 10, .inl fc2))] := by rw [eg_51]; exact hD
                      rw [nI_clamp (n := cv) (by omega)] at eg_51
                      have hcl : mn_ct mn_ng g_51 59049 = mn_ct mn_ng fla 59049 := mn_ct_eq hc9 eg_51 ex_50
                      refine lv_iload hx hb dX8_look_206 (lv_at hl 1 rfl) ?_
                      refine lv_if_ne (tgt := 216) hx hb dX8_look_208 (by decide) (fun c_52 => ?_) (fun c_52 => ?_)
                      · skip
                        exact absurd c_52 (by decide)
                      · skip
                        refine lv_iload hx hb dX8_look_211 (lv_at hl 0 rfl) ?_
                        refine lv_if_eq (tgt := 220) hx hb dX8_look_213 (by decide) (fun c_53 => ?_) (fun c_53 => ?_)
                        · skip
                          refine lv_iconst (v := 0) hx hb dX8_look_220 (by decide) ?_
                          exact W.zret (v := 0) hx hb hr (show narrow .boolean (.int 0) = .int 0 from rfl) (fun t ht hW => ⟨⟨0, (g_48, g_51, fc2), rfl, ⟨Or.inl rfl, show mn_ct mn_ng g_48 59049 + mn_ct mn_ng g_51 59049 ≤ mn_ct mn_ng fso 59049 + mn_ct mn_ng fla 59049 by omega, fun q => absurd q (by decide)⟩, ⟨by rw [ht]; exact hP.sub (ws' := [(m0, .inr (6, [.ref st, .ref im, .ref kq, .ref pw, .ref nx, .ref li, .int d6, .ref il, .ref mv, .ref so, .ref la, .int d11, .int d12, .ref co])), (st, .inl (cyI, 72, .inl fs)), (pw, .inl (cyI, 11, .inl fp)), (mv, .inl (cyI, 59049, .inl mf)), (so, .inl (cyI, 59049, .inl g_48)), (la, .inl (cyI, 59049, .inl g_51)), (co, .inl (cyI, 10, .inl fc2))]) [0, 1, 2, 3, 4, 5, 6] rfl, hD.sub (ws' := [(m0, .inr (6, [.ref st, .ref im, .ref kq, .ref pw, .ref nx, .ref li, .int d6, .ref il, .ref mv, .ref so, .ref la, .int d11, .int d12, .ref co])), (st, .inl (cyI, 72, .inl fs)), (pw, .inl (cyI, 11, .inl fp)), (mv, .inl (cyI, 59049, .inl mf)), (so, .inl (cyI, 59049, .inl g_48)), (la, .inl (cyI, 59049, .inl g_51)), (co, .inl (cyI, 10, .inl fc2))]) [0, 1, 2, 3, 4, 5, 6] (by decide) rfl⟩⟩, hS.F ht⟩) hS.2.2 dX8_look_221
                        · skip
                          exact absurd c_53 (by decide)
                    · skip
                      exact absurd c_49 (by decide)
                  · skip
                    exact absurd c_46 (by decide)
                · skip
                  have ic_45 := ci_ne (rfl : Int32.toInt yb = _) (show Int32.toInt 0 = 0 by decide) c_45
                  refine lv_iconst (v := 1) hx hb dX8_look_157 (by decide) ?_
                  refine lv_goto (tgt := 162) hx hb dX8_look_158 (by decide) ?_
                  refine lv_istore (lv' := [(8, .int 1), (7, .int 0), (0, .ref m0), (1, .int (nI cv)), (2, .int p2), (3, .int (nI r9)), (4, .int (nI av)), (5, .int ya), (6, .int yb)]) hx hb dX8_look_162 hl (by decide) rfl (fun ls hl => ?_)
                  refine lv_aload_n hx hb dX8_look_164 rfl (lv_at hl 2 rfl) ?_
                  refine va_get (D := (dC, dI)) (ci := 6) (v := .ref so) (C := RX8) (T := TX8) (N := 14) hx hb hts hnX8_look_X8 hown hK hP 0 rfl rfl 9 (by decide) (hts (.fieldLink RX8 36 "RingMeetsModel" "soon" "[I") (by decide +kernel)) (fun _ h9 => h9) rfl dX8_look_165 ?_
                  refine lv_iload_n hx hb dX8_look_168 rfl (lv_at hl 3 rfl) ?_
                  refine lv_iload hx hb dX8_look_169 (lv_at hl 1 rfl) ?_
                  refine lv_if_eq (tgt := 178) hx hb dX8_look_171 (by decide) (fun c_54 => ?_) (fun c_54 => ?_)
                  · skip
                    refine lv_aload_n hx hb dX8_look_178 rfl (lv_at hl 2 rfl) ?_
                    refine va_get (D := (dC, dI)) (ci := 6) (v := .ref so) (C := RX8) (T := TX8) (N := 14) hx hb hts hnX8_look_X8 hown hK hP 0 rfl rfl 9 (by decide) (hts (.fieldLink RX8 36 "RingMeetsModel" "soon" "[I") (by decide +kernel)) (fun _ h9 => h9) rfl dX8_look_179 ?_
                    refine lv_iload_n hx hb dX8_look_182 rfl (lv_at hl 3 rfl) ?_
                    refine va_iald (D := (dC, dI)) hx hb hK hP 4 0 rfl rfl (vp_in_nI (n := cv) (N := 59049) (by omega) (by omega)) dX8_look_183 ?_
                    refine lv_topi (fun x_55 ex_55 => ?_)
                    rw [nI_clamp (n := cv) (by omega)] at ex_55
                    refine va_iast (D := (dC, dI)) hx hb hK hP hD hS 4 0 rfl rfl (vp_in_nI (n := cv) (N := 59049) (by omega) (by omega)) dX8_look_184 (fun H locs hP hD hS => ?_)
                    obtain ⟨g_56, eg_56⟩ : ∃ y : Nat → Int32, y = upd fso (Int32.toNatClampNeg (nI cv)) x_55 := ⟨_, rfl⟩
                    have hP : va_P (dC, dI) vwCl [(m0, .inr (6, [.ref st, .ref im, .ref kq, .ref pw, .ref nx, .ref li, .int d6, .ref il, .ref mv, .ref so, .ref la, .int d11, .int d12, .ref co])), (st, .inl (cyI, 72, .inl fs)), (pw, .inl (cyI, 11, .inl fp)), (mv, .inl (cyI, 59049, .inl mf)), (so, .inl (cyI, 59049, .inl g_56)), (la, .inl (cyI, 59049, .inl fla)), (co, .inl (cyI, 10, .inl fc2))] H := by rw [eg_56]; exact hP
                    have hD : va_D A [(m0, .inr (6, [.ref st, .ref im, .ref kq, .ref pw, .ref nx, .ref li, .int d6, .ref il, .ref mv, .ref so, .ref la, .int d11, .int d12, .ref co])), (st, .inl (cyI, 72, .inl fs)), (pw, .inl (cyI, 11, .inl fp)), (mv, .inl (cyI, 59049, .inl mf)), (so, .inl (cyI, 59049, .inl g_56)), (la, .inl (cyI, 59049, .inl fla)), (co, .inl (cyI, 10, .inl fc2))] := by rw [eg_56]; exact hD
                    rw [nI_clamp (n := cv) (by omega)] at eg_56
                    have hcs : mn_ct mn_ng g_56 59049 = mn_ct mn_ng fso 59049 := mn_ct_eq hc9 eg_56 ex_55
                    refine lv_aload_n hx hb dX8_look_185 rfl (lv_at hl 2 rfl) ?_
                    refine va_get (D := (dC, dI)) (ci := 6) (v := .ref la) (C := RX8) (T := TX8) (N := 14) hx hb hts hnX8_look_X8 hown hK hP 0 rfl rfl 10 (by decide) (hts (.fieldLink RX8 39 "RingMeetsModel" "late" "[I") (by decide +kernel)) (fun _ h9 => h9) rfl dX8_look_186 ?_
                    refine lv_iload_n hx hb dX8_look_189 rfl (lv_at hl 3 rfl) ?_
                    refine lv_iload hx hb dX8_look_190 (lv_at hl 0 rfl) ?_
                    refine lv_if_eq (tgt := 199) hx hb dX8_look_192 (by decide) (fun c_57 => ?_) (fun c_57 => ?_)
                    · skip
                      exact absurd c_57 (by decide)
                    · skip
                      refine lv_iload_n hx hb dX8_look_195 rfl (lv_at hl 5 rfl) ?_
                      refine lv_goto (tgt := 205) hx hb dX8_look_196 (by decide) ?_
                      refine va_iast (D := (dC, dI)) hx hb hK hP hD hS 5 0 rfl rfl (vp_in_nI (n := cv) (N := 59049) (by omega) (by omega)) dX8_look_205 (fun H locs hP hD hS => ?_)
                      obtain ⟨g_58, eg_58⟩ : ∃ y : Nat → Int32, y = upd fla (Int32.toNatClampNeg (nI cv)) (nI r9) := ⟨_, rfl⟩
                      have hP : va_P (dC, dI) vwCl [(m0, .inr (6, [.ref st, .ref im, .ref kq, .ref pw, .ref nx, .ref li, .int d6, .ref il, .ref mv, .ref so, .ref la, .int d11, .int d12, .ref co])), (st, .inl (cyI, 72, .inl fs)), (pw, .inl (cyI, 11, .inl fp)), (mv, .inl (cyI, 59049, .inl mf)), (so, .inl (cyI, 59049, .inl g_56)), (la, .inl (cyI, 59049, .inl g_58)), (co, .inl (cyI, 10, .inl fc2))] H := by rw [eg_58]; exact hP
                      have hD : va_D A [(m0, .inr (6, [.ref st, .ref im, .ref kq, .ref pw, .ref nx, .ref li, .int d6, .ref il, .ref mv, .ref so, .ref la, .int d11, .int d12, .ref co])), (st, .inl (cyI, 72, .inl fs)), (pw, .inl (cyI, 11, .inl fp)), (mv, .inl (cyI, 59049, .inl mf)), (so, .inl (cyI, 59049, .inl g_56)), (la, .inl (cyI, 59049, .inl g_58)), (co, .inl (cyI, 10, .inl fc2))] := by rw [eg_58]; exact hD
                      rw [nI_clamp (n := cv) (by omega)] at eg_58
                      have hcl : mn_ct mn_ng g_58 59049 + 1 = mn_ct mn_ng fla 59049 := mn_ct_dn hc9 ex_35 c_36 eg_58 rfl (by omega)
                      refine lv_iload hx hb dX8_look_206 (lv_at hl 1 rfl) ?_
                      refine lv_if_ne (tgt := 216) hx hb dX8_look_208 (by decide) (fun c_59 => ?_) (fun c_59 => ?_)
                      · skip
                        exact absurd c_59 (by decide)
                      · skip
                        refine lv_iload hx hb dX8_look_211 (lv_at hl 0 rfl) ?_
                        refine lv_if_eq (tgt := 220) hx hb dX8_look_213 (by decide) (fun c_60 => ?_) (fun c_60 => ?_)
                        · skip
                          exact absurd c_60 (by decide)
                        · skip
                          refine lv_iconst (v := 1) hx hb dX8_look_216 (by decide) ?_
                          refine lv_goto (tgt := 221) hx hb dX8_look_217 (by decide) ?_
                          exact W.zret (v := 1) hx hb hr (show narrow .boolean (.int 1) = .int 1 from rfl) (fun t ht hW => ⟨⟨1, (g_56, g_58, fc2), rfl, ⟨Or.inr rfl, show mn_ct mn_ng g_56 59049 + mn_ct mn_ng g_58 59049 ≤ mn_ct mn_ng fso 59049 + mn_ct mn_ng fla 59049 by omega, fun _ => show mn_ct mn_ng g_56 59049 + mn_ct mn_ng g_58 59049 < mn_ct mn_ng fso 59049 + mn_ct mn_ng fla 59049 by omega⟩, ⟨by rw [ht]; exact hP.sub (ws' := [(m0, .inr (6, [.ref st, .ref im, .ref kq, .ref pw, .ref nx, .ref li, .int d6, .ref il, .ref mv, .ref so, .ref la, .int d11, .int d12, .ref co])), (st, .inl (cyI, 72, .inl fs)), (pw, .inl (cyI, 11, .inl fp)), (mv, .inl (cyI, 59049, .inl mf)), (so, .inl (cyI, 59049, .inl g_56)), (la, .inl (cyI, 59049, .inl g_58)), (co, .inl (cyI, 10, .inl fc2))]) [0, 1, 2, 3, 4, 5, 6] rfl, hD.sub (ws' := [(m0, .inr (6, [.ref st, .ref im, .ref kq, .ref pw, .ref nx, .ref li, .int d6, .ref il, .ref mv, .ref so, .ref la, .int d11, .int d12, .ref co])), (st, .inl (cyI, 72, .inl fs)), (pw, .inl (cyI, 11, .inl fp)), (mv, .inl (cyI, 59049, .inl mf)), (so, .inl (cyI, 59049, .inl g_56)), (la, .inl (cyI, 59049, .inl g_58)), (co, .inl (cyI, 10, .inl fc2))]) [0, 1, 2, 3, 4, 5, 6] (by decide) rfl⟩⟩, hS.F ht⟩) hS.2.2 dX8_look_221
                  · skip
                    exact absurd c_54 (by decide)
            · skip
              have ic_34 := ci_ne (rfl : Int32.toInt ya = _) (show Int32.toInt 0 = 0 by decide) c_34
              refine lv_iconst (v := 1) hx hb dX8_look_136 (by decide) ?_
              refine lv_goto (tgt := 141) hx hb dX8_look_137 (by decide) ?_
              refine lv_istore (lv' := [(7, .int 1), (0, .ref m0), (1, .int (nI cv)), (2, .int p2), (3, .int (nI r9)), (4, .int (nI av)), (5, .int ya), (6, .int yb)]) hx hb dX8_look_141 hl (by decide) rfl (fun ls hl => ?_)
              refine lv_aload_n hx hb dX8_look_143 rfl (lv_at hl 1 rfl) ?_
              refine va_get (D := (dC, dI)) (ci := 6) (v := .ref la) (C := RX8) (T := TX8) (N := 14) hx hb hts hnX8_look_X8 hown hK hP 0 rfl rfl 10 (by decide) (hts (.fieldLink RX8 39 "RingMeetsModel" "late" "[I") (by decide +kernel)) (fun _ h9 => h9) rfl dX8_look_144 ?_
              refine lv_iload_n hx hb dX8_look_147 rfl (lv_at hl 2 rfl) ?_
              refine va_iald (D := (dC, dI)) hx hb hK hP 5 0 rfl rfl (vp_in_nI (n := cv) (N := 59049) (by omega) (by omega)) dX8_look_148 ?_
              refine lv_topi (fun x_61 ex_61 => ?_)
              rw [nI_clamp (n := cv) (by omega)] at ex_61
              refine lv_if_ge (tgt := 161) hx hb dX8_look_149 (by decide) (fun c_62 => ?_) (fun c_62 => ?_)
              · skip
                have ic_62 := ci_le (show Int32.toInt 0 = 0 by decide) (rfl : Int32.toInt x_61 = _) c_62
                refine lv_iconst (v := 0) hx hb dX8_look_161 (by decide) ?_
                refine lv_istore (lv' := [(8, .int 0), (7, .int 1), (0, .ref m0), (1, .int (nI cv)), (2, .int p2), (3, .int (nI r9)), (4, .int (nI av)), (5, .int ya), (6, .int yb)]) hx hb dX8_look_162 hl (by decide) rfl (fun ls hl => ?_)
                refine lv_aload_n hx hb dX8_look_164 rfl (lv_at hl 2 rfl) ?_
                refine va_get (D := (dC, dI)) (ci := 6) (v := .ref so) (C := RX8) (T := TX8) (N := 14) hx hb hts hnX8_look_X8 hown hK hP 0 rfl rfl 9 (by decide) (hts (.fieldLink RX8 36 "RingMeetsModel" "soon" "[I") (by decide +kernel)) (fun _ h9 => h9) rfl dX8_look_165 ?_
                refine lv_iload_n hx hb dX8_look_168 rfl (lv_at hl 3 rfl) ?_
                refine lv_iload hx hb dX8_look_169 (lv_at hl 1 rfl) ?_
                refine lv_if_eq (tgt := 178) hx hb dX8_look_171 (by decide) (fun c_63 => ?_) (fun c_63 => ?_)
                · skip
                  exact absurd c_63 (by decide)
                · skip
                  refine lv_iload_n hx hb dX8_look_174 rfl (lv_at hl 5 rfl) ?_
                  refine lv_goto (tgt := 184) hx hb dX8_look_175 (by decide) ?_
                  refine va_iast (D := (dC, dI)) hx hb hK hP hD hS 4 0 rfl rfl (vp_in_nI (n := cv) (N := 59049) (by omega) (by omega)) dX8_look_184 (fun H locs hP hD hS => ?_)
                  obtain ⟨g_64, eg_64⟩ : ∃ y : Nat → Int32, y = upd fso (Int32.toNatClampNeg (nI cv)) (nI r9) := ⟨_, rfl⟩
                  have hP : va_P (dC, dI) vwCl [(m0, .inr (6, [.ref st, .ref im, .ref kq, .ref pw, .ref nx, .ref li, .int d6, .ref il, .ref mv, .ref so, .ref la, .int d11, .int d12, .ref co])), (st, .inl (cyI, 72, .inl fs)), (pw, .inl (cyI, 11, .inl fp)), (mv, .inl (cyI, 59049, .inl mf)), (so, .inl (cyI, 59049, .inl g_64)), (la, .inl (cyI, 59049, .inl fla)), (co, .inl (cyI, 10, .inl fc2))] H := by rw [eg_64]; exact hP
                  have hD : va_D A [(m0, .inr (6, [.ref st, .ref im, .ref kq, .ref pw, .ref nx, .ref li, .int d6, .ref il, .ref mv, .ref so, .ref la, .int d11, .int d12, .ref co])), (st, .inl (cyI, 72, .inl fs)), (pw, .inl (cyI, 11, .inl fp)), (mv, .inl (cyI, 59049, .inl mf)), (so, .inl (cyI, 59049, .inl g_64)), (la, .inl (cyI, 59049, .inl fla)), (co, .inl (cyI, 10, .inl fc2))] := by rw [eg_64]; exact hD
                  rw [nI_clamp (n := cv) (by omega)] at eg_64
                  have hcs : mn_ct mn_ng g_64 59049 + 1 = mn_ct mn_ng fso 59049 := mn_ct_dn hc9 ex_6 c_7 eg_64 rfl (by omega)
                  refine lv_aload_n hx hb dX8_look_185 rfl (lv_at hl 2 rfl) ?_
                  refine va_get (D := (dC, dI)) (ci := 6) (v := .ref la) (C := RX8) (T := TX8) (N := 14) hx hb hts hnX8_look_X8 hown hK hP 0 rfl rfl 10 (by decide) (hts (.fieldLink RX8 39 "RingMeetsModel" "late" "[I") (by decide +kernel)) (fun _ h9 => h9) rfl dX8_look_186 ?_
                  refine lv_iload_n hx hb dX8_look_189 rfl (lv_at hl 3 rfl) ?_
                  refine lv_iload hx hb dX8_look_190 (lv_at hl 0 rfl) ?_
                  refine lv_if_eq (tgt := 199) hx hb dX8_look_192 (by decide) (fun c_65 => ?_) (fun c_65 => ?_)
                  · skip
                    refine lv_aload_n hx hb dX8_look_199 rfl (lv_at hl 2 rfl) ?_
                    refine va_get (D := (dC, dI)) (ci := 6) (v := .ref la) (C := RX8) (T := TX8) (N := 14) hx hb hts hnX8_look_X8 hown hK hP 0 rfl rfl 10 (by decide) (hts (.fieldLink RX8 39 "RingMeetsModel" "late" "[I") (by decide +kernel)) (fun _ h9 => h9) rfl dX8_look_200 ?_
                    refine lv_iload_n hx hb dX8_look_203 rfl (lv_at hl 3 rfl) ?_
                    refine va_iald (D := (dC, dI)) hx hb hK hP 5 0 rfl rfl (vp_in_nI (n := cv) (N := 59049) (by omega) (by omega)) dX8_look_204 ?_
                    refine lv_topi (fun x_66 ex_66 => ?_)
                    rw [nI_clamp (n := cv) (by omega)] at ex_66
                    refine va_iast (D := (dC, dI)) hx hb hK hP hD hS 5 0 rfl rfl (vp_in_nI (n := cv) (N := 59049) (by omega) (by omega)) dX8_look_205 (fun H locs hP hD hS => ?_)
                    obtain ⟨g_67, eg_67⟩ : ∃ y : Nat → Int32, y = upd fla (Int32.toNatClampNeg (nI cv)) x_66 := ⟨_, rfl⟩
                    have hP : va_P (dC, dI) vwCl [(m0, .inr (6, [.ref st, .ref im, .ref kq, .ref pw, .ref nx, .ref li, .int d6, .ref il, .ref mv, .ref so, .ref la, .int d11, .int d12, .ref co])), (st, .inl (cyI, 72, .inl fs)), (pw, .inl (cyI, 11, .inl fp)), (mv, .inl (cyI, 59049, .inl mf)), (so, .inl (cyI, 59049, .inl g_64)), (la, .inl (cyI, 59049, .inl g_67)), (co, .inl (cyI, 10, .inl fc2))] H := by rw [eg_67]; exact hP
                    have hD : va_D A [(m0, .inr (6, [.ref st, .ref im, .ref kq, .ref pw, .ref nx, .ref li, .int d6, .ref il, .ref mv, .ref so, .ref la, .int d11, .int d12, .ref co])), (st, .inl (cyI, 72, .inl fs)), (pw, .inl (cyI, 11, .inl fp)), (mv, .inl (cyI, 59049, .inl mf)), (so, .inl (cyI, 59049, .inl g_64)), (la, .inl (cyI, 59049, .inl g_67)), (co, .inl (cyI, 10, .inl fc2))] := by rw [eg_67]; exact hD
                    rw [nI_clamp (n := cv) (by omega)] at eg_67
                    have hcl : mn_ct mn_ng g_67 59049 = mn_ct mn_ng fla 59049 := mn_ct_eq hc9 eg_67 ex_66
                    refine lv_iload hx hb dX8_look_206 (lv_at hl 1 rfl) ?_
                    refine lv_if_ne (tgt := 216) hx hb dX8_look_208 (by decide) (fun c_68 => ?_) (fun c_68 => ?_)
                    · skip
                      refine lv_iconst (v := 1) hx hb dX8_look_216 (by decide) ?_
                      refine lv_goto (tgt := 221) hx hb dX8_look_217 (by decide) ?_
                      exact W.zret (v := 1) hx hb hr (show narrow .boolean (.int 1) = .int 1 from rfl) (fun t ht hW => ⟨⟨1, (g_64, g_67, fc2), rfl, ⟨Or.inr rfl, show mn_ct mn_ng g_64 59049 + mn_ct mn_ng g_67 59049 ≤ mn_ct mn_ng fso 59049 + mn_ct mn_ng fla 59049 by omega, fun _ => show mn_ct mn_ng g_64 59049 + mn_ct mn_ng g_67 59049 < mn_ct mn_ng fso 59049 + mn_ct mn_ng fla 59049 by omega⟩, ⟨by rw [ht]; exact hP.sub (ws' := [(m0, .inr (6, [.ref st, .ref im, .ref kq, .ref pw, .ref nx, .ref li, .int d6, .ref il, .ref mv, .ref so, .ref la, .int d11, .int d12, .ref co])), (st, .inl (cyI, 72, .inl fs)), (pw, .inl (cyI, 11, .inl fp)), (mv, .inl (cyI, 59049, .inl mf)), (so, .inl (cyI, 59049, .inl g_64)), (la, .inl (cyI, 59049, .inl g_67)), (co, .inl (cyI, 10, .inl fc2))]) [0, 1, 2, 3, 4, 5, 6] rfl, hD.sub (ws' := [(m0, .inr (6, [.ref st, .ref im, .ref kq, .ref pw, .ref nx, .ref li, .int d6, .ref il, .ref mv, .ref so, .ref la, .int d11, .int d12, .ref co])), (st, .inl (cyI, 72, .inl fs)), (pw, .inl (cyI, 11, .inl fp)), (mv, .inl (cyI, 59049, .inl mf)), (so, .inl (cyI, 59049, .inl g_64)), (la, .inl (cyI, 59049, .inl g_67)), (co, .inl (cyI, 10, .inl fc2))]) [0, 1, 2, 3, 4, 5, 6] (by decide) rfl⟩⟩, hS.F ht⟩) hS.2.2 dX8_look_221
                    · skip
                      exact absurd c_68 (by decide)
                  · skip
                    exact absurd c_65 (by decide)
              · skip
                have ic_62 := ci_nle (show Int32.toInt 0 = 0 by decide) (rfl : Int32.toInt x_61 = _) c_62
                refine lv_iload hx hb dX8_look_152 (lv_at hl 7 rfl) ?_
                refine lv_if_eq (tgt := 161) hx hb dX8_look_154 (by decide) (fun c_69 => ?_) (fun c_69 => ?_)
                · skip
                  have ic_69 := ci_eq (rfl : Int32.toInt yb = _) (show Int32.toInt 0 = 0 by decide) c_69
                  refine lv_iconst (v := 0) hx hb dX8_look_161 (by decide) ?_
                  refine lv_istore (lv' := [(8, .int 0), (7, .int 1), (0, .ref m0), (1, .int (nI cv)), (2, .int p2), (3, .int (nI r9)), (4, .int (nI av)), (5, .int ya), (6, .int yb)]) hx hb dX8_look_162 hl (by decide) rfl (fun ls hl => ?_)
                  refine lv_aload_n hx hb dX8_look_164 rfl (lv_at hl 2 rfl) ?_
                  refine va_get (D := (dC, dI)) (ci := 6) (v := .ref so) (C := RX8) (T := TX8) (N := 14) hx hb hts hnX8_look_X8 hown hK hP 0 rfl rfl 9 (by decide) (hts (.fieldLink RX8 36 "RingMeetsModel" "soon" "[I") (by decide +kernel)) (fun _ h9 => h9) rfl dX8_look_165 ?_
                  refine lv_iload_n hx hb dX8_look_168 rfl (lv_at hl 3 rfl) ?_
                  refine lv_iload hx hb dX8_look_169 (lv_at hl 1 rfl) ?_
                  refine lv_if_eq (tgt := 178) hx hb dX8_look_171 (by decide) (fun c_70 => ?_) (fun c_70 => ?_)
                  · skip
                    exact absurd c_70 (by decide)
                  · skip
                    refine lv_iload_n hx hb dX8_look_174 rfl (lv_at hl 5 rfl) ?_
                    refine lv_goto (tgt := 184) hx hb dX8_look_175 (by decide) ?_
                    refine va_iast (D := (dC, dI)) hx hb hK hP hD hS 4 0 rfl rfl (vp_in_nI (n := cv) (N := 59049) (by omega) (by omega)) dX8_look_184 (fun H locs hP hD hS => ?_)
                    obtain ⟨g_71, eg_71⟩ : ∃ y : Nat → Int32, y = upd fso (Int32.toNatClampNeg (nI cv)) (nI r9) := ⟨_, rfl⟩
                    have hP : va_P (dC, dI) vwCl [(m0, .inr (6, [.ref st, .ref im, .ref kq, .ref pw, .ref nx, .ref li, .int d6, .ref il, .ref mv, .ref so, .ref la, .int d11, .int d12, .ref co])), (st, .inl (cyI, 72, .inl fs)), (pw, .inl (cyI, 11, .inl fp)), (mv, .inl (cyI, 59049, .inl mf)), (so, .inl (cyI, 59049, .inl g_71)), (la, .inl (cyI, 59049, .inl fla)), (co, .inl (cyI, 10, .inl fc2))] H := by rw [eg_71]; exact hP
                    have hD : va_D A [(m0, .inr (6, [.ref st, .ref im, .ref kq, .ref pw, .ref nx, .ref li, .int d6, .ref il, .ref mv, .ref so, .ref la, .int d11, .int d12, .ref co])), (st, .inl (cyI, 72, .inl fs)), (pw, .inl (cyI, 11, .inl fp)), (mv, .inl (cyI, 59049, .inl mf)), (so, .inl (cyI, 59049, .inl g_71)), (la, .inl (cyI, 59049, .inl fla)), (co, .inl (cyI, 10, .inl fc2))] := by rw [eg_71]; exact hD
                    rw [nI_clamp (n := cv) (by omega)] at eg_71
                    have hcs : mn_ct mn_ng g_71 59049 + 1 = mn_ct mn_ng fso 59049 := mn_ct_dn hc9 ex_6 c_7 eg_71 rfl (by omega)
                    refine lv_aload_n hx hb dX8_look_185 rfl (lv_at hl 2 rfl) ?_
                    refine va_get (D := (dC, dI)) (ci := 6) (v := .ref la) (C := RX8) (T := TX8) (N := 14) hx hb hts hnX8_look_X8 hown hK hP 0 rfl rfl 10 (by decide) (hts (.fieldLink RX8 39 "RingMeetsModel" "late" "[I") (by decide +kernel)) (fun _ h9 => h9) rfl dX8_look_186 ?_
                    refine lv_iload_n hx hb dX8_look_189 rfl (lv_at hl 3 rfl) ?_
                    refine lv_iload hx hb dX8_look_190 (lv_at hl 0 rfl) ?_
                    refine lv_if_eq (tgt := 199) hx hb dX8_look_192 (by decide) (fun c_72 => ?_) (fun c_72 => ?_)
                    · skip
                      refine lv_aload_n hx hb dX8_look_199 rfl (lv_at hl 2 rfl) ?_
                      refine va_get (D := (dC, dI)) (ci := 6) (v := .ref la) (C := RX8) (T := TX8) (N := 14) hx hb hts hnX8_look_X8 hown hK hP 0 rfl rfl 10 (by decide) (hts (.fieldLink RX8 39 "RingMeetsModel" "late" "[I") (by decide +kernel)) (fun _ h9 => h9) rfl dX8_look_200 ?_
                      refine lv_iload_n hx hb dX8_look_203 rfl (lv_at hl 3 rfl) ?_
                      refine va_iald (D := (dC, dI)) hx hb hK hP 5 0 rfl rfl (vp_in_nI (n := cv) (N := 59049) (by omega) (by omega)) dX8_look_204 ?_
                      refine lv_topi (fun x_73 ex_73 => ?_)
                      rw [nI_clamp (n := cv) (by omega)] at ex_73
                      refine va_iast (D := (dC, dI)) hx hb hK hP hD hS 5 0 rfl rfl (vp_in_nI (n := cv) (N := 59049) (by omega) (by omega)) dX8_look_205 (fun H locs hP hD hS => ?_)
                      obtain ⟨g_74, eg_74⟩ : ∃ y : Nat → Int32, y = upd fla (Int32.toNatClampNeg (nI cv)) x_73 := ⟨_, rfl⟩
                      have hP : va_P (dC, dI) vwCl [(m0, .inr (6, [.ref st, .ref im, .ref kq, .ref pw, .ref nx, .ref li, .int d6, .ref il, .ref mv, .ref so, .ref la, .int d11, .int d12, .ref co])), (st, .inl (cyI, 72, .inl fs)), (pw, .inl (cyI, 11, .inl fp)), (mv, .inl (cyI, 59049, .inl mf)), (so, .inl (cyI, 59049, .inl g_71)), (la, .inl (cyI, 59049, .inl g_74)), (co, .inl (cyI, 10, .inl fc2))] H := by rw [eg_74]; exact hP
                      have hD : va_D A [(m0, .inr (6, [.ref st, .ref im, .ref kq, .ref pw, .ref nx, .ref li, .int d6, .ref il, .ref mv, .ref so, .ref la, .int d11, .int d12, .ref co])), (st, .inl (cyI, 72, .inl fs)), (pw, .inl (cyI, 11, .inl fp)), (mv, .inl (cyI, 59049, .inl mf)), (so, .inl (cyI, 59049, .inl g_71)), (la, .inl (cyI, 59049, .inl g_74)), (co, .inl (cyI, 10, .inl fc2))] := by rw [eg_74]; exact hD
                      rw [nI_clamp (n := cv) (by omega)] at eg_74
                      have hcl : mn_ct mn_ng g_74 59049 = mn_ct mn_ng fla 59049 := mn_ct_eq hc9 eg_74 ex_73
                      refine lv_iload hx hb dX8_look_206 (lv_at hl 1 rfl) ?_
                      refine lv_if_ne (tgt := 216) hx hb dX8_look_208 (by decide) (fun c_75 => ?_) (fun c_75 => ?_)
                      · skip
                        refine lv_iconst (v := 1) hx hb dX8_look_216 (by decide) ?_
                        refine lv_goto (tgt := 221) hx hb dX8_look_217 (by decide) ?_
                        exact W.zret (v := 1) hx hb hr (show narrow .boolean (.int 1) = .int 1 from rfl) (fun t ht hW => ⟨⟨1, (g_71, g_74, fc2), rfl, ⟨Or.inr rfl, show mn_ct mn_ng g_71 59049 + mn_ct mn_ng g_74 59049 ≤ mn_ct mn_ng fso 59049 + mn_ct mn_ng fla 59049 by omega, fun _ => show mn_ct mn_ng g_71 59049 + mn_ct mn_ng g_74 59049 < mn_ct mn_ng fso 59049 + mn_ct mn_ng fla 59049 by omega⟩, ⟨by rw [ht]; exact hP.sub (ws' := [(m0, .inr (6, [.ref st, .ref im, .ref kq, .ref pw, .ref nx, .ref li, .int d6, .ref il, .ref mv, .ref so, .ref la, .int d11, .int d12, .ref co])), (st, .inl (cyI, 72, .inl fs)), (pw, .inl (cyI, 11, .inl fp)), (mv, .inl (cyI, 59049, .inl mf)), (so, .inl (cyI, 59049, .inl g_71)), (la, .inl (cyI, 59049, .inl g_74)), (co, .inl (cyI, 10, .inl fc2))]) [0, 1, 2, 3, 4, 5, 6] rfl, hD.sub (ws' := [(m0, .inr (6, [.ref st, .ref im, .ref kq, .ref pw, .ref nx, .ref li, .int d6, .ref il, .ref mv, .ref so, .ref la, .int d11, .int d12, .ref co])), (st, .inl (cyI, 72, .inl fs)), (pw, .inl (cyI, 11, .inl fp)), (mv, .inl (cyI, 59049, .inl mf)), (so, .inl (cyI, 59049, .inl g_71)), (la, .inl (cyI, 59049, .inl g_74)), (co, .inl (cyI, 10, .inl fc2))]) [0, 1, 2, 3, 4, 5, 6] (by decide) rfl⟩⟩, hS.F ht⟩) hS.2.2 dX8_look_221
                      · skip
                        exact absurd c_75 (by decide)
                    · skip
                      exact absurd c_72 (by decide)
                · skip
                  have ic_69 := ci_ne (rfl : Int32.toInt yb = _) (show Int32.toInt 0 = 0 by decide) c_69
                  refine lv_iconst (v := 1) hx hb dX8_look_157 (by decide) ?_
                  refine lv_goto (tgt := 162) hx hb dX8_look_158 (by decide) ?_
                  refine lv_istore (lv' := [(8, .int 1), (7, .int 1), (0, .ref m0), (1, .int (nI cv)), (2, .int p2), (3, .int (nI r9)), (4, .int (nI av)), (5, .int ya), (6, .int yb)]) hx hb dX8_look_162 hl (by decide) rfl (fun ls hl => ?_)
                  refine lv_aload_n hx hb dX8_look_164 rfl (lv_at hl 2 rfl) ?_
                  refine va_get (D := (dC, dI)) (ci := 6) (v := .ref so) (C := RX8) (T := TX8) (N := 14) hx hb hts hnX8_look_X8 hown hK hP 0 rfl rfl 9 (by decide) (hts (.fieldLink RX8 36 "RingMeetsModel" "soon" "[I") (by decide +kernel)) (fun _ h9 => h9) rfl dX8_look_165 ?_
                  refine lv_iload_n hx hb dX8_look_168 rfl (lv_at hl 3 rfl) ?_
                  refine lv_iload hx hb dX8_look_169 (lv_at hl 1 rfl) ?_
                  refine lv_if_eq (tgt := 178) hx hb dX8_look_171 (by decide) (fun c_76 => ?_) (fun c_76 => ?_)
                  · skip
                    exact absurd c_76 (by decide)
                  · skip
                    refine lv_iload_n hx hb dX8_look_174 rfl (lv_at hl 5 rfl) ?_
                    refine lv_goto (tgt := 184) hx hb dX8_look_175 (by decide) ?_
                    refine va_iast (D := (dC, dI)) hx hb hK hP hD hS 4 0 rfl rfl (vp_in_nI (n := cv) (N := 59049) (by omega) (by omega)) dX8_look_184 (fun H locs hP hD hS => ?_)
                    obtain ⟨g_77, eg_77⟩ : ∃ y : Nat → Int32, y = upd fso (Int32.toNatClampNeg (nI cv)) (nI r9) := ⟨_, rfl⟩
                    have hP : va_P (dC, dI) vwCl [(m0, .inr (6, [.ref st, .ref im, .ref kq, .ref pw, .ref nx, .ref li, .int d6, .ref il, .ref mv, .ref so, .ref la, .int d11, .int d12, .ref co])), (st, .inl (cyI, 72, .inl fs)), (pw, .inl (cyI, 11, .inl fp)), (mv, .inl (cyI, 59049, .inl mf)), (so, .inl (cyI, 59049, .inl g_77)), (la, .inl (cyI, 59049, .inl fla)), (co, .inl (cyI, 10, .inl fc2))] H := by rw [eg_77]; exact hP
                    have hD : va_D A [(m0, .inr (6, [.ref st, .ref im, .ref kq, .ref pw, .ref nx, .ref li, .int d6, .ref il, .ref mv, .ref so, .ref la, .int d11, .int d12, .ref co])), (st, .inl (cyI, 72, .inl fs)), (pw, .inl (cyI, 11, .inl fp)), (mv, .inl (cyI, 59049, .inl mf)), (so, .inl (cyI, 59049, .inl g_77)), (la, .inl (cyI, 59049, .inl fla)), (co, .inl (cyI, 10, .inl fc2))] := by rw [eg_77]; exact hD
                    rw [nI_clamp (n := cv) (by omega)] at eg_77
                    have hcs : mn_ct mn_ng g_77 59049 + 1 = mn_ct mn_ng fso 59049 := mn_ct_dn hc9 ex_6 c_7 eg_77 rfl (by omega)
                    refine lv_aload_n hx hb dX8_look_185 rfl (lv_at hl 2 rfl) ?_
                    refine va_get (D := (dC, dI)) (ci := 6) (v := .ref la) (C := RX8) (T := TX8) (N := 14) hx hb hts hnX8_look_X8 hown hK hP 0 rfl rfl 10 (by decide) (hts (.fieldLink RX8 39 "RingMeetsModel" "late" "[I") (by decide +kernel)) (fun _ h9 => h9) rfl dX8_look_186 ?_
                    refine lv_iload_n hx hb dX8_look_189 rfl (lv_at hl 3 rfl) ?_
                    refine lv_iload hx hb dX8_look_190 (lv_at hl 0 rfl) ?_
                    refine lv_if_eq (tgt := 199) hx hb dX8_look_192 (by decide) (fun c_78 => ?_) (fun c_78 => ?_)
                    · skip
                      exact absurd c_78 (by decide)
                    · skip
                      refine lv_iload_n hx hb dX8_look_195 rfl (lv_at hl 5 rfl) ?_
                      refine lv_goto (tgt := 205) hx hb dX8_look_196 (by decide) ?_
                      refine va_iast (D := (dC, dI)) hx hb hK hP hD hS 5 0 rfl rfl (vp_in_nI (n := cv) (N := 59049) (by omega) (by omega)) dX8_look_205 (fun H locs hP hD hS => ?_)
                      obtain ⟨g_79, eg_79⟩ : ∃ y : Nat → Int32, y = upd fla (Int32.toNatClampNeg (nI cv)) (nI r9) := ⟨_, rfl⟩
                      have hP : va_P (dC, dI) vwCl [(m0, .inr (6, [.ref st, .ref im, .ref kq, .ref pw, .ref nx, .ref li, .int d6, .ref il, .ref mv, .ref so, .ref la, .int d11, .int d12, .ref co])), (st, .inl (cyI, 72, .inl fs)), (pw, .inl (cyI, 11, .inl fp)), (mv, .inl (cyI, 59049, .inl mf)), (so, .inl (cyI, 59049, .inl g_77)), (la, .inl (cyI, 59049, .inl g_79)), (co, .inl (cyI, 10, .inl fc2))] H := by rw [eg_79]; exact hP
                      have hD : va_D A [(m0, .inr (6, [.ref st, .ref im, .ref kq, .ref pw, .ref nx, .ref li, .int d6, .ref il, .ref mv, .ref so, .ref la, .int d11, .int d12, .ref co])), (st, .inl (cyI, 72, .inl fs)), (pw, .inl (cyI, 11, .inl fp)), (mv, .inl (cyI, 59049, .inl mf)), (so, .inl (cyI, 59049, .inl g_77)), (la, .inl (cyI, 59049, .inl g_79)), (co, .inl (cyI, 10, .inl fc2))] := by rw [eg_79]; exact hD
                      rw [nI_clamp (n := cv) (by omega)] at eg_79
                      have hcl : mn_ct mn_ng g_79 59049 + 1 = mn_ct mn_ng fla 59049 := mn_ct_dn hc9 ex_61 c_62 eg_79 rfl (by omega)
                      refine lv_iload hx hb dX8_look_206 (lv_at hl 1 rfl) ?_
                      refine lv_if_ne (tgt := 216) hx hb dX8_look_208 (by decide) (fun c_80 => ?_) (fun c_80 => ?_)
                      · skip
                        refine lv_iconst (v := 1) hx hb dX8_look_216 (by decide) ?_
                        refine lv_goto (tgt := 221) hx hb dX8_look_217 (by decide) ?_
                        exact W.zret (v := 1) hx hb hr (show narrow .boolean (.int 1) = .int 1 from rfl) (fun t ht hW => ⟨⟨1, (g_77, g_79, fc2), rfl, ⟨Or.inr rfl, show mn_ct mn_ng g_77 59049 + mn_ct mn_ng g_79 59049 ≤ mn_ct mn_ng fso 59049 + mn_ct mn_ng fla 59049 by omega, fun _ => show mn_ct mn_ng g_77 59049 + mn_ct mn_ng g_79 59049 < mn_ct mn_ng fso 59049 + mn_ct mn_ng fla 59049 by omega⟩, ⟨by rw [ht]; exact hP.sub (ws' := [(m0, .inr (6, [.ref st, .ref im, .ref kq, .ref pw, .ref nx, .ref li, .int d6, .ref il, .ref mv, .ref so, .ref la, .int d11, .int d12, .ref co])), (st, .inl (cyI, 72, .inl fs)), (pw, .inl (cyI, 11, .inl fp)), (mv, .inl (cyI, 59049, .inl mf)), (so, .inl (cyI, 59049, .inl g_77)), (la, .inl (cyI, 59049, .inl g_79)), (co, .inl (cyI, 10, .inl fc2))]) [0, 1, 2, 3, 4, 5, 6] rfl, hD.sub (ws' := [(m0, .inr (6, [.ref st, .ref im, .ref kq, .ref pw, .ref nx, .ref li, .int d6, .ref il, .ref mv, .ref so, .ref la, .int d11, .int d12, .ref co])), (st, .inl (cyI, 72, .inl fs)), (pw, .inl (cyI, 11, .inl fp)), (mv, .inl (cyI, 59049, .inl mf)), (so, .inl (cyI, 59049, .inl g_77)), (la, .inl (cyI, 59049, .inl g_79)), (co, .inl (cyI, 10, .inl fc2))]) [0, 1, 2, 3, 4, 5, 6] (by decide) rfl⟩⟩, hS.F ht⟩) hS.2.2 dX8_look_221
                      · skip
                        exact absurd c_80 (by decide)
        · skip
          have ic_5 := ci_ne (rfl : Int32.toInt x9 = _) (show Int32.toInt 0 = 0 by decide) c_5
          have hq1 : z + 2 ≤ n30 + 1 := hq9.resolve_left (fun q => c_5 q.1)
          refine lv_iload_n hx hb dX8_look_35 rfl (lv_at hl 2 rfl) ?_
          refine lv_iload hx hb dX8_look_36 (lv_at hl 7 rfl) ?_
          refine lv_iload hx hb dX8_look_38 (lv_at hl 4 rfl) ?_
          refine vp_callSi (va_Run.run (va_runS (As := [.int p2, .int x9, .int (nI av)]) (rest := []) ⟨hx, hb, hml, hown, hts⟩ (mX8_mayBe l dC dI cyI cyZ p2 x9 (nI av) ) (va_cwS 3 hts gX8_look_X8_mayBe rfl rfl rfl (by decide +kernel) ⟨Nat.le_of_ble_eq_true rfl, Nat.le_of_ble_eq_true rfl⟩) (bs_RS hB (hP.sub (ws' := []) [] rfl)) rfl rfl hl.1 rfl (lv_room (Nat.le_of_ble_eq_true rfl)) dX8_look_40 ⟨Nat.le_of_ble_eq_true rfl, Nat.le_of_ble_eq_true rfl⟩)) (fun r_81 hr_81 => ?_)
          refine lv_if_eq (tgt := 109) hx hb dX8_look_43 (by decide) (fun c_82 => ?_) (fun c_82 => ?_)
          · skip
            have ic_82 := ci_eq (rfl : Int32.toInt r_81 = _) (show Int32.toInt 0 = 0 by decide) c_82
            refine lv_iload hx hb dX8_look_109 (lv_at hl 7 rfl) ?_
            refine lv_iload hx hb dX8_look_111 (lv_at hl 4 rfl) ?_
            refine lv_isub hx hb dX8_look_113 ?_
            refine lv_topi (fun x_83 ex_83 => ?_)
            refine lv_iload hx hb dX8_look_114 (lv_at hl 4 rfl) ?_
            refine lv_iand hx hb dX8_look_116 ?_
            refine lv_topi (fun x_84 ex_84 => ?_)
            have ey1 := mn_subs hx9 ex_83 ex_84
            obtain ⟨z1, hz1, ez1, dz1⟩ := mn_sub (a := av) (z := z) hz9
            have ey2 : x_84 = nI av - nI z1 := ey1.trans ez1
            have hq2 : x_84 = 0 ∧ 1 ≤ n30 ∨ z1 + 2 ≤ n30 := dz1.elim (fun q => Or.inr (by omega)) (fun q => Or.inl ⟨ey1.trans q, by omega⟩)
            refine lv_istore (lv' := [(7, .int x_84), (0, .ref m0), (1, .int (nI cv)), (2, .int p2), (3, .int (nI r9)), (4, .int (nI av)), (5, .int ya), (6, .int yb)]) hx hb dX8_look_117 hl (by decide) rfl (fun ls hl => ?_)
            refine lv_goto (tgt := 30) hx hb dX8_look_119 (by decide) ?_
            exact ih30 z1 x_84 ya yb fc2 ey2 hz1 hq2  _ _ (hP.sub [0, 1, 2, 3, 4, 5, 6] rfl) (hD.sub [0, 1, 2, 3, 4, 5, 6] (by decide) rfl) hS _ (lv_sub hl [1, 2, 3, 4, 5, 6, 7, 0] rfl)
          · skip
            have ic_82 := ci_ne (rfl : Int32.toInt r_81 = _) (show Int32.toInt 0 = 0 by decide) c_82
            refine lv_aload_n hx hb dX8_look_46 rfl (lv_at hl 0 rfl) ?_
            refine lv_iload_n hx hb dX8_look_47 rfl (lv_at hl 1 rfl) ?_
            refine lv_iload hx hb dX8_look_48 (lv_at hl 7 rfl) ?_
            have f_85 := va_free (wc := [(m0, .inr (6, [.ref st, .ref im, .ref kq, .ref pw, .ref nx, .ref li, .int d6, .ref il, .ref mv, .ref so, .ref la, .int d11, .int d12, .ref co])), (st, .inl (cyI, 72, .inl fs)), (pw, .inl (cyI, 11, .inl fp)), (mv, .inl (cyI, 59049, .inl mf)), (co, .inl (cyI, 10, .inl fc2))]) hD hS hA [0, 1, 2, 3, 6] rfl
            refine va_calli (va_runV (As := [.int (nI cv), .int x9]) (rest := []) ⟨hx, hb, hml, hown, hts⟩ (mX8_behindStep l dC dI cyI cyZ m0 st im kq pw nx li il mv so la co d6 d11 d12 n fs fp cv mf fc2 x9 hn3 hn h0f hp (by omega) _) (cwV 2 hts gX8_look_X8_behindStep rfl rfl rfl (by decide +kernel) ⟨Nat.le_of_ble_eq_true rfl, Nat.le_of_ble_eq_true rfl⟩) (bs_WV hB (hP.sub (ws' := [(m0, .inr (6, [.ref st, .ref im, .ref kq, .ref pw, .ref nx, .ref li, .int d6, .ref il, .ref mv, .ref so, .ref la, .int d11, .int d12, .ref co])), (st, .inl (cyI, 72, .inl fs)), (pw, .inl (cyI, 11, .inl fp)), (mv, .inl (cyI, 59049, .inl mf)), (co, .inl (cyI, 10, .inl fc2))]) [0, 1, 2, 3, 6] rfl) (hD.sub (ws' := [(m0, .inr (6, [.ref st, .ref im, .ref kq, .ref pw, .ref nx, .ref li, .int d6, .ref il, .ref mv, .ref so, .ref la, .int d11, .int d12, .ref co])), (st, .inl (cyI, 72, .inl fs)), (pw, .inl (cyI, 11, .inl fp)), (mv, .inl (cyI, 59049, .inl mf)), (co, .inl (cyI, 10, .inl fc2))]) [0, 1, 2, 3, 6] (by decide) rfl) 0 rfl rfl) rfl rfl hl.1 rfl (lv_room (Nat.le_of_ble_eq_true rfl)) dX8_look_50 ⟨Nat.le_of_ble_eq_true rfl, Nat.le_of_ble_eq_true rfl⟩) hS (fun q _ h => f_85 q h) f_85 (fun rh_86 uh_86 t H1 locs ht hvm h_86 hB1 hz1 hk1 hS => ?_)
            obtain ⟨g_87, rfl⟩ : ∃ z, z = uh_86 := ⟨_, rfl⟩
            obtain ⟨hP1, hD1⟩ := hB1
            rw [ht] at hP1
            obtain ⟨hP, hD⟩ := va_join (wr := [(so, .inl (cyI, 59049, .inl fso)), (la, .inl (cyI, 59049, .inl fla))]) (w1 := [(m0, .inr (6, [.ref st, .ref im, .ref kq, .ref pw, .ref nx, .ref li, .int d6, .ref il, .ref mv, .ref so, .ref la, .int d11, .int d12, .ref co])), (st, .inl (cyI, 72, .inl fs)), (pw, .inl (cyI, 11, .inl fp)), (mv, .inl (cyI, 59049, .inl mf)), (co, .inl (cyI, 10, .inl g_87))]) hP hD [0, 1, 2, 3, 6] [4, 5] rfl rfl (by decide) (by decide) hk1 f_85 hP1 hD1
            generalize H1 = H at hP hS ⊢
            have hP : va_P (dC, dI) vwCl [(so, .inl (cyI, 59049, .inl fso)), (la, .inl (cyI, 59049, .inl fla)), (m0, .inr (6, [.ref st, .ref im, .ref kq, .ref pw, .ref nx, .ref li, .int d6, .ref il, .ref mv, .ref so, .ref la, .int d11, .int d12, .ref co])), (st, .inl (cyI, 72, .inl fs)), (pw, .inl (cyI, 11, .inl fp)), (mv, .inl (cyI, 59049, .inl mf)), (co, .inl (cyI, 10, .inl g_87))] _ := hP
            have hD : va_D A [(so, .inl (cyI, 59049, .inl fso)), (la, .inl (cyI, 59049, .inl fla)), (m0, .inr (6, [.ref st, .ref im, .ref kq, .ref pw, .ref nx, .ref li, .int d6, .ref il, .ref mv, .ref so, .ref la, .int d11, .int d12, .ref co])), (st, .inl (cyI, 72, .inl fs)), (pw, .inl (cyI, 11, .inl fp)), (mv, .inl (cyI, 59049, .inl mf)), (co, .inl (cyI, 10, .inl g_87))] := hD
            have h_86 : ∃ v : Nat, v < 3 ^ n ∧ rh_86 = nI v := h_86
            obtain ⟨v_88, lv_88, ev_88⟩ := h_86
            obtain rfl : nI v_88 = rh_86 := Eq.symm ev_88
            have hv9 := mn_c9 hn lv_88
            refine lv_istore (lv' := [(8, .int (nI v_88)), (0, .ref m0), (1, .int (nI cv)), (2, .int p2), (3, .int (nI r9)), (4, .int (nI av)), (5, .int ya), (6, .int yb), (7, .int x9)]) hx hb dX8_look_53 hl (by decide) rfl (fun ls hl => ?_)
            refine lv_iload hx hb dX8_look_55 (lv_at hl 6 rfl) ?_
            refine lv_if_ne (tgt := 73) hx hb dX8_look_57 (by decide) (fun c_89 => ?_) (fun c_89 => ?_)
            · skip
              have ic_89 := ci_ne (rfl : Int32.toInt ya = _) (show Int32.toInt 0 = 0 by decide) c_89
              refine lv_iconst (v := 1) hx hb dX8_look_73 (by decide) ?_
              refine lv_goto (tgt := 78) hx hb dX8_look_74 (by decide) ?_
              refine lv_istore (lv' := [(5, .int 1), (8, .int (nI v_88)), (0, .ref m0), (1, .int (nI cv)), (2, .int p2), (3, .int (nI r9)), (4, .int (nI av)), (6, .int yb), (7, .int x9)]) hx hb dX8_look_78 hl (by decide) rfl (fun ls hl => ?_)
              refine lv_iload hx hb dX8_look_80 (lv_at hl 7 rfl) ?_
              refine lv_if_eq (tgt := 106) hx hb dX8_look_82 (by decide) (fun c_90 => ?_) (fun c_90 => ?_)
              · skip
                have ic_90 := ci_eq (rfl : Int32.toInt yb = _) (show Int32.toInt 0 = 0 by decide) c_90
                refine lv_iconst (v := 0) hx hb dX8_look_106 (by decide) ?_
                refine lv_istore (lv' := [(6, .int 0), (5, .int 1), (8, .int (nI v_88)), (0, .ref m0), (1, .int (nI cv)), (2, .int p2), (3, .int (nI r9)), (4, .int (nI av)), (7, .int x9)]) hx hb dX8_look_107 hl (by decide) rfl (fun ls hl => ?_)
                refine lv_iload hx hb dX8_look_109 (lv_at hl 8 rfl) ?_
                refine lv_iload hx hb dX8_look_111 (lv_at hl 7 rfl) ?_
                refine lv_isub hx hb dX8_look_113 ?_
                refine lv_topi (fun x_91 ex_91 => ?_)
                refine lv_iload hx hb dX8_look_114 (lv_at hl 7 rfl) ?_
                refine lv_iand hx hb dX8_look_116 ?_
                refine lv_topi (fun x_92 ex_92 => ?_)
                have ey1 := mn_subs hx9 ex_91 ex_92
                obtain ⟨z1, hz1, ez1, dz1⟩ := mn_sub (a := av) (z := z) hz9
                have ey2 : x_92 = nI av - nI z1 := ey1.trans ez1
                have hq2 : x_92 = 0 ∧ 1 ≤ n30 ∨ z1 + 2 ≤ n30 := dz1.elim (fun q => Or.inr (by omega)) (fun q => Or.inl ⟨ey1.trans q, by omega⟩)
                refine lv_istore (lv' := [(7, .int x_92), (6, .int 0), (5, .int 1), (8, .int (nI v_88)), (0, .ref m0), (1, .int (nI cv)), (2, .int p2), (3, .int (nI r9)), (4, .int (nI av))]) hx hb dX8_look_117 hl (by decide) rfl (fun ls hl => ?_)
                refine lv_goto (tgt := 30) hx hb dX8_look_119 (by decide) ?_
                exact ih30 z1 x_92 1 0 g_87 ey2 hz1 hq2  _ _ (hP.sub [2, 3, 4, 5, 0, 1, 6] rfl) (hD.sub [2, 3, 4, 5, 0, 1, 6] (by decide) rfl) hS _ (lv_sub hl [4, 5, 6, 7, 8, 2, 1, 0] rfl)
              · skip
                have ic_90 := ci_ne (rfl : Int32.toInt yb = _) (show Int32.toInt 0 = 0 by decide) c_90
                refine lv_aload_n hx hb dX8_look_85 rfl (lv_at hl 2 rfl) ?_
                refine va_get (D := (dC, dI)) (ci := 6) (v := .ref la) (C := RX8) (T := TX8) (N := 14) hx hb hts hnX8_look_X8 hown hK hP 2 rfl rfl 10 (by decide) (hts (.fieldLink RX8 39 "RingMeetsModel" "late" "[I") (by decide +kernel)) (fun _ h9 => h9) rfl dX8_look_86 ?_
                refine lv_iload hx hb dX8_look_89 (lv_at hl 1 rfl) ?_
                refine va_iald (D := (dC, dI)) hx hb hK hP 1 0 rfl rfl (vp_in_nI (n := v_88) (N := 59049) (by omega) (by omega)) dX8_look_91 ?_
                refine lv_topi (fun x_93 ex_93 => ?_)
                rw [nI_clamp (n := v_88) (by omega)] at ex_93
                refine lv_iconst (v := 0) hx hb dX8_look_92 (by decide) ?_
                refine lv_iload_n hx hb dX8_look_93 rfl (lv_at hl 5 rfl) ?_
                refine lv_iconst (v := 1) hx hb dX8_look_94 (by decide) ?_
                refine lv_isub hx hb dX8_look_95 ?_
                refine lv_topi (fun x_94 ex_94 => ?_)
                obtain rfl : (nI (r9 - 1)) = x_94 := (ex_94.trans (nb_sub (a := r9) (b := 1) (by omega))).symm
                refine vp_callSi (va_Run.run (va_runS (As := [.int x_93, .int 0, .int (nI (r9 - 1))]) (rest := []) ⟨hx, hb, hml, hown, hts⟩ (mX8_in l dC dI cyI cyZ x_93 0 (nI (r9 - 1)) 0 (((r9 - 1) : Nat) : Int) (by decide) (nI_toInt (by omega))) (va_cwS 3 hts gX8_look_X8_in rfl rfl rfl (by decide +kernel) ⟨Nat.le_of_ble_eq_true rfl, Nat.le_of_ble_eq_true rfl⟩) (bs_RS hB (hP.sub (ws' := []) [] rfl)) rfl rfl hl.1 rfl (lv_room (Nat.le_of_ble_eq_true rfl)) dX8_look_96 ⟨Nat.le_of_ble_eq_true rfl, Nat.le_of_ble_eq_true rfl⟩)) (fun r_95 hr_95 => ?_)
                refine lv_if_eq (tgt := 106) hx hb dX8_look_99 (by decide) (fun c_96 => ?_) (fun c_96 => ?_)
                · skip
                  have ic_96 := ci_eq (rfl : Int32.toInt r_95 = _) (show Int32.toInt 0 = 0 by decide) c_96
                  refine lv_iconst (v := 0) hx hb dX8_look_106 (by decide) ?_
                  refine lv_istore (lv' := [(6, .int 0), (5, .int 1), (8, .int (nI v_88)), (0, .ref m0), (1, .int (nI cv)), (2, .int p2), (3, .int (nI r9)), (4, .int (nI av)), (7, .int x9)]) hx hb dX8_look_107 hl (by decide) rfl (fun ls hl => ?_)
                  refine lv_iload hx hb dX8_look_109 (lv_at hl 8 rfl) ?_
                  refine lv_iload hx hb dX8_look_111 (lv_at hl 7 rfl) ?_
                  refine lv_isub hx hb dX8_look_113 ?_
                  refine lv_topi (fun x_97 ex_97 => ?_)
                  refine lv_iload hx hb dX8_look_114 (lv_at hl 7 rfl) ?_
                  refine lv_iand hx hb dX8_look_116 ?_
                  refine lv_topi (fun x_98 ex_98 => ?_)
                  have ey1 := mn_subs hx9 ex_97 ex_98
                  obtain ⟨z1, hz1, ez1, dz1⟩ := mn_sub (a := av) (z := z) hz9
                  have ey2 : x_98 = nI av - nI z1 := ey1.trans ez1
                  have hq2 : x_98 = 0 ∧ 1 ≤ n30 ∨ z1 + 2 ≤ n30 := dz1.elim (fun q => Or.inr (by omega)) (fun q => Or.inl ⟨ey1.trans q, by omega⟩)
                  refine lv_istore (lv' := [(7, .int x_98), (6, .int 0), (5, .int 1), (8, .int (nI v_88)), (0, .ref m0), (1, .int (nI cv)), (2, .int p2), (3, .int (nI r9)), (4, .int (nI av))]) hx hb dX8_look_117 hl (by decide) rfl (fun ls hl => ?_)
                  refine lv_goto (tgt := 30) hx hb dX8_look_119 (by decide) ?_
                  exact ih30 z1 x_98 1 0 g_87 ey2 hz1 hq2  _ _ (hP.sub [2, 3, 4, 5, 0, 1, 6] rfl) (hD.sub [2, 3, 4, 5, 0, 1, 6] (by decide) rfl) hS _ (lv_sub hl [4, 5, 6, 7, 8, 2, 1, 0] rfl)
                · skip
                  have ic_96 := ci_ne (rfl : Int32.toInt r_95 = _) (show Int32.toInt 0 = 0 by decide) c_96
                  refine lv_iconst (v := 1) hx hb dX8_look_102 (by decide) ?_
                  refine lv_goto (tgt := 107) hx hb dX8_look_103 (by decide) ?_
                  refine lv_istore (lv' := [(6, .int 1), (5, .int 1), (8, .int (nI v_88)), (0, .ref m0), (1, .int (nI cv)), (2, .int p2), (3, .int (nI r9)), (4, .int (nI av)), (7, .int x9)]) hx hb dX8_look_107 hl (by decide) rfl (fun ls hl => ?_)
                  refine lv_iload hx hb dX8_look_109 (lv_at hl 8 rfl) ?_
                  refine lv_iload hx hb dX8_look_111 (lv_at hl 7 rfl) ?_
                  refine lv_isub hx hb dX8_look_113 ?_
                  refine lv_topi (fun x_99 ex_99 => ?_)
                  refine lv_iload hx hb dX8_look_114 (lv_at hl 7 rfl) ?_
                  refine lv_iand hx hb dX8_look_116 ?_
                  refine lv_topi (fun x_100 ex_100 => ?_)
                  have ey1 := mn_subs hx9 ex_99 ex_100
                  obtain ⟨z1, hz1, ez1, dz1⟩ := mn_sub (a := av) (z := z) hz9
                  have ey2 : x_100 = nI av - nI z1 := ey1.trans ez1
                  have hq2 : x_100 = 0 ∧ 1 ≤ n30 ∨ z1 + 2 ≤ n30 := dz1.elim (fun q => Or.inr (by omega)) (fun q => Or.inl ⟨ey1.trans q, by omega⟩)
                  refine lv_istore (lv' := [(7, .int x_100), (6, .int 1), (5, .int 1), (8, .int (nI v_88)), (0, .ref m0), (1, .int (nI cv)), (2, .int p2), (3, .int (nI r9)), (4, .int (nI av))]) hx hb dX8_look_117 hl (by decide) rfl (fun ls hl => ?_)
                  refine lv_goto (tgt := 30) hx hb dX8_look_119 (by decide) ?_
                  exact ih30 z1 x_100 1 1 g_87 ey2 hz1 hq2  _ _ (hP.sub [2, 3, 4, 5, 0, 1, 6] rfl) (hD.sub [2, 3, 4, 5, 0, 1, 6] (by decide) rfl) hS _ (lv_sub hl [4, 5, 6, 7, 8, 2, 1, 0] rfl)
            · skip
              have ic_89 := ci_eq (rfl : Int32.toInt ya = _) (show Int32.toInt 0 = 0 by decide) c_89
              refine lv_aload_n hx hb dX8_look_60 rfl (lv_at hl 1 rfl) ?_
              refine va_get (D := (dC, dI)) (ci := 6) (v := .ref so) (C := RX8) (T := TX8) (N := 14) hx hb hts hnX8_look_X8 hown hK hP 2 rfl rfl 9 (by decide) (hts (.fieldLink RX8 36 "RingMeetsModel" "soon" "[I") (by decide +kernel)) (fun _ h9 => h9) rfl dX8_look_61 ?_
              refine lv_iload hx hb dX8_look_64 (lv_at hl 0 rfl) ?_
              refine va_iald (D := (dC, dI)) hx hb hK hP 0 0 rfl rfl (vp_in_nI (n := v_88) (N := 59049) (by omega) (by omega)) dX8_look_66 ?_
              refine lv_topi (fun x_101 ex_101 => ?_)
              rw [nI_clamp (n := v_88) (by omega)] at ex_101
              refine lv_iload_n hx hb dX8_look_67 rfl (lv_at hl 4 rfl) ?_
              refine lv_iconst (v := 1) hx hb dX8_look_68 (by decide) ?_
              refine lv_isub hx hb dX8_look_69 ?_
              refine lv_topi (fun x_102 ex_102 => ?_)
              obtain rfl : (nI (r9 - 1)) = x_102 := (ex_102.trans (nb_sub (a := r9) (b := 1) (by omega))).symm
              refine lv_icmp_ne (tgt := 77) hx hb dX8_look_70 (by decide) (fun c_103 => ?_) (fun c_103 => ?_)
              · skip
                have ic_103 := ci_ne (rfl : Int32.toInt x_101 = _) (nI_toInt (n := (r9 - 1)) (by omega)) c_103
                refine lv_iconst (v := 0) hx hb dX8_look_77 (by decide) ?_
                refine lv_istore (lv' := [(5, .int 0), (8, .int (nI v_88)), (0, .ref m0), (1, .int (nI cv)), (2, .int p2), (3, .int (nI r9)), (4, .int (nI av)), (6, .int yb), (7, .int x9)]) hx hb dX8_look_78 hl (by decide) rfl (fun ls hl => ?_)
                refine lv_iload hx hb dX8_look_80 (lv_at hl 7 rfl) ?_
                refine lv_if_eq (tgt := 106) hx hb dX8_look_82 (by decide) (fun c_104 => ?_) (fun c_104 => ?_)
                · skip
                  have ic_104 := ci_eq (rfl : Int32.toInt yb = _) (show Int32.toInt 0 = 0 by decide) c_104
                  refine lv_iconst (v := 0) hx hb dX8_look_106 (by decide) ?_
                  refine lv_istore (lv' := [(6, .int 0), (5, .int 0), (8, .int (nI v_88)), (0, .ref m0), (1, .int (nI cv)), (2, .int p2), (3, .int (nI r9)), (4, .int (nI av)), (7, .int x9)]) hx hb dX8_look_107 hl (by decide) rfl (fun ls hl => ?_)
                  refine lv_iload hx hb dX8_look_109 (lv_at hl 8 rfl) ?_
                  refine lv_iload hx hb dX8_look_111 (lv_at hl 7 rfl) ?_
                  refine lv_isub hx hb dX8_look_113 ?_
                  refine lv_topi (fun x_105 ex_105 => ?_)
                  refine lv_iload hx hb dX8_look_114 (lv_at hl 7 rfl) ?_
                  refine lv_iand hx hb dX8_look_116 ?_
                  refine lv_topi (fun x_106 ex_106 => ?_)
                  have ey1 := mn_subs hx9 ex_105 ex_106
                  obtain ⟨z1, hz1, ez1, dz1⟩ := mn_sub (a := av) (z := z) hz9
                  have ey2 : x_106 = nI av - nI z1 := ey1.trans ez1
                  have hq2 : x_106 = 0 ∧ 1 ≤ n30 ∨ z1 + 2 ≤ n30 := dz1.elim (fun q => Or.inr (by omega)) (fun q => Or.inl ⟨ey1.trans q, by omega⟩)
                  refine lv_istore (lv' := [(7, .int x_106), (6, .int 0), (5, .int 0), (8, .int (nI v_88)), (0, .ref m0), (1, .int (nI cv)), (2, .int p2), (3, .int (nI r9)), (4, .int (nI av))]) hx hb dX8_look_117 hl (by decide) rfl (fun ls hl => ?_)
                  refine lv_goto (tgt := 30) hx hb dX8_look_119 (by decide) ?_
                  exact ih30 z1 x_106 0 0 g_87 ey2 hz1 hq2  _ _ (hP.sub [2, 3, 4, 5, 0, 1, 6] rfl) (hD.sub [2, 3, 4, 5, 0, 1, 6] (by decide) rfl) hS _ (lv_sub hl [4, 5, 6, 7, 8, 2, 1, 0] rfl)
                · skip
                  have ic_104 := ci_ne (rfl : Int32.toInt yb = _) (show Int32.toInt 0 = 0 by decide) c_104
                  refine lv_aload_n hx hb dX8_look_85 rfl (lv_at hl 2 rfl) ?_
                  refine va_get (D := (dC, dI)) (ci := 6) (v := .ref la) (C := RX8) (T := TX8) (N := 14) hx hb hts hnX8_look_X8 hown hK hP 2 rfl rfl 10 (by decide) (hts (.fieldLink RX8 39 "RingMeetsModel" "late" "[I") (by decide +kernel)) (fun _ h9 => h9) rfl dX8_look_86 ?_
                  refine lv_iload hx hb dX8_look_89 (lv_at hl 1 rfl) ?_
                  refine va_iald (D := (dC, dI)) hx hb hK hP 1 0 rfl rfl (vp_in_nI (n := v_88) (N := 59049) (by omega) (by omega)) dX8_look_91 ?_
                  refine lv_topi (fun x_107 ex_107 => ?_)
                  rw [nI_clamp (n := v_88) (by omega)] at ex_107
                  refine lv_iconst (v := 0) hx hb dX8_look_92 (by decide) ?_
                  refine lv_iload_n hx hb dX8_look_93 rfl (lv_at hl 5 rfl) ?_
                  refine lv_iconst (v := 1) hx hb dX8_look_94 (by decide) ?_
                  refine lv_isub hx hb dX8_look_95 ?_
                  refine lv_topi (fun x_108 ex_108 => ?_)
                  obtain rfl : (nI (r9 - 1)) = x_108 := (ex_108.trans (nb_sub (a := r9) (b := 1) (by omega))).symm
                  refine vp_callSi (va_Run.run (va_runS (As := [.int x_107, .int 0, .int (nI (r9 - 1))]) (rest := []) ⟨hx, hb, hml, hown, hts⟩ (mX8_in l dC dI cyI cyZ x_107 0 (nI (r9 - 1)) 0 (((r9 - 1) : Nat) : Int) (by decide) (nI_toInt (by omega))) (va_cwS 3 hts gX8_look_X8_in rfl rfl rfl (by decide +kernel) ⟨Nat.le_of_ble_eq_true rfl, Nat.le_of_ble_eq_true rfl⟩) (bs_RS hB (hP.sub (ws' := []) [] rfl)) rfl rfl hl.1 rfl (lv_room (Nat.le_of_ble_eq_true rfl)) dX8_look_96 ⟨Nat.le_of_ble_eq_true rfl, Nat.le_of_ble_eq_true rfl⟩)) (fun r_109 hr_109 => ?_)
                  refine lv_if_eq (tgt := 106) hx hb dX8_look_99 (by decide) (fun c_110 => ?_) (fun c_110 => ?_)
                  · skip
                    have ic_110 := ci_eq (rfl : Int32.toInt r_109 = _) (show Int32.toInt 0 = 0 by decide) c_110
                    refine lv_iconst (v := 0) hx hb dX8_look_106 (by decide) ?_
                    refine lv_istore (lv' := [(6, .int 0), (5, .int 0), (8, .int (nI v_88)), (0, .ref m0), (1, .int (nI cv)), (2, .int p2), (3, .int (nI r9)), (4, .int (nI av)), (7, .int x9)]) hx hb dX8_look_107 hl (by decide) rfl (fun ls hl => ?_)
                    refine lv_iload hx hb dX8_look_109 (lv_at hl 8 rfl) ?_
                    refine lv_iload hx hb dX8_look_111 (lv_at hl 7 rfl) ?_
                    refine lv_isub hx hb dX8_look_113 ?_
                    refine lv_topi (fun x_111 ex_111 => ?_)
                    refine lv_iload hx hb dX8_look_114 (lv_at hl 7 rfl) ?_
                    refine lv_iand hx hb dX8_look_116 ?_
                    refine lv_topi (fun x_112 ex_112 => ?_)
                    have ey1 := mn_subs hx9 ex_111 ex_112
                    obtain ⟨z1, hz1, ez1, dz1⟩ := mn_sub (a := av) (z := z) hz9
                    have ey2 : x_112 = nI av - nI z1 := ey1.trans ez1
                    have hq2 : x_112 = 0 ∧ 1 ≤ n30 ∨ z1 + 2 ≤ n30 := dz1.elim (fun q => Or.inr (by omega)) (fun q => Or.inl ⟨ey1.trans q, by omega⟩)
                    refine lv_istore (lv' := [(7, .int x_112), (6, .int 0), (5, .int 0), (8, .int (nI v_88)), (0, .ref m0), (1, .int (nI cv)), (2, .int p2), (3, .int (nI r9)), (4, .int (nI av))]) hx hb dX8_look_117 hl (by decide) rfl (fun ls hl => ?_)
                    refine lv_goto (tgt := 30) hx hb dX8_look_119 (by decide) ?_
                    exact ih30 z1 x_112 0 0 g_87 ey2 hz1 hq2  _ _ (hP.sub [2, 3, 4, 5, 0, 1, 6] rfl) (hD.sub [2, 3, 4, 5, 0, 1, 6] (by decide) rfl) hS _ (lv_sub hl [4, 5, 6, 7, 8, 2, 1, 0] rfl)
                  · skip
                    have ic_110 := ci_ne (rfl : Int32.toInt r_109 = _) (show Int32.toInt 0 = 0 by decide) c_110
                    refine lv_iconst (v := 1) hx hb dX8_look_102 (by decide) ?_
                    refine lv_goto (tgt := 107) hx hb dX8_look_103 (by decide) ?_
                    refine lv_istore (lv' := [(6, .int 1), (5, .int 0), (8, .int (nI v_88)), (0, .ref m0), (1, .int (nI cv)), (2, .int p2), (3, .int (nI r9)), (4, .int (nI av)), (7, .int x9)]) hx hb dX8_look_107 hl (by decide) rfl (fun ls hl => ?_)
                    refine lv_iload hx hb dX8_look_109 (lv_at hl 8 rfl) ?_
                    refine lv_iload hx hb dX8_look_111 (lv_at hl 7 rfl) ?_
                    refine lv_isub hx hb dX8_look_113 ?_
                    refine lv_topi (fun x_113 ex_113 => ?_)
                    refine lv_iload hx hb dX8_look_114 (lv_at hl 7 rfl) ?_
                    refine lv_iand hx hb dX8_look_116 ?_
                    refine lv_topi (fun x_114 ex_114 => ?_)
                    have ey1 := mn_subs hx9 ex_113 ex_114
                    obtain ⟨z1, hz1, ez1, dz1⟩ := mn_sub (a := av) (z := z) hz9
                    have ey2 : x_114 = nI av - nI z1 := ey1.trans ez1
                    have hq2 : x_114 = 0 ∧ 1 ≤ n30 ∨ z1 + 2 ≤ n30 := dz1.elim (fun q => Or.inr (by omega)) (fun q => Or.inl ⟨ey1.trans q, by omega⟩)
                    refine lv_istore (lv' := [(7, .int x_114), (6, .int 1), (5, .int 0), (8, .int (nI v_88)), (0, .ref m0), (1, .int (nI cv)), (2, .int p2), (3, .int (nI r9)), (4, .int (nI av))]) hx hb dX8_look_117 hl (by decide) rfl (fun ls hl => ?_)
                    refine lv_goto (tgt := 30) hx hb dX8_look_119 (by decide) ?_
                    exact ih30 z1 x_114 0 1 g_87 ey2 hz1 hq2  _ _ (hP.sub [2, 3, 4, 5, 0, 1, 6] rfl) (hD.sub [2, 3, 4, 5, 0, 1, 6] (by decide) rfl) hS _ (lv_sub hl [4, 5, 6, 7, 8, 2, 1, 0] rfl)
              · skip
                have ic_103 := ci_eq (rfl : Int32.toInt x_101 = _) (nI_toInt (n := (r9 - 1)) (by omega)) c_103
                refine lv_iconst (v := 1) hx hb dX8_look_73 (by decide) ?_
                refine lv_goto (tgt := 78) hx hb dX8_look_74 (by decide) ?_
                refine lv_istore (lv' := [(5, .int 1), (8, .int (nI v_88)), (0, .ref m0), (1, .int (nI cv)), (2, .int p2), (3, .int (nI r9)), (4, .int (nI av)), (6, .int yb), (7, .int x9)]) hx hb dX8_look_78 hl (by decide) rfl (fun ls hl => ?_)
                refine lv_iload hx hb dX8_look_80 (lv_at hl 7 rfl) ?_
                refine lv_if_eq (tgt := 106) hx hb dX8_look_82 (by decide) (fun c_115 => ?_) (fun c_115 => ?_)
                · skip
                  have ic_115 := ci_eq (rfl : Int32.toInt yb = _) (show Int32.toInt 0 = 0 by decide) c_115
                  refine lv_iconst (v := 0) hx hb dX8_look_106 (by decide) ?_
                  refine lv_istore (lv' := [(6, .int 0), (5, .int 1), (8, .int (nI v_88)), (0, .ref m0), (1, .int (nI cv)), (2, .int p2), (3, .int (nI r9)), (4, .int (nI av)), (7, .int x9)]) hx hb dX8_look_107 hl (by decide) rfl (fun ls hl => ?_)
                  refine lv_iload hx hb dX8_look_109 (lv_at hl 8 rfl) ?_
                  refine lv_iload hx hb dX8_look_111 (lv_at hl 7 rfl) ?_
                  refine lv_isub hx hb dX8_look_113 ?_
                  refine lv_topi (fun x_116 ex_116 => ?_)
                  refine lv_iload hx hb dX8_look_114 (lv_at hl 7 rfl) ?_
                  refine lv_iand hx hb dX8_look_116 ?_
                  refine lv_topi (fun x_117 ex_117 => ?_)
                  have ey1 := mn_subs hx9 ex_116 ex_117
                  obtain ⟨z1, hz1, ez1, dz1⟩ := mn_sub (a := av) (z := z) hz9
                  have ey2 : x_117 = nI av - nI z1 := ey1.trans ez1
                  have hq2 : x_117 = 0 ∧ 1 ≤ n30 ∨ z1 + 2 ≤ n30 := dz1.elim (fun q => Or.inr (by omega)) (fun q => Or.inl ⟨ey1.trans q, by omega⟩)
                  refine lv_istore (lv' := [(7, .int x_117), (6, .int 0), (5, .int 1), (8, .int (nI v_88)), (0, .ref m0), (1, .int (nI cv)), (2, .int p2), (3, .int (nI r9)), (4, .int (nI av))]) hx hb dX8_look_117 hl (by decide) rfl (fun ls hl => ?_)
                  refine lv_goto (tgt := 30) hx hb dX8_look_119 (by decide) ?_
                  exact ih30 z1 x_117 1 0 g_87 ey2 hz1 hq2  _ _ (hP.sub [2, 3, 4, 5, 0, 1, 6] rfl) (hD.sub [2, 3, 4, 5, 0, 1, 6] (by decide) rfl) hS _ (lv_sub hl [4, 5, 6, 7, 8, 2, 1, 0] rfl)
                · skip
                  have ic_115 := ci_ne (rfl : Int32.toInt yb = _) (show Int32.toInt 0 = 0 by decide) c_115
                  refine lv_aload_n hx hb dX8_look_85 rfl (lv_at hl 2 rfl) ?_
                  refine va_get (D := (dC, dI)) (ci := 6) (v := .ref la) (C := RX8) (T := TX8) (N := 14) hx hb hts hnX8_look_X8 hown hK hP 2 rfl rfl 10 (by decide) (hts (.fieldLink RX8 39 "RingMeetsModel" "late" "[I") (by decide +kernel)) (fun _ h9 => h9) rfl dX8_look_86 ?_
                  refine lv_iload hx hb dX8_look_89 (lv_at hl 1 rfl) ?_
                  refine va_iald (D := (dC, dI)) hx hb hK hP 1 0 rfl rfl (vp_in_nI (n := v_88) (N := 59049) (by omega) (by omega)) dX8_look_91 ?_
                  refine lv_topi (fun x_118 ex_118 => ?_)
                  rw [nI_clamp (n := v_88) (by omega)] at ex_118
                  refine lv_iconst (v := 0) hx hb dX8_look_92 (by decide) ?_
                  refine lv_iload_n hx hb dX8_look_93 rfl (lv_at hl 5 rfl) ?_
                  refine lv_iconst (v := 1) hx hb dX8_look_94 (by decide) ?_
                  refine lv_isub hx hb dX8_look_95 ?_
                  refine lv_topi (fun x_119 ex_119 => ?_)
                  obtain rfl : (nI (r9 - 1)) = x_119 := (ex_119.trans (nb_sub (a := r9) (b := 1) (by omega))).symm
                  refine vp_callSi (va_Run.run (va_runS (As := [.int x_118, .int 0, .int (nI (r9 - 1))]) (rest := []) ⟨hx, hb, hml, hown, hts⟩ (mX8_in l dC dI cyI cyZ x_118 0 (nI (r9 - 1)) 0 (((r9 - 1) : Nat) : Int) (by decide) (nI_toInt (by omega))) (va_cwS 3 hts gX8_look_X8_in rfl rfl rfl (by decide +kernel) ⟨Nat.le_of_ble_eq_true rfl, Nat.le_of_ble_eq_true rfl⟩) (bs_RS hB (hP.sub (ws' := []) [] rfl)) rfl rfl hl.1 rfl (lv_room (Nat.le_of_ble_eq_true rfl)) dX8_look_96 ⟨Nat.le_of_ble_eq_true rfl, Nat.le_of_ble_eq_true rfl⟩)) (fun r_120 hr_120 => ?_)
                  refine lv_if_eq (tgt := 106) hx hb dX8_look_99 (by decide) (fun c_121 => ?_) (fun c_121 => ?_)
                  · skip
                    have ic_121 := ci_eq (rfl : Int32.toInt r_120 = _) (show Int32.toInt 0 = 0 by decide) c_121
                    refine lv_iconst (v := 0) hx hb dX8_look_106 (by decide) ?_
                    refine lv_istore (lv' := [(6, .int 0), (5, .int 1), (8, .int (nI v_88)), (0, .ref m0), (1, .int (nI cv)), (2, .int p2), (3, .int (nI r9)), (4, .int (nI av)), (7, .int x9)]) hx hb dX8_look_107 hl (by decide) rfl (fun ls hl => ?_)
                    refine lv_iload hx hb dX8_look_109 (lv_at hl 8 rfl) ?_
                    refine lv_iload hx hb dX8_look_111 (lv_at hl 7 rfl) ?_
                    refine lv_isub hx hb dX8_look_113 ?_
                    refine lv_topi (fun x_122 ex_122 => ?_)
                    refine lv_iload hx hb dX8_look_114 (lv_at hl 7 rfl) ?_
                    refine lv_iand hx hb dX8_look_116 ?_
                    refine lv_topi (fun x_123 ex_123 => ?_)
                    have ey1 := mn_subs hx9 ex_122 ex_123
                    obtain ⟨z1, hz1, ez1, dz1⟩ := mn_sub (a := av) (z := z) hz9
                    have ey2 : x_123 = nI av - nI z1 := ey1.trans ez1
                    have hq2 : x_123 = 0 ∧ 1 ≤ n30 ∨ z1 + 2 ≤ n30 := dz1.elim (fun q => Or.inr (by omega)) (fun q => Or.inl ⟨ey1.trans q, by omega⟩)
                    refine lv_istore (lv' := [(7, .int x_123), (6, .int 0), (5, .int 1), (8, .int (nI v_88)), (0, .ref m0), (1, .int (nI cv)), (2, .int p2), (3, .int (nI r9)), (4, .int (nI av))]) hx hb dX8_look_117 hl (by decide) rfl (fun ls hl => ?_)
                    refine lv_goto (tgt := 30) hx hb dX8_look_119 (by decide) ?_
                    exact ih30 z1 x_123 1 0 g_87 ey2 hz1 hq2  _ _ (hP.sub [2, 3, 4, 5, 0, 1, 6] rfl) (hD.sub [2, 3, 4, 5, 0, 1, 6] (by decide) rfl) hS _ (lv_sub hl [4, 5, 6, 7, 8, 2, 1, 0] rfl)
                  · skip
                    have ic_121 := ci_ne (rfl : Int32.toInt r_120 = _) (show Int32.toInt 0 = 0 by decide) c_121
                    refine lv_iconst (v := 1) hx hb dX8_look_102 (by decide) ?_
                    refine lv_goto (tgt := 107) hx hb dX8_look_103 (by decide) ?_
                    refine lv_istore (lv' := [(6, .int 1), (5, .int 1), (8, .int (nI v_88)), (0, .ref m0), (1, .int (nI cv)), (2, .int p2), (3, .int (nI r9)), (4, .int (nI av)), (7, .int x9)]) hx hb dX8_look_107 hl (by decide) rfl (fun ls hl => ?_)
                    refine lv_iload hx hb dX8_look_109 (lv_at hl 8 rfl) ?_
                    refine lv_iload hx hb dX8_look_111 (lv_at hl 7 rfl) ?_
                    refine lv_isub hx hb dX8_look_113 ?_
                    refine lv_topi (fun x_124 ex_124 => ?_)
                    refine lv_iload hx hb dX8_look_114 (lv_at hl 7 rfl) ?_
                    refine lv_iand hx hb dX8_look_116 ?_
                    refine lv_topi (fun x_125 ex_125 => ?_)
                    have ey1 := mn_subs hx9 ex_124 ex_125
                    obtain ⟨z1, hz1, ez1, dz1⟩ := mn_sub (a := av) (z := z) hz9
                    have ey2 : x_125 = nI av - nI z1 := ey1.trans ez1
                    have hq2 : x_125 = 0 ∧ 1 ≤ n30 ∨ z1 + 2 ≤ n30 := dz1.elim (fun q => Or.inr (by omega)) (fun q => Or.inl ⟨ey1.trans q, by omega⟩)
                    refine lv_istore (lv' := [(7, .int x_125), (6, .int 1), (5, .int 1), (8, .int (nI v_88)), (0, .ref m0), (1, .int (nI cv)), (2, .int p2), (3, .int (nI r9)), (4, .int (nI av))]) hx hb dX8_look_117 hl (by decide) rfl (fun ls hl => ?_)
                    refine lv_goto (tgt := 30) hx hb dX8_look_119 (by decide) ?_
                    exact ih30 z1 x_125 1 1 g_87 ey2 hz1 hq2  _ _ (hP.sub [2, 3, 4, 5, 0, 1, 6] rfl) (hD.sub [2, 3, 4, 5, 0, 1, 6] (by decide) rfl) hS _ (lv_sub hl [4, 5, 6, 7, 8, 2, 1, 0] rfl)
    exact L30 (av + 2) z0 x_4 0 0 fc ey0 hz0 (Or.inr (by omega))  _ _ (hP.sub [0, 1, 2, 3, 4, 5, 6] rfl) (hD.sub [0, 1, 2, 3, 4, 5, 6] (by decide) rfl) hS _ (lv_sub hl [4, 5, 6, 7, 3, 2, 1, 0] rfl)
  · skip
    have ic_2 := ci_ne (nI_toInt (n := av) (by omega)) (show Int32.toInt 0 = 0 by decide) c_2
    refine lv_iconst (v := 1) hx hb dX8_look_15 (by decide) ?_
    refine lv_goto (tgt := 20) hx hb dX8_look_16 (by decide) ?_
    refine lv_istore (lv' := [(6, .int 1), (5, .int 0), (4, .int (nI av)), (0, .ref m0), (1, .int (nI cv)), (2, .int p2), (3, .int (nI r9))]) hx hb dX8_look_20 hl (by decide) rfl (fun ls hl => ?_)
    refine lv_iload hx hb dX8_look_22 (lv_at hl 2 rfl) ?_
    refine lv_ineg hx hb dX8_look_24 ?_
    refine lv_topi (fun x_126 ex_126 => ?_)
    refine lv_iload hx hb dX8_look_25 (lv_at hl 2 rfl) ?_
    refine lv_iand hx hb dX8_look_27 ?_
    refine lv_topi (fun x_127 ex_127 => ?_)
    obtain ⟨z0, hz0, ez0, dz0⟩ := mn_sub (a := av) (z := av) (Nat.le_refl av)
    have ey0 : x_127 = nI av - nI z0 := by rw [ex_127, ex_126]; exact ez0
    refine lv_istore (lv' := [(7, .int x_127), (6, .int 1), (5, .int 0), (4, .int (nI av)), (0, .ref m0), (1, .int (nI cv)), (2, .int p2), (3, .int (nI r9))]) hx hb dX8_look_28 hl (by decide) rfl (fun ls hl => ?_)
    have L30 : ∀ (n30 : Nat), ∀ (z : Nat) (x9 : Int32) (ya yb : Int32) (fc2 : Nat → Int32), (x9 = nI av - nI z) → (z ≤ av) → (x9 = 0 ∧ 1 ≤ n30 ∨ z + 2 ≤ n30) → ∀ (H : Heap) (locs : List Loc), va_P (dC, dI) vwCl [(m0, .inr (6, [.ref st, .ref im, .ref kq, .ref pw, .ref nx, .ref li, .int d6, .ref il, .ref mv, .ref so, .ref la, .int d11, .int d12, .ref co])), (st, .inl (cyI, 72, .inl fs)), (pw, .inl (cyI, 11, .inl fp)), (mv, .inl (cyI, 59049, .inl mf)), (so, .inl (cyI, 59049, .inl fso)), (la, .inl (cyI, 59049, .inl fla)), (co, .inl (cyI, 10, .inl fc2))] H → va_D A [(m0, .inr (6, [.ref st, .ref im, .ref kq, .ref pw, .ref nx, .ref li, .int d6, .ref il, .ref mv, .ref so, .ref la, .int d11, .int d12, .ref co])), (st, .inl (cyI, 72, .inl fs)), (pw, .inl (cyI, 11, .inl fp)), (mv, .inl (cyI, 59049, .inl mf)), (so, .inl (cyI, 59049, .inl fso)), (la, .inl (cyI, 59049, .inl fla)), (co, .inl (cyI, 10, .inl fc2))] → va_S A s.heap H locs → ∀ (ls : Array Slot), lv_has ls 9 [(0, .ref m0), (1, .int (nI cv)), (2, .int p2), (3, .int (nI r9)), (4, .int (nI av)), (5, .int ya), (6, .int yb), (7, .int x9)] → W p l e (headSpec wsX8_look ({ frames := 3, cells := 0, slots := 0, locals := 68 })).room s m ([.ref m0, .int (nI cv), .int p2, .int (nI r9)] : List Value).toArray below meth c H locs 0 0 (MQ below (va_Qi (S := (Nat → Int32) × (Nat → Int32) × (Nat → Int32)) (fun (r : Int32) (q : (Nat → Int32) × (Nat → Int32) × (Nat → Int32)) => (r = 0 ∨ r = 1) ∧ mn_ct mn_ng q.1 59049 + mn_ct mn_ng q.2.1 59049 ≤ mn_ct mn_ng fso 59049 + mn_ct mn_ng fla 59049 ∧ (r = 1 → mn_ct mn_ng q.1 59049 + mn_ct mn_ng q.2.1 59049 < mn_ct mn_ng fso 59049 + mn_ct mn_ng fla 59049)) (fun q t => bs_E dC dI A [(m0, .inr (6, [.ref st, .ref im, .ref kq, .ref pw, .ref nx, .ref li, .int d6, .ref il, .ref mv, .ref so, .ref la, .int d11, .int d12, .ref co])), (st, .inl (cyI, 72, .inl fs)), (pw, .inl (cyI, 11, .inl fp)), (mv, .inl (cyI, 59049, .inl mf)), (so, .inl (cyI, 59049, .inl q.1)), (la, .inl (cyI, 59049, .inl q.2.1)), (co, .inl (cyI, 10, .inl q.2.2))] t) A) ([.ref m0, .int (nI cv), .int p2, .int (nI r9)] : List Value).toArray s 0 0 A) (F0 m 30 ls []) := by
      intro n30
      induction n30 with
      | zero =>
        intro z x9 ya yb fc2 hx9 hz9 hq9 H locs hP hD hS ls hl
        exfalso
        rcases hq9 with h9 | h9; (have h8 := h9.2; omega); omega
      | succ n30 ih30 =>
        intro z x9 ya yb fc2 hx9 hz9 hq9 H locs hP hD hS ls hl
        refine lv_iload hx hb dX8_look_30 (lv_at hl 7 rfl) ?_
        refine lv_if_eq (tgt := 122) hx hb dX8_look_32 (by decide) (fun c_128 => ?_) (fun c_128 => ?_)
        · skip
          have ic_128 := ci_eq (rfl : Int32.toInt x9 = _) (show Int32.toInt 0 = 0 by decide) c_128
          refine lv_aload_n hx hb dX8_look_122 rfl (lv_at hl 0 rfl) ?_
          refine va_get (D := (dC, dI)) (ci := 6) (v := .ref so) (C := RX8) (T := TX8) (N := 14) hx hb hts hnX8_look_X8 hown hK hP 0 rfl rfl 9 (by decide) (hts (.fieldLink RX8 36 "RingMeetsModel" "soon" "[I") (by decide +kernel)) (fun _ h9 => h9) rfl dX8_look_123 ?_
          refine lv_iload_n hx hb dX8_look_126 rfl (lv_at hl 1 rfl) ?_
          refine va_iald (D := (dC, dI)) hx hb hK hP 4 0 rfl rfl (vp_in_nI (n := cv) (N := 59049) (by omega) (by omega)) dX8_look_127 ?_
          refine lv_topi (fun x_129 ex_129 => ?_)
          rw [nI_clamp (n := cv) (by omega)] at ex_129
          refine lv_if_ge (tgt := 140) hx hb dX8_look_128 (by decide) (fun c_130 => ?_) (fun c_130 => ?_)
          · skip
            have ic_130 := ci_le (show Int32.toInt 0 = 0 by decide) (rfl : Int32.toInt x_129 = _) c_130
            refine lv_iconst (v := 0) hx hb dX8_look_140 (by decide) ?_
            refine lv_istore (lv' := [(7, .int 0), (0, .ref m0), (1, .int (nI cv)), (2, .int p2), (3, .int (nI r9)), (4, .int (nI av)), (5, .int ya), (6, .int yb)]) hx hb dX8_look_141 hl (by decide) rfl (fun ls hl => ?_)
            refine lv_aload_n hx hb dX8_look_143 rfl (lv_at hl 1 rfl) ?_
            refine va_get (D := (dC, dI)) (ci := 6) (v := .ref la) (C := RX8) (T := TX8) (N := 14) hx hb hts hnX8_look_X8 hown hK hP 0 rfl rfl 10 (by decide) (hts (.fieldLink RX8 39 "RingMeetsModel" "late" "[I") (by decide +kernel)) (fun _ h9 => h9) rfl dX8_look_144 ?_
            refine lv_iload_n hx hb dX8_look_147 rfl (lv_at hl 2 rfl) ?_
            refine va_iald (D := (dC, dI)) hx hb hK hP 5 0 rfl rfl (vp_in_nI (n := cv) (N := 59049) (by omega) (by omega)) dX8_look_148 ?_
            refine lv_topi (fun x_131 ex_131 => ?_)
            rw [nI_clamp (n := cv) (by omega)] at ex_131
            refine lv_if_ge (tgt := 161) hx hb dX8_look_149 (by decide) (fun c_132 => ?_) (fun c_132 => ?_)
            · skip
              have ic_132 := ci_le (show Int32.toInt 0 = 0 by decide) (rfl : Int32.toInt x_131 = _) c_132
              refine lv_iconst (v := 0) hx hb dX8_look_161 (by decide) ?_
              refine lv_istore (lv' := [(8, .int 0), (7, .int 0), (0, .ref m0), (1, .int (nI cv)), (2, .int p2), (3, .int (nI r9)), (4, .int (nI av)), (5, .int ya), (6, .int yb)]) hx hb dX8_look_162 hl (by decide) rfl (fun ls hl => ?_)
              refine lv_aload_n hx hb dX8_look_164 rfl (lv_at hl 2 rfl) ?_
              refine va_get (D := (dC, dI)) (ci := 6) (v := .ref so) (C := RX8) (T := TX8) (N := 14) hx hb hts hnX8_look_X8 hown hK hP 0 rfl rfl 9 (by decide) (hts (.fieldLink RX8 36 "RingMeetsModel" "soon" "[I") (by decide +kernel)) (fun _ h9 => h9) rfl dX8_look_165 ?_
              refine lv_iload_n hx hb dX8_look_168 rfl (lv_at hl 3 rfl) ?_
              refine lv_iload hx hb dX8_look_169 (lv_at hl 1 rfl) ?_
              refine lv_if_eq (tgt := 178) hx hb dX8_look_171 (by decide) (fun c_133 => ?_) (fun c_133 => ?_)
              · skip
                refine lv_aload_n hx hb dX8_look_178 rfl (lv_at hl 2 rfl) ?_
                refine va_get (D := (dC, dI)) (ci := 6) (v := .ref so) (C := RX8) (T := TX8) (N := 14) hx hb hts hnX8_look_X8 hown hK hP 0 rfl rfl 9 (by decide) (hts (.fieldLink RX8 36 "RingMeetsModel" "soon" "[I") (by decide +kernel)) (fun _ h9 => h9) rfl dX8_look_179 ?_
                refine lv_iload_n hx hb dX8_look_182 rfl (lv_at hl 3 rfl) ?_
                refine va_iald (D := (dC, dI)) hx hb hK hP 4 0 rfl rfl (vp_in_nI (n := cv) (N := 59049) (by omega) (by omega)) dX8_look_183 ?_
                refine lv_topi (fun x_134 ex_134 => ?_)
                rw [nI_clamp (n := cv) (by omega)] at ex_134
                refine va_iast (D := (dC, dI)) hx hb hK hP hD hS 4 0 rfl rfl (vp_in_nI (n := cv) (N := 59049) (by omega) (by omega)) dX8_look_184 (fun H locs hP hD hS => ?_)
                obtain ⟨g_135, eg_135⟩ : ∃ y : Nat → Int32, y = upd fso (Int32.toNatClampNeg (nI cv)) x_134 := ⟨_, rfl⟩
                have hP : va_P (dC, dI) vwCl [(m0, .inr (6, [.ref st, .ref im, .ref kq, .ref pw, .ref nx, .ref li, .int d6, .ref il, .ref mv, .ref so, .ref la, .int d11, .int d12, .ref co])), (st, .inl (cyI, 72, .inl fs)), (pw, .inl (cyI, 11, .inl fp)), (mv, .inl (cyI, 59049, .inl mf)), (so, .inl (cyI, 59049, .inl g_135)), (la, .inl (cyI, 59049, .inl fla)), (co, .inl (cyI, 10, .inl fc2))] H := by rw [eg_135]; exact hP
                have hD : va_D A [(m0, .inr (6, [.ref st, .ref im, .ref kq, .ref pw, .ref nx, .ref li, .int d6, .ref il, .ref mv, .ref so, .ref la, .int d11, .int d12, .ref co])), (st, .inl (cyI, 72, .inl fs)), (pw, .inl (cyI, 11, .inl fp)), (mv, .inl (cyI, 59049, .inl mf)), (so, .inl (cyI, 59049, .inl g_135)), (la, .inl (cyI, 59049, .inl fla)), (co, .inl (cyI, 10, .inl fc2))] := by rw [eg_135]; exact hD
                rw [nI_clamp (n := cv) (by omega)] at eg_135
                have hcs : mn_ct mn_ng g_135 59049 = mn_ct mn_ng fso 59049 := mn_ct_eq hc9 eg_135 ex_134
                refine lv_aload_n hx hb dX8_look_185 rfl (lv_at hl 2 rfl) ?_
                refine va_get (D := (dC, dI)) (ci := 6) (v := .ref la) (C := RX8) (T := TX8) (N := 14) hx hb hts hnX8_look_X8 hown hK hP 0 rfl rfl 10 (by decide) (hts (.fieldLink RX8 39 "RingMeetsModel" "late" "[I") (by decide +kernel)) (fun _ h9 => h9) rfl dX8_look_186 ?_
                refine lv_iload_n hx hb dX8_look_189 rfl (lv_at hl 3 rfl) ?_
                refine lv_iload hx hb dX8_look_190 (lv_at hl 0 rfl) ?_
                refine lv_if_eq (tgt := 199) hx hb dX8_look_192 (by decide) (fun c_136 => ?_) (fun c_136 => ?_)
                · skip
                  refine lv_aload_n hx hb dX8_look_199 rfl (lv_at hl 2 rfl) ?_
                  refine va_get (D := (dC, dI)) (ci := 6) (v := .ref la) (C := RX8) (T := TX8) (N := 14) hx hb hts hnX8_look_X8 hown hK hP 0 rfl rfl 10 (by decide) (hts (.fieldLink RX8 39 "RingMeetsModel" "late" "[I") (by decide +kernel)) (fun _ h9 => h9) rfl dX8_look_200 ?_
                  refine lv_iload_n hx hb dX8_look_203 rfl (lv_at hl 3 rfl) ?_
                  refine va_iald (D := (dC, dI)) hx hb hK hP 5 0 rfl rfl (vp_in_nI (n := cv) (N := 59049) (by omega) (by omega)) dX8_look_204 ?_
                  refine lv_topi (fun x_137 ex_137 => ?_)
                  rw [nI_clamp (n := cv) (by omega)] at ex_137
                  refine va_iast (D := (dC, dI)) hx hb hK hP hD hS 5 0 rfl rfl (vp_in_nI (n := cv) (N := 59049) (by omega) (by omega)) dX8_look_205 (fun H locs hP hD hS => ?_)
                  obtain ⟨g_138, eg_138⟩ : ∃ y : Nat → Int32, y = upd fla (Int32.toNatClampNeg (nI cv)) x_137 := ⟨_, rfl⟩
                  have hP : va_P (dC, dI) vwCl [(m0, .inr (6, [.ref st, .ref im, .ref kq, .ref pw, .ref nx, .ref li, .int d6, .ref il, .ref mv, .ref so, .ref la, .int d11, .int d12, .ref co])), (st, .inl (cyI, 72, .inl fs)), (pw, .inl (cyI, 11, .inl fp)), (mv, .inl (cyI, 59049, .inl mf)), (so, .inl (cyI, 59049, .inl g_135)), (la, .inl (cyI, 59049, .inl g_138)), (co, .inl (cyI, 10, .inl fc2))] H := by rw [eg_138]; exact hP
                  have hD : va_D A [(m0, .inr (6, [.ref st, .ref im, .ref kq, .ref pw, .ref nx, .ref li, .int d6, .ref il, .ref mv, .ref so, .ref la, .int d11, .int d12, .ref co])), (st, .inl (cyI, 72, .inl fs)), (pw, .inl (cyI, 11, .inl fp)), (mv, .inl (cyI, 59049, .inl mf)), (so, .inl (cyI, 59049, .inl g_135)), (la, .inl (cyI, 59049, .inl g_138)), (co, .inl (cyI, 10, .inl fc2))] := by rw [eg_138]; exact hD
                  rw [nI_clamp (n := cv) (by omega)] at eg_138
                  have hcl : mn_ct mn_ng g_138 59049 = mn_ct mn_ng fla 59049 := mn_ct_eq hc9 eg_138 ex_137
                  refine lv_iload hx hb dX8_look_206 (lv_at hl 1 rfl) ?_
                  refine lv_if_ne (tgt := 216) hx hb dX8_look_208 (by decide) (fun c_139 => ?_) (fun c_139 => ?_)
                  · skip
                    exact absurd c_139 (by decide)
                  · skip
                    refine lv_iload hx hb dX8_look_211 (lv_at hl 0 rfl) ?_
                    refine lv_if_eq (tgt := 220) hx hb dX8_look_213 (by decide) (fun c_140 => ?_) (fun c_140 => ?_)
                    · skip
                      refine lv_iconst (v := 0) hx hb dX8_look_220 (by decide) ?_
                      exact W.zret (v := 0) hx hb hr (show narrow .boolean (.int 0) = .int 0 from rfl) (fun t ht hW => ⟨⟨0, (g_135, g_138, fc2), rfl, ⟨Or.inl rfl, show mn_ct mn_ng g_135 59049 + mn_ct mn_ng g_138 59049 ≤ mn_ct mn_ng fso 59049 + mn_ct mn_ng fla 59049 by omega, fun q => absurd q (by decide)⟩, ⟨by rw [ht]; exact hP.sub (ws' := [(m0, .inr (6, [.ref st, .ref im, .ref kq, .ref pw, .ref nx, .ref li, .int d6, .ref il, .ref mv, .ref so, .ref la, .int d11, .int d12, .ref co])), (st, .inl (cyI, 72, .inl fs)), (pw, .inl (cyI, 11, .inl fp)), (mv, .inl (cyI, 59049, .inl mf)), (so, .inl (cyI, 59049, .inl g_135)), (la, .inl (cyI, 59049, .inl g_138)), (co, .inl (cyI, 10, .inl fc2))]) [0, 1, 2, 3, 4, 5, 6] rfl, hD.sub (ws' := [(m0, .inr (6, [.ref st, .ref im, .ref kq, .ref pw, .ref nx, .ref li, .int d6, .ref il, .ref mv, .ref so, .ref la, .int d11, .int d12, .ref co])), (st, .inl (cyI, 72, .inl fs)), (pw, .inl (cyI, 11, .inl fp)), (mv, .inl (cyI, 59049, .inl mf)), (so, .inl (cyI, 59049, .inl g_135)), (la, .inl (cyI, 59049, .inl g_138)), (co, .inl (cyI, 10, .inl fc2))]) [0, 1, 2, 3, 4, 5, 6] (by decide) rfl⟩⟩, hS.F ht⟩) hS.2.2 dX8_look_221
                    · skip
                      exact absurd c_140 (by decide)
                · skip
                  exact absurd c_136 (by decide)
              · skip
                exact absurd c_133 (by decide)
            · skip
              have ic_132 := ci_nle (show Int32.toInt 0 = 0 by decide) (rfl : Int32.toInt x_131 = _) c_132
              refine lv_iload hx hb dX8_look_152 (lv_at hl 7 rfl) ?_
              refine lv_if_eq (tgt := 161) hx hb dX8_look_154 (by decide) (fun c_141 => ?_) (fun c_141 => ?_)
              · skip
                have ic_141 := ci_eq (rfl : Int32.toInt yb = _) (show Int32.toInt 0 = 0 by decide) c_141
                refine lv_iconst (v := 0) hx hb dX8_look_161 (by decide) ?_
                refine lv_istore (lv' := [(8, .int 0), (7, .int 0), (0, .ref m0), (1, .int (nI cv)), (2, .int p2), (3, .int (nI r9)), (4, .int (nI av)), (5, .int ya), (6, .int yb)]) hx hb dX8_look_162 hl (by decide) rfl (fun ls hl => ?_)
                refine lv_aload_n hx hb dX8_look_164 rfl (lv_at hl 2 rfl) ?_
                refine va_get (D := (dC, dI)) (ci := 6) (v := .ref so) (C := RX8) (T := TX8) (N := 14) hx hb hts hnX8_look_X8 hown hK hP 0 rfl rfl 9 (by decide) (hts (.fieldLink RX8 36 "RingMeetsModel" "soon" "[I") (by decide +kernel)) (fun _ h9 => h9) rfl dX8_look_165 ?_
                refine lv_iload_n hx hb dX8_look_168 rfl (lv_at hl 3 rfl) ?_
                refine lv_iload hx hb dX8_look_169 (lv_at hl 1 rfl) ?_
                refine lv_if_eq (tgt := 178) hx hb dX8_look_171 (by decide) (fun c_142 => ?_) (fun c_142 => ?_)
                · skip
                  refine lv_aload_n hx hb dX8_look_178 rfl (lv_at hl 2 rfl) ?_
                  refine va_get (D := (dC, dI)) (ci := 6) (v := .ref so) (C := RX8) (T := TX8) (N := 14) hx hb hts hnX8_look_X8 hown hK hP 0 rfl rfl 9 (by decide) (hts (.fieldLink RX8 36 "RingMeetsModel" "soon" "[I") (by decide +kernel)) (fun _ h9 => h9) rfl dX8_look_179 ?_
                  refine lv_iload_n hx hb dX8_look_182 rfl (lv_at hl 3 rfl) ?_
                  refine va_iald (D := (dC, dI)) hx hb hK hP 4 0 rfl rfl (vp_in_nI (n := cv) (N := 59049) (by omega) (by omega)) dX8_look_183 ?_
                  refine lv_topi (fun x_143 ex_143 => ?_)
                  rw [nI_clamp (n := cv) (by omega)] at ex_143
                  refine va_iast (D := (dC, dI)) hx hb hK hP hD hS 4 0 rfl rfl (vp_in_nI (n := cv) (N := 59049) (by omega) (by omega)) dX8_look_184 (fun H locs hP hD hS => ?_)
                  obtain ⟨g_144, eg_144⟩ : ∃ y : Nat → Int32, y = upd fso (Int32.toNatClampNeg (nI cv)) x_143 := ⟨_, rfl⟩
                  have hP : va_P (dC, dI) vwCl [(m0, .inr (6, [.ref st, .ref im, .ref kq, .ref pw, .ref nx, .ref li, .int d6, .ref il, .ref mv, .ref so, .ref la, .int d11, .int d12, .ref co])), (st, .inl (cyI, 72, .inl fs)), (pw, .inl (cyI, 11, .inl fp)), (mv, .inl (cyI, 59049, .inl mf)), (so, .inl (cyI, 59049, .inl g_144)), (la, .inl (cyI, 59049, .inl fla)), (co, .inl (cyI, 10, .inl fc2))] H := by rw [eg_144]; exact hP
                  have hD : va_D A [(m0, .inr (6, [.ref st, .ref im, .ref kq, .ref pw, .ref nx, .ref li, .int d6, .ref il, .ref mv, .ref so, .ref la, .int d11, .int d12, .ref co])), (st, .inl (cyI, 72, .inl fs)), (pw, .inl (cyI, 11, .inl fp)), (mv, .inl (cyI, 59049, .inl mf)), (so, .inl (cyI, 59049, .inl g_144)), (la, .inl (cyI, 59049, .inl fla)), (co, .inl (cyI, 10, .inl fc2))] := by rw [eg_144]; exact hD
                  rw [nI_clamp (n := cv) (by omega)] at eg_144
                  have hcs : mn_ct mn_ng g_144 59049 = mn_ct mn_ng fso 59049 := mn_ct_eq hc9 eg_144 ex_143
                  refine lv_aload_n hx hb dX8_look_185 rfl (lv_at hl 2 rfl) ?_
                  refine va_get (D := (dC, dI)) (ci := 6) (v := .ref la) (C := RX8) (T := TX8) (N := 14) hx hb hts hnX8_look_X8 hown hK hP 0 rfl rfl 10 (by decide) (hts (.fieldLink RX8 39 "RingMeetsModel" "late" "[I") (by decide +kernel)) (fun _ h9 => h9) rfl dX8_look_186 ?_
                  refine lv_iload_n hx hb dX8_look_189 rfl (lv_at hl 3 rfl) ?_
                  refine lv_iload hx hb dX8_look_190 (lv_at hl 0 rfl) ?_
                  refine lv_if_eq (tgt := 199) hx hb dX8_look_192 (by decide) (fun c_145 => ?_) (fun c_145 => ?_)
                  · skip
                    refine lv_aload_n hx hb dX8_look_199 rfl (lv_at hl 2 rfl) ?_
                    refine va_get (D := (dC, dI)) (ci := 6) (v := .ref la) (C := RX8) (T := TX8) (N := 14) hx hb hts hnX8_look_X8 hown hK hP 0 rfl rfl 10 (by decide) (hts (.fieldLink RX8 39 "RingMeetsModel" "late" "[I") (by decide +kernel)) (fun _ h9 => h9) rfl dX8_look_200 ?_
                    refine lv_iload_n hx hb dX8_look_203 rfl (lv_at hl 3 rfl) ?_
                    refine va_iald (D := (dC, dI)) hx hb hK hP 5 0 rfl rfl (vp_in_nI (n := cv) (N := 59049) (by omega) (by omega)) dX8_look_204 ?_
                    refine lv_topi (fun x_146 ex_146 => ?_)
                    rw [nI_clamp (n := cv) (by omega)] at ex_146
                    refine va_iast (D := (dC, dI)) hx hb hK hP hD hS 5 0 rfl rfl (vp_in_nI (n := cv) (N := 59049) (by omega) (by omega)) dX8_look_205 (fun H locs hP hD hS => ?_)
                    obtain ⟨g_147, eg_147⟩ : ∃ y : Nat → Int32, y = upd fla (Int32.toNatClampNeg (nI cv)) x_146 := ⟨_, rfl⟩
                    have hP : va_P (dC, dI) vwCl [(m0, .inr (6, [.ref st, .ref im, .ref kq, .ref pw, .ref nx, .ref li, .int d6, .ref il, .ref mv, .ref so, .ref la, .int d11, .int d12, .ref co])), (st, .inl (cyI, 72, .inl fs)), (pw, .inl (cyI, 11, .inl fp)), (mv, .inl (cyI, 59049, .inl mf)), (so, .inl (cyI, 59049, .inl g_144)), (la, .inl (cyI, 59049, .inl g_147)), (co, .inl (cyI, 10, .inl fc2))] H := by rw [eg_147]; exact hP
                    have hD : va_D A [(m0, .inr (6, [.ref st, .ref im, .ref kq, .ref pw, .ref nx, .ref li, .int d6, .ref il, .ref mv, .ref so, .ref la, .int d11, .int d12, .ref co])), (st, .inl (cyI, 72, .inl fs)), (pw, .inl (cyI, 11, .inl fp)), (mv, .inl (cyI, 59049, .inl mf)), (so, .inl (cyI, 59049, .inl g_144)), (la, .inl (cyI, 59049, .inl g_147)), (co, .inl (cyI, 10, .inl fc2))] := by rw [eg_147]; exact hD
                    rw [nI_clamp (n := cv) (by omega)] at eg_147
                    have hcl : mn_ct mn_ng g_147 59049 = mn_ct mn_ng fla 59049 := mn_ct_eq hc9 eg_147 ex_146
                    refine lv_iload hx hb dX8_look_206 (lv_at hl 1 rfl) ?_
                    refine lv_if_ne (tgt := 216) hx hb dX8_look_208 (by decide) (fun c_148 => ?_) (fun c_148 => ?_)
                    · skip
                      exact absurd c_148 (by decide)
                    · skip
                      refine lv_iload hx hb dX8_look_211 (lv_at hl 0 rfl) ?_
                      refine lv_if_eq (tgt := 220) hx hb dX8_look_213 (by decide) (fun c_149 => ?_) (fun c_149 => ?_)
                      · skip
                        refine lv_iconst (v := 0) hx hb dX8_look_220 (by decide) ?_
                        exact W.zret (v := 0) hx hb hr (show narrow .boolean (.int 0) = .int 0 from rfl) (fun t ht hW => ⟨⟨0, (g_144, g_147, fc2), rfl, ⟨Or.inl rfl, show mn_ct mn_ng g_144 59049 + mn_ct mn_ng g_147 59049 ≤ mn_ct mn_ng fso 59049 + mn_ct mn_ng fla 59049 by omega, fun q => absurd q (by decide)⟩, ⟨by rw [ht]; exact hP.sub (ws' := [(m0, .inr (6, [.ref st, .ref im, .ref kq, .ref pw, .ref nx, .ref li, .int d6, .ref il, .ref mv, .ref so, .ref la, .int d11, .int d12, .ref co])), (st, .inl (cyI, 72, .inl fs)), (pw, .inl (cyI, 11, .inl fp)), (mv, .inl (cyI, 59049, .inl mf)), (so, .inl (cyI, 59049, .inl g_144)), (la, .inl (cyI, 59049, .inl g_147)), (co, .inl (cyI, 10, .inl fc2))]) [0, 1, 2, 3, 4, 5, 6] rfl, hD.sub (ws' := [(m0, .inr (6, [.ref st, .ref im, .ref kq, .ref pw, .ref nx, .ref li, .int d6, .ref il, .ref mv, .ref so, .ref la, .int d11, .int d12, .ref co])), (st, .inl (cyI, 72, .inl fs)), (pw, .inl (cyI, 11, .inl fp)), (mv, .inl (cyI, 59049, .inl mf)), (so, .inl (cyI, 59049, .inl g_144)), (la, .inl (cyI, 59049, .inl g_147)), (co, .inl (cyI, 10, .inl fc2))]) [0, 1, 2, 3, 4, 5, 6] (by decide) rfl⟩⟩, hS.F ht⟩) hS.2.2 dX8_look_221
                      · skip
                        exact absurd c_149 (by decide)
                  · skip
                    exact absurd c_145 (by decide)
                · skip
                  exact absurd c_142 (by decide)
              · skip
                have ic_141 := ci_ne (rfl : Int32.toInt yb = _) (show Int32.toInt 0 = 0 by decide) c_141
                refine lv_iconst (v := 1) hx hb dX8_look_157 (by decide) ?_
                refine lv_goto (tgt := 162) hx hb dX8_look_158 (by decide) ?_
                refine lv_istore (lv' := [(8, .int 1), (7, .int 0), (0, .ref m0), (1, .int (nI cv)), (2, .int p2), (3, .int (nI r9)), (4, .int (nI av)), (5, .int ya), (6, .int yb)]) hx hb dX8_look_162 hl (by decide) rfl (fun ls hl => ?_)
                refine lv_aload_n hx hb dX8_look_164 rfl (lv_at hl 2 rfl) ?_
                refine va_get (D := (dC, dI)) (ci := 6) (v := .ref so) (C := RX8) (T := TX8) (N := 14) hx hb hts hnX8_look_X8 hown hK hP 0 rfl rfl 9 (by decide) (hts (.fieldLink RX8 36 "RingMeetsModel" "soon" "[I") (by decide +kernel)) (fun _ h9 => h9) rfl dX8_look_165 ?_
                refine lv_iload_n hx hb dX8_look_168 rfl (lv_at hl 3 rfl) ?_
                refine lv_iload hx hb dX8_look_169 (lv_at hl 1 rfl) ?_
                refine lv_if_eq (tgt := 178) hx hb dX8_look_171 (by decide) (fun c_150 => ?_) (fun c_150 => ?_)
                · skip
                  refine lv_aload_n hx hb dX8_look_178 rfl (lv_at hl 2 rfl) ?_
                  refine va_get (D := (dC, dI)) (ci := 6) (v := .ref so) (C := RX8) (T := TX8) (N := 14) hx hb hts hnX8_look_X8 hown hK hP 0 rfl rfl 9 (by decide) (hts (.fieldLink RX8 36 "RingMeetsModel" "soon" "[I") (by decide +kernel)) (fun _ h9 => h9) rfl dX8_look_179 ?_
                  refine lv_iload_n hx hb dX8_look_182 rfl (lv_at hl 3 rfl) ?_
                  refine va_iald (D := (dC, dI)) hx hb hK hP 4 0 rfl rfl (vp_in_nI (n := cv) (N := 59049) (by omega) (by omega)) dX8_look_183 ?_
                  refine lv_topi (fun x_151 ex_151 => ?_)
                  rw [nI_clamp (n := cv) (by omega)] at ex_151
                  refine va_iast (D := (dC, dI)) hx hb hK hP hD hS 4 0 rfl rfl (vp_in_nI (n := cv) (N := 59049) (by omega) (by omega)) dX8_look_184 (fun H locs hP hD hS => ?_)
                  obtain ⟨g_152, eg_152⟩ : ∃ y : Nat → Int32, y = upd fso (Int32.toNatClampNeg (nI cv)) x_151 := ⟨_, rfl⟩
                  have hP : va_P (dC, dI) vwCl [(m0, .inr (6, [.ref st, .ref im, .ref kq, .ref pw, .ref nx, .ref li, .int d6, .ref il, .ref mv, .ref so, .ref la, .int d11, .int d12, .ref co])), (st, .inl (cyI, 72, .inl fs)), (pw, .inl (cyI, 11, .inl fp)), (mv, .inl (cyI, 59049, .inl mf)), (so, .inl (cyI, 59049, .inl g_152)), (la, .inl (cyI, 59049, .inl fla)), (co, .inl (cyI, 10, .inl fc2))] H := by rw [eg_152]; exact hP
                  have hD : va_D A [(m0, .inr (6, [.ref st, .ref im, .ref kq, .ref pw, .ref nx, .ref li, .int d6, .ref il, .ref mv, .ref so, .ref la, .int d11, .int d12, .ref co])), (st, .inl (cyI, 72, .inl fs)), (pw, .inl (cyI, 11, .inl fp)), (mv, .inl (cyI, 59049, .inl mf)), (so, .inl (cyI, 59049, .inl g_152)), (la, .inl (cyI, 59049, .inl fla)), (co, .inl (cyI, 10, .inl fc2))] := by rw [eg_152]; exact hD
                  rw [nI_clamp (n := cv) (by omega)] at eg_152
                  have hcs : mn_ct mn_ng g_152 59049 = mn_ct mn_ng fso 59049 := mn_ct_eq hc9 eg_152 ex_151
                  refine lv_aload_n hx hb dX8_look_185 rfl (lv_at hl 2 rfl) ?_
                  refine va_get (D := (dC, dI)) (ci := 6) (v := .ref la) (C := RX8) (T := TX8) (N := 14) hx hb hts hnX8_look_X8 hown hK hP 0 rfl rfl 10 (by decide) (hts (.fieldLink RX8 39 "RingMeetsModel" "late" "[I") (by decide +kernel)) (fun _ h9 => h9) rfl dX8_look_186 ?_
                  refine lv_iload_n hx hb dX8_look_189 rfl (lv_at hl 3 rfl) ?_
                  refine lv_iload hx hb dX8_look_190 (lv_at hl 0 rfl) ?_
                  refine lv_if_eq (tgt := 199) hx hb dX8_look_192 (by decide) (fun c_153 => ?_) (fun c_153 => ?_)
                  · skip
                    exact absurd c_153 (by decide)
                  · skip
                    refine lv_iload_n hx hb dX8_look_195 rfl (lv_at hl 5 rfl) ?_
                    refine lv_goto (tgt := 205) hx hb dX8_look_196 (by decide) ?_
                    refine va_iast (D := (dC, dI)) hx hb hK hP hD hS 5 0 rfl rfl (vp_in_nI (n := cv) (N := 59049) (by omega) (by omega)) dX8_look_205 (fun H locs hP hD hS => ?_)
                    obtain ⟨g_154, eg_154⟩ : ∃ y : Nat → Int32, y = upd fla (Int32.toNatClampNeg (nI cv)) (nI r9) := ⟨_, rfl⟩
                    have hP : va_P (dC, dI) vwCl [(m0, .inr (6, [.ref st, .ref im, .ref kq, .ref pw, .ref nx, .ref li, .int d6, .ref il, .ref mv, .ref so, .ref la, .int d11, .int d12, .ref co])), (st, .inl (cyI, 72, .inl fs)), (pw, .inl (cyI, 11, .inl fp)), (mv, .inl (cyI, 59049, .inl mf)), (so, .inl (cyI, 59049, .inl g_152)), (la, .inl (cyI, 59049, .inl g_154)), (co, .inl (cyI, 10, .inl fc2))] H := by rw [eg_154]; exact hP
                    have hD : va_D A [(m0, .inr (6, [.ref st, .ref im, .ref kq, .ref pw, .ref nx, .ref li, .int d6, .ref il, .ref mv, .ref so, .ref la, .int d11, .int d12, .ref co])), (st, .inl (cyI, 72, .inl fs)), (pw, .inl (cyI, 11, .inl fp)), (mv, .inl (cyI, 59049, .inl mf)), (so, .inl (cyI, 59049, .inl g_152)), (la, .inl (cyI, 59049, .inl g_154)), (co, .inl (cyI, 10, .inl fc2))] := by rw [eg_154]; exact hD
                    rw [nI_clamp (n := cv) (by omega)] at eg_154
                    have hcl : mn_ct mn_ng g_154 59049 + 1 = mn_ct mn_ng fla 59049 := mn_ct_dn hc9 ex_131 c_132 eg_154 rfl (by omega)
                    refine lv_iload hx hb dX8_look_206 (lv_at hl 1 rfl) ?_
                    refine lv_if_ne (tgt := 216) hx hb dX8_look_208 (by decide) (fun c_155 => ?_) (fun c_155 => ?_)
                    · skip
                      exact absurd c_155 (by decide)
                    · skip
                      refine lv_iload hx hb dX8_look_211 (lv_at hl 0 rfl) ?_
                      refine lv_if_eq (tgt := 220) hx hb dX8_look_213 (by decide) (fun c_156 => ?_) (fun c_156 => ?_)
                      · skip
                        exact absurd c_156 (by decide)
                      · skip
                        refine lv_iconst (v := 1) hx hb dX8_look_216 (by decide) ?_
                        refine lv_goto (tgt := 221) hx hb dX8_look_217 (by decide) ?_
                        exact W.zret (v := 1) hx hb hr (show narrow .boolean (.int 1) = .int 1 from rfl) (fun t ht hW => ⟨⟨1, (g_152, g_154, fc2), rfl, ⟨Or.inr rfl, show mn_ct mn_ng g_152 59049 + mn_ct mn_ng g_154 59049 ≤ mn_ct mn_ng fso 59049 + mn_ct mn_ng fla 59049 by omega, fun _ => show mn_ct mn_ng g_152 59049 + mn_ct mn_ng g_154 59049 < mn_ct mn_ng fso 59049 + mn_ct mn_ng fla 59049 by omega⟩, ⟨by rw [ht]; exact hP.sub (ws' := [(m0, .inr (6, [.ref st, .ref im, .ref kq, .ref pw, .ref nx, .ref li, .int d6, .ref il, .ref mv, .ref so, .ref la, .int d11, .int d12, .ref co])), (st, .inl (cyI, 72, .inl fs)), (pw, .inl (cyI, 11, .inl fp)), (mv, .inl (cyI, 59049, .inl mf)), (so, .inl (cyI, 59049, .inl g_152)), (la, .inl (cyI, 59049, .inl g_154)), (co, .inl (cyI, 10, .inl fc2))]) [0, 1, 2, 3, 4, 5, 6] rfl, hD.sub (ws' := [(m0, .inr (6, [.ref st, .ref im, .ref kq, .ref pw, .ref nx, .ref li, .int d6, .ref il, .ref mv, .ref so, .ref la, .int d11, .int d12, .ref co])), (st, .inl (cyI, 72, .inl fs)), (pw, .inl (cyI, 11, .inl fp)), (mv, .inl (cyI, 59049, .inl mf)), (so, .inl (cyI, 59049, .inl g_152)), (la, .inl (cyI, 59049, .inl g_154)), (co, .inl (cyI, 10, .inl fc2))]) [0, 1, 2, 3, 4, 5, 6] (by decide) rfl⟩⟩, hS.F ht⟩) hS.2.2 dX8_look_221
                · skip
                  exact absurd c_150 (by decide)
          · skip
            have ic_130 := ci_nle (show Int32.toInt 0 = 0 by decide) (rfl : Int32.toInt x_129 = _) c_130
            refine lv_iload hx hb dX8_look_131 (lv_at hl 5 rfl) ?_
            refine lv_if_eq (tgt := 140) hx hb dX8_look_133 (by decide) (fun c_157 => ?_) (fun c_157 => ?_)
            · skip
              have ic_157 := ci_eq (rfl : Int32.toInt ya = _) (show Int32.toInt 0 = 0 by decide) c_157
              refine lv_iconst (v := 0) hx hb dX8_look_140 (by decide) ?_
              refine lv_istore (lv' := [(7, .int 0), (0, .ref m0), (1, .int (nI cv)), (2, .int p2), (3, .int (nI r9)), (4, .int (nI av)), (5, .int ya), (6, .int yb)]) hx hb dX8_look_141 hl (by decide) rfl (fun ls hl => ?_)
              refine lv_aload_n hx hb dX8_look_143 rfl (lv_at hl 1 rfl) ?_
              refine va_get (D := (dC, dI)) (ci := 6) (v := .ref la) (C := RX8) (T := TX8) (N := 14) hx hb hts hnX8_look_X8 hown hK hP 0 rfl rfl 10 (by decide) (hts (.fieldLink RX8 39 "RingMeetsModel" "late" "[I") (by decide +kernel)) (fun _ h9 => h9) rfl dX8_look_144 ?_
              refine lv_iload_n hx hb dX8_look_147 rfl (lv_at hl 2 rfl) ?_
              refine va_iald (D := (dC, dI)) hx hb hK hP 5 0 rfl rfl (vp_in_nI (n := cv) (N := 59049) (by omega) (by omega)) dX8_look_148 ?_
              refine lv_topi (fun x_158 ex_158 => ?_)
              rw [nI_clamp (n := cv) (by omega)] at ex_158
              refine lv_if_ge (tgt := 161) hx hb dX8_look_149 (by decide) (fun c_159 => ?_) (fun c_159 => ?_)
              · skip
                have ic_159 := ci_le (show Int32.toInt 0 = 0 by decide) (rfl : Int32.toInt x_158 = _) c_159
                refine lv_iconst (v := 0) hx hb dX8_look_161 (by decide) ?_
                refine lv_istore (lv' := [(8, .int 0), (7, .int 0), (0, .ref m0), (1, .int (nI cv)), (2, .int p2), (3, .int (nI r9)), (4, .int (nI av)), (5, .int ya), (6, .int yb)]) hx hb dX8_look_162 hl (by decide) rfl (fun ls hl => ?_)
                refine lv_aload_n hx hb dX8_look_164 rfl (lv_at hl 2 rfl) ?_
                refine va_get (D := (dC, dI)) (ci := 6) (v := .ref so) (C := RX8) (T := TX8) (N := 14) hx hb hts hnX8_look_X8 hown hK hP 0 rfl rfl 9 (by decide) (hts (.fieldLink RX8 36 "RingMeetsModel" "soon" "[I") (by decide +kernel)) (fun _ h9 => h9) rfl dX8_look_165 ?_
                refine lv_iload_n hx hb dX8_look_168 rfl (lv_at hl 3 rfl) ?_
                refine lv_iload hx hb dX8_look_169 (lv_at hl 1 rfl) ?_
                refine lv_if_eq (tgt := 178) hx hb dX8_look_171 (by decide) (fun c_160 => ?_) (fun c_160 => ?_)
                · skip
                  refine lv_aload_n hx hb dX8_look_178 rfl (lv_at hl 2 rfl) ?_
                  refine va_get (D := (dC, dI)) (ci := 6) (v := .ref so) (C := RX8) (T := TX8) (N := 14) hx hb hts hnX8_look_X8 hown hK hP 0 rfl rfl 9 (by decide) (hts (.fieldLink RX8 36 "RingMeetsModel" "soon" "[I") (by decide +kernel)) (fun _ h9 => h9) rfl dX8_look_179 ?_
                  refine lv_iload_n hx hb dX8_look_182 rfl (lv_at hl 3 rfl) ?_
                  refine va_iald (D := (dC, dI)) hx hb hK hP 4 0 rfl rfl (vp_in_nI (n := cv) (N := 59049) (by omega) (by omega)) dX8_look_183 ?_
                  refine lv_topi (fun x_161 ex_161 => ?_)
                  rw [nI_clamp (n := cv) (by omega)] at ex_161
                  refine va_iast (D := (dC, dI)) hx hb hK hP hD hS 4 0 rfl rfl (vp_in_nI (n := cv) (N := 59049) (by omega) (by omega)) dX8_look_184 (fun H locs hP hD hS => ?_)
                  obtain ⟨g_162, eg_162⟩ : ∃ y : Nat → Int32, y = upd fso (Int32.toNatClampNeg (nI cv)) x_161 := ⟨_, rfl⟩
                  have hP : va_P (dC, dI) vwCl [(m0, .inr (6, [.ref st, .ref im, .ref kq, .ref pw, .ref nx, .ref li, .int d6, .ref il, .ref mv, .ref so, .ref la, .int d11, .int d12, .ref co])), (st, .inl (cyI, 72, .inl fs)), (pw, .inl (cyI, 11, .inl fp)), (mv, .inl (cyI, 59049, .inl mf)), (so, .inl (cyI, 59049, .inl g_162)), (la, .inl (cyI, 59049, .inl fla)), (co, .inl (cyI, 10, .inl fc2))] H := by rw [eg_162]; exact hP
                  have hD : va_D A [(m0, .inr (6, [.ref st, .ref im, .ref kq, .ref pw, .ref nx, .ref li, .int d6, .ref il, .ref mv, .ref so, .ref la, .int d11, .int d12, .ref co])), (st, .inl (cyI, 72, .inl fs)), (pw, .inl (cyI, 11, .inl fp)), (mv, .inl (cyI, 59049, .inl mf)), (so, .inl (cyI, 59049, .inl g_162)), (la, .inl (cyI, 59049, .inl fla)), (co, .inl (cyI, 10, .inl fc2))] := by rw [eg_162]; exact hD
                  rw [nI_clamp (n := cv) (by omega)] at eg_162
                  have hcs : mn_ct mn_ng g_162 59049 = mn_ct mn_ng fso 59049 := mn_ct_eq hc9 eg_162 ex_161
                  refine lv_aload_n hx hb dX8_look_185 rfl (lv_at hl 2 rfl) ?_
                  refine va_get (D := (dC, dI)) (ci := 6) (v := .ref la) (C := RX8) (T := TX8) (N := 14) hx hb hts hnX8_look_X8 hown hK hP 0 rfl rfl 10 (by decide) (hts (.fieldLink RX8 39 "RingMeetsModel" "late" "[I") (by decide +kernel)) (fun _ h9 => h9) rfl dX8_look_186 ?_
                  refine lv_iload_n hx hb dX8_look_189 rfl (lv_at hl 3 rfl) ?_
                  refine lv_iload hx hb dX8_look_190 (lv_at hl 0 rfl) ?_
                  refine lv_if_eq (tgt := 199) hx hb dX8_look_192 (by decide) (fun c_163 => ?_) (fun c_163 => ?_)
                  · skip
                    refine lv_aload_n hx hb dX8_look_199 rfl (lv_at hl 2 rfl) ?_
                    refine va_get (D := (dC, dI)) (ci := 6) (v := .ref la) (C := RX8) (T := TX8) (N := 14) hx hb hts hnX8_look_X8 hown hK hP 0 rfl rfl 10 (by decide) (hts (.fieldLink RX8 39 "RingMeetsModel" "late" "[I") (by decide +kernel)) (fun _ h9 => h9) rfl dX8_look_200 ?_
                    refine lv_iload_n hx hb dX8_look_203 rfl (lv_at hl 3 rfl) ?_
                    refine va_iald (D := (dC, dI)) hx hb hK hP 5 0 rfl rfl (vp_in_nI (n := cv) (N := 59049) (by omega) (by omega)) dX8_look_204 ?_
                    refine lv_topi (fun x_164 ex_164 => ?_)
                    rw [nI_clamp (n := cv) (by omega)] at ex_164
                    refine va_iast (D := (dC, dI)) hx hb hK hP hD hS 5 0 rfl rfl (vp_in_nI (n := cv) (N := 59049) (by omega) (by omega)) dX8_look_205 (fun H locs hP hD hS => ?_)
                    obtain ⟨g_165, eg_165⟩ : ∃ y : Nat → Int32, y = upd fla (Int32.toNatClampNeg (nI cv)) x_164 := ⟨_, rfl⟩
                    have hP : va_P (dC, dI) vwCl [(m0, .inr (6, [.ref st, .ref im, .ref kq, .ref pw, .ref nx, .ref li, .int d6, .ref il, .ref mv, .ref so, .ref la, .int d11, .int d12, .ref co])), (st, .inl (cyI, 72, .inl fs)), (pw, .inl (cyI, 11, .inl fp)), (mv, .inl (cyI, 59049, .inl mf)), (so, .inl (cyI, 59049, .inl g_162)), (la, .inl (cyI, 59049, .inl g_165)), (co, .inl (cyI, 10, .inl fc2))] H := by rw [eg_165]; exact hP
                    have hD : va_D A [(m0, .inr (6, [.ref st, .ref im, .ref kq, .ref pw, .ref nx, .ref li, .int d6, .ref il, .ref mv, .ref so, .ref la, .int d11, .int d12, .ref co])), (st, .inl (cyI, 72, .inl fs)), (pw, .inl (cyI, 11, .inl fp)), (mv, .inl (cyI, 59049, .inl mf)), (so, .inl (cyI, 59049, .inl g_162)), (la, .inl (cyI, 59049, .inl g_165)), (co, .inl (cyI, 10, .inl fc2))] := by rw [eg_165]; exact hD
                    rw [nI_clamp (n := cv) (by omega)] at eg_165
                    have hcl : mn_ct mn_ng g_165 59049 = mn_ct mn_ng fla 59049 := mn_ct_eq hc9 eg_165 ex_164
                    refine lv_iload hx hb dX8_look_206 (lv_at hl 1 rfl) ?_
                    refine lv_if_ne (tgt := 216) hx hb dX8_look_208 (by decide) (fun c_166 => ?_) (fun c_166 => ?_)
                    · skip
                      exact absurd c_166 (by decide)
                    · skip
                      refine lv_iload hx hb dX8_look_211 (lv_at hl 0 rfl) ?_
                      refine lv_if_eq (tgt := 220) hx hb dX8_look_213 (by decide) (fun c_167 => ?_) (fun c_167 => ?_)
                      · skip
                        refine lv_iconst (v := 0) hx hb dX8_look_220 (by decide) ?_
                        exact W.zret (v := 0) hx hb hr (show narrow .boolean (.int 0) = .int 0 from rfl) (fun t ht hW => ⟨⟨0, (g_162, g_165, fc2), rfl, ⟨Or.inl rfl, show mn_ct mn_ng g_162 59049 + mn_ct mn_ng g_165 59049 ≤ mn_ct mn_ng fso 59049 + mn_ct mn_ng fla 59049 by omega, fun q => absurd q (by decide)⟩, ⟨by rw [ht]; exact hP.sub (ws' := [(m0, .inr (6, [.ref st, .ref im, .ref kq, .ref pw, .ref nx, .ref li, .int d6, .ref il, .ref mv, .ref so, .ref la, .int d11, .int d12, .ref co])), (st, .inl (cyI, 72, .inl fs)), (pw, .inl (cyI, 11, .inl fp)), (mv, .inl (cyI, 59049, .inl mf)), (so, .inl (cyI, 59049, .inl g_162)), (la, .inl (cyI, 59049, .inl g_165)), (co, .inl (cyI, 10, .inl fc2))]) [0, 1, 2, 3, 4, 5, 6] rfl, hD.sub (ws' := [(m0, .inr (6, [.ref st, .ref im, .ref kq, .ref pw, .ref nx, .ref li, .int d6, .ref il, .ref mv, .ref so, .ref la, .int d11, .int d12, .ref co])), (st, .inl (cyI, 72, .inl fs)), (pw, .inl (cyI, 11, .inl fp)), (mv, .inl (cyI, 59049, .inl mf)), (so, .inl (cyI, 59049, .inl g_162)), (la, .inl (cyI, 59049, .inl g_165)), (co, .inl (cyI, 10, .inl fc2))]) [0, 1, 2, 3, 4, 5, 6] (by decide) rfl⟩⟩, hS.F ht⟩) hS.2.2 dX8_look_221
                      · skip
                        exact absurd c_167 (by decide)
                  · skip
                    exact absurd c_163 (by decide)
                · skip
                  exact absurd c_160 (by decide)
              · skip
                have ic_159 := ci_nle (show Int32.toInt 0 = 0 by decide) (rfl : Int32.toInt x_158 = _) c_159
                refine lv_iload hx hb dX8_look_152 (lv_at hl 7 rfl) ?_
                refine lv_if_eq (tgt := 161) hx hb dX8_look_154 (by decide) (fun c_168 => ?_) (fun c_168 => ?_)
                · skip
                  have ic_168 := ci_eq (rfl : Int32.toInt yb = _) (show Int32.toInt 0 = 0 by decide) c_168
                  refine lv_iconst (v := 0) hx hb dX8_look_161 (by decide) ?_
                  refine lv_istore (lv' := [(8, .int 0), (7, .int 0), (0, .ref m0), (1, .int (nI cv)), (2, .int p2), (3, .int (nI r9)), (4, .int (nI av)), (5, .int ya), (6, .int yb)]) hx hb dX8_look_162 hl (by decide) rfl (fun ls hl => ?_)
                  refine lv_aload_n hx hb dX8_look_164 rfl (lv_at hl 2 rfl) ?_
                  refine va_get (D := (dC, dI)) (ci := 6) (v := .ref so) (C := RX8) (T := TX8) (N := 14) hx hb hts hnX8_look_X8 hown hK hP 0 rfl rfl 9 (by decide) (hts (.fieldLink RX8 36 "RingMeetsModel" "soon" "[I") (by decide +kernel)) (fun _ h9 => h9) rfl dX8_look_165 ?_
                  refine lv_iload_n hx hb dX8_look_168 rfl (lv_at hl 3 rfl) ?_
                  refine lv_iload hx hb dX8_look_169 (lv_at hl 1 rfl) ?_
                  refine lv_if_eq (tgt := 178) hx hb dX8_look_171 (by decide) (fun c_169 => ?_) (fun c_169 => ?_)
                  · skip
                    refine lv_aload_n hx hb dX8_look_178 rfl (lv_at hl 2 rfl) ?_
                    refine va_get (D := (dC, dI)) (ci := 6) (v := .ref so) (C := RX8) (T := TX8) (N := 14) hx hb hts hnX8_look_X8 hown hK hP 0 rfl rfl 9 (by decide) (hts (.fieldLink RX8 36 "RingMeetsModel" "soon" "[I") (by decide +kernel)) (fun _ h9 => h9) rfl dX8_look_179 ?_
                    refine lv_iload_n hx hb dX8_look_182 rfl (lv_at hl 3 rfl) ?_
                    refine va_iald (D := (dC, dI)) hx hb hK hP 4 0 rfl rfl (vp_in_nI (n := cv) (N := 59049) (by omega) (by omega)) dX8_look_183 ?_
                    refine lv_topi (fun x_170 ex_170 => ?_)
                    rw [nI_clamp (n := cv) (by omega)] at ex_170
                    refine va_iast (D := (dC, dI)) hx hb hK hP hD hS 4 0 rfl rfl (vp_in_nI (n := cv) (N := 59049) (by omega) (by omega)) dX8_look_184 (fun H locs hP hD hS => ?_)
                    obtain ⟨g_171, eg_171⟩ : ∃ y : Nat → Int32, y = upd fso (Int32.toNatClampNeg (nI cv)) x_170 := ⟨_, rfl⟩
                    have hP : va_P (dC, dI) vwCl [(m0, .inr (6, [.ref st, .ref im, .ref kq, .ref pw, .ref nx, .ref li, .int d6, .ref il, .ref mv, .ref so, .ref la, .int d11, .int d12, .ref co])), (st, .inl (cyI, 72, .inl fs)), (pw, .inl (cyI, 11, .inl fp)), (mv, .inl (cyI, 59049, .inl mf)), (so, .inl (cyI, 59049, .inl g_171)), (la, .inl (cyI, 59049, .inl fla)), (co, .inl (cyI, 10, .inl fc2))] H := by rw [eg_171]; exact hP
                    have hD : va_D A [(m0, .inr (6, [.ref st, .ref im, .ref kq, .ref pw, .ref nx, .ref li, .int d6, .ref il, .ref mv, .ref so, .ref la, .int d11, .int d12, .ref co])), (st, .inl (cyI, 72, .inl fs)), (pw, .inl (cyI, 11, .inl fp)), (mv, .inl (cyI, 59049, .inl mf)), (so, .inl (cyI, 59049, .inl g_171)), (la, .inl (cyI, 59049, .inl fla)), (co, .inl (cyI, 10, .inl fc2))] := by rw [eg_171]; exact hD
                    rw [nI_clamp (n := cv) (by omega)] at eg_171
                    have hcs : mn_ct mn_ng g_171 59049 = mn_ct mn_ng fso 59049 := mn_ct_eq hc9 eg_171 ex_170
                    refine lv_aload_n hx hb dX8_look_185 rfl (lv_at hl 2 rfl) ?_
                    refine va_get (D := (dC, dI)) (ci := 6) (v := .ref la) (C := RX8) (T := TX8) (N := 14) hx hb hts hnX8_look_X8 hown hK hP 0 rfl rfl 10 (by decide) (hts (.fieldLink RX8 39 "RingMeetsModel" "late" "[I") (by decide +kernel)) (fun _ h9 => h9) rfl dX8_look_186 ?_
                    refine lv_iload_n hx hb dX8_look_189 rfl (lv_at hl 3 rfl) ?_
                    refine lv_iload hx hb dX8_look_190 (lv_at hl 0 rfl) ?_
                    refine lv_if_eq (tgt := 199) hx hb dX8_look_192 (by decide) (fun c_172 => ?_) (fun c_172 => ?_)
                    · skip
                      refine lv_aload_n hx hb dX8_look_199 rfl (lv_at hl 2 rfl) ?_
                      refine va_get (D := (dC, dI)) (ci := 6) (v := .ref la) (C := RX8) (T := TX8) (N := 14) hx hb hts hnX8_look_X8 hown hK hP 0 rfl rfl 10 (by decide) (hts (.fieldLink RX8 39 "RingMeetsModel" "late" "[I") (by decide +kernel)) (fun _ h9 => h9) rfl dX8_look_200 ?_
                      refine lv_iload_n hx hb dX8_look_203 rfl (lv_at hl 3 rfl) ?_
                      refine va_iald (D := (dC, dI)) hx hb hK hP 5 0 rfl rfl (vp_in_nI (n := cv) (N := 59049) (by omega) (by omega)) dX8_look_204 ?_
                      refine lv_topi (fun x_173 ex_173 => ?_)
                      rw [nI_clamp (n := cv) (by omega)] at ex_173
                      refine va_iast (D := (dC, dI)) hx hb hK hP hD hS 5 0 rfl rfl (vp_in_nI (n := cv) (N := 59049) (by omega) (by omega)) dX8_look_205 (fun H locs hP hD hS => ?_)
                      obtain ⟨g_174, eg_174⟩ : ∃ y : Nat → Int32, y = upd fla (Int32.toNatClampNeg (nI cv)) x_173 := ⟨_, rfl⟩
                      have hP : va_P (dC, dI) vwCl [(m0, .inr (6, [.ref st, .ref im, .ref kq, .ref pw, .ref nx, .ref li, .int d6, .ref il, .ref mv, .ref so, .ref la, .int d11, .int d12, .ref co])), (st, .inl (cyI, 72, .inl fs)), (pw, .inl (cyI, 11, .inl fp)), (mv, .inl (cyI, 59049, .inl mf)), (so, .inl (cyI, 59049, .inl g_171)), (la, .inl (cyI, 59049, .inl g_174)), (co, .inl (cyI, 10, .inl fc2))] H := by rw [eg_174]; exact hP
                      have hD : va_D A [(m0, .inr (6, [.ref st, .ref im, .ref kq, .ref pw, .ref nx, .ref li, .int d6, .ref il, .ref mv, .ref so, .ref la, .int d11, .int d12, .ref co])), (st, .inl (cyI, 72, .inl fs)), (pw, .inl (cyI, 11, .inl fp)), (mv, .inl (cyI, 59049, .inl mf)), (so, .inl (cyI, 59049, .inl g_171)), (la, .inl (cyI, 59049, .inl g_174)), (co, .inl (cyI, 10, .inl fc2))] := by rw [eg_174]; exact hD
                      rw [nI_clamp (n := cv) (by omega)] at eg_174
                      have hcl : mn_ct mn_ng g_174 59049 = mn_ct mn_ng fla 59049 := mn_ct_eq hc9 eg_174 ex_173
                      refine lv_iload hx hb dX8_look_206 (lv_at hl 1 rfl) ?_
                      refine lv_if_ne (tgt := 216) hx hb dX8_look_208 (by decide) (fun c_175 => ?_) (fun c_175 => ?_)
                      · skip
                        exact absurd c_175 (by decide)
                      · skip
                        refine lv_iload hx hb dX8_look_211 (lv_at hl 0 rfl) ?_
                        refine lv_if_eq (tgt := 220) hx hb dX8_look_213 (by decide) (fun c_176 => ?_) (fun c_176 => ?_)
                        · skip
                          refine lv_iconst (v := 0) hx hb dX8_look_220 (by decide) ?_
                          exact W.zret (v := 0) hx hb hr (show narrow .boolean (.int 0) = .int 0 from rfl) (fun t ht hW => ⟨⟨0, (g_171, g_174, fc2), rfl, ⟨Or.inl rfl, show mn_ct mn_ng g_171 59049 + mn_ct mn_ng g_174 59049 ≤ mn_ct mn_ng fso 59049 + mn_ct mn_ng fla 59049 by omega, fun q => absurd q (by decide)⟩, ⟨by rw [ht]; exact hP.sub (ws' := [(m0, .inr (6, [.ref st, .ref im, .ref kq, .ref pw, .ref nx, .ref li, .int d6, .ref il, .ref mv, .ref so, .ref la, .int d11, .int d12, .ref co])), (st, .inl (cyI, 72, .inl fs)), (pw, .inl (cyI, 11, .inl fp)), (mv, .inl (cyI, 59049, .inl mf)), (so, .inl (cyI, 59049, .inl g_171)), (la, .inl (cyI, 59049, .inl g_174)), (co, .inl (cyI, 10, .inl fc2))]) [0, 1, 2, 3, 4, 5, 6] rfl, hD.sub (ws' := [(m0, .inr (6, [.ref st, .ref im, .ref kq, .ref pw, .ref nx, .ref li, .int d6, .ref il, .ref mv, .ref so, .ref la, .int d11, .int d12, .ref co])), (st, .inl (cyI, 72, .inl fs)), (pw, .inl (cyI, 11, .inl fp)), (mv, .inl (cyI, 59049, .inl mf)), (so, .inl (cyI, 59049, .inl g_171)), (la, .inl (cyI, 59049, .inl g_174)), (co, .inl (cyI, 10, .inl fc2))]) [0, 1, 2, 3, 4, 5, 6] (by decide) rfl⟩⟩, hS.F ht⟩) hS.2.2 dX8_look_221
                        · skip
                          exact absurd c_176 (by decide)
                    · skip
                      exact absurd c_172 (by decide)
                  · skip
                    exact absurd c_169 (by decide)
                · skip
                  have ic_168 := ci_ne (rfl : Int32.toInt yb = _) (show Int32.toInt 0 = 0 by decide) c_168
                  refine lv_iconst (v := 1) hx hb dX8_look_157 (by decide) ?_
                  refine lv_goto (tgt := 162) hx hb dX8_look_158 (by decide) ?_
                  refine lv_istore (lv' := [(8, .int 1), (7, .int 0), (0, .ref m0), (1, .int (nI cv)), (2, .int p2), (3, .int (nI r9)), (4, .int (nI av)), (5, .int ya), (6, .int yb)]) hx hb dX8_look_162 hl (by decide) rfl (fun ls hl => ?_)
                  refine lv_aload_n hx hb dX8_look_164 rfl (lv_at hl 2 rfl) ?_
                  refine va_get (D := (dC, dI)) (ci := 6) (v := .ref so) (C := RX8) (T := TX8) (N := 14) hx hb hts hnX8_look_X8 hown hK hP 0 rfl rfl 9 (by decide) (hts (.fieldLink RX8 36 "RingMeetsModel" "soon" "[I") (by decide +kernel)) (fun _ h9 => h9) rfl dX8_look_165 ?_
                  refine lv_iload_n hx hb dX8_look_168 rfl (lv_at hl 3 rfl) ?_
                  refine lv_iload hx hb dX8_look_169 (lv_at hl 1 rfl) ?_
                  refine lv_if_eq (tgt := 178) hx hb dX8_look_171 (by decide) (fun c_177 => ?_) (fun c_177 => ?_)
                  · skip
                    refine lv_aload_n hx hb dX8_look_178 rfl (lv_at hl 2 rfl) ?_
                    refine va_get (D := (dC, dI)) (ci := 6) (v := .ref so) (C := RX8) (T := TX8) (N := 14) hx hb hts hnX8_look_X8 hown hK hP 0 rfl rfl 9 (by decide) (hts (.fieldLink RX8 36 "RingMeetsModel" "soon" "[I") (by decide +kernel)) (fun _ h9 => h9) rfl dX8_look_179 ?_
                    refine lv_iload_n hx hb dX8_look_182 rfl (lv_at hl 3 rfl) ?_
                    refine va_iald (D := (dC, dI)) hx hb hK hP 4 0 rfl rfl (vp_in_nI (n := cv) (N := 59049) (by omega) (by omega)) dX8_look_183 ?_
                    refine lv_topi (fun x_178 ex_178 => ?_)
                    rw [nI_clamp (n := cv) (by omega)] at ex_178
                    refine va_iast (D := (dC, dI)) hx hb hK hP hD hS 4 0 rfl rfl (vp_in_nI (n := cv) (N := 59049) (by omega) (by omega)) dX8_look_184 (fun H locs hP hD hS => ?_)
                    obtain ⟨g_179, eg_179⟩ : ∃ y : Nat → Int32, y = upd fso (Int32.toNatClampNeg (nI cv)) x_178 := ⟨_, rfl⟩
                    have hP : va_P (dC, dI) vwCl [(m0, .inr (6, [.ref st, .ref im, .ref kq, .ref pw, .ref nx, .ref li, .int d6, .ref il, .ref mv, .ref so, .ref la, .int d11, .int d12, .ref co])), (st, .inl (cyI, 72, .inl fs)), (pw, .inl (cyI, 11, .inl fp)), (mv, .inl (cyI, 59049, .inl mf)), (so, .inl (cyI, 59049, .inl g_179)), (la, .inl (cyI, 59049, .inl fla)), (co, .inl (cyI, 10, .inl fc2))] H := by rw [eg_179]; exact hP
                    have hD : va_D A [(m0, .inr (6, [.ref st, .ref im, .ref kq, .ref pw, .ref nx, .ref li, .int d6, .ref il, .ref mv, .ref so, .ref la, .int d11, .int d12, .ref co])), (st, .inl (cyI, 72, .inl fs)), (pw, .inl (cyI, 11, .inl fp)), (mv, .inl (cyI, 59049, .inl mf)), (so, .inl (cyI, 59049, .inl g_179)), (la, .inl (cyI, 59049, .inl fla)), (co, .inl (cyI, 10, .inl fc2))] := by rw [eg_179]; exact hD
                    rw [nI_clamp (n := cv) (by omega)] at eg_179
                    have hcs : mn_ct mn_ng g_179 59049 = mn_ct mn_ng fso 59049 := mn_ct_eq hc9 eg_179 ex_178
                    refine lv_aload_n hx hb dX8_look_185 rfl (lv_at hl 2 rfl) ?_
                    refine va_get (D := (dC, dI)) (ci := 6) (v := .ref la) (C := RX8) (T := TX8) (N := 14) hx hb hts hnX8_look_X8 hown hK hP 0 rfl rfl 10 (by decide) (hts (.fieldLink RX8 39 "RingMeetsModel" "late" "[I") (by decide +kernel)) (fun _ h9 => h9) rfl dX8_look_186 ?_
                    refine lv_iload_n hx hb dX8_look_189 rfl (lv_at hl 3 rfl) ?_
                    refine lv_iload hx hb dX8_look_190 (lv_at hl 0 rfl) ?_
                    refine lv_if_eq (tgt := 199) hx hb dX8_look_192 (by decide) (fun c_180 => ?_) (fun c_180 => ?_)
                    · skip
                      exact absurd c_180 (by decide)
                    · skip
                      refine lv_iload_n hx hb dX8_look_195 rfl (lv_at hl 5 rfl) ?_
                      refine lv_goto (tgt := 205) hx hb dX8_look_196 (by decide) ?_
                      refine va_iast (D := (dC, dI)) hx hb hK hP hD hS 5 0 rfl rfl (vp_in_nI (n := cv) (N := 59049) (by omega) (by omega)) dX8_look_205 (fun H locs hP hD hS => ?_)
                      obtain ⟨g_181, eg_181⟩ : ∃ y : Nat → Int32, y = upd fla (Int32.toNatClampNeg (nI cv)) (nI r9) := ⟨_, rfl⟩
                      have hP : va_P (dC, dI) vwCl [(m0, .inr (6, [.ref st, .ref im, .ref kq, .ref pw, .ref nx, .ref li, .int d6, .ref il, .ref mv, .ref so, .ref la, .int d11, .int d12, .ref co])), (st, .inl (cyI, 72, .inl fs)), (pw, .inl (cyI, 11, .inl fp)), (mv, .inl (cyI, 59049, .inl mf)), (so, .inl (cyI, 59049, .inl g_179)), (la, .inl (cyI, 59049, .inl g_181)), (co, .inl (cyI, 10, .inl fc2))] H := by rw [eg_181]; exact hP
                      have hD : va_D A [(m0, .inr (6, [.ref st, .ref im, .ref kq, .ref pw, .ref nx, .ref li, .int d6, .ref il, .ref mv, .ref so, .ref la, .int d11, .int d12, .ref co])), (st, .inl (cyI, 72, .inl fs)), (pw, .inl (cyI, 11, .inl fp)), (mv, .inl (cyI, 59049, .inl mf)), (so, .inl (cyI, 59049, .inl g_179)), (la, .inl (cyI, 59049, .inl g_181)), (co, .inl (cyI, 10, .inl fc2))] := by rw [eg_181]; exact hD
                      rw [nI_clamp (n := cv) (by omega)] at eg_181
                      have hcl : mn_ct mn_ng g_181 59049 + 1 = mn_ct mn_ng fla 59049 := mn_ct_dn hc9 ex_158 c_159 eg_181 rfl (by omega)
                      refine lv_iload hx hb dX8_look_206 (lv_at hl 1 rfl) ?_
                      refine lv_if_ne (tgt := 216) hx hb dX8_look_208 (by decide) (fun c_182 => ?_) (fun c_182 => ?_)
                      · skip
                        exact absurd c_182 (by decide)
                      · skip
                        refine lv_iload hx hb dX8_look_211 (lv_at hl 0 rfl) ?_
                        refine lv_if_eq (tgt := 220) hx hb dX8_look_213 (by decide) (fun c_183 => ?_) (fun c_183 => ?_)
                        · skip
                          exact absurd c_183 (by decide)
                        · skip
                          refine lv_iconst (v := 1) hx hb dX8_look_216 (by decide) ?_
                          refine lv_goto (tgt := 221) hx hb dX8_look_217 (by decide) ?_
                          exact W.zret (v := 1) hx hb hr (show narrow .boolean (.int 1) = .int 1 from rfl) (fun t ht hW => ⟨⟨1, (g_179, g_181, fc2), rfl, ⟨Or.inr rfl, show mn_ct mn_ng g_179 59049 + mn_ct mn_ng g_181 59049 ≤ mn_ct mn_ng fso 59049 + mn_ct mn_ng fla 59049 by omega, fun _ => show mn_ct mn_ng g_179 59049 + mn_ct mn_ng g_181 59049 < mn_ct mn_ng fso 59049 + mn_ct mn_ng fla 59049 by omega⟩, ⟨by rw [ht]; exact hP.sub (ws' := [(m0, .inr (6, [.ref st, .ref im, .ref kq, .ref pw, .ref nx, .ref li, .int d6, .ref il, .ref mv, .ref so, .ref la, .int d11, .int d12, .ref co])), (st, .inl (cyI, 72, .inl fs)), (pw, .inl (cyI, 11, .inl fp)), (mv, .inl (cyI, 59049, .inl mf)), (so, .inl (cyI, 59049, .inl g_179)), (la, .inl (cyI, 59049, .inl g_181)), (co, .inl (cyI, 10, .inl fc2))]) [0, 1, 2, 3, 4, 5, 6] rfl, hD.sub (ws' := [(m0, .inr (6, [.ref st, .ref im, .ref kq, .ref pw, .ref nx, .ref li, .int d6, .ref il, .ref mv, .ref so, .ref la, .int d11, .int d12, .ref co])), (st, .inl (cyI, 72, .inl fs)), (pw, .inl (cyI, 11, .inl fp)), (mv, .inl (cyI, 59049, .inl mf)), (so, .inl (cyI, 59049, .inl g_179)), (la, .inl (cyI, 59049, .inl g_181)), (co, .inl (cyI, 10, .inl fc2))]) [0, 1, 2, 3, 4, 5, 6] (by decide) rfl⟩⟩, hS.F ht⟩) hS.2.2 dX8_look_221
                  · skip
                    exact absurd c_177 (by decide)
            · skip
              have ic_157 := ci_ne (rfl : Int32.toInt ya = _) (show Int32.toInt 0 = 0 by decide) c_157
              refine lv_iconst (v := 1) hx hb dX8_look_136 (by decide) ?_
              refine lv_goto (tgt := 141) hx hb dX8_look_137 (by decide) ?_
              refine lv_istore (lv' := [(7, .int 1), (0, .ref m0), (1, .int (nI cv)), (2, .int p2), (3, .int (nI r9)), (4, .int (nI av)), (5, .int ya), (6, .int yb)]) hx hb dX8_look_141 hl (by decide) rfl (fun ls hl => ?_)
              refine lv_aload_n hx hb dX8_look_143 rfl (lv_at hl 1 rfl) ?_
              refine va_get (D := (dC, dI)) (ci := 6) (v := .ref la) (C := RX8) (T := TX8) (N := 14) hx hb hts hnX8_look_X8 hown hK hP 0 rfl rfl 10 (by decide) (hts (.fieldLink RX8 39 "RingMeetsModel" "late" "[I") (by decide +kernel)) (fun _ h9 => h9) rfl dX8_look_144 ?_
              refine lv_iload_n hx hb dX8_look_147 rfl (lv_at hl 2 rfl) ?_
              refine va_iald (D := (dC, dI)) hx hb hK hP 5 0 rfl rfl (vp_in_nI (n := cv) (N := 59049) (by omega) (by omega)) dX8_look_148 ?_
              refine lv_topi (fun x_184 ex_184 => ?_)
              rw [nI_clamp (n := cv) (by omega)] at ex_184
              refine lv_if_ge (tgt := 161) hx hb dX8_look_149 (by decide) (fun c_185 => ?_) (fun c_185 => ?_)
              · skip
                have ic_185 := ci_le (show Int32.toInt 0 = 0 by decide) (rfl : Int32.toInt x_184 = _) c_185
                refine lv_iconst (v := 0) hx hb dX8_look_161 (by decide) ?_
                refine lv_istore (lv' := [(8, .int 0), (7, .int 1), (0, .ref m0), (1, .int (nI cv)), (2, .int p2), (3, .int (nI r9)), (4, .int (nI av)), (5, .int ya), (6, .int yb)]) hx hb dX8_look_162 hl (by decide) rfl (fun ls hl => ?_)
                refine lv_aload_n hx hb dX8_look_164 rfl (lv_at hl 2 rfl) ?_
                refine va_get (D := (dC, dI)) (ci := 6) (v := .ref so) (C := RX8) (T := TX8) (N := 14) hx hb hts hnX8_look_X8 hown hK hP 0 rfl rfl 9 (by decide) (hts (.fieldLink RX8 36 "RingMeetsModel" "soon" "[I") (by decide +kernel)) (fun _ h9 => h9) rfl dX8_look_165 ?_
                refine lv_iload_n hx hb dX8_look_168 rfl (lv_at hl 3 rfl) ?_
                refine lv_iload hx hb dX8_look_169 (lv_at hl 1 rfl) ?_
                refine lv_if_eq (tgt := 178) hx hb dX8_look_171 (by decide) (fun c_186 => ?_) (fun c_186 => ?_)
                · skip
                  exact absurd c_186 (by decide)
                · skip
                  refine lv_iload_n hx hb dX8_look_174 rfl (lv_at hl 5 rfl) ?_
                  refine lv_goto (tgt := 184) hx hb dX8_look_175 (by decide) ?_
                  refine va_iast (D := (dC, dI)) hx hb hK hP hD hS 4 0 rfl rfl (vp_in_nI (n := cv) (N := 59049) (by omega) (by omega)) dX8_look_184 (fun H locs hP hD hS => ?_)
                  obtain ⟨g_187, eg_187⟩ : ∃ y : Nat → Int32, y = upd fso (Int32.toNatClampNeg (nI cv)) (nI r9) := ⟨_, rfl⟩
                  have hP : va_P (dC, dI) vwCl [(m0, .inr (6, [.ref st, .ref im, .ref kq, .ref pw, .ref nx, .ref li, .int d6, .ref il, .ref mv, .ref so, .ref la, .int d11, .int d12, .ref co])), (st, .inl (cyI, 72, .inl fs)), (pw, .inl (cyI, 11, .inl fp)), (mv, .inl (cyI, 59049, .inl mf)), (so, .inl (cyI, 59049, .inl g_187)), (la, .inl (cyI, 59049, .inl fla)), (co, .inl (cyI, 10, .inl fc2))] H := by rw [eg_187]; exact hP
                  have hD : va_D A [(m0, .inr (6, [.ref st, .ref im, .ref kq, .ref pw, .ref nx, .ref li, .int d6, .ref il, .ref mv, .ref so, .ref la, .int d11, .int d12, .ref co])), (st, .inl (cyI, 72, .inl fs)), (pw, .inl (cyI, 11, .inl fp)), (mv, .inl (cyI, 59049, .inl mf)), (so, .inl (cyI, 59049, .inl g_187)), (la, .inl (cyI, 59049, .inl fla)), (co, .inl (cyI, 10, .inl fc2))] := by rw [eg_187]; exact hD
                  rw [nI_clamp (n := cv) (by omega)] at eg_187
                  have hcs : mn_ct mn_ng g_187 59049 + 1 = mn_ct mn_ng fso 59049 := mn_ct_dn hc9 ex_129 c_130 eg_187 rfl (by omega)
                  refine lv_aload_n hx hb dX8_look_185 rfl (lv_at hl 2 rfl) ?_
                  refine va_get (D := (dC, dI)) (ci := 6) (v := .ref la) (C := RX8) (T := TX8) (N := 14) hx hb hts hnX8_look_X8 hown hK hP 0 rfl rfl 10 (by decide) (hts (.fieldLink RX8 39 "RingMeetsModel" "late" "[I") (by decide +kernel)) (fun _ h9 => h9) rfl dX8_look_186 ?_
                  refine lv_iload_n hx hb dX8_look_189 rfl (lv_at hl 3 rfl) ?_
                  refine lv_iload hx hb dX8_look_190 (lv_at hl 0 rfl) ?_
                  refine lv_if_eq (tgt := 199) hx hb dX8_look_192 (by decide) (fun c_188 => ?_) (fun c_188 => ?_)
                  · skip
                    refine lv_aload_n hx hb dX8_look_199 rfl (lv_at hl 2 rfl) ?_
                    refine va_get (D := (dC, dI)) (ci := 6) (v := .ref la) (C := RX8) (T := TX8) (N := 14) hx hb hts hnX8_look_X8 hown hK hP 0 rfl rfl 10 (by decide) (hts (.fieldLink RX8 39 "RingMeetsModel" "late" "[I") (by decide +kernel)) (fun _ h9 => h9) rfl dX8_look_200 ?_
                    refine lv_iload_n hx hb dX8_look_203 rfl (lv_at hl 3 rfl) ?_
                    refine va_iald (D := (dC, dI)) hx hb hK hP 5 0 rfl rfl (vp_in_nI (n := cv) (N := 59049) (by omega) (by omega)) dX8_look_204 ?_
                    refine lv_topi (fun x_189 ex_189 => ?_)
                    rw [nI_clamp (n := cv) (by omega)] at ex_189
                    refine va_iast (D := (dC, dI)) hx hb hK hP hD hS 5 0 rfl rfl (vp_in_nI (n := cv) (N := 59049) (by omega) (by omega)) dX8_look_205 (fun H locs hP hD hS => ?_)
                    obtain ⟨g_190, eg_190⟩ : ∃ y : Nat → Int32, y = upd fla (Int32.toNatClampNeg (nI cv)) x_189 := ⟨_, rfl⟩
                    have hP : va_P (dC, dI) vwCl [(m0, .inr (6, [.ref st, .ref im, .ref kq, .ref pw, .ref nx, .ref li, .int d6, .ref il, .ref mv, .ref so, .ref la, .int d11, .int d12, .ref co])), (st, .inl (cyI, 72, .inl fs)), (pw, .inl (cyI, 11, .inl fp)), (mv, .inl (cyI, 59049, .inl mf)), (so, .inl (cyI, 59049, .inl g_187)), (la, .inl (cyI, 59049, .inl g_190)), (co, .inl (cyI, 10, .inl fc2))] H := by rw [eg_190]; exact hP
                    have hD : va_D A [(m0, .inr (6, [.ref st, .ref im, .ref kq, .ref pw, .ref nx, .ref li, .int d6, .ref il, .ref mv, .ref so, .ref la, .int d11, .int d12, .ref co])), (st, .inl (cyI, 72, .inl fs)), (pw, .inl (cyI, 11, .inl fp)), (mv, .inl (cyI, 59049, .inl mf)), (so, .inl (cyI, 59049, .inl g_187)), (la, .inl (cyI, 59049, .inl g_190)), (co, .inl (cyI, 10, .inl fc2))] := by rw [eg_190]; exact hD
                    rw [nI_clamp (n := cv) (by omega)] at eg_190
                    have hcl : mn_ct mn_ng g_190 59049 = mn_ct mn_ng fla 59049 := mn_ct_eq hc9 eg_190 ex_189
                    refine lv_iload hx hb dX8_look_206 (lv_at hl 1 rfl) ?_
                    refine lv_if_ne (tgt := 216) hx hb dX8_look_208 (by decide) (fun c_191 => ?_) (fun c_191 => ?_)
                    · skip
                      refine lv_iconst (v := 1) hx hb dX8_look_216 (by decide) ?_
                      refine lv_goto (tgt := 221) hx hb dX8_look_217 (by decide) ?_
                      exact W.zret (v := 1) hx hb hr (show narrow .boolean (.int 1) = .int 1 from rfl) (fun t ht hW => ⟨⟨1, (g_187, g_190, fc2), rfl, ⟨Or.inr rfl, show mn_ct mn_ng g_187 59049 + mn_ct mn_ng g_190 59049 ≤ mn_ct mn_ng fso 59049 + mn_ct mn_ng fla 59049 by omega, fun _ => show mn_ct mn_ng g_187 59049 + mn_ct mn_ng g_190 59049 < mn_ct mn_ng fso 59049 + mn_ct mn_ng fla 59049 by omega⟩, ⟨by rw [ht]; exact hP.sub (ws' := [(m0, .inr (6, [.ref st, .ref im, .ref kq, .ref pw, .ref nx, .ref li, .int d6, .ref il, .ref mv, .ref so, .ref la, .int d11, .int d12, .ref co])), (st, .inl (cyI, 72, .inl fs)), (pw, .inl (cyI, 11, .inl fp)), (mv, .inl (cyI, 59049, .inl mf)), (so, .inl (cyI, 59049, .inl g_187)), (la, .inl (cyI, 59049, .inl g_190)), (co, .inl (cyI, 10, .inl fc2))]) [0, 1, 2, 3, 4, 5, 6] rfl, hD.sub (ws' := [(m0, .inr (6, [.ref st, .ref im, .ref kq, .ref pw, .ref nx, .ref li, .int d6, .ref il, .ref mv, .ref so, .ref la, .int d11, .int d12, .ref co])), (st, .inl (cyI, 72, .inl fs)), (pw, .inl (cyI, 11, .inl fp)), (mv, .inl (cyI, 59049, .inl mf)), (so, .inl (cyI, 59049, .inl g_187)), (la, .inl (cyI, 59049, .inl g_190)), (co, .inl (cyI, 10, .inl fc2))]) [0, 1, 2, 3, 4, 5, 6] (by decide) rfl⟩⟩, hS.F ht⟩) hS.2.2 dX8_look_221
                    · skip
                      exact absurd c_191 (by decide)
                  · skip
                    exact absurd c_188 (by decide)
              · skip
                have ic_185 := ci_nle (show Int32.toInt 0 = 0 by decide) (rfl : Int32.toInt x_184 = _) c_185
                refine lv_iload hx hb dX8_look_152 (lv_at hl 7 rfl) ?_
                refine lv_if_eq (tgt := 161) hx hb dX8_look_154 (by decide) (fun c_192 => ?_) (fun c_192 => ?_)
                · skip
                  have ic_192 := ci_eq (rfl : Int32.toInt yb = _) (show Int32.toInt 0 = 0 by decide) c_192
                  refine lv_iconst (v := 0) hx hb dX8_look_161 (by decide) ?_
                  refine lv_istore (lv' := [(8, .int 0), (7, .int 1), (0, .ref m0), (1, .int (nI cv)), (2, .int p2), (3, .int (nI r9)), (4, .int (nI av)), (5, .int ya), (6, .int yb)]) hx hb dX8_look_162 hl (by decide) rfl (fun ls hl => ?_)
                  refine lv_aload_n hx hb dX8_look_164 rfl (lv_at hl 2 rfl) ?_
                  refine va_get (D := (dC, dI)) (ci := 6) (v := .ref so) (C := RX8) (T := TX8) (N := 14) hx hb hts hnX8_look_X8 hown hK hP 0 rfl rfl 9 (by decide) (hts (.fieldLink RX8 36 "RingMeetsModel" "soon" "[I") (by decide +kernel)) (fun _ h9 => h9) rfl dX8_look_165 ?_
                  refine lv_iload_n hx hb dX8_look_168 rfl (lv_at hl 3 rfl) ?_
                  refine lv_iload hx hb dX8_look_169 (lv_at hl 1 rfl) ?_
                  refine lv_if_eq (tgt := 178) hx hb dX8_look_171 (by decide) (fun c_193 => ?_) (fun c_193 => ?_)
                  · skip
                    exact absurd c_193 (by decide)
                  · skip
                    refine lv_iload_n hx hb dX8_look_174 rfl (lv_at hl 5 rfl) ?_
                    refine lv_goto (tgt := 184) hx hb dX8_look_175 (by decide) ?_
                    refine va_iast (D := (dC, dI)) hx hb hK hP hD hS 4 0 rfl rfl (vp_in_nI (n := cv) (N := 59049) (by omega) (by omega)) dX8_look_184 (fun H locs hP hD hS => ?_)
                    obtain ⟨g_194, eg_194⟩ : ∃ y : Nat → Int32, y = upd fso (Int32.toNatClampNeg (nI cv)) (nI r9) := ⟨_, rfl⟩
                    have hP : va_P (dC, dI) vwCl [(m0, .inr (6, [.ref st, .ref im, .ref kq, .ref pw, .ref nx, .ref li, .int d6, .ref il, .ref mv, .ref so, .ref la, .int d11, .int d12, .ref co])), (st, .inl (cyI, 72, .inl fs)), (pw, .inl (cyI, 11, .inl fp)), (mv, .inl (cyI, 59049, .inl mf)), (so, .inl (cyI, 59049, .inl g_194)), (la, .inl (cyI, 59049, .inl fla)), (co, .inl (cyI, 10, .inl fc2))] H := by rw [eg_194]; exact hP
                    have hD : va_D A [(m0, .inr (6, [.ref st, .ref im, .ref kq, .ref pw, .ref nx, .ref li, .int d6, .ref il, .ref mv, .ref so, .ref la, .int d11, .int d12, .ref co])), (st, .inl (cyI, 72, .inl fs)), (pw, .inl (cyI, 11, .inl fp)), (mv, .inl (cyI, 59049, .inl mf)), (so, .inl (cyI, 59049, .inl g_194)), (la, .inl (cyI, 59049, .inl fla)), (co, .inl (cyI, 10, .inl fc2))] := by rw [eg_194]; exact hD
                    rw [nI_clamp (n := cv) (by omega)] at eg_194
                    have hcs : mn_ct mn_ng g_194 59049 + 1 = mn_ct mn_ng fso 59049 := mn_ct_dn hc9 ex_129 c_130 eg_194 rfl (by omega)
                    refine lv_aload_n hx hb dX8_look_185 rfl (lv_at hl 2 rfl) ?_
                    refine va_get (D := (dC, dI)) (ci := 6) (v := .ref la) (C := RX8) (T := TX8) (N := 14) hx hb hts hnX8_look_X8 hown hK hP 0 rfl rfl 10 (by decide) (hts (.fieldLink RX8 39 "RingMeetsModel" "late" "[I") (by decide +kernel)) (fun _ h9 => h9) rfl dX8_look_186 ?_
                    refine lv_iload_n hx hb dX8_look_189 rfl (lv_at hl 3 rfl) ?_
                    refine lv_iload hx hb dX8_look_190 (lv_at hl 0 rfl) ?_
                    refine lv_if_eq (tgt := 199) hx hb dX8_look_192 (by decide) (fun c_195 => ?_) (fun c_195 => ?_)
                    · skip
                      refine lv_aload_n hx hb dX8_look_199 rfl (lv_at hl 2 rfl) ?_
                      refine va_get (D := (dC, dI)) (ci := 6) (v := .ref la) (C := RX8) (T := TX8) (N := 14) hx hb hts hnX8_look_X8 hown hK hP 0 rfl rfl 10 (by decide) (hts (.fieldLink RX8 39 "RingMeetsModel" "late" "[I") (by decide +kernel)) (fun _ h9 => h9) rfl dX8_look_200 ?_
                      refine lv_iload_n hx hb dX8_look_203 rfl (lv_at hl 3 rfl) ?_
                      refine va_iald (D := (dC, dI)) hx hb hK hP 5 0 rfl rfl (vp_in_nI (n := cv) (N := 59049) (by omega) (by omega)) dX8_look_204 ?_
                      refine lv_topi (fun x_196 ex_196 => ?_)
                      rw [nI_clamp (n := cv) (by omega)] at ex_196
                      refine va_iast (D := (dC, dI)) hx hb hK hP hD hS 5 0 rfl rfl (vp_in_nI (n := cv) (N := 59049) (by omega) (by omega)) dX8_look_205 (fun H locs hP hD hS => ?_)
                      obtain ⟨g_197, eg_197⟩ : ∃ y : Nat → Int32, y = upd fla (Int32.toNatClampNeg (nI cv)) x_196 := ⟨_, rfl⟩
                      have hP : va_P (dC, dI) vwCl [(m0, .inr (6, [.ref st, .ref im, .ref kq, .ref pw, .ref nx, .ref li, .int d6, .ref il, .ref mv, .ref so, .ref la, .int d11, .int d12, .ref co])), (st, .inl (cyI, 72, .inl fs)), (pw, .inl (cyI, 11, .inl fp)), (mv, .inl (cyI, 59049, .inl mf)), (so, .inl (cyI, 59049, .inl g_194)), (la, .inl (cyI, 59049, .inl g_197)), (co, .inl (cyI, 10, .inl fc2))] H := by rw [eg_197]; exact hP
                      have hD : va_D A [(m0, .inr (6, [.ref st, .ref im, .ref kq, .ref pw, .ref nx, .ref li, .int d6, .ref il, .ref mv, .ref so, .ref la, .int d11, .int d12, .ref co])), (st, .inl (cyI, 72, .inl fs)), (pw, .inl (cyI, 11, .inl fp)), (mv, .inl (cyI, 59049, .inl mf)), (so, .inl (cyI, 59049, .inl g_194)), (la, .inl (cyI, 59049, .inl g_197)), (co, .inl (cyI, 10, .inl fc2))] := by rw [eg_197]; exact hD
                      rw [nI_clamp (n := cv) (by omega)] at eg_197
                      have hcl : mn_ct mn_ng g_197 59049 = mn_ct mn_ng fla 59049 := mn_ct_eq hc9 eg_197 ex_196
                      refine lv_iload hx hb dX8_look_206 (lv_at hl 1 rfl) ?_
                      refine lv_if_ne (tgt := 216) hx hb dX8_look_208 (by decide) (fun c_198 => ?_) (fun c_198 => ?_)
                      · skip
                        refine lv_iconst (v := 1) hx hb dX8_look_216 (by decide) ?_
                        refine lv_goto (tgt := 221) hx hb dX8_look_217 (by decide) ?_
                        exact W.zret (v := 1) hx hb hr (show narrow .boolean (.int 1) = .int 1 from rfl) (fun t ht hW => ⟨⟨1, (g_194, g_197, fc2), rfl, ⟨Or.inr rfl, show mn_ct mn_ng g_194 59049 + mn_ct mn_ng g_197 59049 ≤ mn_ct mn_ng fso 59049 + mn_ct mn_ng fla 59049 by omega, fun _ => show mn_ct mn_ng g_194 59049 + mn_ct mn_ng g_197 59049 < mn_ct mn_ng fso 59049 + mn_ct mn_ng fla 59049 by omega⟩, ⟨by rw [ht]; exact hP.sub (ws' := [(m0, .inr (6, [.ref st, .ref im, .ref kq, .ref pw, .ref nx, .ref li, .int d6, .ref il, .ref mv, .ref so, .ref la, .int d11, .int d12, .ref co])), (st, .inl (cyI, 72, .inl fs)), (pw, .inl (cyI, 11, .inl fp)), (mv, .inl (cyI, 59049, .inl mf)), (so, .inl (cyI, 59049, .inl g_194)), (la, .inl (cyI, 59049, .inl g_197)), (co, .inl (cyI, 10, .inl fc2))]) [0, 1, 2, 3, 4, 5, 6] rfl, hD.sub (ws' := [(m0, .inr (6, [.ref st, .ref im, .ref kq, .ref pw, .ref nx, .ref li, .int d6, .ref il, .ref mv, .ref so, .ref la, .int d11, .int d12, .ref co])), (st, .inl (cyI, 72, .inl fs)), (pw, .inl (cyI, 11, .inl fp)), (mv, .inl (cyI, 59049, .inl mf)), (so, .inl (cyI, 59049, .inl g_194)), (la, .inl (cyI, 59049, .inl g_197)), (co, .inl (cyI, 10, .inl fc2))]) [0, 1, 2, 3, 4, 5, 6] (by decide) rfl⟩⟩, hS.F ht⟩) hS.2.2 dX8_look_221
                      · skip
                        exact absurd c_198 (by decide)
                    · skip
                      exact absurd c_195 (by decide)
                · skip
                  have ic_192 := ci_ne (rfl : Int32.toInt yb = _) (show Int32.toInt 0 = 0 by decide) c_192
                  refine lv_iconst (v := 1) hx hb dX8_look_157 (by decide) ?_
                  refine lv_goto (tgt := 162) hx hb dX8_look_158 (by decide) ?_
                  refine lv_istore (lv' := [(8, .int 1), (7, .int 1), (0, .ref m0), (1, .int (nI cv)), (2, .int p2), (3, .int (nI r9)), (4, .int (nI av)), (5, .int ya), (6, .int yb)]) hx hb dX8_look_162 hl (by decide) rfl (fun ls hl => ?_)
                  refine lv_aload_n hx hb dX8_look_164 rfl (lv_at hl 2 rfl) ?_
                  refine va_get (D := (dC, dI)) (ci := 6) (v := .ref so) (C := RX8) (T := TX8) (N := 14) hx hb hts hnX8_look_X8 hown hK hP 0 rfl rfl 9 (by decide) (hts (.fieldLink RX8 36 "RingMeetsModel" "soon" "[I") (by decide +kernel)) (fun _ h9 => h9) rfl dX8_look_165 ?_
                  refine lv_iload_n hx hb dX8_look_168 rfl (lv_at hl 3 rfl) ?_
                  refine lv_iload hx hb dX8_look_169 (lv_at hl 1 rfl) ?_
                  refine lv_if_eq (tgt := 178) hx hb dX8_look_171 (by decide) (fun c_199 => ?_) (fun c_199 => ?_)
                  · skip
                    exact absurd c_199 (by decide)
                  · skip
                    refine lv_iload_n hx hb dX8_look_174 rfl (lv_at hl 5 rfl) ?_
                    refine lv_goto (tgt := 184) hx hb dX8_look_175 (by decide) ?_
                    refine va_iast (D := (dC, dI)) hx hb hK hP hD hS 4 0 rfl rfl (vp_in_nI (n := cv) (N := 59049) (by omega) (by omega)) dX8_look_184 (fun H locs hP hD hS => ?_)
                    obtain ⟨g_200, eg_200⟩ : ∃ y : Nat → Int32, y = upd fso (Int32.toNatClampNeg (nI cv)) (nI r9) := ⟨_, rfl⟩
                    have hP : va_P (dC, dI) vwCl [(m0, .inr (6, [.ref st, .ref im, .ref kq, .ref pw, .ref nx, .ref li, .int d6, .ref il, .ref mv, .ref so, .ref la, .int d11, .int d12, .ref co])), (st, .inl (cyI, 72, .inl fs)), (pw, .inl (cyI, 11, .inl fp)), (mv, .inl (cyI, 59049, .inl mf)), (so, .inl (cyI, 59049, .inl g_200)), (la, .inl (cyI, 59049, .inl fla)), (co, .inl (cyI, 10, .inl fc2))] H := by rw [eg_200]; exact hP
                    have hD : va_D A [(m0, .inr (6, [.ref st, .ref im, .ref kq, .ref pw, .ref nx, .ref li, .int d6, .ref il, .ref mv, .ref so, .ref la, .int d11, .int d12, .ref co])), (st, .inl (cyI, 72, .inl fs)), (pw, .inl (cyI, 11, .inl fp)), (mv, .inl (cyI, 59049, .inl mf)), (so, .inl (cyI, 59049, .inl g_200)), (la, .inl (cyI, 59049, .inl fla)), (co, .inl (cyI, 10, .inl fc2))] := by rw [eg_200]; exact hD
                    rw [nI_clamp (n := cv) (by omega)] at eg_200
                    have hcs : mn_ct mn_ng g_200 59049 + 1 = mn_ct mn_ng fso 59049 := mn_ct_dn hc9 ex_129 c_130 eg_200 rfl (by omega)
                    refine lv_aload_n hx hb dX8_look_185 rfl (lv_at hl 2 rfl) ?_
                    refine va_get (D := (dC, dI)) (ci := 6) (v := .ref la) (C := RX8) (T := TX8) (N := 14) hx hb hts hnX8_look_X8 hown hK hP 0 rfl rfl 10 (by decide) (hts (.fieldLink RX8 39 "RingMeetsModel" "late" "[I") (by decide +kernel)) (fun _ h9 => h9) rfl dX8_look_186 ?_
                    refine lv_iload_n hx hb dX8_look_189 rfl (lv_at hl 3 rfl) ?_
                    refine lv_iload hx hb dX8_look_190 (lv_at hl 0 rfl) ?_
                    refine lv_if_eq (tgt := 199) hx hb dX8_look_192 (by decide) (fun c_201 => ?_) (fun c_201 => ?_)
                    · skip
                      exact absurd c_201 (by decide)
                    · skip
                      refine lv_iload_n hx hb dX8_look_195 rfl (lv_at hl 5 rfl) ?_
                      refine lv_goto (tgt := 205) hx hb dX8_look_196 (by decide) ?_
                      refine va_iast (D := (dC, dI)) hx hb hK hP hD hS 5 0 rfl rfl (vp_in_nI (n := cv) (N := 59049) (by omega) (by omega)) dX8_look_205 (fun H locs hP hD hS => ?_)
                      obtain ⟨g_202, eg_202⟩ : ∃ y : Nat → Int32, y = upd fla (Int32.toNatClampNeg (nI cv)) (nI r9) := ⟨_, rfl⟩
                      have hP : va_P (dC, dI) vwCl [(m0, .inr (6, [.ref st, .ref im, .ref kq, .ref pw, .ref nx, .ref li, .int d6, .ref il, .ref mv, .ref so, .ref la, .int d11, .int d12, .ref co])), (st, .inl (cyI, 72, .inl fs)), (pw, .inl (cyI, 11, .inl fp)), (mv, .inl (cyI, 59049, .inl mf)), (so, .inl (cyI, 59049, .inl g_200)), (la, .inl (cyI, 59049, .inl g_202)), (co, .inl (cyI, 10, .inl fc2))] H := by rw [eg_202]; exact hP
                      have hD : va_D A [(m0, .inr (6, [.ref st, .ref im, .ref kq, .ref pw, .ref nx, .ref li, .int d6, .ref il, .ref mv, .ref so, .ref la, .int d11, .int d12, .ref co])), (st, .inl (cyI, 72, .inl fs)), (pw, .inl (cyI, 11, .inl fp)), (mv, .inl (cyI, 59049, .inl mf)), (so, .inl (cyI, 59049, .inl g_200)), (la, .inl (cyI, 59049, .inl g_202)), (co, .inl (cyI, 10, .inl fc2))] := by rw [eg_202]; exact hD
                      rw [nI_clamp (n := cv) (by omega)] at eg_202
                      have hcl : mn_ct mn_ng g_202 59049 + 1 = mn_ct mn_ng fla 59049 := mn_ct_dn hc9 ex_184 c_185 eg_202 rfl (by omega)
                      refine lv_iload hx hb dX8_look_206 (lv_at hl 1 rfl) ?_
                      refine lv_if_ne (tgt := 216) hx hb dX8_look_208 (by decide) (fun c_203 => ?_) (fun c_203 => ?_)
                      · skip
                        refine lv_iconst (v := 1) hx hb dX8_look_216 (by decide) ?_
                        refine lv_goto (tgt := 221) hx hb dX8_look_217 (by decide) ?_
                        exact W.zret (v := 1) hx hb hr (show narrow .boolean (.int 1) = .int 1 from rfl) (fun t ht hW => ⟨⟨1, (g_200, g_202, fc2), rfl, ⟨Or.inr rfl, show mn_ct mn_ng g_200 59049 + mn_ct mn_ng g_202 59049 ≤ mn_ct mn_ng fso 59049 + mn_ct mn_ng fla 59049 by omega, fun _ => show mn_ct mn_ng g_200 59049 + mn_ct mn_ng g_202 59049 < mn_ct mn_ng fso 59049 + mn_ct mn_ng fla 59049 by omega⟩, ⟨by rw [ht]; exact hP.sub (ws' := [(m0, .inr (6, [.ref st, .ref im, .ref kq, .ref pw, .ref nx, .ref li, .int d6, .ref il, .ref mv, .ref so, .ref la, .int d11, .int d12, .ref co])), (st, .inl (cyI, 72, .inl fs)), (pw, .inl (cyI, 11, .inl fp)), (mv, .inl (cyI, 59049, .inl mf)), (so, .inl (cyI, 59049, .inl g_200)), (la, .inl (cyI, 59049, .inl g_202)), (co, .inl (cyI, 10, .inl fc2))]) [0, 1, 2, 3, 4, 5, 6] rfl, hD.sub (ws' := [(m0, .inr (6, [.ref st, .ref im, .ref kq, .ref pw, .ref nx, .ref li, .int d6, .ref il, .ref mv, .ref so, .ref la, .int d11, .int d12, .ref co])), (st, .inl (cyI, 72, .inl fs)), (pw, .inl (cyI, 11, .inl fp)), (mv, .inl (cyI, 59049, .inl mf)), (so, .inl (cyI, 59049, .inl g_200)), (la, .inl (cyI, 59049, .inl g_202)), (co, .inl (cyI, 10, .inl fc2))]) [0, 1, 2, 3, 4, 5, 6] (by decide) rfl⟩⟩, hS.F ht⟩) hS.2.2 dX8_look_221
                      · skip
                        exact absurd c_203 (by decide)
        · skip
          have ic_128 := ci_ne (rfl : Int32.toInt x9 = _) (show Int32.toInt 0 = 0 by decide) c_128
          have hq1 : z + 2 ≤ n30 + 1 := hq9.resolve_left (fun q => c_128 q.1)
          refine lv_iload_n hx hb dX8_look_35 rfl (lv_at hl 2 rfl) ?_
          refine lv_iload hx hb dX8_look_36 (lv_at hl 7 rfl) ?_
          refine lv_iload hx hb dX8_look_38 (lv_at hl 4 rfl) ?_
          refine vp_callSi (va_Run.run (va_runS (As := [.int p2, .int x9, .int (nI av)]) (rest := []) ⟨hx, hb, hml, hown, hts⟩ (mX8_mayBe l dC dI cyI cyZ p2 x9 (nI av) ) (va_cwS 3 hts gX8_look_X8_mayBe rfl rfl rfl (by decide +kernel) ⟨Nat.le_of_ble_eq_true rfl, Nat.le_of_ble_eq_true rfl⟩) (bs_RS hB (hP.sub (ws' := []) [] rfl)) rfl rfl hl.1 rfl (lv_room (Nat.le_of_ble_eq_true rfl)) dX8_look_40 ⟨Nat.le_of_ble_eq_true rfl, Nat.le_of_ble_eq_true rfl⟩)) (fun r_204 hr_204 => ?_)
          refine lv_if_eq (tgt := 109) hx hb dX8_look_43 (by decide) (fun c_205 => ?_) (fun c_205 => ?_)
          · skip
            have ic_205 := ci_eq (rfl : Int32.toInt r_204 = _) (show Int32.toInt 0 = 0 by decide) c_205
            refine lv_iload hx hb dX8_look_109 (lv_at hl 7 rfl) ?_
            refine lv_iload hx hb dX8_look_111 (lv_at hl 4 rfl) ?_
            refine lv_isub hx hb dX8_look_113 ?_
            refine lv_topi (fun x_206 ex_206 => ?_)
            refine lv_iload hx hb dX8_look_114 (lv_at hl 4 rfl) ?_
            refine lv_iand hx hb dX8_look_116 ?_
            refine lv_topi (fun x_207 ex_207 => ?_)
            have ey1 := mn_subs hx9 ex_206 ex_207
            obtain ⟨z1, hz1, ez1, dz1⟩ := mn_sub (a := av) (z := z) hz9
            have ey2 : x_207 = nI av - nI z1 := ey1.trans ez1
            have hq2 : x_207 = 0 ∧ 1 ≤ n30 ∨ z1 + 2 ≤ n30 := dz1.elim (fun q => Or.inr (by omega)) (fun q => Or.inl ⟨ey1.trans q, by omega⟩)
            refine lv_istore (lv' := [(7, .int x_207), (0, .ref m0), (1, .int (nI cv)), (2, .int p2), (3, .int (nI r9)), (4, .int (nI av)), (5, .int ya), (6, .int yb)]) hx hb dX8_look_117 hl (by decide) rfl (fun ls hl => ?_)
            refine lv_goto (tgt := 30) hx hb dX8_look_119 (by decide) ?_
            exact ih30 z1 x_207 ya yb fc2 ey2 hz1 hq2  _ _ (hP.sub [0, 1, 2, 3, 4, 5, 6] rfl) (hD.sub [0, 1, 2, 3, 4, 5, 6] (by decide) rfl) hS _ (lv_sub hl [1, 2, 3, 4, 5, 6, 7, 0] rfl)
          · skip
            have ic_205 := ci_ne (rfl : Int32.toInt r_204 = _) (show Int32.toInt 0 = 0 by decide) c_205
            refine lv_aload_n hx hb dX8_look_46 rfl (lv_at hl 0 rfl) ?_
            refine lv_iload_n hx hb dX8_look_47 rfl (lv_at hl 1 rfl) ?_
            refine lv_iload hx hb dX8_look_48 (lv_at hl 7 rfl) ?_
            have f_208 := va_free (wc := [(m0, .inr (6, [.ref st, .ref im, .ref kq, .ref pw, .ref nx, .ref li, .int d6, .ref il, .ref mv, .ref so, .ref la, .int d11, .int d12, .ref co])), (st, .inl (cyI, 72, .inl fs)), (pw, .inl (cyI, 11, .inl fp)), (mv, .inl (cyI, 59049, .inl mf)), (co, .inl (cyI, 10, .inl fc2))]) hD hS hA [0, 1, 2, 3, 6] rfl
            refine va_calli (va_runV (As := [.int (nI cv), .int x9]) (rest := []) ⟨hx, hb, hml, hown, hts⟩ (mX8_behindStep l dC dI cyI cyZ m0 st im kq pw nx li il mv so la co d6 d11 d12 n fs fp cv mf fc2 x9 hn3 hn h0f hp (by omega) _) (cwV 2 hts gX8_look_X8_behindStep rfl rfl rfl (by decide +kernel) ⟨Nat.le_of_ble_eq_true rfl, Nat.le_of_ble_eq_true rfl⟩) (bs_WV hB (hP.sub (ws' := [(m0, .inr (6, [.ref st, .ref im, .ref kq, .ref pw, .ref nx, .ref li, .int d6, .ref il, .ref mv, .ref so, .ref la, .int d11, .int d12, .ref co])), (st, .inl (cyI, 72, .inl fs)), (pw, .inl (cyI, 11, .inl fp)), (mv, .inl (cyI, 59049, .inl mf)), (co, .inl (cyI, 10, .inl fc2))]) [0, 1, 2, 3, 6] rfl) (hD.sub (ws' := [(m0, .inr (6, [.ref st, .ref im, .ref kq, .ref pw, .ref nx, .ref li, .int d6, .ref il, .ref mv, .ref so, .ref la, .int d11, .int d12, .ref co])), (st, .inl (cyI, 72, .inl fs)), (pw, .inl (cyI, 11, .inl fp)), (mv, .inl (cyI, 59049, .inl mf)), (co, .inl (cyI, 10, .inl fc2))]) [0, 1, 2, 3, 6] (by decide) rfl) 0 rfl rfl) rfl rfl hl.1 rfl (lv_room (Nat.le_of_ble_eq_true rfl)) dX8_look_50 ⟨Nat.le_of_ble_eq_true rfl, Nat.le_of_ble_eq_true rfl⟩) hS (fun q _ h => f_208 q h) f_208 (fun rh_209 uh_209 t H1 locs ht hvm h_209 hB1 hz1 hk1 hS => ?_)
            obtain ⟨g_210, rfl⟩ : ∃ z, z = uh_209 := ⟨_, rfl⟩
            obtain ⟨hP1, hD1⟩ := hB1
            rw [ht] at hP1
            obtain ⟨hP, hD⟩ := va_join (wr := [(so, .inl (cyI, 59049, .inl fso)), (la, .inl (cyI, 59049, .inl fla))]) (w1 := [(m0, .inr (6, [.ref st, .ref im, .ref kq, .ref pw, .ref nx, .ref li, .int d6, .ref il, .ref mv, .ref so, .ref la, .int d11, .int d12, .ref co])), (st, .inl (cyI, 72, .inl fs)), (pw, .inl (cyI, 11, .inl fp)), (mv, .inl (cyI, 59049, .inl mf)), (co, .inl (cyI, 10, .inl g_210))]) hP hD [0, 1, 2, 3, 6] [4, 5] rfl rfl (by decide) (by decide) hk1 f_208 hP1 hD1
            generalize H1 = H at hP hS ⊢
            have hP : va_P (dC, dI) vwCl [(so, .inl (cyI, 59049, .inl fso)), (la, .inl (cyI, 59049, .inl fla)), (m0, .inr (6, [.ref st, .ref im, .ref kq, .ref pw, .ref nx, .ref li, .int d6, .ref il, .ref mv, .ref so, .ref la, .int d11, .int d12, .ref co])), (st, .inl (cyI, 72, .inl fs)), (pw, .inl (cyI, 11, .inl fp)), (mv, .inl (cyI, 59049, .inl mf)), (co, .inl (cyI, 10, .inl g_210))] _ := hP
            have hD : va_D A [(so, .inl (cyI, 59049, .inl fso)), (la, .inl (cyI, 59049, .inl fla)), (m0, .inr (6, [.ref st, .ref im, .ref kq, .ref pw, .ref nx, .ref li, .int d6, .ref il, .ref mv, .ref so, .ref la, .int d11, .int d12, .ref co])), (st, .inl (cyI, 72, .inl fs)), (pw, .inl (cyI, 11, .inl fp)), (mv, .inl (cyI, 59049, .inl mf)), (co, .inl (cyI, 10, .inl g_210))] := hD
            have h_209 : ∃ v : Nat, v < 3 ^ n ∧ rh_209 = nI v := h_209
            obtain ⟨v_211, lv_211, ev_211⟩ := h_209
            obtain rfl : nI v_211 = rh_209 := Eq.symm ev_211
            have hv9 := mn_c9 hn lv_211
            refine lv_istore (lv' := [(8, .int (nI v_211)), (0, .ref m0), (1, .int (nI cv)), (2, .int p2), (3, .int (nI r9)), (4, .int (nI av)), (5, .int ya), (6, .int yb), (7, .int x9)]) hx hb dX8_look_53 hl (by decide) rfl (fun ls hl => ?_)
            refine lv_iload hx hb dX8_look_55 (lv_at hl 6 rfl) ?_
            refine lv_if_ne (tgt := 73) hx hb dX8_look_57 (by decide) (fun c_212 => ?_) (fun c_212 => ?_)
            · skip
              have ic_212 := ci_ne (rfl : Int32.toInt ya = _) (show Int32.toInt 0 = 0 by decide) c_212
              refine lv_iconst (v := 1) hx hb dX8_look_73 (by decide) ?_
              refine lv_goto (tgt := 78) hx hb dX8_look_74 (by decide) ?_
              refine lv_istore (lv' := [(5, .int 1), (8, .int (nI v_211)), (0, .ref m0), (1, .int (nI cv)), (2, .int p2), (3, .int (nI r9)), (4, .int (nI av)), (6, .int yb), (7, .int x9)]) hx hb dX8_look_78 hl (by decide) rfl (fun ls hl => ?_)
              refine lv_iload hx hb dX8_look_80 (lv_at hl 7 rfl) ?_
              refine lv_if_eq (tgt := 106) hx hb dX8_look_82 (by decide) (fun c_213 => ?_) (fun c_213 => ?_)
              · skip
                have ic_213 := ci_eq (rfl : Int32.toInt yb = _) (show Int32.toInt 0 = 0 by decide) c_213
                refine lv_iconst (v := 0) hx hb dX8_look_106 (by decide) ?_
                refine lv_istore (lv' := [(6, .int 0), (5, .int 1), (8, .int (nI v_211)), (0, .ref m0), (1, .int (nI cv)), (2, .int p2), (3, .int (nI r9)), (4, .int (nI av)), (7, .int x9)]) hx hb dX8_look_107 hl (by decide) rfl (fun ls hl => ?_)
                refine lv_iload hx hb dX8_look_109 (lv_at hl 8 rfl) ?_
                refine lv_iload hx hb dX8_look_111 (lv_at hl 7 rfl) ?_
                refine lv_isub hx hb dX8_look_113 ?_
                refine lv_topi (fun x_214 ex_214 => ?_)
                refine lv_iload hx hb dX8_look_114 (lv_at hl 7 rfl) ?_
                refine lv_iand hx hb dX8_look_116 ?_
                refine lv_topi (fun x_215 ex_215 => ?_)
                have ey1 := mn_subs hx9 ex_214 ex_215
                obtain ⟨z1, hz1, ez1, dz1⟩ := mn_sub (a := av) (z := z) hz9
                have ey2 : x_215 = nI av - nI z1 := ey1.trans ez1
                have hq2 : x_215 = 0 ∧ 1 ≤ n30 ∨ z1 + 2 ≤ n30 := dz1.elim (fun q => Or.inr (by omega)) (fun q => Or.inl ⟨ey1.trans q, by omega⟩)
                refine lv_istore (lv' := [(7, .int x_215), (6, .int 0), (5, .int 1), (8, .int (nI v_211)), (0, .ref m0), (1, .int (nI cv)), (2, .int p2), (3, .int (nI r9)), (4, .int (nI av))]) hx hb dX8_look_117 hl (by decide) rfl (fun ls hl => ?_)
                refine lv_goto (tgt := 30) hx hb dX8_look_119 (by decide) ?_
                exact ih30 z1 x_215 1 0 g_210 ey2 hz1 hq2  _ _ (hP.sub [2, 3, 4, 5, 0, 1, 6] rfl) (hD.sub [2, 3, 4, 5, 0, 1, 6] (by decide) rfl) hS _ (lv_sub hl [4, 5, 6, 7, 8, 2, 1, 0] rfl)
              · skip
                have ic_213 := ci_ne (rfl : Int32.toInt yb = _) (show Int32.toInt 0 = 0 by decide) c_213
                refine lv_aload_n hx hb dX8_look_85 rfl (lv_at hl 2 rfl) ?_
                refine va_get (D := (dC, dI)) (ci := 6) (v := .ref la) (C := RX8) (T := TX8) (N := 14) hx hb hts hnX8_look_X8 hown hK hP 2 rfl rfl 10 (by decide) (hts (.fieldLink RX8 39 "RingMeetsModel" "late" "[I") (by decide +kernel)) (fun _ h9 => h9) rfl dX8_look_86 ?_
                refine lv_iload hx hb dX8_look_89 (lv_at hl 1 rfl) ?_
                refine va_iald (D := (dC, dI)) hx hb hK hP 1 0 rfl rfl (vp_in_nI (n := v_211) (N := 59049) (by omega) (by omega)) dX8_look_91 ?_
                refine lv_topi (fun x_216 ex_216 => ?_)
                rw [nI_clamp (n := v_211) (by omega)] at ex_216
                refine lv_iconst (v := 0) hx hb dX8_look_92 (by decide) ?_
                refine lv_iload_n hx hb dX8_look_93 rfl (lv_at hl 5 rfl) ?_
                refine lv_iconst (v := 1) hx hb dX8_look_94 (by decide) ?_
                refine lv_isub hx hb dX8_look_95 ?_
                refine lv_topi (fun x_217 ex_217 => ?_)
                obtain rfl : (nI (r9 - 1)) = x_217 := (ex_217.trans (nb_sub (a := r9) (b := 1) (by omega))).symm
                refine vp_callSi (va_Run.run (va_runS (As := [.int x_216, .int 0, .int (nI (r9 - 1))]) (rest := []) ⟨hx, hb, hml, hown, hts⟩ (mX8_in l dC dI cyI cyZ x_216 0 (nI (r9 - 1)) 0 (((r9 - 1) : Nat) : Int) (by decide) (nI_toInt (by omega))) (va_cwS 3 hts gX8_look_X8_in rfl rfl rfl (by decide +kernel) ⟨Nat.le_of_ble_eq_true rfl, Nat.le_of_ble_eq_true rfl⟩) (bs_RS hB (hP.sub (ws' := []) [] rfl)) rfl rfl hl.1 rfl (lv_room (Nat.le_of_ble_eq_true rfl)) dX8_look_96 ⟨Nat.le_of_ble_eq_true rfl, Nat.le_of_ble_eq_true rfl⟩)) (fun r_218 hr_218 => ?_)
                refine lv_if_eq (tgt := 106) hx hb dX8_look_99 (by decide) (fun c_219 => ?_) (fun c_219 => ?_)
                · skip
                  have ic_219 := ci_eq (rfl : Int32.toInt r_218 = _) (show Int32.toInt 0 = 0 by decide) c_219
                  refine lv_iconst (v := 0) hx hb dX8_look_106 (by decide) ?_
                  refine lv_istore (lv' := [(6, .int 0), (5, .int 1), (8, .int (nI v_211)), (0, .ref m0), (1, .int (nI cv)), (2, .int p2), (3, .int (nI r9)), (4, .int (nI av)), (7, .int x9)]) hx hb dX8_look_107 hl (by decide) rfl (fun ls hl => ?_)
                  refine lv_iload hx hb dX8_look_109 (lv_at hl 8 rfl) ?_
                  refine lv_iload hx hb dX8_look_111 (lv_at hl 7 rfl) ?_
                  refine lv_isub hx hb dX8_look_113 ?_
                  refine lv_topi (fun x_220 ex_220 => ?_)
                  refine lv_iload hx hb dX8_look_114 (lv_at hl 7 rfl) ?_
                  refine lv_iand hx hb dX8_look_116 ?_
                  refine lv_topi (fun x_221 ex_221 => ?_)
                  have ey1 := mn_subs hx9 ex_220 ex_221
                  obtain ⟨z1, hz1, ez1, dz1⟩ := mn_sub (a := av) (z := z) hz9
                  have ey2 : x_221 = nI av - nI z1 := ey1.trans ez1
                  have hq2 : x_221 = 0 ∧ 1 ≤ n30 ∨ z1 + 2 ≤ n30 := dz1.elim (fun q => Or.inr (by omega)) (fun q => Or.inl ⟨ey1.trans q, by omega⟩)
                  refine lv_istore (lv' := [(7, .int x_221), (6, .int 0), (5, .int 1), (8, .int (nI v_211)), (0, .ref m0), (1, .int (nI cv)), (2, .int p2), (3, .int (nI r9)), (4, .int (nI av))]) hx hb dX8_look_117 hl (by decide) rfl (fun ls hl => ?_)
                  refine lv_goto (tgt := 30) hx hb dX8_look_119 (by decide) ?_
                  exact ih30 z1 x_221 1 0 g_210 ey2 hz1 hq2  _ _ (hP.sub [2, 3, 4, 5, 0, 1, 6] rfl) (hD.sub [2, 3, 4, 5, 0, 1, 6] (by decide) rfl) hS _ (lv_sub hl [4, 5, 6, 7, 8, 2, 1, 0] rfl)
                · skip
                  have ic_219 := ci_ne (rfl : Int32.toInt r_218 = _) (show Int32.toInt 0 = 0 by decide) c_219
                  refine lv_iconst (v := 1) hx hb dX8_look_102 (by decide) ?_
                  refine lv_goto (tgt := 107) hx hb dX8_look_103 (by decide) ?_
                  refine lv_istore (lv' := [(6, .int 1), (5, .int 1), (8, .int (nI v_211)), (0, .ref m0), (1, .int (nI cv)), (2, .int p2), (3, .int (nI r9)), (4, .int (nI av)), (7, .int x9)]) hx hb dX8_look_107 hl (by decide) rfl (fun ls hl => ?_)
                  refine lv_iload hx hb dX8_look_109 (lv_at hl 8 rfl) ?_
                  refine lv_iload hx hb dX8_look_111 (lv_at hl 7 rfl) ?_
                  refine lv_isub hx hb dX8_look_113 ?_
                  refine lv_topi (fun x_222 ex_222 => ?_)
                  refine lv_iload hx hb dX8_look_114 (lv_at hl 7 rfl) ?_
                  refine lv_iand hx hb dX8_look_116 ?_
                  refine lv_topi (fun x_223 ex_223 => ?_)
                  have ey1 := mn_subs hx9 ex_222 ex_223
                  obtain ⟨z1, hz1, ez1, dz1⟩ := mn_sub (a := av) (z := z) hz9
                  have ey2 : x_223 = nI av - nI z1 := ey1.trans ez1
                  have hq2 : x_223 = 0 ∧ 1 ≤ n30 ∨ z1 + 2 ≤ n30 := dz1.elim (fun q => Or.inr (by omega)) (fun q => Or.inl ⟨ey1.trans q, by omega⟩)
                  refine lv_istore (lv' := [(7, .int x_223), (6, .int 1), (5, .int 1), (8, .int (nI v_211)), (0, .ref m0), (1, .int (nI cv)), (2, .int p2), (3, .int (nI r9)), (4, .int (nI av))]) hx hb dX8_look_117 hl (by decide) rfl (fun ls hl => ?_)
                  refine lv_goto (tgt := 30) hx hb dX8_look_119 (by decide) ?_
                  exact ih30 z1 x_223 1 1 g_210 ey2 hz1 hq2  _ _ (hP.sub [2, 3, 4, 5, 0, 1, 6] rfl) (hD.sub [2, 3, 4, 5, 0, 1, 6] (by decide) rfl) hS _ (lv_sub hl [4, 5, 6, 7, 8, 2, 1, 0] rfl)
            · skip
              have ic_212 := ci_eq (rfl : Int32.toInt ya = _) (show Int32.toInt 0 = 0 by decide) c_212
              refine lv_aload_n hx hb dX8_look_60 rfl (lv_at hl 1 rfl) ?_
              refine va_get (D := (dC, dI)) (ci := 6) (v := .ref so) (C := RX8) (T := TX8) (N := 14) hx hb hts hnX8_look_X8 hown hK hP 2 rfl rfl 9 (by decide) (hts (.fieldLink RX8 36 "RingMeetsModel" "soon" "[I") (by decide +kernel)) (fun _ h9 => h9) rfl dX8_look_61 ?_
              refine lv_iload hx hb dX8_look_64 (lv_at hl 0 rfl) ?_
              refine va_iald (D := (dC, dI)) hx hb hK hP 0 0 rfl rfl (vp_in_nI (n := v_211) (N := 59049) (by omega) (by omega)) dX8_look_66 ?_
              refine lv_topi (fun x_224 ex_224 => ?_)
              rw [nI_clamp (n := v_211) (by omega)] at ex_224
              refine lv_iload_n hx hb dX8_look_67 rfl (lv_at hl 4 rfl) ?_
              refine lv_iconst (v := 1) hx hb dX8_look_68 (by decide) ?_
              refine lv_isub hx hb dX8_look_69 ?_
              refine lv_topi (fun x_225 ex_225 => ?_)
              obtain rfl : (nI (r9 - 1)) = x_225 := (ex_225.trans (nb_sub (a := r9) (b := 1) (by omega))).symm
              refine lv_icmp_ne (tgt := 77) hx hb dX8_look_70 (by decide) (fun c_226 => ?_) (fun c_226 => ?_)
              · skip
                have ic_226 := ci_ne (rfl : Int32.toInt x_224 = _) (nI_toInt (n := (r9 - 1)) (by omega)) c_226
                refine lv_iconst (v := 0) hx hb dX8_look_77 (by decide) ?_
                refine lv_istore (lv' := [(5, .int 0), (8, .int (nI v_211)), (0, .ref m0), (1, .int (nI cv)), (2, .int p2), (3, .int (nI r9)), (4, .int (nI av)), (6, .int yb), (7, .int x9)]) hx hb dX8_look_78 hl (by decide) rfl (fun ls hl => ?_)
                refine lv_iload hx hb dX8_look_80 (lv_at hl 7 rfl) ?_
                refine lv_if_eq (tgt := 106) hx hb dX8_look_82 (by decide) (fun c_227 => ?_) (fun c_227 => ?_)
                · skip
                  have ic_227 := ci_eq (rfl : Int32.toInt yb = _) (show Int32.toInt 0 = 0 by decide) c_227
                  refine lv_iconst (v := 0) hx hb dX8_look_106 (by decide) ?_
                  refine lv_istore (lv' := [(6, .int 0), (5, .int 0), (8, .int (nI v_211)), (0, .ref m0), (1, .int (nI cv)), (2, .int p2), (3, .int (nI r9)), (4, .int (nI av)), (7, .int x9)]) hx hb dX8_look_107 hl (by decide) rfl (fun ls hl => ?_)
                  refine lv_iload hx hb dX8_look_109 (lv_at hl 8 rfl) ?_
                  refine lv_iload hx hb dX8_look_111 (lv_at hl 7 rfl) ?_
                  refine lv_isub hx hb dX8_look_113 ?_
                  refine lv_topi (fun x_228 ex_228 => ?_)
                  refine lv_iload hx hb dX8_look_114 (lv_at hl 7 rfl) ?_
                  refine lv_iand hx hb dX8_look_116 ?_
                  refine lv_topi (fun x_229 ex_229 => ?_)
                  have ey1 := mn_subs hx9 ex_228 ex_229
                  obtain ⟨z1, hz1, ez1, dz1⟩ := mn_sub (a := av) (z := z) hz9
                  have ey2 : x_229 = nI av - nI z1 := ey1.trans ez1
                  have hq2 : x_229 = 0 ∧ 1 ≤ n30 ∨ z1 + 2 ≤ n30 := dz1.elim (fun q => Or.inr (by omega)) (fun q => Or.inl ⟨ey1.trans q, by omega⟩)
                  refine lv_istore (lv' := [(7, .int x_229), (6, .int 0), (5, .int 0), (8, .int (nI v_211)), (0, .ref m0), (1, .int (nI cv)), (2, .int p2), (3, .int (nI r9)), (4, .int (nI av))]) hx hb dX8_look_117 hl (by decide) rfl (fun ls hl => ?_)
                  refine lv_goto (tgt := 30) hx hb dX8_look_119 (by decide) ?_
                  exact ih30 z1 x_229 0 0 g_210 ey2 hz1 hq2  _ _ (hP.sub [2, 3, 4, 5, 0, 1, 6] rfl) (hD.sub [2, 3, 4, 5, 0, 1, 6] (by decide) rfl) hS _ (lv_sub hl [4, 5, 6, 7, 8, 2, 1, 0] rfl)
                · skip
                  have ic_227 := ci_ne (rfl : Int32.toInt yb = _) (show Int32.toInt 0 = 0 by decide) c_227
                  refine lv_aload_n hx hb dX8_look_85 rfl (lv_at hl 2 rfl) ?_
                  refine va_get (D := (dC, dI)) (ci := 6) (v := .ref la) (C := RX8) (T := TX8) (N := 14) hx hb hts hnX8_look_X8 hown hK hP 2 rfl rfl 10 (by decide) (hts (.fieldLink RX8 39 "RingMeetsModel" "late" "[I") (by decide +kernel)) (fun _ h9 => h9) rfl dX8_look_86 ?_
                  refine lv_iload hx hb dX8_look_89 (lv_at hl 1 rfl) ?_
                  refine va_iald (D := (dC, dI)) hx hb hK hP 1 0 rfl rfl (vp_in_nI (n := v_211) (N := 59049) (by omega) (by omega)) dX8_look_91 ?_
                  refine lv_topi (fun x_230 ex_230 => ?_)
                  rw [nI_clamp (n := v_211) (by omega)] at ex_230
                  refine lv_iconst (v := 0) hx hb dX8_look_92 (by decide) ?_
                  refine lv_iload_n hx hb dX8_look_93 rfl (lv_at hl 5 rfl) ?_
                  refine lv_iconst (v := 1) hx hb dX8_look_94 (by decide) ?_
                  refine lv_isub hx hb dX8_look_95 ?_
                  refine lv_topi (fun x_231 ex_231 => ?_)
                  obtain rfl : (nI (r9 - 1)) = x_231 := (ex_231.trans (nb_sub (a := r9) (b := 1) (by omega))).symm
                  refine vp_callSi (va_Run.run (va_runS (As := [.int x_230, .int 0, .int (nI (r9 - 1))]) (rest := []) ⟨hx, hb, hml, hown, hts⟩ (mX8_in l dC dI cyI cyZ x_230 0 (nI (r9 - 1)) 0 (((r9 - 1) : Nat) : Int) (by decide) (nI_toInt (by omega))) (va_cwS 3 hts gX8_look_X8_in rfl rfl rfl (by decide +kernel) ⟨Nat.le_of_ble_eq_true rfl, Nat.le_of_ble_eq_true rfl⟩) (bs_RS hB (hP.sub (ws' := []) [] rfl)) rfl rfl hl.1 rfl (lv_room (Nat.le_of_ble_eq_true rfl)) dX8_look_96 ⟨Nat.le_of_ble_eq_true rfl, Nat.le_of_ble_eq_true rfl⟩)) (fun r_232 hr_232 => ?_)
                  refine lv_if_eq (tgt := 106) hx hb dX8_look_99 (by decide) (fun c_233 => ?_) (fun c_233 => ?_)
                  · skip
                    have ic_233 := ci_eq (rfl : Int32.toInt r_232 = _) (show Int32.toInt 0 = 0 by decide) c_233
                    refine lv_iconst (v := 0) hx hb dX8_look_106 (by decide) ?_
                    refine lv_istore (lv' := [(6, .int 0), (5, .int 0), (8, .int (nI v_211)), (0, .ref m0), (1, .int (nI cv)), (2, .int p2), (3, .int (nI r9)), (4, .int (nI av)), (7, .int x9)]) hx hb dX8_look_107 hl (by decide) rfl (fun ls hl => ?_)
                    refine lv_iload hx hb dX8_look_109 (lv_at hl 8 rfl) ?_
                    refine lv_iload hx hb dX8_look_111 (lv_at hl 7 rfl) ?_
                    refine lv_isub hx hb dX8_look_113 ?_
                    refine lv_topi (fun x_234 ex_234 => ?_)
                    refine lv_iload hx hb dX8_look_114 (lv_at hl 7 rfl) ?_
                    refine lv_iand hx hb dX8_look_116 ?_
                    refine lv_topi (fun x_235 ex_235 => ?_)
                    have ey1 := mn_subs hx9 ex_234 ex_235
                    obtain ⟨z1, hz1, ez1, dz1⟩ := mn_sub (a := av) (z := z) hz9
                    have ey2 : x_235 = nI av - nI z1 := ey1.trans ez1
                    have hq2 : x_235 = 0 ∧ 1 ≤ n30 ∨ z1 + 2 ≤ n30 := dz1.elim (fun q => Or.inr (by omega)) (fun q => Or.inl ⟨ey1.trans q, by omega⟩)
                    refine lv_istore (lv' := [(7, .int x_235), (6, .int 0), (5, .int 0), (8, .int (nI v_211)), (0, .ref m0), (1, .int (nI cv)), (2, .int p2), (3, .int (nI r9)), (4, .int (nI av))]) hx hb dX8_look_117 hl (by decide) rfl (fun ls hl => ?_)
                    refine lv_goto (tgt := 30) hx hb dX8_look_119 (by decide) ?_
                    exact ih30 z1 x_235 0 0 g_210 ey2 hz1 hq2  _ _ (hP.sub [2, 3, 4, 5, 0, 1, 6] rfl) (hD.sub [2, 3, 4, 5, 0, 1, 6] (by decide) rfl) hS _ (lv_sub hl [4, 5, 6, 7, 8, 2, 1, 0] rfl)
                  · skip
                    have ic_233 := ci_ne (rfl : Int32.toInt r_232 = _) (show Int32.toInt 0 = 0 by decide) c_233
                    refine lv_iconst (v := 1) hx hb dX8_look_102 (by decide) ?_
                    refine lv_goto (tgt := 107) hx hb dX8_look_103 (by decide) ?_
                    refine lv_istore (lv' := [(6, .int 1), (5, .int 0), (8, .int (nI v_211)), (0, .ref m0), (1, .int (nI cv)), (2, .int p2), (3, .int (nI r9)), (4, .int (nI av)), (7, .int x9)]) hx hb dX8_look_107 hl (by decide) rfl (fun ls hl => ?_)
                    refine lv_iload hx hb dX8_look_109 (lv_at hl 8 rfl) ?_
                    refine lv_iload hx hb dX8_look_111 (lv_at hl 7 rfl) ?_
                    refine lv_isub hx hb dX8_look_113 ?_
                    refine lv_topi (fun x_236 ex_236 => ?_)
                    refine lv_iload hx hb dX8_look_114 (lv_at hl 7 rfl) ?_
                    refine lv_iand hx hb dX8_look_116 ?_
                    refine lv_topi (fun x_237 ex_237 => ?_)
                    have ey1 := mn_subs hx9 ex_236 ex_237
                    obtain ⟨z1, hz1, ez1, dz1⟩ := mn_sub (a := av) (z := z) hz9
                    have ey2 : x_237 = nI av - nI z1 := ey1.trans ez1
                    have hq2 : x_237 = 0 ∧ 1 ≤ n30 ∨ z1 + 2 ≤ n30 := dz1.elim (fun q => Or.inr (by omega)) (fun q => Or.inl ⟨ey1.trans q, by omega⟩)
                    refine lv_istore (lv' := [(7, .int x_237), (6, .int 1), (5, .int 0), (8, .int (nI v_211)), (0, .ref m0), (1, .int (nI cv)), (2, .int p2), (3, .int (nI r9)), (4, .int (nI av))]) hx hb dX8_look_117 hl (by decide) rfl (fun ls hl => ?_)
                    refine lv_goto (tgt := 30) hx hb dX8_look_119 (by decide) ?_
                    exact ih30 z1 x_237 0 1 g_210 ey2 hz1 hq2  _ _ (hP.sub [2, 3, 4, 5, 0, 1, 6] rfl) (hD.sub [2, 3, 4, 5, 0, 1, 6] (by decide) rfl) hS _ (lv_sub hl [4, 5, 6, 7, 8, 2, 1, 0] rfl)
              · skip
                have ic_226 := ci_eq (rfl : Int32.toInt x_224 = _) (nI_toInt (n := (r9 - 1)) (by omega)) c_226
                refine lv_iconst (v := 1) hx hb dX8_look_73 (by decide) ?_
                refine lv_goto (tgt := 78) hx hb dX8_look_74 (by decide) ?_
                refine lv_istore (lv' := [(5, .int 1), (8, .int (nI v_211)), (0, .ref m0), (1, .int (nI cv)), (2, .int p2), (3, .int (nI r9)), (4, .int (nI av)), (6, .int yb), (7, .int x9)]) hx hb dX8_look_78 hl (by decide) rfl (fun ls hl => ?_)
                refine lv_iload hx hb dX8_look_80 (lv_at hl 7 rfl) ?_
                refine lv_if_eq (tgt := 106) hx hb dX8_look_82 (by decide) (fun c_238 => ?_) (fun c_238 => ?_)
                · skip
                  have ic_238 := ci_eq (rfl : Int32.toInt yb = _) (show Int32.toInt 0 = 0 by decide) c_238
                  refine lv_iconst (v := 0) hx hb dX8_look_106 (by decide) ?_
                  refine lv_istore (lv' := [(6, .int 0), (5, .int 1), (8, .int (nI v_211)), (0, .ref m0), (1, .int (nI cv)), (2, .int p2), (3, .int (nI r9)), (4, .int (nI av)), (7, .int x9)]) hx hb dX8_look_107 hl (by decide) rfl (fun ls hl => ?_)
                  refine lv_iload hx hb dX8_look_109 (lv_at hl 8 rfl) ?_
                  refine lv_iload hx hb dX8_look_111 (lv_at hl 7 rfl) ?_
                  refine lv_isub hx hb dX8_look_113 ?_
                  refine lv_topi (fun x_239 ex_239 => ?_)
                  refine lv_iload hx hb dX8_look_114 (lv_at hl 7 rfl) ?_
                  refine lv_iand hx hb dX8_look_116 ?_
                  refine lv_topi (fun x_240 ex_240 => ?_)
                  have ey1 := mn_subs hx9 ex_239 ex_240
                  obtain ⟨z1, hz1, ez1, dz1⟩ := mn_sub (a := av) (z := z) hz9
                  have ey2 : x_240 = nI av - nI z1 := ey1.trans ez1
                  have hq2 : x_240 = 0 ∧ 1 ≤ n30 ∨ z1 + 2 ≤ n30 := dz1.elim (fun q => Or.inr (by omega)) (fun q => Or.inl ⟨ey1.trans q, by omega⟩)
                  refine lv_istore (lv' := [(7, .int x_240), (6, .int 0), (5, .int 1), (8, .int (nI v_211)), (0, .ref m0), (1, .int (nI cv)), (2, .int p2), (3, .int (nI r9)), (4, .int (nI av))]) hx hb dX8_look_117 hl (by decide) rfl (fun ls hl => ?_)
                  refine lv_goto (tgt := 30) hx hb dX8_look_119 (by decide) ?_
                  exact ih30 z1 x_240 1 0 g_210 ey2 hz1 hq2  _ _ (hP.sub [2, 3, 4, 5, 0, 1, 6] rfl) (hD.sub [2, 3, 4, 5, 0, 1, 6] (by decide) rfl) hS _ (lv_sub hl [4, 5, 6, 7, 8, 2, 1, 0] rfl)
                · skip
                  have ic_238 := ci_ne (rfl : Int32.toInt yb = _) (show Int32.toInt 0 = 0 by decide) c_238
                  refine lv_aload_n hx hb dX8_look_85 rfl (lv_at hl 2 rfl) ?_
                  refine va_get (D := (dC, dI)) (ci := 6) (v := .ref la) (C := RX8) (T := TX8) (N := 14) hx hb hts hnX8_look_X8 hown hK hP 2 rfl rfl 10 (by decide) (hts (.fieldLink RX8 39 "RingMeetsModel" "late" "[I") (by decide +kernel)) (fun _ h9 => h9) rfl dX8_look_86 ?_
                  refine lv_iload hx hb dX8_look_89 (lv_at hl 1 rfl) ?_
                  refine va_iald (D := (dC, dI)) hx hb hK hP 1 0 rfl rfl (vp_in_nI (n := v_211) (N := 59049) (by omega) (by omega)) dX8_look_91 ?_
                  refine lv_topi (fun x_241 ex_241 => ?_)
                  rw [nI_clamp (n := v_211) (by omega)] at ex_241
                  refine lv_iconst (v := 0) hx hb dX8_look_92 (by decide) ?_
                  refine lv_iload_n hx hb dX8_look_93 rfl (lv_at hl 5 rfl) ?_
                  refine lv_iconst (v := 1) hx hb dX8_look_94 (by decide) ?_
                  refine lv_isub hx hb dX8_look_95 ?_
                  refine lv_topi (fun x_242 ex_242 => ?_)
                  obtain rfl : (nI (r9 - 1)) = x_242 := (ex_242.trans (nb_sub (a := r9) (b := 1) (by omega))).symm
                  refine vp_callSi (va_Run.run (va_runS (As := [.int x_241, .int 0, .int (nI (r9 - 1))]) (rest := []) ⟨hx, hb, hml, hown, hts⟩ (mX8_in l dC dI cyI cyZ x_241 0 (nI (r9 - 1)) 0 (((r9 - 1) : Nat) : Int) (by decide) (nI_toInt (by omega))) (va_cwS 3 hts gX8_look_X8_in rfl rfl rfl (by decide +kernel) ⟨Nat.le_of_ble_eq_true rfl, Nat.le_of_ble_eq_true rfl⟩) (bs_RS hB (hP.sub (ws' := []) [] rfl)) rfl rfl hl.1 rfl (lv_room (Nat.le_of_ble_eq_true rfl)) dX8_look_96 ⟨Nat.le_of_ble_eq_true rfl, Nat.le_of_ble_eq_true rfl⟩)) (fun r_243 hr_243 => ?_)
                  refine lv_if_eq (tgt := 106) hx hb dX8_look_99 (by decide) (fun c_244 => ?_) (fun c_244 => ?_)
                  · skip
                    have ic_244 := ci_eq (rfl : Int32.toInt r_243 = _) (show Int32.toInt 0 = 0 by decide) c_244
                    refine lv_iconst (v := 0) hx hb dX8_look_106 (by decide) ?_
                    refine lv_istore (lv' := [(6, .int 0), (5, .int 1), (8, .int (nI v_211)), (0, .ref m0), (1, .int (nI cv)), (2, .int p2), (3, .int (nI r9)), (4, .int (nI av)), (7, .int x9)]) hx hb dX8_look_107 hl (by decide) rfl (fun ls hl => ?_)
                    refine lv_iload hx hb dX8_look_109 (lv_at hl 8 rfl) ?_
                    refine lv_iload hx hb dX8_look_111 (lv_at hl 7 rfl) ?_
                    refine lv_isub hx hb dX8_look_113 ?_
                    refine lv_topi (fun x_245 ex_245 => ?_)
                    refine lv_iload hx hb dX8_look_114 (lv_at hl 7 rfl) ?_
                    refine lv_iand hx hb dX8_look_116 ?_
                    refine lv_topi (fun x_246 ex_246 => ?_)
                    have ey1 := mn_subs hx9 ex_245 ex_246
                    obtain ⟨z1, hz1, ez1, dz1⟩ := mn_sub (a := av) (z := z) hz9
                    have ey2 : x_246 = nI av - nI z1 := ey1.trans ez1
                    have hq2 : x_246 = 0 ∧ 1 ≤ n30 ∨ z1 + 2 ≤ n30 := dz1.elim (fun q => Or.inr (by omega)) (fun q => Or.inl ⟨ey1.trans q, by omega⟩)
                    refine lv_istore (lv' := [(7, .int x_246), (6, .int 0), (5, .int 1), (8, .int (nI v_211)), (0, .ref m0), (1, .int (nI cv)), (2, .int p2), (3, .int (nI r9)), (4, .int (nI av))]) hx hb dX8_look_117 hl (by decide) rfl (fun ls hl => ?_)
                    refine lv_goto (tgt := 30) hx hb dX8_look_119 (by decide) ?_
                    exact ih30 z1 x_246 1 0 g_210 ey2 hz1 hq2  _ _ (hP.sub [2, 3, 4, 5, 0, 1, 6] rfl) (hD.sub [2, 3, 4, 5, 0, 1, 6] (by decide) rfl) hS _ (lv_sub hl [4, 5, 6, 7, 8, 2, 1, 0] rfl)
                  · skip
                    have ic_244 := ci_ne (rfl : Int32.toInt r_243 = _) (show Int32.toInt 0 = 0 by decide) c_244
                    refine lv_iconst (v := 1) hx hb dX8_look_102 (by decide) ?_
                    refine lv_goto (tgt := 107) hx hb dX8_look_103 (by decide) ?_
                    refine lv_istore (lv' := [(6, .int 1), (5, .int 1), (8, .int (nI v_211)), (0, .ref m0), (1, .int (nI cv)), (2, .int p2), (3, .int (nI r9)), (4, .int (nI av)), (7, .int x9)]) hx hb dX8_look_107 hl (by decide) rfl (fun ls hl => ?_)
                    refine lv_iload hx hb dX8_look_109 (lv_at hl 8 rfl) ?_
                    refine lv_iload hx hb dX8_look_111 (lv_at hl 7 rfl) ?_
                    refine lv_isub hx hb dX8_look_113 ?_
                    refine lv_topi (fun x_247 ex_247 => ?_)
                    refine lv_iload hx hb dX8_look_114 (lv_at hl 7 rfl) ?_
                    refine lv_iand hx hb dX8_look_116 ?_
                    refine lv_topi (fun x_248 ex_248 => ?_)
                    have ey1 := mn_subs hx9 ex_247 ex_248
                    obtain ⟨z1, hz1, ez1, dz1⟩ := mn_sub (a := av) (z := z) hz9
                    have ey2 : x_248 = nI av - nI z1 := ey1.trans ez1
                    have hq2 : x_248 = 0 ∧ 1 ≤ n30 ∨ z1 + 2 ≤ n30 := dz1.elim (fun q => Or.inr (by omega)) (fun q => Or.inl ⟨ey1.trans q, by omega⟩)
                    refine lv_istore (lv' := [(7, .int x_248), (6, .int 1), (5, .int 1), (8, .int (nI v_211)), (0, .ref m0), (1, .int (nI cv)), (2, .int p2), (3, .int (nI r9)), (4, .int (nI av))]) hx hb dX8_look_117 hl (by decide) rfl (fun ls hl => ?_)
                    refine lv_goto (tgt := 30) hx hb dX8_look_119 (by decide) ?_
                    exact ih30 z1 x_248 1 1 g_210 ey2 hz1 hq2  _ _ (hP.sub [2, 3, 4, 5, 0, 1, 6] rfl) (hD.sub [2, 3, 4, 5, 0, 1, 6] (by decide) rfl) hS _ (lv_sub hl [4, 5, 6, 7, 8, 2, 1, 0] rfl)
    exact L30 (av + 2) z0 x_127 0 1 fc ey0 hz0 (Or.inr (by omega))  _ _ (hP.sub [0, 1, 2, 3, 4, 5, 6] rfl) (hD.sub [0, 1, 2, 3, 4, 5, 6] (by decide) rfl) hS _ (lv_sub hl [4, 5, 6, 7, 3, 2, 1, 0] rfl)
