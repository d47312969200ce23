theorem hnX8_layRound_X8 : ∀ w ∈ wsX80, w ∈ wsX8_layRound := fun _ h => List.mem_cons_of_mem _ (List.mem_append_right _ h)
set_option maxHeartbeats 4000000 in
set_option maxRecDepth 100000 in
theorem mX8_layRound (l : Launch) (dC : Nat → ClassId) (dI : Nat → Nat → Nat) (cyI cyZ : ClassId) (m0 : Nat) (st : Nat) (im : Nat) (kq : Nat) (pw : Nat) (nx : Nat) (li : Nat) (il : Nat) (mv : Nat) (so : Nat) (la : Nat) (co : Nat) (L : Nat) (d11 : Int32) (d12 : Int32) (n : Nat) (fs : Nat → Int32) (fp : Nat → Int32) (r9 : Nat) (lf : Nat → Int32) (mf : Nat → Int32) (fso : Nat → Int32) (fla : Nat → Int32) (fc : Nat → Int32) (p1 : Int32) (hn3 : 3 ≤ n) (hn : n ≤ 10) (h0f : fs 0 = nI n) (hp : ∀ j, j ≤ 10 → fp j = nI (3 ^ j)) (hLa : ∀ j, j < L → ∃ c, c < 3 ^ n ∧ lf j = nI c) (hLb : L ≤ 59049) (hr9 : 1 ≤ r9 ∧ r9 ≤ 200000) (sz : Nat) : Met l yX8_layRound wsX8_layRound ({ frames := 4, cells := 0, slots := 0, locals := 96 }) (bs_W dC dI cyI cyZ [.ref m0, .int p1, .int (nI r9)] [(m0, .inr (6, [.ref st, .ref im, .ref kq, .ref pw, .ref nx, .ref li, .int (nI L), .ref il, .ref mv, .ref so, .ref la, .int d11, .int d12, .ref co])), (st, .inl (cyI, 72, .inl fs)), (pw, .inl (cyI, 11, .inl fp)), (li, .inl (cyI, 59049, .inl lf)), (mv, .inl (cyI, 59049, .inl mf)), (so, .inl (cyI, 59049, .inl fso)), (la, .inl (cyI, 59049, .inl fla)), (co, .inl (cyI, 10, .inl fc))] sz) (va_Qi (S := (Nat → Int32) × (Nat → Int32) × (Nat → Int32)) (fun (r : Int32) (q : (Nat → Int32) × (Nat → Int32) × (Nat → Int32)) => (r = 0 ∨ r = 1) ∧ mn_ct mn_ng q.1 59049 + mn_ct mn_ng q.2.1 59049 ≤ mn_ct mn_ng fso 59049 + mn_ct mn_ng fla 59049 ∧ (r = 1 → mn_ct mn_ng q.1 59049 + mn_ct mn_ng q.2.1 59049 < mn_ct mn_ng fso 59049 + mn_ct mn_ng fla 59049)) (fun q t => bs_E dC dI (va_A [(m0, .inr (6, [.ref st, .ref im, .ref kq, .ref pw, .ref nx, .ref li, .int (nI L), .ref il, .ref mv, .ref so, .ref la, .int d11, .int d12, .ref co])), (st, .inl (cyI, 72, .inl fs)), (pw, .inl (cyI, 11, .inl fp)), (li, .inl (cyI, 59049, .inl lf)), (mv, .inl (cyI, 59049, .inl mf)), (so, .inl (cyI, 59049, .inl fso)), (la, .inl (cyI, 59049, .inl fla)), (co, .inl (cyI, 10, .inl fc))] sz) [(m0, .inr (6, [.ref st, .ref im, .ref kq, .ref pw, .ref nx, .ref li, .int (nI L), .ref il, .ref mv, .ref so, .ref la, .int d11, .int d12, .ref co])), (st, .inl (cyI, 72, .inl fs)), (pw, .inl (cyI, 11, .inl fp)), (li, .inl (cyI, 59049, .inl lf)), (mv, .inl (cyI, 59049, .inl mf)), (so, .inl (cyI, 59049, .inl q.1)), (la, .inl (cyI, 59049, .inl q.2.1)), (co, .inl (cyI, 10, .inl q.2.2))] t) (va_A [(m0, .inr (6, [.ref st, .ref im, .ref kq, .ref pw, .ref nx, .ref li, .int (nI L), .ref il, .ref mv, .ref so, .ref la, .int d11, .int d12, .ref co])), (st, .inl (cyI, 72, .inl fs)), (pw, .inl (cyI, 11, .inl fp)), (li, .inl (cyI, 59049, .inl lf)), (mv, .inl (cyI, 59049, .inl mf)), (so, .inl (cyI, 59049, .inl fso)), (la, .inl (cyI, 59049, .inl fla)), (co, .inl (cyI, 10, .inl fc))] sz)) 0 0 (va_A [(m0, .inr (6, [.ref st, .ref im, .ref kq, .ref pw, .ref nx, .ref li, .int (nI L), .ref il, .ref mv, .ref so, .ref la, .int d11, .int d12, .ref co])), (st, .inl (cyI, 72, .inl fs)), (pw, .inl (cyI, 11, .inl fp)), (li, .inl (cyI, 59049, .inl lf)), (mv, .inl (cyI, 59049, .inl mf)), (so, .inl (cyI, 59049, .inl fso)), (la, .inl (cyI, 59049, .inl fla)), (co, .inl (cyI, 10, .inl fc))] sz) := by
  refine Met.ofW (cc := cX8_layRound) (maxL := 6) (ret := (some .boolean)) (by decide) rfl ?_
  intro p e s m args below meth c s₁ B hml hv
  obtain ⟨rfl, hsz, hB, hP, hD0⟩ := hv
  have hK := hB.1
  have hN := hB.2
  have hx := B.exec
  have hb := B.bytes
  have hr := B.returns
  have hts := atoms_spec (ws := wsX8_layRound) B.pre
  have hown : s.vm.findClass RX8 = some m.cls := findClass_of_methodNamed B.named
  have hlocks := B.notSynchronized
  subst hsz
  have hD := hD0.self (sz := s.heap.size)
  generalize hAe : va_A [(m0, .inr (6, [.ref st, .ref im, .ref kq, .ref pw, .ref nx, .ref li, .int (nI L), .ref il, .ref mv, .ref so, .ref la, .int d11, .int d12, .ref co])), (st, .inl (cyI, 72, .inl fs)), (pw, .inl (cyI, 11, .inl fp)), (li, .inl (cyI, 59049, .inl lf)), (mv, .inl (cyI, 59049, .inl mf)), (so, .inl (cyI, 59049, .inl fso)), (la, .inl (cyI, 59049, .inl fla)), (co, .inl (cyI, 10, .inl fc))] s.heap.size = A at hD ⊢
  have hA : ∀ q : Nat, s.heap.size ≤ q → A q := fun q h => by rw [← hAe]; exact Or.inr h
  have hS : va_S A s.heap s.heap [] := va_S.rf
  have hP : va_P (dC, dI) vwCl [(m0, .inr (6, [.ref st, .ref im, .ref kq, .ref pw, .ref nx, .ref li, .int (nI L), .ref il, .ref mv, .ref so, .ref la, .int d11, .int d12, .ref co])), (st, .inl (cyI, 72, .inl fs)), (pw, .inl (cyI, 11, .inl fp)), (li, .inl (cyI, 59049, .inl lf)), (mv, .inl (cyI, 59049, .inl mf)), (so, .inl (cyI, 59049, .inl fso)), (la, .inl (cyI, 59049, .inl fla)), (co, .inl (cyI, 10, .inl fc))] s.heap := hP
  have hl := lv_entry ([.ref m0, .int p1, .int (nI r9)]) (n := 6) (Nat.le_of_ble_eq_true rfl)
  rw [lg_entry_eq]
  generalize (lg_sl ([.ref m0, .int p1, .int (nI r9)]) ++ List.replicate (6 - (lg_sl ([.ref m0, .int p1, .int (nI r9)])).length) Slot.unset).toArray = ls at hl ⊢
  have hl : lv_has ls 6 [(0, .ref m0), (1, .int p1), (2, .int (nI r9))] := hl
  refine lv_iconst (v := 0) hx hb dX8_layRound_0 (by decide) ?_
  refine lv_istore_n (lv' := [(3, .int 0), (0, .ref m0), (1, .int p1), (2, .int (nI r9))]) hx hb dX8_layRound_1 rfl hl (by decide) rfl (fun ls hl => ?_)
  refine lv_iconst (v := 0) hx hb dX8_layRound_2 (by decide) ?_
  refine lv_istore (lv' := [(4, .int 0), (3, .int 0), (0, .ref m0), (1, .int p1), (2, .int (nI r9))]) hx hb dX8_layRound_3 hl (by decide) rfl (fun ls hl => ?_)
  have L5 : ∀ (n5 : Nat), ∀ (k : Nat) (ya : Int32) (fso2 fla2 fc2 : Nat → Int32), (0 ≤ k ∧ k ≤ L) → (L + 1 ≤ k + n5) → (ya = 0 ∨ ya = 1) → (mn_ct mn_ng fso2 59049 + mn_ct mn_ng fla2 59049 ≤ mn_ct mn_ng fso 59049 + mn_ct mn_ng fla 59049) → (ya = 1 → mn_ct mn_ng fso2 59049 + mn_ct mn_ng fla2 59049 < mn_ct mn_ng fso 59049 + mn_ct mn_ng fla 59049) → ∀ (H : Heap) (locs : List Loc), va_P (dC, dI) vwCl [(m0, .inr (6, [.ref st, .ref im, .ref kq, .ref pw, .ref nx, .ref li, .int (nI L), .ref il, .ref mv, .ref so, .ref la, .int d11, .int d12, .ref co])), (st, .inl (cyI, 72, .inl fs)), (pw, .inl (cyI, 11, .inl fp)), (li, .inl (cyI, 59049, .inl lf)), (mv, .inl (cyI, 59049, .inl mf)), (so, .inl (cyI, 59049, .inl fso2)), (la, .inl (cyI, 59049, .inl fla2)), (co, .inl (cyI, 10, .inl fc2))] H → va_D A [(m0, .inr (6, [.ref st, .ref im, .ref kq, .ref pw, .ref nx, .ref li, .int (nI L), .ref il, .ref mv, .ref so, .ref la, .int d11, .int d12, .ref co])), (st, .inl (cyI, 72, .inl fs)), (pw, .inl (cyI, 11, .inl fp)), (li, .inl (cyI, 59049, .inl lf)), (mv, .inl (cyI, 59049, .inl mf)), (so, .inl (cyI, 59049, .inl fso2)), (la, .inl (cyI, 59049, .inl fla2)), (co, .inl (cyI, 10, .inl fc2))] → va_S A s.heap H locs → ∀ (ls : Array Slot), lv_has ls 6 [(0, .ref m0), (1, .int p1), (2, .int (nI r9)), (3, .int ya), (4, .int (nI k))] → W p l e (headSpec wsX8_layRound ({ frames := 4, cells := 0, slots := 0, locals := 96 })).room s m ([.ref m0, .int p1, .int (nI r9)] : List Value).toArray below meth c H locs 0 0 (MQ below (va_Qi (S := (Nat → Int32) × (Nat → Int32) × (Nat → Int32)) (fun (r : Int32) (q : (Nat → Int32) × (Nat → Int32) × (Nat → Int32)) => (r = 0 ∨ r = 1) ∧ mn_ct mn_ng q.1 59049 + mn_ct mn_ng q.2.1 59049 ≤ mn_ct mn_ng fso 59049 + mn_ct mn_ng fla 59049 ∧ (r = 1 → mn_ct mn_ng q.1 59049 + mn_ct mn_ng q.2.1 59049 < mn_ct mn_ng fso 59049 + mn_ct mn_ng fla 59049)) (fun q t => bs_E dC dI A [(m0, .inr (6, [.ref st, .ref im, .ref kq, .ref pw, .ref nx, .ref li, .int (nI L), .ref il, .ref mv, .ref so, .ref la, .int d11, .int d12, .ref co])), (st, .inl (cyI, 72, .inl fs)), (pw, .inl (cyI, 11, .inl fp)), (li, .inl (cyI, 59049, .inl lf)), (mv, .inl (cyI, 59049, .inl mf)), (so, .inl (cyI, 59049, .inl q.1)), (la, .inl (cyI, 59049, .inl q.2.1)), (co, .inl (cyI, 10, .inl q.2.2))] t) A) ([.ref m0, .int p1, .int (nI r9)] : List Value).toArray s 0 0 A) (F0 m 5 ls []) := by
    intro n5
    induction n5 with
    | zero =>
      intro k ya fso2 fla2 fc2 hk5 hn5 hya hm hm1 H locs hP hD hS ls hl
      exfalso
      omega
    | succ n5 ih5 =>
      intro k ya fso2 fla2 fc2 hk5 hn5 hya hm hm1 H locs hP hD hS ls hl
      refine lv_iload hx hb dX8_layRound_5 (lv_at hl 4 rfl) ?_
      refine lv_aload_n hx hb dX8_layRound_7 rfl (lv_at hl 0 rfl) ?_
      refine va_get (D := (dC, dI)) (ci := 6) (v := .int (nI L)) (C := RX8) (T := TX8) (N := 14) hx hb hts hnX8_layRound_X8 hown hK hP 0 rfl rfl 6 (by decide) (hts (.fieldLink RX8 128 "RingMeetsModel" "listed" "I") (by decide +kernel)) (fun _ h9 => h9) rfl dX8_layRound_8 ?_
      refine lv_icmp_ge (tgt := 70) hx hb dX8_layRound_11 (by decide) (fun c_1 => ?_) (fun c_1 => ?_)
      · skip
        have ic_1 := ci_le (nI_toInt (n := L) (by omega)) (nI_toInt (n := k) (by omega)) c_1
        refine lv_iload_n hx hb dX8_layRound_70 rfl (lv_at hl 3 rfl) ?_
        exact W.zret (v := ya) hx hb hr (show narrow .boolean (.int ya) = .int ya from nb_nar hya) (fun t ht hW => ⟨⟨ya, (fso2, fla2, fc2), rfl, ⟨hya, hm, hm1⟩, ⟨by rw [ht]; exact hP.sub (ws' := [(m0, .inr (6, [.ref st, .ref im, .ref kq, .ref pw, .ref nx, .ref li, .int (nI L), .ref il, .ref mv, .ref so, .ref la, .int d11, .int d12, .ref co])), (st, .inl (cyI, 72, .inl fs)), (pw, .inl (cyI, 11, .inl fp)), (li, .inl (cyI, 59049, .inl lf)), (mv, .inl (cyI, 59049, .inl mf)), (so, .inl (cyI, 59049, .inl fso2)), (la, .inl (cyI, 59049, .inl fla2)), (co, .inl (cyI, 10, .inl fc2))]) [0, 1, 2, 3, 4, 5, 6, 7] rfl, hD.sub (ws' := [(m0, .inr (6, [.ref st, .ref im, .ref kq, .ref pw, .ref nx, .ref li, .int (nI L), .ref il, .ref mv, .ref so, .ref la, .int d11, .int d12, .ref co])), (st, .inl (cyI, 72, .inl fs)), (pw, .inl (cyI, 11, .inl fp)), (li, .inl (cyI, 59049, .inl lf)), (mv, .inl (cyI, 59049, .inl mf)), (so, .inl (cyI, 59049, .inl fso2)), (la, .inl (cyI, 59049, .inl fla2)), (co, .inl (cyI, 10, .inl fc2))]) [0, 1, 2, 3, 4, 5, 6, 7] (by decide) rfl⟩⟩, hS.F ht⟩) hS.2.2 dX8_layRound_71
      · skip
        have ic_1 := ci_nle (nI_toInt (n := L) (by omega)) (nI_toInt (n := k) (by omega)) c_1
        refine lv_aload_n hx hb dX8_layRound_14 rfl (lv_at hl 0 rfl) ?_
        refine va_get (D := (dC, dI)) (ci := 6) (v := .ref li) (C := RX8) (T := TX8) (N := 14) hx hb hts hnX8_layRound_X8 hown hK hP 0 rfl rfl 5 (by decide) (hts (.fieldLink RX8 27 "RingMeetsModel" "list" "[I") (by decide +kernel)) (fun _ h9 => h9) rfl dX8_layRound_15 ?_
        refine lv_iload hx hb dX8_layRound_18 (lv_at hl 4 rfl) ?_
        refine va_iald (D := (dC, dI)) hx hb hK hP 3 0 rfl rfl (vp_in_nI (n := k) (N := 59049) (by omega) (by omega)) dX8_layRound_20 ?_
        refine lv_topi (fun x_2 ex_2 => ?_)
        rw [nI_clamp (n := k) (by omega)] at ex_2
        obtain ⟨cv, hcv, ecv⟩ := hLa k (by omega)
        obtain rfl : nI cv = x_2 := (ex_2.trans ecv).symm
        have hc9 := mn_c9 hn hcv
        refine lv_istore (lv' := [(5, .int (nI cv)), (0, .ref m0), (1, .int p1), (2, .int (nI r9)), (3, .int ya), (4, .int (nI k))]) hx hb dX8_layRound_21 hl (by decide) rfl (fun ls hl => ?_)
        refine lv_aload_n hx hb dX8_layRound_23 rfl (lv_at hl 1 rfl) ?_
        refine va_get (D := (dC, dI)) (ci := 6) (v := .ref so) (C := RX8) (T := TX8) (N := 14) hx hb hts hnX8_layRound_X8 hown hK hP 0 rfl rfl 9 (by decide) (hts (.fieldLink RX8 36 "RingMeetsModel" "soon" "[I") (by decide +kernel)) (fun _ h9 => h9) rfl dX8_layRound_24 ?_
        refine lv_iload hx hb dX8_layRound_27 (lv_at hl 0 rfl) ?_
        refine va_iald (D := (dC, dI)) hx hb hK hP 5 0 rfl rfl (vp_in_nI (n := cv) (N := 59049) (by omega) (by omega)) dX8_layRound_29 ?_
        refine lv_topi (fun x_3 ex_3 => ?_)
        rw [nI_clamp (n := cv) (by omega)] at ex_3
        refine lv_if_lt (tgt := 43) hx hb dX8_layRound_30 (by decide) (fun c_4 => ?_) (fun c_4 => ?_)
        · skip
          have ic_4 := ci_lt (rfl : Int32.toInt x_3 = _) (show Int32.toInt 0 = 0 by decide) c_4
          refine lv_aload_n hx hb dX8_layRound_43 rfl (lv_at hl 1 rfl) ?_
          refine lv_iload hx hb dX8_layRound_44 (lv_at hl 0 rfl) ?_
          refine lv_iload_n hx hb dX8_layRound_46 rfl (lv_at hl 2 rfl) ?_
          refine lv_iload_n hx hb dX8_layRound_47 rfl (lv_at hl 3 rfl) ?_
          have f_5 := va_free (wc := [(m0, .inr (6, [.ref st, .ref im, .ref kq, .ref pw, .ref nx, .ref li, .int (nI L), .ref il, .ref mv, .ref so, .ref la, .int d11, .int d12, .ref co])), (st, .inl (cyI, 72, .inl fs)), (pw, .inl (cyI, 11, .inl fp)), (mv, .inl (cyI, 59049, .inl mf)), (so, .inl (cyI, 59049, .inl fso2)), (la, .inl (cyI, 59049, .inl fla2)), (co, .inl (cyI, 10, .inl fc2))]) hD hS hA [0, 1, 2, 4, 5, 6, 7] rfl
          refine va_calli (va_runV (As := [.int (nI cv), .int p1, .int (nI r9)]) (rest := []) ⟨hx, hb, hml, hown, hts⟩ (mX8_look l dC dI cyI cyZ m0 st im kq pw nx li il mv so la co (nI L) d11 d12 n fs fp cv r9 mf fso2 fla2 fc2 p1 hn3 hn h0f hp (by omega) (by omega) _) (cwV 3 hts gX8_layRound_X8_look rfl rfl rfl (by decide +kernel) ⟨Nat.le_of_ble_eq_true rfl, Nat.le_of_ble_eq_true rfl⟩) (bs_WV hB (hP.sub (ws' := [(m0, .inr (6, [.ref st, .ref im, .ref kq, .ref pw, .ref nx, .ref li, .int (nI L), .ref il, .ref mv, .ref so, .ref la, .int d11, .int d12, .ref co])), (st, .inl (cyI, 72, .inl fs)), (pw, .inl (cyI, 11, .inl fp)), (mv, .inl (cyI, 59049, .inl mf)), (so, .inl (cyI, 59049, .inl fso2)), (la, .inl (cyI, 59049, .inl fla2)), (co, .inl (cyI, 10, .inl fc2))]) [0, 1, 2, 4, 5, 6, 7] rfl) (hD.sub (ws' := [(m0, .inr (6, [.ref st, .ref im, .ref kq, .ref pw, .ref nx, .ref li, .int (nI L), .ref il, .ref mv, .ref so, .ref la, .int d11, .int d12, .ref co])), (st, .inl (cyI, 72, .inl fs)), (pw, .inl (cyI, 11, .inl fp)), (mv, .inl (cyI, 59049, .inl mf)), (so, .inl (cyI, 59049, .inl fso2)), (la, .inl (cyI, 59049, .inl fla2)), (co, .inl (cyI, 10, .inl fc2))]) [0, 1, 2, 4, 5, 6, 7] (by decide) rfl) 0 rfl rfl) rfl rfl hl.1 rfl (lv_room (Nat.le_of_ble_eq_true rfl)) dX8_layRound_48 ⟨Nat.le_of_ble_eq_true rfl, Nat.le_of_ble_eq_true rfl⟩) hS (fun q _ h => f_5 q h) f_5 (fun rh_6 uh_6 t H1 locs ht hvm h_6 hB1 hz1 hk1 hS => ?_)
          obtain ⟨g_7, g_8, g_9⟩ := uh_6
          obtain ⟨hP1, hD1⟩ := hB1
          rw [ht] at hP1
          obtain ⟨hP, hD⟩ := va_join (wr := [(li, .inl (cyI, 59049, .inl lf))]) (w1 := [(m0, .inr (6, [.ref st, .ref im, .ref kq, .ref pw, .ref nx, .ref li, .int (nI L), .ref il, .ref mv, .ref so, .ref la, .int d11, .int d12, .ref co])), (st, .inl (cyI, 72, .inl fs)), (pw, .inl (cyI, 11, .inl fp)), (mv, .inl (cyI, 59049, .inl mf)), (so, .inl (cyI, 59049, .inl g_7)), (la, .inl (cyI, 59049, .inl g_8)), (co, .inl (cyI, 10, .inl g_9))]) hP hD [0, 1, 2, 4, 5, 6, 7] [3] rfl rfl (by decide) (by decide) hk1 f_5 hP1 hD1
          generalize H1 = H at hP hS ⊢
          have hP : va_P (dC, dI) vwCl [(li, .inl (cyI, 59049, .inl lf)), (m0, .inr (6, [.ref st, .ref im, .ref kq, .ref pw, .ref nx, .ref li, .int (nI L), .ref il, .ref mv, .ref so, .ref la, .int d11, .int d12, .ref co])), (st, .inl (cyI, 72, .inl fs)), (pw, .inl (cyI, 11, .inl fp)), (mv, .inl (cyI, 59049, .inl mf)), (so, .inl (cyI, 59049, .inl g_7)), (la, .inl (cyI, 59049, .inl g_8)), (co, .inl (cyI, 10, .inl g_9))] _ := hP
          have hD : va_D A [(li, .inl (cyI, 59049, .inl lf)), (m0, .inr (6, [.ref st, .ref im, .ref kq, .ref pw, .ref nx, .ref li, .int (nI L), .ref il, .ref mv, .ref so, .ref la, .int d11, .int d12, .ref co])), (st, .inl (cyI, 72, .inl fs)), (pw, .inl (cyI, 11, .inl fp)), (mv, .inl (cyI, 59049, .inl mf)), (so, .inl (cyI, 59049, .inl g_7)), (la, .inl (cyI, 59049, .inl g_8)), (co, .inl (cyI, 10, .inl g_9))] := hD
          have h_6 : (rh_6 = 0 ∨ rh_6 = 1) ∧ mn_ct mn_ng g_7 59049 + mn_ct mn_ng g_8 59049 ≤ mn_ct mn_ng fso2 59049 + mn_ct mn_ng fla2 59049 ∧ (rh_6 = 1 → mn_ct mn_ng g_7 59049 + mn_ct mn_ng g_8 59049 < mn_ct mn_ng fso2 59049 + mn_ct mn_ng fla2 59049) := h_6
          obtain ⟨hr1, hr2, hr3⟩ := h_6
          refine lv_if_ne (tgt := 58) hx hb dX8_layRound_51 (by decide) (fun c_10 => ?_) (fun c_10 => ?_)
          · skip
            have ic_10 := ci_ne (rfl : Int32.toInt rh_6 = _) (show Int32.toInt 0 = 0 by decide) c_10
            have hlt := Nat.lt_of_lt_of_le (hr3 (hr1.resolve_left c_10)) hm
            refine lv_iconst (v := 1) hx hb dX8_layRound_58 (by decide) ?_
            refine lv_goto (tgt := 63) hx hb dX8_layRound_59 (by decide) ?_
            refine lv_istore_n (lv' := [(3, .int 1), (5, .int (nI cv)), (0, .ref m0), (1, .int p1), (2, .int (nI r9)), (4, .int (nI k))]) hx hb dX8_layRound_63 rfl hl (by decide) rfl (fun ls hl => ?_)
            refine lv_iinc (v := (nI (k + 1))) (lv' := [(4, .int (nI (k + 1))), (3, .int 1), (5, .int (nI cv)), (0, .ref m0), (1, .int p1), (2, .int (nI r9))]) hx hb dX8_layRound_64 hl (k := 5) rfl (nI_1 _) (by decide) rfl (fun ls hl => ?_)
            refine lv_goto (tgt := 5) hx hb dX8_layRound_67 (by decide) ?_
            exact ih5 (k + 1) 1 g_7 g_8 g_9 ⟨by omega, by omega⟩ (by omega) (Or.inr rfl) (Nat.le_trans hr2 hm) (fun _ => hlt) _ _ (hP.sub [1, 2, 3, 0, 4, 5, 6, 7] rfl) (hD.sub [1, 2, 3, 0, 4, 5, 6, 7] (by decide) rfl) hS _ (lv_sub hl [3, 4, 5, 1, 0] rfl)
          · skip
            have ic_10 := ci_eq (rfl : Int32.toInt rh_6 = _) (show Int32.toInt 0 = 0 by decide) c_10
            refine lv_iload_n hx hb dX8_layRound_54 rfl (lv_at hl 4 rfl) ?_
            refine lv_if_eq (tgt := 62) hx hb dX8_layRound_55 (by decide) (fun c_11 => ?_) (fun c_11 => ?_)
            · skip
              have ic_11 := ci_eq (rfl : Int32.toInt ya = _) (show Int32.toInt 0 = 0 by decide) c_11
              refine lv_iconst (v := 0) hx hb dX8_layRound_62 (by decide) ?_
              refine lv_istore_n (lv' := [(3, .int 0), (5, .int (nI cv)), (0, .ref m0), (1, .int p1), (2, .int (nI r9)), (4, .int (nI k))]) hx hb dX8_layRound_63 rfl hl (by decide) rfl (fun ls hl => ?_)
              refine lv_iinc (v := (nI (k + 1))) (lv' := [(4, .int (nI (k + 1))), (3, .int 0), (5, .int (nI cv)), (0, .ref m0), (1, .int p1), (2, .int (nI r9))]) hx hb dX8_layRound_64 hl (k := 5) rfl (nI_1 _) (by decide) rfl (fun ls hl => ?_)
              refine lv_goto (tgt := 5) hx hb dX8_layRound_67 (by decide) ?_
              exact ih5 (k + 1) 0 g_7 g_8 g_9 ⟨by omega, by omega⟩ (by omega) (Or.inl rfl) (Nat.le_trans hr2 hm) (fun q => absurd q (by decide)) _ _ (hP.sub [1, 2, 3, 0, 4, 5, 6, 7] rfl) (hD.sub [1, 2, 3, 0, 4, 5, 6, 7] (by decide) rfl) hS _ (lv_sub hl [3, 4, 5, 1, 0] rfl)
            · skip
              have ic_11 := ci_ne (rfl : Int32.toInt ya = _) (show Int32.toInt 0 = 0 by decide) c_11
              have hlt := Nat.lt_of_le_of_lt hr2 (hm1 (hya.resolve_left c_11))
              refine lv_iconst (v := 1) hx hb dX8_layRound_58 (by decide) ?_
              refine lv_goto (tgt := 63) hx hb dX8_layRound_59 (by decide) ?_
              refine lv_istore_n (lv' := [(3, .int 1), (5, .int (nI cv)), (0, .ref m0), (1, .int p1), (2, .int (nI r9)), (4, .int (nI k))]) hx hb dX8_layRound_63 rfl hl (by decide) rfl (fun ls hl => ?_)
              refine lv_iinc (v := (nI (k + 1))) (lv' := [(4, .int (nI (k + 1))), (3, .int 1), (5, .int (nI cv)), (0, .ref m0), (1, .int p1), (2, .int (nI r9))]) hx hb dX8_layRound_64 hl (k := 5) rfl (nI_1 _) (by decide) rfl (fun ls hl => ?_)
              refine lv_goto (tgt := 5) hx hb dX8_layRound_67 (by decide) ?_
              exact ih5 (k + 1) 1 g_7 g_8 g_9 ⟨by omega, by omega⟩ (by omega) (Or.inr rfl) (Nat.le_trans hr2 hm) (fun _ => hlt) _ _ (hP.sub [1, 2, 3, 0, 4, 5, 6, 7] rfl) (hD.sub [1, 2, 3, 0, 4, 5, 6, 7] (by decide) rfl) hS _ (lv_sub hl [3, 4, 5, 1, 0] rfl)
        · skip
          have ic_4 := ci_nlt (rfl : Int32.toInt x_3 = _) (show Int32.toInt 0 = 0 by decide) c_4
          refine lv_aload_n hx hb dX8_layRound_33 rfl (lv_at hl 1 rfl) ?_
          refine va_get (D := (dC, dI)) (ci := 6) (v := .ref la) (C := RX8) (T := TX8) (N := 14) hx hb hts hnX8_layRound_X8 hown hK hP 0 rfl rfl 10 (by decide) (hts (.fieldLink RX8 39 "RingMeetsModel" "late" "[I") (by decide +kernel)) (fun _ h9 => h9) rfl dX8_layRound_34 ?_
          refine lv_iload hx hb dX8_layRound_37 (lv_at hl 0 rfl) ?_
          refine va_iald (D := (dC, dI)) hx hb hK hP 6 0 rfl rfl (vp_in_nI (n := cv) (N := 59049) (by omega) (by omega)) dX8_layRound_39 ?_
          refine lv_topi (fun x_12 ex_12 => ?_)
          rw [nI_clamp (n := cv) (by omega)] at ex_12
          refine lv_if_ge (tgt := 64) hx hb dX8_layRound_40 (by decide) (fun c_13 => ?_) (fun c_13 => ?_)
          · skip
            have ic_13 := ci_le (show Int32.toInt 0 = 0 by decide) (rfl : Int32.toInt x_12 = _) c_13
            refine lv_iinc (v := (nI (k + 1))) (lv' := [(4, .int (nI (k + 1))), (5, .int (nI cv)), (0, .ref m0), (1, .int p1), (2, .int (nI r9)), (3, .int ya)]) hx hb dX8_layRound_64 hl (k := 5) rfl (nI_1 _) (by decide) rfl (fun ls hl => ?_)
            refine lv_goto (tgt := 5) hx hb dX8_layRound_67 (by decide) ?_
            exact ih5 (k + 1) ya fso2 fla2 fc2 ⟨by omega, by omega⟩ (by omega) hya hm hm1 _ _ (hP.sub [0, 1, 2, 3, 4, 5, 6, 7] rfl) (hD.sub [0, 1, 2, 3, 4, 5, 6, 7] (by decide) rfl) hS _ (lv_sub hl [2, 3, 4, 5, 0] rfl)
          · skip
            have ic_13 := ci_nle (show Int32.toInt 0 = 0 by decide) (rfl : Int32.toInt x_12 = _) c_13
            refine lv_aload_n hx hb dX8_layRound_43 rfl (lv_at hl 1 rfl) ?_
            refine lv_iload hx hb dX8_layRound_44 (lv_at hl 0 rfl) ?_
            refine lv_iload_n hx hb dX8_layRound_46 rfl (lv_at hl 2 rfl) ?_
            refine lv_iload_n hx hb dX8_layRound_47 rfl (lv_at hl 3 rfl) ?_
            have f_14 := va_free (wc := [(m0, .inr (6, [.ref st, .ref im, .ref kq, .ref pw, .ref nx, .ref li, .int (nI L), .ref il, .ref mv, .ref so, .ref la, .int d11, .int d12, .ref co])), (st, .inl (cyI, 72, .inl fs)), (pw, .inl (cyI, 11, .inl fp)), (mv, .inl (cyI, 59049, .inl mf)), (so, .inl (cyI, 59049, .inl fso2)), (la, .inl (cyI, 59049, .inl fla2)), (co, .inl (cyI, 10, .inl fc2))]) hD hS hA [0, 1, 2, 4, 5, 6, 7] rfl
            refine va_calli (va_runV (As := [.int (nI cv), .int p1, .int (nI r9)]) (rest := []) ⟨hx, hb, hml, hown, hts⟩ (mX8_look l dC dI cyI cyZ m0 st im kq pw nx li il mv so la co (nI L) d11 d12 n fs fp cv r9 mf fso2 fla2 fc2 p1 hn3 hn h0f hp (by omega) (by omega) _) (cwV 3 hts gX8_layRound_X8_look rfl rfl rfl (by decide +kernel) ⟨Nat.le_of_ble_eq_true rfl, Nat.le_of_ble_eq_true rfl⟩) (bs_WV hB (hP.sub (ws' := [(m0, .inr (6, [.ref st, .ref im, .ref kq, .ref pw, .ref nx, .ref li, .int (nI L), .ref il, .ref mv, .ref so, .ref la, .int d11, .int d12, .ref co])), (st, .inl (cyI, 72, .inl fs)), (pw, .inl (cyI, 11, .inl fp)), (mv, .inl (cyI, 59049, .inl mf)), (so, .inl (cyI, 59049, .inl fso2)), (la, .inl (cyI, 59049, .inl fla2)), (co, .inl (cyI, 10, .inl fc2))]) [0, 1, 2, 4, 5, 6, 7] rfl) (hD.sub (ws' := [(m0, .inr (6, [.ref st, .ref im, .ref kq, .ref pw, .ref nx, .ref li, .int (nI L), .ref il, .ref mv, .ref so, .ref la, .int d11, .int d12, .ref co])), (st, .inl (cyI, 72, .inl fs)), (pw, .inl (cyI, 11, .inl fp)), (mv, .inl (cyI, 59049, .inl mf)), (so, .inl (cyI, 59049, .inl fso2)), (la, .inl (cyI, 59049, .inl fla2)), (co, .inl (cyI, 10, .inl fc2))]) [0, 1, 2, 4, 5, 6, 7] (by decide) rfl) 0 rfl rfl) rfl rfl hl.1 rfl (lv_room (Nat.le_of_ble_eq_true rfl)) dX8_layRound_48 ⟨Nat.le_of_ble_eq_true rfl, Nat.le_of_ble_eq_true rfl⟩) hS (fun q _ h => f_14 q h) f_14 (fun rh_15 uh_15 t H1 locs ht hvm h_15 hB1 hz1 hk1 hS => ?_)
            obtain ⟨g_16, g_17, g_18⟩ := uh_15
            obtain ⟨hP1, hD1⟩ := hB1
            rw [ht] at hP1
            obtain ⟨hP, hD⟩ := va_join (wr := [(li, .inl (cyI, 59049, .inl lf))]) (w1 := [(m0, .inr (6, [.ref st, .ref im, .ref kq, .ref pw, .ref nx, .ref li, .int (nI L), .ref il, .ref mv, .ref so, .ref la, .int d11, .int d12, .ref co])), (st, .inl (cyI, 72, .inl fs)), (pw, .inl (cyI, 11, .inl fp)), (mv, .inl (cyI, 59049, .inl mf)), (so, .inl (cyI, 59049, .inl g_16)), (la, .inl (cyI, 59049, .inl g_17)), (co, .inl (cyI, 10, .inl g_18))]) hP hD [0, 1, 2, 4, 5, 6, 7] [3] rfl rfl (by decide) (by decide) hk1 f_14 hP1 hD1
            generalize H1 = H at hP hS ⊢
            have hP : va_P (dC, dI) vwCl [(li, .inl (cyI, 59049, .inl lf)), (m0, .inr (6, [.ref st, .ref im, .ref kq, .ref pw, .ref nx, .ref li, .int (nI L), .ref il, .ref mv, .ref so, .ref la, .int d11, .int d12, .ref co])), (st, .inl (cyI, 72, .inl fs)), (pw, .inl (cyI, 11, .inl fp)), (mv, .inl (cyI, 59049, .inl mf)), (so, .inl (cyI, 59049, .inl g_16)), (la, .inl (cyI, 59049, .inl g_17)), (co, .inl (cyI, 10, .inl g_18))] _ := hP
            have hD : va_D A [(li, .inl (cyI, 59049, .inl lf)), (m0, .inr (6, [.ref st, .ref im, .ref kq, .ref pw, .ref nx, .ref li, .int (nI L), .ref il, .ref mv, .ref so, .ref la, .int d11, .int d12, .ref co])), (st, .inl (cyI, 72, .inl fs)), (pw, .inl (cyI, 11, .inl fp)), (mv, .inl (cyI, 59049, .inl mf)), (so, .inl (cyI, 59049, .inl g_16)), (la, .inl (cyI, 59049, .inl g_17)), (co, .inl (cyI, 10, .inl g_18))] := hD
            have h_15 : (rh_15 = 0 ∨ rh_15 = 1) ∧ mn_ct mn_ng g_16 59049 + mn_ct mn_ng g_17 59049 ≤ mn_ct mn_ng fso2 59049 + mn_ct mn_ng fla2 59049 ∧ (rh_15 = 1 → mn_ct mn_ng g_16 59049 + mn_ct mn_ng g_17 59049 < mn_ct mn_ng fso2 59049 + mn_ct mn_ng fla2 59049) := h_15
            obtain ⟨hr1, hr2, hr3⟩ := h_15
            refine lv_if_ne (tgt := 58) hx hb dX8_layRound_51 (by decide) (fun c_19 => ?_) (fun c_19 => ?_)
            · skip
              have ic_19 := ci_ne (rfl : Int32.toInt rh_15 = _) (show Int32.toInt 0 = 0 by decide) c_19
              have hlt := Nat.lt_of_lt_of_le (hr3 (hr1.resolve_left c_19)) hm
              refine lv_iconst (v := 1) hx hb dX8_layRound_58 (by decide) ?_
              refine lv_goto (tgt := 63) hx hb dX8_layRound_59 (by decide) ?_
              refine lv_istore_n (lv' := [(3, .int 1), (5, .int (nI cv)), (0, .ref m0), (1, .int p1), (2, .int (nI r9)), (4, .int (nI k))]) hx hb dX8_layRound_63 rfl hl (by decide) rfl (fun ls hl => ?_)
              refine lv_iinc (v := (nI (k + 1))) (lv' := [(4, .int (nI (k + 1))), (3, .int 1), (5, .int (nI cv)), (0, .ref m0), (1, .int p1), (2, .int (nI r9))]) hx hb dX8_layRound_64 hl (k := 5) rfl (nI_1 _) (by decide) rfl (fun ls hl => ?_)
              refine lv_goto (tgt := 5) hx hb dX8_layRound_67 (by decide) ?_
              exact ih5 (k + 1) 1 g_16 g_17 g_18 ⟨by omega, by omega⟩ (by omega) (Or.inr rfl) (Nat.le_trans hr2 hm) (fun _ => hlt) _ _ (hP.sub [1, 2, 3, 0, 4, 5, 6, 7] rfl) (hD.sub [1, 2, 3, 0, 4, 5, 6, 7] (by decide) rfl) hS _ (lv_sub hl [3, 4, 5, 1, 0] rfl)
            · skip
              have ic_19 := ci_eq (rfl : Int32.toInt rh_15 = _) (show Int32.toInt 0 = 0 by decide) c_19
              refine lv_iload_n hx hb dX8_layRound_54 rfl (lv_at hl 4 rfl) ?_
              refine lv_if_eq (tgt := 62) hx hb dX8_layRound_55 (by decide) (fun c_20 => ?_) (fun c_20 => ?_)
              · skip
                have ic_20 := ci_eq (rfl : Int32.toInt ya = _) (show Int32.toInt 0 = 0 by decide) c_20
                refine lv_iconst (v := 0) hx hb dX8_layRound_62 (by decide) ?_
                refine lv_istore_n (lv' := [(3, .int 0), (5, .int (nI cv)), (0, .ref m0), (1, .int p1), (2, .int (nI r9)), (4, .int (nI k))]) hx hb dX8_layRound_63 rfl hl (by decide) rfl (fun ls hl => ?_)
                refine lv_iinc (v := (nI (k + 1))) (lv' := [(4, .int (nI (k + 1))), (3, .int 0), (5, .int (nI cv)), (0, .ref m0), (1, .int p1), (2, .int (nI r9))]) hx hb dX8_layRound_64 hl (k := 5) rfl (nI_1 _) (by decide) rfl (fun ls hl => ?_)
                refine lv_goto (tgt := 5) hx hb dX8_layRound_67 (by decide) ?_
                exact ih5 (k + 1) 0 g_16 g_17 g_18 ⟨by omega, by omega⟩ (by omega) (Or.inl rfl) (Nat.le_trans hr2 hm) (fun q => absurd q (by decide)) _ _ (hP.sub [1, 2, 3, 0, 4, 5, 6, 7] rfl) (hD.sub [1, 2, 3, 0, 4, 5, 6, 7] (by decide) rfl) hS _ (lv_sub hl [3, 4, 5, 1, 0] rfl)
              · skip
                have ic_20 := ci_ne (rfl : Int32.toInt ya = _) (show Int32.toInt 0 = 0 by decide) c_20
                have hlt := Nat.lt_of_le_of_lt hr2 (hm1 (hya.resolve_left c_20))
                refine lv_iconst (v := 1) hx hb dX8_layRound_58 (by decide) ?_
                refine lv_goto (tgt := 63) hx hb dX8_layRound_59 (by decide) ?_
                refine lv_istore_n (lv' := [(3, .int 1), (5, .int (nI cv)), (0, .ref m0), (1, .int p1), (2, .int (nI r9)), (4, .int (nI k))]) hx hb dX8_layRound_63 rfl hl (by decide) rfl (fun ls hl => ?_)
                refine lv_iinc (v := (nI (k + 1))) (lv' := [(4, .int (nI (k + 1))), (3, .int 1), (5, .int (nI cv)), (0, .ref m0), (1, .int p1), (2, .int (nI r9))]) hx hb dX8_layRound_64 hl (k := 5) rfl (nI_1 _) (by decide) rfl (fun ls hl => ?_)
                refine lv_goto (tgt := 5) hx hb dX8_layRound_67 (by decide) ?_
                exact ih5 (k + 1) 1 g_16 g_17 g_18 ⟨by omega, by omega⟩ (by omega) (Or.inr rfl) (Nat.le_trans hr2 hm) (fun _ => hlt) _ _ (hP.sub [1, 2, 3, 0, 4, 5, 6, 7] rfl) (hD.sub [1, 2, 3, 0, 4, 5, 6, 7] (by decide) rfl) hS _ (lv_sub hl [3, 4, 5, 1, 0] rfl)
  exact L5 (L + 1) 0 0 fso fla fc ⟨by omega, by omega⟩ (by omega) (Or.inl rfl) (Nat.le_refl _) (fun q => absurd q (by decide)) _ _ (hP.sub [0, 1, 2, 3, 4, 5, 6, 7] rfl) (hD.sub [0, 1, 2, 3, 4, 5, 6, 7] (by decide) rfl) hS _ (lv_sub hl [2, 3, 4, 1, 0] rfl)

theorem hnX8_listAll_X8 : ∀ w ∈ wsX80, w ∈ wsX8_listAll := fun _ h => List.mem_cons_of_mem _ (List.mem_append_right _ h)
set_option maxHeartbeats 4000000 in
set_option maxRecDepth 100000 in
theorem mX8_listAll (l : Launch) (dC : Nat → ClassId) (dI : Nat → Nat → Nat) (cyI cyZ : ClassId) (m0 : Nat) (st : Nat) (im : Nat) (kq : Nat) (pw : Nat) (nx : Nat) (li : Nat) (il : Nat) (mv : Nat) (so : Nat) (la : Nat) (co : Nat) (L : Nat) (d11 : Int32) (d12 : Int32) (n : Nat) (fs : Nat → Int32) (fp : Nat → Int32) (zz : Nat) (lf : Nat → Int32) (ilf : Nat → Int32) (mf : Nat → Int32) (fso : Nat → Int32) (fla : Nat → Int32) (fc : Nat → Int32) (p1 : Int32) (hn3 : 3 ≤ n) (hn : n ≤ 10) (h0f : fs 0 = nI n) (hp : ∀ j, j ≤ 10 → fp j = nI (3 ^ j)) (hzf : fs 11 = nI zz) (hz10 : zz ≤ 10) (hL : mn_L n L lf ilf) (sz : Nat) : Met l yX8_listAll wsX8_listAll ({ frames := 9, cells := 0, slots := 0, locals := 220 }) (bs_W dC dI cyI cyZ [.ref m0, .int p1] [(m0, .inr (6, [.ref st, .ref im, .ref kq, .ref pw, .ref nx, .ref li, .int (nI L), .ref il, .ref mv, .ref so, .ref la, .int d11, .int d12, .ref co])), (st, .inl (cyI, 72, .inl fs)), (pw, .inl (cyI, 11, .inl fp)), (li, .inl (cyI, 59049, .inl lf)), (il, .inl (cyZ, 59049, .inl ilf)), (mv, .inl (cyI, 59049, .inl mf)), (so, .inl (cyI, 59049, .inl fso)), (la, .inl (cyI, 59049, .inl fla)), (co, .inl (cyI, 10, .inl fc))] sz) (va_Qv (S := Nat × Int32 × (Nat → Int32) × (Nat → Int32) × (Nat → Int32) × (Nat → Int32) × (Nat → Int32) × (Nat → Int32)) (fun q : Nat × Int32 × (Nat → Int32) × (Nat → Int32) × (Nat → Int32) × (Nat → Int32) × (Nat → Int32) × (Nat → Int32) => mn_L n q.1 q.2.2.1 q.2.2.2.1) (fun q t => bs_E dC dI (va_A [(m0, .inr (6, [.ref st, .ref im, .ref kq, .ref pw, .ref nx, .ref li, .int (nI L), .ref il, .ref mv, .ref so, .ref la, .int d11, .int d12, .ref co])), (st, .inl (cyI, 72, .inl fs)), (pw, .inl (cyI, 11, .inl fp)), (li, .inl (cyI, 59049, .inl lf)), (il, .inl (cyZ, 59049, .inl ilf)), (mv, .inl (cyI, 59049, .inl mf)), (so, .inl (cyI, 59049, .inl fso)), (la, .inl (cyI, 59049, .inl fla)), (co, .inl (cyI, 10, .inl fc))] sz) [(m0, .inr (6, [.ref st, .ref im, .ref kq, .ref pw, .ref nx, .ref li, .int (nI q.1), .ref il, .ref mv, .ref so, .ref la, .int q.2.1, .int d12, .ref co])), (st, .inl (cyI, 72, .inl fs)), (pw, .inl (cyI, 11, .inl fp)), (li, .inl (cyI, 59049, .inl q.2.2.1)), (il, .inl (cyZ, 59049, .inl q.2.2.2.1)), (mv, .inl (cyI, 59049, .inl q.2.2.2.2.1)), (so, .inl (cyI, 59049, .inl q.2.2.2.2.2.1)), (la, .inl (cyI, 59049, .inl q.2.2.2.2.2.2.1)), (co, .inl (cyI, 10, .inl q.2.2.2.2.2.2.2))] t) (va_A [(m0, .inr (6, [.ref st, .ref im, .ref kq, .ref pw, .ref nx, .ref li, .int (nI L), .ref il, .ref mv, .ref so, .ref la, .int d11, .int d12, .ref co])), (st, .inl (cyI, 72, .inl fs)), (pw, .inl (cyI, 11, .inl fp)), (li, .inl (cyI, 59049, .inl lf)), (il, .inl (cyZ, 59049, .inl ilf)), (mv, .inl (cyI, 59049, .inl mf)), (so, .inl (cyI, 59049, .inl fso)), (la, .inl (cyI, 59049, .inl fla)), (co, .inl (cyI, 10, .inl fc))] sz)) 0 0 (va_A [(m0, .inr (6, [.ref st, .ref im, .ref kq, .ref pw, .ref nx, .ref li, .int (nI L), .ref il, .ref mv, .ref so, .ref la, .int d11, .int d12, .ref co])), (st, .inl (cyI, 72, .inl fs)), (pw, .inl (cyI, 11, .inl fp)), (li, .inl (cyI, 59049, .inl lf)), (il, .inl (cyZ, 59049, .inl ilf)), (mv, .inl (cyI, 59049, .inl mf)), (so, .inl (cyI, 59049, .inl fso)), (la, .inl (cyI, 59049, .inl fla)), (co, .inl (cyI, 10, .inl fc))] sz) := by
  refine Met.ofW (cc := cX8_listAll) (maxL := 6) (ret := none) (by decide) rfl ?_
  intro p e s m args below meth c s₁ B hml hv
  obtain ⟨rfl, hsz, hB, hP, hD0⟩ := hv
  have hK := hB.1
  have hN := hB.2
  have hx := B.exec
  have hb := B.bytes
  have hr := B.returns
  have hts := atoms_spec (ws := wsX8_listAll) B.pre
  have hown : s.vm.findClass RX8 = some m.cls := findClass_of_methodNamed B.named
  have hlocks := B.notSynchronized
  subst hsz
  have hD := hD0.self (sz := s.heap.size)
  generalize hAe : va_A [(m0, .inr (6, [.ref st, .ref im, .ref kq, .ref pw, .ref nx, .ref li, .int (nI L), .ref il, .ref mv, .ref so, .ref la, .int d11, .int d12, .ref co])), (st, .inl (cyI, 72, .inl fs)), (pw, .inl (cyI, 11, .inl fp)), (li, .inl (cyI, 59049, .inl lf)), (il, .inl (cyZ, 59049, .inl ilf)), (mv, .inl (cyI, 59049, .inl mf)), (so, .inl (cyI, 59049, .inl fso)), (la, .inl (cyI, 59049, .inl fla)), (co, .inl (cyI, 10, .inl fc))] s.heap.size = A at hD ⊢
  have hA : ∀ q : Nat, s.heap.size ≤ q → A q := fun q h => by rw [← hAe]; exact Or.inr h
  have hS : va_S A s.heap s.heap [] := va_S.rf
  have hP : va_P (dC, dI) vwCl [(m0, .inr (6, [.ref st, .ref im, .ref kq, .ref pw, .ref nx, .ref li, .int (nI L), .ref il, .ref mv, .ref so, .ref la, .int d11, .int d12, .ref co])), (st, .inl (cyI, 72, .inl fs)), (pw, .inl (cyI, 11, .inl fp)), (li, .inl (cyI, 59049, .inl lf)), (il, .inl (cyZ, 59049, .inl ilf)), (mv, .inl (cyI, 59049, .inl mf)), (so, .inl (cyI, 59049, .inl fso)), (la, .inl (cyI, 59049, .inl fla)), (co, .inl (cyI, 10, .inl fc))] s.heap := hP
  have hl := lv_entry ([.ref m0, .int p1]) (n := 6) (Nat.le_of_ble_eq_true rfl)
  rw [lg_entry_eq]
  generalize (lg_sl ([.ref m0, .int p1]) ++ List.replicate (6 - (lg_sl ([.ref m0, .int p1])).length) Slot.unset).toArray = ls at hl ⊢
  have hl : lv_has ls 6 [(0, .ref m0), (1, .int p1)] := hl
  refine lv_iconst (v := 0) hx hb dX8_listAll_0 (by decide) ?_
  refine lv_istore_n (lv' := [(2, .int 0), (0, .ref m0), (1, .int p1)]) hx hb dX8_listAll_1 rfl hl (by decide) rfl (fun ls hl => ?_)
  have L2 : ∀ (n2 : Nat), ∀ (k L2 : Nat) (ub : Int32) (lf2 ilf2 mf2 fso2 fla2 fc2 : Nat → Int32), (k ≤ 59049) → (59050 ≤ k + n2) → (mn_L n L2 lf2 ilf2) → ∀ (H : Heap) (locs : List Loc), va_P (dC, dI) vwCl [(m0, .inr (6, [.ref st, .ref im, .ref kq, .ref pw, .ref nx, .ref li, .int (nI L2), .ref il, .ref mv, .ref so, .ref la, .int ub, .int d12, .ref co])), (st, .inl (cyI, 72, .inl fs)), (pw, .inl (cyI, 11, .inl fp)), (li, .inl (cyI, 59049, .inl lf2)), (il, .inl (cyZ, 59049, .inl ilf2)), (mv, .inl (cyI, 59049, .inl mf2)), (so, .inl (cyI, 59049, .inl fso2)), (la, .inl (cyI, 59049, .inl fla2)), (co, .inl (cyI, 10, .inl fc2))] H → va_D A [(m0, .inr (6, [.ref st, .ref im, .ref kq, .ref pw, .ref nx, .ref li, .int (nI L2), .ref il, .ref mv, .ref so, .ref la, .int ub, .int d12, .ref co])), (st, .inl (cyI, 72, .inl fs)), (pw, .inl (cyI, 11, .inl fp)), (li, .inl (cyI, 59049, .inl lf2)), (il, .inl (cyZ, 59049, .inl ilf2)), (mv, .inl (cyI, 59049, .inl mf2)), (so, .inl (cyI, 59049, .inl fso2)), (la, .inl (cyI, 59049, .inl fla2)), (co, .inl (cyI, 10, .inl fc2))] → va_S A s.heap H locs → ∀ (ls : Array Slot), lv_has ls 6 [(0, .ref m0), (1, .int p1), (2, .int (nI k))] → W p l e (headSpec wsX8_listAll ({ frames := 9, cells := 0, slots := 0, locals := 220 })).room s m ([.ref m0, .int p1] : List Value).toArray below meth c H locs 0 0 (MQ below (va_Qv (S := Nat × Int32 × (Nat → Int32) × (Nat → Int32) × (Nat → Int32) × (Nat → Int32) × (Nat → Int32) × (Nat → Int32)) (fun q : Nat × Int32 × (Nat → Int32) × (Nat → Int32) × (Nat → Int32) × (Nat → Int32) × (Nat → Int32) × (Nat → Int32) => mn_L n q.1 q.2.2.1 q.2.2.2.1) (fun q t => bs_E dC dI A [(m0, .inr (6, [.ref st, .ref im, .ref kq, .ref pw, .ref nx, .ref li, .int (nI q.1), .ref il, .ref mv, .ref so, .ref la, .int q.2.1, .int d12, .ref co])), (st, .inl (cyI, 72, .inl fs)), (pw, .inl (cyI, 11, .inl fp)), (li, .inl (cyI, 59049, .inl q.2.2.1)), (il, .inl (cyZ, 59049, .inl q.2.2.2.1)), (mv, .inl (cyI, 59049, .inl q.2.2.2.2.1)), (so, .inl (cyI, 59049, .inl q.2.2.2.2.2.1)), (la, .inl (cyI, 59049, .inl q.2.2.2.2.2.2.1)), (co, .inl (cyI, 10, .inl q.2.2.2.2.2.2.2))] t) A) ([.ref m0, .int p1] : List Value).toArray s 0 0 A) (F0 m 2 ls []) := by
    intro n2
    induction n2 with
    | zero =>
      intro k L2 ub lf2 ilf2 mf2 fso2 fla2 fc2 hk2 hn2 hL H locs hP hD hS ls hl
      exfalso
      omega
    | succ n2 ih2 =>
      intro k L2 ub lf2 ilf2 mf2 fso2 fla2 fc2 hk2 hn2 hL H locs hP hD hS ls hl
      have hLb := mn_L_le hL
      refine lv_iload_n hx hb dX8_listAll_2 rfl (lv_at hl 2 rfl) ?_
      refine lv_aload_n hx hb dX8_listAll_3 rfl (lv_at hl 0 rfl) ?_
      refine va_get (D := (dC, dI)) (ci := 6) (v := .int (nI L2)) (C := RX8) (T := TX8) (N := 14) hx hb hts hnX8_listAll_X8 hown hK hP 0 rfl rfl 6 (by decide) (hts (.fieldLink RX8 128 "RingMeetsModel" "listed" "I") (by decide +kernel)) (fun _ h9 => h9) rfl dX8_listAll_4 ?_
      refine lv_icmp_ge (tgt := 110) hx hb dX8_listAll_7 (by decide) (fun c_1 => ?_) (fun c_1 => ?_)
      · skip
        have ic_1 := ci_le (nI_toInt (n := L2) (by omega)) (nI_toInt (n := k) (by omega)) c_1
        refine lv_iconst (v := 1) hx hb dX8_listAll_110 (by decide) ?_
        refine lv_istore_n (lv' := [(2, .int 1), (0, .ref m0), (1, .int p1)]) hx hb dX8_listAll_111 rfl hl (by decide) rfl (fun ls hl => ?_)
        refine lv_iconst (v := 1) hx hb dX8_listAll_112 (by decide) ?_
        refine lv_istore_n (lv' := [(3, .int 1), (2, .int 1), (0, .ref m0), (1, .int p1)]) hx hb dX8_listAll_113 rfl hl (by decide) rfl (fun ls hl => ?_)
        have L114 : ∀ (n114 : Nat), ∀ (rd : Nat) (ym : Int32) (fso4 fla4 fc4 : Nat → Int32), (1 ≤ rd) → (ym = 0 ∧ 1 ≤ n114 ∨ mn_ct mn_ng fso4 59049 + mn_ct mn_ng fla4 59049 + 2 ≤ n114) → (ym = 0 ∨ rd + (mn_ct mn_ng fso4 59049 + mn_ct mn_ng fla4 59049) ≤ 118099) → ∀ (H : Heap) (locs : List Loc), va_P (dC, dI) vwCl [(m0, .inr (6, [.ref st, .ref im, .ref kq, .ref pw, .ref nx, .ref li, .int (nI L2), .ref il, .ref mv, .ref so, .ref la, .int ub, .int d12, .ref co])), (st, .inl (cyI, 72, .inl fs)), (pw, .inl (cyI, 11, .inl fp)), (li, .inl (cyI, 59049, .inl lf2)), (il, .inl (cyZ, 59049, .inl ilf2)), (mv, .inl (cyI, 59049, .inl mf2)), (so, .inl (cyI, 59049, .inl fso4)), (la, .inl (cyI, 59049, .inl fla4)), (co, .inl (cyI, 10, .inl fc4))] H → va_D A [(m0, .inr (6, [.ref st, .ref im, .ref kq, .ref pw, .ref nx, .ref li, .int (nI L2), .ref il, .ref mv, .ref so, .ref la, .int ub, .int d12, .ref co])), (st, .inl (cyI, 72, .inl fs)), (pw, .inl (cyI, 11, .inl fp)), (li, .inl (cyI, 59049, .inl lf2)), (il, .inl (cyZ, 59049, .inl ilf2)), (mv, .inl (cyI, 59049, .inl mf2)), (so, .inl (cyI, 59049, .inl fso4)), (la, .inl (cyI, 59049, .inl fla4)), (co, .inl (cyI, 10, .inl fc4))] → va_S A s.heap H locs → ∀ (ls : Array Slot), lv_has ls 6 [(0, .ref m0), (1, .int p1), (2, .int ym), (3, .int (nI rd))] → W p l e (headSpec wsX8_listAll ({ frames := 9, cells := 0, slots := 0, locals := 220 })).room s m ([.ref m0, .int p1] : List Value).toArray below meth c H locs 0 0 (MQ below (va_Qv (S := Nat × Int32 × (Nat → Int32) × (Nat → Int32) × (Nat → Int32) × (Nat → Int32) × (Nat → Int32) × (Nat → Int32)) (fun q : Nat × Int32 × (Nat → Int32) × (Nat → Int32) × (Nat → Int32) × (Nat → Int32) × (Nat → Int32) × (Nat → Int32) => mn_L n q.1 q.2.2.1 q.2.2.2.1) (fun q t => bs_E dC dI A [(m0, .inr (6, [.ref st, .ref im, .ref kq, .ref pw, .ref nx, .ref li, .int (nI q.1), .ref il, .ref mv, .ref so, .ref la, .int q.2.1, .int d12, .ref co])), (st, .inl (cyI, 72, .inl fs)), (pw, .inl (cyI, 11, .inl fp)), (li, .inl (cyI, 59049, .inl q.2.2.1)), (il, .inl (cyZ, 59049, .inl q.2.2.2.1)), (mv, .inl (cyI, 59049, .inl q.2.2.2.2.1)), (so, .inl (cyI, 59049, .inl q.2.2.2.2.2.1)), (la, .inl (cyI, 59049, .inl q.2.2.2.2.2.2.1)), (co, .inl (cyI, 10, .inl q.2.2.2.2.2.2.2))] t) A) ([.ref m0, .int p1] : List Value).toArray s 0 0 A) (F0 m 114 ls []) := by
          intro n114
          induction n114 with
          | zero =>
            intro rd ym fso4 fla4 fc4 hr0 hq hrd H locs hP hD hS ls hl
            exfalso
            exact mn_M9 hq
          | succ n114 ih114 =>
            intro rd ym fso4 fla4 fc4 hr0 hq hrd H locs hP hD hS ls hl
            refine lv_iload_n hx hb dX8_listAll_114 rfl (lv_at hl 2 rfl) ?_
            refine lv_if_eq (tgt := 131) hx hb dX8_listAll_115 (by decide) (fun c_2 => ?_) (fun c_2 => ?_)
            · skip
              have ic_2 := ci_eq (rfl : Int32.toInt ym = _) (show Int32.toInt 0 = 0 by decide) c_2
              exact W.vret hx hb hr (fun t ht hW => ⟨⟨(L2, ub, lf2, ilf2, mf2, fso4, fla4, fc4), rfl, hL, ⟨by rw [ht]; exact hP.sub (ws' := [(m0, .inr (6, [.ref st, .ref im, .ref kq, .ref pw, .ref nx, .ref li, .int (nI L2), .ref il, .ref mv, .ref so, .ref la, .int ub, .int d12, .ref co])), (st, .inl (cyI, 72, .inl fs)), (pw, .inl (cyI, 11, .inl fp)), (li, .inl (cyI, 59049, .inl lf2)), (il, .inl (cyZ, 59049, .inl ilf2)), (mv, .inl (cyI, 59049, .inl mf2)), (so, .inl (cyI, 59049, .inl fso4)), (la, .inl (cyI, 59049, .inl fla4)), (co, .inl (cyI, 10, .inl fc4))]) [0, 1, 2, 3, 4, 5, 6, 7, 8] rfl, hD.sub (ws' := [(m0, .inr (6, [.ref st, .ref im, .ref kq, .ref pw, .ref nx, .ref li, .int (nI L2), .ref il, .ref mv, .ref so, .ref la, .int ub, .int d12, .ref co])), (st, .inl (cyI, 72, .inl fs)), (pw, .inl (cyI, 11, .inl fp)), (li, .inl (cyI, 59049, .inl lf2)), (il, .inl (cyZ, 59049, .inl ilf2)), (mv, .inl (cyI, 59049, .inl mf2)), (so, .inl (cyI, 59049, .inl fso4)), (la, .inl (cyI, 59049, .inl fla4)), (co, .inl (cyI, 10, .inl fc4))]) [0, 1, 2, 3, 4, 5, 6, 7, 8] (by decide) rfl⟩⟩, hS.F ht⟩) hS.2.2 dX8_listAll_131
            · skip
              have ic_2 := ci_ne (rfl : Int32.toInt ym = _) (show Int32.toInt 0 = 0 by decide) c_2
              have hq1 := hq.resolve_left (fun q => c_2 q.1)
              have hr4 := hrd.resolve_left c_2
              refine lv_aload_n hx hb dX8_listAll_118 rfl (lv_at hl 0 rfl) ?_
              refine lv_iload_n hx hb dX8_listAll_119 rfl (lv_at hl 1 rfl) ?_
              refine lv_iload_n hx hb dX8_listAll_120 rfl (lv_at hl 3 rfl) ?_
              have f_3 := va_free (wc := [(m0, .inr (6, [.ref st, .ref im, .ref kq, .ref pw, .ref nx, .ref li, .int (nI L2), .ref il, .ref mv, .ref so, .ref la, .int ub, .int d12, .ref co])), (st, .inl (cyI, 72, .inl fs)), (pw, .inl (cyI, 11, .inl fp)), (li, .inl (cyI, 59049, .inl lf2)), (mv, .inl (cyI, 59049, .inl mf2)), (so, .inl (cyI, 59049, .inl fso4)), (la, .inl (cyI, 59049, .inl fla4)), (co, .inl (cyI, 10, .inl fc4))]) hD hS hA [0, 1, 2, 3, 5, 6, 7, 8] rfl
              refine va_calli (va_runV (As := [.int p1, .int (nI rd)]) (rest := []) ⟨hx, hb, hml, hown, hts⟩ (mX8_layRound l dC dI cyI cyZ m0 st im kq pw nx li il mv so la co L2 ub d12 n fs fp rd lf2 mf2 fso4 fla4 fc4 p1 hn3 hn h0f hp hL.2 (mn_L_le hL) (by omega) _) (cwV 2 hts gX8_listAll_X8_layRound rfl rfl rfl (by decide +kernel) ⟨Nat.le_of_ble_eq_true rfl, Nat.le_of_ble_eq_true rfl⟩) (bs_WV hB (hP.sub (ws' := [(m0, .inr (6, [.ref st, .ref im, .ref kq, .ref pw, .ref nx, .ref li, .int (nI L2), .ref il, .ref mv, .ref so, .ref la, .int ub, .int d12, .ref co])), (st, .inl (cyI, 72, .inl fs)), (pw, .inl (cyI, 11, .inl fp)), (li, .inl (cyI, 59049, .inl lf2)), (mv, .inl (cyI, 59049, .inl mf2)), (so, .inl (cyI, 59049, .inl fso4)), (la, .inl (cyI, 59049, .inl fla4)), (co, .inl (cyI, 10, .inl fc4))]) [0, 1, 2, 3, 5, 6, 7, 8] rfl) (hD.sub (ws' := [(m0, .inr (6, [.ref st, .ref im, .ref kq, .ref pw, .ref nx, .ref li, .int (nI L2), .ref il, .ref mv, .ref so, .ref la, .int ub, .int d12, .ref co])), (st, .inl (cyI, 72, .inl fs)), (pw, .inl (cyI, 11, .inl fp)), (li, .inl (cyI, 59049, .inl lf2)), (mv, .inl (cyI, 59049, .inl mf2)), (so, .inl (cyI, 59049, .inl fso4)), (la, .inl (cyI, 59049, .inl fla4)), (co, .inl (cyI, 10, .inl fc4))]) [0, 1, 2, 3, 5, 6, 7, 8] (by decide) rfl) 0 rfl rfl) rfl rfl hl.1 rfl (lv_room (Nat.le_of_ble_eq_true rfl)) dX8_listAll_121 ⟨Nat.le_of_ble_eq_true rfl, Nat.le_of_ble_eq_true rfl⟩) hS (fun q _ h => f_3 q h) f_3 (fun rh_4 uh_4 t H1 locs ht hvm h_4 hB1 hz1 hk1 hS => ?_)
              obtain ⟨g_5, g_6, g_7⟩ := uh_4
              obtain ⟨hP1, hD1⟩ := hB1
              rw [ht] at hP1
              obtain ⟨hP, hD⟩ := va_join (wr := [(il, .inl (cyZ, 59049, .inl ilf2))]) (w1 := [(m0, .inr (6, [.ref st, .ref im, .ref kq, .ref pw, .ref nx, .ref li, .int (nI L2), .ref il, .ref mv, .ref so, .ref la, .int ub, .int d12, .ref co])), (st, .inl (cyI, 72, .inl fs)), (pw, .inl (cyI, 11, .inl fp)), (li, .inl (cyI, 59049, .inl lf2)), (mv, .inl (cyI, 59049, .inl mf2)), (so, .inl (cyI, 59049, .inl g_5)), (la, .inl (cyI, 59049, .inl g_6)), (co, .inl (cyI, 10, .inl g_7))]) hP hD [0, 1, 2, 3, 5, 6, 7, 8] [4] rfl rfl (by decide) (by decide) hk1 f_3 hP1 hD1
              generalize H1 = H at hP hS ⊢
              have hP : va_P (dC, dI) vwCl [(il, .inl (cyZ, 59049, .inl ilf2)), (m0, .inr (6, [.ref st, .ref im, .ref kq, .ref pw, .ref nx, .ref li, .int (nI L2), .ref il, .ref mv, .ref so, .ref la, .int ub, .int d12, .ref co])), (st, .inl (cyI, 72, .inl fs)), (pw, .inl (cyI, 11, .inl fp)), (li, .inl (cyI, 59049, .inl lf2)), (mv, .inl (cyI, 59049, .inl mf2)), (so, .inl (cyI, 59049, .inl g_5)), (la, .inl (cyI, 59049, .inl g_6)), (co, .inl (cyI, 10, .inl g_7))] _ := hP
              have hD : va_D A [(il, .inl (cyZ, 59049, .inl ilf2)), (m0, .inr (6, [.ref st, .ref im, .ref kq, .ref pw, .ref nx, .ref li, .int (nI L2), .ref il, .ref mv, .ref so, .ref la, .int ub, .int d12, .ref co])), (st, .inl (cyI, 72, .inl fs)), (pw, .inl (cyI, 11, .inl fp)), (li, .inl (cyI, 59049, .inl lf2)), (mv, .inl (cyI, 59049, .inl mf2)), (so, .inl (cyI, 59049, .inl g_5)), (la, .inl (cyI, 59049, .inl g_6)), (co, .inl (cyI, 10, .inl g_7))] := hD
              have h_4 : (rh_4 = 0 ∨ rh_4 = 1) ∧ mn_ct mn_ng g_5 59049 + mn_ct mn_ng g_6 59049 ≤ mn_ct mn_ng fso4 59049 + mn_ct mn_ng fla4 59049 ∧ (rh_4 = 1 → mn_ct mn_ng g_5 59049 + mn_ct mn_ng g_6 59049 < mn_ct mn_ng fso4 59049 + mn_ct mn_ng fla4 59049) := h_4
              obtain ⟨hr1, hr2, hr3⟩ := h_4
              refine lv_istore_n (lv' := [(2, .int rh_4), (0, .ref m0), (1, .int p1), (3, .int (nI rd))]) hx hb dX8_listAll_124 rfl hl (by decide) rfl (fun ls hl => ?_)
              refine lv_iinc (v := (nI (rd + 1))) (lv' := [(3, .int (nI (rd + 1))), (2, .int rh_4), (0, .ref m0), (1, .int p1)]) hx hb dX8_listAll_125 hl (k := 3) rfl (nI_1 _) (by decide) rfl (fun ls hl => ?_)
              refine lv_goto (tgt := 114) hx hb dX8_listAll_128 (by decide) ?_
              exact ih114 (rd + 1) rh_4 g_5 g_6 g_7 (by omega) (mn_M1 hr1 hr3 hq1) (mn_M2 hr1 hr3 hr4) _ _ (hP.sub [1, 2, 3, 4, 0, 5, 6, 7, 8] rfl) (hD.sub [1, 2, 3, 4, 0, 5, 6, 7, 8] (by decide) rfl) hS _ (lv_sub hl [2, 3, 1, 0] rfl)
        exact L114 (mn_ct mn_ng fso2 59049 + mn_ct mn_ng fla2 59049 + 2) 1 1 fso2 fla2 fc2 (by omega) (Or.inr (Nat.le_refl _)) (Or.inr (mn_M0 fso2 fla2)) _ _ (hP.sub [0, 1, 2, 3, 4, 5, 6, 7, 8] rfl) (hD.sub [0, 1, 2, 3, 4, 5, 6, 7, 8] (by decide) rfl) hS _ (lv_sub hl [2, 3, 1, 0] rfl)
      · skip
        have ic_1 := ci_nle (nI_toInt (n := L2) (by omega)) (nI_toInt (n := k) (by omega)) c_1
        refine lv_aload_n hx hb dX8_listAll_10 rfl (lv_at hl 0 rfl) ?_
        refine va_get (D := (dC, dI)) (ci := 6) (v := .ref li) (C := RX8) (T := TX8) (N := 14) hx hb hts hnX8_listAll_X8 hown hK hP 0 rfl rfl 5 (by decide) (hts (.fieldLink RX8 27 "RingMeetsModel" "list" "[I") (by decide +kernel)) (fun _ h9 => h9) rfl dX8_listAll_11 ?_
        refine lv_iload_n hx hb dX8_listAll_14 rfl (lv_at hl 2 rfl) ?_
        refine va_iald (D := (dC, dI)) hx hb hK hP 3 0 rfl rfl (vp_in_nI (n := k) (N := 59049) (by omega) (by omega)) dX8_listAll_15 ?_
        refine lv_topi (fun x_8 ex_8 => ?_)
        rw [nI_clamp (n := k) (by omega)] at ex_8
        obtain ⟨cv, hcv, ecv⟩ := hL.2 k (by omega)
        obtain rfl : nI cv = x_8 := (ex_8.trans ecv).symm
        have hc9 := mn_c9 hn hcv
        refine lv_istore_n (lv' := [(3, .int (nI cv)), (0, .ref m0), (1, .int p1), (2, .int (nI k))]) hx hb dX8_listAll_16 rfl hl (by decide) rfl (fun ls hl => ?_)
        refine lv_aload_n hx hb dX8_listAll_17 rfl (lv_at hl 1 rfl) ?_
        refine lv_iload_n hx hb dX8_listAll_18 rfl (lv_at hl 0 rfl) ?_
        refine vp_callSi (va_Run.run (va_runV (As := [.int (nI cv)]) (rest := []) ⟨hx, hb, hml, hown, hts⟩ (mX8_movers l dC dI cyI cyZ m0 st im kq pw nx li il mv so la co (nI L2) ub d12 n fs fp cv mf2 hn3 hn h0f hp (by omega)) (cwV 1 hts gX8_listAll_X8_movers rfl rfl rfl (by decide +kernel) ⟨Nat.le_of_ble_eq_true rfl, Nat.le_of_ble_eq_true rfl⟩) (bs_RV hB (hP.sub (ws' := [(m0, .inr (6, [.ref st, .ref im, .ref kq, .ref pw, .ref nx, .ref li, .int (nI L2), .ref il, .ref mv, .ref so, .ref la, .int ub, .int d12, .ref co])), (st, .inl (cyI, 72, .inl fs)), (pw, .inl (cyI, 11, .inl fp)), (mv, .inl (cyI, 59049, .inl mf2))]) [0, 1, 2, 5] rfl) 0 rfl rfl) rfl rfl hl.1 rfl (lv_room (Nat.le_of_ble_eq_true rfl)) dX8_listAll_19 ⟨Nat.le_of_ble_eq_true rfl, Nat.le_of_ble_eq_true rfl⟩)) (fun r_9 hr_9 => ?_)
        obtain ⟨av, lav, eav⟩ := hr_9
        obtain rfl : nI av = r_9 := Eq.symm eav
        refine lv_istore (lv' := [(4, .int (nI av)), (3, .int (nI cv)), (0, .ref m0), (1, .int p1), (2, .int (nI k))]) hx hb dX8_listAll_22 hl (by decide) rfl (fun ls hl => ?_)
        refine lv_iload hx hb dX8_listAll_24 (lv_at hl 0 rfl) ?_
        refine lv_ineg hx hb dX8_listAll_26 ?_
        refine lv_topi (fun x_10 ex_10 => ?_)
        refine lv_iload hx hb dX8_listAll_27 (lv_at hl 0 rfl) ?_
        refine lv_iand hx hb dX8_listAll_29 ?_
        refine lv_topi (fun x_11 ex_11 => ?_)
        obtain ⟨z0, hz0, ez0, dz0⟩ := mn_sub (a := av) (z := av) (Nat.le_refl av)
        have ey0 : x_11 = nI av - nI z0 := by rw [ex_11, ex_10]; exact ez0
        refine lv_istore (lv' := [(5, .int x_11), (4, .int (nI av)), (3, .int (nI cv)), (0, .ref m0), (1, .int p1), (2, .int (nI k))]) hx hb dX8_listAll_30 hl (by decide) rfl (fun ls hl => ?_)
        have L32 : ∀ (n32 : Nat), ∀ (z : Nat) (x9 : Int32) (L3 : Nat) (ub3 : Int32) (lf3 ilf3 mf3 fc3 : Nat → Int32), (x9 = nI av - nI z) → (z ≤ av) → (x9 = 0 ∧ 1 ≤ n32 ∨ z + 2 ≤ n32) → (mn_L n L3 lf3 ilf3) → ∀ (H : Heap) (locs : List Loc), va_P (dC, dI) vwCl [(m0, .inr (6, [.ref st, .ref im, .ref kq, .ref pw, .ref nx, .ref li, .int (nI L3), .ref il, .ref mv, .ref so, .ref la, .int ub3, .int d12, .ref co])), (st, .inl (cyI, 72, .inl fs)), (pw, .inl (cyI, 11, .inl fp)), (li, .inl (cyI, 59049, .inl lf3)), (il, .inl (cyZ, 59049, .inl ilf3)), (mv, .inl (cyI, 59049, .inl mf3)), (so, .inl (cyI, 59049, .inl fso2)), (la, .inl (cyI, 59049, .inl fla2)), (co, .inl (cyI, 10, .inl fc3))] H → va_D A [(m0, .inr (6, [.ref st, .ref im, .ref kq, .ref pw, .ref nx, .ref li, .int (nI L3), .ref il, .ref mv, .ref so, .ref la, .int ub3, .int d12, .ref co])), (st, .inl (cyI, 72, .inl fs)), (pw, .inl (cyI, 11, .inl fp)), (li, .inl (cyI, 59049, .inl lf3)), (il, .inl (cyZ, 59049, .inl ilf3)), (mv, .inl (cyI, 59049, .inl mf3)), (so, .inl (cyI, 59049, .inl fso2)), (la, .inl (cyI, 59049, .inl fla2)), (co, .inl (cyI, 10, .inl fc3))] → va_S A s.heap H locs → ∀ (ls : Array Slot), lv_has ls 6 [(0, .ref m0), (1, .int p1), (2, .int (nI k)), (3, .int (nI cv)), (4, .int (nI av)), (5, .int x9)] → W p l e (headSpec wsX8_listAll ({ frames := 9, cells := 0, slots := 0, locals := 220 })).room s m ([.ref m0, .int p1] : List Value).toArray below meth c H locs 0 0 (MQ below (va_Qv (S := Nat × Int32 × (Nat → Int32) × (Nat → Int32) × (Nat → Int32) × (Nat → Int32) × (Nat → Int32) × (Nat → Int32)) (fun q : Nat × Int32 × (Nat → Int32) × (Nat → Int32) × (Nat → Int32) × (Nat → Int32) × (Nat → Int32) × (Nat → Int32) => mn_L n q.1 q.2.2.1 q.2.2.2.1) (fun q t => bs_E dC dI A [(m0, .inr (6, [.ref st, .ref im, .ref kq, .ref pw, .ref nx, .ref li, .int (nI q.1), .ref il, .ref mv, .ref so, .ref la, .int q.2.1, .int d12, .ref co])), (st, .inl (cyI, 72, .inl fs)), (pw, .inl (cyI, 11, .inl fp)), (li, .inl (cyI, 59049, .inl q.2.2.1)), (il, .inl (cyZ, 59049, .inl q.2.2.2.1)), (mv, .inl (cyI, 59049, .inl q.2.2.2.2.1)), (so, .inl (cyI, 59049, .inl q.2.2.2.2.2.1)), (la, .inl (cyI, 59049, .inl q.2.2.2.2.2.2.1)), (co, .inl (cyI, 10, .inl q.2.2.2.2.2.2.2))] t) A) ([.ref m0, .int p1] : List Value).toArray s 0 0 A) (F0 m 32 ls []) := by
          intro n32
          induction n32 with
          | zero =>
            intro z x9 L3 ub3 lf3 ilf3 mf3 fc3 hx9 hz9 hq9 hL H locs hP hD hS ls hl
            exfalso
            rcases hq9 with h9 | h9; (have h8 := h9.2; omega); omega
          | succ n32 ih32 =>
            intro z x9 L3 ub3 lf3 ilf3 mf3 fc3 hx9 hz9 hq9 hL H locs hP hD hS ls hl
            refine lv_iload hx hb dX8_listAll_32 (lv_at hl 5 rfl) ?_
            refine lv_if_eq (tgt := 72) hx hb dX8_listAll_34 (by decide) (fun c_12 => ?_) (fun c_12 => ?_)
            · skip
              have ic_12 := ci_eq (rfl : Int32.toInt x9 = _) (show Int32.toInt 0 = 0 by decide) c_12
              refine lv_aload_n hx hb dX8_listAll_72 rfl (lv_at hl 0 rfl) ?_
              refine va_get (D := (dC, dI)) (ci := 6) (v := .ref so) (C := RX8) (T := TX8) (N := 14) hx hb hts hnX8_listAll_X8 hown hK hP 0 rfl rfl 9 (by decide) (hts (.fieldLink RX8 36 "RingMeetsModel" "soon" "[I") (by decide +kernel)) (fun _ h9 => h9) rfl dX8_listAll_73 ?_
              refine lv_iload_n hx hb dX8_listAll_76 rfl (lv_at hl 3 rfl) ?_
              refine lv_aload_n hx hb dX8_listAll_77 rfl (lv_at hl 0 rfl) ?_
              refine lv_iload_n hx hb dX8_listAll_78 rfl (lv_at hl 3 rfl) ?_
              refine vp_callSi (va_Run.run (va_runV (As := [.int (nI cv)]) (rest := [.int (nI cv), .ref so]) ⟨hx, hb, hml, hown, hts⟩ (mX8_isMet l dC dI cyI cyZ m0 st im kq pw nx li il mv so la co (nI L3) ub3 d12 n fs fp (nI cv) hn3 hn h0f hp) (cwV 1 hts gX8_listAll_X8_isMet rfl rfl rfl (by decide +kernel) ⟨Nat.le_of_ble_eq_true rfl, Nat.le_of_ble_eq_true rfl⟩) (bs_RV hB (hP.sub (ws' := [(m0, .inr (6, [.ref st, .ref im, .ref kq, .ref pw, .ref nx, .ref li, .int (nI L3), .ref il, .ref mv, .ref so, .ref la, .int ub3, .int d12, .ref co])), (st, .inl (cyI, 72, .inl fs)), (pw, .inl (cyI, 11, .inl fp))]) [0, 1, 2] rfl) 0 rfl rfl) rfl rfl hl.1 rfl (lv_room (Nat.le_of_ble_eq_true rfl)) dX8_listAll_79 ⟨Nat.le_of_ble_eq_true rfl, Nat.le_of_ble_eq_true rfl⟩)) (fun r_13 hr_13 => ?_)
              refine lv_if_eq (tgt := 89) hx hb dX8_listAll_82 (by decide) (fun c_14 => ?_) (fun c_14 => ?_)
              · skip
                have ic_14 := ci_eq (rfl : Int32.toInt r_13 = _) (show Int32.toInt 0 = 0 by decide) c_14
                refine lv_bipush (v := (-6)) hx hb dX8_listAll_89 (by decide) ?_
                refine va_iast (D := (dC, dI)) hx hb hK hP hD hS 6 0 rfl rfl (vp_in_nI (n := cv) (N := 59049) (by omega) (by omega)) dX8_listAll_91 (fun H locs hP hD hS => ?_)
                obtain ⟨g_15, eg_15⟩ : ∃ y : Nat → Int32, y = upd fso2 (Int32.toNatClampNeg (nI cv)) (-6) := ⟨_, rfl⟩
                have hP : va_P (dC, dI) vwCl [(m0, .inr (6, [.ref st, .ref im, .ref kq, .ref pw, .ref nx, .ref li, .int (nI L3), .ref il, .ref mv, .ref so, .ref la, .int ub3, .int d12, .ref co])), (st, .inl (cyI, 72, .inl fs)), (pw, .inl (cyI, 11, .inl fp)), (li, .inl (cyI, 59049, .inl lf3)), (il, .inl (cyZ, 59049, .inl ilf3)), (mv, .inl (cyI, 59049, .inl mf3)), (so, .inl (cyI, 59049, .inl g_15)), (la, .inl (cyI, 59049, .inl fla2)), (co, .inl (cyI, 10, .inl fc3))] H := by rw [eg_15]; exact hP
                have hD : va_D A [(m0, .inr (6, [.ref st, .ref im, .ref kq, .ref pw, .ref nx, .ref li, .int (nI L3), .ref il, .ref mv, .ref so, .ref la, .int ub3, .int d12, .ref co])), (st, .inl (cyI, 72, .inl fs)), (pw, .inl (cyI, 11, .inl fp)), (li, .inl (cyI, 59049, .inl lf3)), (il, .inl (cyZ, 59049, .inl ilf3)), (mv, .inl (cyI, 59049, .inl mf3)), (so, .inl (cyI, 59049, .inl g_15)), (la, .inl (cyI, 59049, .inl fla2)), (co, .inl (cyI, 10, .inl fc3))] := by rw [eg_15]; exact hD
                rw [nI_clamp (n := cv) (by omega)] at eg_15
                refine lv_aload_n hx hb dX8_listAll_92 rfl (lv_at hl 0 rfl) ?_
                refine va_get (D := (dC, dI)) (ci := 6) (v := .ref la) (C := RX8) (T := TX8) (N := 14) hx hb hts hnX8_listAll_X8 hown hK hP 0 rfl rfl 10 (by decide) (hts (.fieldLink RX8 39 "RingMeetsModel" "late" "[I") (by decide +kernel)) (fun _ h9 => h9) rfl dX8_listAll_93 ?_
                refine lv_iload_n hx hb dX8_listAll_96 rfl (lv_at hl 3 rfl) ?_
                refine lv_aload_n hx hb dX8_listAll_97 rfl (lv_at hl 0 rfl) ?_
                refine va_get (D := (dC, dI)) (ci := 6) (v := .ref so) (C := RX8) (T := TX8) (N := 14) hx hb hts hnX8_listAll_X8 hown hK hP 0 rfl rfl 9 (by decide) (hts (.fieldLink RX8 36 "RingMeetsModel" "soon" "[I") (by decide +kernel)) (fun _ h9 => h9) rfl dX8_listAll_98 ?_
                refine lv_iload_n hx hb dX8_listAll_101 rfl (lv_at hl 3 rfl) ?_
                refine va_iald (D := (dC, dI)) hx hb hK hP 6 0 rfl rfl (vp_in_nI (n := cv) (N := 59049) (by omega) (by omega)) dX8_listAll_102 ?_
                refine lv_topi (fun x_16 ex_16 => ?_)
                rw [nI_clamp (n := cv) (by omega)] at ex_16
                obtain rfl : (-6) = x_16 := (ex_16.trans (by rw [eg_15]; unfold upd; rw [if_pos rfl])).symm
                refine va_iast (D := (dC, dI)) hx hb hK hP hD hS 7 0 rfl rfl (vp_in_nI (n := cv) (N := 59049) (by omega) (by omega)) dX8_listAll_103 (fun H locs hP hD hS => ?_)
                obtain ⟨g_17, eg_17⟩ : ∃ y : Nat → Int32, y = upd fla2 (Int32.toNatClampNeg (nI cv)) (-6) := ⟨_, rfl⟩
                have hP : va_P (dC, dI) vwCl [(m0, .inr (6, [.ref st, .ref im, .ref kq, .ref pw, .ref nx, .ref li, .int (nI L3), .ref il, .ref mv, .ref so, .ref la, .int ub3, .int d12, .ref co])), (st, .inl (cyI, 72, .inl fs)), (pw, .inl (cyI, 11, .inl fp)), (li, .inl (cyI, 59049, .inl lf3)), (il, .inl (cyZ, 59049, .inl ilf3)), (mv, .inl (cyI, 59049, .inl mf3)), (so, .inl (cyI, 59049, .inl g_15)), (la, .inl (cyI, 59049, .inl g_17)), (co, .inl (cyI, 10, .inl fc3))] H := by rw [eg_17]; exact hP
                have hD : va_D A [(m0, .inr (6, [.ref st, .ref im, .ref kq, .ref pw, .ref nx, .ref li, .int (nI L3), .ref il, .ref mv, .ref so, .ref la, .int ub3, .int d12, .ref co])), (st, .inl (cyI, 72, .inl fs)), (pw, .inl (cyI, 11, .inl fp)), (li, .inl (cyI, 59049, .inl lf3)), (il, .inl (cyZ, 59049, .inl ilf3)), (mv, .inl (cyI, 59049, .inl mf3)), (so, .inl (cyI, 59049, .inl g_15)), (la, .inl (cyI, 59049, .inl g_17)), (co, .inl (cyI, 10, .inl fc3))] := by rw [eg_17]; exact hD
                rw [nI_clamp (n := cv) (by omega)] at eg_17
                refine lv_iinc (v := (nI (k + 1))) (lv' := [(2, .int (nI (k + 1))), (0, .ref m0), (1, .int p1), (3, .int (nI cv)), (4, .int (nI av)), (5, .int x9)]) hx hb dX8_listAll_104 hl (k := 2) rfl (nI_1 _) (by decide) rfl (fun ls hl => ?_)
                refine lv_goto (tgt := 2) hx hb dX8_listAll_107 (by decide) ?_
                exact ih2 (k + 1) L3 ub3 lf3 ilf3 mf3 g_15 g_17 fc3 (by omega) (by omega) hL _ _ (hP.sub [0, 1, 2, 3, 4, 5, 6, 7, 8] rfl) (hD.sub [0, 1, 2, 3, 4, 5, 6, 7, 8] (by decide) rfl) hS _ (lv_sub hl [1, 2, 0] rfl)
              · skip
                have ic_14 := ci_ne (rfl : Int32.toInt r_13 = _) (show Int32.toInt 0 = 0 by decide) c_14
                refine lv_iconst (v := 0) hx hb dX8_listAll_85 (by decide) ?_
                refine lv_goto (tgt := 91) hx hb dX8_listAll_86 (by decide) ?_
                refine va_iast (D := (dC, dI)) hx hb hK hP hD hS 6 0 rfl rfl (vp_in_nI (n := cv) (N := 59049) (by omega) (by omega)) dX8_listAll_91 (fun H locs hP hD hS => ?_)
                obtain ⟨g_18, eg_18⟩ : ∃ y : Nat → Int32, y = upd fso2 (Int32.toNatClampNeg (nI cv)) 0 := ⟨_, rfl⟩
                have hP : va_P (dC, dI) vwCl [(m0, .inr (6, [.ref st, .ref im, .ref kq, .ref pw, .ref nx, .ref li, .int (nI L3), .ref il, .ref mv, .ref so, .ref la, .int ub3, .int d12, .ref co])), (st, .inl (cyI, 72, .inl fs)), (pw, .inl (cyI, 11, .inl fp)), (li, .inl (cyI, 59049, .inl lf3)), (il, .inl (cyZ, 59049, .inl ilf3)), (mv, .inl (cyI, 59049, .inl mf3)), (so, .inl (cyI, 59049, .inl g_18)), (la, .inl (cyI, 59049, .inl fla2)), (co, .inl (cyI, 10, .inl fc3))] H := by rw [eg_18]; exact hP
                have hD : va_D A [(m0, .inr (6, [.ref st, .ref im, .ref kq, .ref pw, .ref nx, .ref li, .int (nI L3), .ref il, .ref mv, .ref so, .ref la, .int ub3, .int d12, .ref co])), (st, .inl (cyI, 72, .inl fs)), (pw, .inl (cyI, 11, .inl fp)), (li, .inl (cyI, 59049, .inl lf3)), (il, .inl (cyZ, 59049, .inl ilf3)), (mv, .inl (cyI, 59049, .inl mf3)), (so, .inl (cyI, 59049, .inl g_18)), (la, .inl (cyI, 59049, .inl fla2)), (co, .inl (cyI, 10, .inl fc3))] := by rw [eg_18]; exact hD
                rw [nI_clamp (n := cv) (by omega)] at eg_18
                refine lv_aload_n hx hb dX8_listAll_92 rfl (lv_at hl 0 rfl) ?_
                refine va_get (D := (dC, dI)) (ci := 6) (v := .ref la) (C := RX8) (T := TX8) (N := 14) hx hb hts hnX8_listAll_X8 hown hK hP 0 rfl rfl 10 (by decide) (hts (.fieldLink RX8 39 "RingMeetsModel" "late" "[I") (by decide +kernel)) (fun _ h9 => h9) rfl dX8_listAll_93 ?_
                refine lv_iload_n hx hb dX8_listAll_96 rfl (lv_at hl 3 rfl) ?_
                refine lv_aload_n hx hb dX8_listAll_97 rfl (lv_at hl 0 rfl) ?_
                refine va_get (D := (dC, dI)) (ci := 6) (v := .ref so) (C := RX8) (T := TX8) (N := 14) hx hb hts hnX8_listAll_X8 hown hK hP 0 rfl rfl 9 (by decide) (hts (.fieldLink RX8 36 "RingMeetsModel" "soon" "[I") (by decide +kernel)) (fun _ h9 => h9) rfl dX8_listAll_98 ?_
                refine lv_iload_n hx hb dX8_listAll_101 rfl (lv_at hl 3 rfl) ?_
                refine va_iald (D := (dC, dI)) hx hb hK hP 6 0 rfl rfl (vp_in_nI (n := cv) (N := 59049) (by omega) (by omega)) dX8_listAll_102 ?_
                refine lv_topi (fun x_19 ex_19 => ?_)
                rw [nI_clamp (n := cv) (by omega)] at ex_19
                obtain rfl : 0 = x_19 := (ex_19.trans (by rw [eg_18]; unfold upd; rw [if_pos rfl])).symm
                refine va_iast (D := (dC, dI)) hx hb hK hP hD hS 7 0 rfl rfl (vp_in_nI (n := cv) (N := 59049) (by omega) (by omega)) dX8_listAll_103 (fun H locs hP hD hS => ?_)
                obtain ⟨g_20, eg_20⟩ : ∃ y : Nat → Int32, y = upd fla2 (Int32.toNatClampNeg (nI cv)) 0 := ⟨_, rfl⟩
                have hP : va_P (dC, dI) vwCl [(m0, .inr (6, [.ref st, .ref im, .ref kq, .ref pw, .ref nx, .ref li, .int (nI L3), .ref il, .ref mv, .ref so, .ref la, .int ub3, .int d12, .ref co])), (st, .inl (cyI, 72, .inl fs)), (pw, .inl (cyI, 11, .inl fp)), (li, .inl (cyI, 59049, .inl lf3)), (il, .inl (cyZ, 59049, .inl ilf3)), (mv, .inl (cyI, 59049, .inl mf3)), (so, .inl (cyI, 59049, .inl g_18)), (la, .inl (cyI, 59049, .inl g_20)), (co, .inl (cyI, 10, .inl fc3))] H := by rw [eg_20]; exact hP
                have hD : va_D A [(m0, .inr (6, [.ref st, .ref im, .ref kq, .ref pw, .ref nx, .ref li, .int (nI L3), .ref il, .ref mv, .ref so, .ref la, .int ub3, .int d12, .ref co])), (st, .inl (cyI, 72, .inl fs)), (pw, .inl (cyI, 11, .inl fp)), (li, .inl (cyI, 59049, .inl lf3)), (il, .inl (cyZ, 59049, .inl ilf3)), (mv, .inl (cyI, 59049, .inl mf3)), (so, .inl (cyI, 59049, .inl g_18)), (la, .inl (cyI, 59049, .inl g_20)), (co, .inl (cyI, 10, .inl fc3))] := by rw [eg_20]; exact hD
                rw [nI_clamp (n := cv) (by omega)] at eg_20
                refine lv_iinc (v := (nI (k + 1))) (lv' := [(2, .int (nI (k + 1))), (0, .ref m0), (1, .int p1), (3, .int (nI cv)), (4, .int (nI av)), (5, .int x9)]) hx hb dX8_listAll_104 hl (k := 2) rfl (nI_1 _) (by decide) rfl (fun ls hl => ?_)
                refine lv_goto (tgt := 2) hx hb dX8_listAll_107 (by decide) ?_
                exact ih2 (k + 1) L3 ub3 lf3 ilf3 mf3 g_18 g_20 fc3 (by omega) (by omega) hL _ _ (hP.sub [0, 1, 2, 3, 4, 5, 6, 7, 8] rfl) (hD.sub [0, 1, 2, 3, 4, 5, 6, 7, 8] (by decide) rfl) hS _ (lv_sub hl [1, 2, 0] rfl)
            · skip
              have ic_12 := ci_ne (rfl : Int32.toInt x9 = _) (show Int32.toInt 0 = 0 by decide) c_12
              have hq1 : z + 2 ≤ n32 + 1 := hq9.resolve_left (fun q => c_12 q.1)
              refine lv_iload_n hx hb dX8_listAll_37 rfl (lv_at hl 1 rfl) ?_
              refine lv_iload hx hb dX8_listAll_38 (lv_at hl 5 rfl) ?_
              refine lv_iload hx hb dX8_listAll_40 (lv_at hl 4 rfl) ?_
              refine vp_callSi (va_Run.run (va_runS (As := [.int p1, .int x9, .int (nI av)]) (rest := []) ⟨hx, hb, hml, hown, hts⟩ (mX8_mayBe l dC dI cyI cyZ p1 x9 (nI av) ) (va_cwS 3 hts gX8_listAll_X8_mayBe rfl rfl rfl (by decide +kernel) ⟨Nat.le_of_ble_eq_true rfl, Nat.le_of_ble_eq_true rfl⟩) (bs_RS hB (hP.sub (ws' := []) [] rfl)) rfl rfl hl.1 rfl (lv_room (Nat.le_of_ble_eq_true rfl)) dX8_listAll_42 ⟨Nat.le_of_ble_eq_true rfl, Nat.le_of_ble_eq_true rfl⟩)) (fun r_21 hr_21 => ?_)
              refine lv_if_eq (tgt := 59) hx hb dX8_listAll_45 (by decide) (fun c_22 => ?_) (fun c_22 => ?_)
              · skip
                have ic_22 := ci_eq (rfl : Int32.toInt r_21 = _) (show Int32.toInt 0 = 0 by decide) c_22
                refine lv_iload hx hb dX8_listAll_59 (lv_at hl 5 rfl) ?_
                refine lv_iload hx hb dX8_listAll_61 (lv_at hl 4 rfl) ?_
                refine lv_isub hx hb dX8_listAll_63 ?_
                refine lv_topi (fun x_23 ex_23 => ?_)
                refine lv_iload hx hb dX8_listAll_64 (lv_at hl 4 rfl) ?_
                refine lv_iand hx hb dX8_listAll_66 ?_
                refine lv_topi (fun x_24 ex_24 => ?_)
                have ey1 := mn_subs hx9 ex_23 ex_24
                obtain ⟨z1, hz1, ez1, dz1⟩ := mn_sub (a := av) (z := z) hz9
                have ey2 : x_24 = nI av - nI z1 := ey1.trans ez1
                have hq2 : x_24 = 0 ∧ 1 ≤ n32 ∨ z1 + 2 ≤ n32 := dz1.elim (fun q => Or.inr (by omega)) (fun q => Or.inl ⟨ey1.trans q, by omega⟩)
                refine lv_istore (lv' := [(5, .int x_24), (0, .ref m0), (1, .int p1), (2, .int (nI k)), (3, .int (nI cv)), (4, .int (nI av))]) hx hb dX8_listAll_67 hl (by decide) rfl (fun ls hl => ?_)
                refine lv_goto (tgt := 32) hx hb dX8_listAll_69 (by decide) ?_
                exact ih32 z1 x_24 L3 ub3 lf3 ilf3 mf3 fc3 ey2 hz1 hq2 hL _ _ (hP.sub [0, 1, 2, 3, 4, 5, 6, 7, 8] rfl) (hD.sub [0, 1, 2, 3, 4, 5, 6, 7, 8] (by decide) rfl) hS _ (lv_sub hl [1, 2, 3, 4, 5, 0] rfl)
              · skip
                have ic_22 := ci_ne (rfl : Int32.toInt r_21 = _) (show Int32.toInt 0 = 0 by decide) c_22
                refine lv_aload_n hx hb dX8_listAll_48 rfl (lv_at hl 0 rfl) ?_
                refine lv_aload_n hx hb dX8_listAll_49 rfl (lv_at hl 0 rfl) ?_
                refine lv_iload_n hx hb dX8_listAll_50 rfl (lv_at hl 3 rfl) ?_
                refine lv_iload hx hb dX8_listAll_51 (lv_at hl 5 rfl) ?_
                have f_25 := va_free (wc := [(m0, .inr (6, [.ref st, .ref im, .ref kq, .ref pw, .ref nx, .ref li, .int (nI L3), .ref il, .ref mv, .ref so, .ref la, .int ub3, .int d12, .ref co])), (st, .inl (cyI, 72, .inl fs)), (pw, .inl (cyI, 11, .inl fp)), (mv, .inl (cyI, 59049, .inl mf3)), (co, .inl (cyI, 10, .inl fc3))]) hD hS hA [0, 1, 2, 5, 8] rfl
                refine va_calli (va_runV (As := [.int (nI cv), .int x9]) (rest := [.ref m0]) ⟨hx, hb, hml, hown, hts⟩ (mX8_behindStep l dC dI cyI cyZ m0 st im kq pw nx li il mv so la co (nI L3) ub3 d12 n fs fp cv mf3 fc3 x9 hn3 hn h0f hp (by omega) _) (cwV 2 hts gX8_listAll_X8_behindStep rfl rfl rfl (by decide +kernel) ⟨Nat.le_of_ble_eq_true rfl, Nat.le_of_ble_eq_true rfl⟩) (bs_WV hB (hP.sub (ws' := [(m0, .inr (6, [.ref st, .ref im, .ref kq, .ref pw, .ref nx, .ref li, .int (nI L3), .ref il, .ref mv, .ref so, .ref la, .int ub3, .int d12, .ref co])), (st, .inl (cyI, 72, .inl fs)), (pw, .inl (cyI, 11, .inl fp)), (mv, .inl (cyI, 59049, .inl mf3)), (co, .inl (cyI, 10, .inl fc3))]) [0, 1, 2, 5, 8] rfl) (hD.sub (ws' := [(m0, .inr (6, [.ref st, .ref im, .ref kq, .ref pw, .ref nx, .ref li, .int (nI L3), .ref il, .ref mv, .ref so, .ref la, .int ub3, .int d12, .ref co])), (st, .inl (cyI, 72, .inl fs)), (pw, .inl (cyI, 11, .inl fp)), (mv, .inl (cyI, 59049, .inl mf3)), (co, .inl (cyI, 10, .inl fc3))]) [0, 1, 2, 5, 8] (by decide) rfl) 0 rfl rfl) rfl rfl hl.1 rfl (lv_room (Nat.le_of_ble_eq_true rfl)) dX8_listAll_53 ⟨Nat.le_of_ble_eq_true rfl, Nat.le_of_ble_eq_true rfl⟩) hS (fun q _ h => f_25 q h) f_25 (fun rh_26 uh_26 t H1 locs ht hvm h_26 hB1 hz1 hk1 hS => ?_)
                obtain ⟨g_27, rfl⟩ : ∃ z, z = uh_26 := ⟨_, rfl⟩
                obtain ⟨hP1, hD1⟩ := hB1
                rw [ht] at hP1
                obtain ⟨hP, hD⟩ := va_join (wr := [(li, .inl (cyI, 59049, .inl lf3)), (il, .inl (cyZ, 59049, .inl ilf3)), (so, .inl (cyI, 59049, .inl fso2)), (la, .inl (cyI, 59049, .inl fla2))]) (w1 := [(m0, .inr (6, [.ref st, .ref im, .ref kq, .ref pw, .ref nx, .ref li, .int (nI L3), .ref il, .ref mv, .ref so, .ref la, .int ub3, .int d12, .ref co])), (st, .inl (cyI, 72, .inl fs)), (pw, .inl (cyI, 11, .inl fp)), (mv, .inl (cyI, 59049, .inl mf3)), (co, .inl (cyI, 10, .inl g_27))]) hP hD [0, 1, 2, 5, 8] [3, 4, 6, 7] rfl rfl (by decide) (by decide) hk1 f_25 hP1 hD1
                generalize H1 = H at hP hS ⊢
                have hP : va_P (dC, dI) vwCl [(li, .inl (cyI, 59049, .inl lf3)), (il, .inl (cyZ, 59049, .inl ilf3)), (so, .inl (cyI, 59049, .inl fso2)), (la, .inl (cyI, 59049, .inl fla2)), (m0, .inr (6, [.ref st, .ref im, .ref kq, .ref pw, .ref nx, .ref li, .int (nI L3), .ref il, .ref mv, .ref so, .ref la, .int ub3, .int d12, .ref co])), (st, .inl (cyI, 72, .inl fs)), (pw, .inl (cyI, 11, .inl fp)), (mv, .inl (cyI, 59049, .inl mf3)), (co, .inl (cyI, 10, .inl g_27))] _ := hP
                have hD : va_D A [(li, .inl (cyI, 59049, .inl lf3)), (il, .inl (cyZ, 59049, .inl ilf3)), (so, .inl (cyI, 59049, .inl fso2)), (la, .inl (cyI, 59049, .inl fla2)), (m0, .inr (6, [.ref st, .ref im, .ref kq, .ref pw, .ref nx, .ref li, .int (nI L3), .ref il, .ref mv, .ref so, .ref la, .int ub3, .int d12, .ref co])), (st, .inl (cyI, 72, .inl fs)), (pw, .inl (cyI, 11, .inl fp)), (mv, .inl (cyI, 59049, .inl mf3)), (co, .inl (cyI, 10, .inl g_27))] := hD
                have h_26 : ∃ v : Nat, v < 3 ^ n ∧ rh_26 = nI v := h_26
                obtain ⟨v_28, lv_28, ev_28⟩ := h_26
                obtain rfl : nI v_28 = rh_26 := Eq.symm ev_28
                have f_29 := va_free (wc := [(m0, .inr (6, [.ref st, .ref im, .ref kq, .ref pw, .ref nx, .ref li, .int (nI L3), .ref il, .ref mv, .ref so, .ref la, .int ub3, .int d12, .ref co])), (st, .inl (cyI, 72, .inl fs)), (pw, .inl (cyI, 11, .inl fp)), (li, .inl (cyI, 59049, .inl lf3)), (il, .inl (cyZ, 59049, .inl ilf3)), (mv, .inl (cyI, 59049, .inl mf3))]) hD hS hA [4, 5, 6, 0, 1, 7] rfl
                refine va_callv (va_runV (As := [.int (nI v_28)]) (rest := []) ⟨hx, hb, hml, hown, hts⟩ (mX8_note l dC dI cyI cyZ m0 st im kq pw nx li il mv so la co L3 ub3 d12 n fs fp zz v_28 lf3 ilf3 mf3 hn3 hn h0f hp hzf hz10 (by omega) hL _) (cwV 1 hts gX8_listAll_X8_note rfl rfl rfl (by decide +kernel) ⟨Nat.le_of_ble_eq_true rfl, Nat.le_of_ble_eq_true rfl⟩) (bs_WV hB (hP.sub (ws' := [(m0, .inr (6, [.ref st, .ref im, .ref kq, .ref pw, .ref nx, .ref li, .int (nI L3), .ref il, .ref mv, .ref so, .ref la, .int ub3, .int d12, .ref co])), (st, .inl (cyI, 72, .inl fs)), (pw, .inl (cyI, 11, .inl fp)), (li, .inl (cyI, 59049, .inl lf3)), (il, .inl (cyZ, 59049, .inl ilf3)), (mv, .inl (cyI, 59049, .inl mf3))]) [4, 5, 6, 0, 1, 7] rfl) (hD.sub (ws' := [(m0, .inr (6, [.ref st, .ref im, .ref kq, .ref pw, .ref nx, .ref li, .int (nI L3), .ref il, .ref mv, .ref so, .ref la, .int ub3, .int d12, .ref co])), (st, .inl (cyI, 72, .inl fs)), (pw, .inl (cyI, 11, .inl fp)), (li, .inl (cyI, 59049, .inl lf3)), (il, .inl (cyZ, 59049, .inl ilf3)), (mv, .inl (cyI, 59049, .inl mf3))]) [4, 5, 6, 0, 1, 7] (by decide) rfl) 0 rfl rfl) rfl rfl hl.1 rfl (lv_room (Nat.le_of_ble_eq_true rfl)) dX8_listAll_56 ⟨Nat.le_of_ble_eq_true rfl, Nat.le_of_ble_eq_true rfl⟩) hS (fun q _ h => f_29 q h) f_29 (fun uh_30 t H1 locs ht hvm h_30 hB1 hz1 hk1 hS => ?_)
                obtain ⟨v_31, i_32, g_33, g_34, g_35⟩ := uh_30
                have h_30 : mn_L n v_31 g_33 g_34 ∧ L3 ≤ v_31 := h_30
                obtain ⟨hP1, hD1⟩ := hB1
                rw [ht] at hP1
                obtain ⟨hP, hD⟩ := va_join (wr := [(so, .inl (cyI, 59049, .inl fso2)), (la, .inl (cyI, 59049, .inl fla2)), (co, .inl (cyI, 10, .inl g_27))]) (w1 := [(m0, .inr (6, [.ref st, .ref im, .ref kq, .ref pw, .ref nx, .ref li, .int (nI v_31), .ref il, .ref mv, .ref so, .ref la, .int i_32, .int d12, .ref co])), (st, .inl (cyI, 72, .inl fs)), (pw, .inl (cyI, 11, .inl fp)), (li, .inl (cyI, 59049, .inl g_33)), (il, .inl (cyZ, 59049, .inl g_34)), (mv, .inl (cyI, 59049, .inl g_35))]) hP hD [4, 5, 6, 0, 1, 7] [2, 3, 8] rfl rfl (by decide) (by decide) hk1 f_29 hP1 hD1
                generalize H1 = H at hP hS ⊢
                have hP : va_P (dC, dI) vwCl [(so, .inl (cyI, 59049, .inl fso2)), (la, .inl (cyI, 59049, .inl fla2)), (co, .inl (cyI, 10, .inl g_27)), (m0, .inr (6, [.ref st, .ref im, .ref kq, .ref pw, .ref nx, .ref li, .int (nI v_31), .ref il, .ref mv, .ref so, .ref la, .int i_32, .int d12, .ref co])), (st, .inl (cyI, 72, .inl fs)), (pw, .inl (cyI, 11, .inl fp)), (li, .inl (cyI, 59049, .inl g_33)), (il, .inl (cyZ, 59049, .inl g_34)), (mv, .inl (cyI, 59049, .inl g_35))] _ := hP
                have hD : va_D A [(so, .inl (cyI, 59049, .inl fso2)), (la, .inl (cyI, 59049, .inl fla2)), (co, .inl (cyI, 10, .inl g_27)), (m0, .inr (6, [.ref st, .ref im, .ref kq, .ref pw, .ref nx, .ref li, .int (nI v_31), .ref il, .ref mv, .ref so, .ref la, .int i_32, .int d12, .ref co])), (st, .inl (cyI, 72, .inl fs)), (pw, .inl (cyI, 11, .inl fp)), (li, .inl (cyI, 59049, .inl g_33)), (il, .inl (cyZ, 59049, .inl g_34)), (mv, .inl (cyI, 59049, .inl g_35))] := hD
                obtain ⟨hL, hLm⟩ := h_30
                refine lv_iload hx hb dX8_listAll_59 (lv_at hl 5 rfl) ?_
                refine lv_iload hx hb dX8_listAll_61 (lv_at hl 4 rfl) ?_
                refine lv_isub hx hb dX8_listAll_63 ?_
                refine lv_topi (fun x_36 ex_36 => ?_)
                refine lv_iload hx hb dX8_listAll_64 (lv_at hl 4 rfl) ?_
                refine lv_iand hx hb dX8_listAll_66 ?_
                refine lv_topi (fun x_37 ex_37 => ?_)
                have ey1 := mn_subs hx9 ex_36 ex_37
                obtain ⟨z1, hz1, ez1, dz1⟩ := mn_sub (a := av) (z := z) hz9
                have ey2 : x_37 = nI av - nI z1 := ey1.trans ez1
                have hq2 : x_37 = 0 ∧ 1 ≤ n32 ∨ z1 + 2 ≤ n32 := dz1.elim (fun q => Or.inr (by omega)) (fun q => Or.inl ⟨ey1.trans q, by omega⟩)
                refine lv_istore (lv' := [(5, .int x_37), (0, .ref m0), (1, .int p1), (2, .int (nI k)), (3, .int (nI cv)), (4, .int (nI av))]) hx hb dX8_listAll_67 hl (by decide) rfl (fun ls hl => ?_)
                refine lv_goto (tgt := 32) hx hb dX8_listAll_69 (by decide) ?_
                exact ih32 z1 x_37 v_31 i_32 g_33 g_34 g_35 g_27 ey2 hz1 hq2 hL _ _ (hP.sub [3, 4, 5, 6, 7, 8, 0, 1, 2] rfl) (hD.sub [3, 4, 5, 6, 7, 8, 0, 1, 2] (by decide) rfl) hS _ (lv_sub hl [1, 2, 3, 4, 5, 0] rfl)
        exact L32 (av + 2) z0 x_11 L2 ub lf2 ilf2 mf2 fc2 ey0 hz0 (Or.inr (by omega)) hL _ _ (hP.sub [0, 1, 2, 3, 4, 5, 6, 7, 8] rfl) (hD.sub [0, 1, 2, 3, 4, 5, 6, 7, 8] (by decide) rfl) hS _ (lv_sub hl [3, 4, 5, 2, 1, 0] rfl)
  exact L2 59050 0 L d11 lf ilf mf fso fla fc (by omega) (by omega) hL _ _ (hP.sub [0, 1, 2, 3, 4, 5, 6, 7, 8] rfl) (hD.sub [0, 1, 2, 3, 4, 5, 6, 7, 8] (by decide) rfl) hS _ (lv_sub hl [1, 2, 0] rfl)

theorem hnX8_kindOf_X8 : ∀ w ∈ wsX80, w ∈ wsX8_kindOf := fun _ h => List.mem_cons_of_mem _ (List.mem_append_right _ h)
set_option maxHeartbeats 4000000 in
set_option maxRecDepth 100000 in
theorem mX8_kindOf (l : Launch) (dC : Nat → ClassId) (dI : Nat → Nat → Nat) (cyI cyZ : ClassId) (m0 : Nat) (st : Nat) (im : Nat) (kq : Nat) (pw : Nat) (nx : Nat) (li : Nat) (il : Nat) (mv : Nat) (so : Nat) (la : Nat) (co : Nat) (d6 : Int32) (d11 : Int32) (d12 : Int32) (n : Nat) (fs : Nat → Int32) (fp : Nat → Int32) (cv : Nat) (fso : Nat → Int32) (fla : Nat → Int32) (hn3 : 3 ≤ n) (hn : n ≤ 10) (h0f : fs 0 = nI n) (hp : ∀ j, j ≤ 10 → fp j = nI (3 ^ j)) (hc9 : cv < 59049) : Met l yX8_kindOf wsX8_kindOf ({ frames := 3, cells := 0, slots := 0, locals := 64 }) (bs_R dC dI cyI cyZ [.ref m0, .int (nI cv)] [(m0, .inr (6, [.ref st, .ref im, .ref kq, .ref pw, .ref nx, .ref li, .int d6, .ref il, .ref mv, .ref so, .ref la, .int d11, .int d12, .ref co])), (st, .inl (cyI, 72, .inl fs)), (pw, .inl (cyI, 11, .inl fp)), (so, .inl (cyI, 59049, .inl fso)), (la, .inl (cyI, 59049, .inl fla))]) (vp_Si (fun r : Int32 => True)) 0 0 (fun _ => False) := by
  refine Met.ofW (cc := cX8_kindOf) (maxL := 2) (ret := (some .int)) (by decide) rfl ?_
  intro p e s m args below meth c s₁ B hml hv
  obtain ⟨rfl, hB, hP⟩ := hv
  have hK := hB.1
  have hN := hB.2
  have hx := B.exec
  have hb := B.bytes
  have hr := B.returns
  have hts := atoms_spec (ws := wsX8_kindOf) B.pre
  have hown : s.vm.findClass RX8 = some m.cls := findClass_of_methodNamed B.named
  have hlocks := B.notSynchronized
  have hP : va_P (dC, dI) vwCl [(m0, .inr (6, [.ref st, .ref im, .ref kq, .ref pw, .ref nx, .ref li, .int d6, .ref il, .ref mv, .ref so, .ref la, .int d11, .int d12, .ref co])), (st, .inl (cyI, 72, .inl fs)), (pw, .inl (cyI, 11, .inl fp)), (so, .inl (cyI, 59049, .inl fso)), (la, .inl (cyI, 59049, .inl fla))] s.heap := hP
  have hl := lv_entry ([.ref m0, .int (nI cv)]) (n := 2) (Nat.le_of_ble_eq_true rfl)
  rw [lg_entry_eq]
  generalize (lg_sl ([.ref m0, .int (nI cv)]) ++ List.replicate (2 - (lg_sl ([.ref m0, .int (nI cv)])).length) Slot.unset).toArray = ls at hl ⊢
  have hl : lv_has ls 2 [(0, .ref m0), (1, .int (nI cv))] := hl
  refine lv_aload_n hx hb dX8_kindOf_0 rfl (lv_at hl 0 rfl) ?_
  refine lv_iload_n hx hb dX8_kindOf_1 rfl (lv_at hl 1 rfl) ?_
  refine vp_callSi (va_Run.run (va_runV (As := [.int (nI cv)]) (rest := []) ⟨hx, hb, hml, hown, hts⟩ (mX8_isMet l dC dI cyI cyZ m0 st im kq pw nx li il mv so la co d6 d11 d12 n fs fp (nI cv) hn3 hn h0f hp) (cwV 1 hts gX8_kindOf_X8_isMet rfl rfl rfl (by decide +kernel) ⟨Nat.le_of_ble_eq_true rfl, Nat.le_of_ble_eq_true rfl⟩) (bs_RV hB (hP.sub (ws' := [(m0, .inr (6, [.ref st, .ref im, .ref kq, .ref pw, .ref nx, .ref li, .int d6, .ref il, .ref mv, .ref so, .ref la, .int d11, .int d12, .ref co])), (st, .inl (cyI, 72, .inl fs)), (pw, .inl (cyI, 11, .inl fp))]) [0, 1, 2] rfl) 0 rfl rfl) rfl rfl hl.1 rfl (lv_room (Nat.le_of_ble_eq_true rfl)) dX8_kindOf_2 ⟨Nat.le_of_ble_eq_true rfl, Nat.le_of_ble_eq_true rfl⟩)) (fun r_1 hr_1 => ?_)
  refine lv_if_eq (tgt := 12) hx hb dX8_kindOf_5 (by decide) (fun c_2 => ?_) (fun c_2 => ?_)
  · skip
    have ic_2 := ci_eq (rfl : Int32.toInt r_1 = _) (show Int32.toInt 0 = 0 by decide) c_2
    refine lv_aload_n hx hb dX8_kindOf_12 rfl (lv_at hl 0 rfl) ?_
    refine va_get (D := (dC, dI)) (ci := 6) (v := .ref la) (C := RX8) (T := TX8) (N := 14) hx hb hts hnX8_kindOf_X8 hown hK hP 0 rfl rfl 10 (by decide) (hts (.fieldLink RX8 39 "RingMeetsModel" "late" "[I") (by decide +kernel)) (fun _ h9 => h9) rfl dX8_kindOf_13 ?_
    refine lv_iload_n hx hb dX8_kindOf_16 rfl (lv_at hl 1 rfl) ?_
    refine va_iald (D := (dC, dI)) hx hb hK hP 4 0 rfl rfl (vp_in_nI (n := cv) (N := 59049) (by omega) (by omega)) dX8_kindOf_17 ?_
    refine lv_topi (fun x_3 ex_3 => ?_)
    rw [nI_clamp (n := cv) (by omega)] at ex_3
    refine lv_if_lt (tgt := 25) hx hb dX8_kindOf_18 (by decide) (fun c_4 => ?_) (fun c_4 => ?_)
    · skip
      have ic_4 := ci_lt (rfl : Int32.toInt x_3 = _) (show Int32.toInt 0 = 0 by decide) c_4
      refine lv_aload_n hx hb dX8_kindOf_25 rfl (lv_at hl 0 rfl) ?_
      refine va_get (D := (dC, dI)) (ci := 6) (v := .ref so) (C := RX8) (T := TX8) (N := 14) hx hb hts hnX8_kindOf_X8 hown hK hP 0 rfl rfl 9 (by decide) (hts (.fieldLink RX8 36 "RingMeetsModel" "soon" "[I") (by decide +kernel)) (fun _ h9 => h9) rfl dX8_kindOf_26 ?_
      refine lv_iload_n hx hb dX8_kindOf_29 rfl (lv_at hl 1 rfl) ?_
      refine va_iald (D := (dC, dI)) hx hb hK hP 3 0 rfl rfl (vp_in_nI (n := cv) (N := 59049) (by omega) (by omega)) dX8_kindOf_30 ?_
      refine lv_topi (fun x_5 ex_5 => ?_)
      rw [nI_clamp (n := cv) (by omega)] at ex_5
      refine lv_if_lt (tgt := 38) hx hb dX8_kindOf_31 (by decide) (fun c_6 => ?_) (fun c_6 => ?_)
      · skip
        have ic_6 := ci_lt (rfl : Int32.toInt x_5 = _) (show Int32.toInt 0 = 0 by decide) c_6
        refine lv_iconst (v := 3) hx hb dX8_kindOf_38 (by decide) ?_
        exact W.iret (v := 3) hx hb hr (fun t ht hW => ⟨3, rfl, trivial, ht⟩) (fun q h => by cases h) dX8_kindOf_39
      · skip
        have ic_6 := ci_nlt (rfl : Int32.toInt x_5 = _) (show Int32.toInt 0 = 0 by decide) c_6
        refine lv_iconst (v := 2) hx hb dX8_kindOf_34 (by decide) ?_
        refine lv_goto (tgt := 39) hx hb dX8_kindOf_35 (by decide) ?_
        exact W.iret (v := 2) hx hb hr (fun t ht hW => ⟨2, rfl, trivial, ht⟩) (fun q h => by cases h) dX8_kindOf_39
    · skip
      have ic_4 := ci_nlt (rfl : Int32.toInt x_3 = _) (show Int32.toInt 0 = 0 by decide) c_4
      refine lv_iconst (v := 1) hx hb dX8_kindOf_21 (by decide) ?_
      refine lv_goto (tgt := 39) hx hb dX8_kindOf_22 (by decide) ?_
      exact W.iret (v := 1) hx hb hr (fun t ht hW => ⟨1, rfl, trivial, ht⟩) (fun q h => by cases h) dX8_kindOf_39
  · skip
    have ic_2 := ci_ne (rfl : Int32.toInt r_1 = _) (show Int32.toInt 0 = 0 by decide) c_2
    refine lv_iconst (v := 0) hx hb dX8_kindOf_8 (by decide) ?_
    refine lv_goto (tgt := 39) hx hb dX8_kindOf_9 (by decide) ?_
    exact W.iret (v := 0) hx hb hr (fun t ht hW => ⟨0, rfl, trivial, ht⟩) (fun q h => by cases h) dX8_kindOf_39

theorem hnX8_stuck_X8 : ∀ w ∈ wsX80, w ∈ wsX8_stuck := fun _ h => List.mem_cons_of_mem _ (List.mem_append_right _ h)
set_option maxHeartbeats 4000000 in
set_option maxRecDepth 100000 in
theorem mX8_stuck (l : Launch) (dC : Nat → ClassId) (dI : Nat → Nat → Nat) (cyI cyZ : ClassId) (m0 : Nat) (st : Nat) (im : Nat) (kq : Nat) (pw : Nat) (nx : Nat) (li : Nat) (il : Nat) (mv : Nat) (so : Nat) (la : Nat) (co : Nat) (L : Nat) (d11 : Int32) (d12 : Int32) (n : Nat) (fs : Nat → Int32) (fp : Nat → Int32) (lf : Nat → Int32) (mf : Nat → Int32) (hn3 : 3 ≤ n) (hn : n ≤ 10) (h0f : fs 0 = nI n) (hp : ∀ j, j ≤ 10 → fp j = nI (3 ^ j)) (hLa : ∀ j, j < L → ∃ c, c < 3 ^ n ∧ lf j = nI c) (hLb : L ≤ 59049) : Met l yX8_stuck wsX8_stuck ({ frames := 3, cells := 0, slots := 0, locals := 64 }) (bs_R dC dI cyI cyZ [.ref m0] [(m0, .inr (6, [.ref st, .ref im, .ref kq, .ref pw, .ref nx, .ref li, .int (nI L), .ref il, .ref mv, .ref so, .ref la, .int d11, .int d12, .ref co])), (st, .inl (cyI, 72, .inl fs)), (pw, .inl (cyI, 11, .inl fp)), (li, .inl (cyI, 59049, .inl lf)), (mv, .inl (cyI, 59049, .inl mf))]) (vp_Si (fun r : Int32 => True)) 0 0 (fun _ => False) := by
  refine Met.ofW (cc := cX8_stuck) (maxL := 3) (ret := (some .int)) (by decide) rfl ?_
  intro p e s m args below meth c s₁ B hml hv
  obtain ⟨rfl, hB, hP⟩ := hv
  have hK := hB.1
  have hN := hB.2
  have hx := B.exec
  have hb := B.bytes
  have hr := B.returns
  have hts := atoms_spec (ws := wsX8_stuck) B.pre
  have hown : s.vm.findClass RX8 = some m.cls := findClass_of_methodNamed B.named
  have hlocks := B.notSynchronized
  have hP : va_P (dC, dI) vwCl [(m0, .inr (6, [.ref st, .ref im, .ref kq, .ref pw, .ref nx, .ref li, .int (nI L), .ref il, .ref mv, .ref so, .ref la, .int d11, .int d12, .ref co])), (st, .inl (cyI, 72, .inl fs)), (pw, .inl (cyI, 11, .inl fp)), (li, .inl (cyI, 59049, .inl lf)), (mv, .inl (cyI, 59049, .inl mf))] s.heap := hP
  have hl := lv_entry ([.ref m0]) (n := 3) (Nat.le_of_ble_eq_true rfl)
  rw [lg_entry_eq]
  generalize (lg_sl ([.ref m0]) ++ List.replicate (3 - (lg_sl ([.ref m0])).length) Slot.unset).toArray = ls at hl ⊢
  have hl : lv_has ls 3 [(0, .ref m0)] := hl
  refine lv_iconst (v := 0) hx hb dX8_stuck_0 (by decide) ?_
  refine lv_istore_n (lv' := [(1, .int 0), (0, .ref m0)]) hx hb dX8_stuck_1 rfl hl (by decide) rfl (fun ls hl => ?_)
  refine lv_iconst (v := 0) hx hb dX8_stuck_2 (by decide) ?_
  refine lv_istore_n (lv' := [(2, .int 0), (1, .int 0), (0, .ref m0)]) hx hb dX8_stuck_3 rfl hl (by decide) rfl (fun ls hl => ?_)
  have L4 : ∀ (n4 : Nat), ∀ (k : Nat) (ya : Int32), (0 ≤ k ∧ k ≤ L) → (L + 1 ≤ k + n4) → ∀ (ls : Array Slot), lv_has ls 3 [(0, .ref m0), (1, .int ya), (2, .int (nI k))] → W p l e (headSpec wsX8_stuck ({ frames := 3, cells := 0, slots := 0, locals := 64 })).room s m ([.ref m0] : List Value).toArray below meth c s.heap [] 0 0 (MQ below (vp_Si (fun r : Int32 => True)) ([.ref m0] : List Value).toArray s 0 0 (fun _ => False)) (F0 m 4 ls []) := by
    intro n4
    induction n4 with
    | zero =>
      intro k ya hk4 hn4 ls hl
      exfalso
      omega
    | succ n4 ih4 =>
      intro k ya hk4 hn4 ls hl
      refine lv_iload_n hx hb dX8_stuck_4 rfl (lv_at hl 2 rfl) ?_
      refine lv_aload_n hx hb dX8_stuck_5 rfl (lv_at hl 0 rfl) ?_
      refine va_get (D := (dC, dI)) (ci := 6) (v := .int (nI L)) (C := RX8) (T := TX8) (N := 14) hx hb hts hnX8_stuck_X8 hown hK hP 0 rfl rfl 6 (by decide) (hts (.fieldLink RX8 128 "RingMeetsModel" "listed" "I") (by decide +kernel)) (fun _ h9 => h9) rfl dX8_stuck_6 ?_
      refine lv_icmp_ge (tgt := 52) hx hb dX8_stuck_9 (by decide) (fun c_1 => ?_) (fun c_1 => ?_)
      · skip
        have ic_1 := ci_le (nI_toInt (n := L) (by omega)) (nI_toInt (n := k) (by omega)) c_1
        refine lv_iload_n hx hb dX8_stuck_52 rfl (lv_at hl 1 rfl) ?_
        exact W.iret (v := ya) hx hb hr (fun t ht hW => ⟨ya, rfl, trivial, ht⟩) (fun q h => by cases h) dX8_stuck_53
      · skip
        have ic_1 := ci_nle (nI_toInt (n := L) (by omega)) (nI_toInt (n := k) (by omega)) c_1
        refine lv_iload_n hx hb dX8_stuck_12 rfl (lv_at hl 1 rfl) ?_
        refine lv_aload_n hx hb dX8_stuck_13 rfl (lv_at hl 0 rfl) ?_
        refine lv_aload_n hx hb dX8_stuck_14 rfl (lv_at hl 0 rfl) ?_
        refine va_get (D := (dC, dI)) (ci := 6) (v := .ref li) (C := RX8) (T := TX8) (N := 14) hx hb hts hnX8_stuck_X8 hown hK hP 0 rfl rfl 5 (by decide) (hts (.fieldLink RX8 27 "RingMeetsModel" "list" "[I") (by decide +kernel)) (fun _ h9 => h9) rfl dX8_stuck_15 ?_
        refine lv_iload_n hx hb dX8_stuck_18 rfl (lv_at hl 2 rfl) ?_
        refine va_iald (D := (dC, dI)) hx hb hK hP 3 0 rfl rfl (vp_in_nI (n := k) (N := 59049) (by omega) (by omega)) dX8_stuck_19 ?_
        refine lv_topi (fun x_2 ex_2 => ?_)
        rw [nI_clamp (n := k) (by omega)] at ex_2
        refine vp_callSi (va_Run.run (va_runV (As := [.int x_2]) (rest := [.int ya]) ⟨hx, hb, hml, hown, hts⟩ (mX8_isMet l dC dI cyI cyZ m0 st im kq pw nx li il mv so la co (nI L) d11 d12 n fs fp x_2 hn3 hn h0f hp) (cwV 1 hts gX8_stuck_X8_isMet rfl rfl rfl (by decide +kernel) ⟨Nat.le_of_ble_eq_true rfl, Nat.le_of_ble_eq_true rfl⟩) (bs_RV hB (hP.sub (ws' := [(m0, .inr (6, [.ref st, .ref im, .ref kq, .ref pw, .ref nx, .ref li, .int (nI L), .ref il, .ref mv, .ref so, .ref la, .int d11, .int d12, .ref co])), (st, .inl (cyI, 72, .inl fs)), (pw, .inl (cyI, 11, .inl fp))]) [0, 1, 2] rfl) 0 rfl rfl) rfl rfl hl.1 rfl (lv_room (Nat.le_of_ble_eq_true rfl)) dX8_stuck_20 ⟨Nat.le_of_ble_eq_true rfl, Nat.le_of_ble_eq_true rfl⟩)) (fun r_3 hr_3 => ?_)
        refine lv_if_ne (tgt := 43) hx hb dX8_stuck_23 (by decide) (fun c_4 => ?_) (fun c_4 => ?_)
        · skip
          have ic_4 := ci_ne (rfl : Int32.toInt r_3 = _) (show Int32.toInt 0 = 0 by decide) c_4
          refine lv_iconst (v := 0) hx hb dX8_stuck_43 (by decide) ?_
          refine lv_iadd hx hb dX8_stuck_44 ?_
          refine lv_topi (fun x_5 ex_5 => ?_)
          obtain rfl : ya = x_5 := (ex_5.trans (Int32.add_zero _)).symm
          refine lv_istore_n (lv' := [(1, .int ya), (0, .ref m0), (2, .int (nI k))]) hx hb dX8_stuck_45 rfl hl (by decide) rfl (fun ls hl => ?_)
          refine lv_iinc (v := (nI (k + 1))) (lv' := [(2, .int (nI (k + 1))), (1, .int ya), (0, .ref m0)]) hx hb dX8_stuck_46 hl (k := 2) rfl (nI_1 _) (by decide) rfl (fun ls hl => ?_)
          refine lv_goto (tgt := 4) hx hb dX8_stuck_49 (by decide) ?_
          exact ih4 (k + 1) ya ⟨by omega, by omega⟩ (by omega)  _ (lv_sub hl [2, 1, 0] rfl)
        · skip
          have ic_4 := ci_eq (rfl : Int32.toInt r_3 = _) (show Int32.toInt 0 = 0 by decide) c_4
          refine lv_aload_n hx hb dX8_stuck_26 rfl (lv_at hl 0 rfl) ?_
          refine lv_aload_n hx hb dX8_stuck_27 rfl (lv_at hl 0 rfl) ?_
          refine va_get (D := (dC, dI)) (ci := 6) (v := .ref li) (C := RX8) (T := TX8) (N := 14) hx hb hts hnX8_stuck_X8 hown hK hP 0 rfl rfl 5 (by decide) (hts (.fieldLink RX8 27 "RingMeetsModel" "list" "[I") (by decide +kernel)) (fun _ h9 => h9) rfl dX8_stuck_28 ?_
          refine lv_iload_n hx hb dX8_stuck_31 rfl (lv_at hl 2 rfl) ?_
          refine va_iald (D := (dC, dI)) hx hb hK hP 3 0 rfl rfl (vp_in_nI (n := k) (N := 59049) (by omega) (by omega)) dX8_stuck_32 ?_
          refine lv_topi (fun x_6 ex_6 => ?_)
          rw [nI_clamp (n := k) (by omega)] at ex_6
          obtain ⟨cv, hcv, ecv⟩ := hLa k (by omega)
          obtain rfl : nI cv = x_6 := (ex_6.trans ecv).symm
          have hc9 := mn_c9 hn hcv
          refine vp_callSi (va_Run.run (va_runV (As := [.int (nI cv)]) (rest := [.int ya]) ⟨hx, hb, hml, hown, hts⟩ (mX8_movers l dC dI cyI cyZ m0 st im kq pw nx li il mv so la co (nI L) d11 d12 n fs fp cv mf hn3 hn h0f hp (by omega)) (cwV 1 hts gX8_stuck_X8_movers rfl rfl rfl (by decide +kernel) ⟨Nat.le_of_ble_eq_true rfl, Nat.le_of_ble_eq_true rfl⟩) (bs_RV hB (hP.sub (ws' := [(m0, .inr (6, [.ref st, .ref im, .ref kq, .ref pw, .ref nx, .ref li, .int (nI L), .ref il, .ref mv, .ref so, .ref la, .int d11, .int d12, .ref co])), (st, .inl (cyI, 72, .inl fs)), (pw, .inl (cyI, 11, .inl fp)), (mv, .inl (cyI, 59049, .inl mf))]) [0, 1, 2, 4] rfl) 0 rfl rfl) rfl rfl hl.1 rfl (lv_room (Nat.le_of_ble_eq_true rfl)) dX8_stuck_33 ⟨Nat.le_of_ble_eq_true rfl, Nat.le_of_ble_eq_true rfl⟩)) (fun r_7 hr_7 => ?_)
          obtain ⟨av, lav, eav⟩ := hr_7
          obtain rfl : nI av = r_7 := Eq.symm eav
          refine lv_if_ne (tgt := 43) hx hb dX8_stuck_36 (by decide) (fun c_8 => ?_) (fun c_8 => ?_)
          · skip
            have ic_8 := ci_ne (nI_toInt (n := av) (by omega)) (show Int32.toInt 0 = 0 by decide) c_8
            refine lv_iconst (v := 0) hx hb dX8_stuck_43 (by decide) ?_
            refine lv_iadd hx hb dX8_stuck_44 ?_
            refine lv_topi (fun x_9 ex_9 => ?_)
            obtain rfl : ya = x_9 := (ex_9.trans (Int32.add_zero _)).symm
            refine lv_istore_n (lv' := [(1, .int ya), (0, .ref m0), (2, .int (nI k))]) hx hb dX8_stuck_45 rfl hl (by decide) rfl (fun ls hl => ?_)
            refine lv_iinc (v := (nI (k + 1))) (lv' := [(2, .int (nI (k + 1))), (1, .int ya), (0, .ref m0)]) hx hb dX8_stuck_46 hl (k := 2) rfl (nI_1 _) (by decide) rfl (fun ls hl => ?_)
            refine lv_goto (tgt := 4) hx hb dX8_stuck_49 (by decide) ?_
            exact ih4 (k + 1) ya ⟨by omega, by omega⟩ (by omega)  _ (lv_sub hl [2, 1, 0] rfl)
          · skip
            have ic_8 := ci_eq (nI_toInt (n := av) (by omega)) (show Int32.toInt 0 = 0 by decide) c_8
            refine lv_iconst (v := 1) hx hb dX8_stuck_39 (by decide) ?_
            refine lv_goto (tgt := 44) hx hb dX8_stuck_40 (by decide) ?_
            refine lv_iadd hx hb dX8_stuck_44 ?_
            refine lv_topi (fun x_10 ex_10 => ?_)
            refine lv_istore_n (lv' := [(1, .int x_10), (0, .ref m0), (2, .int (nI k))]) hx hb dX8_stuck_45 rfl hl (by decide) rfl (fun ls hl => ?_)
            refine lv_iinc (v := (nI (k + 1))) (lv' := [(2, .int (nI (k + 1))), (1, .int x_10), (0, .ref m0)]) hx hb dX8_stuck_46 hl (k := 2) rfl (nI_1 _) (by decide) rfl (fun ls hl => ?_)
            refine lv_goto (tgt := 4) hx hb dX8_stuck_49 (by decide) ?_
            exact ih4 (k + 1) x_10 ⟨by omega, by omega⟩ (by omega)  _ (lv_sub hl [2, 1, 0] rfl)
  exact L4 (L + 1) 0 0 ⟨by omega, by omega⟩ (by omega)  _ (lv_sub hl [2, 1, 0] rfl)

theorem hnX8_singles_X8 : ∀ w ∈ wsX80, w ∈ wsX8_singles := fun _ h => List.mem_cons_of_mem _ (List.mem_append_right _ h)
set_option maxHeartbeats 4000000 in
set_option maxRecDepth 100000 in
theorem mX8_singles (l : Launch) (dC : Nat → ClassId) (dI : Nat → Nat → Nat) (cyI cyZ : ClassId) (m0 : Nat) (st : Nat) (im : Nat) (kq : Nat) (pw : Nat) (nx : Nat) (li : Nat) (il : Nat) (mv : Nat) (so : Nat) (la : Nat) (co : Nat) (d6 : Int32) (d11 : Int32) (d12 : Int32) (n : Nat) (fs : Nat → Int32) (fp : Nat → Int32) (p1 : Int32) (hn3 : 3 ≤ n) (hn : n ≤ 10) (h0f : fs 0 = nI n) (hp : ∀ j, j ≤ 10 → fp j = nI (3 ^ j)) : Met l yX8_singles wsX8_singles ({ frames := 1, cells := 0, slots := 0, locals := 21 }) (bs_R dC dI cyI cyZ [.ref m0, .int p1] [(m0, .inr (6, [.ref st, .ref im, .ref kq, .ref pw, .ref nx, .ref li, .int d6, .ref il, .ref mv, .ref so, .ref la, .int d11, .int d12, .ref co])), (st, .inl (cyI, 72, .inl fs)), (pw, .inl (cyI, 11, .inl fp))]) (vp_Si (fun r : Int32 => ∃ v : Nat, v < 3 ^ n ∧ r = nI v)) 0 0 (fun _ => False) := by
  refine Met.ofW (cc := cX8_singles) (maxL := 4) (ret := (some .int)) (by decide) rfl ?_
  intro p e s m args below meth c s₁ B hml hv
  obtain ⟨rfl, hB, hP⟩ := hv
  have hK := hB.1
  have hN := hB.2
  have hx := B.exec
  have hb := B.bytes
  have hr := B.returns
  have hts := atoms_spec (ws := wsX8_singles) B.pre
  have hown : s.vm.findClass RX8 = some m.cls := findClass_of_methodNamed B.named
  have hlocks := B.notSynchronized
  have hP : va_P (dC, dI) vwCl [(m0, .inr (6, [.ref st, .ref im, .ref kq, .ref pw, .ref nx, .ref li, .int d6, .ref il, .ref mv, .ref so, .ref la, .int d11, .int d12, .ref co])), (st, .inl (cyI, 72, .inl fs)), (pw, .inl (cyI, 11, .inl fp))] s.heap := hP
  have hl := lv_entry ([.ref m0, .int p1]) (n := 4) (Nat.le_of_ble_eq_true rfl)
  rw [lg_entry_eq]
  generalize (lg_sl ([.ref m0, .int p1]) ++ List.replicate (4 - (lg_sl ([.ref m0, .int p1])).length) Slot.unset).toArray = ls at hl ⊢
  have hl : lv_has ls 4 [(0, .ref m0), (1, .int p1)] := hl
  refine lv_iconst (v := 0) hx hb dX8_singles_0 (by decide) ?_
  refine lv_istore_n (lv' := [(2, .int 0), (0, .ref m0), (1, .int p1)]) hx hb dX8_singles_1 rfl hl (by decide) rfl (fun ls hl => ?_)
  refine lv_iconst (v := 0) hx hb dX8_singles_2 (by decide) ?_
  refine lv_istore_n (lv' := [(3, .int 0), (2, .int 0), (0, .ref m0), (1, .int p1)]) hx hb dX8_singles_3 rfl hl (by decide) rfl (fun ls hl => ?_)
  have L4 : ∀ (n4 : Nat), ∀ (k : Nat) (v3 : Nat), (0 ≤ k ∧ k ≤ n) → (n + 1 ≤ k + n4) → (v3 < 3 ^ k) → ∀ (ls : Array Slot), lv_has ls 4 [(0, .ref m0), (1, .int p1), (2, .int (nI v3)), (3, .int (nI k))] → W p l e (headSpec wsX8_singles ({ frames := 1, cells := 0, slots := 0, locals := 21 })).room s m ([.ref m0, .int p1] : List Value).toArray below meth c s.heap [] 0 0 (MQ below (vp_Si (fun r : Int32 => ∃ v : Nat, v < 3 ^ n ∧ r = nI v)) ([.ref m0, .int p1] : List Value).toArray s 0 0 (fun _ => False)) (F0 m 4 ls []) := by
    intro n4
    induction n4 with
    | zero =>
      intro k v3 hk4 hn4 hv3 ls hl
      exfalso
      omega
    | succ n4 ih4 =>
      intro k v3 hk4 hn4 hv3 ls hl
      refine lv_iload_n hx hb dX8_singles_4 rfl (lv_at hl 3 rfl) ?_
      refine lv_aload_n hx hb dX8_singles_5 rfl (lv_at hl 0 rfl) ?_
      refine vp_callSi (va_Run.run (va_runV (As := []) (rest := [.int (nI k)]) ⟨hx, hb, hml, hown, hts⟩ (mX8_cells l dC dI cyI cyZ m0 st im kq pw nx li il mv so la co d6 d11 d12 n fs hn3 hn h0f) (cwV 0 hts gX8_singles_X8_cells rfl rfl rfl (by decide +kernel) ⟨Nat.le_of_ble_eq_true rfl, Nat.le_of_ble_eq_true rfl⟩) (bs_RV hB (hP.sub (ws' := [(m0, .inr (6, [.ref st, .ref im, .ref kq, .ref pw, .ref nx, .ref li, .int d6, .ref il, .ref mv, .ref so, .ref la, .int d11, .int d12, .ref co])), (st, .inl (cyI, 72, .inl fs))]) [0, 1] rfl) 0 rfl rfl) rfl rfl hl.1 rfl (lv_room (Nat.le_of_ble_eq_true rfl)) dX8_singles_6 ⟨Nat.le_of_ble_eq_true rfl, Nat.le_of_ble_eq_true rfl⟩)) (fun r_1 hr_1 => ?_)
      obtain rfl : (nI n) = r_1 := Eq.symm hr_1
      refine lv_icmp_ge (tgt := 39) hx hb dX8_singles_9 (by decide) (fun c_2 => ?_) (fun c_2 => ?_)
      · skip
        have ic_2 := ci_le (nI_toInt (n := n) (by omega)) (nI_toInt (n := k) (by omega)) c_2
        refine lv_iload_n hx hb dX8_singles_39 rfl (lv_at hl 2 rfl) ?_
        exact W.iret (v := (nI v3)) hx hb hr (fun t ht hW => ⟨(nI v3), rfl, ⟨v3, by rw [show n = k by omega]; exact hv3, rfl⟩, ht⟩) (fun q h => by cases h) dX8_singles_40
      · skip
        have ic_2 := ci_nle (nI_toInt (n := n) (by omega)) (nI_toInt (n := k) (by omega)) c_2
        refine lv_iload_n hx hb dX8_singles_12 rfl (lv_at hl 2 rfl) ?_
        refine lv_iload_n hx hb dX8_singles_13 rfl (lv_at hl 1 rfl) ?_
        refine lv_iload_n hx hb dX8_singles_14 rfl (lv_at hl 3 rfl) ?_
        refine vp_callSi (va_Run.run (va_runS (As := [.int p1, .int (nI k)]) (rest := [.int (nI v3)]) ⟨hx, hb, hml, hown, hts⟩ (mX8_has l dC dI cyI cyZ p1 (nI k) ) (va_cwS 2 hts gX8_singles_X8_has rfl rfl rfl (by decide +kernel) ⟨Nat.le_of_ble_eq_true rfl, Nat.le_of_ble_eq_true rfl⟩) (bs_RS hB (hP.sub (ws' := []) [] rfl)) rfl rfl hl.1 rfl (lv_room (Nat.le_of_ble_eq_true rfl)) dX8_singles_15 ⟨Nat.le_of_ble_eq_true rfl, Nat.le_of_ble_eq_true rfl⟩)) (fun r_3 hr_3 => ?_)
        refine lv_if_eq (tgt := 30) hx hb dX8_singles_18 (by decide) (fun c_4 => ?_) (fun c_4 => ?_)
        · skip
          have ic_4 := ci_eq (rfl : Int32.toInt r_3 = _) (show Int32.toInt 0 = 0 by decide) c_4
          refine lv_iconst (v := 0) hx hb dX8_singles_30 (by decide) ?_
          refine lv_iadd hx hb dX8_singles_31 ?_
          refine lv_topi (fun x_5 ex_5 => ?_)
          obtain rfl : (nI v3) = x_5 := (ex_5.trans (Int32.add_zero _)).symm
          refine lv_istore_n (lv' := [(2, .int (nI v3)), (0, .ref m0), (1, .int p1), (3, .int (nI k))]) hx hb dX8_singles_32 rfl hl (by decide) rfl (fun ls hl => ?_)
          refine lv_iinc (v := (nI (k + 1))) (lv' := [(3, .int (nI (k + 1))), (2, .int (nI v3)), (0, .ref m0), (1, .int p1)]) hx hb dX8_singles_33 hl (k := 3) rfl (nI_1 _) (by decide) rfl (fun ls hl => ?_)
          refine lv_goto (tgt := 4) hx hb dX8_singles_36 (by decide) ?_
          exact ih4 (k + 1) v3 ⟨by omega, by omega⟩ (by omega) (by have h9 := Nat.pow_succ 3 k; omega) _ (lv_sub hl [2, 3, 1, 0] rfl)
        · skip
          have ic_4 := ci_ne (rfl : Int32.toInt r_3 = _) (show Int32.toInt 0 = 0 by decide) c_4
          refine lv_aload_n hx hb dX8_singles_21 rfl (lv_at hl 0 rfl) ?_
          refine va_get (D := (dC, dI)) (ci := 6) (v := .ref pw) (C := RX8) (T := TX8) (N := 14) hx hb hts hnX8_singles_X8 hown hK hP 0 rfl rfl 3 (by decide) (hts (.fieldLink RX8 20 "RingMeetsModel" "power" "[I") (by decide +kernel)) (fun _ h9 => h9) rfl dX8_singles_22 ?_
          refine lv_iload_n hx hb dX8_singles_25 rfl (lv_at hl 3 rfl) ?_
          refine va_iald (D := (dC, dI)) hx hb hK hP 2 0 rfl rfl (vp_in_nI (n := k) (N := 11) (by omega) (by omega)) dX8_singles_26 ?_
          refine lv_topi (fun x_6 ex_6 => ?_)
          rw [nI_clamp (n := k) (by omega)] at ex_6
          obtain rfl : (nI (3 ^ k)) = x_6 := (ex_6.trans (hp _ (by omega))).symm
          refine lv_goto (tgt := 31) hx hb dX8_singles_27 (by decide) ?_
          refine lv_iadd hx hb dX8_singles_31 ?_
          refine lv_topi (fun x_7 ex_7 => ?_)
          obtain rfl : (nI (v3 + (3 ^ k))) = x_7 := (ex_7.trans (nI_add _ _)).symm
          refine lv_istore_n (lv' := [(2, .int (nI (v3 + (3 ^ k)))), (0, .ref m0), (1, .int p1), (3, .int (nI k))]) hx hb dX8_singles_32 rfl hl (by decide) rfl (fun ls hl => ?_)
          refine lv_iinc (v := (nI (k + 1))) (lv' := [(3, .int (nI (k + 1))), (2, .int (nI (v3 + (3 ^ k)))), (0, .ref m0), (1, .int p1)]) hx hb dX8_singles_33 hl (k := 3) rfl (nI_1 _) (by decide) rfl (fun ls hl => ?_)
          refine lv_goto (tgt := 4) hx hb dX8_singles_36 (by decide) ?_
          exact ih4 (k + 1) (v3 + (3 ^ k)) ⟨by omega, by omega⟩ (by omega) (by have h9 := Nat.pow_succ 3 k; omega) _ (lv_sub hl [2, 3, 1, 0] rfl)
  exact L4 (n + 1) 0 0 ⟨by omega, by omega⟩ (by omega) (by decide) _ (lv_sub hl [2, 3, 1, 0] rfl)

set_option maxHeartbeats 4000000 in
set_option maxRecDepth 100000 in
theorem mX8_layNow (l : Launch) (dC : Nat → ClassId) (dI : Nat → Nat → Nat) (cyI cyZ : ClassId) (m0 : Nat) (st : Nat) (im : Nat) (kq : Nat) (pw : Nat) (nx : Nat) (li : Nat) (il : Nat) (mv : Nat) (so : Nat) (la : Nat) (co : Nat) (d6 : Int32) (d11 : Int32) (d12 : Int32) (n : Nat) (fs : Nat → Int32) (fp : Nat → Int32) (wq : Nat → Nat) (zz : Nat) (lf : Nat → Int32) (ilf : Nat → Int32) (mf : Nat → Int32) (fso : Nat → Int32) (fla : Nat → Int32) (fc : Nat → Int32) (p1 : Int32) (p2 : Int32) (hn3 : 3 ≤ n) (hn : n ≤ 10) (h0f : fs 0 = nI n) (hwk : ∀ j, j < 10 → fs (1 + j) = nI (wq j)) (hws : mn_sum wq 10 ≤ 5) (hp : ∀ j, j ≤ 10 → fp j = nI (3 ^ j)) (hzf : fs 11 = nI zz) (hz10 : zz ≤ 10) (hp2 : p2 = 0 ∨ p2 = 1) (sz : Nat) : Met l yX8_layNow wsX8_layNow ({ frames := 10, cells := 0, slots := 0, locals := 245 }) (bs_W dC dI cyI cyZ [.ref m0, .int p1, .int p2] [(m0, .inr (6, [.ref st, .ref im, .ref kq, .ref pw, .ref nx, .ref li, .int d6, .ref il, .ref mv, .ref so, .ref la, .int d11, .int d12, .ref co])), (st, .inl (cyI, 72, .inl fs)), (pw, .inl (cyI, 11, .inl fp)), (li, .inl (cyI, 59049, .inl lf)), (il, .inl (cyZ, 59049, .inl ilf)), (mv, .inl (cyI, 59049, .inl mf)), (so, .inl (cyI, 59049, .inl fso)), (la, .inl (cyI, 59049, .inl fla)), (co, .inl (cyI, 10, .inl fc))] sz) (va_Qv (S := Nat × Int32 × (Nat → Int32) × (Nat → Int32) × (Nat → Int32) × (Nat → Int32) × (Nat → Int32) × (Nat → Int32)) (fun q : Nat × Int32 × (Nat → Int32) × (Nat → Int32) × (Nat → Int32) × (Nat → Int32) × (Nat → Int32) × (Nat → Int32) => mn_L n q.1 q.2.2.1 q.2.2.2.1) (fun q t => bs_E dC dI (va_A [(m0, .inr (6, [.ref st, .ref im, .ref kq, .ref pw, .ref nx, .ref li, .int d6, .ref il, .ref mv, .ref so, .ref la, .int d11, .int d12, .ref co])), (st, .inl (cyI, 72, .inl fs)), (pw, .inl (cyI, 11, .inl fp)), (li, .inl (cyI, 59049, .inl lf)), (il, .inl (cyZ, 59049, .inl ilf)), (mv, .inl (cyI, 59049, .inl mf)), (so, .inl (cyI, 59049, .inl fso)), (la, .inl (cyI, 59049, .inl fla)), (co, .inl (cyI, 10, .inl fc))] sz) [(m0, .inr (6, [.ref st, .ref im, .ref kq, .ref pw, .ref nx, .ref li, .int (nI q.1), .ref il, .ref mv, .ref so, .ref la, .int q.2.1, .int p2, .ref co])), (st, .inl (cyI, 72, .inl fs)), (pw, .inl (cyI, 11, .inl fp)), (li, .inl (cyI, 59049, .inl q.2.2.1)), (il, .inl (cyZ, 59049, .inl q.2.2.2.1)), (mv, .inl (cyI, 59049, .inl q.2.2.2.2.1)), (so, .inl (cyI, 59049, .inl q.2.2.2.2.2.1)), (la, .inl (cyI, 59049, .inl q.2.2.2.2.2.2.1)), (co, .inl (cyI, 10, .inl q.2.2.2.2.2.2.2))] t) (va_A [(m0, .inr (6, [.ref st, .ref im, .ref kq, .ref pw, .ref nx, .ref li, .int d6, .ref il, .ref mv, .ref so, .ref la, .int d11, .int d12, .ref co])), (st, .inl (cyI, 72, .inl fs)), (pw, .inl (cyI, 11, .inl fp)), (li, .inl (cyI, 59049, .inl lf)), (il, .inl (cyZ, 59049, .inl ilf)), (mv, .inl (cyI, 59049, .inl mf)), (so, .inl (cyI, 59049, .inl fso)), (la, .inl (cyI, 59049, .inl fla)), (co, .inl (cyI, 10, .inl fc))] sz)) 0 0 (va_A [(m0, .inr (6, [.ref st, .ref im, .ref kq, .ref pw, .ref nx, .ref li, .int d6, .ref il, .ref mv, .ref so, .ref la, .int d11, .int d12, .ref co])), (st, .inl (cyI, 72, .inl fs)), (pw, .inl (cyI, 11, .inl fp)), (li, .inl (cyI, 59049, .inl lf)), (il, .inl (cyZ, 59049, .inl ilf)), (mv, .inl (cyI, 59049, .inl mf)), (so, .inl (cyI, 59049, .inl fso)), (la, .inl (cyI, 59049, .inl fla)), (co, .inl (cyI, 10, .inl fc))] sz) := by
  refine Met.ofW (cc := cX8_layNow) (maxL := 3) (ret := none) (by decide) rfl ?_
  intro p e s m args below meth c s₁ B hml hv
  obtain ⟨rfl, hsz, hB, hP, hD0⟩ := hv
  have hK := hB.1
  have hN := hB.2
  have hx := B.exec
  have hb := B.bytes
  have hr := B.returns
  have hts := atoms_spec (ws := wsX8_layNow) B.pre
  have hown : s.vm.findClass RX8 = some m.cls := findClass_of_methodNamed B.named
  have hlocks := B.notSynchronized
  subst hsz
  have hD := hD0.self (sz := s.heap.size)
  generalize hAe : va_A [(m0, .inr (6, [.ref st, .ref im, .ref kq, .ref pw, .ref nx, .ref li, .int d6, .ref il, .ref mv, .ref so, .ref la, .int d11, .int d12, .ref co])), (st, .inl (cyI, 72, .inl fs)), (pw, .inl (cyI, 11, .inl fp)), (li, .inl (cyI, 59049, .inl lf)), (il, .inl (cyZ, 59049, .inl ilf)), (mv, .inl (cyI, 59049, .inl mf)), (so, .inl (cyI, 59049, .inl fso)), (la, .inl (cyI, 59049, .inl fla)), (co, .inl (cyI, 10, .inl fc))] s.heap.size = A at hD ⊢
  have hA : ∀ q : Nat, s.heap.size ≤ q → A q := fun q h => by rw [← hAe]; exact Or.inr h
  have hS : va_S A s.heap s.heap [] := va_S.rf
  have hP : va_P (dC, dI) vwCl [(m0, .inr (6, [.ref st, .ref im, .ref kq, .ref pw, .ref nx, .ref li, .int d6, .ref il, .ref mv, .ref so, .ref la, .int d11, .int d12, .ref co])), (st, .inl (cyI, 72, .inl fs)), (pw, .inl (cyI, 11, .inl fp)), (li, .inl (cyI, 59049, .inl lf)), (il, .inl (cyZ, 59049, .inl ilf)), (mv, .inl (cyI, 59049, .inl mf)), (so, .inl (cyI, 59049, .inl fso)), (la, .inl (cyI, 59049, .inl fla)), (co, .inl (cyI, 10, .inl fc))] s.heap := hP
  have hl := lv_entry ([.ref m0, .int p1, .int p2]) (n := 3) (Nat.le_of_ble_eq_true rfl)
  rw [lg_entry_eq]
  generalize (lg_sl ([.ref m0, .int p1, .int p2]) ++ List.replicate (3 - (lg_sl ([.ref m0, .int p1, .int p2])).length) Slot.unset).toArray = ls at hl ⊢
  have hl : lv_has ls 3 [(0, .ref m0), (1, .int p1), (2, .int p2)] := hl
  refine lv_aload_n hx hb dX8_layNow_0 rfl (lv_at hl 0 rfl) ?_
  refine lv_iload_n hx hb dX8_layNow_1 rfl (lv_at hl 2 rfl) ?_
  have f_1 := va_free (wc := [(m0, .inr (6, [.ref st, .ref im, .ref kq, .ref pw, .ref nx, .ref li, .int d6, .ref il, .ref mv, .ref so, .ref la, .int d11, .int d12, .ref co])), (il, .inl (cyZ, 59049, .inl ilf))]) hD hS hA [0, 4] rfl
  refine va_callv (va_runV (As := [.int p2]) (rest := []) ⟨hx, hb, hml, hown, hts⟩ (mX8_begin l dC dI cyI cyZ m0 st im kq pw nx li il mv so la co d6 d11 d12 ilf p2 hp2 _) (cwV 1 hts gX8_layNow_X8_begin rfl rfl rfl (by decide +kernel) ⟨Nat.le_of_ble_eq_true rfl, Nat.le_of_ble_eq_true rfl⟩) (bs_WV hB (hP.sub (ws' := [(m0, .inr (6, [.ref st, .ref im, .ref kq, .ref pw, .ref nx, .ref li, .int d6, .ref il, .ref mv, .ref so, .ref la, .int d11, .int d12, .ref co])), (il, .inl (cyZ, 59049, .inl ilf))]) [0, 4] rfl) (hD.sub (ws' := [(m0, .inr (6, [.ref st, .ref im, .ref kq, .ref pw, .ref nx, .ref li, .int d6, .ref il, .ref mv, .ref so, .ref la, .int d11, .int d12, .ref co])), (il, .inl (cyZ, 59049, .inl ilf))]) [0, 4] (by decide) rfl) 0 rfl rfl) rfl rfl hl.1 rfl (lv_room (Nat.le_of_ble_eq_true rfl)) dX8_layNow_2 ⟨Nat.le_of_ble_eq_true rfl, Nat.le_of_ble_eq_true rfl⟩) hS (fun q _ h => f_1 q h) f_1 (fun uh_2 t H1 locs ht hvm h_2 hB1 hz1 hk1 hS => ?_)
  obtain ⟨g_3, rfl⟩ : ∃ z, z = uh_2 := ⟨_, rfl⟩
  obtain ⟨hP1, hD1⟩ := hB1
  rw [ht] at hP1
  obtain ⟨hP, hD⟩ := va_join (wr := [(st, .inl (cyI, 72, .inl fs)), (pw, .inl (cyI, 11, .inl fp)), (li, .inl (cyI, 59049, .inl lf)), (mv, .inl (cyI, 59049, .inl mf)), (so, .inl (cyI, 59049, .inl fso)), (la, .inl (cyI, 59049, .inl fla)), (co, .inl (cyI, 10, .inl fc))]) (w1 := [(m0, .inr (6, [.ref st, .ref im, .ref kq, .ref pw, .ref nx, .ref li, .int 0, .ref il, .ref mv, .ref so, .ref la, .int 0, .int p2, .ref co])), (il, .inl (cyZ, 59049, .inl g_3))]) hP hD [0, 4] [1, 2, 3, 5, 6, 7, 8] rfl rfl (by decide) (by decide) hk1 f_1 hP1 hD1
  generalize H1 = H at hP hS ⊢
  have hP : va_P (dC, dI) vwCl [(st, .inl (cyI, 72, .inl fs)), (pw, .inl (cyI, 11, .inl fp)), (li, .inl (cyI, 59049, .inl lf)), (mv, .inl (cyI, 59049, .inl mf)), (so, .inl (cyI, 59049, .inl fso)), (la, .inl (cyI, 59049, .inl fla)), (co, .inl (cyI, 10, .inl fc)), (m0, .inr (6, [.ref st, .ref im, .ref kq, .ref pw, .ref nx, .ref li, .int 0, .ref il, .ref mv, .ref so, .ref la, .int 0, .int p2, .ref co])), (il, .inl (cyZ, 59049, .inl g_3))] _ := hP
  have hD : va_D A [(st, .inl (cyI, 72, .inl fs)), (pw, .inl (cyI, 11, .inl fp)), (li, .inl (cyI, 59049, .inl lf)), (mv, .inl (cyI, 59049, .inl mf)), (so, .inl (cyI, 59049, .inl fso)), (la, .inl (cyI, 59049, .inl fla)), (co, .inl (cyI, 10, .inl fc)), (m0, .inr (6, [.ref st, .ref im, .ref kq, .ref pw, .ref nx, .ref li, .int 0, .ref il, .ref mv, .ref so, .ref la, .int 0, .int p2, .ref co])), (il, .inl (cyZ, 59049, .inl g_3))] := hD
  refine lv_aload_n hx hb dX8_layNow_5 rfl (lv_at hl 0 rfl) ?_
  refine lv_aload_n hx hb dX8_layNow_6 rfl (lv_at hl 0 rfl) ?_
  refine vp_callSi (va_Run.run (va_runV (As := []) (rest := [.ref m0]) ⟨hx, hb, hml, hown, hts⟩ (mX8_now l dC dI cyI cyZ m0 st im kq pw nx li il mv so la co 0 0 p2 n fs wq fp hn3 hn h0f hwk hws hp) (cwV 0 hts gX8_layNow_X8_now rfl rfl rfl (by decide +kernel) ⟨Nat.le_of_ble_eq_true rfl, Nat.le_of_ble_eq_true rfl⟩) (bs_RV hB (hP.sub (ws' := [(m0, .inr (6, [.ref st, .ref im, .ref kq, .ref pw, .ref nx, .ref li, .int 0, .ref il, .ref mv, .ref so, .ref la, .int 0, .int p2, .ref co])), (st, .inl (cyI, 72, .inl fs)), (pw, .inl (cyI, 11, .inl fp))]) [7, 0, 1] rfl) 0 rfl rfl) rfl rfl hl.1 rfl (lv_room (Nat.le_of_ble_eq_true rfl)) dX8_layNow_7 ⟨Nat.le_of_ble_eq_true rfl, Nat.le_of_ble_eq_true rfl⟩)) (fun r_4 hr_4 => ?_)
  obtain rfl : (nI (mn_code wq n)) = r_4 := Eq.symm hr_4
  have f_5 := va_free (wc := [(m0, .inr (6, [.ref st, .ref im, .ref kq, .ref pw, .ref nx, .ref li, .int 0, .ref il, .ref mv, .ref so, .ref la, .int 0, .int p2, .ref co])), (st, .inl (cyI, 72, .inl fs)), (pw, .inl (cyI, 11, .inl fp)), (li, .inl (cyI, 59049, .inl lf)), (il, .inl (cyZ, 59049, .inl g_3)), (mv, .inl (cyI, 59049, .inl mf))]) hD hS hA [7, 0, 1, 2, 8, 3] rfl
  refine va_callv (va_runV (As := [.int (nI (mn_code wq n))]) (rest := []) ⟨hx, hb, hml, hown, hts⟩ (mX8_note l dC dI cyI cyZ m0 st im kq pw nx li il mv so la co 0 0 p2 n fs fp zz (mn_code wq n) lf g_3 mf hn3 hn h0f hp hzf hz10 (mn_code_lt wq n) mn_L_0 _) (cwV 1 hts gX8_layNow_X8_note rfl rfl rfl (by decide +kernel) ⟨Nat.le_of_ble_eq_true rfl, Nat.le_of_ble_eq_true rfl⟩) (bs_WV hB (hP.sub (ws' := [(m0, .inr (6, [.ref st, .ref im, .ref kq, .ref pw, .ref nx, .ref li, .int 0, .ref il, .ref mv, .ref so, .ref la, .int 0, .int p2, .ref co])), (st, .inl (cyI, 72, .inl fs)), (pw, .inl (cyI, 11, .inl fp)), (li, .inl (cyI, 59049, .inl lf)), (il, .inl (cyZ, 59049, .inl g_3)), (mv, .inl (cyI, 59049, .inl mf))]) [7, 0, 1, 2, 8, 3] rfl) (hD.sub (ws' := [(m0, .inr (6, [.ref st, .ref im, .ref kq, .ref pw, .ref nx, .ref li, .int 0, .ref il, .ref mv, .ref so, .ref la, .int 0, .int p2, .ref co])), (st, .inl (cyI, 72, .inl fs)), (pw, .inl (cyI, 11, .inl fp)), (li, .inl (cyI, 59049, .inl lf)), (il, .inl (cyZ, 59049, .inl g_3)), (mv, .inl (cyI, 59049, .inl mf))]) [7, 0, 1, 2, 8, 3] (by decide) rfl) 0 rfl rfl) rfl rfl hl.1 rfl (lv_room (Nat.le_of_ble_eq_true rfl)) dX8_layNow_10 ⟨Nat.le_of_ble_eq_true rfl, Nat.le_of_ble_eq_true rfl⟩) hS (fun q _ h => f_5 q h) f_5 (fun uh_6 t H1 locs ht hvm h_6 hB1 hz1 hk1 hS => ?_)
  obtain ⟨v_7, i_8, g_9, g_10, g_11⟩ := uh_6
  have h_6 : mn_L n v_7 g_9 g_10 ∧ 0 ≤ v_7 := h_6
  obtain ⟨hP1, hD1⟩ := hB1
  rw [ht] at hP1
  obtain ⟨hP, hD⟩ := va_join (wr := [(so, .inl (cyI, 59049, .inl fso)), (la, .inl (cyI, 59049, .inl fla)), (co, .inl (cyI, 10, .inl fc))]) (w1 := [(m0, .inr (6, [.ref st, .ref im, .ref kq, .ref pw, .ref nx, .ref li, .int (nI v_7), .ref il, .ref mv, .ref so, .ref la, .int i_8, .int p2, .ref co])), (st, .inl (cyI, 72, .inl fs)), (pw, .inl (cyI, 11, .inl fp)), (li, .inl (cyI, 59049, .inl g_9)), (il, .inl (cyZ, 59049, .inl g_10)), (mv, .inl (cyI, 59049, .inl g_11))]) hP hD [7, 0, 1, 2, 8, 3] [4, 5, 6] rfl rfl (by decide) (by decide) hk1 f_5 hP1 hD1
  generalize H1 = H at hP hS ⊢
  have hP : va_P (dC, dI) vwCl [(so, .inl (cyI, 59049, .inl fso)), (la, .inl (cyI, 59049, .inl fla)), (co, .inl (cyI, 10, .inl fc)), (m0, .inr (6, [.ref st, .ref im, .ref kq, .ref pw, .ref nx, .ref li, .int (nI v_7), .ref il, .ref mv, .ref so, .ref la, .int i_8, .int p2, .ref co])), (st, .inl (cyI, 72, .inl fs)), (pw, .inl (cyI, 11, .inl fp)), (li, .inl (cyI, 59049, .inl g_9)), (il, .inl (cyZ, 59049, .inl g_10)), (mv, .inl (cyI, 59049, .inl g_11))] _ := hP
  have hD : va_D A [(so, .inl (cyI, 59049, .inl fso)), (la, .inl (cyI, 59049, .inl fla)), (co, .inl (cyI, 10, .inl fc)), (m0, .inr (6, [.ref st, .ref im, .ref kq, .ref pw, .ref nx, .ref li, .int (nI v_7), .ref il, .ref mv, .ref so, .ref la, .int i_8, .int p2, .ref co])), (st, .inl (cyI, 72, .inl fs)), (pw, .inl (cyI, 11, .inl fp)), (li, .inl (cyI, 59049, .inl g_9)), (il, .inl (cyZ, 59049, .inl g_10)), (mv, .inl (cyI, 59049, .inl g_11))] := hD
  obtain ⟨hL, hLm⟩ := h_6
  refine lv_aload_n hx hb dX8_layNow_13 rfl (lv_at hl 0 rfl) ?_
  refine lv_iload_n hx hb dX8_layNow_14 rfl (lv_at hl 1 rfl) ?_
  have f_12 := va_free (wc := [(m0, .inr (6, [.ref st, .ref im, .ref kq, .ref pw, .ref nx, .ref li, .int (nI v_7), .ref il, .ref mv, .ref so, .ref la, .int i_8, .int p2, .ref co])), (st, .inl (cyI, 72, .inl fs)), (pw, .inl (cyI, 11, .inl fp)), (li, .inl (cyI, 59049, .inl g_9)), (il, .inl (cyZ, 59049, .inl g_10)), (mv, .inl (cyI, 59049, .inl g_11)), (so, .inl (cyI, 59049, .inl fso)), (la, .inl (cyI, 59049, .inl fla)), (co, .inl (cyI, 10, .inl fc))]) hD hS hA [3, 4, 5, 6, 7, 8, 0, 1, 2] rfl
  refine va_callv (va_runV (As := [.int p1]) (rest := []) ⟨hx, hb, hml, hown, hts⟩ (mX8_listAll l dC dI cyI cyZ m0 st im kq pw nx li il mv so la co v_7 i_8 p2 n fs fp zz g_9 g_10 g_11 fso fla fc p1 hn3 hn h0f hp hzf hz10 hL _) (cwV 1 hts gX8_layNow_X8_listAll rfl rfl rfl (by decide +kernel) ⟨Nat.le_of_ble_eq_true rfl, Nat.le_of_ble_eq_true rfl⟩) (bs_WV hB (hP.sub (ws' := [(m0, .inr (6, [.ref st, .ref im, .ref kq, .ref pw, .ref nx, .ref li, .int (nI v_7), .ref il, .ref mv, .ref so, .ref la, .int i_8, .int p2, .ref co])), (st, .inl (cyI, 72, .inl fs)), (pw, .inl (cyI, 11, .inl fp)), (li, .inl (cyI, 59049, .inl g_9)), (il, .inl (cyZ, 59049, .inl g_10)), (mv, .inl (cyI, 59049, .inl g_11)), (so, .inl (cyI, 59049, .inl fso)), (la, .inl (cyI, 59049, .inl fla)), (co, .inl (cyI, 10, .inl fc))]) [3, 4, 5, 6, 7, 8, 0, 1, 2] rfl) (hD.sub (ws' := [(m0, .inr (6, [.ref st, .ref im, .ref kq, .ref pw, .ref nx, .ref li, .int (nI v_7), .ref il, .ref mv, .ref so, .ref la, .int i_8, .int p2, .ref co])), (st, .inl (cyI, 72, .inl fs)), (pw, .inl (cyI, 11, .inl fp)), (li, .inl (cyI, 59049, .inl g_9)), (il, .inl (cyZ, 59049, .inl g_10)), (mv, .inl (cyI, 59049, .inl g_11)), (so, .inl (cyI, 59049, .inl fso)), (la, .inl (cyI, 59049, .inl fla)), (co, .inl (cyI, 10, .inl fc))]) [3, 4, 5, 6, 7, 8, 0, 1, 2] (by decide) rfl) 0 rfl rfl) rfl rfl hl.1 rfl (lv_room (Nat.le_of_ble_eq_true rfl)) dX8_layNow_15 ⟨Nat.le_of_ble_eq_true rfl, Nat.le_of_ble_eq_true rfl⟩) hS (fun q _ h => f_12 q h) f_12 (fun uh_13 t H1 locs ht hvm h_13 hB1 hz1 hk1 hS => ?_)
  obtain ⟨v_14, i_15, g_16, g_17, g_18, g_19, g_20, g_21⟩ := uh_13
  have h_13 : mn_L n v_14 g_16 g_17 := h_13
  obtain ⟨hP1, hD1⟩ := hB1
  rw [ht] at hP1
  obtain ⟨hP, hD⟩ := va_join (wr := []) (w1 := [(m0, .inr (6, [.ref st, .ref im, .ref kq, .ref pw, .ref nx, .ref li, .int (nI v_14), .ref il, .ref mv, .ref so, .ref la, .int i_15, .int p2, .ref co])), (st, .inl (cyI, 72, .inl fs)), (pw, .inl (cyI, 11, .inl fp)), (li, .inl (cyI, 59049, .inl g_16)), (il, .inl (cyZ, 59049, .inl g_17)), (mv, .inl (cyI, 59049, .inl g_18)), (so, .inl (cyI, 59049, .inl g_19)), (la, .inl (cyI, 59049, .inl g_20)), (co, .inl (cyI, 10, .inl g_21))]) hP hD [3, 4, 5, 6, 7, 8, 0, 1, 2] [] rfl rfl (by decide) (by decide) hk1 f_12 hP1 hD1
  generalize H1 = H at hP hS ⊢
  have hP : va_P (dC, dI) vwCl [(m0, .inr (6, [.ref st, .ref im, .ref kq, .ref pw, .ref nx, .ref li, .int (nI v_14), .ref il, .ref mv, .ref so, .ref la, .int i_15, .int p2, .ref co])), (st, .inl (cyI, 72, .inl fs)), (pw, .inl (cyI, 11, .inl fp)), (li, .inl (cyI, 59049, .inl g_16)), (il, .inl (cyZ, 59049, .inl g_17)), (mv, .inl (cyI, 59049, .inl g_18)), (so, .inl (cyI, 59049, .inl g_19)), (la, .inl (cyI, 59049, .inl g_20)), (co, .inl (cyI, 10, .inl g_21))] _ := hP
  have hD : va_D A [(m0, .inr (6, [.ref st, .ref im, .ref kq, .ref pw, .ref nx, .ref li, .int (nI v_14), .ref il, .ref mv, .ref so, .ref la, .int i_15, .int p2, .ref co])), (st, .inl (cyI, 72, .inl fs)), (pw, .inl (cyI, 11, .inl fp)), (li, .inl (cyI, 59049, .inl g_16)), (il, .inl (cyZ, 59049, .inl g_17)), (mv, .inl (cyI, 59049, .inl g_18)), (so, .inl (cyI, 59049, .inl g_19)), (la, .inl (cyI, 59049, .inl g_20)), (co, .inl (cyI, 10, .inl g_21))] := hD
  have hL := h_13
  exact W.vret hx hb hr (fun t ht hW => ⟨⟨(v_14, i_15, g_16, g_17, g_18, g_19, g_20, g_21), rfl, hL, ⟨by rw [ht]; exact hP.sub (ws' := [(m0, .inr (6, [.ref st, .ref im, .ref kq, .ref pw, .ref nx, .ref li, .int (nI v_14), .ref il, .ref mv, .ref so, .ref la, .int i_15, .int p2, .ref co])), (st, .inl (cyI, 72, .inl fs)), (pw, .inl (cyI, 11, .inl fp)), (li, .inl (cyI, 59049, .inl g_16)), (il, .inl (cyZ, 59049, .inl g_17)), (mv, .inl (cyI, 59049, .inl g_18)), (so, .inl (cyI, 59049, .inl g_19)), (la, .inl (cyI, 59049, .inl g_20)), (co, .inl (cyI, 10, .inl g_21))]) [0, 1, 2, 3, 4, 5, 6, 7, 8] rfl, hD.sub (ws' := [(m0, .inr (6, [.ref st, .ref im, .ref kq, .ref pw, .ref nx, .ref li, .int (nI v_14), .ref il, .ref mv, .ref so, .ref la, .int i_15, .int p2, .ref co])), (st, .inl (cyI, 72, .inl fs)), (pw, .inl (cyI, 11, .inl fp)), (li, .inl (cyI, 59049, .inl g_16)), (il, .inl (cyZ, 59049, .inl g_17)), (mv, .inl (cyI, 59049, .inl g_18)), (so, .inl (cyI, 59049, .inl g_19)), (la, .inl (cyI, 59049, .inl g_20)), (co, .inl (cyI, 10, .inl g_21))]) [0, 1, 2, 3, 4, 5, 6, 7, 8] (by decide) rfl⟩⟩, hS.F ht⟩) hS.2.2 dX8_layNow_18

theorem hnX8_meets_X8 : ∀ w ∈ wsX80, w ∈ wsX8_meets := fun _ h => List.mem_cons_of_mem _ (List.mem_append_right _ h)
set_option maxHeartbeats 4000000 in
set_option maxRecDepth 100000 in
theorem mX8_meets (l : Launch) (dC : Nat → ClassId) (dI : Nat → Nat → Nat) (cyI cyZ : ClassId) (m0 : Nat) (st : Nat) (im : Nat) (kq : Nat) (pw : Nat) (nx : Nat) (li : Nat) (il : Nat) (mv : Nat) (so : Nat) (la : Nat) (co : Nat) (d6 : Int32) (d11 : Int32) (d12 : Int32) (n : Nat) (fs : Nat → Int32) (fp : Nat → Int32) (wq : Nat → Nat) (zz : Nat) (lf : Nat → Int32) (ilf : Nat → Int32) (mf : Nat → Int32) (fso : Nat → Int32) (fla : Nat → Int32) (fc : Nat → Int32) (p1 : Int32) (p2 : Int32) (hn3 : 3 ≤ n) (hn : n ≤ 10) (h0f : fs 0 = nI n) (hwk : ∀ j, j < 10 → fs (1 + j) = nI (wq j)) (hws : mn_sum wq 10 ≤ 5) (hp : ∀ j, j ≤ 10 → fp j = nI (3 ^ j)) (hzf : fs 11 = nI zz) (hz10 : zz ≤ 10) (sz : Nat) : Met l yX8_meets wsX8_meets ({ frames := 11, cells := 0, slots := 0, locals := 267 }) (bs_W dC dI cyI cyZ [.ref m0, .int p1, .int p2] [(m0, .inr (6, [.ref st, .ref im, .ref kq, .ref pw, .ref nx, .ref li, .int d6, .ref il, .ref mv, .ref so, .ref la, .int d11, .int d12, .ref co])), (st, .inl (cyI, 72, .inl fs)), (pw, .inl (cyI, 11, .inl fp)), (li, .inl (cyI, 59049, .inl lf)), (il, .inl (cyZ, 59049, .inl ilf)), (mv, .inl (cyI, 59049, .inl mf)), (so, .inl (cyI, 59049, .inl fso)), (la, .inl (cyI, 59049, .inl fla)), (co, .inl (cyI, 10, .inl fc))] sz) (va_Qi (S := Int32 × Int32 × Int32 × (Nat → Int32) × (Nat → Int32) × (Nat → Int32) × (Nat → Int32) × (Nat → Int32) × (Nat → Int32)) (fun (r : Int32) (q : Int32 × Int32 × Int32 × (Nat → Int32) × (Nat → Int32) × (Nat → Int32) × (Nat → Int32) × (Nat → Int32) × (Nat → Int32)) => True) (fun q t => bs_E dC dI (va_A [(m0, .inr (6, [.ref st, .ref im, .ref kq, .ref pw, .ref nx, .ref li, .int d6, .ref il, .ref mv, .ref so, .ref la, .int d11, .int d12, .ref co])), (st, .inl (cyI, 72, .inl fs)), (pw, .inl (cyI, 11, .inl fp)), (li, .inl (cyI, 59049, .inl lf)), (il, .inl (cyZ, 59049, .inl ilf)), (mv, .inl (cyI, 59049, .inl mf)), (so, .inl (cyI, 59049, .inl fso)), (la, .inl (cyI, 59049, .inl fla)), (co, .inl (cyI, 10, .inl fc))] sz) [(m0, .inr (6, [.ref st, .ref im, .ref kq, .ref pw, .ref nx, .ref li, .int q.1, .ref il, .ref mv, .ref so, .ref la, .int q.2.1, .int q.2.2.1, .ref co])), (st, .inl (cyI, 72, .inl fs)), (pw, .inl (cyI, 11, .inl fp)), (li, .inl (cyI, 59049, .inl q.2.2.2.1)), (il, .inl (cyZ, 59049, .inl q.2.2.2.2.1)), (mv, .inl (cyI, 59049, .inl q.2.2.2.2.2.1)), (so, .inl (cyI, 59049, .inl q.2.2.2.2.2.2.1)), (la, .inl (cyI, 59049, .inl q.2.2.2.2.2.2.2.1)), (co, .inl (cyI, 10, .inl q.2.2.2.2.2.2.2.2))] t) (va_A [(m0, .inr (6, [.ref st, .ref im, .ref kq, .ref pw, .ref nx, .ref li, .int d6, .ref il, .ref mv, .ref so, .ref la, .int d11, .int d12, .ref co])), (st, .inl (cyI, 72, .inl fs)), (pw, .inl (cyI, 11, .inl fp)), (li, .inl (cyI, 59049, .inl lf)), (il, .inl (cyZ, 59049, .inl ilf)), (mv, .inl (cyI, 59049, .inl mf)), (so, .inl (cyI, 59049, .inl fso)), (la, .inl (cyI, 59049, .inl fla)), (co, .inl (cyI, 10, .inl fc))] sz)) 0 0 (va_A [(m0, .inr (6, [.ref st, .ref im, .ref kq, .ref pw, .ref nx, .ref li, .int d6, .ref il, .ref mv, .ref so, .ref la, .int d11, .int d12, .ref co])), (st, .inl (cyI, 72, .inl fs)), (pw, .inl (cyI, 11, .inl fp)), (li, .inl (cyI, 59049, .inl lf)), (il, .inl (cyZ, 59049, .inl ilf)), (mv, .inl (cyI, 59049, .inl mf)), (so, .inl (cyI, 59049, .inl fso)), (la, .inl (cyI, 59049, .inl fla)), (co, .inl (cyI, 10, .inl fc))] sz) := by
  refine Met.ofW (cc := cX8_meets) (maxL := 4) (ret := (some .int)) (by decide) rfl ?_
  intro p e s m args below meth c s₁ B hml hv
  obtain ⟨rfl, hsz, hB, hP, hD0⟩ := hv
  have hK := hB.1
  have hN := hB.2
  have hx := B.exec
  have hb := B.bytes
  have hr := B.returns
  have hts := atoms_spec (ws := wsX8_meets) B.pre
  have hown : s.vm.findClass RX8 = some m.cls := findClass_of_methodNamed B.named
  have hlocks := B.notSynchronized
  subst hsz
  have hD := hD0.self (sz := s.heap.size)
  generalize hAe : va_A [(m0, .inr (6, [.ref st, .ref im, .ref kq, .ref pw, .ref nx, .ref li, .int d6, .ref il, .ref mv, .ref so, .ref la, .int d11, .int d12, .ref co])), (st, .inl (cyI, 72, .inl fs)), (pw, .inl (cyI, 11, .inl fp)), (li, .inl (cyI, 59049, .inl lf)), (il, .inl (cyZ, 59049, .inl ilf)), (mv, .inl (cyI, 59049, .inl mf)), (so, .inl (cyI, 59049, .inl fso)), (la, .inl (cyI, 59049, .inl fla)), (co, .inl (cyI, 10, .inl fc))] s.heap.size = A at hD ⊢
  have hA : ∀ q : Nat, s.heap.size ≤ q → A q := fun q h => by rw [← hAe]; exact Or.inr h
  have hS : va_S A s.heap s.heap [] := va_S.rf
  have hP : va_P (dC, dI) vwCl [(m0, .inr (6, [.ref st, .ref im, .ref kq, .ref pw, .ref nx, .ref li, .int d6, .ref il, .ref mv, .ref so, .ref la, .int d11, .int d12, .ref co])), (st, .inl (cyI, 72, .inl fs)), (pw, .inl (cyI, 11, .inl fp)), (li, .inl (cyI, 59049, .inl lf)), (il, .inl (cyZ, 59049, .inl ilf)), (mv, .inl (cyI, 59049, .inl mf)), (so, .inl (cyI, 59049, .inl fso)), (la, .inl (cyI, 59049, .inl fla)), (co, .inl (cyI, 10, .inl fc))] s.heap := hP
  have hl := lv_entry ([.ref m0, .int p1, .int p2]) (n := 4) (Nat.le_of_ble_eq_true rfl)
  rw [lg_entry_eq]
  generalize (lg_sl ([.ref m0, .int p1, .int p2]) ++ List.replicate (4 - (lg_sl ([.ref m0, .int p1, .int p2])).length) Slot.unset).toArray = ls at hl ⊢
  have hl : lv_has ls 4 [(0, .ref m0), (1, .int p1), (2, .int p2)] := hl
  refine lv_iload_n hx hb dX8_meets_0 rfl (lv_at hl 1 rfl) ?_
  refine vp_callSi (va_Run.run (va_runS (As := [.int p1]) (rest := []) ⟨hx, hb, hml, hown, hts⟩ (mX8_isSchedule l dC dI cyI cyZ p1 ) (va_cwS 1 hts gX8_meets_X8_isSchedule rfl rfl rfl (by decide +kernel) ⟨Nat.le_of_ble_eq_true rfl, Nat.le_of_ble_eq_true rfl⟩) (bs_RS hB (hP.sub (ws' := []) [] rfl)) rfl rfl hl.1 rfl (lv_room (Nat.le_of_ble_eq_true rfl)) dX8_meets_1 ⟨Nat.le_of_ble_eq_true rfl, Nat.le_of_ble_eq_true rfl⟩)) (fun r_1 hr_1 => ?_)
  refine lv_if_eq (tgt := 16) hx hb dX8_meets_4 (by decide) (fun c_2 => ?_) (fun c_2 => ?_)
  · skip
    have ic_2 := ci_eq (rfl : Int32.toInt r_1 = _) (show Int32.toInt 0 = 0 by decide) c_2
    refine lv_bipush (v := (-2)) hx hb dX8_meets_16 (by decide) ?_
    exact W.iret (v := (-2)) hx hb hr (fun t ht hW => ⟨⟨(-2), (d6, d11, d12, lf, ilf, mf, fso, fla, fc), rfl, trivial, ⟨by rw [ht]; exact hP.sub (ws' := [(m0, .inr (6, [.ref st, .ref im, .ref kq, .ref pw, .ref nx, .ref li, .int d6, .ref il, .ref mv, .ref so, .ref la, .int d11, .int d12, .ref co])), (st, .inl (cyI, 72, .inl fs)), (pw, .inl (cyI, 11, .inl fp)), (li, .inl (cyI, 59049, .inl lf)), (il, .inl (cyZ, 59049, .inl ilf)), (mv, .inl (cyI, 59049, .inl mf)), (so, .inl (cyI, 59049, .inl fso)), (la, .inl (cyI, 59049, .inl fla)), (co, .inl (cyI, 10, .inl fc))]) [0, 1, 2, 3, 4, 5, 6, 7, 8] rfl, hD.sub (ws' := [(m0, .inr (6, [.ref st, .ref im, .ref kq, .ref pw, .ref nx, .ref li, .int d6, .ref il, .ref mv, .ref so, .ref la, .int d11, .int d12, .ref co])), (st, .inl (cyI, 72, .inl fs)), (pw, .inl (cyI, 11, .inl fp)), (li, .inl (cyI, 59049, .inl lf)), (il, .inl (cyZ, 59049, .inl ilf)), (mv, .inl (cyI, 59049, .inl mf)), (so, .inl (cyI, 59049, .inl fso)), (la, .inl (cyI, 59049, .inl fla)), (co, .inl (cyI, 10, .inl fc))]) [0, 1, 2, 3, 4, 5, 6, 7, 8] (by decide) rfl⟩⟩, hS.F ht⟩) hS.2.2 dX8_meets_18
  · skip
    have ic_2 := ci_ne (rfl : Int32.toInt r_1 = _) (show Int32.toInt 0 = 0 by decide) c_2
    refine lv_iload_n hx hb dX8_meets_7 rfl (lv_at hl 2 rfl) ?_
    refine lv_iconst (v := 0) hx hb dX8_meets_8 (by decide) ?_
    refine lv_iconst (v := 4) hx hb dX8_meets_9 (by decide) ?_
    refine vp_callSi (va_Run.run (va_runS (As := [.int p2, .int 0, .int 4]) (rest := []) ⟨hx, hb, hml, hown, hts⟩ (mX8_in l dC dI cyI cyZ p2 0 4 0 4 (by decide) (by decide)) (va_cwS 3 hts gX8_meets_X8_in rfl rfl rfl (by decide +kernel) ⟨Nat.le_of_ble_eq_true rfl, Nat.le_of_ble_eq_true rfl⟩) (bs_RS hB (hP.sub (ws' := []) [] rfl)) rfl rfl hl.1 rfl (lv_room (Nat.le_of_ble_eq_true rfl)) dX8_meets_10 ⟨Nat.le_of_ble_eq_true rfl, Nat.le_of_ble_eq_true rfl⟩)) (fun r_3 hr_3 => ?_)
    refine lv_if_ne (tgt := 19) hx hb dX8_meets_13 (by decide) (fun c_4 => ?_) (fun c_4 => ?_)
    · skip
      have ic_4 := ci_ne (rfl : Int32.toInt r_3 = _) (show Int32.toInt 0 = 0 by decide) c_4
      refine lv_aload_n hx hb dX8_meets_19 rfl (lv_at hl 0 rfl) ?_
      refine vp_callSi (va_Run.run (va_runV (As := []) (rest := []) ⟨hx, hb, hml, hown, hts⟩ (mX8_now l dC dI cyI cyZ m0 st im kq pw nx li il mv so la co d6 d11 d12 n fs wq fp hn3 hn h0f hwk hws hp) (cwV 0 hts gX8_meets_X8_now rfl rfl rfl (by decide +kernel) ⟨Nat.le_of_ble_eq_true rfl, Nat.le_of_ble_eq_true rfl⟩) (bs_RV hB (hP.sub (ws' := [(m0, .inr (6, [.ref st, .ref im, .ref kq, .ref pw, .ref nx, .ref li, .int d6, .ref il, .ref mv, .ref so, .ref la, .int d11, .int d12, .ref co])), (st, .inl (cyI, 72, .inl fs)), (pw, .inl (cyI, 11, .inl fp))]) [0, 1, 2] rfl) 0 rfl rfl) rfl rfl hl.1 rfl (lv_room (Nat.le_of_ble_eq_true rfl)) dX8_meets_20 ⟨Nat.le_of_ble_eq_true rfl, Nat.le_of_ble_eq_true rfl⟩)) (fun r_5 hr_5 => ?_)
      obtain rfl : (nI (mn_code wq n)) = r_5 := Eq.symm hr_5
      have hcw := mn_code_lt wq n
      have hc9 := mn_c9 hn hcw
      refine lv_istore_n (lv' := [(3, .int (nI (mn_code wq n))), (0, .ref m0), (1, .int p1), (2, .int p2)]) hx hb dX8_meets_23 rfl hl (by decide) rfl (fun ls hl => ?_)
      refine lv_iload_n hx hb dX8_meets_24 rfl (lv_at hl 0 rfl) ?_
      refine lv_if_ne (tgt := 31) hx hb dX8_meets_25 (by decide) (fun c_6 => ?_) (fun c_6 => ?_)
      · skip
        have ic_6 := ci_ne (nI_toInt (n := (mn_code wq n)) (by omega)) (show Int32.toInt 0 = 0 by decide) c_6
        refine lv_aload_n hx hb dX8_meets_31 rfl (lv_at hl 1 rfl) ?_
        refine lv_iload_n hx hb dX8_meets_32 rfl (lv_at hl 2 rfl) ?_
        refine lv_iconst (v := 0) hx hb dX8_meets_33 (by decide) ?_
        have f_7 := va_free (wc := [(m0, .inr (6, [.ref st, .ref im, .ref kq, .ref pw, .ref nx, .ref li, .int d6, .ref il, .ref mv, .ref so, .ref la, .int d11, .int d12, .ref co])), (st, .inl (cyI, 72, .inl fs)), (pw, .inl (cyI, 11, .inl fp)), (li, .inl (cyI, 59049, .inl lf)), (il, .inl (cyZ, 59049, .inl ilf)), (mv, .inl (cyI, 59049, .inl mf)), (so, .inl (cyI, 59049, .inl fso)), (la, .inl (cyI, 59049, .inl fla)), (co, .inl (cyI, 10, .inl fc))]) hD hS hA [0, 1, 2, 3, 4, 5, 6, 7, 8] rfl
        refine va_callv (va_runV (As := [.int p1, .int 0]) (rest := []) ⟨hx, hb, hml, hown, hts⟩ (mX8_layNow l dC dI cyI cyZ m0 st im kq pw nx li il mv so la co d6 d11 d12 n fs fp wq zz lf ilf mf fso fla fc p1 0 hn3 hn h0f hwk hws hp hzf hz10 (by decide) _) (cwV 2 hts gX8_meets_X8_layNow rfl rfl rfl (by decide +kernel) ⟨Nat.le_of_ble_eq_true rfl, Nat.le_of_ble_eq_true rfl⟩) (bs_WV hB (hP.sub (ws' := [(m0, .inr (6, [.ref st, .ref im, .ref kq, .ref pw, .ref nx, .ref li, .int d6, .ref il, .ref mv, .ref so, .ref la, .int d11, .int d12, .ref co])), (st, .inl (cyI, 72, .inl fs)), (pw, .inl (cyI, 11, .inl fp)), (li, .inl (cyI, 59049, .inl lf)), (il, .inl (cyZ, 59049, .inl ilf)), (mv, .inl (cyI, 59049, .inl mf)), (so, .inl (cyI, 59049, .inl fso)), (la, .inl (cyI, 59049, .inl fla)), (co, .inl (cyI, 10, .inl fc))]) [0, 1, 2, 3, 4, 5, 6, 7, 8] rfl) (hD.sub (ws' := [(m0, .inr (6, [.ref st, .ref im, .ref kq, .ref pw, .ref nx, .ref li, .int d6, .ref il, .ref mv, .ref so, .ref la, .int d11, .int d12, .ref co])), (st, .inl (cyI, 72, .inl fs)), (pw, .inl (cyI, 11, .inl fp)), (li, .inl (cyI, 59049, .inl lf)), (il, .inl (cyZ, 59049, .inl ilf)), (mv, .inl (cyI, 59049, .inl mf)), (so, .inl (cyI, 59049, .inl fso)), (la, .inl (cyI, 59049, .inl fla)), (co, .inl (cyI, 10, .inl fc))]) [0, 1, 2, 3, 4, 5, 6, 7, 8] (by decide) rfl) 0 rfl rfl) rfl rfl hl.1 rfl (lv_room (Nat.le_of_ble_eq_true rfl)) dX8_meets_34 ⟨Nat.le_of_ble_eq_true rfl, Nat.le_of_ble_eq_true rfl⟩) hS (fun q _ h => f_7 q h) f_7 (fun uh_8 t H1 locs ht hvm h_8 hB1 hz1 hk1 hS => ?_)
        obtain ⟨v_9, i_10, g_11, g_12, g_13, g_14, g_15, g_16⟩ := uh_8
        have h_8 : mn_L n v_9 g_11 g_12 := h_8
        obtain ⟨hP1, hD1⟩ := hB1
        rw [ht] at hP1
        obtain ⟨hP, hD⟩ := va_join (wr := []) (w1 := [(m0, .inr (6, [.ref st, .ref im, .ref kq, .ref pw, .ref nx, .ref li, .int (nI v_9), .ref il, .ref mv, .ref so, .ref la, .int i_10, .int 0, .ref co])), (st, .inl (cyI, 72, .inl fs)), (pw, .inl (cyI, 11, .inl fp)), (li, .inl (cyI, 59049, .inl g_11)), (il, .inl (cyZ, 59049, .inl g_12)), (mv, .inl (cyI, 59049, .inl g_13)), (so, .inl (cyI, 59049, .inl g_14)), (la, .inl (cyI, 59049, .inl g_15)), (co, .inl (cyI, 10, .inl g_16))]) hP hD [0, 1, 2, 3, 4, 5, 6, 7, 8] [] rfl rfl (by decide) (by decide) hk1 f_7 hP1 hD1
        generalize H1 = H at hP hS ⊢
        have hP : va_P (dC, dI) vwCl [(m0, .inr (6, [.ref st, .ref im, .ref kq, .ref pw, .ref nx, .ref li, .int (nI v_9), .ref il, .ref mv, .ref so, .ref la, .int i_10, .int 0, .ref co])), (st, .inl (cyI, 72, .inl fs)), (pw, .inl (cyI, 11, .inl fp)), (li, .inl (cyI, 59049, .inl g_11)), (il, .inl (cyZ, 59049, .inl g_12)), (mv, .inl (cyI, 59049, .inl g_13)), (so, .inl (cyI, 59049, .inl g_14)), (la, .inl (cyI, 59049, .inl g_15)), (co, .inl (cyI, 10, .inl g_16))] _ := hP
        have hD : va_D A [(m0, .inr (6, [.ref st, .ref im, .ref kq, .ref pw, .ref nx, .ref li, .int (nI v_9), .ref il, .ref mv, .ref so, .ref la, .int i_10, .int 0, .ref co])), (st, .inl (cyI, 72, .inl fs)), (pw, .inl (cyI, 11, .inl fp)), (li, .inl (cyI, 59049, .inl g_11)), (il, .inl (cyZ, 59049, .inl g_12)), (mv, .inl (cyI, 59049, .inl g_13)), (so, .inl (cyI, 59049, .inl g_14)), (la, .inl (cyI, 59049, .inl g_15)), (co, .inl (cyI, 10, .inl g_16))] := hD
        have hL := h_8
        refine lv_iload_n hx hb dX8_meets_37 rfl (lv_at hl 3 rfl) ?_
        rcases nb_sw p2 3 3 rfl with w_17 | ⟨w_17k, w_17l, w_17⟩
        · skip
          refine lv_tableOut (tgt := 93) hx hb dX8_meets_38 w_17 (by decide) ?_
          refine lv_aload_n hx hb dX8_meets_93 rfl (lv_at hl 1 rfl) ?_
          refine vp_callSi (va_Run.run (va_runV (As := []) (rest := []) ⟨hx, hb, hml, hown, hts⟩ (mX8_stuck l dC dI cyI cyZ m0 st im kq pw nx li il mv so la co v_9 i_10 0 n fs fp g_11 g_13 hn3 hn h0f hp hL.2 (mn_L_le hL)) (cwV 0 hts gX8_meets_X8_stuck rfl rfl rfl (by decide +kernel) ⟨Nat.le_of_ble_eq_true rfl, Nat.le_of_ble_eq_true rfl⟩) (bs_RV hB (hP.sub (ws' := [(m0, .inr (6, [.ref st, .ref im, .ref kq, .ref pw, .ref nx, .ref li, .int (nI v_9), .ref il, .ref mv, .ref so, .ref la, .int i_10, .int 0, .ref co])), (st, .inl (cyI, 72, .inl fs)), (pw, .inl (cyI, 11, .inl fp)), (li, .inl (cyI, 59049, .inl g_11)), (mv, .inl (cyI, 59049, .inl g_13))]) [0, 1, 2, 3, 5] rfl) 0 rfl rfl) rfl rfl hl.1 rfl (lv_room (Nat.le_of_ble_eq_true rfl)) dX8_meets_94 ⟨Nat.le_of_ble_eq_true rfl, Nat.le_of_ble_eq_true rfl⟩)) (fun r_18 hr_18 => ?_)
          exact W.iret (v := r_18) hx hb hr (fun t ht hW => ⟨⟨r_18, ((nI v_9), i_10, 0, g_11, g_12, g_13, g_14, g_15, g_16), rfl, trivial, ⟨by rw [ht]; exact hP.sub (ws' := [(m0, .inr (6, [.ref st, .ref im, .ref kq, .ref pw, .ref nx, .ref li, .int (nI v_9), .ref il, .ref mv, .ref so, .ref la, .int i_10, .int 0, .ref co])), (st, .inl (cyI, 72, .inl fs)), (pw, .inl (cyI, 11, .inl fp)), (li, .inl (cyI, 59049, .inl g_11)), (il, .inl (cyZ, 59049, .inl g_12)), (mv, .inl (cyI, 59049, .inl g_13)), (so, .inl (cyI, 59049, .inl g_14)), (la, .inl (cyI, 59049, .inl g_15)), (co, .inl (cyI, 10, .inl g_16))]) [0, 1, 2, 3, 4, 5, 6, 7, 8] rfl, hD.sub (ws' := [(m0, .inr (6, [.ref st, .ref im, .ref kq, .ref pw, .ref nx, .ref li, .int (nI v_9), .ref il, .ref mv, .ref so, .ref la, .int i_10, .int 0, .ref co])), (st, .inl (cyI, 72, .inl fs)), (pw, .inl (cyI, 11, .inl fp)), (li, .inl (cyI, 59049, .inl g_11)), (il, .inl (cyZ, 59049, .inl g_12)), (mv, .inl (cyI, 59049, .inl g_13)), (so, .inl (cyI, 59049, .inl g_14)), (la, .inl (cyI, 59049, .inl g_15)), (co, .inl (cyI, 10, .inl g_16))]) [0, 1, 2, 3, 4, 5, 6, 7, 8] (by decide) rfl⟩⟩, hS.F ht⟩) hS.2.2 dX8_meets_97
        · skip
          rcases (show w_17k = 0 ∨ w_17k = 1 ∨ w_17k = 2 ∨ w_17k = 3 by omega) with rfl | rfl | rfl | rfl
          · skip
            have ew_17 : p2 = 0 := w_17
            refine W.eq (g2 := F0 m 38 ls (.int 0 :: [])) (by rw [ew_17]) ?_
            refine lv_tableIn (off := 30) (tgt := 68) hx hb dX8_meets_38 (by decide) (by decide) (by decide) (by decide) ?_
            refine lv_aload_n hx hb dX8_meets_68 rfl (lv_at hl 1 rfl) ?_
            refine va_get (D := (dC, dI)) (ci := 6) (v := .ref so) (C := RX8) (T := TX8) (N := 14) hx hb hts hnX8_meets_X8 hown hK hP 0 rfl rfl 9 (by decide) (hts (.fieldLink RX8 36 "RingMeetsModel" "soon" "[I") (by decide +kernel)) (fun _ h9 => h9) rfl dX8_meets_69 ?_
            refine lv_iload_n hx hb dX8_meets_72 rfl (lv_at hl 0 rfl) ?_
            refine va_iald (D := (dC, dI)) hx hb hK hP 6 0 rfl rfl (vp_in_nI (n := (mn_code wq n)) (N := 59049) (by omega) (by omega)) dX8_meets_73 ?_
            refine lv_topi (fun x_19 ex_19 => ?_)
            rw [nI_clamp (n := (mn_code wq n)) (by omega)] at ex_19
            exact W.iret (v := x_19) hx hb hr (fun t ht hW => ⟨⟨x_19, ((nI v_9), i_10, 0, g_11, g_12, g_13, g_14, g_15, g_16), rfl, trivial, ⟨by rw [ht]; exact hP.sub (ws' := [(m0, .inr (6, [.ref st, .ref im, .ref kq, .ref pw, .ref nx, .ref li, .int (nI v_9), .ref il, .ref mv, .ref so, .ref la, .int i_10, .int 0, .ref co])), (st, .inl (cyI, 72, .inl fs)), (pw, .inl (cyI, 11, .inl fp)), (li, .inl (cyI, 59049, .inl g_11)), (il, .inl (cyZ, 59049, .inl g_12)), (mv, .inl (cyI, 59049, .inl g_13)), (so, .inl (cyI, 59049, .inl g_14)), (la, .inl (cyI, 59049, .inl g_15)), (co, .inl (cyI, 10, .inl g_16))]) [0, 1, 2, 3, 4, 5, 6, 7, 8] rfl, hD.sub (ws' := [(m0, .inr (6, [.ref st, .ref im, .ref kq, .ref pw, .ref nx, .ref li, .int (nI v_9), .ref il, .ref mv, .ref so, .ref la, .int i_10, .int 0, .ref co])), (st, .inl (cyI, 72, .inl fs)), (pw, .inl (cyI, 11, .inl fp)), (li, .inl (cyI, 59049, .inl g_11)), (il, .inl (cyZ, 59049, .inl g_12)), (mv, .inl (cyI, 59049, .inl g_13)), (so, .inl (cyI, 59049, .inl g_14)), (la, .inl (cyI, 59049, .inl g_15)), (co, .inl (cyI, 10, .inl g_16))]) [0, 1, 2, 3, 4, 5, 6, 7, 8] (by decide) rfl⟩⟩, hS.F ht⟩) hS.2.2 dX8_meets_74
          · skip
            have ew_17 : p2 = 1 := w_17
            refine W.eq (g2 := F0 m 38 ls (.int 1 :: [])) (by rw [ew_17]) ?_
            refine lv_tableIn (off := 37) (tgt := 75) hx hb dX8_meets_38 (by decide) (by decide) (by decide) (by decide) ?_
            refine lv_aload_n hx hb dX8_meets_75 rfl (lv_at hl 1 rfl) ?_
            refine va_get (D := (dC, dI)) (ci := 6) (v := .ref la) (C := RX8) (T := TX8) (N := 14) hx hb hts hnX8_meets_X8 hown hK hP 0 rfl rfl 10 (by decide) (hts (.fieldLink RX8 39 "RingMeetsModel" "late" "[I") (by decide +kernel)) (fun _ h9 => h9) rfl dX8_meets_76 ?_
            refine lv_iload_n hx hb dX8_meets_79 rfl (lv_at hl 0 rfl) ?_
            refine va_iald (D := (dC, dI)) hx hb hK hP 7 0 rfl rfl (vp_in_nI (n := (mn_code wq n)) (N := 59049) (by omega) (by omega)) dX8_meets_80 ?_
            refine lv_topi (fun x_20 ex_20 => ?_)
            rw [nI_clamp (n := (mn_code wq n)) (by omega)] at ex_20
            exact W.iret (v := x_20) hx hb hr (fun t ht hW => ⟨⟨x_20, ((nI v_9), i_10, 0, g_11, g_12, g_13, g_14, g_15, g_16), rfl, trivial, ⟨by rw [ht]; exact hP.sub (ws' := [(m0, .inr (6, [.ref st, .ref im, .ref kq, .ref pw, .ref nx, .ref li, .int (nI v_9), .ref il, .ref mv, .ref so, .ref la, .int i_10, .int 0, .ref co])), (st, .inl (cyI, 72, .inl fs)), (pw, .inl (cyI, 11, .inl fp)), (li, .inl (cyI, 59049, .inl g_11)), (il, .inl (cyZ, 59049, .inl g_12)), (mv, .inl (cyI, 59049, .inl g_13)), (so, .inl (cyI, 59049, .inl g_14)), (la, .inl (cyI, 59049, .inl g_15)), (co, .inl (cyI, 10, .inl g_16))]) [0, 1, 2, 3, 4, 5, 6, 7, 8] rfl, hD.sub (ws' := [(m0, .inr (6, [.ref st, .ref im, .ref kq, .ref pw, .ref nx, .ref li, .int (nI v_9), .ref il, .ref mv, .ref so, .ref la, .int i_10, .int 0, .ref co])), (st, .inl (cyI, 72, .inl fs)), (pw, .inl (cyI, 11, .inl fp)), (li, .inl (cyI, 59049, .inl g_11)), (il, .inl (cyZ, 59049, .inl g_12)), (mv, .inl (cyI, 59049, .inl g_13)), (so, .inl (cyI, 59049, .inl g_14)), (la, .inl (cyI, 59049, .inl g_15)), (co, .inl (cyI, 10, .inl g_16))]) [0, 1, 2, 3, 4, 5, 6, 7, 8] (by decide) rfl⟩⟩, hS.F ht⟩) hS.2.2 dX8_meets_81
          · skip
            have ew_17 : p2 = 2 := w_17
            refine W.eq (g2 := F0 m 38 ls (.int 2 :: [])) (by rw [ew_17]) ?_
            refine lv_tableIn (off := 44) (tgt := 82) hx hb dX8_meets_38 (by decide) (by decide) (by decide) (by decide) ?_
            refine lv_aload_n hx hb dX8_meets_82 rfl (lv_at hl 1 rfl) ?_
            refine lv_iload_n hx hb dX8_meets_83 rfl (lv_at hl 0 rfl) ?_
            refine vp_callSi (va_Run.run (va_runV (As := [.int (nI (mn_code wq n))]) (rest := []) ⟨hx, hb, hml, hown, hts⟩ (mX8_kindOf l dC dI cyI cyZ m0 st im kq pw nx li il mv so la co (nI v_9) i_10 0 n fs fp (mn_code wq n) g_14 g_15 hn3 hn h0f hp (by omega)) (cwV 1 hts gX8_meets_X8_kindOf rfl rfl rfl (by decide +kernel) ⟨Nat.le_of_ble_eq_true rfl, Nat.le_of_ble_eq_true rfl⟩) (bs_RV hB (hP.sub (ws' := [(m0, .inr (6, [.ref st, .ref im, .ref kq, .ref pw, .ref nx, .ref li, .int (nI v_9), .ref il, .ref mv, .ref so, .ref la, .int i_10, .int 0, .ref co])), (st, .inl (cyI, 72, .inl fs)), (pw, .inl (cyI, 11, .inl fp)), (so, .inl (cyI, 59049, .inl g_14)), (la, .inl (cyI, 59049, .inl g_15))]) [0, 1, 2, 6, 7] rfl) 0 rfl rfl) rfl rfl hl.1 rfl (lv_room (Nat.le_of_ble_eq_true rfl)) dX8_meets_84 ⟨Nat.le_of_ble_eq_true rfl, Nat.le_of_ble_eq_true rfl⟩)) (fun r_21 hr_21 => ?_)
            exact W.iret (v := r_21) hx hb hr (fun t ht hW => ⟨⟨r_21, ((nI v_9), i_10, 0, g_11, g_12, g_13, g_14, g_15, g_16), rfl, trivial, ⟨by rw [ht]; exact hP.sub (ws' := [(m0, .inr (6, [.ref st, .ref im, .ref kq, .ref pw, .ref nx, .ref li, .int (nI v_9), .ref il, .ref mv, .ref so, .ref la, .int i_10, .int 0, .ref co])), (st, .inl (cyI, 72, .inl fs)), (pw, .inl (cyI, 11, .inl fp)), (li, .inl (cyI, 59049, .inl g_11)), (il, .inl (cyZ, 59049, .inl g_12)), (mv, .inl (cyI, 59049, .inl g_13)), (so, .inl (cyI, 59049, .inl g_14)), (la, .inl (cyI, 59049, .inl g_15)), (co, .inl (cyI, 10, .inl g_16))]) [0, 1, 2, 3, 4, 5, 6, 7, 8] rfl, hD.sub (ws' := [(m0, .inr (6, [.ref st, .ref im, .ref kq, .ref pw, .ref nx, .ref li, .int (nI v_9), .ref il, .ref mv, .ref so, .ref la, .int i_10, .int 0, .ref co])), (st, .inl (cyI, 72, .inl fs)), (pw, .inl (cyI, 11, .inl fp)), (li, .inl (cyI, 59049, .inl g_11)), (il, .inl (cyZ, 59049, .inl g_12)), (mv, .inl (cyI, 59049, .inl g_13)), (so, .inl (cyI, 59049, .inl g_14)), (la, .inl (cyI, 59049, .inl g_15)), (co, .inl (cyI, 10, .inl g_16))]) [0, 1, 2, 3, 4, 5, 6, 7, 8] (by decide) rfl⟩⟩, hS.F ht⟩) hS.2.2 dX8_meets_87
          · skip
            have ew_17 : p2 = 3 := w_17
            refine W.eq (g2 := F0 m 38 ls (.int 3 :: [])) (by rw [ew_17]) ?_
            refine lv_tableIn (off := 50) (tgt := 88) hx hb dX8_meets_38 (by decide) (by decide) (by decide) (by decide) ?_
            refine lv_aload_n hx hb dX8_meets_88 rfl (lv_at hl 1 rfl) ?_
            refine va_get (D := (dC, dI)) (ci := 6) (v := .int (nI v_9)) (C := RX8) (T := TX8) (N := 14) hx hb hts hnX8_meets_X8 hown hK hP 0 rfl rfl 6 (by decide) (hts (.fieldLink RX8 128 "RingMeetsModel" "listed" "I") (by decide +kernel)) (fun _ h9 => h9) rfl dX8_meets_89 ?_
            exact W.iret (v := (nI v_9)) hx hb hr (fun t ht hW => ⟨⟨(nI v_9), ((nI v_9), i_10, 0, g_11, g_12, g_13, g_14, g_15, g_16), rfl, trivial, ⟨by rw [ht]; exact hP.sub (ws' := [(m0, .inr (6, [.ref st, .ref im, .ref kq, .ref pw, .ref nx, .ref li, .int (nI v_9), .ref il, .ref mv, .ref so, .ref la, .int i_10, .int 0, .ref co])), (st, .inl (cyI, 72, .inl fs)), (pw, .inl (cyI, 11, .inl fp)), (li, .inl (cyI, 59049, .inl g_11)), (il, .inl (cyZ, 59049, .inl g_12)), (mv, .inl (cyI, 59049, .inl g_13)), (so, .inl (cyI, 59049, .inl g_14)), (la, .inl (cyI, 59049, .inl g_15)), (co, .inl (cyI, 10, .inl g_16))]) [0, 1, 2, 3, 4, 5, 6, 7, 8] rfl, hD.sub (ws' := [(m0, .inr (6, [.ref st, .ref im, .ref kq, .ref pw, .ref nx, .ref li, .int (nI v_9), .ref il, .ref mv, .ref so, .ref la, .int i_10, .int 0, .ref co])), (st, .inl (cyI, 72, .inl fs)), (pw, .inl (cyI, 11, .inl fp)), (li, .inl (cyI, 59049, .inl g_11)), (il, .inl (cyZ, 59049, .inl g_12)), (mv, .inl (cyI, 59049, .inl g_13)), (so, .inl (cyI, 59049, .inl g_14)), (la, .inl (cyI, 59049, .inl g_15)), (co, .inl (cyI, 10, .inl g_16))]) [0, 1, 2, 3, 4, 5, 6, 7, 8] (by decide) rfl⟩⟩, hS.F ht⟩) hS.2.2 dX8_meets_92
      · skip
        have ic_6 := ci_eq (nI_toInt (n := (mn_code wq n)) (by omega)) (show Int32.toInt 0 = 0 by decide) c_6
        refine lv_bipush (v := (-3)) hx hb dX8_meets_28 (by decide) ?_
        exact W.iret (v := (-3)) hx hb hr (fun t ht hW => ⟨⟨(-3), (d6, d11, d12, lf, ilf, mf, fso, fla, fc), rfl, trivial, ⟨by rw [ht]; exact hP.sub (ws' := [(m0, .inr (6, [.ref st, .ref im, .ref kq, .ref pw, .ref nx, .ref li, .int d6, .ref il, .ref mv, .ref so, .ref la, .int d11, .int d12, .ref co])), (st, .inl (cyI, 72, .inl fs)), (pw, .inl (cyI, 11, .inl fp)), (li, .inl (cyI, 59049, .inl lf)), (il, .inl (cyZ, 59049, .inl ilf)), (mv, .inl (cyI, 59049, .inl mf)), (so, .inl (cyI, 59049, .inl fso)), (la, .inl (cyI, 59049, .inl fla)), (co, .inl (cyI, 10, .inl fc))]) [0, 1, 2, 3, 4, 5, 6, 7, 8] rfl, hD.sub (ws' := [(m0, .inr (6, [.ref st, .ref im, .ref kq, .ref pw, .ref nx, .ref li, .int d6, .ref il, .ref mv, .ref so, .ref la, .int d11, .int d12, .ref co])), (st, .inl (cyI, 72, .inl fs)), (pw, .inl (cyI, 11, .inl fp)), (li, .inl (cyI, 59049, .inl lf)), (il, .inl (cyZ, 59049, .inl ilf)), (mv, .inl (cyI, 59049, .inl mf)), (so, .inl (cyI, 59049, .inl fso)), (la, .inl (cyI, 59049, .inl fla)), (co, .inl (cyI, 10, .inl fc))]) [0, 1, 2, 3, 4, 5, 6, 7, 8] (by decide) rfl⟩⟩, hS.F ht⟩) hS.2.2 dX8_meets_30
    · skip
      have ic_4 := ci_eq (rfl : Int32.toInt r_3 = _) (show Int32.toInt 0 = 0 by decide) c_4
      refine lv_bipush (v := (-2)) hx hb dX8_meets_16 (by decide) ?_
      exact W.iret (v := (-2)) hx hb hr (fun t ht hW => ⟨⟨(-2), (d6, d11, d12, lf, ilf, mf, fso, fla, fc), rfl, trivial, ⟨by rw [ht]; exact hP.sub (ws' := [(m0, .inr (6, [.ref st, .ref im, .ref kq, .ref pw, .ref nx, .ref li, .int d6, .ref il, .ref mv, .ref so, .ref la, .int d11, .int d12, .ref co])), (st, .inl (cyI, 72, .inl fs)), (pw, .inl (cyI, 11, .inl fp)), (li, .inl (cyI, 59049, .inl lf)), (il, .inl (cyZ, 59049, .inl ilf)), (mv, .inl (cyI, 59049, .inl mf)), (so, .inl (cyI, 59049, .inl fso)), (la, .inl (cyI, 59049, .inl fla)), (co, .inl (cyI, 10, .inl fc))]) [0, 1, 2, 3, 4, 5, 6, 7, 8] rfl, hD.sub (ws' := [(m0, .inr (6, [.ref st, .ref im, .ref kq, .ref pw, .ref nx, .ref li, .int d6, .ref il, .ref mv, .ref so, .ref la, .int d11, .int d12, .ref co])), (st, .inl (cyI, 72, .inl fs)), (pw, .inl (cyI, 11, .inl fp)), (li, .inl (cyI, 59049, .inl lf)), (il, .inl (cyZ, 59049, .inl ilf)), (mv, .inl (cyI, 59049, .inl mf)), (so, .inl (cyI, 59049, .inl fso)), (la, .inl (cyI, 59049, .inl fla)), (co, .inl (cyI, 10, .inl fc))]) [0, 1, 2, 3, 4, 5, 6, 7, 8] (by decide) rfl⟩⟩, hS.F ht⟩) hS.2.2 dX8_meets_18

set_option maxHeartbeats 4000000 in
set_option maxRecDepth 100000 in
theorem mX8_blind (l : Launch) (dC : Nat → ClassId) (dI : Nat → Nat → Nat) (cyI cyZ : ClassId) (m0 : Nat) (st : Nat) (im : Nat) (kq : Nat) (pw : Nat) (nx : Nat) (li : Nat) (il : Nat) (mv : Nat) (so : Nat) (la : Nat) (co : Nat) (d6 : Int32) (d11 : Int32) (d12 : Int32) (n : Nat) (fs : Nat → Int32) (fp : Nat → Int32) (wq : Nat → Nat) (zz : Nat) (lf : Nat → Int32) (ilf : Nat → Int32) (mf : Nat → Int32) (fso : Nat → Int32) (fla : Nat → Int32) (fc : Nat → Int32) (p1 : Int32) (hn3 : 3 ≤ n) (hn : n ≤ 10) (h0f : fs 0 = nI n) (hwk : ∀ j, j < 10 → fs (1 + j) = nI (wq j)) (hws : mn_sum wq 10 ≤ 5) (hp : ∀ j, j ≤ 10 → fp j = nI (3 ^ j)) (hzf : fs 11 = nI zz) (hz10 : zz ≤ 10) (sz : Nat) : Met l yX8_blind wsX8_blind ({ frames := 11, cells := 0, slots := 0, locals := 267 }) (bs_W dC dI cyI cyZ [.ref m0, .int p1] [(m0, .inr (6, [.ref st, .ref im, .ref kq, .ref pw, .ref nx, .ref li, .int d6, .ref il, .ref mv, .ref so, .ref la, .int d11, .int d12, .ref co])), (st, .inl (cyI, 72, .inl fs)), (pw, .inl (cyI, 11, .inl fp)), (li, .inl (cyI, 59049, .inl lf)), (il, .inl (cyZ, 59049, .inl ilf)), (mv, .inl (cyI, 59049, .inl mf)), (so, .inl (cyI, 59049, .inl fso)), (la, .inl (cyI, 59049, .inl fla)), (co, .inl (cyI, 10, .inl fc))] sz) (va_Qi (S := Int32 × Int32 × Int32 × (Nat → Int32) × (Nat → Int32) × (Nat → Int32) × (Nat → Int32) × (Nat → Int32) × (Nat → Int32)) (fun (r : Int32) (q : Int32 × Int32 × Int32 × (Nat → Int32) × (Nat → Int32) × (Nat → Int32) × (Nat → Int32) × (Nat → Int32) × (Nat → Int32)) => True) (fun q t => bs_E dC dI (va_A [(m0, .inr (6, [.ref st, .ref im, .ref kq, .ref pw, .ref nx, .ref li, .int d6, .ref il, .ref mv, .ref so, .ref la, .int d11, .int d12, .ref co])), (st, .inl (cyI, 72, .inl fs)), (pw, .inl (cyI, 11, .inl fp)), (li, .inl (cyI, 59049, .inl lf)), (il, .inl (cyZ, 59049, .inl ilf)), (mv, .inl (cyI, 59049, .inl mf)), (so, .inl (cyI, 59049, .inl fso)), (la, .inl (cyI, 59049, .inl fla)), (co, .inl (cyI, 10, .inl fc))] sz) [(m0, .inr (6, [.ref st, .ref im, .ref kq, .ref pw, .ref nx, .ref li, .int q.1, .ref il, .ref mv, .ref so, .ref la, .int q.2.1, .int q.2.2.1, .ref co])), (st, .inl (cyI, 72, .inl fs)), (pw, .inl (cyI, 11, .inl fp)), (li, .inl (cyI, 59049, .inl q.2.2.2.1)), (il, .inl (cyZ, 59049, .inl q.2.2.2.2.1)), (mv, .inl (cyI, 59049, .inl q.2.2.2.2.2.1)), (so, .inl (cyI, 59049, .inl q.2.2.2.2.2.2.1)), (la, .inl (cyI, 59049, .inl q.2.2.2.2.2.2.2.1)), (co, .inl (cyI, 10, .inl q.2.2.2.2.2.2.2.2))] t) (va_A [(m0, .inr (6, [.ref st, .ref im, .ref kq, .ref pw, .ref nx, .ref li, .int d6, .ref il, .ref mv, .ref so, .ref la, .int d11, .int d12, .ref co])), (st, .inl (cyI, 72, .inl fs)), (pw, .inl (cyI, 11, .inl fp)), (li, .inl (cyI, 59049, .inl lf)), (il, .inl (cyZ, 59049, .inl ilf)), (mv, .inl (cyI, 59049, .inl mf)), (so, .inl (cyI, 59049, .inl fso)), (la, .inl (cyI, 59049, .inl fla)), (co, .inl (cyI, 10, .inl fc))] sz)) 0 0 (va_A [(m0, .inr (6, [.ref st, .ref im, .ref kq, .ref pw, .ref nx, .ref li, .int d6, .ref il, .ref mv, .ref so, .ref la, .int d11, .int d12, .ref co])), (st, .inl (cyI, 72, .inl fs)), (pw, .inl (cyI, 11, .inl fp)), (li, .inl (cyI, 59049, .inl lf)), (il, .inl (cyZ, 59049, .inl ilf)), (mv, .inl (cyI, 59049, .inl mf)), (so, .inl (cyI, 59049, .inl fso)), (la, .inl (cyI, 59049, .inl fla)), (co, .inl (cyI, 10, .inl fc))] sz) := by
  refine Met.ofW (cc := cX8_blind) (maxL := 3) (ret := (some .int)) (by decide) rfl ?_
  intro p e s m args below meth c s₁ B hml hv
  obtain ⟨rfl, hsz, hB, hP, hD0⟩ := hv
  have hK := hB.1
  have hN := hB.2
  have hx := B.exec
  have hb := B.bytes
  have hr := B.returns
  have hts := atoms_spec (ws := wsX8_blind) B.pre
  have hown : s.vm.findClass RX8 = some m.cls := findClass_of_methodNamed B.named
  have hlocks := B.notSynchronized
  subst hsz
  have hD := hD0.self (sz := s.heap.size)
  generalize hAe : va_A [(m0, .inr (6, [.ref st, .ref im, .ref kq, .ref pw, .ref nx, .ref li, .int d6, .ref il, .ref mv, .ref so, .ref la, .int d11, .int d12, .ref co])), (st, .inl (cyI, 72, .inl fs)), (pw, .inl (cyI, 11, .inl fp)), (li, .inl (cyI, 59049, .inl lf)), (il, .inl (cyZ, 59049, .inl ilf)), (mv, .inl (cyI, 59049, .inl mf)), (so, .inl (cyI, 59049, .inl fso)), (la, .inl (cyI, 59049, .inl fla)), (co, .inl (cyI, 10, .inl fc))] s.heap.size = A at hD ⊢
  have hA : ∀ q : Nat, s.heap.size ≤ q → A q := fun q h => by rw [← hAe]; exact Or.inr h
  have hS : va_S A s.heap s.heap [] := va_S.rf
  have hP : va_P (dC, dI) vwCl [(m0, .inr (6, [.ref st, .ref im, .ref kq, .ref pw, .ref nx, .ref li, .int d6, .ref il, .ref mv, .ref so, .ref la, .int d11, .int d12, .ref co])), (st, .inl (cyI, 72, .inl fs)), (pw, .inl (cyI, 11, .inl fp)), (li, .inl (cyI, 59049, .inl lf)), (il, .inl (cyZ, 59049, .inl ilf)), (mv, .inl (cyI, 59049, .inl mf)), (so, .inl (cyI, 59049, .inl fso)), (la, .inl (cyI, 59049, .inl fla)), (co, .inl (cyI, 10, .inl fc))] s.heap := hP
  have hl := lv_entry ([.ref m0, .int p1]) (n := 3) (Nat.le_of_ble_eq_true rfl)
  rw [lg_entry_eq]
  generalize (lg_sl ([.ref m0, .int p1]) ++ List.replicate (3 - (lg_sl ([.ref m0, .int p1])).length) Slot.unset).toArray = ls at hl ⊢
  have hl : lv_has ls 3 [(0, .ref m0), (1, .int p1)] := hl
  refine lv_iload_n hx hb dX8_blind_0 rfl (lv_at hl 1 rfl) ?_
  refine vp_callSi (va_Run.run (va_runS (As := [.int p1]) (rest := []) ⟨hx, hb, hml, hown, hts⟩ (mX8_isSchedule l dC dI cyI cyZ p1 ) (va_cwS 1 hts gX8_blind_X8_isSchedule rfl rfl rfl (by decide +kernel) ⟨Nat.le_of_ble_eq_true rfl, Nat.le_of_ble_eq_true rfl⟩) (bs_RS hB (hP.sub (ws' := []) [] rfl)) rfl rfl hl.1 rfl (lv_room (Nat.le_of_ble_eq_true rfl)) dX8_blind_1 ⟨Nat.le_of_ble_eq_true rfl, Nat.le_of_ble_eq_true rfl⟩)) (fun r_1 hr_1 => ?_)
  refine lv_if_ne (tgt := 10) hx hb dX8_blind_4 (by decide) (fun c_2 => ?_) (fun c_2 => ?_)
  · skip
    have ic_2 := ci_ne (rfl : Int32.toInt r_1 = _) (show Int32.toInt 0 = 0 by decide) c_2
    refine lv_aload_n hx hb dX8_blind_10 rfl (lv_at hl 0 rfl) ?_
    refine vp_callSi (va_Run.run (va_runV (As := []) (rest := []) ⟨hx, hb, hml, hown, hts⟩ (mX8_now l dC dI cyI cyZ m0 st im kq pw nx li il mv so la co d6 d11 d12 n fs wq fp hn3 hn h0f hwk hws hp) (cwV 0 hts gX8_blind_X8_now rfl rfl rfl (by decide +kernel) ⟨Nat.le_of_ble_eq_true rfl, Nat.le_of_ble_eq_true rfl⟩) (bs_RV hB (hP.sub (ws' := [(m0, .inr (6, [.ref st, .ref im, .ref kq, .ref pw, .ref nx, .ref li, .int d6, .ref il, .ref mv, .ref so, .ref la, .int d11, .int d12, .ref co])), (st, .inl (cyI, 72, .inl fs)), (pw, .inl (cyI, 11, .inl fp))]) [0, 1, 2] rfl) 0 rfl rfl) rfl rfl hl.1 rfl (lv_room (Nat.le_of_ble_eq_true rfl)) dX8_blind_11 ⟨Nat.le_of_ble_eq_true rfl, Nat.le_of_ble_eq_true rfl⟩)) (fun r_3 hr_3 => ?_)
    obtain rfl : (nI (mn_code wq n)) = r_3 := Eq.symm hr_3
    have hcw := mn_code_lt wq n
    have hc9 := mn_c9 hn hcw
    refine lv_istore_n (lv' := [(2, .int (nI (mn_code wq n))), (0, .ref m0), (1, .int p1)]) hx hb dX8_blind_14 rfl hl (by decide) rfl (fun ls hl => ?_)
    refine lv_iload_n hx hb dX8_blind_15 rfl (lv_at hl 0 rfl) ?_
    refine lv_if_ne (tgt := 22) hx hb dX8_blind_16 (by decide) (fun c_4 => ?_) (fun c_4 => ?_)
    · skip
      have ic_4 := ci_ne (nI_toInt (n := (mn_code wq n)) (by omega)) (show Int32.toInt 0 = 0 by decide) c_4
      refine lv_aload_n hx hb dX8_blind_22 rfl (lv_at hl 1 rfl) ?_
      refine lv_iload_n hx hb dX8_blind_23 rfl (lv_at hl 2 rfl) ?_
      refine lv_iconst (v := 1) hx hb dX8_blind_24 (by decide) ?_
      have f_5 := va_free (wc := [(m0, .inr (6, [.ref st, .ref im, .ref kq, .ref pw, .ref nx, .ref li, .int d6, .ref il, .ref mv, .ref so, .ref la, .int d11, .int d12, .ref co])), (st, .inl (cyI, 72, .inl fs)), (pw, .inl (cyI, 11, .inl fp)), (li, .inl (cyI, 59049, .inl lf)), (il, .inl (cyZ, 59049, .inl ilf)), (mv, .inl (cyI, 59049, .inl mf)), (so, .inl (cyI, 59049, .inl fso)), (la, .inl (cyI, 59049, .inl fla)), (co, .inl (cyI, 10, .inl fc))]) hD hS hA [0, 1, 2, 3, 4, 5, 6, 7, 8] rfl
      refine va_callv (va_runV (As := [.int p1, .int 1]) (rest := []) ⟨hx, hb, hml, hown, hts⟩ (mX8_layNow l dC dI cyI cyZ m0 st im kq pw nx li il mv so la co d6 d11 d12 n fs fp wq zz lf ilf mf fso fla fc p1 1 hn3 hn h0f hwk hws hp hzf hz10 (by decide) _) (cwV 2 hts gX8_blind_X8_layNow rfl rfl rfl (by decide +kernel) ⟨Nat.le_of_ble_eq_true rfl, Nat.le_of_ble_eq_true rfl⟩) (bs_WV hB (hP.sub (ws' := [(m0, .inr (6, [.ref st, .ref im, .ref kq, .ref pw, .ref nx, .ref li, .int d6, .ref il, .ref mv, .ref so, .ref la, .int d11, .int d12, .ref co])), (st, .inl (cyI, 72, .inl fs)), (pw, .inl (cyI, 11, .inl fp)), (li, .inl (cyI, 59049, .inl lf)), (il, .inl (cyZ, 59049, .inl ilf)), (mv, .inl (cyI, 59049, .inl mf)), (so, .inl (cyI, 59049, .inl fso)), (la, .inl (cyI, 59049, .inl fla)), (co, .inl (cyI, 10, .inl fc))]) [0, 1, 2, 3, 4, 5, 6, 7, 8] rfl) (hD.sub (ws' := [(m0, .inr (6, [.ref st, .ref im, .ref kq, .ref pw, .ref nx, .ref li, .int d6, .ref il, .ref mv, .ref so, .ref la, .int d11, .int d12, .ref co])), (st, .inl (cyI, 72, .inl fs)), (pw, .inl (cyI, 11, .inl fp)), (li, .inl (cyI, 59049, .inl lf)), (il, .inl (cyZ, 59049, .inl ilf)), (mv, .inl (cyI, 59049, .inl mf)), (so, .inl (cyI, 59049, .inl fso)), (la, .inl (cyI, 59049, .inl fla)), (co, .inl (cyI, 10, .inl fc))]) [0, 1, 2, 3, 4, 5, 6, 7, 8] (by decide) rfl) 0 rfl rfl) rfl rfl hl.1 rfl (lv_room (Nat.le_of_ble_eq_true rfl)) dX8_blind_25 ⟨Nat.le_of_ble_eq_true rfl, Nat.le_of_ble_eq_true rfl⟩) hS (fun q _ h => f_5 q h) f_5 (fun uh_6 t H1 locs ht hvm h_6 hB1 hz1 hk1 hS => ?_)
      obtain ⟨v_7, i_8, g_9, g_10, g_11, g_12, g_13, g_14⟩ := uh_6
      have h_6 : mn_L n v_7 g_9 g_10 := h_6
      obtain ⟨hP1, hD1⟩ := hB1
      rw [ht] at hP1
      obtain ⟨hP, hD⟩ := va_join (wr := []) (w1 := [(m0, .inr (6, [.ref st, .ref im, .ref kq, .ref pw, .ref nx, .ref li, .int (nI v_7), .ref il, .ref mv, .ref so, .ref la, .int i_8, .int 1, .ref co])), (st, .inl (cyI, 72, .inl fs)), (pw, .inl (cyI, 11, .inl fp)), (li, .inl (cyI, 59049, .inl g_9)), (il, .inl (cyZ, 59049, .inl g_10)), (mv, .inl (cyI, 59049, .inl g_11)), (so, .inl (cyI, 59049, .inl g_12)), (la, .inl (cyI, 59049, .inl g_13)), (co, .inl (cyI, 10, .inl g_14))]) hP hD [0, 1, 2, 3, 4, 5, 6, 7, 8] [] rfl rfl (by decide) (by decide) hk1 f_5 hP1 hD1
      generalize H1 = H at hP hS ⊢
      have hP : va_P (dC, dI) vwCl [(m0, .inr (6, [.ref st, .ref im, .ref kq, .ref pw, .ref nx, .ref li, .int (nI v_7), .ref il, .ref mv, .ref so, .ref la, .int i_8, .int 1, .ref co])), (st, .inl (cyI, 72, .inl fs)), (pw, .inl (cyI, 11, .inl fp)), (li, .inl (cyI, 59049, .inl g_9)), (il, .inl (cyZ, 59049, .inl g_10)), (mv, .inl (cyI, 59049, .inl g_11)), (so, .inl (cyI, 59049, .inl g_12)), (la, .inl (cyI, 59049, .inl g_13)), (co, .inl (cyI, 10, .inl g_14))] _ := hP
      have hD : va_D A [(m0, .inr (6, [.ref st, .ref im, .ref kq, .ref pw, .ref nx, .ref li, .int (nI v_7), .ref il, .ref mv, .ref so, .ref la, .int i_8, .int 1, .ref co])), (st, .inl (cyI, 72, .inl fs)), (pw, .inl (cyI, 11, .inl fp)), (li, .inl (cyI, 59049, .inl g_9)), (il, .inl (cyZ, 59049, .inl g_10)), (mv, .inl (cyI, 59049, .inl g_11)), (so, .inl (cyI, 59049, .inl g_12)), (la, .inl (cyI, 59049, .inl g_13)), (co, .inl (cyI, 10, .inl g_14))] := hD
      have hL := h_6
      refine lv_aload_n hx hb dX8_blind_28 rfl (lv_at hl 1 rfl) ?_
      refine lv_iload_n hx hb dX8_blind_29 rfl (lv_at hl 0 rfl) ?_
      refine vp_callSi (va_Run.run (va_runV (As := [.int (nI (mn_code wq n))]) (rest := []) ⟨hx, hb, hml, hown, hts⟩ (mX8_kindOf l dC dI cyI cyZ m0 st im kq pw nx li il mv so la co (nI v_7) i_8 1 n fs fp (mn_code wq n) g_12 g_13 hn3 hn h0f hp (by omega)) (cwV 1 hts gX8_blind_X8_kindOf rfl rfl rfl (by decide +kernel) ⟨Nat.le_of_ble_eq_true rfl, Nat.le_of_ble_eq_true rfl⟩) (bs_RV hB (hP.sub (ws' := [(m0, .inr (6, [.ref st, .ref im, .ref kq, .ref pw, .ref nx, .ref li, .int (nI v_7), .ref il, .ref mv, .ref so, .ref la, .int i_8, .int 1, .ref co])), (st, .inl (cyI, 72, .inl fs)), (pw, .inl (cyI, 11, .inl fp)), (so, .inl (cyI, 59049, .inl g_12)), (la, .inl (cyI, 59049, .inl g_13))]) [0, 1, 2, 6, 7] rfl) 0 rfl rfl) rfl rfl hl.1 rfl (lv_room (Nat.le_of_ble_eq_true rfl)) dX8_blind_30 ⟨Nat.le_of_ble_eq_true rfl, Nat.le_of_ble_eq_true rfl⟩)) (fun r_15 hr_15 => ?_)
      exact W.iret (v := r_15) hx hb hr (fun t ht hW => ⟨⟨r_15, ((nI v_7), i_8, 1, g_9, g_10, g_11, g_12, g_13, g_14), rfl, trivial, ⟨by rw [ht]; exact hP.sub (ws' := [(m0, .inr (6, [.ref st, .ref im, .ref kq, .ref pw, .ref nx, .ref li, .int (nI v_7), .ref il, .ref mv, .ref so, .ref la, .int i_8, .int 1, .ref co])), (st, .inl (cyI, 72, .inl fs)), (pw, .inl (cyI, 11, .inl fp)), (li, .inl (cyI, 59049, .inl g_9)), (il, .inl (cyZ, 59049, .inl g_10)), (mv, .inl (cyI, 59049, .inl g_11)), (so, .inl (cyI, 59049, .inl g_12)), (la, .inl (cyI, 59049, .inl g_13)), (co, .inl (cyI, 10, .inl g_14))]) [0, 1, 2, 3, 4, 5, 6, 7, 8] rfl, hD.sub (ws' := [(m0, .inr (6, [.ref st, .ref im, .ref kq, .ref pw, .ref nx, .ref li, .int (nI v_7), .ref il, .ref mv, .ref so, .ref la, .int i_8, .int 1, .ref co])), (st, .inl (cyI, 72, .inl fs)), (pw, .inl (cyI, 11, .inl fp)), (li, .inl (cyI, 59049, .inl g_9)), (il, .inl (cyZ, 59049, .inl g_10)), (mv, .inl (cyI, 59049, .inl g_11)), (so, .inl (cyI, 59049, .inl g_12)), (la, .inl (cyI, 59049, .inl g_13)), (co, .inl (cyI, 10, .inl g_14))]) [0, 1, 2, 3, 4, 5, 6, 7, 8] (by decide) rfl⟩⟩, hS.F ht⟩) hS.2.2 dX8_blind_33
    · skip
      have ic_4 := ci_eq (nI_toInt (n := (mn_code wq n)) (by omega)) (show Int32.toInt 0 = 0 by decide) c_4
      refine lv_bipush (v := (-3)) hx hb dX8_blind_19 (by decide) ?_
      exact W.iret (v := (-3)) hx hb hr (fun t ht hW => ⟨⟨(-3), (d6, d11, d12, lf, ilf, mf, fso, fla, fc), rfl, trivial, ⟨by rw [ht]; exact hP.sub (ws' := [(m0, .inr (6, [.ref st, .ref im, .ref kq, .ref pw, .ref nx, .ref li, .int d6, .ref il, .ref mv, .ref so, .ref la, .int d11, .int d12, .ref co])), (st, .inl (cyI, 72, .inl fs)), (pw, .inl (cyI, 11, .inl fp)), (li, .inl (cyI, 59049, .inl lf)), (il, .inl (cyZ, 59049, .inl ilf)), (mv, .inl (cyI, 59049, .inl mf)), (so, .inl (cyI, 59049, .inl fso)), (la, .inl (cyI, 59049, .inl fla)), (co, .inl (cyI, 10, .inl fc))]) [0, 1, 2, 3, 4, 5, 6, 7, 8] rfl, hD.sub (ws' := [(m0, .inr (6, [.ref st, .ref im, .ref kq, .ref pw, .ref nx, .ref li, .int d6, .ref il, .ref mv, .ref so, .ref la, .int d11, .int d12, .ref co])), (st, .inl (cyI, 72, .inl fs)), (pw, .inl (cyI, 11, .inl fp)), (li, .inl (cyI, 59049, .inl lf)), (il, .inl (cyZ, 59049, .inl ilf)), (mv, .inl (cyI, 59049, .inl mf)), (so, .inl (cyI, 59049, .inl fso)), (la, .inl (cyI, 59049, .inl fla)), (co, .inl (cyI, 10, .inl fc))]) [0, 1, 2, 3, 4, 5, 6, 7, 8] (by decide) rfl⟩⟩, hS.F ht⟩) hS.2.2 dX8_blind_21
  · skip
    have ic_2 := ci_eq (rfl : Int32.toInt r_1 = _) (show Int32.toInt 0 = 0 by decide) c_2
    refine lv_bipush (v := (-2)) hx hb dX8_blind_7 (by decide) ?_
    exact W.iret (v := (-2)) hx hb hr (fun t ht hW => ⟨⟨(-2), (d6, d11, d12, lf, ilf, mf, fso, fla, fc), rfl, trivial, ⟨by rw [ht]; exact hP.sub (ws' := [(m0, .inr (6, [.ref st, .ref im, .ref kq, .ref pw, .ref nx, .ref li, .int d6, .ref il, .ref mv, .ref so, .ref la, .int d11, .int d12, .ref co])), (st, .inl (cyI, 72, .inl fs)), (pw, .inl (cyI, 11, .inl fp)), (li, .inl (cyI, 59049, .inl lf)), (il, .inl (cyZ, 59049, .inl ilf)), (mv, .inl (cyI, 59049, .inl mf)), (so, .inl (cyI, 59049, .inl fso)), (la, .inl (cyI, 59049, .inl fla)), (co, .inl (cyI, 10, .inl fc))]) [0, 1, 2, 3, 4, 5, 6, 7, 8] rfl, hD.sub (ws' := [(m0, .inr (6, [.ref st, .ref im, .ref kq, .ref pw, .ref nx, .ref li, .int d6, .ref il, .ref mv, .ref so, .ref la, .int d11, .int d12, .ref co])), (st, .inl (cyI, 72, .inl fs)), (pw, .inl (cyI, 11, .inl fp)), (li, .inl (cyI, 59049, .inl lf)), (il, .inl (cyZ, 59049, .inl ilf)), (mv, .inl (cyI, 59049, .inl mf)), (so, .inl (cyI, 59049, .inl fso)), (la, .inl (cyI, 59049, .inl fla)), (co, .inl (cyI, 10, .inl fc))]) [0, 1, 2, 3, 4, 5, 6, 7, 8] (by decide) rfl⟩⟩, hS.F ht⟩) hS.2.2 dX8_blind_9

theorem hnX8_used_X8 : ∀ w ∈ wsX80, w ∈ wsX8_used := fun _ h => List.mem_cons_of_mem _ (List.mem_append_right _ h)
set_option maxHeartbeats 4000000 in
set_option maxRecDepth 100000 in
theorem mX8_used (l : Launch) (dC : Nat → ClassId) (dI : Nat → Nat → Nat) (cyI cyZ : ClassId) (m0 : Nat) (st : Nat) (im : Nat) (kq : Nat) (pw : Nat) (nx : Nat) (li : Nat) (il : Nat) (mv : Nat) (so : Nat) (la : Nat) (co : Nat) (d6 : Int32) (d11 : Int32) (d12 : Int32) (n : Nat) (fs : Nat → Int32) (fp : Nat → Int32) (wq : Nat → Nat) (zz : Nat) (lf : Nat → Int32) (ilf : Nat → Int32) (mf : Nat → Int32) (fso : Nat → Int32) (fla : Nat → Int32) (fc : Nat → Int32) (p1 : Int32) (hn3 : 3 ≤ n) (hn : n ≤ 10) (h0f : fs 0 = nI n) (hwk : ∀ j, j < 10 → fs (1 + j) = nI (wq j)) (hws : mn_sum wq 10 ≤ 5) (hp : ∀ j, j ≤ 10 → fp j = nI (3 ^ j)) (hzf : fs 11 = nI zz) (hz10 : zz ≤ 10) (sz : Nat) : Met l yX8_used wsX8_used ({ frames := 11, cells := 0, slots := 0, locals := 267 }) (bs_W dC dI cyI cyZ [.ref m0, .int p1] [(m0, .inr (6, [.ref st, .ref im, .ref kq, .ref pw, .ref nx, .ref li, .int d6, .ref il, .ref mv, .ref so, .ref la, .int d11, .int d12, .ref co])), (st, .inl (cyI, 72, .inl fs)), (pw, .inl (cyI, 11, .inl fp)), (li, .inl (cyI, 59049, .inl lf)), (il, .inl (cyZ, 59049, .inl ilf)), (mv, .inl (cyI, 59049, .inl mf)), (so, .inl (cyI, 59049, .inl fso)), (la, .inl (cyI, 59049, .inl fla)), (co, .inl (cyI, 10, .inl fc))] sz) (va_Qi (S := Int32 × Int32 × Int32 × (Nat → Int32) × (Nat → Int32) × (Nat → Int32) × (Nat → Int32) × (Nat → Int32) × (Nat → Int32)) (fun (r : Int32) (q : Int32 × Int32 × Int32 × (Nat → Int32) × (Nat → Int32) × (Nat → Int32) × (Nat → Int32) × (Nat → Int32) × (Nat → Int32)) => True) (fun q t => bs_E dC dI (va_A [(m0, .inr (6, [.ref st, .ref im, .ref kq, .ref pw, .ref nx, .ref li, .int d6, .ref il, .ref mv, .ref so, .ref la, .int d11, .int d12, .ref co])), (st, .inl (cyI, 72, .inl fs)), (pw, .inl (cyI, 11, .inl fp)), (li, .inl (cyI, 59049, .inl lf)), (il, .inl (cyZ, 59049, .inl ilf)), (mv, .inl (cyI, 59049, .inl mf)), (so, .inl (cyI, 59049, .inl fso)), (la, .inl (cyI, 59049, .inl fla)), (co, .inl (cyI, 10, .inl fc))] sz) [(m0, .inr (6, [.ref st, .ref im, .ref kq, .ref pw, .ref nx, .ref li, .int q.1, .ref il, .ref mv, .ref so, .ref la, .int q.2.1, .int q.2.2.1, .ref co])), (st, .inl (cyI, 72, .inl fs)), (pw, .inl (cyI, 11, .inl fp)), (li, .inl (cyI, 59049, .inl q.2.2.2.1)), (il, .inl (cyZ, 59049, .inl q.2.2.2.2.1)), (mv, .inl (cyI, 59049, .inl q.2.2.2.2.2.1)), (so, .inl (cyI, 59049, .inl q.2.2.2.2.2.2.1)), (la, .inl (cyI, 59049, .inl q.2.2.2.2.2.2.2.1)), (co, .inl (cyI, 10, .inl q.2.2.2.2.2.2.2.2))] t) (va_A [(m0, .inr (6, [.ref st, .ref im, .ref kq, .ref pw, .ref nx, .ref li, .int d6, .ref il, .ref mv, .ref so, .ref la, .int d11, .int d12, .ref co])), (st, .inl (cyI, 72, .inl fs)), (pw, .inl (cyI, 11, .inl fp)), (li, .inl (cyI, 59049, .inl lf)), (il, .inl (cyZ, 59049, .inl ilf)), (mv, .inl (cyI, 59049, .inl mf)), (so, .inl (cyI, 59049, .inl fso)), (la, .inl (cyI, 59049, .inl fla)), (co, .inl (cyI, 10, .inl fc))] sz)) 0 0 (va_A [(m0, .inr (6, [.ref st, .ref im, .ref kq, .ref pw, .ref nx, .ref li, .int d6, .ref il, .ref mv, .ref so, .ref la, .int d11, .int d12, .ref co])), (st, .inl (cyI, 72, .inl fs)), (pw, .inl (cyI, 11, .inl fp)), (li, .inl (cyI, 59049, .inl lf)), (il, .inl (cyZ, 59049, .inl ilf)), (mv, .inl (cyI, 59049, .inl mf)), (so, .inl (cyI, 59049, .inl fso)), (la, .inl (cyI, 59049, .inl fla)), (co, .inl (cyI, 10, .inl fc))] sz) := by
  refine Met.ofW (cc := cX8_used) (maxL := 2) (ret := (some .int)) (by decide) rfl ?_
  intro p e s m args below meth c s₁ B hml hv
  obtain ⟨rfl, hsz, hB, hP, hD0⟩ := hv
  have hK := hB.1
  have hN := hB.2
  have hx := B.exec
  have hb := B.bytes
  have hr := B.returns
  have hts := atoms_spec (ws := wsX8_used) B.pre
  have hown : s.vm.findClass RX8 = some m.cls := findClass_of_methodNamed B.named
  have hlocks := B.notSynchronized
  subst hsz
  have hD := hD0.self (sz := s.heap.size)
  generalize hAe : va_A [(m0, .inr (6, [.ref st, .ref im, .ref kq, .ref pw, .ref nx, .ref li, .int d6, .ref il, .ref mv, .ref so, .ref la, .int d11, .int d12, .ref co])), (st, .inl (cyI, 72, .inl fs)), (pw, .inl (cyI, 11, .inl fp)), (li, .inl (cyI, 59049, .inl lf)), (il, .inl (cyZ, 59049, .inl ilf)), (mv, .inl (cyI, 59049, .inl mf)), (so, .inl (cyI, 59049, .inl fso)), (la, .inl (cyI, 59049, .inl fla)), (co, .inl (cyI, 10, .inl fc))] s.heap.size = A at hD ⊢
  have hA : ∀ q : Nat, s.heap.size ≤ q → A q := fun q h => by rw [← hAe]; exact Or.inr h
  have hS : va_S A s.heap s.heap [] := va_S.rf
  have hP : va_P (dC, dI) vwCl [(m0, .inr (6, [.ref st, .ref im, .ref kq, .ref pw, .ref nx, .ref li, .int d6, .ref il, .ref mv, .ref so, .ref la, .int d11, .int d12, .ref co])), (st, .inl (cyI, 72, .inl fs)), (pw, .inl (cyI, 11, .inl fp)), (li, .inl (cyI, 59049, .inl lf)), (il, .inl (cyZ, 59049, .inl ilf)), (mv, .inl (cyI, 59049, .inl mf)), (so, .inl (cyI, 59049, .inl fso)), (la, .inl (cyI, 59049, .inl fla)), (co, .inl (cyI, 10, .inl fc))] s.heap := hP
  have hl := lv_entry ([.ref m0, .int p1]) (n := 2) (Nat.le_of_ble_eq_true rfl)
  rw [lg_entry_eq]
  generalize (lg_sl ([.ref m0, .int p1]) ++ List.replicate (2 - (lg_sl ([.ref m0, .int p1])).length) Slot.unset).toArray = ls at hl ⊢
  have hl : lv_has ls 2 [(0, .ref m0), (1, .int p1)] := hl
  refine lv_iload_n hx hb dX8_used_0 rfl (lv_at hl 1 rfl) ?_
  refine vp_callSi (va_Run.run (va_runS (As := [.int p1]) (rest := []) ⟨hx, hb, hml, hown, hts⟩ (mX8_isSchedule l dC dI cyI cyZ p1 ) (va_cwS 1 hts gX8_used_X8_isSchedule rfl rfl rfl (by decide +kernel) ⟨Nat.le_of_ble_eq_true rfl, Nat.le_of_ble_eq_true rfl⟩) (bs_RS hB (hP.sub (ws' := []) [] rfl)) rfl rfl hl.1 rfl (lv_room (Nat.le_of_ble_eq_true rfl)) dX8_used_1 ⟨Nat.le_of_ble_eq_true rfl, Nat.le_of_ble_eq_true rfl⟩)) (fun r_1 hr_1 => ?_)
  refine lv_if_ne (tgt := 10) hx hb dX8_used_4 (by decide) (fun c_2 => ?_) (fun c_2 => ?_)
  · skip
    have ic_2 := ci_ne (rfl : Int32.toInt r_1 = _) (show Int32.toInt 0 = 0 by decide) c_2
    refine lv_aload_n hx hb dX8_used_10 rfl (lv_at hl 0 rfl) ?_
    refine vp_callSi (va_Run.run (va_runV (As := []) (rest := []) ⟨hx, hb, hml, hown, hts⟩ (mX8_now l dC dI cyI cyZ m0 st im kq pw nx li il mv so la co d6 d11 d12 n fs wq fp hn3 hn h0f hwk hws hp) (cwV 0 hts gX8_used_X8_now rfl rfl rfl (by decide +kernel) ⟨Nat.le_of_ble_eq_true rfl, Nat.le_of_ble_eq_true rfl⟩) (bs_RV hB (hP.sub (ws' := [(m0, .inr (6, [.ref st, .ref im, .ref kq, .ref pw, .ref nx, .ref li, .int d6, .ref il, .ref mv, .ref so, .ref la, .int d11, .int d12, .ref co])), (st, .inl (cyI, 72, .inl fs)), (pw, .inl (cyI, 11, .inl fp))]) [0, 1, 2] rfl) 0 rfl rfl) rfl rfl hl.1 rfl (lv_room (Nat.le_of_ble_eq_true rfl)) dX8_used_11 ⟨Nat.le_of_ble_eq_true rfl, Nat.le_of_ble_eq_true rfl⟩)) (fun r_3 hr_3 => ?_)
    obtain rfl : (nI (mn_code wq n)) = r_3 := Eq.symm hr_3
    have hcw := mn_code_lt wq n
    have hc9 := mn_c9 hn hcw
    refine lv_if_ne (tgt := 20) hx hb dX8_used_14 (by decide) (fun c_4 => ?_) (fun c_4 => ?_)
    · skip
      have ic_4 := ci_ne (nI_toInt (n := (mn_code wq n)) (by omega)) (show Int32.toInt 0 = 0 by decide) c_4
      refine lv_aload_n hx hb dX8_used_20 rfl (lv_at hl 0 rfl) ?_
      refine lv_iload_n hx hb dX8_used_21 rfl (lv_at hl 1 rfl) ?_
      refine lv_iconst (v := 0) hx hb dX8_used_22 (by decide) ?_
      have f_5 := va_free (wc := [(m0, .inr (6, [.ref st, .ref im, .ref kq, .ref pw, .ref nx, .ref li, .int d6, .ref il, .ref mv, .ref so, .ref la, .int d11, .int d12, .ref co])), (st, .inl (cyI, 72, .inl fs)), (pw, .inl (cyI, 11, .inl fp)), (li, .inl (cyI, 59049, .inl lf)), (il, .inl (cyZ, 59049, .inl ilf)), (mv, .inl (cyI, 59049, .inl mf)), (so, .inl (cyI, 59049, .inl fso)), (la, .inl (cyI, 59049, .inl fla)), (co, .inl (cyI, 10, .inl fc))]) hD hS hA [0, 1, 2, 3, 4, 5, 6, 7, 8] rfl
      refine va_callv (va_runV (As := [.int p1, .int 0]) (rest := []) ⟨hx, hb, hml, hown, hts⟩ (mX8_layNow l dC dI cyI cyZ m0 st im kq pw nx li il mv so la co d6 d11 d12 n fs fp wq zz lf ilf mf fso fla fc p1 0 hn3 hn h0f hwk hws hp hzf hz10 (by decide) _) (cwV 2 hts gX8_used_X8_layNow rfl rfl rfl (by decide +kernel) ⟨Nat.le_of_ble_eq_true rfl, Nat.le_of_ble_eq_true rfl⟩) (bs_WV hB (hP.sub (ws' := [(m0, .inr (6, [.ref st, .ref im, .ref kq, .ref pw, .ref nx, .ref li, .int d6, .ref il, .ref mv, .ref so, .ref la, .int d11, .int d12, .ref co])), (st, .inl (cyI, 72, .inl fs)), (pw, .inl (cyI, 11, .inl fp)), (li, .inl (cyI, 59049, .inl lf)), (il, .inl (cyZ, 59049, .inl ilf)), (mv, .inl (cyI, 59049, .inl mf)), (so, .inl (cyI, 59049, .inl fso)), (la, .inl (cyI, 59049, .inl fla)), (co, .inl (cyI, 10, .inl fc))]) [0, 1, 2, 3, 4, 5, 6, 7, 8] rfl) (hD.sub (ws' := [(m0, .inr (6, [.ref st, .ref im, .ref kq, .ref pw, .ref nx, .ref li, .int d6, .ref il, .ref mv, .ref so, .ref la, .int d11, .int d12, .ref co])), (st, .inl (cyI, 72, .inl fs)), (pw, .inl (cyI, 11, .inl fp)), (li, .inl (cyI, 59049, .inl lf)), (il, .inl (cyZ, 59049, .inl ilf)), (mv, .inl (cyI, 59049, .inl mf)), (so, .inl (cyI, 59049, .inl fso)), (la, .inl (cyI, 59049, .inl fla)), (co, .inl (cyI, 10, .inl fc))]) [0, 1, 2, 3, 4, 5, 6, 7, 8] (by decide) rfl) 0 rfl rfl) rfl rfl hl.1 rfl (lv_room (Nat.le_of_ble_eq_true rfl)) dX8_used_23 ⟨Nat.le_of_ble_eq_true rfl, Nat.le_of_ble_eq_true rfl⟩) hS (fun q _ h => f_5 q h) f_5 (fun uh_6 t H1 locs ht hvm h_6 hB1 hz1 hk1 hS => ?_)
      obtain ⟨v_7, i_8, g_9, g_10, g_11, g_12, g_13, g_14⟩ := uh_6
      have h_6 : mn_L n v_7 g_9 g_10 := h_6
      obtain ⟨hP1, hD1⟩ := hB1
      rw [ht] at hP1
      obtain ⟨hP, hD⟩ := va_join (wr := []) (w1 := [(m0, .inr (6, [.ref st, .ref im, .ref kq, .ref pw, .ref nx, .ref li, .int (nI v_7), .ref il, .ref mv, .ref so, .ref la, .int i_8, .int 0, .ref co])), (st, .inl (cyI, 72, .inl fs)), (pw, .inl (cyI, 11, .inl fp)), (li, .inl (cyI, 59049, .inl g_9)), (il, .inl (cyZ, 59049, .inl g_10)), (mv, .inl (cyI, 59049, .inl g_11)), (so, .inl (cyI, 59049, .inl g_12)), (la, .inl (cyI, 59049, .inl g_13)), (co, .inl (cyI, 10, .inl g_14))]) hP hD [0, 1, 2, 3, 4, 5, 6, 7, 8] [] rfl rfl (by decide) (by decide) hk1 f_5 hP1 hD1
      generalize H1 = H at hP hS ⊢
      have hP : va_P (dC, dI) vwCl [(m0, .inr (6, [.ref st, .ref im, .ref kq, .ref pw, .ref nx, .ref li, .int (nI v_7), .ref il, .ref mv, .ref so, .ref la, .int i_8, .int 0, .ref co])), (st, .inl (cyI, 72, .inl fs)), (pw, .inl (cyI, 11, .inl fp)), (li, .inl (cyI, 59049, .inl g_9)), (il, .inl (cyZ, 59049, .inl g_10)), (mv, .inl (cyI, 59049, .inl g_11)), (so, .inl (cyI, 59049, .inl g_12)), (la, .inl (cyI, 59049, .inl g_13)), (co, .inl (cyI, 10, .inl g_14))] _ := hP
      have hD : va_D A [(m0, .inr (6, [.ref st, .ref im, .ref kq, .ref pw, .ref nx, .ref li, .int (nI v_7), .ref il, .ref mv, .ref so, .ref la, .int i_8, .int 0, .ref co])), (st, .inl (cyI, 72, .inl fs)), (pw, .inl (cyI, 11, .inl fp)), (li, .inl (cyI, 59049, .inl g_9)), (il, .inl (cyZ, 59049, .inl g_10)), (mv, .inl (cyI, 59049, .inl g_11)), (so, .inl (cyI, 59049, .inl g_12)), (la, .inl (cyI, 59049, .inl g_13)), (co, .inl (cyI, 10, .inl g_14))] := hD
      have hL := h_6
      refine lv_aload_n hx hb dX8_used_26 rfl (lv_at hl 0 rfl) ?_
      refine va_get (D := (dC, dI)) (ci := 6) (v := .int i_8) (C := RX8) (T := TX8) (N := 14) hx hb hts hnX8_used_X8 hown hK hP 0 rfl rfl 11 (by decide) (hts (.fieldLink RX8 136 "RingMeetsModel" "usedRules" "I") (by decide +kernel)) (fun _ h9 => h9) rfl dX8_used_27 ?_
      exact W.iret (v := i_8) hx hb hr (fun t ht hW => ⟨⟨i_8, ((nI v_7), i_8, 0, g_9, g_10, g_11, g_12, g_13, g_14), rfl, trivial, ⟨by rw [ht]; exact hP.sub (ws' := [(m0, .inr (6, [.ref st, .ref im, .ref kq, .ref pw, .ref nx, .ref li, .int (nI v_7), .ref il, .ref mv, .ref so, .ref la, .int i_8, .int 0, .ref co])), (st, .inl (cyI, 72, .inl fs)), (pw, .inl (cyI, 11, .inl fp)), (li, .inl (cyI, 59049, .inl g_9)), (il, .inl (cyZ, 59049, .inl g_10)), (mv, .inl (cyI, 59049, .inl g_11)), (so, .inl (cyI, 59049, .inl g_12)), (la, .inl (cyI, 59049, .inl g_13)), (co, .inl (cyI, 10, .inl g_14))]) [0, 1, 2, 3, 4, 5, 6, 7, 8] rfl, hD.sub (ws' := [(m0, .inr (6, [.ref st, .ref im, .ref kq, .ref pw, .ref nx, .ref li, .int (nI v_7), .ref il, .ref mv, .ref so, .ref la, .int i_8, .int 0, .ref co])), (st, .inl (cyI, 72, .inl fs)), (pw, .inl (cyI, 11, .inl fp)), (li, .inl (cyI, 59049, .inl g_9)), (il, .inl (cyZ, 59049, .inl g_10)), (mv, .inl (cyI, 59049, .inl g_11)), (so, .inl (cyI, 59049, .inl g_12)), (la, .inl (cyI, 59049, .inl g_13)), (co, .inl (cyI, 10, .inl g_14))]) [0, 1, 2, 3, 4, 5, 6, 7, 8] (by decide) rfl⟩⟩, hS.F ht⟩) hS.2.2 dX8_used_30
    · skip
      have ic_4 := ci_eq (nI_toInt (n := (mn_code wq n)) (by omega)) (show Int32.toInt 0 = 0 by decide) c_4
      refine lv_bipush (v := (-3)) hx hb dX8_used_17 (by decide) ?_
      exact W.iret (v := (-3)) hx hb hr (fun t ht hW => ⟨⟨(-3), (d6, d11, d12, lf, ilf, mf, fso, fla, fc), rfl, trivial, ⟨by rw [ht]; exact hP.sub (ws' := [(m0, .inr (6, [.ref st, .ref im, .ref kq, .ref pw, .ref nx, .ref li, .int d6, .ref il, .ref mv, .ref so, .ref la, .int d11, .int d12, .ref co])), (st, .inl (cyI, 72, .inl fs)), (pw, .inl (cyI, 11, .inl fp)), (li, .inl (cyI, 59049, .inl lf)), (il, .inl (cyZ, 59049, .inl ilf)), (mv, .inl (cyI, 59049, .inl mf)), (so, .inl (cyI, 59049, .inl fso)), (la, .inl (cyI, 59049, .inl fla)), (co, .inl (cyI, 10, .inl fc))]) [0, 1, 2, 3, 4, 5, 6, 7, 8] rfl, hD.sub (ws' := [(m0, .inr (6, [.ref st, .ref im, .ref kq, .ref pw, .ref nx, .ref li, .int d6, .ref il, .ref mv, .ref so, .ref la, .int d11, .int d12, .ref co])), (st, .inl (cyI, 72, .inl fs)), (pw, .inl (cyI, 11, .inl fp)), (li, .inl (cyI, 59049, .inl lf)), (il, .inl (cyZ, 59049, .inl ilf)), (mv, .inl (cyI, 59049, .inl mf)), (so, .inl (cyI, 59049, .inl fso)), (la, .inl (cyI, 59049, .inl fla)), (co, .inl (cyI, 10, .inl fc))]) [0, 1, 2, 3, 4, 5, 6, 7, 8] (by decide) rfl⟩⟩, hS.F ht⟩) hS.2.2 dX8_used_19
  · skip
    have ic_2 := ci_eq (rfl : Int32.toInt r_1 = _) (show Int32.toInt 0 = 0 by decide) c_2
    refine lv_bipush (v := (-2)) hx hb dX8_used_7 (by decide) ?_
    exact W.iret (v := (-2)) hx hb hr (fun t ht hW => ⟨⟨(-2), (d6, d11, d12, lf, ilf, mf, fso, fla, fc), rfl, trivial, ⟨by rw [ht]; exact hP.sub (ws' := [(m0, .inr (6, [.ref st, .ref im, .ref kq, .ref pw, .ref nx, .ref li, .int d6, .ref il, .ref mv, .ref so, .ref la, .int d11, .int d12, .ref co])), (st, .inl (cyI, 72, .inl fs)), (pw, .inl (cyI, 11, .inl fp)), (li, .inl (cyI, 59049, .inl lf)), (il, .inl (cyZ, 59049, .inl ilf)), (mv, .inl (cyI, 59049, .inl mf)), (so, .inl (cyI, 59049, .inl fso)), (la, .inl (cyI, 59049, .inl fla)), (co, .inl (cyI, 10, .inl fc))]) [0, 1, 2, 3, 4, 5, 6, 7, 8] rfl, hD.sub (ws' := [(m0, .inr (6, [.ref st, .ref im, .ref kq, .ref pw, .ref nx, .ref li, .int d6, .ref il, .ref mv, .ref so, .ref la, .int d11, .int d12, .ref co])), (st, .inl (cyI, 72, .inl fs)), (pw, .inl (cyI, 11, .inl fp)), (li, .inl (cyI, 59049, .inl lf)), (il, .inl (cyZ, 59049, .inl ilf)), (mv, .inl (cyI, 59049, .inl mf)), (so, .inl (cyI, 59049, .inl fso)), (la, .inl (cyI, 59049, .inl fla)), (co, .inl (cyI, 10, .inl fc))]) [0, 1, 2, 3, 4, 5, 6, 7, 8] (by decide) rfl⟩⟩, hS.F ht⟩) hS.2.2 dX8_used_9

theorem hnX8_first_X8 : ∀ w ∈ wsX80, w ∈ wsX8_first := fun _ h => List.mem_cons_of_mem _ (List.mem_append_right _ h)
set_option maxHeartbeats 4000000 in
set_option maxRecDepth 100000 in
theorem mX8_first (l : Launch) (dC : Nat → ClassId) (dI : Nat → Nat → Nat) (cyI cyZ : ClassId) (m0 : Nat) (st : Nat) (im : Nat) (kq : Nat) (pw : Nat) (nx : Nat) (li : Nat) (il : Nat) (mv : Nat) (so : Nat) (la : Nat) (co : Nat) (d6 : Int32) (d11 : Int32) (d12 : Int32) (n : Nat) (fs : Nat → Int32) (fp : Nat → Int32) (wq : Nat → Nat) (zz : Nat) (lf : Nat → Int32) (ilf : Nat → Int32) (mf : Nat → Int32) (fso : Nat → Int32) (fla : Nat → Int32) (fc : Nat → Int32) (p1 : Int32) (hn3 : 3 ≤ n) (hn : n ≤ 10) (h0f : fs 0 = nI n) (hwk : ∀ j, j < 10 → fs (1 + j) = nI (wq j)) (hws : mn_sum wq 10 ≤ 5) (hp : ∀ j, j ≤ 10 → fp j = nI (3 ^ j)) (hzf : fs 11 = nI zz) (hz10 : zz ≤ 10) (sz : Nat) : Met l yX8_first wsX8_first ({ frames := 11, cells := 0, slots := 0, locals := 267 }) (bs_W dC dI cyI cyZ [.ref m0, .int p1] [(m0, .inr (6, [.ref st, .ref im, .ref kq, .ref pw, .ref nx, .ref li, .int d6, .ref il, .ref mv, .ref so, .ref la, .int d11, .int d12, .ref co])), (st, .inl (cyI, 72, .inl fs)), (pw, .inl (cyI, 11, .inl fp)), (li, .inl (cyI, 59049, .inl lf)), (il, .inl (cyZ, 59049, .inl ilf)), (mv, .inl (cyI, 59049, .inl mf)), (so, .inl (cyI, 59049, .inl fso)), (la, .inl (cyI, 59049, .inl fla)), (co, .inl (cyI, 10, .inl fc))] sz) (va_Qi (S := Int32 × Int32 × Int32 × (Nat → Int32) × (Nat → Int32) × (Nat → Int32) × (Nat → Int32) × (Nat → Int32) × (Nat → Int32)) (fun (r : Int32) (q : Int32 × Int32 × Int32 × (Nat → Int32) × (Nat → Int32) × (Nat → Int32) × (Nat → Int32) × (Nat → Int32) × (Nat → Int32)) => True) (fun q t => bs_E dC dI (va_A [(m0, .inr (6, [.ref st, .ref im, .ref kq, .ref pw, .ref nx, .ref li, .int d6, .ref il, .ref mv, .ref so, .ref la, .int d11, .int d12, .ref co])), (st, .inl (cyI, 72, .inl fs)), (pw, .inl (cyI, 11, .inl fp)), (li, .inl (cyI, 59049, .inl lf)), (il, .inl (cyZ, 59049, .inl ilf)), (mv, .inl (cyI, 59049, .inl mf)), (so, .inl (cyI, 59049, .inl fso)), (la, .inl (cyI, 59049, .inl fla)), (co, .inl (cyI, 10, .inl fc))] sz) [(m0, .inr (6, [.ref st, .ref im, .ref kq, .ref pw, .ref nx, .ref li, .int q.1, .ref il, .ref mv, .ref so, .ref la, .int q.2.1, .int q.2.2.1, .ref co])), (st, .inl (cyI, 72, .inl fs)), (pw, .inl (cyI, 11, .inl fp)), (li, .inl (cyI, 59049, .inl q.2.2.2.1)), (il, .inl (cyZ, 59049, .inl q.2.2.2.2.1)), (mv, .inl (cyI, 59049, .inl q.2.2.2.2.2.1)), (so, .inl (cyI, 59049, .inl q.2.2.2.2.2.2.1)), (la, .inl (cyI, 59049, .inl q.2.2.2.2.2.2.2.1)), (co, .inl (cyI, 10, .inl q.2.2.2.2.2.2.2.2))] t) (va_A [(m0, .inr (6, [.ref st, .ref im, .ref kq, .ref pw, .ref nx, .ref li, .int d6, .ref il, .ref mv, .ref so, .ref la, .int d11, .int d12, .ref co])), (st, .inl (cyI, 72, .inl fs)), (pw, .inl (cyI, 11, .inl fp)), (li, .inl (cyI, 59049, .inl lf)), (il, .inl (cyZ, 59049, .inl ilf)), (mv, .inl (cyI, 59049, .inl mf)), (so, .inl (cyI, 59049, .inl fso)), (la, .inl (cyI, 59049, .inl fla)), (co, .inl (cyI, 10, .inl fc))] sz)) 0 0 (va_A [(m0, .inr (6, [.ref st, .ref im, .ref kq, .ref pw, .ref nx, .ref li, .int d6, .ref il, .ref mv, .ref so, .ref la, .int d11, .int d12, .ref co])), (st, .inl (cyI, 72, .inl fs)), (pw, .inl (cyI, 11, .inl fp)), (li, .inl (cyI, 59049, .inl lf)), (il, .inl (cyZ, 59049, .inl ilf)), (mv, .inl (cyI, 59049, .inl mf)), (so, .inl (cyI, 59049, .inl fso)), (la, .inl (cyI, 59049, .inl fla)), (co, .inl (cyI, 10, .inl fc))] sz) := by
  refine Met.ofW (cc := cX8_first) (maxL := 5) (ret := (some .int)) (by decide) rfl ?_
  intro p e s m args below meth c s₁ B hml hv
  obtain ⟨rfl, hsz, hB, hP, hD0⟩ := hv
  have hK := hB.1
  have hN := hB.2
  have hx := B.exec
  have hb := B.bytes
  have hr := B.returns
  have hts := atoms_spec (ws := wsX8_first) B.pre
  have hown : s.vm.findClass RX8 = some m.cls := findClass_of_methodNamed B.named
  have hlocks := B.notSynchronized
  subst hsz
  have hD := hD0.self (sz := s.heap.size)
  generalize hAe : va_A [(m0, .inr (6, [.ref st, .ref im, .ref kq, .ref pw, .ref nx, .ref li, .int d6, .ref il, .ref mv, .ref so, .ref la, .int d11, .int d12, .ref co])), (st, .inl (cyI, 72, .inl fs)), (pw, .inl (cyI, 11, .inl fp)), (li, .inl (cyI, 59049, .inl lf)), (il, .inl (cyZ, 59049, .inl ilf)), (mv, .inl (cyI, 59049, .inl mf)), (so, .inl (cyI, 59049, .inl fso)), (la, .inl (cyI, 59049, .inl fla)), (co, .inl (cyI, 10, .inl fc))] s.heap.size = A at hD ⊢
  have hA : ∀ q : Nat, s.heap.size ≤ q → A q := fun q h => by rw [← hAe]; exact Or.inr h
  have hS : va_S A s.heap s.heap [] := va_S.rf
  have hP : va_P (dC, dI) vwCl [(m0, .inr (6, [.ref st, .ref im, .ref kq, .ref pw, .ref nx, .ref li, .int d6, .ref il, .ref mv, .ref so, .ref la, .int d11, .int d12, .ref co])), (st, .inl (cyI, 72, .inl fs)), (pw, .inl (cyI, 11, .inl fp)), (li, .inl (cyI, 59049, .inl lf)), (il, .inl (cyZ, 59049, .inl ilf)), (mv, .inl (cyI, 59049, .inl mf)), (so, .inl (cyI, 59049, .inl fso)), (la, .inl (cyI, 59049, .inl fla)), (co, .inl (cyI, 10, .inl fc))] s.heap := hP
  have hl := lv_entry ([.ref m0, .int p1]) (n := 5) (Nat.le_of_ble_eq_true rfl)
  rw [lg_entry_eq]
  generalize (lg_sl ([.ref m0, .int p1]) ++ List.replicate (5 - (lg_sl ([.ref m0, .int p1])).length) Slot.unset).toArray = ls at hl ⊢
  have hl : lv_has ls 5 [(0, .ref m0), (1, .int p1)] := hl
  refine lv_iload_n hx hb dX8_first_0 rfl (lv_at hl 1 rfl) ?_
  refine vp_callSi (va_Run.run (va_runS (As := [.int p1]) (rest := []) ⟨hx, hb, hml, hown, hts⟩ (mX8_isSchedule l dC dI cyI cyZ p1 ) (va_cwS 1 hts gX8_first_X8_isSchedule rfl rfl rfl (by decide +kernel) ⟨Nat.le_of_ble_eq_true rfl, Nat.le_of_ble_eq_true rfl⟩) (bs_RS hB (hP.sub (ws' := []) [] rfl)) rfl rfl hl.1 rfl (lv_room (Nat.le_of_ble_eq_true rfl)) dX8_first_1 ⟨Nat.le_of_ble_eq_true rfl, Nat.le_of_ble_eq_true rfl⟩)) (fun r_1 hr_1 => ?_)
  refine lv_if_ne (tgt := 10) hx hb dX8_first_4 (by decide) (fun c_2 => ?_) (fun c_2 => ?_)
  · skip
    have ic_2 := ci_ne (rfl : Int32.toInt r_1 = _) (show Int32.toInt 0 = 0 by decide) c_2
    refine lv_aload_n hx hb dX8_first_10 rfl (lv_at hl 0 rfl) ?_
    refine vp_callSi (va_Run.run (va_runV (As := []) (rest := []) ⟨hx, hb, hml, hown, hts⟩ (mX8_now l dC dI cyI cyZ m0 st im kq pw nx li il mv so la co d6 d11 d12 n fs wq fp hn3 hn h0f hwk hws hp) (cwV 0 hts gX8_first_X8_now rfl rfl rfl (by decide +kernel) ⟨Nat.le_of_ble_eq_true rfl, Nat.le_of_ble_eq_true rfl⟩) (bs_RV hB (hP.sub (ws' := [(m0, .inr (6, [.ref st, .ref im, .ref kq, .ref pw, .ref nx, .ref li, .int d6, .ref il, .ref mv, .ref so, .ref la, .int d11, .int d12, .ref co])), (st, .inl (cyI, 72, .inl fs)), (pw, .inl (cyI, 11, .inl fp))]) [0, 1, 2] rfl) 0 rfl rfl) rfl rfl hl.1 rfl (lv_room (Nat.le_of_ble_eq_true rfl)) dX8_first_11 ⟨Nat.le_of_ble_eq_true rfl, Nat.le_of_ble_eq_true rfl⟩)) (fun r_3 hr_3 => ?_)
    obtain rfl : (nI (mn_code wq n)) = r_3 := Eq.symm hr_3
    have hcw := mn_code_lt wq n
    have hc9 := mn_c9 hn hcw
    refine lv_istore_n (lv' := [(2, .int (nI (mn_code wq n))), (0, .ref m0), (1, .int p1)]) hx hb dX8_first_14 rfl hl (by decide) rfl (fun ls hl => ?_)
    refine lv_iload_n hx hb dX8_first_15 rfl (lv_at hl 0 rfl) ?_
    refine lv_if_ne (tgt := 22) hx hb dX8_first_16 (by decide) (fun c_4 => ?_) (fun c_4 => ?_)
    · skip
      have ic_4 := ci_ne (nI_toInt (n := (mn_code wq n)) (by omega)) (show Int32.toInt 0 = 0 by decide) c_4
      refine lv_aload_n hx hb dX8_first_22 rfl (lv_at hl 1 rfl) ?_
      refine lv_iload_n hx hb dX8_first_23 rfl (lv_at hl 2 rfl) ?_
      refine lv_iconst (v := 0) hx hb dX8_first_24 (by decide) ?_
      have f_5 := va_free (wc := [(m0, .inr (6, [.ref st, .ref im, .ref kq, .ref pw, .ref nx, .ref li, .int d6, .ref il, .ref mv, .ref so, .ref la, .int d11, .int d12, .ref co])), (st, .inl (cyI, 72, .inl fs)), (pw, .inl (cyI, 11, .inl fp)), (li, .inl (cyI, 59049, .inl lf)), (il, .inl (cyZ, 59049, .inl ilf)), (mv, .inl (cyI, 59049, .inl mf)), (so, .inl (cyI, 59049, .inl fso)), (la, .inl (cyI, 59049, .inl fla)), (co, .inl (cyI, 10, .inl fc))]) hD hS hA [0, 1, 2, 3, 4, 5, 6, 7, 8] rfl
      refine va_callv (va_runV (As := [.int p1, .int 0]) (rest := []) ⟨hx, hb, hml, hown, hts⟩ (mX8_layNow l dC dI cyI cyZ m0 st im kq pw nx li il mv so la co d6 d11 d12 n fs fp wq zz lf ilf mf fso fla fc p1 0 hn3 hn h0f hwk hws hp hzf hz10 (by decide) _) (cwV 2 hts gX8_first_X8_layNow rfl rfl rfl (by decide +kernel) ⟨Nat.le_of_ble_eq_true rfl, Nat.le_of_ble_eq_true rfl⟩) (bs_WV hB (hP.sub (ws' := [(m0, .inr (6, [.ref st, .ref im, .ref kq, .ref pw, .ref nx, .ref li, .int d6, .ref il, .ref mv, .ref so, .ref la, .int d11, .int d12, .ref co])), (st, .inl (cyI, 72, .inl fs)), (pw, .inl (cyI, 11, .inl fp)), (li, .inl (cyI, 59049, .inl lf)), (il, .inl (cyZ, 59049, .inl ilf)), (mv, .inl (cyI, 59049, .inl mf)), (so, .inl (cyI, 59049, .inl fso)), (la, .inl (cyI, 59049, .inl fla)), (co, .inl (cyI, 10, .inl fc))]) [0, 1, 2, 3, 4, 5, 6, 7, 8] rfl) (hD.sub (ws' := [(m0, .inr (6, [.ref st, .ref im, .ref kq, .ref pw, .ref nx, .ref li, .int d6, .ref il, .ref mv, .ref so, .ref la, .int d11, .int d12, .ref co])), (st, .inl (cyI, 72, .inl fs)), (pw, .inl (cyI, 11, .inl fp)), (li, .inl (cyI, 59049, .inl lf)), (il, .inl (cyZ, 59049, .inl ilf)), (mv, .inl (cyI, 59049, .inl mf)), (so, .inl (cyI, 59049, .inl fso)), (la, .inl (cyI, 59049, .inl fla)), (co, .inl (cyI, 10, .inl fc))]) [0, 1, 2, 3, 4, 5, 6, 7, 8] (by decide) rfl) 0 rfl rfl) rfl rfl hl.1 rfl (lv_room (Nat.le_of_ble_eq_true rfl)) dX8_first_25 ⟨Nat.le_of_ble_eq_true rfl, Nat.le_of_ble_eq_true rfl⟩) hS (fun q _ h => f_5 q h) f_5 (fun uh_6 t H1 locs ht hvm h_6 hB1 hz1 hk1 hS => ?_)
      obtain ⟨v_7, i_8, g_9, g_10, g_11, g_12, g_13, g_14⟩ := uh_6
      have h_6 : mn_L n v_7 g_9 g_10 := h_6
      obtain ⟨hP1, hD1⟩ := hB1
      rw [ht] at hP1
      obtain ⟨hP, hD⟩ := va_join (wr := []) (w1 := [(m0, .inr (6, [.ref st, .ref im, .ref kq, .ref pw, .ref nx, .ref li, .int (nI v_7), .ref il, .ref mv, .ref so, .ref la, .int i_8, .int 0, .ref co])), (st, .inl (cyI, 72, .inl fs)), (pw, .inl (cyI, 11, .inl fp)), (li, .inl (cyI, 59049, .inl g_9)), (il, .inl (cyZ, 59049, .inl g_10)), (mv, .inl (cyI, 59049, .inl g_11)), (so, .inl (cyI, 59049, .inl g_12)), (la, .inl (cyI, 59049, .inl g_13)), (co, .inl (cyI, 10, .inl g_14))]) hP hD [0, 1, 2, 3, 4, 5, 6, 7, 8] [] rfl rfl (by decide) (by decide) hk1 f_5 hP1 hD1
      generalize H1 = H at hP hS ⊢
      have hP : va_P (dC, dI) vwCl [(m0, .inr (6, [.ref st, .ref im, .ref kq, .ref pw, .ref nx, .ref li, .int (nI v_7), .ref il, .ref mv, .ref so, .ref la, .int i_8, .int 0, .ref co])), (st, .inl (cyI, 72, .inl fs)), (pw, .inl (cyI, 11, .inl fp)), (li, .inl (cyI, 59049, .inl g_9)), (il, .inl (cyZ, 59049, .inl g_10)), (mv, .inl (cyI, 59049, .inl g_11)), (so, .inl (cyI, 59049, .inl g_12)), (la, .inl (cyI, 59049, .inl g_13)), (co, .inl (cyI, 10, .inl g_14))] _ := hP
      have hD : va_D A [(m0, .inr (6, [.ref st, .ref im, .ref kq, .ref pw, .ref nx, .ref li, .int (nI v_7), .ref il, .ref mv, .ref so, .ref la, .int i_8, .int 0, .ref co])), (st, .inl (cyI, 72, .inl fs)), (pw, .inl (cyI, 11, .inl fp)), (li, .inl (cyI, 59049, .inl g_9)), (il, .inl (cyZ, 59049, .inl g_10)), (mv, .inl (cyI, 59049, .inl g_11)), (so, .inl (cyI, 59049, .inl g_12)), (la, .inl (cyI, 59049, .inl g_13)), (co, .inl (cyI, 10, .inl g_14))] := hD
      have hL := h_6
      refine lv_aload_n hx hb dX8_first_28 rfl (lv_at hl 1 rfl) ?_
      refine lv_iload_n hx hb dX8_first_29 rfl (lv_at hl 0 rfl) ?_
      refine vp_callSi (va_Run.run (va_runV (As := [.int (nI (mn_code wq n))]) (rest := []) ⟨hx, hb, hml, hown, hts⟩ (mX8_movers l dC dI cyI cyZ m0 st im kq pw nx li il mv so la co (nI v_7) i_8 0 n fs fp (mn_code wq n) g_11 hn3 hn h0f hp (by omega)) (cwV 1 hts gX8_first_X8_movers rfl rfl rfl (by decide +kernel) ⟨Nat.le_of_ble_eq_true rfl, Nat.le_of_ble_eq_true rfl⟩) (bs_RV hB (hP.sub (ws' := [(m0, .inr (6, [.ref st, .ref im, .ref kq, .ref pw, .ref nx, .ref li, .int (nI v_7), .ref il, .ref mv, .ref so, .ref la, .int i_8, .int 0, .ref co])), (st, .inl (cyI, 72, .inl fs)), (pw, .inl (cyI, 11, .inl fp)), (mv, .inl (cyI, 59049, .inl g_11))]) [0, 1, 2, 5] rfl) 0 rfl rfl) rfl rfl hl.1 rfl (lv_room (Nat.le_of_ble_eq_true rfl)) dX8_first_30 ⟨Nat.le_of_ble_eq_true rfl, Nat.le_of_ble_eq_true rfl⟩)) (fun r_15 hr_15 => ?_)
      obtain ⟨av, lav, eav⟩ := hr_15
      obtain rfl : nI av = r_15 := Eq.symm eav
      refine lv_istore_n (lv' := [(3, .int (nI av)), (2, .int (nI (mn_code wq n))), (0, .ref m0), (1, .int p1)]) hx hb dX8_first_33 rfl hl (by decide) rfl (fun ls hl => ?_)
      refine lv_iload_n hx hb dX8_first_34 rfl (lv_at hl 0 rfl) ?_
      refine lv_ineg hx hb dX8_first_35 ?_
      refine lv_topi (fun x_16 ex_16 => ?_)
      refine lv_iload_n hx hb dX8_first_36 rfl (lv_at hl 0 rfl) ?_
      refine lv_iand hx hb dX8_first_37 ?_
      refine lv_topi (fun x_17 ex_17 => ?_)
      obtain ⟨z0, hz0, ez0, dz0⟩ := mn_sub (a := av) (z := av) (Nat.le_refl av)
      have ey0 : x_17 = nI av - nI z0 := by rw [ex_17, ex_16]; exact ez0
      refine lv_istore (lv' := [(4, .int x_17), (3, .int (nI av)), (2, .int (nI (mn_code wq n))), (0, .ref m0), (1, .int p1)]) hx hb dX8_first_38 hl (by decide) rfl (fun ls hl => ?_)
      have L40 : ∀ (n40 : Nat), ∀ (z : Nat) (x9 : Int32) (fc2 : Nat → Int32), (x9 = nI av - nI z) → (z ≤ av) → (x9 = 0 ∧ 1 ≤ n40 ∨ z + 2 ≤ n40) → ∀ (H : Heap) (locs : List Loc), va_P (dC, dI) vwCl [(m0, .inr (6, [.ref st, .ref im, .ref kq, .ref pw, .ref nx, .ref li, .int (nI v_7), .ref il, .ref mv, .ref so, .ref la, .int i_8, .int 0, .ref co])), (st, .inl (cyI, 72, .inl fs)), (pw, .inl (cyI, 11, .inl fp)), (li, .inl (cyI, 59049, .inl g_9)), (il, .inl (cyZ, 59049, .inl g_10)), (mv, .inl (cyI, 59049, .inl g_11)), (so, .inl (cyI, 59049, .inl g_12)), (la, .inl (cyI, 59049, .inl g_13)), (co, .inl (cyI, 10, .inl fc2))] H → va_D A [(m0, .inr (6, [.ref st, .ref im, .ref kq, .ref pw, .ref nx, .ref li, .int (nI v_7), .ref il, .ref mv, .ref so, .ref la, .int i_8, .int 0, .ref co])), (st, .inl (cyI, 72, .inl fs)), (pw, .inl (cyI, 11, .inl fp)), (li, .inl (cyI, 59049, .inl g_9)), (il, .inl (cyZ, 59049, .inl g_10)), (mv, .inl (cyI, 59049, .inl g_11)), (so, .inl (cyI, 59049, .inl g_12)), (la, .inl (cyI, 59049, .inl g_13)), (co, .inl (cyI, 10, .inl fc2))] → va_S A s.heap H locs → ∀ (ls : Array Slot), lv_has ls 5 [(0, .ref m0), (1, .int p1), (2, .int (nI (mn_code wq n))), (3, .int (nI av)), (4, .int x9)] → W p l e (headSpec wsX8_first ({ frames := 11, cells := 0, slots := 0, locals := 267 })).room s m ([.ref m0, .int p1] : List Value).toArray below meth c H locs 0 0 (MQ below (va_Qi (S := Int32 × Int32 × Int32 × (Nat → Int32) × (Nat → Int32) × (Nat → Int32) × (Nat → Int32) × (Nat → Int32) × (Nat → Int32)) (fun (r : Int32) (q : Int32 × Int32 × Int32 × (Nat → Int32) × (Nat → Int32) × (Nat → Int32) × (Nat → Int32) × (Nat → Int32) × (Nat → Int32)) => True) (fun q t => bs_E dC dI A [(m0, .inr (6, [.ref st, .ref im, .ref kq, .ref pw, .ref nx, .ref li, .int q.1, .ref il, .ref mv, .ref so, .ref la, .int q.2.1, .int q.2.2.1, .ref co])), (st, .inl (cyI, 72, .inl fs)), (pw, .inl (cyI, 11, .inl fp)), (li, .inl (cyI, 59049, .inl q.2.2.2.1)), (il, .inl (cyZ, 59049, .inl q.2.2.2.2.1)), (mv, .inl (cyI, 59049, .inl q.2.2.2.2.2.1)), (so, .inl (cyI, 59049, .inl q.2.2.2.2.2.2.1)), (la, .inl (cyI, 59049, .inl q.2.2.2.2.2.2.2.1)), (co, .inl (cyI, 10, .inl q.2.2.2.2.2.2.2.2))] t) A) ([.ref m0, .int p1] : List Value).toArray s 0 0 A) (F0 m 40 ls []) := by
        intro n40
        induction n40 with
        | zero =>
          intro z x9 fc2 hx9 hz9 hq9 H locs hP hD hS ls hl
          exfalso
          rcases hq9 with h9 | h9; (have h8 := h9.2; omega); omega
        | succ n40 ih40 =>
          intro z x9 fc2 hx9 hz9 hq9 H locs hP hD hS ls hl
          refine lv_iload hx hb dX8_first_40 (lv_at hl 4 rfl) ?_
          refine lv_if_eq (tgt := 101) hx hb dX8_first_42 (by decide) (fun c_18 => ?_) (fun c_18 => ?_)
          · skip
            have ic_18 := ci_eq (rfl : Int32.toInt x9 = _) (show Int32.toInt 0 = 0 by decide) c_18
            refine lv_bipush (v := (-6)) hx hb dX8_first_101 (by decide) ?_
            exact W.iret (v := (-6)) hx hb hr (fun t ht hW => ⟨⟨(-6), ((nI v_7), i_8, 0, g_9, g_10, g_11, g_12, g_13, fc2), rfl, trivial, ⟨by rw [ht]; exact hP.sub (ws' := [(m0, .inr (6, [.ref st, .ref im, .ref kq, .ref pw, .ref nx, .ref li, .int (nI v_7), .ref il, .ref mv, .ref so, .ref la, .int i_8, .int 0, .ref co])), (st, .inl (cyI, 72, .inl fs)), (pw, .inl (cyI, 11, .inl fp)), (li, .inl (cyI, 59049, .inl g_9)), (il, .inl (cyZ, 59049, .inl g_10)), (mv, .inl (cyI, 59049, .inl g_11)), (so, .inl (cyI, 59049, .inl g_12)), (la, .inl (cyI, 59049, .inl g_13)), (co, .inl (cyI, 10, .inl fc2))]) [0, 1, 2, 3, 4, 5, 6, 7, 8] rfl, hD.sub (ws' := [(m0, .inr (6, [.ref st, .ref im, .ref kq, .ref pw, .ref nx, .ref li, .int (nI v_7), .ref il, .ref mv, .ref so, .ref la, .int i_8, .int 0, .ref co])), (st, .inl (cyI, 72, .inl fs)), (pw, .inl (cyI, 11, .inl fp)), (li, .inl (cyI, 59049, .inl g_9)), (il, .inl (cyZ, 59049, .inl g_10)), (mv, .inl (cyI, 59049, .inl g_11)), (so, .inl (cyI, 59049, .inl g_12)), (la, .inl (cyI, 59049, .inl g_13)), (co, .inl (cyI, 10, .inl fc2))]) [0, 1, 2, 3, 4, 5, 6, 7, 8] (by decide) rfl⟩⟩, hS.F ht⟩) hS.2.2 dX8_first_103
          · skip
            have ic_18 := ci_ne (rfl : Int32.toInt x9 = _) (show Int32.toInt 0 = 0 by decide) c_18
            have hq1 : z + 2 ≤ n40 + 1 := hq9.resolve_left (fun q => c_18 q.1)
            refine lv_aload_n hx hb dX8_first_45 rfl (lv_at hl 0 rfl) ?_
            refine va_get (D := (dC, dI)) (ci := 6) (v := .ref so) (C := RX8) (T := TX8) (N := 14) hx hb hts hnX8_first_X8 hown hK hP 0 rfl rfl 9 (by decide) (hts (.fieldLink RX8 36 "RingMeetsModel" "soon" "[I") (by decide +kernel)) (fun _ h9 => h9) rfl dX8_first_46 ?_
            refine lv_iload_n hx hb dX8_first_49 rfl (lv_at hl 2 rfl) ?_
            refine va_iald (D := (dC, dI)) hx hb hK hP 6 0 rfl rfl (vp_in_nI (n := (mn_code wq n)) (N := 59049) (by omega) (by omega)) dX8_first_50 ?_
            refine lv_topi (fun x_19 ex_19 => ?_)
            rw [nI_clamp (n := (mn_code wq n)) (by omega)] at ex_19
            refine lv_if_le (tgt := 101) hx hb dX8_first_51 (by decide) (fun c_20 => ?_) (fun c_20 => ?_)
            · skip
              have ic_20 := ci_le (rfl : Int32.toInt x_19 = _) (show Int32.toInt 0 = 0 by decide) c_20
              refine lv_bipush (v := (-6)) hx hb dX8_first_101 (by decide) ?_
              exact W.iret (v := (-6)) hx hb hr (fun t ht hW => ⟨⟨(-6), ((nI v_7), i_8, 0, g_9, g_10, g_11, g_12, g_13, fc2), rfl, trivial, ⟨by rw [ht]; exact hP.sub (ws' := [(m0, .inr (6, [.ref st, .ref im, .ref kq, .ref pw, .ref nx, .ref li, .int (nI v_7), .ref il, .ref mv, .ref so, .ref la, .int i_8, .int 0, .ref co])), (st, .inl (cyI, 72, .inl fs)), (pw, .inl (cyI, 11, .inl fp)), (li, .inl (cyI, 59049, .inl g_9)), (il, .inl (cyZ, 59049, .inl g_10)), (mv, .inl (cyI, 59049, .inl g_11)), (so, .inl (cyI, 59049, .inl g_12)), (la, .inl (cyI, 59049, .inl g_13)), (co, .inl (cyI, 10, .inl fc2))]) [0, 1, 2, 3, 4, 5, 6, 7, 8] rfl, hD.sub (ws' := [(m0, .inr (6, [.ref st, .ref im, .ref kq, .ref pw, .ref nx, .ref li, .int (nI v_7), .ref il, .ref mv, .ref so, .ref la, .int i_8, .int 0, .ref co])), (st, .inl (cyI, 72, .inl fs)), (pw, .inl (cyI, 11, .inl fp)), (li, .inl (cyI, 59049, .inl g_9)), (il, .inl (cyZ, 59049, .inl g_10)), (mv, .inl (cyI, 59049, .inl g_11)), (so, .inl (cyI, 59049, .inl g_12)), (la, .inl (cyI, 59049, .inl g_13)), (co, .inl (cyI, 10, .inl fc2))]) [0, 1, 2, 3, 4, 5, 6, 7, 8] (by decide) rfl⟩⟩, hS.F ht⟩) hS.2.2 dX8_first_103
            · skip
              have ic_20 := ci_nle (rfl : Int32.toInt x_19 = _) (show Int32.toInt 0 = 0 by decide) c_20
              refine lv_iload_n hx hb dX8_first_54 rfl (lv_at hl 1 rfl) ?_
              refine lv_iload hx hb dX8_first_55 (lv_at hl 4 rfl) ?_
              refine lv_iload_n hx hb dX8_first_57 rfl (lv_at hl 3 rfl) ?_
              refine vp_callSi (va_Run.run (va_runS (As := [.int p1, .int x9, .int (nI av)]) (rest := []) ⟨hx, hb, hml, hown, hts⟩ (mX8_mayBe l dC dI cyI cyZ p1 x9 (nI av) ) (va_cwS 3 hts gX8_first_X8_mayBe rfl rfl rfl (by decide +kernel) ⟨Nat.le_of_ble_eq_true rfl, Nat.le_of_ble_eq_true rfl⟩) (bs_RS hB (hP.sub (ws' := []) [] rfl)) rfl rfl hl.1 rfl (lv_room (Nat.le_of_ble_eq_true rfl)) dX8_first_58 ⟨Nat.le_of_ble_eq_true rfl, Nat.le_of_ble_eq_true rfl⟩)) (fun r_21 hr_21 => ?_)
              refine lv_if_eq (tgt := 90) hx hb dX8_first_61 (by decide) (fun c_22 => ?_) (fun c_22 => ?_)
              · skip
                have ic_22 := ci_eq (rfl : Int32.toInt r_21 = _) (show Int32.toInt 0 = 0 by decide) c_22
                refine lv_iload hx hb dX8_first_90 (lv_at hl 4 rfl) ?_
                refine lv_iload_n hx hb dX8_first_92 rfl (lv_at hl 3 rfl) ?_
                refine lv_isub hx hb dX8_first_93 ?_
                refine lv_topi (fun x_23 ex_23 => ?_)
                refine lv_iload_n hx hb dX8_first_94 rfl (lv_at hl 3 rfl) ?_
                refine lv_iand hx hb dX8_first_95 ?_
                refine lv_topi (fun x_24 ex_24 => ?_)
                have ey1 := mn_subs hx9 ex_23 ex_24
                obtain ⟨z1, hz1, ez1, dz1⟩ := mn_sub (a := av) (z := z) hz9
                have ey2 : x_24 = nI av - nI z1 := ey1.trans ez1
                have hq2 : x_24 = 0 ∧ 1 ≤ n40 ∨ z1 + 2 ≤ n40 := dz1.elim (fun q => Or.inr (by omega)) (fun q => Or.inl ⟨ey1.trans q, by omega⟩)
                refine lv_istore (lv' := [(4, .int x_24), (0, .ref m0), (1, .int p1), (2, .int (nI (mn_code wq n))), (3, .int (nI av))]) hx hb dX8_first_96 hl (by decide) rfl (fun ls hl => ?_)
                refine lv_goto (tgt := 40) hx hb dX8_first_98 (by decide) ?_
                exact ih40 z1 x_24 fc2 ey2 hz1 hq2  _ _ (hP.sub [0, 1, 2, 3, 4, 5, 6, 7, 8] rfl) (hD.sub [0, 1, 2, 3, 4, 5, 6, 7, 8] (by decide) rfl) hS _ (lv_sub hl [1, 2, 3, 4, 0] rfl)
              · skip
                have ic_22 := ci_ne (rfl : Int32.toInt r_21 = _) (show Int32.toInt 0 = 0 by decide) c_22
                refine lv_aload_n hx hb dX8_first_64 rfl (lv_at hl 0 rfl) ?_
                refine va_get (D := (dC, dI)) (ci := 6) (v := .ref so) (C := RX8) (T := TX8) (N := 14) hx hb hts hnX8_first_X8 hown hK hP 0 rfl rfl 9 (by decide) (hts (.fieldLink RX8 36 "RingMeetsModel" "soon" "[I") (by decide +kernel)) (fun _ h9 => h9) rfl dX8_first_65 ?_
                refine lv_aload_n hx hb dX8_first_68 rfl (lv_at hl 0 rfl) ?_
                refine lv_iload_n hx hb dX8_first_69 rfl (lv_at hl 2 rfl) ?_
                refine lv_iload hx hb dX8_first_70 (lv_at hl 4 rfl) ?_
                have f_25 := va_free (wc := [(m0, .inr (6, [.ref st, .ref im, .ref kq, .ref pw, .ref nx, .ref li, .int (nI v_7), .ref il, .ref mv, .ref so, .ref la, .int i_8, .int 0, .ref co])), (st, .inl (cyI, 72, .inl fs)), (pw, .inl (cyI, 11, .inl fp)), (mv, .inl (cyI, 59049, .inl g_11)), (co, .inl (cyI, 10, .inl fc2))]) hD hS hA [0, 1, 2, 5, 8] rfl
                refine va_calli (va_runV (As := [.int (nI (mn_code wq n)), .int x9]) (rest := [.ref so]) ⟨hx, hb, hml, hown, hts⟩ (mX8_behindStep l dC dI cyI cyZ m0 st im kq pw nx li il mv so la co (nI v_7) i_8 0 n fs fp (mn_code wq n) g_11 fc2 x9 hn3 hn h0f hp (by omega) _) (cwV 2 hts gX8_first_X8_behindStep rfl rfl rfl (by decide +kernel) ⟨Nat.le_of_ble_eq_true rfl, Nat.le_of_ble_eq_true rfl⟩) (bs_WV hB (hP.sub (ws' := [(m0, .inr (6, [.ref st, .ref im, .ref kq, .ref pw, .ref nx, .ref li, .int (nI v_7), .ref il, .ref mv, .ref so, .ref la, .int i_8, .int 0, .ref co])), (st, .inl (cyI, 72, .inl fs)), (pw, .inl (cyI, 11, .inl fp)), (mv, .inl (cyI, 59049, .inl g_11)), (co, .inl (cyI, 10, .inl fc2))]) [0, 1, 2, 5, 8] rfl) (hD.sub (ws' := [(m0, .inr (6, [.ref st, .ref im, .ref kq, .ref pw, .ref nx, .ref li, .int (nI v_7), .ref il, .ref mv, .ref so, .ref la, .int i_8, .int 0, .ref co])), (st, .inl (cyI, 72, .inl fs)), (pw, .inl (cyI, 11, .inl fp)), (mv, .inl (cyI, 59049, .inl g_11)), (co, .inl (cyI, 10, .inl fc2))]) [0, 1, 2, 5, 8] (by decide) rfl) 0 rfl rfl) rfl rfl hl.1 rfl (lv_room (Nat.le_of_ble_eq_true rfl)) dX8_first_72 ⟨Nat.le_of_ble_eq_true rfl, Nat.le_of_ble_eq_true rfl⟩) hS (fun q _ h => f_25 q h) f_25 (fun rh_26 uh_26 t H1 locs ht hvm h_26 hB1 hz1 hk1 hS => ?_)
                obtain ⟨g_27, rfl⟩ : ∃ z, z = uh_26 := ⟨_, rfl⟩
                obtain ⟨hP1, hD1⟩ := hB1
                rw [ht] at hP1
                obtain ⟨hP, hD⟩ := va_join (wr := [(li, .inl (cyI, 59049, .inl g_9)), (il, .inl (cyZ, 59049, .inl g_10)), (so, .inl (cyI, 59049, .inl g_12)), (la, .inl (cyI, 59049, .inl g_13))]) (w1 := [(m0, .inr (6, [.ref st, .ref im, .ref kq, .ref pw, .ref nx, .ref li, .int (nI v_7), .ref il, .ref mv, .ref so, .ref la, .int i_8, .int 0, .ref co])), (st, .inl (cyI, 72, .inl fs)), (pw, .inl (cyI, 11, .inl fp)), (mv, .inl (cyI, 59049, .inl g_11)), (co, .inl (cyI, 10, .inl g_27))]) hP hD [0, 1, 2, 5, 8] [3, 4, 6, 7] rfl rfl (by decide) (by decide) hk1 f_25 hP1 hD1
                generalize H1 = H at hP hS ⊢
                have hP : va_P (dC, dI) vwCl [(li, .inl (cyI, 59049, .inl g_9)), (il, .inl (cyZ, 59049, .inl g_10)), (so, .inl (cyI, 59049, .inl g_12)), (la, .inl (cyI, 59049, .inl g_13)), (m0, .inr (6, [.ref st, .ref im, .ref kq, .ref pw, .ref nx, .ref li, .int (nI v_7), .ref il, .ref mv, .ref so, .ref la, .int i_8, .int 0, .ref co])), (st, .inl (cyI, 72, .inl fs)), (pw, .inl (cyI, 11, .inl fp)), (mv, .inl (cyI, 59049, .inl g_11)), (co, .inl (cyI, 10, .inl g_27))] _ := hP
                have hD : va_D A [(li, .inl (cyI, 59049, .inl g_9)), (il, .inl (cyZ, 59049, .inl g_10)), (so, .inl (cyI, 59049, .inl g_12)), (la, .inl (cyI, 59049, .inl g_13)), (m0, .inr (6, [.ref st, .ref im, .ref kq, .ref pw, .ref nx, .ref li, .int (nI v_7), .ref il, .ref mv, .ref so, .ref la, .int i_8, .int 0, .ref co])), (st, .inl (cyI, 72, .inl fs)), (pw, .inl (cyI, 11, .inl fp)), (mv, .inl (cyI, 59049, .inl g_11)), (co, .inl (cyI, 10, .inl g_27))] := hD
                have h_26 : ∃ v : Nat, v < 3 ^ n ∧ rh_26 = nI v := h_26
                obtain ⟨v_28, lv_28, ev_28⟩ := h_26
                obtain rfl : nI v_28 = rh_26 := Eq.symm ev_28
                have hv9 := mn_c9 hn lv_28
                refine va_iald (D := (dC, dI)) hx hb hK hP 2 0 rfl rfl (vp_in_nI (n := v_28) (N := 59049) (by omega) (by omega)) dX8_first_75 ?_
                refine lv_topi (fun x_29 ex_29 => ?_)
                rw [nI_clamp (n := v_28) (by omega)] at ex_29
                refine lv_aload_n hx hb dX8_first_76 rfl (lv_at hl 0 rfl) ?_
                refine va_get (D := (dC, dI)) (ci := 6) (v := .ref so) (C := RX8) (T := TX8) (N := 14) hx hb hts hnX8_first_X8 hown hK hP 4 rfl rfl 9 (by decide) (hts (.fieldLink RX8 36 "RingMeetsModel" "soon" "[I") (by decide +kernel)) (fun _ h9 => h9) rfl dX8_first_77 ?_
                refine lv_iload_n hx hb dX8_first_80 rfl (lv_at hl 2 rfl) ?_
                refine va_iald (D := (dC, dI)) hx hb hK hP 2 0 rfl rfl (vp_in_nI (n := (mn_code wq n)) (N := 59049) (by omega) (by omega)) dX8_first_81 ?_
                refine lv_topi (fun x_30 ex_30 => ?_)
                rw [nI_clamp (n := (mn_code wq n)) (by omega)] at ex_30
                refine lv_iconst (v := 1) hx hb dX8_first_82 (by decide) ?_
                refine lv_isub hx hb dX8_first_83 ?_
                refine lv_topi (fun x_31 ex_31 => ?_)
                refine lv_icmp_ne (tgt := 90) hx hb dX8_first_84 (by decide) (fun c_32 => ?_) (fun c_32 => ?_)
                · skip
                  have ic_32 := ci_ne (rfl : Int32.toInt x_29 = _) (rfl : Int32.toInt x_31 = _) c_32
                  refine lv_iload hx hb dX8_first_90 (lv_at hl 4 rfl) ?_
                  refine lv_iload_n hx hb dX8_first_92 rfl (lv_at hl 3 rfl) ?_
                  refine lv_isub hx hb dX8_first_93 ?_
                  refine lv_topi (fun x_33 ex_33 => ?_)
                  refine lv_iload_n hx hb dX8_first_94 rfl (lv_at hl 3 rfl) ?_
                  refine lv_iand hx hb dX8_first_95 ?_
                  refine lv_topi (fun x_34 ex_34 => ?_)
                  have ey1 := mn_subs hx9 ex_33 ex_34
                  obtain ⟨z1, hz1, ez1, dz1⟩ := mn_sub (a := av) (z := z) hz9
                  have ey2 : x_34 = nI av - nI z1 := ey1.trans ez1
                  have hq2 : x_34 = 0 ∧ 1 ≤ n40 ∨ z1 + 2 ≤ n40 := dz1.elim (fun q => Or.inr (by omega)) (fun q => Or.inl ⟨ey1.trans q, by omega⟩)
                  refine lv_istore (lv' := [(4, .int x_34), (0, .ref m0), (1, .int p1), (2, .int (nI (mn_code wq n))), (3, .int (nI av))]) hx hb dX8_first_96 hl (by decide) rfl (fun ls hl => ?_)
                  refine lv_goto (tgt := 40) hx hb dX8_first_98 (by decide) ?_
                  exact ih40 z1 x_34 g_27 ey2 hz1 hq2  _ _ (hP.sub [4, 5, 6, 0, 1, 7, 2, 3, 8] rfl) (hD.sub [4, 5, 6, 0, 1, 7, 2, 3, 8] (by decide) rfl) hS _ (lv_sub hl [1, 2, 3, 4, 0] rfl)
                · skip
                  have ic_32 := ci_eq (rfl : Int32.toInt x_29 = _) (rfl : Int32.toInt x_31 = _) c_32
                  refine lv_iload hx hb dX8_first_87 (lv_at hl 4 rfl) ?_
                  exact W.iret (v := x9) hx hb hr (fun t ht hW => ⟨⟨x9, ((nI v_7), i_8, 0, g_9, g_10, g_11, g_12, g_13, g_27), rfl, trivial, ⟨by rw [ht]; exact hP.sub (ws' := [(m0, .inr (6, [.ref st, .ref im, .ref kq, .ref pw, .ref nx, .ref li, .int (nI v_7), .ref il, .ref mv, .ref so, .ref la, .int i_8, .int 0, .ref co])), (st, .inl (cyI, 72, .inl fs)), (pw, .inl (cyI, 11, .inl fp)), (li, .inl (cyI, 59049, .inl g_9)), (il, .inl (cyZ, 59049, .inl g_10)), (mv, .inl (cyI, 59049, .inl g_11)), (so, .inl (cyI, 59049, .inl g_12)), (la, .inl (cyI, 59049, .inl g_13)), (co, .inl (cyI, 10, .inl g_27))]) [4, 5, 6, 0, 1, 7, 2, 3, 8] rfl, hD.sub (ws' := [(m0, .inr (6, [.ref st, .ref im, .ref kq, .ref pw, .ref nx, .ref li, .int (nI v_7), .ref il, .ref mv, .ref so, .ref la, .int i_8, .int 0, .ref co])), (st, .inl (cyI, 72, .inl fs)), (pw, .inl (cyI, 11, .inl fp)), (li, .inl (cyI, 59049, .inl g_9)), (il, .inl (cyZ, 59049, .inl g_10)), (mv, .inl (cyI, 59049, .inl g_11)), (so, .inl (cyI, 59049, .inl g_12)), (la, .inl (cyI, 59049, .inl g_13)), (co, .inl (cyI, 10, .inl g_27))]) [4, 5, 6, 0, 1, 7, 2, 3, 8] (by decide) rfl⟩⟩, hS.F ht⟩) hS.2.2 dX8_first_89
      exact L40 (av + 2) z0 x_17 g_14 ey0 hz0 (Or.inr (by omega))  _ _ (hP.sub [0, 1, 2, 3, 4, 5, 6, 7, 8] rfl) (hD.sub [0, 1, 2, 3, 4, 5, 6, 7, 8] (by decide) rfl) hS _ (lv_sub hl [3, 4, 2, 1, 0] rfl)
    · skip
      have ic_4 := ci_eq (nI_toInt (n := (mn_code wq n)) (by omega)) (show Int32.toInt 0 = 0 by decide) c_4
      refine lv_bipush (v := (-3)) hx hb dX8_first_19 (by decide) ?_
      exact W.iret (v := (-3)) hx hb hr (fun t ht hW => ⟨⟨(-3), (d6, d11, d12, lf, ilf, mf, fso, fla, fc), rfl, trivial, ⟨by rw [ht]; exact hP.sub (ws' := [(m0, .inr (6, [.ref st, .ref im, .ref kq, .ref pw, .ref nx, .ref li, .int d6, .ref il, .ref mv, .ref so, .ref la, .int d11, .int d12, .ref co])), (st, .inl (cyI, 72, .inl fs)), (pw, .inl (cyI, 11, .inl fp)), (li, .inl (cyI, 59049, .inl lf)), (il, .inl (cyZ, 59049, .inl ilf)), (mv, .inl (cyI, 59049, .inl mf)), (so, .inl (cyI, 59049, .inl fso)), (la, .inl (cyI, 59049, .inl fla)), (co, .inl (cyI, 10, .inl fc))]) [0, 1, 2, 3, 4, 5, 6, 7, 8] rfl, hD.sub (ws' := [(m0, .inr (6, [.ref st, .ref im, .ref kq, .ref pw, .ref nx, .ref li, .int d6, .ref il, .ref mv, .ref so, .ref la, .int d11, .int d12, .ref co])), (st, .inl (cyI, 72, .inl fs)), (pw, .inl (cyI, 11, .inl fp)), (li, .inl (cyI, 59049, .inl lf)), (il, .inl (cyZ, 59049, .inl ilf)), (mv, .inl (cyI, 59049, .inl mf)), (so, .inl (cyI, 59049, .inl fso)), (la, .inl (cyI, 59049, .inl fla)), (co, .inl (cyI, 10, .inl fc))]) [0, 1, 2, 3, 4, 5, 6, 7, 8] (by decide) rfl⟩⟩, hS.F ht⟩) hS.2.2 dX8_first_21
  · skip
    have ic_2 := ci_eq (rfl : Int32.toInt r_1 = _) (show Int32.toInt 0 = 0 by decide) c_2
    refine lv_bipush (v := (-2)) hx hb dX8_first_7 (by decide) ?_
    exact W.iret (v := (-2)) hx hb hr (fun t ht hW => ⟨⟨(-2), (d6, d11, d12, lf, ilf, mf, fso, fla, fc), rfl, trivial, ⟨by rw [ht]; exact hP.sub (ws' := [(m0, .inr (6, [.ref st, .ref im, .ref kq, .ref pw, .ref nx, .ref li, .int d6, .ref il, .ref mv, .ref so, .ref la, .int d11, .int d12, .ref co])), (st, .inl (cyI, 72, .inl fs)), (pw, .inl (cyI, 11, .inl fp)), (li, .inl (cyI, 59049, .inl lf)), (il, .inl (cyZ, 59049, .inl ilf)), (mv, .inl (cyI, 59049, .inl mf)), (so, .inl (cyI, 59049, .inl fso)), (la, .inl (cyI, 59049, .inl fla)), (co, .inl (cyI, 10, .inl fc))]) [0, 1, 2, 3, 4, 5, 6, 7, 8] rfl, hD.sub (ws' := [(m0, .inr (6, [.ref st, .ref im, .ref kq, .ref pw, .ref nx, .ref li, .int d6, .ref il, .ref mv, .ref so, .ref la, .int d11, .int d12, .ref co])), (st, .inl (cyI, 72, .inl fs)), (pw, .inl (cyI, 11, .inl fp)), (li, .inl (cyI, 59049, .inl lf)), (il, .inl (cyZ, 59049, .inl ilf)), (mv, .inl (cyI, 59049, .inl mf)), (so, .inl (cyI, 59049, .inl fso)), (la, .inl (cyI, 59049, .inl fla)), (co, .inl (cyI, 10, .inl fc))]) [0, 1, 2, 3, 4, 5, 6, 7, 8] (by decide) rfl⟩⟩, hS.F ht⟩) hS.2.2 dX8_first_9

set_option maxHeartbeats 4000000 in
set_option maxRecDepth 100000 in
theorem mX8_all (l : Launch) (dC : Nat → ClassId) (dI : Nat → Nat → Nat) (cyI cyZ : ClassId) (m0 : Nat) (st : Nat) (im : Nat) (kq : Nat) (pw : Nat) (nx : Nat) (li : Nat) (il : Nat) (mv : Nat) (so : Nat) (la : Nat) (co : Nat) (d6 : Int32) (d11 : Int32) (d12 : Int32) (n : Nat) (fs : Nat → Int32) (fp : Nat → Int32) (wq : Nat → Nat) (zz : Nat) (lf : Nat → Int32) (ilf : Nat → Int32) (mf : Nat → Int32) (fso : Nat → Int32) (fla : Nat → Int32) (fc : Nat → Int32) (p1 : Int32) (p2 : Int32) (p3 : Int32) (hn3 : 3 ≤ n) (hn : n ≤ 10) (h0f : fs 0 = nI n) (hwk : ∀ j, j < 10 → fs (1 + j) = nI (wq j)) (hws : mn_sum wq 10 ≤ 5) (hp : ∀ j, j ≤ 10 → fp j = nI (3 ^ j)) (hzf : fs 11 = nI zz) (hz10 : zz ≤ 10) (sz : Nat) : Met l yX8_all wsX8_all ({ frames := 10, cells := 0, slots := 0, locals := 245 }) (bs_W dC dI cyI cyZ [.ref m0, .int p1, .int p2, .int p3] [(m0, .inr (6, [.ref st, .ref im, .ref kq, .ref pw, .ref nx, .ref li, .int d6, .ref il, .ref mv, .ref so, .ref la, .int d11, .int d12, .ref co])), (st, .inl (cyI, 72, .inl fs)), (pw, .inl (cyI, 11, .inl fp)), (li, .inl (cyI, 59049, .inl lf)), (il, .inl (cyZ, 59049, .inl ilf)), (mv, .inl (cyI, 59049, .inl mf)), (so, .inl (cyI, 59049, .inl fso)), (la, .inl (cyI, 59049, .inl fla)), (co, .inl (cyI, 10, .inl fc))] sz) (va_Qi (S := Int32 × Int32 × Int32 × (Nat → Int32) × (Nat → Int32) × (Nat → Int32) × (Nat → Int32) × (Nat → Int32) × (Nat → Int32)) (fun (r : Int32) (q : Int32 × Int32 × Int32 × (Nat → Int32) × (Nat → Int32) × (Nat → Int32) × (Nat → Int32) × (Nat → Int32) × (Nat → Int32)) => True) (fun q t => bs_E dC dI (va_A [(m0, .inr (6, [.ref st, .ref im, .ref kq, .ref pw, .ref nx, .ref li, .int d6, .ref il, .ref mv, .ref so, .ref la, .int d11, .int d12, .ref co])), (st, .inl (cyI, 72, .inl fs)), (pw, .inl (cyI, 11, .inl fp)), (li, .inl (cyI, 59049, .inl lf)), (il, .inl (cyZ, 59049, .inl ilf)), (mv, .inl (cyI, 59049, .inl mf)), (so, .inl (cyI, 59049, .inl fso)), (la, .inl (cyI, 59049, .inl fla)), (co, .inl (cyI, 10, .inl fc))] sz) [(m0, .inr (6, [.ref st, .ref im, .ref kq, .ref pw, .ref nx, .ref li, .int q.1, .ref il, .ref mv, .ref so, .ref la, .int q.2.1, .int q.2.2.1, .ref co])), (st, .inl (cyI, 72, .inl fs)), (pw, .inl (cyI, 11, .inl fp)), (li, .inl (cyI, 59049, .inl q.2.2.2.1)), (il, .inl (cyZ, 59049, .inl q.2.2.2.2.1)), (mv, .inl (cyI, 59049, .inl q.2.2.2.2.2.1)), (so, .inl (cyI, 59049, .inl q.2.2.2.2.2.2.1)), (la, .inl (cyI, 59049, .inl q.2.2.2.2.2.2.2.1)), (co, .inl (cyI, 10, .inl q.2.2.2.2.2.2.2.2))] t) (va_A [(m0, .inr (6, [.ref st, .ref im, .ref kq, .ref pw, .ref nx, .ref li, .int d6, .ref il, .ref mv, .ref so, .ref la, .int d11, .int d12, .ref co])), (st, .inl (cyI, 72, .inl fs)), (pw, .inl (cyI, 11, .inl fp)), (li, .inl (cyI, 59049, .inl lf)), (il, .inl (cyZ, 59049, .inl ilf)), (mv, .inl (cyI, 59049, .inl mf)), (so, .inl (cyI, 59049, .inl fso)), (la, .inl (cyI, 59049, .inl fla)), (co, .inl (cyI, 10, .inl fc))] sz)) 0 0 (va_A [(m0, .inr (6, [.ref st, .ref im, .ref kq, .ref pw, .ref nx, .ref li, .int d6, .ref il, .ref mv, .ref so, .ref la, .int d11, .int d12, .ref co])), (st, .inl (cyI, 72, .inl fs)), (pw, .inl (cyI, 11, .inl fp)), (li, .inl (cyI, 59049, .inl lf)), (il, .inl (cyZ, 59049, .inl ilf)), (mv, .inl (cyI, 59049, .inl mf)), (so, .inl (cyI, 59049, .inl fso)), (la, .inl (cyI, 59049, .inl fla)), (co, .inl (cyI, 10, .inl fc))] sz) := by
  refine Met.ofW (cc := cX8_all) (maxL := 6) (ret := (some .int)) (by decide) rfl ?_
  intro p e s m args below meth c s₁ B hml hv
  obtain ⟨rfl, hsz, hB, hP, hD0⟩ := hv
  have hK := hB.1
  have hN := hB.2
  have hx := B.exec
  have hb := B.bytes
  have hr := B.returns
  have hts := atoms_spec (ws := wsX8_all) B.pre
  have hown : s.vm.findClass RX8 = some m.cls := findClass_of_methodNamed B.named
  have hlocks := B.notSynchronized
  subst hsz
  have hD := hD0.self (sz := s.heap.size)
  generalize hAe : va_A [(m0, .inr (6, [.ref st, .ref im, .ref kq, .ref pw, .ref nx, .ref li, .int d6, .ref il, .ref mv, .ref so, .ref la, .int d11, .int d12, .ref co])), (st, .inl (cyI, 72, .inl fs)), (pw, .inl (cyI, 11, .inl fp)), (li, .inl (cyI, 59049, .inl lf)), (il, .inl (cyZ, 59049, .inl ilf)), (mv, .inl (cyI, 59049, .inl mf)), (so, .inl (cyI, 59049, .inl fso)), (la, .inl (cyI, 59049, .inl fla)), (co, .inl (cyI, 10, .inl fc))] s.heap.size = A at hD ⊢
  have hA : ∀ q : Nat, s.heap.size ≤ q → A q := fun q h => by rw [← hAe]; exact Or.inr h
  have hS : va_S A s.heap s.heap [] := va_S.rf
  have hP : va_P (dC, dI) vwCl [(m0, .inr (6, [.ref st, .ref im, .ref kq, .ref pw, .ref nx, .ref li, .int d6, .ref il, .ref mv, .ref so, .ref la, .int d11, .int d12, .ref co])), (st, .inl (cyI, 72, .inl fs)), (pw, .inl (cyI, 11, .inl fp)), (li, .inl (cyI, 59049, .inl lf)), (il, .inl (cyZ, 59049, .inl ilf)), (mv, .inl (cyI, 59049, .inl mf)), (so, .inl (cyI, 59049, .inl fso)), (la, .inl (cyI, 59049, .inl fla)), (co, .inl (cyI, 10, .inl fc))] s.heap := hP
  have hl := lv_entry ([.ref m0, .int p1, .int p2, .int p3]) (n := 6) (Nat.le_of_ble_eq_true rfl)
  rw [lg_entry_eq]
  generalize (lg_sl ([.ref m0, .int p1, .int p2, .int p3]) ++ List.replicate (6 - (lg_sl ([.ref m0, .int p1, .int p2, .int p3])).length) Slot.unset).toArray = ls at hl ⊢
  have hl : lv_has ls 6 [(0, .ref m0), (1, .int p1), (2, .int p2), (3, .int p3)] := hl
  refine lv_iload_n hx hb dX8_all_0 rfl (lv_at hl 1 rfl) ?_
  refine lv_iconst (v := 1) hx hb dX8_all_1 (by decide) ?_
  refine lv_iconst (v := 5) hx hb dX8_all_2 (by decide) ?_
  refine vp_callSi (va_Run.run (va_runS (As := [.int p1, .int 1, .int 5]) (rest := []) ⟨hx, hb, hml, hown, hts⟩ (mX8_in l dC dI cyI cyZ p1 1 5 1 5 (by decide) (by decide)) (va_cwS 3 hts gX8_all_X8_in rfl rfl rfl (by decide +kernel) ⟨Nat.le_of_ble_eq_true rfl, Nat.le_of_ble_eq_true rfl⟩) (bs_RS hB (hP.sub (ws' := []) [] rfl)) rfl rfl hl.1 rfl (lv_room (Nat.le_of_ble_eq_true rfl)) dX8_all_3 ⟨Nat.le_of_ble_eq_true rfl, Nat.le_of_ble_eq_true rfl⟩)) (fun r_1 hr_1 => ?_)
  refine lv_if_eq (tgt := 33) hx hb dX8_all_6 (by decide) (fun c_2 => ?_) (fun c_2 => ?_)
  · skip
    have ic_2 := ci_eq (rfl : Int32.toInt r_1 = _) (show Int32.toInt 0 = 0 by decide) c_2
    refine lv_bipush (v := (-2)) hx hb dX8_all_33 (by decide) ?_
    exact W.iret (v := (-2)) hx hb hr (fun t ht hW => ⟨⟨(-2), (d6, d11, d12, lf, ilf, mf, fso, fla, fc), rfl, trivial, ⟨by rw [ht]; exact hP.sub (ws' := [(m0, .inr (6, [.ref st, .ref im, .ref kq, .ref pw, .ref nx, .ref li, .int d6, .ref il, .ref mv, .ref so, .ref la, .int d11, .int d12, .ref co])), (st, .inl (cyI, 72, .inl fs)), (pw, .inl (cyI, 11, .inl fp)), (li, .inl (cyI, 59049, .inl lf)), (il, .inl (cyZ, 59049, .inl ilf)), (mv, .inl (cyI, 59049, .inl mf)), (so, .inl (cyI, 59049, .inl fso)), (la, .inl (cyI, 59049, .inl fla)), (co, .inl (cyI, 10, .inl fc))]) [0, 1, 2, 3, 4, 5, 6, 7, 8] rfl, hD.sub (ws' := [(m0, .inr (6, [.ref st, .ref im, .ref kq, .ref pw, .ref nx, .ref li, .int d6, .ref il, .ref mv, .ref so, .ref la, .int d11, .int d12, .ref co])), (st, .inl (cyI, 72, .inl fs)), (pw, .inl (cyI, 11, .inl fp)), (li, .inl (cyI, 59049, .inl lf)), (il, .inl (cyZ, 59049, .inl ilf)), (mv, .inl (cyI, 59049, .inl mf)), (so, .inl (cyI, 59049, .inl fso)), (la, .inl (cyI, 59049, .inl fla)), (co, .inl (cyI, 10, .inl fc))]) [0, 1, 2, 3, 4, 5, 6, 7, 8] (by decide) rfl⟩⟩, hS.F ht⟩) hS.2.2 dX8_all_35
  · skip
    have ic_2 := ci_ne (rfl : Int32.toInt r_1 = _) (show Int32.toInt 0 = 0 by decide) c_2
    refine lv_iload_n hx hb dX8_all_9 rfl (lv_at hl 1 rfl) ?_
    refine lv_aload_n hx hb dX8_all_10 rfl (lv_at hl 0 rfl) ?_
    refine vp_callSi (va_Run.run (va_runV (As := []) (rest := [.int p1]) ⟨hx, hb, hml, hown, hts⟩ (mX8_cells l dC dI cyI cyZ m0 st im kq pw nx li il mv so la co d6 d11 d12 n fs hn3 hn h0f) (cwV 0 hts gX8_all_X8_cells rfl rfl rfl (by decide +kernel) ⟨Nat.le_of_ble_eq_true rfl, Nat.le_of_ble_eq_true rfl⟩) (bs_RV hB (hP.sub (ws' := [(m0, .inr (6, [.ref st, .ref im, .ref kq, .ref pw, .ref nx, .ref li, .int d6, .ref il, .ref mv, .ref so, .ref la, .int d11, .int d12, .ref co])), (st, .inl (cyI, 72, .inl fs))]) [0, 1] rfl) 0 rfl rfl) rfl rfl hl.1 rfl (lv_room (Nat.le_of_ble_eq_true rfl)) dX8_all_11 ⟨Nat.le_of_ble_eq_true rfl, Nat.le_of_ble_eq_true rfl⟩)) (fun r_3 hr_3 => ?_)
    obtain rfl : (nI n) = r_3 := Eq.symm hr_3
    refine lv_icmp_gt (tgt := 33) hx hb dX8_all_14 (by decide) (fun c_4 => ?_) (fun c_4 => ?_)
    · skip
      have ic_4 := ci_lt (nI_toInt (n := n) (by omega)) (rfl : Int32.toInt p1 = _) c_4
      refine lv_bipush (v := (-2)) hx hb dX8_all_33 (by decide) ?_
      exact W.iret (v := (-2)) hx hb hr (fun t ht hW => ⟨⟨(-2), (d6, d11, d12, lf, ilf, mf, fso, fla, fc), rfl, trivial, ⟨by rw [ht]; exact hP.sub (ws' := [(m0, .inr (6, [.ref st, .ref im, .ref kq, .ref pw, .ref nx, .ref li, .int d6, .ref il, .ref mv, .ref so, .ref la, .int d11, .int d12, .ref co])), (st, .inl (cyI, 72, .inl fs)), (pw, .inl (cyI, 11, .inl fp)), (li, .inl (cyI, 59049, .inl lf)), (il, .inl (cyZ, 59049, .inl ilf)), (mv, .inl (cyI, 59049, .inl mf)), (so, .inl (cyI, 59049, .inl fso)), (la, .inl (cyI, 59049, .inl fla)), (co, .inl (cyI, 10, .inl fc))]) [0, 1, 2, 3, 4, 5, 6, 7, 8] rfl, hD.sub (ws' := [(m0, .inr (6, [.ref st, .ref im, .ref kq, .ref pw, .ref nx, .ref li, .int d6, .ref il, .ref mv, .ref so, .ref la, .int d11, .int d12, .ref co])), (st, .inl (cyI, 72, .inl fs)), (pw, .inl (cyI, 11, .inl fp)), (li, .inl (cyI, 59049, .inl lf)), (il, .inl (cyZ, 59049, .inl ilf)), (mv, .inl (cyI, 59049, .inl mf)), (so, .inl (cyI, 59049, .inl fso)), (la, .inl (cyI, 59049, .inl fla)), (co, .inl (cyI, 10, .inl fc))]) [0, 1, 2, 3, 4, 5, 6, 7, 8] (by decide) rfl⟩⟩, hS.F ht⟩) hS.2.2 dX8_all_35
    · skip
      have ic_4 := ci_nlt (nI_toInt (n := n) (by omega)) (rfl : Int32.toInt p1 = _) c_4
      refine lv_iload_n hx hb dX8_all_17 rfl (lv_at hl 2 rfl) ?_
      refine vp_callSi (va_Run.run (va_runS (As := [.int p2]) (rest := []) ⟨hx, hb, hml, hown, hts⟩ (mX8_isSchedule l dC dI cyI cyZ p2 ) (va_cwS 1 hts gX8_all_X8_isSchedule rfl rfl rfl (by decide +kernel) ⟨Nat.le_of_ble_eq_true rfl, Nat.le_of_ble_eq_true rfl⟩) (bs_RS hB (hP.sub (ws' := []) [] rfl)) rfl rfl hl.1 rfl (lv_room (Nat.le_of_ble_eq_true rfl)) dX8_all_18 ⟨Nat.le_of_ble_eq_true rfl, Nat.le_of_ble_eq_true rfl⟩)) (fun r_5 hr_5 => ?_)
      refine lv_if_eq (tgt := 33) hx hb dX8_all_21 (by decide) (fun c_6 => ?_) (fun c_6 => ?_)
      · skip
        have ic_6 := ci_eq (rfl : Int32.toInt r_5 = _) (show Int32.toInt 0 = 0 by decide) c_6
        refine lv_bipush (v := (-2)) hx hb dX8_all_33 (by decide) ?_
        exact W.iret (v := (-2)) hx hb hr (fun t ht hW => ⟨⟨(-2), (d6, d11, d12, lf, ilf, mf, fso, fla, fc), rfl, trivial, ⟨by rw [ht]; exact hP.sub (ws' := [(m0, .inr (6, [.ref st, .ref im, .ref kq, .ref pw, .ref nx, .ref li, .int d6, .ref il, .ref mv, .ref so, .ref la, .int d11, .int d12, .ref co])), (st, .inl (cyI, 72, .inl fs)), (pw, .inl (cyI, 11, .inl fp)), (li, .inl (cyI, 59049, .inl lf)), (il, .inl (cyZ, 59049, .inl ilf)), (mv, .inl (cyI, 59049, .inl mf)), (so, .inl (cyI, 59049, .inl fso)), (la, .inl (cyI, 59049, .inl fla)), (co, .inl (cyI, 10, .inl fc))]) [0, 1, 2, 3, 4, 5, 6, 7, 8] rfl, hD.sub (ws' := [(m0, .inr (6, [.ref st, .ref im, .ref kq, .ref pw, .ref nx, .ref li, .int d6, .ref il, .ref mv, .ref so, .ref la, .int d11, .int d12, .ref co])), (st, .inl (cyI, 72, .inl fs)), (pw, .inl (cyI, 11, .inl fp)), (li, .inl (cyI, 59049, .inl lf)), (il, .inl (cyZ, 59049, .inl ilf)), (mv, .inl (cyI, 59049, .inl mf)), (so, .inl (cyI, 59049, .inl fso)), (la, .inl (cyI, 59049, .inl fla)), (co, .inl (cyI, 10, .inl fc))]) [0, 1, 2, 3, 4, 5, 6, 7, 8] (by decide) rfl⟩⟩, hS.F ht⟩) hS.2.2 dX8_all_35
      · skip
        have ic_6 := ci_ne (rfl : Int32.toInt r_5 = _) (show Int32.toInt 0 = 0 by decide) c_6
        refine lv_iload_n hx hb dX8_all_24 rfl (lv_at hl 3 rfl) ?_
        refine lv_iconst (v := 0) hx hb dX8_all_25 (by decide) ?_
        refine lv_iconst (v := 3) hx hb dX8_all_26 (by decide) ?_
        refine vp_callSi (va_Run.run (va_runS (As := [.int p3, .int 0, .int 3]) (rest := []) ⟨hx, hb, hml, hown, hts⟩ (mX8_in l dC dI cyI cyZ p3 0 3 0 3 (by decide) (by decide)) (va_cwS 3 hts gX8_all_X8_in rfl rfl rfl (by decide +kernel) ⟨Nat.le_of_ble_eq_true rfl, Nat.le_of_ble_eq_true rfl⟩) (bs_RS hB (hP.sub (ws' := []) [] rfl)) rfl rfl hl.1 rfl (lv_room (Nat.le_of_ble_eq_true rfl)) dX8_all_27 ⟨Nat.le_of_ble_eq_true rfl, Nat.le_of_ble_eq_true rfl⟩)) (fun r_7 hr_7 => ?_)
        refine lv_if_ne (tgt := 36) hx hb dX8_all_30 (by decide) (fun c_8 => ?_) (fun c_8 => ?_)
        · skip
          have ic_8 := ci_ne (rfl : Int32.toInt r_7 = _) (show Int32.toInt 0 = 0 by decide) c_8
          have hpw := nb_pw hn
          have hpw1 := nb_pw1 n
          refine lv_aload_n hx hb dX8_all_36 rfl (lv_at hl 0 rfl) ?_
          refine lv_iconst (v := 0) hx hb dX8_all_37 (by decide) ?_
          have f_9 := va_free (wc := [(m0, .inr (6, [.ref st, .ref im, .ref kq, .ref pw, .ref nx, .ref li, .int d6, .ref il, .ref mv, .ref so, .ref la, .int d11, .int d12, .ref co])), (il, .inl (cyZ, 59049, .inl ilf))]) hD hS hA [0, 4] rfl
          refine va_callv (va_runV (As := [.int 0]) (rest := []) ⟨hx, hb, hml, hown, hts⟩ (mX8_begin l dC dI cyI cyZ m0 st im kq pw nx li il mv so la co d6 d11 d12 ilf 0 (by decide) _) (cwV 1 hts gX8_all_X8_begin rfl rfl rfl (by decide +kernel) ⟨Nat.le_of_ble_eq_true rfl, Nat.le_of_ble_eq_true rfl⟩) (bs_WV hB (hP.sub (ws' := [(m0, .inr (6, [.ref st, .ref im, .ref kq, .ref pw, .ref nx, .ref li, .int d6, .ref il, .ref mv, .ref so, .ref la, .int d11, .int d12, .ref co])), (il, .inl (cyZ, 59049, .inl ilf))]) [0, 4] rfl) (hD.sub (ws' := [(m0, .inr (6, [.ref st, .ref im, .ref kq, .ref pw, .ref nx, .ref li, .int d6, .ref il, .ref mv, .ref so, .ref la, .int d11, .int d12, .ref co])), (il, .inl (cyZ, 59049, .inl ilf))]) [0, 4] (by decide) rfl) 0 rfl rfl) rfl rfl hl.1 rfl (lv_room (Nat.le_of_ble_eq_true rfl)) dX8_all_38 ⟨Nat.le_of_ble_eq_true rfl, Nat.le_of_ble_eq_true rfl⟩) hS (fun q _ h => f_9 q h) f_9 (fun uh_10 t H1 locs ht hvm h_10 hB1 hz1 hk1 hS => ?_)
          obtain ⟨g_11, rfl⟩ : ∃ z, z = uh_10 := ⟨_, rfl⟩
          obtain ⟨hP1, hD1⟩ := hB1
          rw [ht] at hP1
          obtain ⟨hP, hD⟩ := va_join (wr := [(st, .inl (cyI, 72, .inl fs)), (pw, .inl (cyI, 11, .inl fp)), (li, .inl (cyI, 59049, .inl lf)), (mv, .inl (cyI, 59049, .inl mf)), (so, .inl (cyI, 59049, .inl fso)), (la, .inl (cyI, 59049, .inl fla)), (co, .inl (cyI, 10, .inl fc))]) (w1 := [(m0, .inr (6, [.ref st, .ref im, .ref kq, .ref pw, .ref nx, .ref li, .int 0, .ref il, .ref mv, .ref so, .ref la, .int 0, .int 0, .ref co])), (il, .inl (cyZ, 59049, .inl g_11))]) hP hD [0, 4] [1, 2, 3, 5, 6, 7, 8] rfl rfl (by decide) (by decide) hk1 f_9 hP1 hD1
          generalize H1 = H at hP hS ⊢
          have hP : va_P (dC, dI) vwCl [(st, .inl (cyI, 72, .inl fs)), (pw, .inl (cyI, 11, .inl fp)), (li, .inl (cyI, 59049, .inl lf)), (mv, .inl (cyI, 59049, .inl mf)), (so, .inl (cyI, 59049, .inl fso)), (la, .inl (cyI, 59049, .inl fla)), (co, .inl (cyI, 10, .inl fc)), (m0, .inr (6, [.ref st, .ref im, .ref kq, .ref pw, .ref nx, .ref li, .int 0, .ref il, .ref mv, .ref so, .ref la, .int 0, .int 0, .ref co])), (il, .inl (cyZ, 59049, .inl g_11))] _ := hP
          have hD : va_D A [(st, .inl (cyI, 72, .inl fs)), (pw, .inl (cyI, 11, .inl fp)), (li, .inl (cyI, 59049, .inl lf)), (mv, .inl (cyI, 59049, .inl mf)), (so, .inl (cyI, 59049, .inl fso)), (la, .inl (cyI, 59049, .inl fla)), (co, .inl (cyI, 10, .inl fc)), (m0, .inr (6, [.ref st, .ref im, .ref kq, .ref pw, .ref nx, .ref li, .int 0, .ref il, .ref mv, .ref so, .ref la, .int 0, .int 0, .ref co])), (il, .inl (cyZ, 59049, .inl g_11))] := hD
          have hL : mn_L n 0 lf g_11 := mn_L_0
          refine lv_iconst (v := 1) hx hb dX8_all_41 (by decide) ?_
          refine lv_istore (lv' := [(4, .int 1), (0, .ref m0), (1, .int p1), (2, .int p2), (3, .int p3)]) hx hb dX8_all_42 hl (by decide) rfl (fun ls hl => ?_)
          have L44 : ∀ (n44 : Nat), ∀ (k L2 : Nat) (ub : Int32) (lf2 ilf2 mf2 : Nat → Int32), (1 ≤ k ∧ k ≤ 2 ^ n) → (2 ^ n + 1 ≤ k + n44) → (mn_L n L2 lf2 ilf2) → ∀ (H : Heap) (locs : List Loc), va_P (dC, dI) vwCl [(m0, .inr (6, [.ref st, .ref im, .ref kq, .ref pw, .ref nx, .ref li, .int (nI L2), .ref il, .ref mv, .ref so, .ref la, .int ub, .int 0, .ref co])), (st, .inl (cyI, 72, .inl fs)), (pw, .inl (cyI, 11, .inl fp)), (li, .inl (cyI, 59049, .inl lf2)), (il, .inl (cyZ, 59049, .inl ilf2)), (mv, .inl (cyI, 59049, .inl mf2)), (so, .inl (cyI, 59049, .inl fso)), (la, .inl (cyI, 59049, .inl fla)), (co, .inl (cyI, 10, .inl fc))] H → va_D A [(m0, .inr (6, [.ref st, .ref im, .ref kq, .ref pw, .ref nx, .ref li, .int (nI L2), .ref il, .ref mv, .ref so, .ref la, .int ub, .int 0, .ref co])), (st, .inl (cyI, 72, .inl fs)), (pw, .inl (cyI, 11, .inl fp)), (li, .inl (cyI, 59049, .inl lf2)), (il, .inl (cyZ, 59049, .inl ilf2)), (mv, .inl (cyI, 59049, .inl mf2)), (so, .inl (cyI, 59049, .inl fso)), (la, .inl (cyI, 59049, .inl fla)), (co, .inl (cyI, 10, .inl fc))] → va_S A s.heap H locs → ∀ (ls : Array Slot), lv_has ls 6 [(0, .ref m0), (1, .int p1), (2, .int p2), (3, .int p3), (4, .int (nI k))] → W p l e (headSpec wsX8_all ({ frames := 10, cells := 0, slots := 0, locals := 245 })).room s m ([.ref m0, .int p1, .int p2, .int p3] : List Value).toArray below meth c H locs 0 0 (MQ below (va_Qi (S := Int32 × Int32 × Int32 × (Nat → Int32) × (Nat → Int32) × (Nat → Int32) × (Nat → Int32) × (Nat → Int32) × (Nat → Int32)) (fun (r : Int32) (q : Int32 × Int32 × Int32 × (Nat → Int32) × (Nat → Int32) × (Nat → Int32) × (Nat → Int32) × (Nat → Int32) × (Nat → Int32)) => True) (fun q t => bs_E dC dI A [(m0, .inr (6, [.ref st, .ref im, .ref kq, .ref pw, .ref nx, .ref li, .int q.1, .ref il, .ref mv, .ref so, .ref la, .int q.2.1, .int q.2.2.1, .ref co])), (st, .inl (cyI, 72, .inl fs)), (pw, .inl (cyI, 11, .inl fp)), (li, .inl (cyI, 59049, .inl q.2.2.2.1)), (il, .inl (cyZ, 59049, .inl q.2.2.2.2.1)), (mv, .inl (cyI, 59049, .inl q.2.2.2.2.2.1)), (so, .inl (cyI, 59049, .inl q.2.2.2.2.2.2.1)), (la, .inl (cyI, 59049, .inl q.2.2.2.2.2.2.2.1)), (co, .inl (cyI, 10, .inl q.2.2.2.2.2.2.2.2))] t) A) ([.ref m0, .int p1, .int p2, .int p3] : List Value).toArray s 0 0 A) (F0 m 44 ls []) := by
            intro n44
            induction n44 with
            | zero =>
              intro k L2 ub lf2 ilf2 mf2 hk44 hn44 hL H locs hP hD hS ls hl
              exfalso
              omega
            | succ n44 ih44 =>
              intro k L2 ub lf2 ilf2 mf2 hk44 hn44 hL H locs hP hD hS ls hl
              refine lv_iload hx hb dX8_all_44 (lv_at hl 4 rfl) ?_
              refine lv_iconst (v := 1) hx hb dX8_all_46 (by decide) ?_
              refine lv_aload_n hx hb dX8_all_47 rfl (lv_at hl 0 rfl) ?_
              refine vp_callSi (va_Run.run (va_runV (As := []) (rest := [.int 1, .int (nI k)]) ⟨hx, hb, hml, hown, hts⟩ (mX8_cells l dC dI cyI cyZ m0 st im kq pw nx li il mv so la co (nI L2) ub 0 n fs hn3 hn h0f) (cwV 0 hts gX8_all_X8_cells rfl rfl rfl (by decide +kernel) ⟨Nat.le_of_ble_eq_true rfl, Nat.le_of_ble_eq_true rfl⟩) (bs_RV hB (hP.sub (ws' := [(m0, .inr (6, [.ref st, .ref im, .ref kq, .ref pw, .ref nx, .ref li, .int (nI L2), .ref il, .ref mv, .ref so, .ref la, .int ub, .int 0, .ref co])), (st, .inl (cyI, 72, .inl fs))]) [0, 1] rfl) 0 rfl rfl) rfl rfl hl.1 rfl (lv_room (Nat.le_of_ble_eq_true rfl)) dX8_all_48 ⟨Nat.le_of_ble_eq_true rfl, Nat.le_of_ble_eq_true rfl⟩)) (fun r_12 hr_12 => ?_)
              obtain rfl : (nI n) = r_12 := Eq.symm hr_12
              refine lv_ishl hx hb dX8_all_51 ?_
              refine lv_topi (fun x_13 ex_13 => ?_)
              obtain rfl : (nI (2 ^ n)) = x_13 := (ex_13.trans (nb_shl1 hn)).symm
              refine lv_icmp_ge (tgt := 80) hx hb dX8_all_52 (by decide) (fun c_14 => ?_) (fun c_14 => ?_)
              · skip
                have ic_14 := ci_le (nI_toInt (n := (2 ^ n)) (by omega)) (nI_toInt (n := k) (by omega)) c_14
                refine lv_aload_n hx hb dX8_all_80 rfl (lv_at hl 0 rfl) ?_
                refine lv_iload_n hx hb dX8_all_81 rfl (lv_at hl 2 rfl) ?_
                have f_15 := va_free (wc := [(m0, .inr (6, [.ref st, .ref im, .ref kq, .ref pw, .ref nx, .ref li, .int (nI L2), .ref il, .ref mv, .ref so, .ref la, .int ub, .int 0, .ref co])), (st, .inl (cyI, 72, .inl fs)), (pw, .inl (cyI, 11, .inl fp)), (li, .inl (cyI, 59049, .inl lf2)), (il, .inl (cyZ, 59049, .inl ilf2)), (mv, .inl (cyI, 59049, .inl mf2)), (so, .inl (cyI, 59049, .inl fso)), (la, .inl (cyI, 59049, .inl fla)), (co, .inl (cyI, 10, .inl fc))]) hD hS hA [0, 1, 2, 3, 4, 5, 6, 7, 8] rfl
                refine va_callv (va_runV (As := [.int p2]) (rest := []) ⟨hx, hb, hml, hown, hts⟩ (mX8_listAll l dC dI cyI cyZ m0 st im kq pw nx li il mv so la co L2 ub 0 n fs fp zz lf2 ilf2 mf2 fso fla fc p2 hn3 hn h0f hp hzf hz10 hL _) (cwV 1 hts gX8_all_X8_listAll rfl rfl rfl (by decide +kernel) ⟨Nat.le_of_ble_eq_true rfl, Nat.le_of_ble_eq_true rfl⟩) (bs_WV hB (hP.sub (ws' := [(m0, .inr (6, [.ref st, .ref im, .ref kq, .ref pw, .ref nx, .ref li, .int (nI L2), .ref il, .ref mv, .ref so, .ref la, .int ub, .int 0, .ref co])), (st, .inl (cyI, 72, .inl fs)), (pw, .inl (cyI, 11, .inl fp)), (li, .inl (cyI, 59049, .inl lf2)), (il, .inl (cyZ, 59049, .inl ilf2)), (mv, .inl (cyI, 59049, .inl mf2)), (so, .inl (cyI, 59049, .inl fso)), (la, .inl (cyI, 59049, .inl fla)), (co, .inl (cyI, 10, .inl fc))]) [0, 1, 2, 3, 4, 5, 6, 7, 8] rfl) (hD.sub (ws' := [(m0, .inr (6, [.ref st, .ref im, .ref kq, .ref pw, .ref nx, .ref li, .int (nI L2), .ref il, .ref mv, .ref so, .ref la, .int ub, .int 0, .ref co])), (st, .inl (cyI, 72, .inl fs)), (pw, .inl (cyI, 11, .inl fp)), (li, .inl (cyI, 59049, .inl lf2)), (il, .inl (cyZ, 59049, .inl ilf2)), (mv, .inl (cyI, 59049, .inl mf2)), (so, .inl (cyI, 59049, .inl fso)), (la, .inl (cyI, 59049, .inl fla)), (co, .inl (cyI, 10, .inl fc))]) [0, 1, 2, 3, 4, 5, 6, 7, 8] (by decide) rfl) 0 rfl rfl) rfl rfl hl.1 rfl (lv_room (Nat.le_of_ble_eq_true rfl)) dX8_all_82 ⟨Nat.le_of_ble_eq_true rfl, Nat.le_of_ble_eq_true rfl⟩) hS (fun q _ h => f_15 q h) f_15 (fun uh_16 t H1 locs ht hvm h_16 hB1 hz1 hk1 hS => ?_)
                obtain ⟨v_17, i_18, g_19, g_20, g_21, g_22, g_23, g_24⟩ := uh_16
                have h_16 : mn_L n v_17 g_19 g_20 := h_16
                obtain ⟨hP1, hD1⟩ := hB1
                rw [ht] at hP1
                obtain ⟨hP, hD⟩ := va_join (wr := []) (w1 := [(m0, .inr (6, [.ref st, .ref im, .ref kq, .ref pw, .ref nx, .ref li, .int (nI v_17), .ref il, .ref mv, .ref so, .ref la, .int i_18, .int 0, .ref co])), (st, .inl (cyI, 72, .inl fs)), (pw, .inl (cyI, 11, .inl fp)), (li, .inl (cyI, 59049, .inl g_19)), (il, .inl (cyZ, 59049, .inl g_20)), (mv, .inl (cyI, 59049, .inl g_21)), (so, .inl (cyI, 59049, .inl g_22)), (la, .inl (cyI, 59049, .inl g_23)), (co, .inl (cyI, 10, .inl g_24))]) hP hD [0, 1, 2, 3, 4, 5, 6, 7, 8] [] rfl rfl (by decide) (by decide) hk1 f_15 hP1 hD1
                generalize H1 = H at hP hS ⊢
                have hP : va_P (dC, dI) vwCl [(m0, .inr (6, [.ref st, .ref im, .ref kq, .ref pw, .ref nx, .ref li, .int (nI v_17), .ref il, .ref mv, .ref so, .ref la, .int i_18, .int 0, .ref co])), (st, .inl (cyI, 72, .inl fs)), (pw, .inl (cyI, 11, .inl fp)), (li, .inl (cyI, 59049, .inl g_19)), (il, .inl (cyZ, 59049, .inl g_20)), (mv, .inl (cyI, 59049, .inl g_21)), (so, .inl (cyI, 59049, .inl g_22)), (la, .inl (cyI, 59049, .inl g_23)), (co, .inl (cyI, 10, .inl g_24))] _ := hP
                have hD : va_D A [(m0, .inr (6, [.ref st, .ref im, .ref kq, .ref pw, .ref nx, .ref li, .int (nI v_17), .ref il, .ref mv, .ref so, .ref la, .int i_18, .int 0, .ref co])), (st, .inl (cyI, 72, .inl fs)), (pw, .inl (cyI, 11, .inl fp)), (li, .inl (cyI, 59049, .inl g_19)), (il, .inl (cyZ, 59049, .inl g_20)), (mv, .inl (cyI, 59049, .inl g_21)), (so, .inl (cyI, 59049, .inl g_22)), (la, .inl (cyI, 59049, .inl g_23)), (co, .inl (cyI, 10, .inl g_24))] := hD
                have hL := h_16
                refine lv_iconst (v := 0) hx hb dX8_all_85 (by decide) ?_
                refine lv_istore (lv' := [(4, .int 0), (0, .ref m0), (1, .int p1), (2, .int p2), (3, .int p3)]) hx hb dX8_all_86 hl (by decide) rfl (fun ls hl => ?_)
                refine lv_iconst (v := 1) hx hb dX8_all_88 (by decide) ?_
                refine lv_istore (lv' := [(5, .int 1), (4, .int 0), (0, .ref m0), (1, .int p1), (2, .int p2), (3, .int p3)]) hx hb dX8_all_89 hl (by decide) rfl (fun ls hl => ?_)
                have L91 : ∀ (n91 : Nat), ∀ (k : Nat) (ya : Int32), (1 ≤ k ∧ k ≤ 2 ^ n) → (2 ^ n + 1 ≤ k + n91) → ∀ (H : Heap) (locs : List Loc), va_P (dC, dI) vwCl [(m0, .inr (6, [.ref st, .ref im, .ref kq, .ref pw, .ref nx, .ref li, .int (nI v_17), .ref il, .ref mv, .ref so, .ref la, .int i_18, .int 0, .ref co])), (st, .inl (cyI, 72, .inl fs)), (pw, .inl (cyI, 11, .inl fp)), (li, .inl (cyI, 59049, .inl g_19)), (il, .inl (cyZ, 59049, .inl g_20)), (mv, .inl (cyI, 59049, .inl g_21)), (so, .inl (cyI, 59049, .inl g_22)), (la, .inl (cyI, 59049, .inl g_23)), (co, .inl (cyI, 10, .inl g_24))] H → va_D A [(m0, .inr (6, [.ref st, .ref im, .ref kq, .ref pw, .ref nx, .ref li, .int (nI v_17), .ref il, .ref mv, .ref so, .ref la, .int i_18, .int 0, .ref co])), (st, .inl (cyI, 72, .inl fs)), (pw, .inl (cyI, 11, .inl fp)), (li, .inl (cyI, 59049, .inl g_19)), (il, .inl (cyZ, 59049, .inl g_20)), (mv, .inl (cyI, 59049, .inl g_21)), (so, .inl (cyI, 59049, .inl g_22)), (la, .inl (cyI, 59049, .inl g_23)), (co, .inl (cyI, 10, .inl g_24))] → va_S A s.heap H locs → ∀ (ls : Array Slot), lv_has ls 6 [(0, .ref m0), (1, .int p1), (3, .int p3), (4, .int ya), (5, .int (nI k))] → W p l e (headSpec wsX8_all ({ frames := 10, cells := 0, slots := 0, locals := 245 })).room s m ([.ref m0, .int p1, .int p2, .int p3] : List Value).toArray below meth c H locs 0 0 (MQ below (va_Qi (S := Int32 × Int32 × Int32 × (Nat → Int32) × (Nat → Int32) × (Nat → Int32) × (Nat → Int32) × (Nat → Int32) × (Nat → Int32)) (fun (r : Int32) (q : Int32 × Int32 × Int32 × (Nat → Int32) × (Nat → Int32) × (Nat → Int32) × (Nat → Int32) × (Nat → Int32) × (Nat → Int32)) => True) (fun q t => bs_E dC dI A [(m0, .inr (6, [.ref st, .ref im, .ref kq, .ref pw, .ref nx, .ref li, .int q.1, .ref il, .ref mv, .ref so, .ref la, .int q.2.1, .int q.2.2.1, .ref co])), (st, .inl (cyI, 72, .inl fs)), (pw, .inl (cyI, 11, .inl fp)), (li, .inl (cyI, 59049, .inl q.2.2.2.1)), (il, .inl (cyZ, 59049, .inl q.2.2.2.2.1)), (mv, .inl (cyI, 59049, .inl q.2.2.2.2.2.1)), (so, .inl (cyI, 59049, .inl q.2.2.2.2.2.2.1)), (la, .inl (cyI, 59049, .inl q.2.2.2.2.2.2.2.1)), (co, .inl (cyI, 10, .inl q.2.2.2.2.2.2.2.2))] t) A) ([.ref m0, .int p1, .int p2, .int p3] : List Value).toArray s 0 0 A) (F0 m 91 ls []) := by
                  intro n91
                  induction n91 with
                  | zero =>
                    intro k ya hk91 hn91 H locs hP hD hS ls hl
                    exfalso
                    omega
                  | succ n91 ih91 =>
                    intro k ya hk91 hn91 H locs hP hD hS ls hl
                    refine lv_iload hx hb dX8_all_91 (lv_at hl 4 rfl) ?_
                    refine lv_iconst (v := 1) hx hb dX8_all_93 (by decide) ?_
                    refine lv_aload_n hx hb dX8_all_94 rfl (lv_at hl 0 rfl) ?_
                    refine vp_callSi (va_Run.run (va_runV (As := []) (rest := [.int 1, .int (nI k)]) ⟨hx, hb, hml, hown, hts⟩ (mX8_cells l dC dI cyI cyZ m0 st im kq pw nx li il mv so la co (nI v_17) i_18 0 n fs hn3 hn h0f) (cwV 0 hts gX8_all_X8_cells rfl rfl rfl (by decide +kernel) ⟨Nat.le_of_ble_eq_true rfl, Nat.le_of_ble_eq_true rfl⟩) (bs_RV hB (hP.sub (ws' := [(m0, .inr (6, [.ref st, .ref im, .ref kq, .ref pw, .ref nx, .ref li, .int (nI v_17), .ref il, .ref mv, .ref so, .ref la, .int i_18, .int 0, .ref co])), (st, .inl (cyI, 72, .inl fs))]) [0, 1] rfl) 0 rfl rfl) rfl rfl hl.1 rfl (lv_room (Nat.le_of_ble_eq_true rfl)) dX8_all_95 ⟨Nat.le_of_ble_eq_true rfl, Nat.le_of_ble_eq_true rfl⟩)) (fun r_25 hr_25 => ?_)
                    obtain rfl : (nI n) = r_25 := Eq.symm hr_25
                    refine lv_ishl hx hb dX8_all_98 ?_
                    refine lv_topi (fun x_26 ex_26 => ?_)
                    obtain rfl : (nI (2 ^ n)) = x_26 := (ex_26.trans (nb_shl1 hn)).symm
                    refine lv_icmp_ge (tgt := 141) hx hb dX8_all_99 (by decide) (fun c_27 => ?_) (fun c_27 => ?_)
                    · skip
                      have ic_27 := ci_le (nI_toInt (n := (2 ^ n)) (by omega)) (nI_toInt (n := k) (by omega)) c_27
                      refine lv_iload hx hb dX8_all_141 (lv_at hl 3 rfl) ?_
                      exact W.iret (v := ya) hx hb hr (fun t ht hW => ⟨⟨ya, ((nI v_17), i_18, 0, g_19, g_20, g_21, g_22, g_23, g_24), rfl, trivial, ⟨by rw [ht]; exact hP.sub (ws' := [(m0, .inr (6, [.ref st, .ref im, .ref kq, .ref pw, .ref nx, .ref li, .int (nI v_17), .ref il, .ref mv, .ref so, .ref la, .int i_18, .int 0, .ref co])), (st, .inl (cyI, 72, .inl fs)), (pw, .inl (cyI, 11, .inl fp)), (li, .inl (cyI, 59049, .inl g_19)), (il, .inl (cyZ, 59049, .inl g_20)), (mv, .inl (cyI, 59049, .inl g_21)), (so, .inl (cyI, 59049, .inl g_22)), (la, .inl (cyI, 59049, .inl g_23)), (co, .inl (cyI, 10, .inl g_24))]) [0, 1, 2, 3, 4, 5, 6, 7, 8] rfl, hD.sub (ws' := [(m0, .inr (6, [.ref st, .ref im, .ref kq, .ref pw, .ref nx, .ref li, .int (nI v_17), .ref il, .ref mv, .ref so, .ref la, .int i_18, .int 0, .ref co])), (st, .inl (cyI, 72, .inl fs)), (pw, .inl (cyI, 11, .inl fp)), (li, .inl (cyI, 59049, .inl g_19)), (il, .inl (cyZ, 59049, .inl g_20)), (mv, .inl (cyI, 59049, .inl g_21)), (so, .inl (cyI, 59049, .inl g_22)), (la, .inl (cyI, 59049, .inl g_23)), (co, .inl (cyI, 10, .inl g_24))]) [0, 1, 2, 3, 4, 5, 6, 7, 8] (by decide) rfl⟩⟩, hS.F ht⟩) hS.2.2 dX8_all_143
                    · skip
                      have ic_27 := ci_nle (nI_toInt (n := (2 ^ n)) (by omega)) (nI_toInt (n := k) (by omega)) c_27
                      refine lv_iload hx hb dX8_all_102 (lv_at hl 3 rfl) ?_
                      refine lv_iload hx hb dX8_all_104 (lv_at hl 4 rfl) ?_
                      refine vp_callSi (va_Run.run (va_runS (As := [.int (nI k)]) (rest := [.int ya]) ⟨hx, hb, hml, hown, hts⟩ (mX8_size l dC dI cyI cyZ (nI k) ) (va_cwS 1 hts gX8_all_X8_size rfl rfl rfl (by decide +kernel) ⟨Nat.le_of_ble_eq_true rfl, Nat.le_of_ble_eq_true rfl⟩) (bs_RS hB (hP.sub (ws' := []) [] rfl)) rfl rfl hl.1 rfl (lv_room (Nat.le_of_ble_eq_true rfl)) dX8_all_106 ⟨Nat.le_of_ble_eq_true rfl, Nat.le_of_ble_eq_true rfl⟩)) (fun r_28 hr_28 => ?_)
                      obtain ⟨v_29, lv_29, ev_29⟩ := hr_28
                      obtain rfl : nI v_29 = r_28 := Eq.symm ev_29
                      refine lv_iload_n hx hb dX8_all_109 rfl (lv_at hl 1 rfl) ?_
                      refine lv_icmp_ne (tgt := 131) hx hb dX8_all_110 (by decide) (fun c_30 => ?_) (fun c_30 => ?_)
                      · skip
                        have ic_30 := ci_ne (nI_toInt (n := v_29) (by omega)) (rfl : Int32.toInt p1 = _) c_30
                        refine lv_iconst (v := 0) hx hb dX8_all_131 (by decide) ?_
                        refine lv_iadd hx hb dX8_all_132 ?_
                        refine lv_topi (fun x_31 ex_31 => ?_)
                        obtain rfl : ya = x_31 := (ex_31.trans (Int32.add_zero _)).symm
                        refine lv_istore (lv' := [(4, .int ya), (0, .ref m0), (1, .int p1), (3, .int p3), (5, .int (nI k))]) hx hb dX8_all_133 hl (by decide) rfl (fun ls hl => ?_)
                        refine lv_iinc (v := (nI (k + 1))) (lv' := [(5, .int (nI (k + 1))), (4, .int ya), (0, .ref m0), (1, .int p1), (3, .int p3)]) hx hb dX8_all_135 hl (k := 4) rfl (nI_1 _) (by decide) rfl (fun ls hl => ?_)
                        refine lv_goto (tgt := 91) hx hb dX8_all_138 (by decide) ?_
                        exact ih91 (k + 1) ya (by omega) (by omega) _ _ (hP.sub [0, 1, 2, 3, 4, 5, 6, 7, 8] rfl) (hD.sub [0, 1, 2, 3, 4, 5, 6, 7, 8] (by decide) rfl) hS _ (lv_sub hl [2, 3, 4, 1, 0] rfl)
                      · skip
                        have ic_30 := ci_eq (nI_toInt (n := v_29) (by omega)) (rfl : Int32.toInt p1 = _) c_30
                        refine lv_aload_n hx hb dX8_all_113 rfl (lv_at hl 0 rfl) ?_
                        refine lv_aload_n hx hb dX8_all_114 rfl (lv_at hl 0 rfl) ?_
                        refine lv_iload hx hb dX8_all_115 (lv_at hl 4 rfl) ?_
                        refine vp_callSi (va_Run.run (va_runV (As := [.int (nI k)]) (rest := [.ref m0, .int ya]) ⟨hx, hb, hml, hown, hts⟩ (mX8_singles l dC dI cyI cyZ m0 st im kq pw nx li il mv so la co (nI v_17) i_18 0 n fs fp (nI k) hn3 hn h0f hp) (cwV 1 hts gX8_all_X8_singles rfl rfl rfl (by decide +kernel) ⟨Nat.le_of_ble_eq_true rfl, Nat.le_of_ble_eq_true rfl⟩) (bs_RV hB (hP.sub (ws' := [(m0, .inr (6, [.ref st, .ref im, .ref kq, .ref pw, .ref nx, .ref li, .int (nI v_17), .ref il, .ref mv, .ref so, .ref la, .int i_18, .int 0, .ref co])), (st, .inl (cyI, 72, .inl fs)), (pw, .inl (cyI, 11, .inl fp))]) [0, 1, 2] rfl) 0 rfl rfl) rfl rfl hl.1 rfl (lv_room (Nat.le_of_ble_eq_true rfl)) dX8_all_117 ⟨Nat.le_of_ble_eq_true rfl, Nat.le_of_ble_eq_true rfl⟩)) (fun r_32 hr_32 => ?_)
                        obtain ⟨v_33, lv_33, ev_33⟩ := hr_32
                        obtain rfl : nI v_33 = r_32 := Eq.symm ev_33
                        have hc9 := mn_c9 hn lv_33
                        refine vp_callSi (va_Run.run (va_runV (As := [.int (nI v_33)]) (rest := [.int ya]) ⟨hx, hb, hml, hown, hts⟩ (mX8_kindOf l dC dI cyI cyZ m0 st im kq pw nx li il mv so la co (nI v_17) i_18 0 n fs fp v_33 g_22 g_23 hn3 hn h0f hp (by omega)) (cwV 1 hts gX8_all_X8_kindOf rfl rfl rfl (by decide +kernel) ⟨Nat.le_of_ble_eq_true rfl, Nat.le_of_ble_eq_true rfl⟩) (bs_RV hB (hP.sub (ws' := [(m0, .inr (6, [.ref st, .ref im, .ref kq, .ref pw, .ref nx, .ref li, .int (nI v_17), .ref il, .ref mv, .ref so, .ref la, .int i_18, .int 0, .ref co])), (st, .inl (cyI, 72, .inl fs)), (pw, .inl (cyI, 11, .inl fp)), (so, .inl (cyI, 59049, .inl g_22)), (la, .inl (cyI, 59049, .inl g_23))]) [0, 1, 2, 6, 7] rfl) 0 rfl rfl) rfl rfl hl.1 rfl (lv_room (Nat.le_of_ble_eq_true rfl)) dX8_all_120 ⟨Nat.le_of_ble_eq_true rfl, Nat.le_of_ble_eq_true rfl⟩)) (fun r_34 hr_34 => ?_)
                        refine lv_iload_n hx hb dX8_all_123 rfl (lv_at hl 2 rfl) ?_
                        refine lv_icmp_ne (tgt := 131) hx hb dX8_all_124 (by decide) (fun c_35 => ?_) (fun c_35 => ?_)
                        · skip
                          have ic_35 := ci_ne (rfl : Int32.toInt r_34 = _) (rfl : Int32.toInt p3 = _) c_35
                          refine lv_iconst (v := 0) hx hb dX8_all_131 (by decide) ?_
                          refine lv_iadd hx hb dX8_all_132 ?_
                          refine lv_topi (fun x_36 ex_36 => ?_)
                          obtain rfl : ya = x_36 := (ex_36.trans (Int32.add_zero _)).symm
                          refine lv_istore (lv' := [(4, .int ya), (0, .ref m0), (1, .int p1), (3, .int p3), (5, .int (nI k))]) hx hb dX8_all_133 hl (by decide) rfl (fun ls hl => ?_)
                          refine lv_iinc (v := (nI (k + 1))) (lv' := [(5, .int (nI (k + 1))), (4, .int ya), (0, .ref m0), (1, .int p1), (3, .int p3)]) hx hb dX8_all_135 hl (k := 4) rfl (nI_1 _) (by decide) rfl (fun ls hl => ?_)
                          refine lv_goto (tgt := 91) hx hb dX8_all_138 (by decide) ?_
                          exact ih91 (k + 1) ya (by omega) (by omega) _ _ (hP.sub [0, 1, 2, 3, 4, 5, 6, 7, 8] rfl) (hD.sub [0, 1, 2, 3, 4, 5, 6, 7, 8] (by decide) rfl) hS _ (lv_sub hl [2, 3, 4, 1, 0] rfl)
                        · skip
                          have ic_35 := ci_eq (rfl : Int32.toInt r_34 = _) (rfl : Int32.toInt p3 = _) c_35
                          refine lv_iconst (v := 1) hx hb dX8_all_127 (by decide) ?_
                          refine lv_goto (tgt := 132) hx hb dX8_all_128 (by decide) ?_
                          refine lv_iadd hx hb dX8_all_132 ?_
                          refine lv_topi (fun x_37 ex_37 => ?_)
                          refine lv_istore (lv' := [(4, .int x_37), (0, .ref m0), (1, .int p1), (3, .int p3), (5, .int (nI k))]) hx hb dX8_all_133 hl (by decide) rfl (fun ls hl => ?_)
                          refine lv_iinc (v := (nI (k + 1))) (lv' := [(5, .int (nI (k + 1))), (4, .int x_37), (0, .ref m0), (1, .int p1), (3, .int p3)]) hx hb dX8_all_135 hl (k := 4) rfl (nI_1 _) (by decide) rfl (fun ls hl => ?_)
                          refine lv_goto (tgt := 91) hx hb dX8_all_138 (by decide) ?_
                          exact ih91 (k + 1) x_37 (by omega) (by omega) _ _ (hP.sub [0, 1, 2, 3, 4, 5, 6, 7, 8] rfl) (hD.sub [0, 1, 2, 3, 4, 5, 6, 7, 8] (by decide) rfl) hS _ (lv_sub hl [2, 3, 4, 1, 0] rfl)
                exact L91 (2 ^ n + 1) 1 0 (by omega) (by omega) _ _ (hP.sub [0, 1, 2, 3, 4, 5, 6, 7, 8] rfl) (hD.sub [0, 1, 2, 3, 4, 5, 6, 7, 8] (by decide) rfl) hS _ (lv_sub hl [2, 3, 5, 1, 0] rfl)
              · skip
                have ic_14 := ci_nle (nI_toInt (n := (2 ^ n)) (by omega)) (nI_toInt (n := k) (by omega)) c_14
                refine lv_iload hx hb dX8_all_55 (lv_at hl 4 rfl) ?_
                refine vp_callSi (va_Run.run (va_runS (As := [.int (nI k)]) (rest := []) ⟨hx, hb, hml, hown, hts⟩ (mX8_size l dC dI cyI cyZ (nI k) ) (va_cwS 1 hts gX8_all_X8_size rfl rfl rfl (by decide +kernel) ⟨Nat.le_of_ble_eq_true rfl, Nat.le_of_ble_eq_true rfl⟩) (bs_RS hB (hP.sub (ws' := []) [] rfl)) rfl rfl hl.1 rfl (lv_room (Nat.le_of_ble_eq_true rfl)) dX8_all_57 ⟨Nat.le_of_ble_eq_true rfl, Nat.le_of_ble_eq_true rfl⟩)) (fun r_38 hr_38 => ?_)
                obtain ⟨v_39, lv_39, ev_39⟩ := hr_38
                obtain rfl : nI v_39 = r_38 := Eq.symm ev_39
                refine lv_iload_n hx hb dX8_all_60 rfl (lv_at hl 1 rfl) ?_
                refine lv_icmp_ne (tgt := 74) hx hb dX8_all_61 (by decide) (fun c_40 => ?_) (fun c_40 => ?_)
                · skip
                  have ic_40 := ci_ne (nI_toInt (n := v_39) (by omega)) (rfl : Int32.toInt p1 = _) c_40
                  refine lv_iinc (v := (nI (k + 1))) (lv' := [(4, .int (nI (k + 1))), (0, .ref m0), (1, .int p1), (2, .int p2), (3, .int p3)]) hx hb dX8_all_74 hl (k := 4) rfl (nI_1 _) (by decide) rfl (fun ls hl => ?_)
                  refine lv_goto (tgt := 44) hx hb dX8_all_77 (by decide) ?_
                  exact ih44 (k + 1) L2 ub lf2 ilf2 mf2 (by omega) (by omega) hL _ _ (hP.sub [0, 1, 2, 3, 4, 5, 6, 7, 8] rfl) (hD.sub [0, 1, 2, 3, 4, 5, 6, 7, 8] (by decide) rfl) hS _ (lv_sub hl [1, 2, 3, 4, 0] rfl)
                · skip
                  have ic_40 := ci_eq (nI_toInt (n := v_39) (by omega)) (rfl : Int32.toInt p1 = _) c_40
                  refine lv_aload_n hx hb dX8_all_64 rfl (lv_at hl 0 rfl) ?_
                  refine lv_aload_n hx hb dX8_all_65 rfl (lv_at hl 0 rfl) ?_
                  refine lv_iload hx hb dX8_all_66 (lv_at hl 4 rfl) ?_
                  refine vp_callSi (va_Run.run (va_runV (As := [.int (nI k)]) (rest := [.ref m0]) ⟨hx, hb, hml, hown, hts⟩ (mX8_singles l dC dI cyI cyZ m0 st im kq pw nx li il mv so la co (nI L2) ub 0 n fs fp (nI k) hn3 hn h0f hp) (cwV 1 hts gX8_all_X8_singles rfl rfl rfl (by decide +kernel) ⟨Nat.le_of_ble_eq_true rfl, Nat.le_of_ble_eq_true rfl⟩) (bs_RV hB (hP.sub (ws' := [(m0, .inr (6, [.ref st, .ref im, .ref kq, .ref pw, .ref nx, .ref li, .int (nI L2), .ref il, .ref mv, .ref so, .ref la, .int ub, .int 0, .ref co])), (st, .inl (cyI, 72, .inl fs)), (pw, .inl (cyI, 11, .inl fp))]) [0, 1, 2] rfl) 0 rfl rfl) rfl rfl hl.1 rfl (lv_room (Nat.le_of_ble_eq_true rfl)) dX8_all_68 ⟨Nat.le_of_ble_eq_true rfl, Nat.le_of_ble_eq_true rfl⟩)) (fun r_41 hr_41 => ?_)
                  obtain ⟨v_42, lv_42, ev_42⟩ := hr_41
                  obtain rfl : nI v_42 = r_41 := Eq.symm ev_42
                  have f_43 := va_free (wc := [(m0, .inr (6, [.ref st, .ref im, .ref kq, .ref pw, .ref nx, .ref li, .int (nI L2), .ref il, .ref mv, .ref so, .ref la, .int ub, .int 0, .ref co])), (st, .inl (cyI, 72, .inl fs)), (pw, .inl (cyI, 11, .inl fp)), (li, .inl (cyI, 59049, .inl lf2)), (il, .inl (cyZ, 59049, .inl ilf2)), (mv, .inl (cyI, 59049, .inl mf2))]) hD hS hA [0, 1, 2, 3, 4, 5] rfl
                  refine va_callv (va_runV (As := [.int (nI v_42)]) (rest := []) ⟨hx, hb, hml, hown, hts⟩ (mX8_note l dC dI cyI cyZ m0 st im kq pw nx li il mv so la co L2 ub 0 n fs fp zz v_42 lf2 ilf2 mf2 hn3 hn h0f hp hzf hz10 (by omega) hL _) (cwV 1 hts gX8_all_X8_note rfl rfl rfl (by decide +kernel) ⟨Nat.le_of_ble_eq_true rfl, Nat.le_of_ble_eq_true rfl⟩) (bs_WV hB (hP.sub (ws' := [(m0, .inr (6, [.ref st, .ref im, .ref kq, .ref pw, .ref nx, .ref li, .int (nI L2), .ref il, .ref mv, .ref so, .ref la, .int ub, .int 0, .ref co])), (st, .inl (cyI, 72, .inl fs)), (pw, .inl (cyI, 11, .inl fp)), (li, .inl (cyI, 59049, .inl lf2)), (il, .inl (cyZ, 59049, .inl ilf2)), (mv, .inl (cyI, 59049, .inl mf2))]) [0, 1, 2, 3, 4, 5] rfl) (hD.sub (ws' := [(m0, .inr (6, [.ref st, .ref im, .ref kq, .ref pw, .ref nx, .ref li, .int (nI L2), .ref il, .ref mv, .ref so, .ref la, .int ub, .int 0, .ref co])), (st, .inl (cyI, 72, .inl fs)), (pw, .inl (cyI, 11, .inl fp)), (li, .inl (cyI, 59049, .inl lf2)), (il, .inl (cyZ, 59049, .inl ilf2)), (mv, .inl (cyI, 59049, .inl mf2))]) [0, 1, 2, 3, 4, 5] (by decide) rfl) 0 rfl rfl) rfl rfl hl.1 rfl (lv_room (Nat.le_of_ble_eq_true rfl)) dX8_all_71 ⟨Nat.le_of_ble_eq_true rfl, Nat.le_of_ble_eq_true rfl⟩) hS (fun q _ h => f_43 q h) f_43 (fun uh_44 t H1 locs ht hvm h_44 hB1 hz1 hk1 hS => ?_)
                  obtain ⟨v_45, i_46, g_47, g_48, g_49⟩ := uh_44
                  have h_44 : mn_L n v_45 g_47 g_48 ∧ L2 ≤ v_45 := h_44
                  obtain ⟨hP1, hD1⟩ := hB1
                  rw [ht] at hP1
                  obtain ⟨hP, hD⟩ := va_join (wr := [(so, .inl (cyI, 59049, .inl fso)), (la, .inl (cyI, 59049, .inl fla)), (co, .inl (cyI, 10, .inl fc))]) (w1 := [(m0, .inr (6, [.ref st, .ref im, .ref kq, .ref pw, .ref nx, .ref li, .int (nI v_45), .ref il, .ref mv, .ref so, .ref la, .int i_46, .int 0, .ref co])), (st, .inl (cyI, 72, .inl fs)), (pw, .inl (cyI, 11, .inl fp)), (li, .inl (cyI, 59049, .inl g_47)), (il, .inl (cyZ, 59049, .inl g_48)), (mv, .inl (cyI, 59049, .inl g_49))]) hP hD [0, 1, 2, 3, 4, 5] [6, 7, 8] rfl rfl (by decide) (by decide) hk1 f_43 hP1 hD1
                  generalize H1 = H at hP hS ⊢
                  have hP : va_P (dC, dI) vwCl [(so, .inl (cyI, 59049, .inl fso)), (la, .inl (cyI, 59049, .inl fla)), (co, .inl (cyI, 10, .inl fc)), (m0, .inr (6, [.ref st, .ref im, .ref kq, .ref pw, .ref nx, .ref li, .int (nI v_45), .ref il, .ref mv, .ref so, .ref la, .int i_46, .int 0, .ref co])), (st, .inl (cyI, 72, .inl fs)), (pw, .inl (cyI, 11, .inl fp)), (li, .inl (cyI, 59049, .inl g_47)), (il, .inl (cyZ, 59049, .inl g_48)), (mv, .inl (cyI, 59049, .inl g_49))] _ := hP
                  have hD : va_D A [(so, .inl (cyI, 59049, .inl fso)), (la, .inl (cyI, 59049, .inl fla)), (co, .inl (cyI, 10, .inl fc)), (m0, .inr (6, [.ref st, .ref im, .ref kq, .ref pw, .ref nx, .ref li, .int (nI v_45), .ref il, .ref mv, .ref so, .ref la, .int i_46, .int 0, .ref co])), (st, .inl (cyI, 72, .inl fs)), (pw, .inl (cyI, 11, .inl fp)), (li, .inl (cyI, 59049, .inl g_47)), (il, .inl (cyZ, 59049, .inl g_48)), (mv, .inl (cyI, 59049, .inl g_49))] := hD
                  obtain ⟨hL, hLm⟩ := h_44
                  refine lv_iinc (v := (nI (k + 1))) (lv' := [(4, .int (nI (k + 1))), (0, .ref m0), (1, .int p1), (2, .int p2), (3, .int p3)]) hx hb dX8_all_74 hl (k := 4) rfl (nI_1 _) (by decide) rfl (fun ls hl => ?_)
                  refine lv_goto (tgt := 44) hx hb dX8_all_77 (by decide) ?_
                  exact ih44 (k + 1) v_45 i_46 g_47 g_48 g_49 (by omega) (by omega) hL _ _ (hP.sub [3, 4, 5, 6, 7, 8, 0, 1, 2] rfl) (hD.sub [3, 4, 5, 6, 7, 8, 0, 1, 2] (by decide) rfl) hS _ (lv_sub hl [1, 2, 3, 4, 0] rfl)
          exact L44 (2 ^ n + 1) 1 0 0 lf g_11 mf (by omega) (by omega) hL _ _ (hP.sub [7, 0, 1, 2, 8, 3, 4, 5, 6] rfl) (hD.sub [7, 0, 1, 2, 8, 3, 4, 5, 6] (by decide) rfl) hS _ (lv_sub hl [1, 2, 3, 4, 0] rfl)
        · skip
          have ic_8 := ci_eq (rfl : Int32.toInt r_7 = _) (show Int32.toInt 0 = 0 by decide) c_8
          refine lv_bipush (v := (-2)) hx hb dX8_all_33 (by decide) ?_
          exact W.iret (v := (-2)) hx hb hr (fun t ht hW => ⟨⟨(-2), (d6, d11, d12, lf, ilf, mf, fso, fla, fc), rfl, trivial, ⟨by rw [ht]; exact hP.sub (ws' := [(m0, .inr (6, [.ref st, .ref im, .ref kq, .ref pw, .ref nx, .ref li, .int d6, .ref il, .ref mv, .ref so, .ref la, .int d11, .int d12, .ref co])), (st, .inl (cyI, 72, .inl fs)), (pw, .inl (cyI, 11, .inl fp)), (li, .inl (cyI, 59049, .inl lf)), (il, .inl (cyZ, 59049, .inl ilf)), (mv, .inl (cyI, 59049, .inl mf)), (so, .inl (cyI, 59049, .inl fso)), (la, .inl (cyI, 59049, .inl fla)), (co, .inl (cyI, 10, .inl fc))]) [0, 1, 2, 3, 4, 5, 6, 7, 8] rfl, hD.sub (ws' := [(m0, .inr (6, [.ref st, .ref im, .ref kq, .ref pw, .ref nx, .ref li, .int d6, .ref il, .ref mv, .ref so, .ref la, .int d11, .int d12, .ref co])), (st, .inl (cyI, 72, .inl fs)), (pw, .inl (cyI, 11, .inl fp)), (li, .inl (cyI, 59049, .inl lf)), (il, .inl (cyZ, 59049, .inl ilf)), (mv, .inl (cyI, 59049, .inl mf)), (so, .inl (cyI, 59049, .inl fso)), (la, .inl (cyI, 59049, .inl fla)), (co, .inl (cyI, 10, .inl fc))]) [0, 1, 2, 3, 4, 5, 6, 7, 8] (by decide) rfl⟩⟩, hS.F ht⟩) hS.2.2 dX8_all_35
