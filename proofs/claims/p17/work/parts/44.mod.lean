theorem hnX8_ring_X8 : ∀ w ∈ wsX80, w ∈ wsX8_ring := fun _ h => List.mem_cons_of_mem _ (List.mem_append_right _ h)
set_option maxHeartbeats 4000000 in
set_option maxRecDepth 100000 in
theorem mX8_ring (l : Launch) (dC : Nat → ClassId) (dI : Nat → Nat → Nat) (cyI cyZ : ClassId) (m0 : Nat) (st : Nat) (im : Nat) (kq : Nat) (pw : Nat) (nx : Nat) (li : Nat) (il : Nat) (mv : Nat) (so : Nat) (la : Nat) (co : Nat) (d6 : Int32) (d11 : Int32) (d12 : Int32) (n : Nat) (fs : Nat → Int32) (wq : Nat → Nat) (zz : Nat) (p1 : Int32) (hn3 : 3 ≤ n) (hn : n ≤ 10) (h0f : fs 0 = nI n) (hwk : ∀ j, j < 10 → fs (1 + j) = nI (wq j)) (hws : mn_sum wq 10 ≤ 5) (hzf : fs 11 = nI zz) (hz10 : zz ≤ 10) (sz : Nat) : Met l yX8_ring wsX8_ring ({ frames := 1, cells := 0, slots := 0, locals := 22 }) (bs_W dC dI cyI cyZ [.ref m0, .int p1] [(m0, .inr (6, [.ref st, .ref im, .ref kq, .ref pw, .ref nx, .ref li, .int d6, .ref il, .ref mv, .ref so, .ref la, .int d11, .int d12, .ref co])), (st, .inl (cyI, 72, .inl fs))] sz) (va_Qi (S := (Nat → Int32)) (fun (r : Int32) (q : (Nat → Int32)) => mn_I q) (fun q t => bs_E dC dI (va_A [(m0, .inr (6, [.ref st, .ref im, .ref kq, .ref pw, .ref nx, .ref li, .int d6, .ref il, .ref mv, .ref so, .ref la, .int d11, .int d12, .ref co])), (st, .inl (cyI, 72, .inl fs))] sz) [(m0, .inr (6, [.ref st, .ref im, .ref kq, .ref pw, .ref nx, .ref li, .int d6, .ref il, .ref mv, .ref so, .ref la, .int d11, .int d12, .ref co])), (st, .inl (cyI, 72, .inl q))] t) (va_A [(m0, .inr (6, [.ref st, .ref im, .ref kq, .ref pw, .ref nx, .ref li, .int d6, .ref il, .ref mv, .ref so, .ref la, .int d11, .int d12, .ref co])), (st, .inl (cyI, 72, .inl fs))] sz)) 0 0 (va_A [(m0, .inr (6, [.ref st, .ref im, .ref kq, .ref pw, .ref nx, .ref li, .int d6, .ref il, .ref mv, .ref so, .ref la, .int d11, .int d12, .ref co])), (st, .inl (cyI, 72, .inl fs))] sz) := by
  refine Met.ofW (cc := cX8_ring) (maxL := 4) (ret := (some .int)) (by decide) rfl ?_
  intro p e s m args below meth c s₁ B hml hv
  obtain ⟨rfl, hsz, hB, hP, hD0⟩ := hv
  have hK := hB.1
  have hN := hB.2
  have hx := B.exec
  have hb := B.bytes
  have hr := B.returns
  have hts := atoms_spec (ws := wsX8_ring) B.pre
  have hown : s.vm.findClass RX8 = some m.cls := findClass_of_methodNamed B.named
  have hlocks := B.notSynchronized
  subst hsz
  have hD := hD0.self (sz := s.heap.size)
  generalize hAe : va_A [(m0, .inr (6, [.ref st, .ref im, .ref kq, .ref pw, .ref nx, .ref li, .int d6, .ref il, .ref mv, .ref so, .ref la, .int d11, .int d12, .ref co])), (st, .inl (cyI, 72, .inl fs))] s.heap.size = A at hD ⊢
  have hA : ∀ q : Nat, s.heap.size ≤ q → A q := fun q h => by rw [← hAe]; exact Or.inr h
  have hS : va_S A s.heap s.heap [] := va_S.rf
  have hP : va_P (dC, dI) vwCl [(m0, .inr (6, [.ref st, .ref im, .ref kq, .ref pw, .ref nx, .ref li, .int d6, .ref il, .ref mv, .ref so, .ref la, .int d11, .int d12, .ref co])), (st, .inl (cyI, 72, .inl fs))] s.heap := hP
  have hl := lv_entry ([.ref m0, .int p1]) (n := 4) (Nat.le_of_ble_eq_true rfl)
  rw [lg_entry_eq]
  generalize (lg_sl ([.ref m0, .int p1]) ++ List.replicate (4 - (lg_sl ([.ref m0, .int p1])).length) Slot.unset).toArray = ls at hl ⊢
  have hl : lv_has ls 4 [(0, .ref m0), (1, .int p1)] := hl
  refine lv_iload_n hx hb dX8_ring_0 rfl (lv_at hl 1 rfl) ?_
  refine lv_iconst (v := 3) hx hb dX8_ring_1 (by decide) ?_
  refine lv_bipush (v := 10) hx hb dX8_ring_2 (by decide) ?_
  refine vp_callSi (va_Run.run (va_runS (As := [.int p1, .int 3, .int 10]) (rest := []) ⟨hx, hb, hml, hown, hts⟩ (mX8_in l dC dI cyI cyZ p1 3 10 3 10 (by decide) (by decide)) (va_cwS 3 hts gX8_ring_X8_in rfl rfl rfl (by decide +kernel) ⟨Nat.le_of_ble_eq_true rfl, Nat.le_of_ble_eq_true rfl⟩) (bs_RS hB (hP.sub (ws' := []) [] rfl)) rfl rfl hl.1 rfl (lv_room (Nat.le_of_ble_eq_true rfl)) dX8_ring_4 ⟨Nat.le_of_ble_eq_true rfl, Nat.le_of_ble_eq_true rfl⟩)) (fun r_1 hr_1 => ?_)
  refine lv_if_ne (tgt := 13) hx hb dX8_ring_7 (by decide) (fun c_2 => ?_) (fun c_2 => ?_)
  · skip
    have ic_2 := ci_ne (rfl : Int32.toInt r_1 = _) (show Int32.toInt 0 = 0 by decide) c_2
    have hs9 := hr_1.2.1 (hr_1.1.resolve_left c_2)
    obtain ⟨v, hv9, ev9⟩ := nb_of (x := p1) (n := 10) (by omega) (by omega) (by decide)
    subst ev9
    refine lv_aload_n hx hb dX8_ring_13 rfl (lv_at hl 0 rfl) ?_
    refine vp_callSi (va_Run.run (va_runV (As := []) (rest := []) ⟨hx, hb, hml, hown, hts⟩ (mX8_cells l dC dI cyI cyZ m0 st im kq pw nx li il mv so la co d6 d11 d12 n fs hn3 hn h0f) (cwV 0 hts gX8_ring_X8_cells rfl rfl rfl (by decide +kernel) ⟨Nat.le_of_ble_eq_true rfl, Nat.le_of_ble_eq_true rfl⟩) (bs_RV hB (hP.sub (ws' := [(m0, .inr (6, [.ref st, .ref im, .ref kq, .ref pw, .ref nx, .ref li, .int d6, .ref il, .ref mv, .ref so, .ref la, .int d11, .int d12, .ref co])), (st, .inl (cyI, 72, .inl fs))]) [0, 1] rfl) 0 rfl rfl) rfl rfl hl.1 rfl (lv_room (Nat.le_of_ble_eq_true rfl)) dX8_ring_14 ⟨Nat.le_of_ble_eq_true rfl, Nat.le_of_ble_eq_true rfl⟩)) (fun r_3 hr_3 => ?_)
    obtain rfl : (nI n) = r_3 := Eq.symm hr_3
    refine lv_istore_n (lv' := [(2, .int (nI n)), (0, .ref m0), (1, .int (nI v))]) hx hb dX8_ring_17 rfl hl (by decide) rfl (fun ls hl => ?_)
    refine lv_aload_n hx hb dX8_ring_18 rfl (lv_at hl 1 rfl) ?_
    refine va_get (D := (dC, dI)) (ci := 6) (v := .ref st) (C := RX8) (T := TX8) (N := 14) hx hb hts hnX8_ring_X8 hown hK hP 0 rfl rfl 0 (by decide) (hts (.fieldLink RX8 7 "RingMeetsModel" "state" "[I") (by decide +kernel)) (fun _ h9 => h9) rfl dX8_ring_19 ?_
    refine lv_iconst (v := 0) hx hb dX8_ring_22 (by decide) ?_
    refine lv_iload_n hx hb dX8_ring_23 rfl (lv_at hl 2 rfl) ?_
    refine va_iast (D := (dC, dI)) hx hb hK hP hD hS 1 0 rfl rfl (show vp_in 0 72 from vp_in_nI (n := 0) (N := 72) (by decide) (by decide)) dX8_ring_24 (fun H locs hP hD hS => ?_)
    obtain ⟨g_4, eg_4⟩ : ∃ y : Nat → Int32, y = upd fs (Int32.toNatClampNeg 0) (nI v) := ⟨_, rfl⟩
    have hP : va_P (dC, dI) vwCl [(m0, .inr (6, [.ref st, .ref im, .ref kq, .ref pw, .ref nx, .ref li, .int d6, .ref il, .ref mv, .ref so, .ref la, .int d11, .int d12, .ref co])), (st, .inl (cyI, 72, .inl g_4))] H := by rw [eg_4]; exact hP
    have hD : va_D A [(m0, .inr (6, [.ref st, .ref im, .ref kq, .ref pw, .ref nx, .ref li, .int d6, .ref il, .ref mv, .ref so, .ref la, .int d11, .int d12, .ref co])), (st, .inl (cyI, 72, .inl g_4))] := by rw [eg_4]; exact hD
    have eg_4 : g_4 = upd fs 0 (nI v) := eg_4
    refine lv_iconst (v := 0) hx hb dX8_ring_25 (by decide) ?_
    refine lv_istore_n (lv' := [(3, .int 0), (2, .int (nI n)), (0, .ref m0), (1, .int (nI v))]) hx hb dX8_ring_26 rfl hl (by decide) rfl (fun ls hl => ?_)
    have L27 : ∀ (n27 : Nat), ∀ (k : Nat) (fs2 : Nat → Int32), (0 ≤ k ∧ k ≤ 10) → (10 + 1 ≤ k + n27) → (fs2 0 = nI v) → (∀ j, j < k → fs2 (1 + j) = 0) → (fs2 11 = nI zz) → ∀ (H : Heap) (locs : List Loc), va_P (dC, dI) vwCl [(m0, .inr (6, [.ref st, .ref im, .ref kq, .ref pw, .ref nx, .ref li, .int d6, .ref il, .ref mv, .ref so, .ref la, .int d11, .int d12, .ref co])), (st, .inl (cyI, 72, .inl fs2))] H → va_D A [(m0, .inr (6, [.ref st, .ref im, .ref kq, .ref pw, .ref nx, .ref li, .int d6, .ref il, .ref mv, .ref so, .ref la, .int d11, .int d12, .ref co])), (st, .inl (cyI, 72, .inl fs2))] → va_S A s.heap H locs → ∀ (ls : Array Slot), lv_has ls 4 [(0, .ref m0), (2, .int (nI n)), (3, .int (nI k))] → W p l e (headSpec wsX8_ring ({ frames := 1, cells := 0, slots := 0, locals := 22 })).room s m ([.ref m0, .int (nI v)] : List Value).toArray below meth c H locs 0 0 (MQ below (va_Qi (S := (Nat → Int32)) (fun (r : Int32) (q : (Nat → Int32)) => mn_I q) (fun q t => bs_E dC dI A [(m0, .inr (6, [.ref st, .ref im, .ref kq, .ref pw, .ref nx, .ref li, .int d6, .ref il, .ref mv, .ref so, .ref la, .int d11, .int d12, .ref co])), (st, .inl (cyI, 72, .inl q))] t) A) ([.ref m0, .int (nI v)] : List Value).toArray s 0 0 A) (F0 m 27 ls []) := by
      intro n27
      induction n27 with
      | zero =>
        intro k fs2 hk27 hn27 h2a h2b h2c H locs hP hD hS ls hl
        exfalso
        omega
      | succ n27 ih27 =>
        intro k fs2 hk27 hn27 h2a h2b h2c H locs hP hD hS ls hl
        refine lv_iload_n hx hb dX8_ring_27 rfl (lv_at hl 2 rfl) ?_
        refine lv_bipush (v := 10) hx hb dX8_ring_28 (by decide) ?_
        refine lv_icmp_ge (tgt := 48) hx hb dX8_ring_30 (by decide) (fun c_5 => ?_) (fun c_5 => ?_)
        · skip
          have ic_5 := ci_le (show Int32.toInt 10 = 10 by decide) (nI_toInt (n := k) (by omega)) c_5
          refine lv_iload_n hx hb dX8_ring_48 rfl (lv_at hl 1 rfl) ?_
          exact W.iret (v := (nI n)) hx hb hr (fun t ht hW => ⟨⟨(nI n), fs2, rfl, mn_I_ring (by have h9 := nI_toInt (n := v) (by omega); omega) hv9 h2a (fun j hj => h2b j (by omega)) h2c hz10, ⟨by rw [ht]; exact hP.sub (ws' := [(m0, .inr (6, [.ref st, .ref im, .ref kq, .ref pw, .ref nx, .ref li, .int d6, .ref il, .ref mv, .ref so, .ref la, .int d11, .int d12, .ref co])), (st, .inl (cyI, 72, .inl fs2))]) [0, 1] rfl, hD.sub (ws' := [(m0, .inr (6, [.ref st, .ref im, .ref kq, .ref pw, .ref nx, .ref li, .int d6, .ref il, .ref mv, .ref so, .ref la, .int d11, .int d12, .ref co])), (st, .inl (cyI, 72, .inl fs2))]) [0, 1] (by decide) rfl⟩⟩, hS.F ht⟩) hS.2.2 dX8_ring_49
        · skip
          have ic_5 := ci_nle (show Int32.toInt 10 = 10 by decide) (nI_toInt (n := k) (by omega)) c_5
          refine lv_aload_n hx hb dX8_ring_33 rfl (lv_at hl 0 rfl) ?_
          refine va_get (D := (dC, dI)) (ci := 6) (v := .ref st) (C := RX8) (T := TX8) (N := 14) hx hb hts hnX8_ring_X8 hown hK hP 0 rfl rfl 0 (by decide) (hts (.fieldLink RX8 7 "RingMeetsModel" "state" "[I") (by decide +kernel)) (fun _ h9 => h9) rfl dX8_ring_34 ?_
          refine lv_iconst (v := 1) hx hb dX8_ring_37 (by decide) ?_
          refine lv_iload_n hx hb dX8_ring_38 rfl (lv_at hl 2 rfl) ?_
          refine lv_iadd hx hb dX8_ring_39 ?_
          refine lv_topi (fun x_6 ex_6 => ?_)
          obtain rfl : (nI (1 + k)) = x_6 := (ex_6.trans (nI_add 1 _)).symm
          refine lv_iconst (v := 0) hx hb dX8_ring_40 (by decide) ?_
          refine va_iast (D := (dC, dI)) hx hb hK hP hD hS 1 0 rfl rfl (vp_in_nI (n := (1 + k)) (N := 72) (by omega) (by omega)) dX8_ring_41 (fun H locs hP hD hS => ?_)
          obtain ⟨g_7, eg_7⟩ : ∃ y : Nat → Int32, y = upd fs2 (Int32.toNatClampNeg (nI (1 + k))) 0 := ⟨_, rfl⟩
          have hP : va_P (dC, dI) vwCl [(m0, .inr (6, [.ref st, .ref im, .ref kq, .ref pw, .ref nx, .ref li, .int d6, .ref il, .ref mv, .ref so, .ref la, .int d11, .int d12, .ref co])), (st, .inl (cyI, 72, .inl g_7))] H := by rw [eg_7]; exact hP
          have hD : va_D A [(m0, .inr (6, [.ref st, .ref im, .ref kq, .ref pw, .ref nx, .ref li, .int d6, .ref il, .ref mv, .ref so, .ref la, .int d11, .int d12, .ref co])), (st, .inl (cyI, 72, .inl g_7))] := by rw [eg_7]; exact hD
          rw [nI_clamp (n := (1 + k)) (by omega)] at eg_7
          refine lv_iinc (v := (nI (k + 1))) (lv' := [(3, .int (nI (k + 1))), (0, .ref m0), (2, .int (nI n))]) hx hb dX8_ring_42 hl (k := 2) rfl (nI_1 _) (by decide) rfl (fun ls hl => ?_)
          refine lv_goto (tgt := 27) hx hb dX8_ring_45 (by decide) ?_
          exact ih27 (k + 1) g_7 ⟨by omega, by omega⟩ (by omega) (by rw [eg_7]; unfold upd; rw [if_neg (by omega)]; exact h2a) (fun j hj => by rw [eg_7]; unfold upd; split; rfl; exact h2b j (by omega)) (by rw [eg_7]; unfold upd; rw [if_neg (by omega)]; exact h2c) _ _ (hP.sub [0, 1] rfl) (hD.sub [0, 1] (by decide) rfl) hS _ (lv_sub hl [1, 2, 0] rfl)
    exact L27 (10 + 1) 0 g_4 ⟨by omega, by omega⟩ (by omega) (by rw [eg_4]; rfl) (fun j hj => by omega) (by rw [eg_4]; exact hzf) _ _ (hP.sub [0, 1] rfl) (hD.sub [0, 1] (by decide) rfl) hS _ (lv_sub hl [2, 1, 0] rfl)
  · skip
    have ic_2 := ci_eq (rfl : Int32.toInt r_1 = _) (show Int32.toInt 0 = 0 by decide) c_2
    refine lv_bipush (v := (-2)) hx hb dX8_ring_10 (by decide) ?_
    exact W.iret (v := (-2)) hx hb hr (fun t ht hW => ⟨⟨(-2), fs, rfl, ⟨n, wq, zz, hn3, hn, h0f, hwk, hws, hzf, hz10⟩, ⟨by rw [ht]; exact hP.sub (ws' := [(m0, .inr (6, [.ref st, .ref im, .ref kq, .ref pw, .ref nx, .ref li, .int d6, .ref il, .ref mv, .ref so, .ref la, .int d11, .int d12, .ref co])), (st, .inl (cyI, 72, .inl fs))]) [0, 1] rfl, hD.sub (ws' := [(m0, .inr (6, [.ref st, .ref im, .ref kq, .ref pw, .ref nx, .ref li, .int d6, .ref il, .ref mv, .ref so, .ref la, .int d11, .int d12, .ref co])), (st, .inl (cyI, 72, .inl fs))]) [0, 1] (by decide) rfl⟩⟩, hS.F ht⟩) hS.2.2 dX8_ring_12

theorem hnX8_stand_X8 : ∀ w ∈ wsX80, w ∈ wsX8_stand := fun _ h => List.mem_cons_of_mem _ (List.mem_append_right _ h)
set_option maxHeartbeats 4000000 in
set_option maxRecDepth 100000 in
theorem mX8_stand (l : Launch) (dC : Nat → ClassId) (dI : Nat → Nat → Nat) (cyI cyZ : ClassId) (m0 : Nat) (st : Nat) (im : Nat) (kq : Nat) (pw : Nat) (nx : Nat) (li : Nat) (il : Nat) (mv : Nat) (so : Nat) (la : Nat) (co : Nat) (d6 : Int32) (d11 : Int32) (d12 : Int32) (n : Nat) (fs : Nat → Int32) (wq : Nat → Nat) (zz : Nat) (p1 : Int32) (p2 : Int32) (hn3 : 3 ≤ n) (hn : n ≤ 10) (h0f : fs 0 = nI n) (hwk : ∀ j, j < 10 → fs (1 + j) = nI (wq j)) (hws : mn_sum wq 10 ≤ 5) (hzf : fs 11 = nI zz) (hz10 : zz ≤ 10) (sz : Nat) : Met l yX8_stand wsX8_stand ({ frames := 2, cells := 0, slots := 0, locals := 43 }) (bs_W dC dI cyI cyZ [.ref m0, .int p1, .int p2] [(m0, .inr (6, [.ref st, .ref im, .ref kq, .ref pw, .ref nx, .ref li, .int d6, .ref il, .ref mv, .ref so, .ref la, .int d11, .int d12, .ref co])), (st, .inl (cyI, 72, .inl fs))] sz) (va_Qi (S := (Nat → Int32)) (fun (r : Int32) (q : (Nat → Int32)) => mn_I q) (fun q t => bs_E dC dI (va_A [(m0, .inr (6, [.ref st, .ref im, .ref kq, .ref pw, .ref nx, .ref li, .int d6, .ref il, .ref mv, .ref so, .ref la, .int d11, .int d12, .ref co])), (st, .inl (cyI, 72, .inl fs))] sz) [(m0, .inr (6, [.ref st, .ref im, .ref kq, .ref pw, .ref nx, .ref li, .int d6, .ref il, .ref mv, .ref so, .ref la, .int d11, .int d12, .ref co])), (st, .inl (cyI, 72, .inl q))] t) (va_A [(m0, .inr (6, [.ref st, .ref im, .ref kq, .ref pw, .ref nx, .ref li, .int d6, .ref il, .ref mv, .ref so, .ref la, .int d11, .int d12, .ref co])), (st, .inl (cyI, 72, .inl fs))] sz)) 0 0 (va_A [(m0, .inr (6, [.ref st, .ref im, .ref kq, .ref pw, .ref nx, .ref li, .int d6, .ref il, .ref mv, .ref so, .ref la, .int d11, .int d12, .ref co])), (st, .inl (cyI, 72, .inl fs))] sz) := by
  refine Met.ofW (cc := cX8_stand) (maxL := 4) (ret := (some .int)) (by decide) rfl ?_
  intro p e s m args below meth c s₁ B hml hv
  obtain ⟨rfl, hsz, hB, hP, hD0⟩ := hv
  have hK := hB.1
  have hN := hB.2
  have hx := B.exec
  have hb := B.bytes
  have hr := B.returns
  have hts := atoms_spec (ws := wsX8_stand) B.pre
  have hown : s.vm.findClass RX8 = some m.cls := findClass_of_methodNamed B.named
  have hlocks := B.notSynchronized
  subst hsz
  have hD := hD0.self (sz := s.heap.size)
  generalize hAe : va_A [(m0, .inr (6, [.ref st, .ref im, .ref kq, .ref pw, .ref nx, .ref li, .int d6, .ref il, .ref mv, .ref so, .ref la, .int d11, .int d12, .ref co])), (st, .inl (cyI, 72, .inl fs))] s.heap.size = A at hD ⊢
  have hA : ∀ q : Nat, s.heap.size ≤ q → A q := fun q h => by rw [← hAe]; exact Or.inr h
  have hS : va_S A s.heap s.heap [] := va_S.rf
  have hP : va_P (dC, dI) vwCl [(m0, .inr (6, [.ref st, .ref im, .ref kq, .ref pw, .ref nx, .ref li, .int d6, .ref il, .ref mv, .ref so, .ref la, .int d11, .int d12, .ref co])), (st, .inl (cyI, 72, .inl fs))] s.heap := hP
  have hl := lv_entry ([.ref m0, .int p1, .int p2]) (n := 4) (Nat.le_of_ble_eq_true rfl)
  rw [lg_entry_eq]
  generalize (lg_sl ([.ref m0, .int p1, .int p2]) ++ List.replicate (4 - (lg_sl ([.ref m0, .int p1, .int p2])).length) Slot.unset).toArray = ls at hl ⊢
  have hl : lv_has ls 4 [(0, .ref m0), (1, .int p1), (2, .int p2)] := hl
  refine lv_aload_n hx hb dX8_stand_0 rfl (lv_at hl 0 rfl) ?_
  refine lv_iload_n hx hb dX8_stand_1 rfl (lv_at hl 1 rfl) ?_
  refine vp_callSi (va_Run.run (va_runV (As := [.int p1]) (rest := []) ⟨hx, hb, hml, hown, hts⟩ (mX8_isCell l dC dI cyI cyZ m0 st im kq pw nx li il mv so la co d6 d11 d12 n fs p1 hn3 hn h0f) (cwV 1 hts gX8_stand_X8_isCell rfl rfl rfl (by decide +kernel) ⟨Nat.le_of_ble_eq_true rfl, Nat.le_of_ble_eq_true rfl⟩) (bs_RV hB (hP.sub (ws' := [(m0, .inr (6, [.ref st, .ref im, .ref kq, .ref pw, .ref nx, .ref li, .int d6, .ref il, .ref mv, .ref so, .ref la, .int d11, .int d12, .ref co])), (st, .inl (cyI, 72, .inl fs))]) [0, 1] rfl) 0 rfl rfl) rfl rfl hl.1 rfl (lv_room (Nat.le_of_ble_eq_true rfl)) dX8_stand_2 ⟨Nat.le_of_ble_eq_true rfl, Nat.le_of_ble_eq_true rfl⟩)) (fun r_1 hr_1 => ?_)
  refine lv_if_ne (tgt := 10) hx hb dX8_stand_5 (by decide) (fun c_2 => ?_) (fun c_2 => ?_)
  · skip
    have ic_2 := ci_ne (rfl : Int32.toInt r_1 = _) (show Int32.toInt 0 = 0 by decide) c_2
    obtain ⟨a9, la9, ea9⟩ := hr_1.2 (hr_1.1.resolve_left c_2)
    subst ea9
    refine lv_iload_n hx hb dX8_stand_10 rfl (lv_at hl 2 rfl) ?_
    refine lv_iconst (v := 0) hx hb dX8_stand_11 (by decide) ?_
    refine lv_iconst (v := 5) hx hb dX8_stand_12 (by decide) ?_
    refine vp_callSi (va_Run.run (va_runS (As := [.int p2, .int 0, .int 5]) (rest := []) ⟨hx, hb, hml, hown, hts⟩ (mX8_in l dC dI cyI cyZ p2 0 5 0 5 (by decide) (by decide)) (va_cwS 3 hts gX8_stand_X8_in rfl rfl rfl (by decide +kernel) ⟨Nat.le_of_ble_eq_true rfl, Nat.le_of_ble_eq_true rfl⟩) (bs_RS hB (hP.sub (ws' := []) [] rfl)) rfl rfl hl.1 rfl (lv_room (Nat.le_of_ble_eq_true rfl)) dX8_stand_13 ⟨Nat.le_of_ble_eq_true rfl, Nat.le_of_ble_eq_true rfl⟩)) (fun r_3 hr_3 => ?_)
    refine lv_if_ne (tgt := 22) hx hb dX8_stand_16 (by decide) (fun c_4 => ?_) (fun c_4 => ?_)
    · skip
      have ic_4 := ci_ne (rfl : Int32.toInt r_3 = _) (show Int32.toInt 0 = 0 by decide) c_4
      have hs9 := hr_3.2.1 (hr_3.1.resolve_left c_4)
      obtain ⟨b9, hb99, eb99⟩ := nb_of (x := p2) (n := 5) (by omega) (by omega) (by decide)
      subst eb99
      have hwj := mn_sum_le wq (j := a9) (k := 10) (by omega)
      refine lv_aload_n hx hb dX8_stand_22 rfl (lv_at hl 0 rfl) ?_
      refine va_get (D := (dC, dI)) (ci := 6) (v := .ref st) (C := RX8) (T := TX8) (N := 14) hx hb hts hnX8_stand_X8 hown hK hP 0 rfl rfl 0 (by decide) (hts (.fieldLink RX8 7 "RingMeetsModel" "state" "[I") (by decide +kernel)) (fun _ h9 => h9) rfl dX8_stand_23 ?_
      refine lv_iconst (v := 1) hx hb dX8_stand_26 (by decide) ?_
      refine lv_iload_n hx hb dX8_stand_27 rfl (lv_at hl 1 rfl) ?_
      refine lv_iadd hx hb dX8_stand_28 ?_
      refine lv_topi (fun x_5 ex_5 => ?_)
      obtain rfl : (nI (1 + a9)) = x_5 := (ex_5.trans (nI_add 1 _)).symm
      refine va_iald (D := (dC, dI)) hx hb hK hP 1 0 rfl rfl (vp_in_nI (n := (1 + a9)) (N := 72) (by omega) (by omega)) dX8_stand_29 ?_
      refine lv_topi (fun x_6 ex_6 => ?_)
      rw [nI_clamp (n := (1 + a9)) (by omega)] at ex_6
      obtain rfl : (nI (wq a9)) = x_6 := (ex_6.trans (hwk _ (by omega))).symm
      refine lv_istore_n (lv' := [(3, .int (nI (wq a9))), (0, .ref m0), (1, .int (nI a9)), (2, .int (nI b9))]) hx hb dX8_stand_30 rfl hl (by decide) rfl (fun ls hl => ?_)
      refine lv_aload_n hx hb dX8_stand_31 rfl (lv_at hl 1 rfl) ?_
      refine vp_callSi (va_Run.run (va_runV (As := []) (rest := []) ⟨hx, hb, hml, hown, hts⟩ (mX8_walkers l dC dI cyI cyZ m0 st im kq pw nx li il mv so la co d6 d11 d12 fs wq hwk hws) (cwV 0 hts gX8_stand_X8_walkers rfl rfl rfl (by decide +kernel) ⟨Nat.le_of_ble_eq_true rfl, Nat.le_of_ble_eq_true rfl⟩) (bs_RV hB (hP.sub (ws' := [(m0, .inr (6, [.ref st, .ref im, .ref kq, .ref pw, .ref nx, .ref li, .int d6, .ref il, .ref mv, .ref so, .ref la, .int d11, .int d12, .ref co])), (st, .inl (cyI, 72, .inl fs))]) [0, 1] rfl) 0 rfl rfl) rfl rfl hl.1 rfl (lv_room (Nat.le_of_ble_eq_true rfl)) dX8_stand_32 ⟨Nat.le_of_ble_eq_true rfl, Nat.le_of_ble_eq_true rfl⟩)) (fun r_7 hr_7 => ?_)
      obtain rfl : (nI (mn_sum wq 10)) = r_7 := Eq.symm hr_7
      refine lv_iload_n hx hb dX8_stand_35 rfl (lv_at hl 0 rfl) ?_
      refine lv_isub hx hb dX8_stand_36 ?_
      refine lv_topi (fun x_8 ex_8 => ?_)
      obtain rfl : (nI (mn_sum wq 10 - wq a9)) = x_8 := (ex_8.trans (nb_sub hwj)).symm
      refine lv_iload_n hx hb dX8_stand_37 rfl (lv_at hl 3 rfl) ?_
      refine lv_iadd hx hb dX8_stand_38 ?_
      refine lv_topi (fun x_9 ex_9 => ?_)
      obtain rfl : (nI ((mn_sum wq 10 - wq a9) + b9)) = x_9 := (ex_9.trans (nI_add _ _)).symm
      refine lv_iconst (v := 5) hx hb dX8_stand_39 (by decide) ?_
      refine lv_icmp_le (tgt := 46) hx hb dX8_stand_40 (by decide) (fun c_10 => ?_) (fun c_10 => ?_)
      · skip
        have ic_10 := ci_le (nI_toInt (n := ((mn_sum wq 10 - wq a9) + b9)) (by omega)) (show Int32.toInt 5 = 5 by decide) c_10
        refine lv_aload_n hx hb dX8_stand_46 rfl (lv_at hl 1 rfl) ?_
        refine va_get (D := (dC, dI)) (ci := 6) (v := .ref st) (C := RX8) (T := TX8) (N := 14) hx hb hts hnX8_stand_X8 hown hK hP 0 rfl rfl 0 (by decide) (hts (.fieldLink RX8 7 "RingMeetsModel" "state" "[I") (by decide +kernel)) (fun _ h9 => h9) rfl dX8_stand_47 ?_
        refine lv_iconst (v := 1) hx hb dX8_stand_50 (by decide) ?_
        refine lv_iload_n hx hb dX8_stand_51 rfl (lv_at hl 2 rfl) ?_
        refine lv_iadd hx hb dX8_stand_52 ?_
        refine lv_topi (fun x_11 ex_11 => ?_)
        obtain rfl : (nI (1 + a9)) = x_11 := (ex_11.trans (nI_add 1 _)).symm
        refine lv_iload_n hx hb dX8_stand_53 rfl (lv_at hl 3 rfl) ?_
        refine va_iast (D := (dC, dI)) hx hb hK hP hD hS 1 0 rfl rfl (vp_in_nI (n := (1 + a9)) (N := 72) (by omega) (by omega)) dX8_stand_54 (fun H locs hP hD hS => ?_)
        obtain ⟨g_12, eg_12⟩ : ∃ y : Nat → Int32, y = upd fs (Int32.toNatClampNeg (nI (1 + a9))) (nI b9) := ⟨_, rfl⟩
        have hP : va_P (dC, dI) vwCl [(m0, .inr (6, [.ref st, .ref im, .ref kq, .ref pw, .ref nx, .ref li, .int d6, .ref il, .ref mv, .ref so, .ref la, .int d11, .int d12, .ref co])), (st, .inl (cyI, 72, .inl g_12))] H := by rw [eg_12]; exact hP
        have hD : va_D A [(m0, .inr (6, [.ref st, .ref im, .ref kq, .ref pw, .ref nx, .ref li, .int d6, .ref il, .ref mv, .ref so, .ref la, .int d11, .int d12, .ref co])), (st, .inl (cyI, 72, .inl g_12))] := by rw [eg_12]; exact hD
        rw [nI_clamp (n := (1 + a9)) (by omega)] at eg_12
        refine lv_iload_n hx hb dX8_stand_55 rfl (lv_at hl 0 rfl) ?_
        exact W.iret (v := (nI (wq a9))) hx hb hr (fun t ht hW => ⟨⟨(nI (wq a9)), g_12, rfl, mn_I_stand hn3 hn h0f hwk hzf hz10 (by omega) eg_12 (by omega) hwj, ⟨by rw [ht]; exact hP.sub (ws' := [(m0, .inr (6, [.ref st, .ref im, .ref kq, .ref pw, .ref nx, .ref li, .int d6, .ref il, .ref mv, .ref so, .ref la, .int d11, .int d12, .ref co])), (st, .inl (cyI, 72, .inl g_12))]) [0, 1] rfl, hD.sub (ws' := [(m0, .inr (6, [.ref st, .ref im, .ref kq, .ref pw, .ref nx, .ref li, .int d6, .ref il, .ref mv, .ref so, .ref la, .int d11, .int d12, .ref co])), (st, .inl (cyI, 72, .inl g_12))]) [0, 1] (by decide) rfl⟩⟩, hS.F ht⟩) hS.2.2 dX8_stand_56
      · skip
        have ic_10 := ci_nle (nI_toInt (n := ((mn_sum wq 10 - wq a9) + b9)) (by omega)) (show Int32.toInt 5 = 5 by decide) c_10
        refine lv_bipush (v := (-4)) hx hb dX8_stand_43 (by decide) ?_
        exact W.iret (v := (-4)) hx hb hr (fun t ht hW => ⟨⟨(-4), fs, rfl, ⟨n, wq, zz, hn3, hn, h0f, hwk, hws, hzf, hz10⟩, ⟨by rw [ht]; exact hP.sub (ws' := [(m0, .inr (6, [.ref st, .ref im, .ref kq, .ref pw, .ref nx, .ref li, .int d6, .ref il, .ref mv, .ref so, .ref la, .int d11, .int d12, .ref co])), (st, .inl (cyI, 72, .inl fs))]) [0, 1] rfl, hD.sub (ws' := [(m0, .inr (6, [.ref st, .ref im, .ref kq, .ref pw, .ref nx, .ref li, .int d6, .ref il, .ref mv, .ref so, .ref la, .int d11, .int d12, .ref co])), (st, .inl (cyI, 72, .inl fs))]) [0, 1] (by decide) rfl⟩⟩, hS.F ht⟩) hS.2.2 dX8_stand_45
    · skip
      have ic_4 := ci_eq (rfl : Int32.toInt r_3 = _) (show Int32.toInt 0 = 0 by decide) c_4
      refine lv_bipush (v := (-2)) hx hb dX8_stand_19 (by decide) ?_
      exact W.iret (v := (-2)) hx hb hr (fun t ht hW => ⟨⟨(-2), fs, rfl, ⟨n, wq, zz, hn3, hn, h0f, hwk, hws, hzf, hz10⟩, ⟨by rw [ht]; exact hP.sub (ws' := [(m0, .inr (6, [.ref st, .ref im, .ref kq, .ref pw, .ref nx, .ref li, .int d6, .ref il, .ref mv, .ref so, .ref la, .int d11, .int d12, .ref co])), (st, .inl (cyI, 72, .inl fs))]) [0, 1] rfl, hD.sub (ws' := [(m0, .inr (6, [.ref st, .ref im, .ref kq, .ref pw, .ref nx, .ref li, .int d6, .ref il, .ref mv, .ref so, .ref la, .int d11, .int d12, .ref co])), (st, .inl (cyI, 72, .inl fs))]) [0, 1] (by decide) rfl⟩⟩, hS.F ht⟩) hS.2.2 dX8_stand_21
  · skip
    have ic_2 := ci_eq (rfl : Int32.toInt r_1 = _) (show Int32.toInt 0 = 0 by decide) c_2
    refine lv_iconst (v := (-1)) hx hb dX8_stand_8 (by decide) ?_
    exact W.iret (v := (-1)) hx hb hr (fun t ht hW => ⟨⟨(-1), fs, rfl, ⟨n, wq, zz, hn3, hn, h0f, hwk, hws, hzf, hz10⟩, ⟨by rw [ht]; exact hP.sub (ws' := [(m0, .inr (6, [.ref st, .ref im, .ref kq, .ref pw, .ref nx, .ref li, .int d6, .ref il, .ref mv, .ref so, .ref la, .int d11, .int d12, .ref co])), (st, .inl (cyI, 72, .inl fs))]) [0, 1] rfl, hD.sub (ws' := [(m0, .inr (6, [.ref st, .ref im, .ref kq, .ref pw, .ref nx, .ref li, .int d6, .ref il, .ref mv, .ref so, .ref la, .int d11, .int d12, .ref co])), (st, .inl (cyI, 72, .inl fs))]) [0, 1] (by decide) rfl⟩⟩, hS.F ht⟩) hS.2.2 dX8_stand_9

theorem hnX8_whom_X8 : ∀ w ∈ wsX80, w ∈ wsX8_whom := fun _ h => List.mem_cons_of_mem _ (List.mem_append_right _ h)
set_option maxHeartbeats 4000000 in
set_option maxRecDepth 100000 in
theorem mX8_whom (l : Launch) (dC : Nat → ClassId) (dI : Nat → Nat → Nat) (cyI cyZ : ClassId) (m0 : Nat) (st : Nat) (im : Nat) (kq : Nat) (pw : Nat) (nx : Nat) (li : Nat) (il : Nat) (mv : Nat) (so : Nat) (la : Nat) (co : Nat) (d6 : Int32) (d11 : Int32) (d12 : Int32) (n : Nat) (fs : Nat → Int32) (wq : Nat → Nat) (zz : Nat) (p1 : Int32) (p2 : Int32) (hn3 : 3 ≤ n) (hn : n ≤ 10) (h0f : fs 0 = nI n) (hwk : ∀ j, j < 10 → fs (1 + j) = nI (wq j)) (hws : mn_sum wq 10 ≤ 5) (hzf : fs 11 = nI zz) (hz10 : zz ≤ 10) (sz : Nat) : Met l yX8_whom wsX8_whom ({ frames := 2, cells := 0, slots := 0, locals := 43 }) (bs_W dC dI cyI cyZ [.ref m0, .int p1, .int p2] [(m0, .inr (6, [.ref st, .ref im, .ref kq, .ref pw, .ref nx, .ref li, .int d6, .ref il, .ref mv, .ref so, .ref la, .int d11, .int d12, .ref co])), (st, .inl (cyI, 72, .inl fs))] sz) (va_Qi (S := (Nat → Int32)) (fun (r : Int32) (q : (Nat → Int32)) => mn_I q) (fun q t => bs_E dC dI (va_A [(m0, .inr (6, [.ref st, .ref im, .ref kq, .ref pw, .ref nx, .ref li, .int d6, .ref il, .ref mv, .ref so, .ref la, .int d11, .int d12, .ref co])), (st, .inl (cyI, 72, .inl fs))] sz) [(m0, .inr (6, [.ref st, .ref im, .ref kq, .ref pw, .ref nx, .ref li, .int d6, .ref il, .ref mv, .ref so, .ref la, .int d11, .int d12, .ref co])), (st, .inl (cyI, 72, .inl q))] t) (va_A [(m0, .inr (6, [.ref st, .ref im, .ref kq, .ref pw, .ref nx, .ref li, .int d6, .ref il, .ref mv, .ref so, .ref la, .int d11, .int d12, .ref co])), (st, .inl (cyI, 72, .inl fs))] sz)) 0 0 (va_A [(m0, .inr (6, [.ref st, .ref im, .ref kq, .ref pw, .ref nx, .ref li, .int d6, .ref il, .ref mv, .ref so, .ref la, .int d11, .int d12, .ref co])), (st, .inl (cyI, 72, .inl fs))] sz) := by
  refine Met.ofW (cc := cX8_whom) (maxL := 4) (ret := (some .int)) (by decide) rfl ?_
  intro p e s m args below meth c s₁ B hml hv
  obtain ⟨rfl, hsz, hB, hP, hD0⟩ := hv
  have hK := hB.1
  have hN := hB.2
  have hx := B.exec
  have hb := B.bytes
  have hr := B.returns
  have hts := atoms_spec (ws := wsX8_whom) B.pre
  have hown : s.vm.findClass RX8 = some m.cls := findClass_of_methodNamed B.named
  have hlocks := B.notSynchronized
  subst hsz
  have hD := hD0.self (sz := s.heap.size)
  generalize hAe : va_A [(m0, .inr (6, [.ref st, .ref im, .ref kq, .ref pw, .ref nx, .ref li, .int d6, .ref il, .ref mv, .ref so, .ref la, .int d11, .int d12, .ref co])), (st, .inl (cyI, 72, .inl fs))] s.heap.size = A at hD ⊢
  have hA : ∀ q : Nat, s.heap.size ≤ q → A q := fun q h => by rw [← hAe]; exact Or.inr h
  have hS : va_S A s.heap s.heap [] := va_S.rf
  have hP : va_P (dC, dI) vwCl [(m0, .inr (6, [.ref st, .ref im, .ref kq, .ref pw, .ref nx, .ref li, .int d6, .ref il, .ref mv, .ref so, .ref la, .int d11, .int d12, .ref co])), (st, .inl (cyI, 72, .inl fs))] s.heap := hP
  have hl := lv_entry ([.ref m0, .int p1, .int p2]) (n := 4) (Nat.le_of_ble_eq_true rfl)
  rw [lg_entry_eq]
  generalize (lg_sl ([.ref m0, .int p1, .int p2]) ++ List.replicate (4 - (lg_sl ([.ref m0, .int p1, .int p2])).length) Slot.unset).toArray = ls at hl ⊢
  have hl : lv_has ls 4 [(0, .ref m0), (1, .int p1), (2, .int p2)] := hl
  refine lv_aload_n hx hb dX8_whom_0 rfl (lv_at hl 0 rfl) ?_
  refine lv_iload_n hx hb dX8_whom_1 rfl (lv_at hl 1 rfl) ?_
  refine vp_callSi (va_Run.run (va_runV (As := [.int p1]) (rest := []) ⟨hx, hb, hml, hown, hts⟩ (mX8_isRule l dC dI cyI cyZ m0 st im kq pw nx li il mv so la co d6 d11 d12 zz fs p1 hzf hz10) (cwV 1 hts gX8_whom_X8_isRule rfl rfl rfl (by decide +kernel) ⟨Nat.le_of_ble_eq_true rfl, Nat.le_of_ble_eq_true rfl⟩) (bs_RV hB (hP.sub (ws' := [(m0, .inr (6, [.ref st, .ref im, .ref kq, .ref pw, .ref nx, .ref li, .int d6, .ref il, .ref mv, .ref so, .ref la, .int d11, .int d12, .ref co])), (st, .inl (cyI, 72, .inl fs))]) [0, 1] rfl) 0 rfl rfl) rfl rfl hl.1 rfl (lv_room (Nat.le_of_ble_eq_true rfl)) dX8_whom_2 ⟨Nat.le_of_ble_eq_true rfl, Nat.le_of_ble_eq_true rfl⟩)) (fun r_1 hr_1 => ?_)
  refine lv_if_ne (tgt := 10) hx hb dX8_whom_5 (by decide) (fun c_2 => ?_) (fun c_2 => ?_)
  · skip
    have ic_2 := ci_ne (rfl : Int32.toInt r_1 = _) (show Int32.toInt 0 = 0 by decide) c_2
    obtain ⟨j9, lj9, ej9⟩ := hr_1.2.1 (hr_1.1.resolve_left c_2)
    subst ej9
    refine lv_iload_n hx hb dX8_whom_10 rfl (lv_at hl 2 rfl) ?_
    refine lv_iconst (v := 0) hx hb dX8_whom_11 (by decide) ?_
    refine lv_iconst (v := 2) hx hb dX8_whom_12 (by decide) ?_
    refine vp_callSi (va_Run.run (va_runS (As := [.int p2, .int 0, .int 2]) (rest := []) ⟨hx, hb, hml, hown, hts⟩ (mX8_in l dC dI cyI cyZ p2 0 2 0 2 (by decide) (by decide)) (va_cwS 3 hts gX8_whom_X8_in rfl rfl rfl (by decide +kernel) ⟨Nat.le_of_ble_eq_true rfl, Nat.le_of_ble_eq_true rfl⟩) (bs_RS hB (hP.sub (ws' := []) [] rfl)) rfl rfl hl.1 rfl (lv_room (Nat.le_of_ble_eq_true rfl)) dX8_whom_13 ⟨Nat.le_of_ble_eq_true rfl, Nat.le_of_ble_eq_true rfl⟩)) (fun r_3 hr_3 => ?_)
    refine lv_if_ne (tgt := 22) hx hb dX8_whom_16 (by decide) (fun c_4 => ?_) (fun c_4 => ?_)
    · skip
      have ic_4 := ci_ne (rfl : Int32.toInt r_3 = _) (show Int32.toInt 0 = 0 by decide) c_4
      refine lv_aload_n hx hb dX8_whom_22 rfl (lv_at hl 0 rfl) ?_
      refine va_get (D := (dC, dI)) (ci := 6) (v := .ref st) (C := RX8) (T := TX8) (N := 14) hx hb hts hnX8_whom_X8 hown hK hP 0 rfl rfl 0 (by decide) (hts (.fieldLink RX8 7 "RingMeetsModel" "state" "[I") (by decide +kernel)) (fun _ h9 => h9) rfl dX8_whom_23 ?_
      refine lv_bipush (v := 12) hx hb dX8_whom_26 (by decide) ?_
      refine lv_bipush (v := 6) hx hb dX8_whom_28 (by decide) ?_
      refine lv_iload_n hx hb dX8_whom_30 rfl (lv_at hl 1 rfl) ?_
      refine lv_imul hx hb dX8_whom_31 ?_
      refine lv_topi (fun x_5 ex_5 => ?_)
      obtain rfl : (nI (6 * j9)) = x_5 := (ex_5.trans (nb_mul 6 _)).symm
      refine lv_iadd hx hb dX8_whom_32 ?_
      refine lv_topi (fun x_6 ex_6 => ?_)
      obtain rfl : (nI (12 + (6 * j9))) = x_6 := (ex_6.trans (nI_add 12 _)).symm
      refine lv_iconst (v := 5) hx hb dX8_whom_33 (by decide) ?_
      refine lv_iadd hx hb dX8_whom_34 ?_
      refine lv_topi (fun x_7 ex_7 => ?_)
      obtain rfl : (nI ((12 + (6 * j9)) + 5)) = x_7 := (ex_7.trans (nI_add _ 5)).symm
      refine va_iald (D := (dC, dI)) hx hb hK hP 1 0 rfl rfl (vp_in_nI (n := ((12 + (6 * j9)) + 5)) (N := 72) (by omega) (by omega)) dX8_whom_35 ?_
      refine lv_topi (fun x_8 ex_8 => ?_)
      rw [nI_clamp (n := ((12 + (6 * j9)) + 5)) (by omega)] at ex_8
      refine lv_istore_n (lv' := [(3, .int x_8), (0, .ref m0), (1, .int (nI j9)), (2, .int p2)]) hx hb dX8_whom_36 rfl hl (by decide) rfl (fun ls hl => ?_)
      refine lv_aload_n hx hb dX8_whom_37 rfl (lv_at hl 1 rfl) ?_
      refine va_get (D := (dC, dI)) (ci := 6) (v := .ref st) (C := RX8) (T := TX8) (N := 14) hx hb hts hnX8_whom_X8 hown hK hP 0 rfl rfl 0 (by decide) (hts (.fieldLink RX8 7 "RingMeetsModel" "state" "[I") (by decide +kernel)) (fun _ h9 => h9) rfl dX8_whom_38 ?_
      refine lv_bipush (v := 12) hx hb dX8_whom_41 (by decide) ?_
      refine lv_bipush (v := 6) hx hb dX8_whom_43 (by decide) ?_
      refine lv_iload_n hx hb dX8_whom_45 rfl (lv_at hl 2 rfl) ?_
      refine lv_imul hx hb dX8_whom_46 ?_
      refine lv_topi (fun x_9 ex_9 => ?_)
      obtain rfl : (nI (6 * j9)) = x_9 := (ex_9.trans (nb_mul 6 _)).symm
      refine lv_iadd hx hb dX8_whom_47 ?_
      refine lv_topi (fun x_10 ex_10 => ?_)
      obtain rfl : (nI (12 + (6 * j9))) = x_10 := (ex_10.trans (nI_add 12 _)).symm
      refine lv_iconst (v := 5) hx hb dX8_whom_48 (by decide) ?_
      refine lv_iadd hx hb dX8_whom_49 ?_
      refine lv_topi (fun x_11 ex_11 => ?_)
      obtain rfl : (nI ((12 + (6 * j9)) + 5)) = x_11 := (ex_11.trans (nI_add _ 5)).symm
      refine lv_iload_n hx hb dX8_whom_50 rfl (lv_at hl 3 rfl) ?_
      refine va_iast (D := (dC, dI)) hx hb hK hP hD hS 1 0 rfl rfl (vp_in_nI (n := ((12 + (6 * j9)) + 5)) (N := 72) (by omega) (by omega)) dX8_whom_51 (fun H locs hP hD hS => ?_)
      obtain ⟨g_12, eg_12⟩ : ∃ y : Nat → Int32, y = upd fs (Int32.toNatClampNeg (nI ((12 + (6 * j9)) + 5))) p2 := ⟨_, rfl⟩
      have hP : va_P (dC, dI) vwCl [(m0, .inr (6, [.ref st, .ref im, .ref kq, .ref pw, .ref nx, .ref li, .int d6, .ref il, .ref mv, .ref so, .ref la, .int d11, .int d12, .ref co])), (st, .inl (cyI, 72, .inl g_12))] H := by rw [eg_12]; exact hP
      have hD : va_D A [(m0, .inr (6, [.ref st, .ref im, .ref kq, .ref pw, .ref nx, .ref li, .int d6, .ref il, .ref mv, .ref so, .ref la, .int d11, .int d12, .ref co])), (st, .inl (cyI, 72, .inl g_12))] := by rw [eg_12]; exact hD
      rw [nI_clamp (n := ((12 + (6 * j9)) + 5)) (by omega)] at eg_12
      refine lv_iload_n hx hb dX8_whom_52 rfl (lv_at hl 0 rfl) ?_
      exact W.iret (v := x_8) hx hb hr (fun t ht hW => ⟨⟨x_8, g_12, rfl, mn_I_upd ⟨n, wq, zz, hn3, hn, h0f, hwk, hws, hzf, hz10⟩ (by omega) eg_12, ⟨by rw [ht]; exact hP.sub (ws' := [(m0, .inr (6, [.ref st, .ref im, .ref kq, .ref pw, .ref nx, .ref li, .int d6, .ref il, .ref mv, .ref so, .ref la, .int d11, .int d12, .ref co])), (st, .inl (cyI, 72, .inl g_12))]) [0, 1] rfl, hD.sub (ws' := [(m0, .inr (6, [.ref st, .ref im, .ref kq, .ref pw, .ref nx, .ref li, .int d6, .ref il, .ref mv, .ref so, .ref la, .int d11, .int d12, .ref co])), (st, .inl (cyI, 72, .inl g_12))]) [0, 1] (by decide) rfl⟩⟩, hS.F ht⟩) hS.2.2 dX8_whom_53
    · skip
      have ic_4 := ci_eq (rfl : Int32.toInt r_3 = _) (show Int32.toInt 0 = 0 by decide) c_4
      refine lv_bipush (v := (-2)) hx hb dX8_whom_19 (by decide) ?_
      exact W.iret (v := (-2)) hx hb hr (fun t ht hW => ⟨⟨(-2), fs, rfl, ⟨n, wq, zz, hn3, hn, h0f, hwk, hws, hzf, hz10⟩, ⟨by rw [ht]; exact hP.sub (ws' := [(m0, .inr (6, [.ref st, .ref im, .ref kq, .ref pw, .ref nx, .ref li, .int d6, .ref il, .ref mv, .ref so, .ref la, .int d11, .int d12, .ref co])), (st, .inl (cyI, 72, .inl fs))]) [0, 1] rfl, hD.sub (ws' := [(m0, .inr (6, [.ref st, .ref im, .ref kq, .ref pw, .ref nx, .ref li, .int d6, .ref il, .ref mv, .ref so, .ref la, .int d11, .int d12, .ref co])), (st, .inl (cyI, 72, .inl fs))]) [0, 1] (by decide) rfl⟩⟩, hS.F ht⟩) hS.2.2 dX8_whom_21
  · skip
    have ic_2 := ci_eq (rfl : Int32.toInt r_1 = _) (show Int32.toInt 0 = 0 by decide) c_2
    refine lv_iconst (v := (-1)) hx hb dX8_whom_8 (by decide) ?_
    exact W.iret (v := (-1)) hx hb hr (fun t ht hW => ⟨⟨(-1), fs, rfl, ⟨n, wq, zz, hn3, hn, h0f, hwk, hws, hzf, hz10⟩, ⟨by rw [ht]; exact hP.sub (ws' := [(m0, .inr (6, [.ref st, .ref im, .ref kq, .ref pw, .ref nx, .ref li, .int d6, .ref il, .ref mv, .ref so, .ref la, .int d11, .int d12, .ref co])), (st, .inl (cyI, 72, .inl fs))]) [0, 1] rfl, hD.sub (ws' := [(m0, .inr (6, [.ref st, .ref im, .ref kq, .ref pw, .ref nx, .ref li, .int d6, .ref il, .ref mv, .ref so, .ref la, .int d11, .int d12, .ref co])), (st, .inl (cyI, 72, .inl fs))]) [0, 1] (by decide) rfl⟩⟩, hS.F ht⟩) hS.2.2 dX8_whom_9

theorem hnX8_of_X8 : ∀ w ∈ wsX80, w ∈ wsX8_of := fun _ h => List.mem_cons_of_mem _ (List.mem_append_right _ h)
set_option maxHeartbeats 4000000 in
set_option maxRecDepth 100000 in
theorem mX8_of (l : Launch) (dC : Nat → ClassId) (dI : Nat → Nat → Nat) (cyI cyZ : ClassId) (m0 : Nat) (st : Nat) (im : Nat) (kq : Nat) (pw : Nat) (nx : Nat) (li : Nat) (il : Nat) (mv : Nat) (so : Nat) (la : Nat) (co : Nat) (d6 : Int32) (d11 : Int32) (d12 : Int32) (n : Nat) (fs : Nat → Int32) (wq : Nat → Nat) (zz : Nat) (p1 : Int32) (p2 : Int32) (hn3 : 3 ≤ n) (hn : n ≤ 10) (h0f : fs 0 = nI n) (hwk : ∀ j, j < 10 → fs (1 + j) = nI (wq j)) (hws : mn_sum wq 10 ≤ 5) (hzf : fs 11 = nI zz) (hz10 : zz ≤ 10) : Met l yX8_of wsX8_of ({ frames := 2, cells := 0, slots := 0, locals := 43 }) (bs_R dC dI cyI cyZ [.ref m0, .int p1, .int p2] [(m0, .inr (6, [.ref st, .ref im, .ref kq, .ref pw, .ref nx, .ref li, .int d6, .ref il, .ref mv, .ref so, .ref la, .int d11, .int d12, .ref co])), (st, .inl (cyI, 72, .inl fs))]) (vp_Si (fun r : Int32 => True)) 0 0 (fun _ => False) := by
  refine Met.ofW (cc := cX8_of) (maxL := 3) (ret := (some .int)) (by decide) rfl ?_
  intro p e s m args below meth c s₁ B hml hv
  obtain ⟨rfl, hB, hP⟩ := hv
  have hK := hB.1
  have hN := hB.2
  have hx := B.exec
  have hb := B.bytes
  have hr := B.returns
  have hts := atoms_spec (ws := wsX8_of) B.pre
  have hown : s.vm.findClass RX8 = some m.cls := findClass_of_methodNamed B.named
  have hlocks := B.notSynchronized
  have hP : va_P (dC, dI) vwCl [(m0, .inr (6, [.ref st, .ref im, .ref kq, .ref pw, .ref nx, .ref li, .int d6, .ref il, .ref mv, .ref so, .ref la, .int d11, .int d12, .ref co])), (st, .inl (cyI, 72, .inl fs))] s.heap := hP
  have hl := lv_entry ([.ref m0, .int p1, .int p2]) (n := 3) (Nat.le_of_ble_eq_true rfl)
  rw [lg_entry_eq]
  generalize (lg_sl ([.ref m0, .int p1, .int p2]) ++ List.replicate (3 - (lg_sl ([.ref m0, .int p1, .int p2])).length) Slot.unset).toArray = ls at hl ⊢
  have hl : lv_has ls 3 [(0, .ref m0), (1, .int p1), (2, .int p2)] := hl
  refine lv_aload_n hx hb dX8_of_0 rfl (lv_at hl 0 rfl) ?_
  refine lv_iload_n hx hb dX8_of_1 rfl (lv_at hl 1 rfl) ?_
  refine vp_callSi (va_Run.run (va_runV (As := [.int p1]) (rest := []) ⟨hx, hb, hml, hown, hts⟩ (mX8_isRule l dC dI cyI cyZ m0 st im kq pw nx li il mv so la co d6 d11 d12 zz fs p1 hzf hz10) (cwV 1 hts gX8_of_X8_isRule rfl rfl rfl (by decide +kernel) ⟨Nat.le_of_ble_eq_true rfl, Nat.le_of_ble_eq_true rfl⟩) (bs_RV hB (hP.sub (ws' := [(m0, .inr (6, [.ref st, .ref im, .ref kq, .ref pw, .ref nx, .ref li, .int d6, .ref il, .ref mv, .ref so, .ref la, .int d11, .int d12, .ref co])), (st, .inl (cyI, 72, .inl fs))]) [0, 1] rfl) 0 rfl rfl) rfl rfl hl.1 rfl (lv_room (Nat.le_of_ble_eq_true rfl)) dX8_of_2 ⟨Nat.le_of_ble_eq_true rfl, Nat.le_of_ble_eq_true rfl⟩)) (fun r_1 hr_1 => ?_)
  refine lv_if_ne (tgt := 10) hx hb dX8_of_5 (by decide) (fun c_2 => ?_) (fun c_2 => ?_)
  · skip
    have ic_2 := ci_ne (rfl : Int32.toInt r_1 = _) (show Int32.toInt 0 = 0 by decide) c_2
    obtain ⟨j9, lj9, ej9⟩ := hr_1.2.1 (hr_1.1.resolve_left c_2)
    subst ej9
    refine lv_iload_n hx hb dX8_of_10 rfl (lv_at hl 2 rfl) ?_
    refine lv_iconst (v := 0) hx hb dX8_of_11 (by decide) ?_
    refine lv_iconst (v := 5) hx hb dX8_of_12 (by decide) ?_
    refine vp_callSi (va_Run.run (va_runS (As := [.int p2, .int 0, .int 5]) (rest := []) ⟨hx, hb, hml, hown, hts⟩ (mX8_in l dC dI cyI cyZ p2 0 5 0 5 (by decide) (by decide)) (va_cwS 3 hts gX8_of_X8_in rfl rfl rfl (by decide +kernel) ⟨Nat.le_of_ble_eq_true rfl, Nat.le_of_ble_eq_true rfl⟩) (bs_RS hB (hP.sub (ws' := []) [] rfl)) rfl rfl hl.1 rfl (lv_room (Nat.le_of_ble_eq_true rfl)) dX8_of_13 ⟨Nat.le_of_ble_eq_true rfl, Nat.le_of_ble_eq_true rfl⟩)) (fun r_3 hr_3 => ?_)
    refine lv_if_eq (tgt := 36) hx hb dX8_of_16 (by decide) (fun c_4 => ?_) (fun c_4 => ?_)
    · skip
      have ic_4 := ci_eq (rfl : Int32.toInt r_3 = _) (show Int32.toInt 0 = 0 by decide) c_4
      refine lv_bipush (v := (-2)) hx hb dX8_of_36 (by decide) ?_
      exact W.iret (v := (-2)) hx hb hr (fun t ht hW => ⟨(-2), rfl, trivial, ht⟩) (fun q h => by cases h) dX8_of_38
    · skip
      have ic_4 := ci_ne (rfl : Int32.toInt r_3 = _) (show Int32.toInt 0 = 0 by decide) c_4
      have hs9 := hr_3.2.1 (hr_3.1.resolve_left c_4)
      obtain ⟨k9, hk99, ek99⟩ := nb_of (x := p2) (n := 5) (by omega) (by omega) (by decide)
      subst ek99
      refine lv_aload_n hx hb dX8_of_19 rfl (lv_at hl 0 rfl) ?_
      refine va_get (D := (dC, dI)) (ci := 6) (v := .ref st) (C := RX8) (T := TX8) (N := 14) hx hb hts hnX8_of_X8 hown hK hP 0 rfl rfl 0 (by decide) (hts (.fieldLink RX8 7 "RingMeetsModel" "state" "[I") (by decide +kernel)) (fun _ h9 => h9) rfl dX8_of_20 ?_
      refine lv_bipush (v := 12) hx hb dX8_of_23 (by decide) ?_
      refine lv_bipush (v := 6) hx hb dX8_of_25 (by decide) ?_
      refine lv_iload_n hx hb dX8_of_27 rfl (lv_at hl 1 rfl) ?_
      refine lv_imul hx hb dX8_of_28 ?_
      refine lv_topi (fun x_5 ex_5 => ?_)
      obtain rfl : (nI (6 * j9)) = x_5 := (ex_5.trans (nb_mul 6 _)).symm
      refine lv_iadd hx hb dX8_of_29 ?_
      refine lv_topi (fun x_6 ex_6 => ?_)
      obtain rfl : (nI (12 + (6 * j9))) = x_6 := (ex_6.trans (nI_add 12 _)).symm
      refine lv_iload_n hx hb dX8_of_30 rfl (lv_at hl 2 rfl) ?_
      refine lv_iadd hx hb dX8_of_31 ?_
      refine lv_topi (fun x_7 ex_7 => ?_)
      obtain rfl : (nI ((12 + (6 * j9)) + k9)) = x_7 := (ex_7.trans (nI_add _ _)).symm
      refine va_iald (D := (dC, dI)) hx hb hK hP 1 0 rfl rfl (vp_in_nI (n := ((12 + (6 * j9)) + k9)) (N := 72) (by omega) (by omega)) dX8_of_32 ?_
      refine lv_topi (fun x_8 ex_8 => ?_)
      rw [nI_clamp (n := ((12 + (6 * j9)) + k9)) (by omega)] at ex_8
      refine lv_goto (tgt := 38) hx hb dX8_of_33 (by decide) ?_
      exact W.iret (v := x_8) hx hb hr (fun t ht hW => ⟨x_8, rfl, trivial, ht⟩) (fun q h => by cases h) dX8_of_38
  · skip
    have ic_2 := ci_eq (rfl : Int32.toInt r_1 = _) (show Int32.toInt 0 = 0 by decide) c_2
    refine lv_iconst (v := (-1)) hx hb dX8_of_8 (by decide) ?_
    exact W.iret (v := (-1)) hx hb hr (fun t ht hW => ⟨(-1), rfl, trivial, ht⟩) (fun q h => by cases h) dX8_of_9

theorem hnX8_towers_X8 : ∀ w ∈ wsX80, w ∈ wsX8_towers := fun _ h => List.mem_cons_of_mem _ (List.mem_append_right _ h)
set_option maxHeartbeats 4000000 in
set_option maxRecDepth 100000 in
theorem mX8_towers (l : Launch) (dC : Nat → ClassId) (dI : Nat → Nat → Nat) (cyI cyZ : ClassId) (m0 : Nat) (st : Nat) (im : Nat) (kq : Nat) (pw : Nat) (nx : Nat) (li : Nat) (il : Nat) (mv : Nat) (so : Nat) (la : Nat) (co : Nat) (d6 : Int32) (d11 : Int32) (d12 : Int32) (n : Nat) (fs : Nat → Int32) (wq : Nat → Nat) (hn3 : 3 ≤ n) (hn : n ≤ 10) (h0f : fs 0 = nI n) (hwk : ∀ j, j < 10 → fs (1 + j) = nI (wq j)) (hws : mn_sum wq 10 ≤ 5) : Met l yX8_towers wsX8_towers ({ frames := 1, cells := 0, slots := 0, locals := 20 }) (bs_R dC dI cyI cyZ [.ref m0] [(m0, .inr (6, [.ref st, .ref im, .ref kq, .ref pw, .ref nx, .ref li, .int d6, .ref il, .ref mv, .ref so, .ref la, .int d11, .int d12, .ref co])), (st, .inl (cyI, 72, .inl fs))]) (vp_Si (fun r : Int32 => True)) 0 0 (fun _ => False) := by
  refine Met.ofW (cc := cX8_towers) (maxL := 3) (ret := (some .int)) (by decide) rfl ?_
  intro p e s m args below meth c s₁ B hml hv
  obtain ⟨rfl, hB, hP⟩ := hv
  have hK := hB.1
  have hN := hB.2
  have hx := B.exec
  have hb := B.bytes
  have hr := B.returns
  have hts := atoms_spec (ws := wsX8_towers) B.pre
  have hown : s.vm.findClass RX8 = some m.cls := findClass_of_methodNamed B.named
  have hlocks := B.notSynchronized
  have hP : va_P (dC, dI) vwCl [(m0, .inr (6, [.ref st, .ref im, .ref kq, .ref pw, .ref nx, .ref li, .int d6, .ref il, .ref mv, .ref so, .ref la, .int d11, .int d12, .ref co])), (st, .inl (cyI, 72, .inl fs))] s.heap := hP
  have hl := lv_entry ([.ref m0]) (n := 3) (Nat.le_of_ble_eq_true rfl)
  rw [lg_entry_eq]
  generalize (lg_sl ([.ref m0]) ++ List.replicate (3 - (lg_sl ([.ref m0])).length) Slot.unset).toArray = ls at hl ⊢
  have hl : lv_has ls 3 [(0, .ref m0)] := hl
  refine lv_iconst (v := 0) hx hb dX8_towers_0 (by decide) ?_
  refine lv_istore_n (lv' := [(1, .int 0), (0, .ref m0)]) hx hb dX8_towers_1 rfl hl (by decide) rfl (fun ls hl => ?_)
  refine lv_iconst (v := 0) hx hb dX8_towers_2 (by decide) ?_
  refine lv_istore_n (lv' := [(2, .int 0), (1, .int 0), (0, .ref m0)]) hx hb dX8_towers_3 rfl hl (by decide) rfl (fun ls hl => ?_)
  have L4 : ∀ (n4 : Nat), ∀ (k : Nat) (ya : Int32), (0 ≤ k ∧ k ≤ n) → (n + 1 ≤ k + n4) → ∀ (ls : Array Slot), lv_has ls 3 [(0, .ref m0), (1, .int ya), (2, .int (nI k))] → W p l e (headSpec wsX8_towers ({ frames := 1, cells := 0, slots := 0, locals := 20 })).room s m ([.ref m0] : List Value).toArray below meth c s.heap [] 0 0 (MQ below (vp_Si (fun r : Int32 => True)) ([.ref m0] : List Value).toArray s 0 0 (fun _ => False)) (F0 m 4 ls []) := by
    intro n4
    induction n4 with
    | zero =>
      intro k ya hk4 hn4 ls hl
      exfalso
      omega
    | succ n4 ih4 =>
      intro k ya hk4 hn4 ls hl
      refine lv_iload_n hx hb dX8_towers_4 rfl (lv_at hl 2 rfl) ?_
      refine lv_aload_n hx hb dX8_towers_5 rfl (lv_at hl 0 rfl) ?_
      refine vp_callSi (va_Run.run (va_runV (As := []) (rest := [.int (nI k)]) ⟨hx, hb, hml, hown, hts⟩ (mX8_cells l dC dI cyI cyZ m0 st im kq pw nx li il mv so la co d6 d11 d12 n fs hn3 hn h0f) (cwV 0 hts gX8_towers_X8_cells rfl rfl rfl (by decide +kernel) ⟨Nat.le_of_ble_eq_true rfl, Nat.le_of_ble_eq_true rfl⟩) (bs_RV hB (hP.sub (ws' := [(m0, .inr (6, [.ref st, .ref im, .ref kq, .ref pw, .ref nx, .ref li, .int d6, .ref il, .ref mv, .ref so, .ref la, .int d11, .int d12, .ref co])), (st, .inl (cyI, 72, .inl fs))]) [0, 1] rfl) 0 rfl rfl) rfl rfl hl.1 rfl (lv_room (Nat.le_of_ble_eq_true rfl)) dX8_towers_6 ⟨Nat.le_of_ble_eq_true rfl, Nat.le_of_ble_eq_true rfl⟩)) (fun r_1 hr_1 => ?_)
      obtain rfl : (nI n) = r_1 := Eq.symm hr_1
      refine lv_icmp_ge (tgt := 40) hx hb dX8_towers_9 (by decide) (fun c_2 => ?_) (fun c_2 => ?_)
      · skip
        have ic_2 := ci_le (nI_toInt (n := n) (by omega)) (nI_toInt (n := k) (by omega)) c_2
        refine lv_iload_n hx hb dX8_towers_40 rfl (lv_at hl 1 rfl) ?_
        exact W.iret (v := ya) hx hb hr (fun t ht hW => ⟨ya, rfl, trivial, ht⟩) (fun q h => by cases h) dX8_towers_41
      · skip
        have ic_2 := ci_nle (nI_toInt (n := n) (by omega)) (nI_toInt (n := k) (by omega)) c_2
        have hwj := mn_sum_le wq (j := k) (k := 10) (by omega)
        refine lv_iload_n hx hb dX8_towers_12 rfl (lv_at hl 1 rfl) ?_
        refine lv_aload_n hx hb dX8_towers_13 rfl (lv_at hl 0 rfl) ?_
        refine va_get (D := (dC, dI)) (ci := 6) (v := .ref st) (C := RX8) (T := TX8) (N := 14) hx hb hts hnX8_towers_X8 hown hK hP 0 rfl rfl 0 (by decide) (hts (.fieldLink RX8 7 "RingMeetsModel" "state" "[I") (by decide +kernel)) (fun _ h9 => h9) rfl dX8_towers_14 ?_
        refine lv_iconst (v := 1) hx hb dX8_towers_17 (by decide) ?_
        refine lv_iload_n hx hb dX8_towers_18 rfl (lv_at hl 2 rfl) ?_
        refine lv_iadd hx hb dX8_towers_19 ?_
        refine lv_topi (fun x_3 ex_3 => ?_)
        obtain rfl : (nI (1 + k)) = x_3 := (ex_3.trans (nI_add 1 _)).symm
        refine va_iald (D := (dC, dI)) hx hb hK hP 1 0 rfl rfl (vp_in_nI (n := (1 + k)) (N := 72) (by omega) (by omega)) dX8_towers_20 ?_
        refine lv_topi (fun x_4 ex_4 => ?_)
        rw [nI_clamp (n := (1 + k)) (by omega)] at ex_4
        obtain rfl : (nI (wq k)) = x_4 := (ex_4.trans (hwk _ (by omega))).symm
        refine lv_iconst (v := 1) hx hb dX8_towers_21 (by decide) ?_
        refine lv_icmp_le (tgt := 31) hx hb dX8_towers_22 (by decide) (fun c_5 => ?_) (fun c_5 => ?_)
        · skip
          have ic_5 := ci_le (nI_toInt (n := (wq k)) (by omega)) (show Int32.toInt 1 = 1 by decide) c_5
          refine lv_iconst (v := 0) hx hb dX8_towers_31 (by decide) ?_
          refine lv_ior hx hb dX8_towers_32 ?_
          refine lv_topi (fun x_6 ex_6 => ?_)
          obtain rfl : ya = x_6 := (ex_6.trans (Int32.or_zero)).symm
          refine lv_istore_n (lv' := [(1, .int ya), (0, .ref m0), (2, .int (nI k))]) hx hb dX8_towers_33 rfl hl (by decide) rfl (fun ls hl => ?_)
          refine lv_iinc (v := (nI (k + 1))) (lv' := [(2, .int (nI (k + 1))), (1, .int ya), (0, .ref m0)]) hx hb dX8_towers_34 hl (k := 2) rfl (nI_1 _) (by decide) rfl (fun ls hl => ?_)
          refine lv_goto (tgt := 4) hx hb dX8_towers_37 (by decide) ?_
          exact ih4 (k + 1) ya ⟨by omega, by omega⟩ (by omega)  _ (lv_sub hl [2, 1, 0] rfl)
        · skip
          have ic_5 := ci_nle (nI_toInt (n := (wq k)) (by omega)) (show Int32.toInt 1 = 1 by decide) c_5
          refine lv_iconst (v := 1) hx hb dX8_towers_25 (by decide) ?_
          refine lv_iload_n hx hb dX8_towers_26 rfl (lv_at hl 2 rfl) ?_
          refine lv_ishl hx hb dX8_towers_27 ?_
          refine lv_topi (fun x_7 ex_7 => ?_)
          refine lv_goto (tgt := 32) hx hb dX8_towers_28 (by decide) ?_
          refine lv_ior hx hb dX8_towers_32 ?_
          refine lv_topi (fun x_8 ex_8 => ?_)
          refine lv_istore_n (lv' := [(1, .int x_8), (0, .ref m0), (2, .int (nI k))]) hx hb dX8_towers_33 rfl hl (by decide) rfl (fun ls hl => ?_)
          refine lv_iinc (v := (nI (k + 1))) (lv' := [(2, .int (nI (k + 1))), (1, .int x_8), (0, .ref m0)]) hx hb dX8_towers_34 hl (k := 2) rfl (nI_1 _) (by decide) rfl (fun ls hl => ?_)
          refine lv_goto (tgt := 4) hx hb dX8_towers_37 (by decide) ?_
          exact ih4 (k + 1) x_8 ⟨by omega, by omega⟩ (by omega)  _ (lv_sub hl [2, 1, 0] rfl)
  exact L4 (n + 1) 0 0 ⟨by omega, by omega⟩ (by omega)  _ (lv_sub hl [2, 1, 0] rfl)

theorem hnX8_count_X8 : ∀ w ∈ wsX80, w ∈ wsX8_count := fun _ h => List.mem_cons_of_mem _ (List.mem_append_right _ h)
set_option maxHeartbeats 4000000 in
set_option maxRecDepth 100000 in
theorem mX8_count (l : Launch) (dC : Nat → ClassId) (dI : Nat → Nat → Nat) (cyI cyZ : ClassId) (m0 : Nat) (st : Nat) (im : Nat) (kq : Nat) (pw : Nat) (nx : Nat) (li : Nat) (il : Nat) (mv : Nat) (so : Nat) (la : Nat) (co : Nat) (d6 : Int32) (d11 : Int32) (d12 : Int32) (n : Nat) (fs : Nat → Int32) (wq : Nat → Nat) (fp : Nat → Int32) (zz : Nat) (fk : Nat → Int32) (p1 : Int32) (hn3 : 3 ≤ n) (hn : n ≤ 10) (h0f : fs 0 = nI n) (hwk : ∀ j, j < 10 → fs (1 + j) = nI (wq j)) (hws : mn_sum wq 10 ≤ 5) (hp : ∀ j, j ≤ 10 → fp j = nI (3 ^ j)) (hzf : fs 11 = nI zz) (hz10 : zz ≤ 10) : Met l yX8_count wsX8_count ({ frames := 2, cells := 0, slots := 0, locals := 43 }) (bs_R dC dI cyI cyZ [.ref m0, .int p1] [(m0, .inr (6, [.ref st, .ref im, .ref kq, .ref pw, .ref nx, .ref li, .int d6, .ref il, .ref mv, .ref so, .ref la, .int d11, .int d12, .ref co])), (st, .inl (cyI, 72, .inl fs)), (pw, .inl (cyI, 11, .inl fp)), (kq, .inl (cyZ, 2, .inl fk))]) (vp_Si (fun r : Int32 => True)) 0 0 (fun _ => False) := by
  refine Met.ofW (cc := cX8_count) (maxL := 2) (ret := (some .int)) (by decide) rfl ?_
  intro p e s m args below meth c s₁ B hml hv
  obtain ⟨rfl, hB, hP⟩ := hv
  have hK := hB.1
  have hN := hB.2
  have hx := B.exec
  have hb := B.bytes
  have hr := B.returns
  have hts := atoms_spec (ws := wsX8_count) B.pre
  have hown : s.vm.findClass RX8 = some m.cls := findClass_of_methodNamed B.named
  have hlocks := B.notSynchronized
  have hP : va_P (dC, dI) vwCl [(m0, .inr (6, [.ref st, .ref im, .ref kq, .ref pw, .ref nx, .ref li, .int d6, .ref il, .ref mv, .ref so, .ref la, .int d11, .int d12, .ref co])), (st, .inl (cyI, 72, .inl fs)), (pw, .inl (cyI, 11, .inl fp)), (kq, .inl (cyZ, 2, .inl fk))] s.heap := hP
  have hl := lv_entry ([.ref m0, .int p1]) (n := 2) (Nat.le_of_ble_eq_true rfl)
  rw [lg_entry_eq]
  generalize (lg_sl ([.ref m0, .int p1]) ++ List.replicate (2 - (lg_sl ([.ref m0, .int p1])).length) Slot.unset).toArray = ls at hl ⊢
  have hl : lv_has ls 2 [(0, .ref m0), (1, .int p1)] := hl
  refine lv_iload_n hx hb dX8_count_0 rfl (lv_at hl 1 rfl) ?_
  refine lv_bipush (v := 10) hx hb dX8_count_1 (by decide) ?_
  refine lv_bipush (v := 19) hx hb dX8_count_3 (by decide) ?_
  refine vp_callSi (va_Run.run (va_runS (As := [.int p1, .int 10, .int 19]) (rest := []) ⟨hx, hb, hml, hown, hts⟩ (mX8_in l dC dI cyI cyZ p1 10 19 10 19 (by decide) (by decide)) (va_cwS 3 hts gX8_count_X8_in rfl rfl rfl (by decide +kernel) ⟨Nat.le_of_ble_eq_true rfl, Nat.le_of_ble_eq_true rfl⟩) (bs_RS hB (hP.sub (ws' := []) [] rfl)) rfl rfl hl.1 rfl (lv_room (Nat.le_of_ble_eq_true rfl)) dX8_count_5 ⟨Nat.le_of_ble_eq_true rfl, Nat.le_of_ble_eq_true rfl⟩)) (fun r_1 hr_1 => ?_)
  refine lv_if_eq (tgt := 23) hx hb dX8_count_8 (by decide) (fun c_2 => ?_) (fun c_2 => ?_)
  · skip
    have ic_2 := ci_eq (rfl : Int32.toInt r_1 = _) (show Int32.toInt 0 = 0 by decide) c_2
    refine lv_iload_n hx hb dX8_count_23 rfl (lv_at hl 1 rfl) ?_
    rcases nb_sw p1 5 5 rfl with w_3 | ⟨w_3k, w_3l, w_3⟩
    · skip
      refine lv_tableOut (tgt := 126) hx hb dX8_count_24 w_3 (by decide) ?_
      refine lv_bipush (v := (-2)) hx hb dX8_count_126 (by decide) ?_
      exact W.iret (v := (-2)) hx hb hr (fun t ht hW => ⟨(-2), rfl, trivial, ht⟩) (fun q h => by cases h) dX8_count_128
    · skip
      rcases (show w_3k = 0 ∨ w_3k = 1 ∨ w_3k = 2 ∨ w_3k = 3 ∨ w_3k = 4 ∨ w_3k = 5 by omega) with rfl | rfl | rfl | rfl | rfl | rfl
      · skip
        have ew_3 : p1 = 0 := w_3
        refine W.eq (g2 := F0 m 24 ls (.int 0 :: [])) (by rw [ew_3]) ?_
        refine lv_tableIn (off := 40) (tgt := 64) hx hb dX8_count_24 (by decide) (by decide) (by decide) (by decide) ?_
        refine lv_aload_n hx hb dX8_count_64 rfl (lv_at hl 0 rfl) ?_
        refine vp_callSi (va_Run.run (va_runV (As := []) (rest := []) ⟨hx, hb, hml, hown, hts⟩ (mX8_cells l dC dI cyI cyZ m0 st im kq pw nx li il mv so la co d6 d11 d12 n fs hn3 hn h0f) (cwV 0 hts gX8_count_X8_cells rfl rfl rfl (by decide +kernel) ⟨Nat.le_of_ble_eq_true rfl, Nat.le_of_ble_eq_true rfl⟩) (bs_RV hB (hP.sub (ws' := [(m0, .inr (6, [.ref st, .ref im, .ref kq, .ref pw, .ref nx, .ref li, .int d6, .ref il, .ref mv, .ref so, .ref la, .int d11, .int d12, .ref co])), (st, .inl (cyI, 72, .inl fs))]) [0, 1] rfl) 0 rfl rfl) rfl rfl hl.1 rfl (lv_room (Nat.le_of_ble_eq_true rfl)) dX8_count_65 ⟨Nat.le_of_ble_eq_true rfl, Nat.le_of_ble_eq_true rfl⟩)) (fun r_4 hr_4 => ?_)
        obtain rfl : (nI n) = r_4 := Eq.symm hr_4
        exact W.iret (v := (nI n)) hx hb hr (fun t ht hW => ⟨(nI n), rfl, trivial, ht⟩) (fun q h => by cases h) dX8_count_68
      · skip
        have ew_3 : p1 = 1 := w_3
        refine W.eq (g2 := F0 m 24 ls (.int 1 :: [])) (by rw [ew_3]) ?_
        refine lv_tableIn (off := 45) (tgt := 69) hx hb dX8_count_24 (by decide) (by decide) (by decide) (by decide) ?_
        refine lv_aload_n hx hb dX8_count_69 rfl (lv_at hl 0 rfl) ?_
        refine vp_callSi (va_Run.run (va_runV (As := []) (rest := []) ⟨hx, hb, hml, hown, hts⟩ (mX8_walkers l dC dI cyI cyZ m0 st im kq pw nx li il mv so la co d6 d11 d12 fs wq hwk hws) (cwV 0 hts gX8_count_X8_walkers rfl rfl rfl (by decide +kernel) ⟨Nat.le_of_ble_eq_true rfl, Nat.le_of_ble_eq_true rfl⟩) (bs_RV hB (hP.sub (ws' := [(m0, .inr (6, [.ref st, .ref im, .ref kq, .ref pw, .ref nx, .ref li, .int d6, .ref il, .ref mv, .ref so, .ref la, .int d11, .int d12, .ref co])), (st, .inl (cyI, 72, .inl fs))]) [0, 1] rfl) 0 rfl rfl) rfl rfl hl.1 rfl (lv_room (Nat.le_of_ble_eq_true rfl)) dX8_count_70 ⟨Nat.le_of_ble_eq_true rfl, Nat.le_of_ble_eq_true rfl⟩)) (fun r_5 hr_5 => ?_)
        obtain rfl : (nI (mn_sum wq 10)) = r_5 := Eq.symm hr_5
        exact W.iret (v := (nI (mn_sum wq 10))) hx hb hr (fun t ht hW => ⟨(nI (mn_sum wq 10)), rfl, trivial, ht⟩) (fun q h => by cases h) dX8_count_73
      · skip
        have ew_3 : p1 = 2 := w_3
        refine W.eq (g2 := F0 m 24 ls (.int 2 :: [])) (by rw [ew_3]) ?_
        refine lv_tableIn (off := 50) (tgt := 74) hx hb dX8_count_24 (by decide) (by decide) (by decide) (by decide) ?_
        refine lv_aload_n hx hb dX8_count_74 rfl (lv_at hl 0 rfl) ?_
        refine lv_aload_n hx hb dX8_count_75 rfl (lv_at hl 0 rfl) ?_
        refine vp_callSi (va_Run.run (va_runV (As := []) (rest := [.ref m0]) ⟨hx, hb, hml, hown, hts⟩ (mX8_now l dC dI cyI cyZ m0 st im kq pw nx li il mv so la co d6 d11 d12 n fs wq fp hn3 hn h0f hwk hws hp) (cwV 0 hts gX8_count_X8_now rfl rfl rfl (by decide +kernel) ⟨Nat.le_of_ble_eq_true rfl, Nat.le_of_ble_eq_true rfl⟩) (bs_RV hB (hP.sub (ws' := [(m0, .inr (6, [.ref st, .ref im, .ref kq, .ref pw, .ref nx, .ref li, .int d6, .ref il, .ref mv, .ref so, .ref la, .int d11, .int d12, .ref co])), (st, .inl (cyI, 72, .inl fs)), (pw, .inl (cyI, 11, .inl fp))]) [0, 1, 2] rfl) 0 rfl rfl) rfl rfl hl.1 rfl (lv_room (Nat.le_of_ble_eq_true rfl)) dX8_count_76 ⟨Nat.le_of_ble_eq_true rfl, Nat.le_of_ble_eq_true rfl⟩)) (fun r_6 hr_6 => ?_)
        obtain rfl : (nI (mn_code wq n)) = r_6 := Eq.symm hr_6
        refine vp_callSi (va_Run.run (va_runV (As := [.int (nI (mn_code wq n))]) (rest := []) ⟨hx, hb, hml, hown, hts⟩ (mX8_standsOf l dC dI cyI cyZ m0 st im kq pw nx li il mv so la co d6 d11 d12 n fs fp (nI (mn_code wq n)) hn3 hn h0f hp) (cwV 1 hts gX8_count_X8_standsOf rfl rfl rfl (by decide +kernel) ⟨Nat.le_of_ble_eq_true rfl, Nat.le_of_ble_eq_true rfl⟩) (bs_RV hB (hP.sub (ws' := [(m0, .inr (6, [.ref st, .ref im, .ref kq, .ref pw, .ref nx, .ref li, .int d6, .ref il, .ref mv, .ref so, .ref la, .int d11, .int d12, .ref co])), (st, .inl (cyI, 72, .inl fs)), (pw, .inl (cyI, 11, .inl fp))]) [0, 1, 2] rfl) 0 rfl rfl) rfl rfl hl.1 rfl (lv_room (Nat.le_of_ble_eq_true rfl)) dX8_count_79 ⟨Nat.le_of_ble_eq_true rfl, Nat.le_of_ble_eq_true rfl⟩)) (fun r_7 hr_7 => ?_)
        obtain rfl : (nb_st (nI (mn_code wq n)) n) = r_7 := Eq.symm hr_7
        exact W.iret (v := (nb_st (nI (mn_code wq n)) n)) hx hb hr (fun t ht hW => ⟨(nb_st (nI (mn_code wq n)) n), rfl, trivial, ht⟩) (fun q h => by cases h) dX8_count_82
      · skip
        have ew_3 : p1 = 3 := w_3
        refine W.eq (g2 := F0 m 24 ls (.int 3 :: [])) (by rw [ew_3]) ?_
        refine lv_tableIn (off := 59) (tgt := 83) hx hb dX8_count_24 (by decide) (by decide) (by decide) (by decide) ?_
        refine lv_aload_n hx hb dX8_count_83 rfl (lv_at hl 0 rfl) ?_
        refine vp_callSi (va_Run.run (va_runV (As := []) (rest := []) ⟨hx, hb, hml, hown, hts⟩ (mX8_towers l dC dI cyI cyZ m0 st im kq pw nx li il mv so la co d6 d11 d12 n fs wq hn3 hn h0f hwk hws) (cwV 0 hts gX8_count_X8_towers rfl rfl rfl (by decide +kernel) ⟨Nat.le_of_ble_eq_true rfl, Nat.le_of_ble_eq_true rfl⟩) (bs_RV hB (hP.sub (ws' := [(m0, .inr (6, [.ref st, .ref im, .ref kq, .ref pw, .ref nx, .ref li, .int d6, .ref il, .ref mv, .ref so, .ref la, .int d11, .int d12, .ref co])), (st, .inl (cyI, 72, .inl fs))]) [0, 1] rfl) 0 rfl rfl) rfl rfl hl.1 rfl (lv_room (Nat.le_of_ble_eq_true rfl)) dX8_count_84 ⟨Nat.le_of_ble_eq_true rfl, Nat.le_of_ble_eq_true rfl⟩)) (fun r_8 hr_8 => ?_)
        exact W.iret (v := r_8) hx hb hr (fun t ht hW => ⟨r_8, rfl, trivial, ht⟩) (fun q h => by cases h) dX8_count_87
      · skip
        have ew_3 : p1 = 4 := w_3
        refine W.eq (g2 := F0 m 24 ls (.int 4 :: [])) (by rw [ew_3]) ?_
        refine lv_tableIn (off := 64) (tgt := 88) hx hb dX8_count_24 (by decide) (by decide) (by decide) (by decide) ?_
        refine lv_aload_n hx hb dX8_count_88 rfl (lv_at hl 0 rfl) ?_
        refine va_get (D := (dC, dI)) (ci := 6) (v := .ref st) (C := RX8) (T := TX8) (N := 14) hx hb hts hnX8_count_X8 hown hK hP 0 rfl rfl 0 (by decide) (hts (.fieldLink RX8 7 "RingMeetsModel" "state" "[I") (by decide +kernel)) (fun _ h9 => h9) rfl dX8_count_89 ?_
        refine lv_bipush (v := 11) hx hb dX8_count_92 (by decide) ?_
        refine va_iald (D := (dC, dI)) hx hb hK hP 1 0 rfl rfl (show vp_in 11 72 from vp_in_nI (n := 11) (N := 72) (by decide) (by decide)) dX8_count_94 ?_
        refine lv_topi (fun x_9 ex_9 => ?_)
        have ex_9 : x_9 = fs 11 := ex_9
        obtain rfl : (nI zz) = x_9 := (ex_9.trans (hzf)).symm
        exact W.iret (v := (nI zz)) hx hb hr (fun t ht hW => ⟨(nI zz), rfl, trivial, ht⟩) (fun q h => by cases h) dX8_count_95
      · skip
        have ew_3 : p1 = 5 := w_3
        refine W.eq (g2 := F0 m 24 ls (.int 5 :: [])) (by rw [ew_3]) ?_
        refine lv_tableIn (off := 72) (tgt := 96) hx hb dX8_count_24 (by decide) (by decide) (by decide) (by decide) ?_
        refine lv_aload_n hx hb dX8_count_96 rfl (lv_at hl 0 rfl) ?_
        refine va_get (D := (dC, dI)) (ci := 6) (v := .ref kq) (C := RX8) (T := TX8) (N := 14) hx hb hts hnX8_count_X8 hown hK hP 0 rfl rfl 2 (by decide) (hts (.fieldLink RX8 16 "RingMeetsModel" "isKept" "[Z") (by decide +kernel)) (fun _ h9 => h9) rfl dX8_count_97 ?_
        refine lv_iconst (v := 0) hx hb dX8_count_100 (by decide) ?_
        refine va_zald (D := (dC, dI)) hx hb hK hP 3 1 rfl rfl (show vp_in 0 2 from vp_in_nI (n := 0) (N := 2) (by decide) (by decide)) dX8_count_101 ?_
        refine lv_topi (fun x_10 ex_10 => ?_)
        have ex_10 : x_10 = fk 0 := ex_10
        refine lv_if_eq (tgt := 109) hx hb dX8_count_102 (by decide) (fun c_11 => ?_) (fun c_11 => ?_)
        · skip
          have ic_11 := ci_eq (rfl : Int32.toInt x_10 = _) (show Int32.toInt 0 = 0 by decide) c_11
          refine lv_iconst (v := 0) hx hb dX8_count_109 (by decide) ?_
          refine lv_aload_n hx hb dX8_count_110 rfl (lv_at hl 0 rfl) ?_
          refine va_get (D := (dC, dI)) (ci := 6) (v := .ref kq) (C := RX8) (T := TX8) (N := 14) hx hb hts hnX8_count_X8 hown hK hP 0 rfl rfl 2 (by decide) (hts (.fieldLink RX8 16 "RingMeetsModel" "isKept" "[Z") (by decide +kernel)) (fun _ h9 => h9) rfl dX8_count_111 ?_
          refine lv_iconst (v := 1) hx hb dX8_count_114 (by decide) ?_
          refine va_zald (D := (dC, dI)) hx hb hK hP 3 1 rfl rfl (show vp_in 1 2 from vp_in_nI (n := 1) (N := 2) (by decide) (by decide)) dX8_count_115 ?_
          refine lv_topi (fun x_12 ex_12 => ?_)
          have ex_12 : x_12 = fk 1 := ex_12
          refine lv_if_eq (tgt := 123) hx hb dX8_count_116 (by decide) (fun c_13 => ?_) (fun c_13 => ?_)
          · skip
            have ic_13 := ci_eq (rfl : Int32.toInt x_12 = _) (show Int32.toInt 0 = 0 by decide) c_13
            refine lv_iconst (v := 0) hx hb dX8_count_123 (by decide) ?_
            refine lv_iadd hx hb dX8_count_124 ?_
            refine lv_topi (fun x_14 ex_14 => ?_)
            obtain rfl : 0 = x_14 := (ex_14.trans (by decide)).symm
            exact W.iret (v := 0) hx hb hr (fun t ht hW => ⟨0, rfl, trivial, ht⟩) (fun q h => by cases h) dX8_count_125
          · skip
            have ic_13 := ci_ne (rfl : Int32.toInt x_12 = _) (show Int32.toInt 0 = 0 by decide) c_13
            refine lv_iconst (v := 2) hx hb dX8_count_119 (by decide) ?_
            refine lv_goto (tgt := 124) hx hb dX8_count_120 (by decide) ?_
            refine lv_iadd hx hb dX8_count_124 ?_
            refine lv_topi (fun x_15 ex_15 => ?_)
            obtain rfl : 2 = x_15 := (ex_15.trans (by decide)).symm
            exact W.iret (v := 2) hx hb hr (fun t ht hW => ⟨2, rfl, trivial, ht⟩) (fun q h => by cases h) dX8_count_125
        · skip
          have ic_11 := ci_ne (rfl : Int32.toInt x_10 = _) (show Int32.toInt 0 = 0 by decide) c_11
          refine lv_iconst (v := 1) hx hb dX8_count_105 (by decide) ?_
          refine lv_goto (tgt := 110) hx hb dX8_count_106 (by decide) ?_
          refine lv_aload_n hx hb dX8_count_110 rfl (lv_at hl 0 rfl) ?_
          refine va_get (D := (dC, dI)) (ci := 6) (v := .ref kq) (C := RX8) (T := TX8) (N := 14) hx hb hts hnX8_count_X8 hown hK hP 0 rfl rfl 2 (by decide) (hts (.fieldLink RX8 16 "RingMeetsModel" "isKept" "[Z") (by decide +kernel)) (fun _ h9 => h9) rfl dX8_count_111 ?_
          refine lv_iconst (v := 1) hx hb dX8_count_114 (by decide) ?_
          refine va_zald (D := (dC, dI)) hx hb hK hP 3 1 rfl rfl (show vp_in 1 2 from vp_in_nI (n := 1) (N := 2) (by decide) (by decide)) dX8_count_115 ?_
          refine lv_topi (fun x_16 ex_16 => ?_)
          have ex_16 : x_16 = fk 1 := ex_16
          refine lv_if_eq (tgt := 123) hx hb dX8_count_116 (by decide) (fun c_17 => ?_) (fun c_17 => ?_)
          · skip
            have ic_17 := ci_eq (rfl : Int32.toInt x_16 = _) (show Int32.toInt 0 = 0 by decide) c_17
            refine lv_iconst (v := 0) hx hb dX8_count_123 (by decide) ?_
            refine lv_iadd hx hb dX8_count_124 ?_
            refine lv_topi (fun x_18 ex_18 => ?_)
            obtain rfl : 1 = x_18 := (ex_18.trans (by decide)).symm
            exact W.iret (v := 1) hx hb hr (fun t ht hW => ⟨1, rfl, trivial, ht⟩) (fun q h => by cases h) dX8_count_125
          · skip
            have ic_17 := ci_ne (rfl : Int32.toInt x_16 = _) (show Int32.toInt 0 = 0 by decide) c_17
            refine lv_iconst (v := 2) hx hb dX8_count_119 (by decide) ?_
            refine lv_goto (tgt := 124) hx hb dX8_count_120 (by decide) ?_
            refine lv_iadd hx hb dX8_count_124 ?_
            refine lv_topi (fun x_19 ex_19 => ?_)
            obtain rfl : 3 = x_19 := (ex_19.trans (by decide)).symm
            exact W.iret (v := 3) hx hb hr (fun t ht hW => ⟨3, rfl, trivial, ht⟩) (fun q h => by cases h) dX8_count_125
  · skip
    have ic_2 := ci_ne (rfl : Int32.toInt r_1 = _) (show Int32.toInt 0 = 0 by decide) c_2
    have hs9 := hr_1.2.1 (hr_1.1.resolve_left c_2)
    obtain ⟨a9, ha99, ea99⟩ := nb_of (x := p1) (n := 19) (by omega) (by omega) (by decide)
    subst ea99
    have ta9 := nI_toInt (n := a9) (by omega)
    refine lv_aload_n hx hb dX8_count_11 rfl (lv_at hl 0 rfl) ?_
    refine va_get (D := (dC, dI)) (ci := 6) (v := .ref st) (C := RX8) (T := TX8) (N := 14) hx hb hts hnX8_count_X8 hown hK hP 0 rfl rfl 0 (by decide) (hts (.fieldLink RX8 7 "RingMeetsModel" "state" "[I") (by decide +kernel)) (fun _ h9 => h9) rfl dX8_count_12 ?_
    refine lv_iconst (v := 1) hx hb dX8_count_15 (by decide) ?_
    refine lv_iload_n hx hb dX8_count_16 rfl (lv_at hl 1 rfl) ?_
    refine lv_iadd hx hb dX8_count_17 ?_
    refine lv_topi (fun x_20 ex_20 => ?_)
    obtain rfl : (nI (1 + a9)) = x_20 := (ex_20.trans (nI_add 1 _)).symm
    refine lv_bipush (v := 10) hx hb dX8_count_18 (by decide) ?_
    refine lv_isub hx hb dX8_count_20 ?_
    refine lv_topi (fun x_21 ex_21 => ?_)
    obtain rfl : (nI ((1 + a9) - 10)) = x_21 := (ex_21.trans (nb_sub (a := (1 + a9)) (b := 10) (by omega))).symm
    refine va_iald (D := (dC, dI)) hx hb hK hP 1 0 rfl rfl (vp_in_nI (n := ((1 + a9) - 10)) (N := 72) (by omega) (by omega)) dX8_count_21 ?_
    refine lv_topi (fun x_22 ex_22 => ?_)
    rw [nI_clamp (n := ((1 + a9) - 10)) (by omega)] at ex_22
    exact W.iret (v := x_22) hx hb hr (fun t ht hW => ⟨x_22, rfl, trivial, ht⟩) (fun q h => by cases h) dX8_count_22
