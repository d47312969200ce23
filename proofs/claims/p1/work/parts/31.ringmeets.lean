def sp_ring (v : Int32) : Int32 := if v.toInt < 3 ∨ 10 < v.toInt then -2 else 8
def sp_stand (c n : Int32) : Int32 := if ¬ (0 ≤ c.toInt ∧ c.toInt < 8) then -1 else if n.toInt < 0 ∨ 5 < n.toInt then -2 else 0
def sp_shape (w : Int32) : Int32 := if w.toInt < 0 ∨ 5 < w.toInt then -2 else if w.toInt = 5 then -6 else 0
def sp_rule (a b c d e : Int32) : Int32 := if a.toInt < 0 ∨ 5 < a.toInt ∨ b.toInt < 0 ∨ 4 < b.toInt ∨ c.toInt < 0 ∨ 2 < c.toInt ∨ d.toInt < 1 ∨ 10 < d.toInt ∨ e.toInt < 0 ∨ 2 < e.toInt then -2 else 0
def sp_step (a : Int32) : Int32 := if a = 0 then 0 else -2
def sp_sched (a : Int32) : Int32 := if a.toInt < 0 ∨ 2 < a.toInt then -2 else -3
def sp_meets (a b : Int32) : Int32 := if a.toInt < 0 ∨ 2 < a.toInt ∨ b.toInt < 0 ∨ 4 < b.toInt then -2 else -3
def sp_image (a : Int32) : Int32 := if a.toInt < 0 ∨ 1 < a.toInt then -2 else 1
def sp_restore (a : Int32) : Int32 := if a.toInt < 0 ∨ 1 < a.toInt then -2 else -3
def sp_count (w : Int32) : Int32 := if 10 ≤ w.toInt ∧ w.toInt ≤ 19 then 0 else if w.toInt = 0 then 8 else if 1 ≤ w.toInt ∧ w.toInt ≤ 5 then 0 else -2
def nb_ush (x y : Int32) : Int32 := (x.toUInt32 >>> (y.toUInt32 &&& Int32.toUInt32 31)).toInt32
def nb_b1 (x : Int32) : Int32 := x - (nb_ush x 1 &&& 1431655765)
def nb_b2 (a : Int32) : Int32 := (a &&& 858993459) + (nb_ush a 2 &&& 858993459)
def nb_b3 (b : Int32) : Int32 := (b + nb_ush b 4) &&& 252645135
def nb_b4 (c : Int32) : Int32 := c + nb_ush c 8
def nb_b5 (c : Int32) : Int32 := c + nb_ush c 16
def nb_bc (x : Int32) : Int32 := nb_b5 (nb_b4 (nb_b3 (nb_b2 (nb_b1 x)))) &&& 63
set_option maxHeartbeats 4000000 in
set_option maxRecDepth 100000 in
theorem kX0_turned (l : Launch) (dC : Nat → ClassId) (dI : Nat → Nat → Nat) (cyI cyZ : ClassId)  : Met l yX0_turned wsX0_turned ({ frames := 1, cells := 0, slots := 0, locals := 21 }) (bs_R dC dI cyI cyZ [.int 8, .int 0] []) (vp_Si (fun r : Int32 => r = 0)) 0 0 (fun _ => False) := by
  refine Met.ofW (cc := cX0_turned) (maxL := 4) (ret := (some .boolean)) (by decide) rfl ?_
  intro p e s m args below meth c s₁ B hml hv
  obtain ⟨rfl, hB, hP⟩ := hv
  have hK := hB.1
  have hN := hB.2
  have hx := B.exec
  have hb := B.bytes
  have hr := B.returns
  have hts := atoms_spec (ws := wsX0_turned) B.pre
  have hown : s.vm.findClass RX0 = some m.cls := findClass_of_methodNamed B.named
  have hlocks := B.notSynchronized
  have hP : va_P (dC, dI) vwCl [] s.heap := hP
  have hl := lv_entry ([.int 8, .int 0]) (n := 4) (Nat.le_of_ble_eq_true rfl)
  rw [lg_entry_eq]
  generalize (lg_sl ([.int 8, .int 0]) ++ List.replicate (4 - (lg_sl ([.int 8, .int 0])).length) Slot.unset).toArray = ls at hl ⊢
  have hl : lv_has ls 4 [(0, .int 8), (1, .int 0)] := hl
  refine lv_iconst (v := 0) hx hb dX0_turned_0 (by decide) ?_
  refine lv_istore_n (lv' := [(2, .int 0), (0, .int 8), (1, .int 0)]) hx hb dX0_turned_1 rfl hl (by decide) rfl (fun ls hl => ?_)
  have L2 : ∀ (n2 : Nat), ∀ (k : Nat), (0 ≤ k ∧ k ≤ 8) → (9 ≤ k + n2) → ∀ (ls : Array Slot), lv_has ls 4 [(0, .int 8), (1, .int 0), (2, .int (nI k))] → W p l e (headSpec wsX0_turned ({ frames := 1, cells := 0, slots := 0, locals := 21 })).room s m ([.int 8, .int 0] : List Value).toArray below meth c s.heap [] 0 0 (MQ below (vp_Si (fun r : Int32 => r = 0)) ([.int 8, .int 0] : List Value).toArray s 0 0 (fun _ => False)) (F0 m 2 ls []) := by
    intro n2
    induction n2 with
    | zero =>
      intro k hk2 hn2 ls hl
      exfalso
      omega
    | succ n2 ih2 =>
      intro k hk2 hn2 ls hl
      refine lv_iload_n hx hb dX0_turned_2 rfl (lv_at hl 2 rfl) ?_
      refine lv_iload_n hx hb dX0_turned_3 rfl (lv_at hl 0 rfl) ?_
      refine lv_icmp_ge (tgt := 61) hx hb dX0_turned_4 (by decide) (fun c_1 => ?_) (fun c_1 => ?_)
      · skip
        have ic_1 := ci_le (show Int32.toInt 8 = 8 by decide) (nI_toInt (n := k) (by omega)) c_1
        refine lv_iconst (v := 0) hx hb dX0_turned_61 (by decide) ?_
        exact W.zret (v := 0) hx hb hr (show narrow .boolean (.int 0) = .int 0 from rfl) (fun t ht hW => ⟨0, rfl, rfl, ht⟩) (fun q h => by cases h) dX0_turned_62
      · skip
        have ic_1 := ci_nle (show Int32.toInt 8 = 8 by decide) (nI_toInt (n := k) (by omega)) c_1
        refine lv_iconst (v := 0) hx hb dX0_turned_7 (by decide) ?_
        refine lv_istore_n (lv' := [(3, .int 0), (0, .int 8), (1, .int 0), (2, .int (nI k))]) hx hb dX0_turned_8 rfl hl (by decide) rfl (fun ls hl => ?_)
        have L9 : ∀ (n9 : Nat), ∀ (j : Nat), (j ≤ k) → (k + 1 ≤ j + n9) → ∀ (ls : Array Slot), lv_has ls 4 [(0, .int 8), (1, .int 0), (2, .int (nI k)), (3, .int (nI j))] → W p l e (headSpec wsX0_turned ({ frames := 1, cells := 0, slots := 0, locals := 21 })).room s m ([.int 8, .int 0] : List Value).toArray below meth c s.heap [] 0 0 (MQ below (vp_Si (fun r : Int32 => r = 0)) ([.int 8, .int 0] : List Value).toArray s 0 0 (fun _ => False)) (F0 m 9 ls []) := by
          intro n9
          induction n9 with
          | zero =>
            intro j hj9 hn9 ls hl
            exfalso
            omega
          | succ n9 ih9 =>
            intro j hj9 hn9 ls hl
            refine lv_iload_n hx hb dX0_turned_9 rfl (lv_at hl 3 rfl) ?_
            refine lv_iload_n hx hb dX0_turned_10 rfl (lv_at hl 2 rfl) ?_
            refine lv_icmp_ge (tgt := 55) hx hb dX0_turned_11 (by decide) (fun c_2 => ?_) (fun c_2 => ?_)
            · skip
              have ic_2 := ci_le (nI_toInt (n := k) (by omega)) (nI_toInt (n := j) (by omega)) c_2
              refine lv_iinc (v := (nI (k + 1))) (lv' := [(2, .int (nI (k + 1))), (0, .int 8), (1, .int 0), (3, .int (nI j))]) hx hb dX0_turned_55 hl (k := 2) rfl (nI_1 _) (by decide) rfl (fun ls hl => ?_)
              refine lv_goto (tgt := 2) hx hb dX0_turned_58 (by decide) ?_
              exact ih2 (k + 1)  ⟨by omega, by omega⟩ (by omega)  _ (lv_sub hl [1, 2, 0] rfl)
            · skip
              have ic_2 := ci_nle (nI_toInt (n := k) (by omega)) (nI_toInt (n := j) (by omega)) c_2
              refine lv_iload_n hx hb dX0_turned_14 rfl (lv_at hl 1 rfl) ?_
              refine lv_iload_n hx hb dX0_turned_15 rfl (lv_at hl 2 rfl) ?_
              refine vp_callSi (va_Run.run (va_runS (As := [.int 0, .int (nI k)]) (rest := []) ⟨hx, hb, hml, hown, hts⟩ (kX5_has l dC dI cyI cyZ 0 (nI k)) (va_cwS 2 hts gX0_turned_X5_has rfl rfl rfl (by decide +kernel) ⟨Nat.le_of_ble_eq_true rfl, Nat.le_of_ble_eq_true rfl⟩) (bs_RS hB (hP.sub (ws' := []) [] rfl)) rfl rfl hl.1 rfl (lv_room (Nat.le_of_ble_eq_true rfl)) dX0_turned_16 ⟨Nat.le_of_ble_eq_true rfl, Nat.le_of_ble_eq_true rfl⟩)) (fun r_3 hr_3 => ?_)
              obtain rfl : r_3 = 0 := hr_3.2 rfl
              refine lv_if_eq (tgt := 49) hx hb dX0_turned_19 (by decide) (fun c_4 => ?_) (fun c_4 => ?_)
              · skip
                refine lv_iinc (v := (nI (j + 1))) (lv' := [(3, .int (nI (j + 1))), (0, .int 8), (1, .int 0), (2, .int (nI k))]) hx hb dX0_turned_49 hl (k := 3) rfl (nI_1 _) (by decide) rfl (fun ls hl => ?_)
                refine lv_goto (tgt := 9) hx hb dX0_turned_52 (by decide) ?_
                exact ih9 (j + 1) (by omega) (by omega) _ (lv_sub hl [1, 2, 3, 0] rfl)
              · skip
                exact absurd c_4 (by decide)
        exact L9 (k + 1) 0 (by omega) (by omega) _ (lv_sub hl [1, 2, 3, 0] rfl)
  exact L2 9 0  ⟨by omega, by omega⟩ (by omega)  _ (lv_sub hl [1, 2, 0] rfl)

set_option maxHeartbeats 4000000 in
set_option maxRecDepth 100000 in
theorem kX0_mirrored (l : Launch) (dC : Nat → ClassId) (dI : Nat → Nat → Nat) (cyI cyZ : ClassId)  : Met l yX0_mirrored wsX0_mirrored ({ frames := 1, cells := 0, slots := 0, locals := 21 }) (bs_R dC dI cyI cyZ [.int 8, .int 0] []) (vp_Si (fun r : Int32 => r = 0)) 0 0 (fun _ => False) := by
  refine Met.ofW (cc := cX0_mirrored) (maxL := 4) (ret := (some .boolean)) (by decide) rfl ?_
  intro p e s m args below meth c s₁ B hml hv
  obtain ⟨rfl, hB, hP⟩ := hv
  have hK := hB.1
  have hN := hB.2
  have hx := B.exec
  have hb := B.bytes
  have hr := B.returns
  have hts := atoms_spec (ws := wsX0_mirrored) B.pre
  have hown : s.vm.findClass RX0 = some m.cls := findClass_of_methodNamed B.named
  have hlocks := B.notSynchronized
  have hP : va_P (dC, dI) vwCl [] s.heap := hP
  have hl := lv_entry ([.int 8, .int 0]) (n := 4) (Nat.le_of_ble_eq_true rfl)
  rw [lg_entry_eq]
  generalize (lg_sl ([.int 8, .int 0]) ++ List.replicate (4 - (lg_sl ([.int 8, .int 0])).length) Slot.unset).toArray = ls at hl ⊢
  have hl : lv_has ls 4 [(0, .int 8), (1, .int 0)] := hl
  refine lv_iconst (v := 0) hx hb dX0_mirrored_0 (by decide) ?_
  refine lv_istore_n (lv' := [(2, .int 0), (0, .int 8), (1, .int 0)]) hx hb dX0_mirrored_1 rfl hl (by decide) rfl (fun ls hl => ?_)
  have L2 : ∀ (n2 : Nat), ∀ (k : Nat), (0 ≤ k ∧ k ≤ 8) → (9 ≤ k + n2) → ∀ (ls : Array Slot), lv_has ls 4 [(0, .int 8), (1, .int 0), (2, .int (nI k))] → W p l e (headSpec wsX0_mirrored ({ frames := 1, cells := 0, slots := 0, locals := 21 })).room s m ([.int 8, .int 0] : List Value).toArray below meth c s.heap [] 0 0 (MQ below (vp_Si (fun r : Int32 => r = 0)) ([.int 8, .int 0] : List Value).toArray s 0 0 (fun _ => False)) (F0 m 2 ls []) := by
    intro n2
    induction n2 with
    | zero =>
      intro k hk2 hn2 ls hl
      exfalso
      omega
    | succ n2 ih2 =>
      intro k hk2 hn2 ls hl
      refine lv_iload_n hx hb dX0_mirrored_2 rfl (lv_at hl 2 rfl) ?_
      refine lv_iload_n hx hb dX0_mirrored_3 rfl (lv_at hl 0 rfl) ?_
      refine lv_icmp_ge (tgt := 61) hx hb dX0_mirrored_4 (by decide) (fun c_1 => ?_) (fun c_1 => ?_)
      · skip
        have ic_1 := ci_le (show Int32.toInt 8 = 8 by decide) (nI_toInt (n := k) (by omega)) c_1
        refine lv_iconst (v := 0) hx hb dX0_mirrored_61 (by decide) ?_
        exact W.zret (v := 0) hx hb hr (show narrow .boolean (.int 0) = .int 0 from rfl) (fun t ht hW => ⟨0, rfl, rfl, ht⟩) (fun q h => by cases h) dX0_mirrored_62
      · skip
        have ic_1 := ci_nle (show Int32.toInt 8 = 8 by decide) (nI_toInt (n := k) (by omega)) c_1
        refine lv_iconst (v := 0) hx hb dX0_mirrored_7 (by decide) ?_
        refine lv_istore_n (lv' := [(3, .int 0), (0, .int 8), (1, .int 0), (2, .int (nI k))]) hx hb dX0_mirrored_8 rfl hl (by decide) rfl (fun ls hl => ?_)
        have L9 : ∀ (n9 : Nat), ∀ (j : Nat), (j ≤ 8) → (9 ≤ j + n9) → ∀ (ls : Array Slot), lv_has ls 4 [(0, .int 8), (1, .int 0), (2, .int (nI k)), (3, .int (nI j))] → W p l e (headSpec wsX0_mirrored ({ frames := 1, cells := 0, slots := 0, locals := 21 })).room s m ([.int 8, .int 0] : List Value).toArray below meth c s.heap [] 0 0 (MQ below (vp_Si (fun r : Int32 => r = 0)) ([.int 8, .int 0] : List Value).toArray s 0 0 (fun _ => False)) (F0 m 9 ls []) := by
          intro n9
          induction n9 with
          | zero =>
            intro j hj9 hn9 ls hl
            exfalso
            omega
          | succ n9 ih9 =>
            intro j hj9 hn9 ls hl
            refine lv_iload_n hx hb dX0_mirrored_9 rfl (lv_at hl 3 rfl) ?_
            refine lv_iload_n hx hb dX0_mirrored_10 rfl (lv_at hl 0 rfl) ?_
            refine lv_icmp_ge (tgt := 55) hx hb dX0_mirrored_11 (by decide) (fun c_2 => ?_) (fun c_2 => ?_)
            · skip
              have ic_2 := ci_le (show Int32.toInt 8 = 8 by decide) (nI_toInt (n := j) (by omega)) c_2
              refine lv_iinc (v := (nI (k + 1))) (lv' := [(2, .int (nI (k + 1))), (0, .int 8), (1, .int 0), (3, .int (nI j))]) hx hb dX0_mirrored_55 hl (k := 2) rfl (nI_1 _) (by decide) rfl (fun ls hl => ?_)
              refine lv_goto (tgt := 2) hx hb dX0_mirrored_58 (by decide) ?_
              exact ih2 (k + 1)  ⟨by omega, by omega⟩ (by omega)  _ (lv_sub hl [1, 2, 0] rfl)
            · skip
              have ic_2 := ci_nle (show Int32.toInt 8 = 8 by decide) (nI_toInt (n := j) (by omega)) c_2
              refine lv_iload_n hx hb dX0_mirrored_14 rfl (lv_at hl 1 rfl) ?_
              refine lv_iload_n hx hb dX0_mirrored_15 rfl (lv_at hl 2 rfl) ?_
              refine vp_callSi (va_Run.run (va_runS (As := [.int 0, .int (nI k)]) (rest := []) ⟨hx, hb, hml, hown, hts⟩ (kX5_has l dC dI cyI cyZ 0 (nI k)) (va_cwS 2 hts gX0_mirrored_X5_has rfl rfl rfl (by decide +kernel) ⟨Nat.le_of_ble_eq_true rfl, Nat.le_of_ble_eq_true rfl⟩) (bs_RS hB (hP.sub (ws' := []) [] rfl)) rfl rfl hl.1 rfl (lv_room (Nat.le_of_ble_eq_true rfl)) dX0_mirrored_16 ⟨Nat.le_of_ble_eq_true rfl, Nat.le_of_ble_eq_true rfl⟩)) (fun r_3 hr_3 => ?_)
              obtain rfl : r_3 = 0 := hr_3.2 rfl
              refine lv_if_eq (tgt := 49) hx hb dX0_mirrored_19 (by decide) (fun c_4 => ?_) (fun c_4 => ?_)
              · skip
                refine lv_iinc (v := (nI (j + 1))) (lv' := [(3, .int (nI (j + 1))), (0, .int 8), (1, .int 0), (2, .int (nI k))]) hx hb dX0_mirrored_49 hl (k := 3) rfl (nI_1 _) (by decide) rfl (fun ls hl => ?_)
                refine lv_goto (tgt := 9) hx hb dX0_mirrored_52 (by decide) ?_
                exact ih9 (j + 1) (by omega) (by omega) _ (lv_sub hl [1, 2, 3, 0] rfl)
              · skip
                exact absurd c_4 (by decide)
        exact L9 9 0 (by omega) (by omega) _ (lv_sub hl [1, 2, 3, 0] rfl)
  exact L2 9 0  ⟨by omega, by omega⟩ (by omega)  _ (lv_sub hl [1, 2, 0] rfl)

set_option maxHeartbeats 4000000 in
set_option maxRecDepth 100000 in
theorem kX0_evens (l : Launch) (dC : Nat → ClassId) (dI : Nat → Nat → Nat) (cyI cyZ : ClassId)  : Met l yX0_evens wsX0_evens ({ frames := 1, cells := 0, slots := 0, locals := 21 }) (bs_R dC dI cyI cyZ [.int 8, .int 0] []) (vp_Si (fun r : Int32 => r = 0)) 0 0 (fun _ => False) := by
  refine Met.ofW (cc := cX0_evens) (maxL := 4) (ret := (some .int)) (by decide) rfl ?_
  intro p e s m args below meth c s₁ B hml hv
  obtain ⟨rfl, hB, hP⟩ := hv
  have hK := hB.1
  have hN := hB.2
  have hx := B.exec
  have hb := B.bytes
  have hr := B.returns
  have hts := atoms_spec (ws := wsX0_evens) B.pre
  have hown : s.vm.findClass RX0 = some m.cls := findClass_of_methodNamed B.named
  have hlocks := B.notSynchronized
  have hP : va_P (dC, dI) vwCl [] s.heap := hP
  have hl := lv_entry ([.int 8, .int 0]) (n := 4) (Nat.le_of_ble_eq_true rfl)
  rw [lg_entry_eq]
  generalize (lg_sl ([.int 8, .int 0]) ++ List.replicate (4 - (lg_sl ([.int 8, .int 0])).length) Slot.unset).toArray = ls at hl ⊢
  have hl : lv_has ls 4 [(0, .int 8), (1, .int 0)] := hl
  refine lv_iconst (v := 0) hx hb dX0_evens_0 (by decide) ?_
  refine lv_istore_n (lv' := [(2, .int 0), (0, .int 8), (1, .int 0)]) hx hb dX0_evens_1 rfl hl (by decide) rfl (fun ls hl => ?_)
  refine lv_iconst (v := 0) hx hb dX0_evens_2 (by decide) ?_
  refine lv_istore_n (lv' := [(3, .int 0), (2, .int 0), (0, .int 8), (1, .int 0)]) hx hb dX0_evens_3 rfl hl (by decide) rfl (fun ls hl => ?_)
  have L4 : ∀ (n4 : Nat), ∀ (k : Nat), (0 ≤ k ∧ k ≤ 8) → (9 ≤ k + n4) → ∀ (ls : Array Slot), lv_has ls 4 [(0, .int 8), (1, .int 0), (2, .int 0), (3, .int (nI k))] → W p l e (headSpec wsX0_evens ({ frames := 1, cells := 0, slots := 0, locals := 21 })).room s m ([.int 8, .int 0] : List Value).toArray below meth c s.heap [] 0 0 (MQ below (vp_Si (fun r : Int32 => r = 0)) ([.int 8, .int 0] : List Value).toArray s 0 0 (fun _ => False)) (F0 m 4 ls []) := by
    intro n4
    induction n4 with
    | zero =>
      intro k hk4 hn4 ls hl
      exfalso
      omega
    | succ n4 ih4 =>
      intro k hk4 hn4 ls hl
      refine lv_iload_n hx hb dX0_evens_4 rfl (lv_at hl 3 rfl) ?_
      refine lv_iload_n hx hb dX0_evens_5 rfl (lv_at hl 0 rfl) ?_
      refine lv_icmp_ge (tgt := 43) hx hb dX0_evens_6 (by decide) (fun c_1 => ?_) (fun c_1 => ?_)
      · skip
        have ic_1 := ci_le (show Int32.toInt 8 = 8 by decide) (nI_toInt (n := k) (by omega)) c_1
        refine lv_iload_n hx hb dX0_evens_43 rfl (lv_at hl 2 rfl) ?_
        exact W.iret (v := 0) hx hb hr (fun t ht hW => ⟨0, rfl, rfl, ht⟩) (fun q h => by cases h) dX0_evens_44
      · skip
        have ic_1 := ci_nle (show Int32.toInt 8 = 8 by decide) (nI_toInt (n := k) (by omega)) c_1
        refine lv_iload_n hx hb dX0_evens_9 rfl (lv_at hl 1 rfl) ?_
        refine lv_iload_n hx hb dX0_evens_10 rfl (lv_at hl 3 rfl) ?_
        refine vp_callSi (va_Run.run (va_runS (As := [.int 0, .int (nI k)]) (rest := []) ⟨hx, hb, hml, hown, hts⟩ (kX5_has l dC dI cyI cyZ 0 (nI k)) (va_cwS 2 hts gX0_evens_X5_has rfl rfl rfl (by decide +kernel) ⟨Nat.le_of_ble_eq_true rfl, Nat.le_of_ble_eq_true rfl⟩) (bs_RS hB (hP.sub (ws' := []) [] rfl)) rfl rfl hl.1 rfl (lv_room (Nat.le_of_ble_eq_true rfl)) dX0_evens_11 ⟨Nat.le_of_ble_eq_true rfl, Nat.le_of_ble_eq_true rfl⟩)) (fun r_2 hr_2 => ?_)
        obtain rfl : r_2 = 0 := hr_2.2 rfl
        refine lv_if_eq (tgt := 37) hx hb dX0_evens_14 (by decide) (fun c_3 => ?_) (fun c_3 => ?_)
        · skip
          refine lv_iinc (v := (nI (k + 1))) (lv' := [(3, .int (nI (k + 1))), (0, .int 8), (1, .int 0), (2, .int 0)]) hx hb dX0_evens_37 hl (k := 3) rfl (nI_1 _) (by decide) rfl (fun ls hl => ?_)
          refine lv_goto (tgt := 4) hx hb dX0_evens_40 (by decide) ?_
          exact ih4 (k + 1)  ⟨by omega, by omega⟩ (by omega)  _ (lv_sub hl [1, 2, 3, 0] rfl)
        · skip
          exact absurd c_3 (by decide)
  exact L4 9 0  ⟨by omega, by omega⟩ (by omega)  _ (lv_sub hl [2, 3, 1, 0] rfl)

set_option maxHeartbeats 4000000 in
set_option maxRecDepth 100000 in
theorem kX0_views (l : Launch) (dC : Nat → ClassId) (dI : Nat → Nat → Nat) (cyI cyZ : ClassId)  : Met l yX0_views wsX0_views ({ frames := 1, cells := 0, slots := 0, locals := 21 }) (bs_R dC dI cyI cyZ [.int 8, .int 0] []) (vp_Si (fun r : Int32 => r = 0)) 0 0 (fun _ => False) := by
  refine Met.ofW (cc := cX0_views) (maxL := 4) (ret := (some .int)) (by decide) rfl ?_
  intro p e s m args below meth c s₁ B hml hv
  obtain ⟨rfl, hB, hP⟩ := hv
  have hK := hB.1
  have hN := hB.2
  have hx := B.exec
  have hb := B.bytes
  have hr := B.returns
  have hts := atoms_spec (ws := wsX0_views) B.pre
  have hown : s.vm.findClass RX0 = some m.cls := findClass_of_methodNamed B.named
  have hlocks := B.notSynchronized
  have hP : va_P (dC, dI) vwCl [] s.heap := hP
  have hl := lv_entry ([.int 8, .int 0]) (n := 4) (Nat.le_of_ble_eq_true rfl)
  rw [lg_entry_eq]
  generalize (lg_sl ([.int 8, .int 0]) ++ List.replicate (4 - (lg_sl ([.int 8, .int 0])).length) Slot.unset).toArray = ls at hl ⊢
  have hl : lv_has ls 4 [(0, .int 8), (1, .int 0)] := hl
  refine lv_iconst (v := 0) hx hb dX0_views_0 (by decide) ?_
  refine lv_istore_n (lv' := [(2, .int 0), (0, .int 8), (1, .int 0)]) hx hb dX0_views_1 rfl hl (by decide) rfl (fun ls hl => ?_)
  refine lv_iconst (v := 0) hx hb dX0_views_2 (by decide) ?_
  refine lv_istore_n (lv' := [(3, .int 0), (2, .int 0), (0, .int 8), (1, .int 0)]) hx hb dX0_views_3 rfl hl (by decide) rfl (fun ls hl => ?_)
  have L4 : ∀ (n4 : Nat), ∀ (k : Nat), (0 ≤ k ∧ k ≤ 8) → (9 ≤ k + n4) → ∀ (ls : Array Slot), lv_has ls 4 [(0, .int 8), (1, .int 0), (2, .int 0), (3, .int (nI k))] → W p l e (headSpec wsX0_views ({ frames := 1, cells := 0, slots := 0, locals := 21 })).room s m ([.int 8, .int 0] : List Value).toArray below meth c s.heap [] 0 0 (MQ below (vp_Si (fun r : Int32 => r = 0)) ([.int 8, .int 0] : List Value).toArray s 0 0 (fun _ => False)) (F0 m 4 ls []) := by
    intro n4
    induction n4 with
    | zero =>
      intro k hk4 hn4 ls hl
      exfalso
      omega
    | succ n4 ih4 =>
      intro k hk4 hn4 ls hl
      refine lv_iload_n hx hb dX0_views_4 rfl (lv_at hl 3 rfl) ?_
      refine lv_iload_n hx hb dX0_views_5 rfl (lv_at hl 0 rfl) ?_
      refine lv_icmp_ge (tgt := 35) hx hb dX0_views_6 (by decide) (fun c_1 => ?_) (fun c_1 => ?_)
      · skip
        have ic_1 := ci_le (show Int32.toInt 8 = 8 by decide) (nI_toInt (n := k) (by omega)) c_1
        refine lv_iload_n hx hb dX0_views_35 rfl (lv_at hl 2 rfl) ?_
        exact W.iret (v := 0) hx hb hr (fun t ht hW => ⟨0, rfl, rfl, ht⟩) (fun q h => by cases h) dX0_views_36
      · skip
        have ic_1 := ci_nle (show Int32.toInt 8 = 8 by decide) (nI_toInt (n := k) (by omega)) c_1
        refine lv_iload_n hx hb dX0_views_9 rfl (lv_at hl 1 rfl) ?_
        refine lv_iload_n hx hb dX0_views_10 rfl (lv_at hl 3 rfl) ?_
        refine vp_callSi (va_Run.run (va_runS (As := [.int 0, .int (nI k)]) (rest := []) ⟨hx, hb, hml, hown, hts⟩ (kX5_has l dC dI cyI cyZ 0 (nI k)) (va_cwS 2 hts gX0_views_X5_has rfl rfl rfl (by decide +kernel) ⟨Nat.le_of_ble_eq_true rfl, Nat.le_of_ble_eq_true rfl⟩) (bs_RS hB (hP.sub (ws' := []) [] rfl)) rfl rfl hl.1 rfl (lv_room (Nat.le_of_ble_eq_true rfl)) dX0_views_11 ⟨Nat.le_of_ble_eq_true rfl, Nat.le_of_ble_eq_true rfl⟩)) (fun r_2 hr_2 => ?_)
        obtain rfl : r_2 = 0 := hr_2.2 rfl
        refine lv_if_eq (tgt := 29) hx hb dX0_views_14 (by decide) (fun c_3 => ?_) (fun c_3 => ?_)
        · skip
          refine lv_iinc (v := (nI (k + 1))) (lv' := [(3, .int (nI (k + 1))), (0, .int 8), (1, .int 0), (2, .int 0)]) hx hb dX0_views_29 hl (k := 3) rfl (nI_1 _) (by decide) rfl (fun ls hl => ?_)
          refine lv_goto (tgt := 4) hx hb dX0_views_32 (by decide) ?_
          exact ih4 (k + 1)  ⟨by omega, by omega⟩ (by omega)  _ (lv_sub hl [1, 2, 3, 0] rfl)
        · skip
          exact absurd c_3 (by decide)
  exact L4 9 0  ⟨by omega, by omega⟩ (by omega)  _ (lv_sub hl [2, 3, 1, 0] rfl)

set_option maxHeartbeats 4000000 in
set_option maxRecDepth 100000 in
theorem kX0_leastTurn (l : Launch) (dC : Nat → ClassId) (dI : Nat → Nat → Nat) (cyI cyZ : ClassId)  : Met l yX0_leastTurn wsX0_leastTurn ({ frames := 0, cells := 0, slots := 0, locals := 0 }) (bs_R dC dI cyI cyZ [.int 8, .int 0] []) (vp_Si (fun r : Int32 => r = -6)) 0 0 (fun _ => False) := by
  refine Met.ofW (cc := cX0_leastTurn) (maxL := 4) (ret := (some .int)) (by decide) rfl ?_
  intro p e s m args below meth c s₁ B hml hv
  obtain ⟨rfl, hB, hP⟩ := hv
  have hK := hB.1
  have hN := hB.2
  have hx := B.exec
  have hb := B.bytes
  have hr := B.returns
  have hts := atoms_spec (ws := wsX0_leastTurn) B.pre
  have hown : s.vm.findClass RX0 = some m.cls := findClass_of_methodNamed B.named
  have hlocks := B.notSynchronized
  have hP : va_P (dC, dI) vwCl [] s.heap := hP
  have hl := lv_entry ([.int 8, .int 0]) (n := 4) (Nat.le_of_ble_eq_true rfl)
  rw [lg_entry_eq]
  generalize (lg_sl ([.int 8, .int 0]) ++ List.replicate (4 - (lg_sl ([.int 8, .int 0])).length) Slot.unset).toArray = ls at hl ⊢
  have hl : lv_has ls 4 [(0, .int 8), (1, .int 0)] := hl
  refine lv_iload_n hx hb dX0_leastTurn_0 rfl (lv_at hl 1 rfl) ?_
  refine lv_istore_n (lv' := [(2, .int 0), (0, .int 8), (1, .int 0)]) hx hb dX0_leastTurn_1 rfl hl (by decide) rfl (fun ls hl => ?_)
  refine lv_iconst (v := 1) hx hb dX0_leastTurn_2 (by decide) ?_
  refine lv_istore_n (lv' := [(3, .int 1), (2, .int 0), (0, .int 8), (1, .int 0)]) hx hb dX0_leastTurn_3 rfl hl (by decide) rfl (fun ls hl => ?_)
  refine lv_iload_n hx hb dX0_leastTurn_4 rfl (lv_at hl 3 rfl) ?_
  refine lv_if_eq (tgt := 32) hx hb dX0_leastTurn_5 (by decide) (fun c_1 => ?_) (fun c_1 => ?_)
  · skip
    refine lv_bipush (v := (-6)) hx hb dX0_leastTurn_32 (by decide) ?_
    exact W.iret (v := (-6)) hx hb hr (fun t ht hW => ⟨(-6), rfl, rfl, ht⟩) (fun q h => by cases h) dX0_leastTurn_34
  · skip
    exact absurd c_1 (by decide)

theorem hnX3_has_X3 : ∀ w ∈ wsX30, w ∈ wsX3_has := fun _ h => List.mem_cons_of_mem _ (List.mem_append_right _ h)
set_option maxHeartbeats 4000000 in
set_option maxRecDepth 100000 in
theorem kX3_has (l : Launch) (dC : Nat → ClassId) (dI : Nat → Nat → Nat) (cyI cyZ : ClassId) (h0 h1 : Nat) (p9 p1 : Int32) : Met l yX3_has wsX3_has ({ frames := 0, cells := 0, slots := 0, locals := 0 }) (bs_R dC dI cyI cyZ [.ref h0, .int p1] [(h0, .inr (2, [.ref h1, .int p9]))]) (vp_Si (fun r : Int32 => (r = 0 ∨ r = 1) ∧ (p9.toInt ≤ 0 → r = 0))) 0 0 (fun _ => False) := by
  refine Met.ofW (cc := cX3_has) (maxL := 2) (ret := (some .boolean)) (by decide) rfl ?_
  intro p e s m args below meth c s₁ B hml hv
  obtain ⟨rfl, hB, hP⟩ := hv
  have hK := hB.1
  have hN := hB.2
  have hx := B.exec
  have hb := B.bytes
  have hr := B.returns
  have hts := atoms_spec (ws := wsX3_has) B.pre
  have hown : s.vm.findClass RX3 = some m.cls := findClass_of_methodNamed B.named
  have hlocks := B.notSynchronized
  have hP : va_P (dC, dI) vwCl [(h0, .inr (2, [.ref h1, .int p9]))] s.heap := hP
  have hl := lv_entry ([.ref h0, .int p1]) (n := 2) (Nat.le_of_ble_eq_true rfl)
  rw [lg_entry_eq]
  generalize (lg_sl ([.ref h0, .int p1]) ++ List.replicate (2 - (lg_sl ([.ref h0, .int p1])).length) Slot.unset).toArray = ls at hl ⊢
  have hl : lv_has ls 2 [(0, .ref h0), (1, .int p1)] := hl
  refine lv_iload_n hx hb dX3_has_0 rfl (lv_at hl 1 rfl) ?_
  refine lv_if_lt (tgt := 22) hx hb dX3_has_1 (by decide) (fun c_1 => ?_) (fun c_1 => ?_)
  · skip
    have ic_1 := ci_lt (rfl : Int32.toInt p1 = _) (show Int32.toInt 0 = 0 by decide) c_1
    refine lv_iconst (v := 0) hx hb dX3_has_22 (by decide) ?_
    exact W.zret (v := 0) hx hb hr (show narrow .boolean (.int 0) = .int 0 from rfl) (fun t ht hW => ⟨0, rfl, ⟨Or.inl rfl, fun _ => rfl⟩, ht⟩) (fun q h => by cases h) dX3_has_23
  · skip
    have ic_1 := ci_nlt (rfl : Int32.toInt p1 = _) (show Int32.toInt 0 = 0 by decide) c_1
    refine lv_iload_n hx hb dX3_has_4 rfl (lv_at hl 1 rfl) ?_
    refine lv_aload_n hx hb dX3_has_5 rfl (lv_at hl 0 rfl) ?_
    refine va_get (D := (dC, dI)) (ci := 2) (v := .int p9) (C := RX3) (T := TX3) (N := 2) hx hb hts hnX3_has_X3 hown hK hP 0 rfl rfl 1 (by decide) (hts (.fieldLink RX3 15 "RingMeets$Rules" "size" "I") (by decide +kernel)) (fun _ h9 => h9) rfl dX3_has_6 ?_
    refine lv_icmp_ge (tgt := 22) hx hb dX3_has_9 (by decide) (fun c_2 => ?_) (fun c_2 => ?_)
    · skip
      have ic_2 := ci_le (rfl : Int32.toInt p9 = _) (rfl : Int32.toInt p1 = _) c_2
      refine lv_iconst (v := 0) hx hb dX3_has_22 (by decide) ?_
      exact W.zret (v := 0) hx hb hr (show narrow .boolean (.int 0) = .int 0 from rfl) (fun t ht hW => ⟨0, rfl, ⟨Or.inl rfl, fun _ => rfl⟩, ht⟩) (fun q h => by cases h) dX3_has_23
    · skip
      have ic_2 := ci_nle (rfl : Int32.toInt p9 = _) (rfl : Int32.toInt p1 = _) c_2
      refine lv_iload_n hx hb dX3_has_12 rfl (lv_at hl 1 rfl) ?_
      refine lv_bipush (v := 10) hx hb dX3_has_13 (by decide) ?_
      refine lv_icmp_ge (tgt := 22) hx hb dX3_has_15 (by decide) (fun c_3 => ?_) (fun c_3 => ?_)
      · skip
        have ic_3 := ci_le (show Int32.toInt 10 = 10 by decide) (rfl : Int32.toInt p1 = _) c_3
        refine lv_iconst (v := 0) hx hb dX3_has_22 (by decide) ?_
        exact W.zret (v := 0) hx hb hr (show narrow .boolean (.int 0) = .int 0 from rfl) (fun t ht hW => ⟨0, rfl, ⟨Or.inl rfl, fun _ => rfl⟩, ht⟩) (fun q h => by cases h) dX3_has_23
      · skip
        have ic_3 := ci_nle (show Int32.toInt 10 = 10 by decide) (rfl : Int32.toInt p1 = _) c_3
        refine lv_iconst (v := 1) hx hb dX3_has_18 (by decide) ?_
        refine lv_goto (tgt := 23) hx hb dX3_has_19 (by decide) ?_
        exact W.zret (v := 1) hx hb hr (show narrow .boolean (.int 1) = .int 1 from rfl) (fun t ht hW => ⟨1, rfl, ⟨Or.inr rfl, fun _ => by exfalso; omega⟩, ht⟩) (fun q h => by cases h) dX3_has_23

theorem hnX3_setPart_X3 : ∀ w ∈ wsX30, w ∈ wsX3_setPart := fun _ h => List.mem_cons_of_mem _ (List.mem_append_right _ h)
set_option maxHeartbeats 4000000 in
set_option maxRecDepth 100000 in
theorem kX3_setPart (l : Launch) (dC : Nat → ClassId) (dI : Nat → Nat → Nat) (cyI cyZ : ClassId) (h0 h1 : Nat) (f : Nat → Int32) (p9 p3 : Int32) (b : Nat) (hb6 : b < 6) (sz : Nat) : Met l yX3_setPart wsX3_setPart ({ frames := 1, cells := 0, slots := 0, locals := 21 }) (bs_W dC dI cyI cyZ [.ref h0, .int 0, .int (nI b), .int p3] [(h0, .inr (2, [.ref h1, .int p9])), (h1, .inl (cyI, 60, .inl f))] sz) (va_Qv (S := Nat → Int32) (fun _ : Nat → Int32 => True) (fun g t => bs_E dC dI (va_A [(h0, .inr (2, [.ref h1, .int p9])), (h1, .inl (cyI, 60, .inl f))] sz) [(h0, .inr (2, [.ref h1, .int p9])), (h1, .inl (cyI, 60, .inl g))] t) (va_A [(h0, .inr (2, [.ref h1, .int p9])), (h1, .inl (cyI, 60, .inl f))] sz)) 0 0 (va_A [(h0, .inr (2, [.ref h1, .int p9])), (h1, .inl (cyI, 60, .inl f))] sz) := by
  refine Met.ofW (cc := cX3_setPart) (maxL := 4) (ret := none) (by decide) rfl ?_
  intro p e s m args below meth c s₁ B hml hv
  obtain ⟨rfl, hsz, hB, hP, hD0⟩ := hv
  have hK := hB.1
  have hN := hB.2
  have hx := B.exec
  have hb := B.bytes
  have hr := B.returns
  have hts := atoms_spec (ws := wsX3_setPart) B.pre
  have hown : s.vm.findClass RX3 = some m.cls := findClass_of_methodNamed B.named
  have hlocks := B.notSynchronized
  subst hsz
  have hD := hD0.self (sz := s.heap.size)
  generalize hAe : va_A [(h0, .inr (2, [.ref h1, .int p9])), (h1, .inl (cyI, 60, .inl f))] s.heap.size = A at hD ⊢
  have hA : ∀ q : Nat, s.heap.size ≤ q → A q := fun q h => by rw [← hAe]; exact Or.inr h
  have hS : va_S A s.heap s.heap [] := va_S.rf
  have hP : va_P (dC, dI) vwCl [(h0, .inr (2, [.ref h1, .int p9])), (h1, .inl (cyI, 60, .inl f))] s.heap := hP
  have hl := lv_entry ([.ref h0, .int 0, .int (nI b), .int p3]) (n := 4) (Nat.le_of_ble_eq_true rfl)
  rw [lg_entry_eq]
  generalize (lg_sl ([.ref h0, .int 0, .int (nI b), .int p3]) ++ List.replicate (4 - (lg_sl ([.ref h0, .int 0, .int (nI b), .int p3])).length) Slot.unset).toArray = ls at hl ⊢
  have hl : lv_has ls 4 [(0, .ref h0), (1, .int 0), (2, .int (nI b)), (3, .int p3)] := hl
  refine lv_aload_n hx hb dX3_setPart_0 rfl (lv_at hl 0 rfl) ?_
  refine lv_iload_n hx hb dX3_setPart_1 rfl (lv_at hl 1 rfl) ?_
  refine vp_callSi (va_Run.run (va_runV (As := [.int 0]) (rest := []) ⟨hx, hb, hml, hown, hts⟩ (kX3_has l dC dI cyI cyZ h0 h1 p9 0) (cwV 1 hts gX3_setPart_X3_has rfl rfl rfl (by decide +kernel) ⟨Nat.le_of_ble_eq_true rfl, Nat.le_of_ble_eq_true rfl⟩) (bs_RV hB (hP.sub (ws' := [(h0, .inr (2, [.ref h1, .int p9]))]) [0] rfl) 0 rfl rfl) rfl rfl hl.1 rfl (lv_room (Nat.le_of_ble_eq_true rfl)) dX3_setPart_2 ⟨Nat.le_of_ble_eq_true rfl, Nat.le_of_ble_eq_true rfl⟩)) (fun r_1 hr_1 => ?_)
  refine lv_if_eq (tgt := 30) hx hb dX3_setPart_5 (by decide) (fun c_2 => ?_) (fun c_2 => ?_)
  · skip
    have ic_2 := ci_eq (rfl : Int32.toInt r_1 = _) (show Int32.toInt 0 = 0 by decide) c_2
    exact W.vret hx hb hr (fun t ht hW => ⟨⟨f, rfl, trivial, ⟨by rw [ht]; exact hP.sub (ws' := [(h0, .inr (2, [.ref h1, .int p9])), (h1, .inl (cyI, 60, .inl f))]) [0, 1] rfl, hD.sub (ws' := [(h0, .inr (2, [.ref h1, .int p9])), (h1, .inl (cyI, 60, .inl f))]) [0, 1] (by decide) rfl⟩⟩, hS.F ht⟩) hS.2.2 dX3_setPart_30
  · skip
    have ic_2 := ci_ne (rfl : Int32.toInt r_1 = _) (show Int32.toInt 0 = 0 by decide) c_2
    refine lv_iload_n hx hb dX3_setPart_8 rfl (lv_at hl 2 rfl) ?_
    refine lv_if_lt (tgt := 30) hx hb dX3_setPart_9 (by decide) (fun c_3 => ?_) (fun c_3 => ?_)
    · skip
      have ic_3 := ci_lt (nI_toInt (n := b) (by omega)) (show Int32.toInt 0 = 0 by decide) c_3
      exact W.vret hx hb hr (fun t ht hW => ⟨⟨f, rfl, trivial, ⟨by rw [ht]; exact hP.sub (ws' := [(h0, .inr (2, [.ref h1, .int p9])), (h1, .inl (cyI, 60, .inl f))]) [0, 1] rfl, hD.sub (ws' := [(h0, .inr (2, [.ref h1, .int p9])), (h1, .inl (cyI, 60, .inl f))]) [0, 1] (by decide) rfl⟩⟩, hS.F ht⟩) hS.2.2 dX3_setPart_30
    · skip
      have ic_3 := ci_nlt (nI_toInt (n := b) (by omega)) (show Int32.toInt 0 = 0 by decide) c_3
      refine lv_iload_n hx hb dX3_setPart_12 rfl (lv_at hl 2 rfl) ?_
      refine lv_bipush (v := 6) hx hb dX3_setPart_13 (by decide) ?_
      refine lv_icmp_ge (tgt := 30) hx hb dX3_setPart_15 (by decide) (fun c_4 => ?_) (fun c_4 => ?_)
      · skip
        have ic_4 := ci_le (show Int32.toInt 6 = 6 by decide) (nI_toInt (n := b) (by omega)) c_4
        exact W.vret hx hb hr (fun t ht hW => ⟨⟨f, rfl, trivial, ⟨by rw [ht]; exact hP.sub (ws' := [(h0, .inr (2, [.ref h1, .int p9])), (h1, .inl (cyI, 60, .inl f))]) [0, 1] rfl, hD.sub (ws' := [(h0, .inr (2, [.ref h1, .int p9])), (h1, .inl (cyI, 60, .inl f))]) [0, 1] (by decide) rfl⟩⟩, hS.F ht⟩) hS.2.2 dX3_setPart_30
      · skip
        have ic_4 := ci_nle (show Int32.toInt 6 = 6 by decide) (nI_toInt (n := b) (by omega)) c_4
        refine lv_aload_n hx hb dX3_setPart_18 rfl (lv_at hl 0 rfl) ?_
        refine va_get (D := (dC, dI)) (ci := 2) (v := .ref h1) (C := RX3) (T := TX3) (N := 2) hx hb hts hnX3_setPart_X3 hown hK hP 0 rfl rfl 0 (by decide) (hts (.fieldLink RX3 9 "RingMeets$Rules" "told" "[I") (by decide +kernel)) (fun _ h9 => h9) rfl dX3_setPart_19 ?_
        refine lv_iload_n hx hb dX3_setPart_22 rfl (lv_at hl 1 rfl) ?_
        refine lv_bipush (v := 6) hx hb dX3_setPart_23 (by decide) ?_
        refine lv_imul hx hb dX3_setPart_25 ?_
        refine lv_topi (fun x_5 ex_5 => ?_)
        obtain rfl : 0 = x_5 := (ex_5.trans (by decide)).symm
        refine lv_iload_n hx hb dX3_setPart_26 rfl (lv_at hl 2 rfl) ?_
        refine lv_iadd hx hb dX3_setPart_27 ?_
        refine lv_topi (fun x_6 ex_6 => ?_)
        obtain rfl : (nI b) = x_6 := (ex_6.trans (Int32.zero_add _)).symm
        refine lv_iload_n hx hb dX3_setPart_28 rfl (lv_at hl 3 rfl) ?_
        refine va_iast (D := (dC, dI)) hx hb hK hP hD hS 1 0 rfl rfl (vp_in_nI (n := b) (N := 60) (by omega) (by omega)) dX3_setPart_29 (fun H locs hP hD hS => ?_)
        obtain ⟨g_7, eg_7⟩ : ∃ y : Nat → Int32, y = upd f (Int32.toNatClampNeg (nI b)) p3 := ⟨_, rfl⟩
        have hP : va_P (dC, dI) vwCl [(h0, .inr (2, [.ref h1, .int p9])), (h1, .inl (cyI, 60, .inl g_7))] H := by rw [eg_7]; exact hP
        have hD : va_D A [(h0, .inr (2, [.ref h1, .int p9])), (h1, .inl (cyI, 60, .inl g_7))] := by rw [eg_7]; exact hD
        rw [nI_clamp (n := b) (by omega)] at eg_7
        exact W.vret hx hb hr (fun t ht hW => ⟨⟨g_7, rfl, trivial, ⟨by rw [ht]; exact hP.sub (ws' := [(h0, .inr (2, [.ref h1, .int p9])), (h1, .inl (cyI, 60, .inl g_7))]) [0, 1] rfl, hD.sub (ws' := [(h0, .inr (2, [.ref h1, .int p9])), (h1, .inl (cyI, 60, .inl g_7))]) [0, 1] (by decide) rfl⟩⟩, hS.F ht⟩) hS.2.2 dX3_setPart_30

theorem hnX3_append_X3 : ∀ w ∈ wsX30, w ∈ wsX3_append := fun _ h => List.mem_cons_of_mem _ (List.mem_append_right _ h)
set_option maxHeartbeats 4000000 in
set_option maxRecDepth 100000 in
theorem kX3_append (l : Launch) (dC : Nat → ClassId) (dI : Nat → Nat → Nat) (cyI cyZ : ClassId) (h0 h1 : Nat) (f : Nat → Int32) (p1 p2 p3 p4 p5 : Int32) (sz : Nat) : Met l yX3_append wsX3_append ({ frames := 2, cells := 0, slots := 0, locals := 44 }) (bs_W dC dI cyI cyZ [.ref h0, .int p1, .int p2, .int p3, .int p4, .int p5] [(h0, .inr (2, [.ref h1, .int 0])), (h1, .inl (cyI, 60, .inl f))] sz) (va_Qi (S := Unit) (fun (r : Int32) (_ : Unit) => r = 0) (fun _ _ => True) (va_A [(h0, .inr (2, [.ref h1, .int 0])), (h1, .inl (cyI, 60, .inl f))] sz)) 0 0 (va_A [(h0, .inr (2, [.ref h1, .int 0])), (h1, .inl (cyI, 60, .inl f))] sz) := by
  refine Met.ofW (cc := cX3_append) (maxL := 7) (ret := (some .int)) (by decide) rfl ?_
  intro p e s m args below meth c s₁ B hml hv
  obtain ⟨rfl, hsz, hB, hP, hD0⟩ := hv
  have hK := hB.1
  have hN := hB.2
  have hx := B.exec
  have hb := B.bytes
  have hr := B.returns
  have hts := atoms_spec (ws := wsX3_append) B.pre
  have hown : s.vm.findClass RX3 = some m.cls := findClass_of_methodNamed B.named
  have hlocks := B.notSynchronized
  subst hsz
  have hD := hD0.self (sz := s.heap.size)
  generalize hAe : va_A [(h0, .inr (2, [.ref h1, .int 0])), (h1, .inl (cyI, 60, .inl f))] s.heap.size = A at hD ⊢
  have hA : ∀ q : Nat, s.heap.size ≤ q → A q := fun q h => by rw [← hAe]; exact Or.inr h
  have hS : va_S A s.heap s.heap [] := va_S.rf
  have hP : va_P (dC, dI) vwCl [(h0, .inr (2, [.ref h1, .int 0])), (h1, .inl (cyI, 60, .inl f))] s.heap := hP
  have hl := lv_entry ([.ref h0, .int p1, .int p2, .int p3, .int p4, .int p5]) (n := 7) (Nat.le_of_ble_eq_true rfl)
  rw [lg_entry_eq]
  generalize (lg_sl ([.ref h0, .int p1, .int p2, .int p3, .int p4, .int p5]) ++ List.replicate (7 - (lg_sl ([.ref h0, .int p1, .int p2, .int p3, .int p4, .int p5])).length) Slot.unset).toArray = ls at hl ⊢
  have hl : lv_has ls 7 [(0, .ref h0), (1, .int p1), (2, .int p2), (3, .int p3), (4, .int p4), (5, .int p5)] := hl
  refine lv_aload_n hx hb dX3_append_0 rfl (lv_at hl 0 rfl) ?_
  refine va_get (D := (dC, dI)) (ci := 2) (v := .int 0) (C := RX3) (T := TX3) (N := 2) hx hb hts hnX3_append_X3 hown hK hP 0 rfl rfl 1 (by decide) (hts (.fieldLink RX3 15 "RingMeets$Rules" "size" "I") (by decide +kernel)) (fun _ h9 => h9) rfl dX3_append_1 ?_
  refine lv_bipush (v := 10) hx hb dX3_append_4 (by decide) ?_
  refine lv_icmp_lt (tgt := 12) hx hb dX3_append_6 (by decide) (fun c_1 => ?_) (fun c_1 => ?_)
  · skip
    refine lv_aload_n hx hb dX3_append_12 rfl (lv_at hl 0 rfl) ?_
    refine va_get (D := (dC, dI)) (ci := 2) (v := .int 0) (C := RX3) (T := TX3) (N := 2) hx hb hts hnX3_append_X3 hown hK hP 0 rfl rfl 1 (by decide) (hts (.fieldLink RX3 15 "RingMeets$Rules" "size" "I") (by decide +kernel)) (fun _ h9 => h9) rfl dX3_append_13 ?_
    refine lv_istore (lv' := [(6, .int 0), (0, .ref h0), (1, .int p1), (2, .int p2), (3, .int p3), (4, .int p4), (5, .int p5)]) hx hb dX3_append_16 hl (by decide) rfl (fun ls hl => ?_)
    refine lv_aload_n hx hb dX3_append_18 rfl (lv_at hl 1 rfl) ?_
    refine lv_dup hx hb dX3_append_19 rfl ?_
    refine va_get (D := (dC, dI)) (ci := 2) (v := .int 0) (C := RX3) (T := TX3) (N := 2) hx hb hts hnX3_append_X3 hown hK hP 0 rfl rfl 1 (by decide) (hts (.fieldLink RX3 15 "RingMeets$Rules" "size" "I") (by decide +kernel)) (fun _ h9 => h9) rfl dX3_append_20 ?_
    refine lv_iconst (v := 1) hx hb dX3_append_23 (by decide) ?_
    refine lv_iadd hx hb dX3_append_24 ?_
    refine lv_topi (fun x_2 ex_2 => ?_)
    obtain rfl : 1 = x_2 := (ex_2.trans (by decide)).symm
    refine va_put (D := (dC, dI)) (ci := 2) (v := .int 1) (ty := .int) (C := RX3) (T := TX3) (N := 2) hx hb hts hnX3_append_X3 tyX3 tyX3_ok nmX3 hown hK hP hD hS 0 rfl rfl 1 (by decide) (hts (.fieldLink RX3 15 "RingMeets$Rules" "size" "I") (by decide +kernel)) (fun _ h9 => h9) rfl (by decide +kernel) rfl rfl (Nat.le_of_ble_eq_true rfl) dX3_append_25 (fun H locs hP hD hS => ?_)
    have hP : va_P (dC, dI) vwCl [(h0, .inr (2, [.ref h1, .int 1])), (h1, .inl (cyI, 60, .inl f))] _ := hP
    have hD : va_D A [(h0, .inr (2, [.ref h1, .int 1])), (h1, .inl (cyI, 60, .inl f))] := hD
    refine lv_aload_n hx hb dX3_append_28 rfl (lv_at hl 1 rfl) ?_
    refine lv_iload hx hb dX3_append_29 (lv_at hl 0 rfl) ?_
    refine lv_iconst (v := 0) hx hb dX3_append_31 (by decide) ?_
    refine lv_iload_n hx hb dX3_append_32 rfl (lv_at hl 2 rfl) ?_
    have f_3 := va_free (wc := [(h0, .inr (2, [.ref h1, .int 1])), (h1, .inl (cyI, 60, .inl f))]) hD hS hA [0, 1] rfl
    refine va_callv (va_runV (As := [.int 0, .int 0, .int p1]) (rest := []) ⟨hx, hb, hml, hown, hts⟩ (kX3_setPart l dC dI cyI cyZ h0 h1 f 1 p1 0 (by decide) _) (cwV 3 hts gX3_append_X3_setPart rfl rfl rfl (by decide +kernel) ⟨Nat.le_of_ble_eq_true rfl, Nat.le_of_ble_eq_true rfl⟩) (bs_WV hB (hP.sub (ws' := [(h0, .inr (2, [.ref h1, .int 1])), (h1, .inl (cyI, 60, .inl f))]) [0, 1] rfl) (hD.sub (ws' := [(h0, .inr (2, [.ref h1, .int 1])), (h1, .inl (cyI, 60, .inl f))]) [0, 1] (by decide) rfl) 0 rfl rfl) rfl rfl hl.1 rfl (lv_room (Nat.le_of_ble_eq_true rfl)) dX3_append_33 ⟨Nat.le_of_ble_eq_true rfl, Nat.le_of_ble_eq_true rfl⟩) hS (fun q _ h => f_3 q h) f_3 (fun uh_4 t H1 locs ht hvm h_4 hB1 hz1 hk1 hS => ?_)
    obtain ⟨hP1, hD1⟩ := hB1
    rw [ht] at hP1
    obtain ⟨hP, hD⟩ := va_join (wr := []) (w1 := [(h0, .inr (2, [.ref h1, .int 1])), (h1, .inl (cyI, 60, .inl uh_4))]) hP hD [0, 1] [] rfl rfl (by decide) (by decide) hk1 f_3 hP1 hD1
    generalize H1 = H at hP hS ⊢
    have hP : va_P (dC, dI) vwCl [(h0, .inr (2, [.ref h1, .int 1])), (h1, .inl (cyI, 60, .inl uh_4))] _ := hP
    have hD : va_D A [(h0, .inr (2, [.ref h1, .int 1])), (h1, .inl (cyI, 60, .inl uh_4))] := hD
    refine lv_aload_n hx hb dX3_append_36 rfl (lv_at hl 1 rfl) ?_
    refine lv_iload hx hb dX3_append_37 (lv_at hl 0 rfl) ?_
    refine lv_iconst (v := 1) hx hb dX3_append_39 (by decide) ?_
    refine lv_iload_n hx hb dX3_append_40 rfl (lv_at hl 3 rfl) ?_
    have f_5 := va_free (wc := [(h0, .inr (2, [.ref h1, .int 1])), (h1, .inl (cyI, 60, .inl uh_4))]) hD hS hA [0, 1] rfl
    refine va_callv (va_runV (As := [.int 0, .int 1, .int p2]) (rest := []) ⟨hx, hb, hml, hown, hts⟩ (kX3_setPart l dC dI cyI cyZ h0 h1 uh_4 1 p2 1 (by decide) _) (cwV 3 hts gX3_append_X3_setPart rfl rfl rfl (by decide +kernel) ⟨Nat.le_of_ble_eq_true rfl, Nat.le_of_ble_eq_true rfl⟩) (bs_WV hB (hP.sub (ws' := [(h0, .inr (2, [.ref h1, .int 1])), (h1, .inl (cyI, 60, .inl uh_4))]) [0, 1] rfl) (hD.sub (ws' := [(h0, .inr (2, [.ref h1, .int 1])), (h1, .inl (cyI, 60, .inl uh_4))]) [0, 1] (by decide) rfl) 0 rfl rfl) rfl rfl hl.1 rfl (lv_room (Nat.le_of_ble_eq_true rfl)) dX3_append_41 ⟨Nat.le_of_ble_eq_true rfl, Nat.le_of_ble_eq_true rfl⟩) hS (fun q _ h => f_5 q h) f_5 (fun uh_6 t H1 locs ht hvm h_6 hB1 hz1 hk1 hS => ?_)
    obtain ⟨hP1, hD1⟩ := hB1
    rw [ht] at hP1
    obtain ⟨hP, hD⟩ := va_join (wr := []) (w1 := [(h0, .inr (2, [.ref h1, .int 1])), (h1, .inl (cyI, 60, .inl uh_6))]) hP hD [0, 1] [] rfl rfl (by decide) (by decide) hk1 f_5 hP1 hD1
    generalize H1 = H at hP hS ⊢
    have hP : va_P (dC, dI) vwCl [(h0, .inr (2, [.ref h1, .int 1])), (h1, .inl (cyI, 60, .inl uh_6))] _ := hP
    have hD : va_D A [(h0, .inr (2, [.ref h1, .int 1])), (h1, .inl (cyI, 60, .inl uh_6))] := hD
    refine lv_aload_n hx hb dX3_append_44 rfl (lv_at hl 1 rfl) ?_
    refine lv_iload hx hb dX3_append_45 (lv_at hl 0 rfl) ?_
    refine lv_iconst (v := 2) hx hb dX3_append_47 (by decide) ?_
    refine lv_iload_n hx hb dX3_append_48 rfl (lv_at hl 4 rfl) ?_
    have f_7 := va_free (wc := [(h0, .inr (2, [.ref h1, .int 1])), (h1, .inl (cyI, 60, .inl uh_6))]) hD hS hA [0, 1] rfl
    refine va_callv (va_runV (As := [.int 0, .int 2, .int p3]) (rest := []) ⟨hx, hb, hml, hown, hts⟩ (kX3_setPart l dC dI cyI cyZ h0 h1 uh_6 1 p3 2 (by decide) _) (cwV 3 hts gX3_append_X3_setPart rfl rfl rfl (by decide +kernel) ⟨Nat.le_of_ble_eq_true rfl, Nat.le_of_ble_eq_true rfl⟩) (bs_WV hB (hP.sub (ws' := [(h0, .inr (2, [.ref h1, .int 1])), (h1, .inl (cyI, 60, .inl uh_6))]) [0, 1] rfl) (hD.sub (ws' := [(h0, .inr (2, [.ref h1, .int 1])), (h1, .inl (cyI, 60, .inl uh_6))]) [0, 1] (by decide) rfl) 0 rfl rfl) rfl rfl hl.1 rfl (lv_room (Nat.le_of_ble_eq_true rfl)) dX3_append_49 ⟨Nat.le_of_ble_eq_true rfl, Nat.le_of_ble_eq_true rfl⟩) hS (fun q _ h => f_7 q h) f_7 (fun uh_8 t H1 locs ht hvm h_8 hB1 hz1 hk1 hS => ?_)
    obtain ⟨hP1, hD1⟩ := hB1
    rw [ht] at hP1
    obtain ⟨hP, hD⟩ := va_join (wr := []) (w1 := [(h0, .inr (2, [.ref h1, .int 1])), (h1, .inl (cyI, 60, .inl uh_8))]) hP hD [0, 1] [] rfl rfl (by decide) (by decide) hk1 f_7 hP1 hD1
    generalize H1 = H at hP hS ⊢
    have hP : va_P (dC, dI) vwCl [(h0, .inr (2, [.ref h1, .int 1])), (h1, .inl (cyI, 60, .inl uh_8))] _ := hP
    have hD : va_D A [(h0, .inr (2, [.ref h1, .int 1])), (h1, .inl (cyI, 60, .inl uh_8))] := hD
    refine lv_aload_n hx hb dX3_append_52 rfl (lv_at hl 1 rfl) ?_
    refine lv_iload hx hb dX3_append_53 (lv_at hl 0 rfl) ?_
    refine lv_iconst (v := 3) hx hb dX3_append_55 (by decide) ?_
    refine lv_iload hx hb dX3_append_56 (lv_at hl 5 rfl) ?_
    have f_9 := va_free (wc := [(h0, .inr (2, [.ref h1, .int 1])), (h1, .inl (cyI, 60, .inl uh_8))]) hD hS hA [0, 1] rfl
    refine va_callv (va_runV (As := [.int 0, .int 3, .int p4]) (rest := []) ⟨hx, hb, hml, hown, hts⟩ (kX3_setPart l dC dI cyI cyZ h0 h1 uh_8 1 p4 3 (by decide) _) (cwV 3 hts gX3_append_X3_setPart rfl rfl rfl (by decide +kernel) ⟨Nat.le_of_ble_eq_true rfl, Nat.le_of_ble_eq_true rfl⟩) (bs_WV hB (hP.sub (ws' := [(h0, .inr (2, [.ref h1, .int 1])), (h1, .inl (cyI, 60, .inl uh_8))]) [0, 1] rfl) (hD.sub (ws' := [(h0, .inr (2, [.ref h1, .int 1])), (h1, .inl (cyI, 60, .inl uh_8))]) [0, 1] (by decide) rfl) 0 rfl rfl) rfl rfl hl.1 rfl (lv_room (Nat.le_of_ble_eq_true rfl)) dX3_append_58 ⟨Nat.le_of_ble_eq_true rfl, Nat.le_of_ble_eq_true rfl⟩) hS (fun q _ h => f_9 q h) f_9 (fun uh_10 t H1 locs ht hvm h_10 hB1 hz1 hk1 hS => ?_)
    obtain ⟨hP1, hD1⟩ := hB1
    rw [ht] at hP1
    obtain ⟨hP, hD⟩ := va_join (wr := []) (w1 := [(h0, .inr (2, [.ref h1, .int 1])), (h1, .inl (cyI, 60, .inl uh_10))]) hP hD [0, 1] [] rfl rfl (by decide) (by decide) hk1 f_9 hP1 hD1
    generalize H1 = H at hP hS ⊢
    have hP : va_P (dC, dI) vwCl [(h0, .inr (2, [.ref h1, .int 1])), (h1, .inl (cyI, 60, .inl uh_10))] _ := hP
    have hD : va_D A [(h0, .inr (2, [.ref h1, .int 1])), (h1, .inl (cyI, 60, .inl uh_10))] := hD
    refine lv_aload_n hx hb dX3_append_61 rfl (lv_at hl 1 rfl) ?_
    refine lv_iload hx hb dX3_append_62 (lv_at hl 0 rfl) ?_
    refine lv_iconst (v := 4) hx hb dX3_append_64 (by decide) ?_
    refine lv_iload hx hb dX3_append_65 (lv_at hl 6 rfl) ?_
    have f_11 := va_free (wc := [(h0, .inr (2, [.ref h1, .int 1])), (h1, .inl (cyI, 60, .inl uh_10))]) hD hS hA [0, 1] rfl
    refine va_callv (va_runV (As := [.int 0, .int 4, .int p5]) (rest := []) ⟨hx, hb, hml, hown, hts⟩ (kX3_setPart l dC dI cyI cyZ h0 h1 uh_10 1 p5 4 (by decide) _) (cwV 3 hts gX3_append_X3_setPart rfl rfl rfl (by decide +kernel) ⟨Nat.le_of_ble_eq_true rfl, Nat.le_of_ble_eq_true rfl⟩) (bs_WV hB (hP.sub (ws' := [(h0, .inr (2, [.ref h1, .int 1])), (h1, .inl (cyI, 60, .inl uh_10))]) [0, 1] rfl) (hD.sub (ws' := [(h0, .inr (2, [.ref h1, .int 1])), (h1, .inl (cyI, 60, .inl uh_10))]) [0, 1] (by decide) rfl) 0 rfl rfl) rfl rfl hl.1 rfl (lv_room (Nat.le_of_ble_eq_true rfl)) dX3_append_67 ⟨Nat.le_of_ble_eq_true rfl, Nat.le_of_ble_eq_true rfl⟩) hS (fun q _ h => f_11 q h) f_11 (fun uh_12 t H1 locs ht hvm h_12 hB1 hz1 hk1 hS => ?_)
    obtain ⟨hP1, hD1⟩ := hB1
    rw [ht] at hP1
    obtain ⟨hP, hD⟩ := va_join (wr := []) (w1 := [(h0, .inr (2, [.ref h1, .int 1])), (h1, .inl (cyI, 60, .inl uh_12))]) hP hD [0, 1] [] rfl rfl (by decide) (by decide) hk1 f_11 hP1 hD1
    generalize H1 = H at hP hS ⊢
    have hP : va_P (dC, dI) vwCl [(h0, .inr (2, [.ref h1, .int 1])), (h1, .inl (cyI, 60, .inl uh_12))] _ := hP
    have hD : va_D A [(h0, .inr (2, [.ref h1, .int 1])), (h1, .inl (cyI, 60, .inl uh_12))] := hD
    refine lv_aload_n hx hb dX3_append_70 rfl (lv_at hl 1 rfl) ?_
    refine lv_iload hx hb dX3_append_71 (lv_at hl 0 rfl) ?_
    refine lv_iconst (v := 5) hx hb dX3_append_73 (by decide) ?_
    refine lv_iconst (v := 2) hx hb dX3_append_74 (by decide) ?_
    have f_13 := va_free (wc := [(h0, .inr (2, [.ref h1, .int 1])), (h1, .inl (cyI, 60, .inl uh_12))]) hD hS hA [0, 1] rfl
    refine va_callv (va_runV (As := [.int 0, .int 5, .int 2]) (rest := []) ⟨hx, hb, hml, hown, hts⟩ (kX3_setPart l dC dI cyI cyZ h0 h1 uh_12 1 2 5 (by decide) _) (cwV 3 hts gX3_append_X3_setPart rfl rfl rfl (by decide +kernel) ⟨Nat.le_of_ble_eq_true rfl, Nat.le_of_ble_eq_true rfl⟩) (bs_WV hB (hP.sub (ws' := [(h0, .inr (2, [.ref h1, .int 1])), (h1, .inl (cyI, 60, .inl uh_12))]) [0, 1] rfl) (hD.sub (ws' := [(h0, .inr (2, [.ref h1, .int 1])), (h1, .inl (cyI, 60, .inl uh_12))]) [0, 1] (by decide) rfl) 0 rfl rfl) rfl rfl hl.1 rfl (lv_room (Nat.le_of_ble_eq_true rfl)) dX3_append_75 ⟨Nat.le_of_ble_eq_true rfl, Nat.le_of_ble_eq_true rfl⟩) hS (fun q _ h => f_13 q h) f_13 (fun uh_14 t H1 locs ht hvm h_14 hB1 hz1 hk1 hS => ?_)
    obtain ⟨hP1, hD1⟩ := hB1
    rw [ht] at hP1
    obtain ⟨hP, hD⟩ := va_join (wr := []) (w1 := [(h0, .inr (2, [.ref h1, .int 1])), (h1, .inl (cyI, 60, .inl uh_14))]) hP hD [0, 1] [] rfl rfl (by decide) (by decide) hk1 f_13 hP1 hD1
    generalize H1 = H at hP hS ⊢
    have hP : va_P (dC, dI) vwCl [(h0, .inr (2, [.ref h1, .int 1])), (h1, .inl (cyI, 60, .inl uh_14))] _ := hP
    have hD : va_D A [(h0, .inr (2, [.ref h1, .int 1])), (h1, .inl (cyI, 60, .inl uh_14))] := hD
    refine lv_iload hx hb dX3_append_78 (lv_at hl 0 rfl) ?_
    exact W.iret (v := 0) hx hb hr (fun t ht hW => ⟨⟨0, (), rfl, rfl, trivial⟩, hS.F ht⟩) hS.2.2 dX3_append_80
  · skip
    exact absurd c_1 (by decide)

theorem hnX3_copyFrom_X3 : ∀ w ∈ wsX30, w ∈ wsX3_copyFrom := fun _ h => List.mem_cons_of_mem _ (List.mem_append_right _ h)
set_option maxHeartbeats 4000000 in
set_option maxRecDepth 100000 in
theorem kX3_copyFrom (l : Launch) (dC : Nat → ClassId) (dI : Nat → Nat → Nat) (cyI cyZ : ClassId) (h0 h1 g0 g1 : Nat) (f g : Nat → Int32) (p8 p9 : Int32) (sz : Nat) : Met l yX3_copyFrom wsX3_copyFrom ({ frames := 0, cells := 0, slots := 0, locals := 0 }) (bs_W dC dI cyI cyZ [.ref h0, .ref g0] [(h0, .inr (2, [.ref h1, .int p8])), (h1, .inl (cyI, 60, .inl f)), (g0, .inr (2, [.ref g1, .int p9])), (g1, .inl (cyI, 60, .inl g))] sz) (va_Qv (S := Unit) (fun _ : Unit => True) (fun _ _ => True) (va_A [(h0, .inr (2, [.ref h1, .int p8])), (h1, .inl (cyI, 60, .inl f)), (g0, .inr (2, [.ref g1, .int p9])), (g1, .inl (cyI, 60, .inl g))] sz)) 0 0 (va_A [(h0, .inr (2, [.ref h1, .int p8])), (h1, .inl (cyI, 60, .inl f)), (g0, .inr (2, [.ref g1, .int p9])), (g1, .inl (cyI, 60, .inl g))] sz) := by
  refine Met.ofW (cc := cX3_copyFrom) (maxL := 3) (ret := none) (by decide) rfl ?_
  intro p e s m args below meth c s₁ B hml hv
  obtain ⟨rfl, hsz, hB, hP, hD0⟩ := hv
  have hK := hB.1
  have hN := hB.2
  have hx := B.exec
  have hb := B.bytes
  have hr := B.returns
  have hts := atoms_spec (ws := wsX3_copyFrom) B.pre
  have hown : s.vm.findClass RX3 = some m.cls := findClass_of_methodNamed B.named
  have hlocks := B.notSynchronized
  subst hsz
  have hD := hD0.self (sz := s.heap.size)
  generalize hAe : va_A [(h0, .inr (2, [.ref h1, .int p8])), (h1, .inl (cyI, 60, .inl f)), (g0, .inr (2, [.ref g1, .int p9])), (g1, .inl (cyI, 60, .inl g))] s.heap.size = A at hD ⊢
  have hA : ∀ q : Nat, s.heap.size ≤ q → A q := fun q h => by rw [← hAe]; exact Or.inr h
  have hS : va_S A s.heap s.heap [] := va_S.rf
  have hP : va_P (dC, dI) vwCl [(h0, .inr (2, [.ref h1, .int p8])), (h1, .inl (cyI, 60, .inl f)), (g0, .inr (2, [.ref g1, .int p9])), (g1, .inl (cyI, 60, .inl g))] s.heap := hP
  have hl := lv_entry ([.ref h0, .ref g0]) (n := 3) (Nat.le_of_ble_eq_true rfl)
  rw [lg_entry_eq]
  generalize (lg_sl ([.ref h0, .ref g0]) ++ List.replicate (3 - (lg_sl ([.ref h0, .ref g0])).length) Slot.unset).toArray = ls at hl ⊢
  have hl : lv_has ls 3 [(0, .ref h0), (1, .ref g0)] := hl
  refine lv_aload_n hx hb dX3_copyFrom_0 rfl (lv_at hl 0 rfl) ?_
  refine lv_aload_n hx hb dX3_copyFrom_1 rfl (lv_at hl 1 rfl) ?_
  refine va_get (D := (dC, dI)) (ci := 2) (v := .int p9) (C := RX3) (T := TX3) (N := 2) hx hb hts hnX3_copyFrom_X3 hown hK hP 2 rfl rfl 1 (by decide) (hts (.fieldLink RX3 15 "RingMeets$Rules" "size" "I") (by decide +kernel)) (fun _ h9 => h9) rfl dX3_copyFrom_2 ?_
  refine va_put (D := (dC, dI)) (ci := 2) (v := .int p9) (ty := .int) (C := RX3) (T := TX3) (N := 2) hx hb hts hnX3_copyFrom_X3 tyX3 tyX3_ok nmX3 hown hK hP hD hS 0 rfl rfl 1 (by decide) (hts (.fieldLink RX3 15 "RingMeets$Rules" "size" "I") (by decide +kernel)) (fun _ h9 => h9) rfl (by decide +kernel) rfl rfl (Nat.le_of_ble_eq_true rfl) dX3_copyFrom_5 (fun H locs hP hD hS => ?_)
  have hP : va_P (dC, dI) vwCl [(h0, .inr (2, [.ref h1, .int p9])), (h1, .inl (cyI, 60, .inl f)), (g0, .inr (2, [.ref g1, .int p9])), (g1, .inl (cyI, 60, .inl g))] _ := hP
  have hD : va_D A [(h0, .inr (2, [.ref h1, .int p9])), (h1, .inl (cyI, 60, .inl f)), (g0, .inr (2, [.ref g1, .int p9])), (g1, .inl (cyI, 60, .inl g))] := hD
  refine lv_iconst (v := 0) hx hb dX3_copyFrom_8 (by decide) ?_
  refine lv_istore_n (lv' := [(2, .int 0), (0, .ref h0), (1, .ref g0)]) hx hb dX3_copyFrom_9 rfl hl (by decide) rfl (fun ls hl => ?_)
  have L10 : ∀ (n10 : Nat), ∀ (k : Nat) (f : Nat → Int32), (0 ≤ k ∧ k ≤ 60) → (61 ≤ k + n10) → ∀ (H : Heap) (locs : List Loc), va_P (dC, dI) vwCl [(h0, .inr (2, [.ref h1, .int p9])), (h1, .inl (cyI, 60, .inl f)), (g0, .inr (2, [.ref g1, .int p9])), (g1, .inl (cyI, 60, .inl g))] H → va_D A [(h0, .inr (2, [.ref h1, .int p9])), (h1, .inl (cyI, 60, .inl f)), (g0, .inr (2, [.ref g1, .int p9])), (g1, .inl (cyI, 60, .inl g))] → va_S A s.heap H locs → ∀ (ls : Array Slot), lv_has ls 3 [(0, .ref h0), (1, .ref g0), (2, .int (nI k))] → W p l e (headSpec wsX3_copyFrom ({ frames := 0, cells := 0, slots := 0, locals := 0 })).room s m ([.ref h0, .ref g0] : List Value).toArray below meth c H locs 0 0 (MQ below (va_Qv (S := Unit) (fun _ : Unit => True) (fun _ _ => True) A) ([.ref h0, .ref g0] : List Value).toArray s 0 0 A) (F0 m 10 ls []) := by
    intro n10
    induction n10 with
    | zero =>
      intro k f hk10 hn10 H locs hP hD hS ls hl
      exfalso
      omega
    | succ n10 ih10 =>
      intro k f hk10 hn10 H locs hP hD hS ls hl
      refine lv_iload_n hx hb dX3_copyFrom_10 rfl (lv_at hl 2 rfl) ?_
      refine lv_bipush (v := 60) hx hb dX3_copyFrom_11 (by decide) ?_
      refine lv_icmp_ge (tgt := 34) hx hb dX3_copyFrom_13 (by decide) (fun c_1 => ?_) (fun c_1 => ?_)
      · skip
        have ic_1 := ci_le (show Int32.toInt 60 = 60 by decide) (nI_toInt (n := k) (by omega)) c_1
        exact W.vret hx hb hr (fun t ht hW => ⟨⟨(), rfl, trivial, trivial⟩, hS.F ht⟩) hS.2.2 dX3_copyFrom_34
      · skip
        have ic_1 := ci_nle (show Int32.toInt 60 = 60 by decide) (nI_toInt (n := k) (by omega)) c_1
        refine lv_aload_n hx hb dX3_copyFrom_16 rfl (lv_at hl 0 rfl) ?_
        refine va_get (D := (dC, dI)) (ci := 2) (v := .ref h1) (C := RX3) (T := TX3) (N := 2) hx hb hts hnX3_copyFrom_X3 hown hK hP 0 rfl rfl 0 (by decide) (hts (.fieldLink RX3 9 "RingMeets$Rules" "told" "[I") (by decide +kernel)) (fun _ h9 => h9) rfl dX3_copyFrom_17 ?_
        refine lv_iload_n hx hb dX3_copyFrom_20 rfl (lv_at hl 2 rfl) ?_
        refine lv_aload_n hx hb dX3_copyFrom_21 rfl (lv_at hl 1 rfl) ?_
        refine va_get (D := (dC, dI)) (ci := 2) (v := .ref g1) (C := RX3) (T := TX3) (N := 2) hx hb hts hnX3_copyFrom_X3 hown hK hP 2 rfl rfl 0 (by decide) (hts (.fieldLink RX3 9 "RingMeets$Rules" "told" "[I") (by decide +kernel)) (fun _ h9 => h9) rfl dX3_copyFrom_22 ?_
        refine lv_iload_n hx hb dX3_copyFrom_25 rfl (lv_at hl 2 rfl) ?_
        refine va_iald (D := (dC, dI)) hx hb hK hP 3 0 rfl rfl (vp_in_nI (n := k) (N := 60) (by omega) (by omega)) dX3_copyFrom_26 ?_
        refine lv_topi (fun x_2 ex_2 => ?_)
        rw [nI_clamp (n := k) (by omega)] at ex_2
        refine va_iast (D := (dC, dI)) hx hb hK hP hD hS 1 0 rfl rfl (vp_in_nI (n := k) (N := 60) (by omega) (by omega)) dX3_copyFrom_27 (fun H locs hP hD hS => ?_)
        obtain ⟨g_3, eg_3⟩ : ∃ y : Nat → Int32, y = upd f (Int32.toNatClampNeg (nI k)) x_2 := ⟨_, rfl⟩
        have hP : va_P (dC, dI) vwCl [(h0, .inr (2, [.ref h1, .int p9])), (h1, .inl (cyI, 60, .inl g_3)), (g0, .inr (2, [.ref g1, .int p9])), (g1, .inl (cyI, 60, .inl g))] H := by rw [eg_3]; exact hP
        have hD : va_D A [(h0, .inr (2, [.ref h1, .int p9])), (h1, .inl (cyI, 60, .inl g_3)), (g0, .inr (2, [.ref g1, .int p9])), (g1, .inl (cyI, 60, .inl g))] := by rw [eg_3]; exact hD
        rw [nI_clamp (n := k) (by omega)] at eg_3
        refine lv_iinc (v := (nI (k + 1))) (lv' := [(2, .int (nI (k + 1))), (0, .ref h0), (1, .ref g0)]) hx hb dX3_copyFrom_28 hl (k := 2) rfl (nI_1 _) (by decide) rfl (fun ls hl => ?_)
        refine lv_goto (tgt := 10) hx hb dX3_copyFrom_31 (by decide) ?_
        exact ih10 (k + 1) g_3 ⟨by omega, by omega⟩ (by omega)  _ _ (hP.sub [0, 1, 2, 3] rfl) (hD.sub [0, 1, 2, 3] (by decide) rfl) hS _ (lv_sub hl [1, 2, 0] rfl)
  exact L10 61 0 f ⟨by omega, by omega⟩ (by omega)  _ _ (hP.sub [0, 1, 2, 3] rfl) (hD.sub [0, 1, 2, 3] (by decide) rfl) hS _ (lv_sub hl [1, 2, 0] rfl)

theorem hnX4_copyFrom_X4 : ∀ w ∈ wsX40, w ∈ wsX4_copyFrom := fun _ h => List.mem_cons_of_mem _ (List.mem_append_left _ (List.mem_append_right _ h))
set_option maxHeartbeats 4000000 in
set_option maxRecDepth 100000 in
theorem kX4_copyFrom (l : Launch) (dC : Nat → ClassId) (dI : Nat → Nat → Nat) (cyI cyZ : ClassId) (h0 h1 h2 h3 g0 g1 g2 g3 : Nat) (f ff g gg : Nat → Int32) (p8 p9 : Int32) (sz : Nat) : Met l yX4_copyFrom wsX4_copyFrom ({ frames := 1, cells := 0, slots := 0, locals := 22 }) (bs_W dC dI cyI cyZ [.ref h0, .ref g0] [(h0, .inr (3, [.ref h1, .ref h2, .int 8])), (h1, .inl (cyI, 10, .inl f)), (h2, .inr (2, [.ref h3, .int p8])), (h3, .inl (cyI, 60, .inl ff)), (g0, .inr (3, [.ref g1, .ref g2, .int 8])), (g1, .inl (cyI, 10, .inl g)), (g2, .inr (2, [.ref g3, .int p9])), (g3, .inl (cyI, 60, .inl gg))] sz) (va_Qv (S := Unit) (fun _ : Unit => True) (fun _ _ => True) (va_A [(h0, .inr (3, [.ref h1, .ref h2, .int 8])), (h1, .inl (cyI, 10, .inl f)), (h2, .inr (2, [.ref h3, .int p8])), (h3, .inl (cyI, 60, .inl ff)), (g0, .inr (3, [.ref g1, .ref g2, .int 8])), (g1, .inl (cyI, 10, .inl g)), (g2, .inr (2, [.ref g3, .int p9])), (g3, .inl (cyI, 60, .inl gg))] sz)) 0 0 (va_A [(h0, .inr (3, [.ref h1, .ref h2, .int 8])), (h1, .inl (cyI, 10, .inl f)), (h2, .inr (2, [.ref h3, .int p8])), (h3, .inl (cyI, 60, .inl ff)), (g0, .inr (3, [.ref g1, .ref g2, .int 8])), (g1, .inl (cyI, 10, .inl g)), (g2, .inr (2, [.ref g3, .int p9])), (g3, .inl (cyI, 60, .inl gg))] sz) := by
  refine Met.ofW (cc := cX4_copyFrom) (maxL := 3) (ret := none) (by decide) rfl ?_
  intro p e s m args below meth c s₁ B hml hv
  obtain ⟨rfl, hsz, hB, hP, hD0⟩ := hv
  have hK := hB.1
  have hN := hB.2
  have hx := B.exec
  have hb := B.bytes
  have hr := B.returns
  have hts := atoms_spec (ws := wsX4_copyFrom) B.pre
  have hown : s.vm.findClass RX4 = some m.cls := findClass_of_methodNamed B.named
  have hlocks := B.notSynchronized
  subst hsz
  have hD := hD0.self (sz := s.heap.size)
  generalize hAe : va_A [(h0, .inr (3, [.ref h1, .ref h2, .int 8])), (h1, .inl (cyI, 10, .inl f)), (h2, .inr (2, [.ref h3, .int p8])), (h3, .inl (cyI, 60, .inl ff)), (g0, .inr (3, [.ref g1, .ref g2, .int 8])), (g1, .inl (cyI, 10, .inl g)), (g2, .inr (2, [.ref g3, .int p9])), (g3, .inl (cyI, 60, .inl gg))] s.heap.size = A at hD ⊢
  have hA : ∀ q : Nat, s.heap.size ≤ q → A q := fun q h => by rw [← hAe]; exact Or.inr h
  have hS : va_S A s.heap s.heap [] := va_S.rf
  have hP : va_P (dC, dI) vwCl [(h0, .inr (3, [.ref h1, .ref h2, .int 8])), (h1, .inl (cyI, 10, .inl f)), (h2, .inr (2, [.ref h3, .int p8])), (h3, .inl (cyI, 60, .inl ff)), (g0, .inr (3, [.ref g1, .ref g2, .int 8])), (g1, .inl (cyI, 10, .inl g)), (g2, .inr (2, [.ref g3, .int p9])), (g3, .inl (cyI, 60, .inl gg))] s.heap := hP
  have hl := lv_entry ([.ref h0, .ref g0]) (n := 3) (Nat.le_of_ble_eq_true rfl)
  rw [lg_entry_eq]
  generalize (lg_sl ([.ref h0, .ref g0]) ++ List.replicate (3 - (lg_sl ([.ref h0, .ref g0])).length) Slot.unset).toArray = ls at hl ⊢
  have hl : lv_has ls 3 [(0, .ref h0), (1, .ref g0)] := hl
  refine lv_aload_n hx hb dX4_copyFrom_0 rfl (lv_at hl 0 rfl) ?_
  refine lv_aload_n hx hb dX4_copyFrom_1 rfl (lv_at hl 1 rfl) ?_
  refine va_get (D := (dC, dI)) (ci := 3) (v := .int 8) (C := RX4) (T := TX4) (N := 3) hx hb hts hnX4_copyFrom_X4 hown hK hP 4 rfl rfl 2 (by decide) (hts (.fieldLink RX4 22 "RingMeets$Scene" "cells" "I") (by decide +kernel)) (fun _ h9 => h9) rfl dX4_copyFrom_2 ?_
  refine va_put (D := (dC, dI)) (ci := 3) (v := .int 8) (ty := .int) (C := RX4) (T := TX4) (N := 3) hx hb hts hnX4_copyFrom_X4 tyX4 tyX4_ok nmX4 hown hK hP hD hS 0 rfl rfl 2 (by decide) (hts (.fieldLink RX4 22 "RingMeets$Scene" "cells" "I") (by decide +kernel)) (fun _ h9 => h9) rfl (by decide +kernel) rfl rfl (Nat.le_of_ble_eq_true rfl) dX4_copyFrom_5 (fun H locs hP hD hS => ?_)
  have hP : va_P (dC, dI) vwCl [(h0, .inr (3, [.ref h1, .ref h2, .int 8])), (h1, .inl (cyI, 10, .inl f)), (h2, .inr (2, [.ref h3, .int p8])), (h3, .inl (cyI, 60, .inl ff)), (g0, .inr (3, [.ref g1, .ref g2, .int 8])), (g1, .inl (cyI, 10, .inl g)), (g2, .inr (2, [.ref g3, .int p9])), (g3, .inl (cyI, 60, .inl gg))] _ := hP
  have hD : va_D A [(h0, .inr (3, [.ref h1, .ref h2, .int 8])), (h1, .inl (cyI, 10, .inl f)), (h2, .inr (2, [.ref h3, .int p8])), (h3, .inl (cyI, 60, .inl ff)), (g0, .inr (3, [.ref g1, .ref g2, .int 8])), (g1, .inl (cyI, 10, .inl g)), (g2, .inr (2, [.ref g3, .int p9])), (g3, .inl (cyI, 60, .inl gg))] := hD
  refine lv_iconst (v := 0) hx hb dX4_copyFrom_8 (by decide) ?_
  refine lv_istore_n (lv' := [(2, .int 0), (0, .ref h0), (1, .ref g0)]) hx hb dX4_copyFrom_9 rfl hl (by decide) rfl (fun ls hl => ?_)
  have L10 : ∀ (n10 : Nat), ∀ (k : Nat) (f : Nat → Int32), (0 ≤ k ∧ k ≤ 10) → (11 ≤ k + n10) → ∀ (H : Heap) (locs : List Loc), va_P (dC, dI) vwCl [(h0, .inr (3, [.ref h1, .ref h2, .int 8])), (h1, .inl (cyI, 10, .inl f)), (h2, .inr (2, [.ref h3, .int p8])), (h3, .inl (cyI, 60, .inl ff)), (g0, .inr (3, [.ref g1, .ref g2, .int 8])), (g1, .inl (cyI, 10, .inl g)), (g2, .inr (2, [.ref g3, .int p9])), (g3, .inl (cyI, 60, .inl gg))] H → va_D A [(h0, .inr (3, [.ref h1, .ref h2, .int 8])), (h1, .inl (cyI, 10, .inl f)), (h2, .inr (2, [.ref h3, .int p8])), (h3, .inl (cyI, 60, .inl ff)), (g0, .inr (3, [.ref g1, .ref g2, .int 8])), (g1, .inl (cyI, 10, .inl g)), (g2, .inr (2, [.ref g3, .int p9])), (g3, .inl (cyI, 60, .inl gg))] → va_S A s.heap H locs → ∀ (ls : Array Slot), lv_has ls 3 [(0, .ref h0), (1, .ref g0), (2, .int (nI k))] → W p l e (headSpec wsX4_copyFrom ({ frames := 1, cells := 0, slots := 0, locals := 22 })).room s m ([.ref h0, .ref g0] : List Value).toArray below meth c H locs 0 0 (MQ below (va_Qv (S := Unit) (fun _ : Unit => True) (fun _ _ => True) A) ([.ref h0, .ref g0] : List Value).toArray s 0 0 A) (F0 m 10 ls []) := by
    intro n10
    induction n10 with
    | zero =>
      intro k f hk10 hn10 H locs hP hD hS ls hl
      exfalso
      omega
    | succ n10 ih10 =>
      intro k f hk10 hn10 H locs hP hD hS ls hl
      refine lv_iload_n hx hb dX4_copyFrom_10 rfl (lv_at hl 2 rfl) ?_
      refine lv_bipush (v := 10) hx hb dX4_copyFrom_11 (by decide) ?_
      refine lv_icmp_ge (tgt := 34) hx hb dX4_copyFrom_13 (by decide) (fun c_1 => ?_) (fun c_1 => ?_)
      · skip
        have ic_1 := ci_le (show Int32.toInt 10 = 10 by decide) (nI_toInt (n := k) (by omega)) c_1
        refine lv_aload_n hx hb dX4_copyFrom_34 rfl (lv_at hl 0 rfl) ?_
        refine va_get (D := (dC, dI)) (ci := 3) (v := .ref h2) (C := RX4) (T := TX4) (N := 3) hx hb hts hnX4_copyFrom_X4 hown hK hP 0 rfl rfl 1 (by decide) (hts (.fieldLink RX4 18 "RingMeets$Scene" "rules" "LRingMeets$Rules;") (by decide +kernel)) (fun _ h9 => h9) rfl dX4_copyFrom_35 ?_
        refine lv_aload_n hx hb dX4_copyFrom_38 rfl (lv_at hl 1 rfl) ?_
        refine va_get (D := (dC, dI)) (ci := 3) (v := .ref g2) (C := RX4) (T := TX4) (N := 3) hx hb hts hnX4_copyFrom_X4 hown hK hP 4 rfl rfl 1 (by decide) (hts (.fieldLink RX4 18 "RingMeets$Scene" "rules" "LRingMeets$Rules;") (by decide +kernel)) (fun _ h9 => h9) rfl dX4_copyFrom_39 ?_
        have f_2 := va_free (wc := [(h2, .inr (2, [.ref h3, .int p8])), (h3, .inl (cyI, 60, .inl ff)), (g2, .inr (2, [.ref g3, .int p9])), (g3, .inl (cyI, 60, .inl gg))]) hD hS hA [2, 3, 6, 7] rfl
        refine va_callv (va_runV (As := [.ref g2]) (rest := []) ⟨hx, hb, hml, hown, hts⟩ (kX3_copyFrom l dC dI cyI cyZ h2 h3 g2 g3 ff gg p8 p9 _) (cwV 1 hts gX4_copyFrom_X3_copyFrom rfl rfl rfl (by decide +kernel) ⟨Nat.le_of_ble_eq_true rfl, Nat.le_of_ble_eq_true rfl⟩) (bs_WV hB (hP.sub (ws' := [(h2, .inr (2, [.ref h3, .int p8])), (h3, .inl (cyI, 60, .inl ff)), (g2, .inr (2, [.ref g3, .int p9])), (g3, .inl (cyI, 60, .inl gg))]) [2, 3, 6, 7] rfl) (hD.sub (ws' := [(h2, .inr (2, [.ref h3, .int p8])), (h3, .inl (cyI, 60, .inl ff)), (g2, .inr (2, [.ref g3, .int p9])), (g3, .inl (cyI, 60, .inl gg))]) [2, 3, 6, 7] (by decide) rfl) 0 rfl rfl) rfl rfl hl.1 rfl (lv_room (Nat.le_of_ble_eq_true rfl)) dX4_copyFrom_42 ⟨Nat.le_of_ble_eq_true rfl, Nat.le_of_ble_eq_true rfl⟩) hS (fun q _ h => f_2 q h) f_2 (fun uh_3 t H1 locs ht hvm h_3 hB1 hz1 hk1 hS => ?_)
        obtain ⟨hP, hD⟩ := va_join (wr := [(h0, .inr (3, [.ref h1, .ref h2, .int 8])), (h1, .inl (cyI, 10, .inl f)), (g0, .inr (3, [.ref g1, .ref g2, .int 8])), (g1, .inl (cyI, 10, .inl g))]) (w1 := []) hP hD [2, 3, 6, 7] [0, 1, 4, 5] rfl rfl (by decide) (by decide) hk1 f_2 bs_nil bs_nilD
        generalize H1 = H at hP hS ⊢
        have hP : va_P (dC, dI) vwCl [(h0, .inr (3, [.ref h1, .ref h2, .int 8])), (h1, .inl (cyI, 10, .inl f)), (g0, .inr (3, [.ref g1, .ref g2, .int 8])), (g1, .inl (cyI, 10, .inl g))] _ := hP
        have hD : va_D A [(h0, .inr (3, [.ref h1, .ref h2, .int 8])), (h1, .inl (cyI, 10, .inl f)), (g0, .inr (3, [.ref g1, .ref g2, .int 8])), (g1, .inl (cyI, 10, .inl g))] := hD
        exact W.vret hx hb hr (fun t ht hW => ⟨⟨(), rfl, trivial, trivial⟩, hS.F ht⟩) hS.2.2 dX4_copyFrom_45
      · skip
        have ic_1 := ci_nle (show Int32.toInt 10 = 10 by decide) (nI_toInt (n := k) (by omega)) c_1
        refine lv_aload_n hx hb dX4_copyFrom_16 rfl (lv_at hl 0 rfl) ?_
        refine va_get (D := (dC, dI)) (ci := 3) (v := .ref h1) (C := RX4) (T := TX4) (N := 3) hx hb hts hnX4_copyFrom_X4 hown hK hP 0 rfl rfl 0 (by decide) (hts (.fieldLink RX4 9 "RingMeets$Scene" "walkers" "[I") (by decide +kernel)) (fun _ h9 => h9) rfl dX4_copyFrom_17 ?_
        refine lv_iload_n hx hb dX4_copyFrom_20 rfl (lv_at hl 2 rfl) ?_
        refine lv_aload_n hx hb dX4_copyFrom_21 rfl (lv_at hl 1 rfl) ?_
        refine va_get (D := (dC, dI)) (ci := 3) (v := .ref g1) (C := RX4) (T := TX4) (N := 3) hx hb hts hnX4_copyFrom_X4 hown hK hP 4 rfl rfl 0 (by decide) (hts (.fieldLink RX4 9 "RingMeets$Scene" "walkers" "[I") (by decide +kernel)) (fun _ h9 => h9) rfl dX4_copyFrom_22 ?_
        refine lv_iload_n hx hb dX4_copyFrom_25 rfl (lv_at hl 2 rfl) ?_
        refine va_iald (D := (dC, dI)) hx hb hK hP 5 0 rfl rfl (vp_in_nI (n := k) (N := 10) (by omega) (by omega)) dX4_copyFrom_26 ?_
        refine lv_topi (fun x_4 ex_4 => ?_)
        rw [nI_clamp (n := k) (by omega)] at ex_4
        refine va_iast (D := (dC, dI)) hx hb hK hP hD hS 1 0 rfl rfl (vp_in_nI (n := k) (N := 10) (by omega) (by omega)) dX4_copyFrom_27 (fun H locs hP hD hS => ?_)
        obtain ⟨g_5, eg_5⟩ : ∃ y : Nat → Int32, y = upd f (Int32.toNatClampNeg (nI k)) x_4 := ⟨_, rfl⟩
        have hP : va_P (dC, dI) vwCl [(h0, .inr (3, [.ref h1, .ref h2, .int 8])), (h1, .inl (cyI, 10, .inl g_5)), (h2, .inr (2, [.ref h3, .int p8])), (h3, .inl (cyI, 60, .inl ff)), (g0, .inr (3, [.ref g1, .ref g2, .int 8])), (g1, .inl (cyI, 10, .inl g)), (g2, .inr (2, [.ref g3, .int p9])), (g3, .inl (cyI, 60, .inl gg))] H := by rw [eg_5]; exact hP
        have hD : va_D A [(h0, .inr (3, [.ref h1, .ref h2, .int 8])), (h1, .inl (cyI, 10, .inl g_5)), (h2, .inr (2, [.ref h3, .int p8])), (h3, .inl (cyI, 60, .inl ff)), (g0, .inr (3, [.ref g1, .ref g2, .int 8])), (g1, .inl (cyI, 10, .inl g)), (g2, .inr (2, [.ref g3, .int p9])), (g3, .inl (cyI, 60, .inl gg))] := by rw [eg_5]; exact hD
        rw [nI_clamp (n := k) (by omega)] at eg_5
        refine lv_iinc (v := (nI (k + 1))) (lv' := [(2, .int (nI (k + 1))), (0, .ref h0), (1, .ref g0)]) hx hb dX4_copyFrom_28 hl (k := 2) rfl (nI_1 _) (by decide) rfl (fun ls hl => ?_)
        refine lv_goto (tgt := 10) hx hb dX4_copyFrom_31 (by decide) ?_
        exact ih10 (k + 1) g_5 ⟨by omega, by omega⟩ (by omega)  _ _ (hP.sub [0, 1, 2, 3, 4, 5, 6, 7] rfl) (hD.sub [0, 1, 2, 3, 4, 5, 6, 7] (by decide) rfl) hS _ (lv_sub hl [1, 2, 0] rfl)
  exact L10 11 0 f ⟨by omega, by omega⟩ (by omega)  _ _ (hP.sub [0, 1, 2, 3, 4, 5, 6, 7] rfl) (hD.sub [0, 1, 2, 3, 4, 5, 6, 7] (by decide) rfl) hS _ (lv_sub hl [1, 2, 0] rfl)

set_option maxHeartbeats 4000000 in
set_option maxRecDepth 100000 in
theorem kX1_init (l : Launch) (dC : Nat → ClassId) (dI : Nat → Nat → Nat) (cyI cyZ : ClassId) (h0 : Nat) : Met l yX1_init wsX1_init ({ frames := 1, cells := 0, slots := 0, locals := 20 }) (bs_R dC dI cyI cyZ [.ref h0] []) (va_Sv (fun _ : Unit => True)) 0 0 (fun _ => False) := by
  refine Met.ofW (cc := cX1_init) (maxL := 1) (ret := none) (by decide) rfl ?_
  intro p e s m args below meth c s₁ B hml hv
  obtain ⟨rfl, hB, hP⟩ := hv
  have hK := hB.1
  have hN := hB.2
  have hx := B.exec
  have hb := B.bytes
  have hr := B.returns
  have hts := atoms_spec (ws := wsX1_init) B.pre
  have hown : s.vm.findClass RX1 = some m.cls := findClass_of_methodNamed B.named
  have hlocks := B.notSynchronized
  have hin : meth.name = "<init>" := (name_of_methodNamed B.named B.method).1
  have hP : va_P (dC, dI) vwCl [] s.heap := hP
  have hl := lv_entry ([.ref h0]) (n := 1) (Nat.le_of_ble_eq_true rfl)
  rw [lg_entry_eq]
  generalize (lg_sl ([.ref h0]) ++ List.replicate (1 - (lg_sl ([.ref h0])).length) Slot.unset).toArray = ls at hl ⊢
  have hl : lv_has ls 1 [(0, .ref h0)] := hl
  refine lv_aload_n hx hb dX1_init_0 rfl (lv_at hl 0 rfl) ?_
  refine W.objInit hx hb hown (hts (.methodLink RX1 3 objectInit) (by decide +kernel)) (hts (.instanceMethod objectInit) (by decide +kernel)) (hts (.code objectInit ⟨#[0xb1]⟩ 1 none) (by decide +kernel)) rfl (by rw [hml]; exact hl.1) rfl dX1_init_1 (Nat.le_of_ble_eq_true rfl) (Nat.le_of_ble_eq_true rfl) ?_
  refine W.eq (g2 := F0 m 4 ls []) rfl ?_
  exact W.vret hx hb hr (fun t ht hW => ⟨rfl, trivial, ht⟩) (fun q h => by cases h) dX1_init_4

set_option maxHeartbeats 4000000 in
set_option maxRecDepth 100000 in
theorem kJ6_bitCount_0f7a4 (l : Launch) (dC : Nat → ClassId) (dI : Nat → Nat → Nat) (cyI cyZ : ClassId) (p0 : Int32) : Met l yJ6_bitCount_0f7a4 wsJ6_bitCount_0f7a4 ({ frames := 0, cells := 0, slots := 0, locals := 0 }) (bs_R dC dI cyI cyZ [.int p0] []) (vp_Si (fun r : Int32 => r = nb_bc p0)) 0 0 (fun _ => False) := by
  refine Met.ofW (cc := cJ6_bitCount_0f7a4) (maxL := 1) (ret := (some .int)) (by decide) rfl ?_
  intro p e s m args below meth c s₁ B hml hv
  obtain ⟨rfl, hB, hP⟩ := hv
  have hK := hB.1
  have hN := hB.2
  have hx := B.exec
  have hb := B.bytes
  have hr := B.returns
  have hts := atoms_spec (ws := wsJ6_bitCount_0f7a4) B.pre
  have hown : s.vm.findClass RJ6 = some m.cls := findClass_of_methodNamed B.named
  have hlocks := B.notSynchronized
  have hP : va_P (dC, dI) vwCl [] s.heap := hP
  have hl := lv_entry ([.int p0]) (n := 1) (Nat.le_of_ble_eq_true rfl)
  rw [lg_entry_eq]
  generalize (lg_sl ([.int p0]) ++ List.replicate (1 - (lg_sl ([.int p0])).length) Slot.unset).toArray = ls at hl ⊢
  have hl : lv_has ls 1 [(0, .int p0)] := hl
  refine lv_iload_n hx hb dJ6_bitCount_0f7a4_0 rfl (lv_at hl 0 rfl) ?_
  refine lv_iload_n hx hb dJ6_bitCount_0f7a4_1 rfl (lv_at hl 0 rfl) ?_
  refine lv_iconst (v := 1) hx hb dJ6_bitCount_0f7a4_2 (by decide) ?_
  refine lv_iushr hx hb dJ6_bitCount_0f7a4_3 rfl ?_
  refine lv_topi (fun x_1 ex_1 => ?_)
  refine lv_ldcw (v := 1431655765) hx hb hown (hts (.constant RJ6 265 (1431655765)) (by decide +kernel)) dJ6_bitCount_0f7a4_4 ?_
  refine lv_iand hx hb dJ6_bitCount_0f7a4_7 ?_
  refine lv_topi (fun x_2 ex_2 => ?_)
  refine lv_isub hx hb dJ6_bitCount_0f7a4_8 ?_
  refine lv_topi (fun x_3 ex_3 => ?_)
  refine lv_istore_n (lv' := [(0, .int x_3)]) hx hb dJ6_bitCount_0f7a4_9 rfl hl (by decide) rfl (fun ls hl => ?_)
  refine lv_iload_n hx hb dJ6_bitCount_0f7a4_10 rfl (lv_at hl 0 rfl) ?_
  refine lv_ldcw (v := 858993459) hx hb hown (hts (.constant RJ6 266 (858993459)) (by decide +kernel)) dJ6_bitCount_0f7a4_11 ?_
  refine lv_iand hx hb dJ6_bitCount_0f7a4_14 ?_
  refine lv_topi (fun x_4 ex_4 => ?_)
  refine lv_iload_n hx hb dJ6_bitCount_0f7a4_15 rfl (lv_at hl 0 rfl) ?_
  refine lv_iconst (v := 2) hx hb dJ6_bitCount_0f7a4_16 (by decide) ?_
  refine lv_iushr hx hb dJ6_bitCount_0f7a4_17 rfl ?_
  refine lv_topi (fun x_5 ex_5 => ?_)
  refine lv_ldcw (v := 858993459) hx hb hown (hts (.constant RJ6 266 (858993459)) (by decide +kernel)) dJ6_bitCount_0f7a4_18 ?_
  refine lv_iand hx hb dJ6_bitCount_0f7a4_21 ?_
  refine lv_topi (fun x_6 ex_6 => ?_)
  refine lv_iadd hx hb dJ6_bitCount_0f7a4_22 ?_
  refine lv_topi (fun x_7 ex_7 => ?_)
  refine lv_istore_n (lv' := [(0, .int x_7)]) hx hb dJ6_bitCount_0f7a4_23 rfl hl (by decide) rfl (fun ls hl => ?_)
  refine lv_iload_n hx hb dJ6_bitCount_0f7a4_24 rfl (lv_at hl 0 rfl) ?_
  refine lv_iload_n hx hb dJ6_bitCount_0f7a4_25 rfl (lv_at hl 0 rfl) ?_
  refine lv_iconst (v := 4) hx hb dJ6_bitCount_0f7a4_26 (by decide) ?_
  refine lv_iushr hx hb dJ6_bitCount_0f7a4_27 rfl ?_
  refine lv_topi (fun x_8 ex_8 => ?_)
  refine lv_iadd hx hb dJ6_bitCount_0f7a4_28 ?_
  refine lv_topi (fun x_9 ex_9 => ?_)
  refine lv_ldcw (v := 252645135) hx hb hown (hts (.constant RJ6 267 (252645135)) (by decide +kernel)) dJ6_bitCount_0f7a4_29 ?_
  refine lv_iand hx hb dJ6_bitCount_0f7a4_32 ?_
  refine lv_topi (fun x_10 ex_10 => ?_)
  refine lv_istore_n (lv' := [(0, .int x_10)]) hx hb dJ6_bitCount_0f7a4_33 rfl hl (by decide) rfl (fun ls hl => ?_)
  refine lv_iload_n hx hb dJ6_bitCount_0f7a4_34 rfl (lv_at hl 0 rfl) ?_
  refine lv_iload_n hx hb dJ6_bitCount_0f7a4_35 rfl (lv_at hl 0 rfl) ?_
  refine lv_bipush (v := 8) hx hb dJ6_bitCount_0f7a4_36 (by decide) ?_
  refine lv_iushr hx hb dJ6_bitCount_0f7a4_38 rfl ?_
  refine lv_topi (fun x_11 ex_11 => ?_)
  refine lv_iadd hx hb dJ6_bitCount_0f7a4_39 ?_
  refine lv_topi (fun x_12 ex_12 => ?_)
  refine lv_istore_n (lv' := [(0, .int x_12)]) hx hb dJ6_bitCount_0f7a4_40 rfl hl (by decide) rfl (fun ls hl => ?_)
  refine lv_iload_n hx hb dJ6_bitCount_0f7a4_41 rfl (lv_at hl 0 rfl) ?_
  refine lv_iload_n hx hb dJ6_bitCount_0f7a4_42 rfl (lv_at hl 0 rfl) ?_
  refine lv_bipush (v := 16) hx hb dJ6_bitCount_0f7a4_43 (by decide) ?_
  refine lv_iushr hx hb dJ6_bitCount_0f7a4_45 rfl ?_
  refine lv_topi (fun x_13 ex_13 => ?_)
  refine lv_iadd hx hb dJ6_bitCount_0f7a4_46 ?_
  refine lv_topi (fun x_14 ex_14 => ?_)
  refine lv_istore_n (lv' := [(0, .int x_14)]) hx hb dJ6_bitCount_0f7a4_47 rfl hl (by decide) rfl (fun ls hl => ?_)
  refine lv_iload_n hx hb dJ6_bitCount_0f7a4_48 rfl (lv_at hl 0 rfl) ?_
  refine lv_bipush (v := 63) hx hb dJ6_bitCount_0f7a4_49 (by decide) ?_
  refine lv_iand hx hb dJ6_bitCount_0f7a4_51 ?_
  refine lv_topi (fun x_15 ex_15 => ?_)
  exact W.iret (v := x_15) hx hb hr (fun t ht hW => ⟨x_15, rfl, (show x_15 = nb_bc p0 by simp only [ex_1, ex_2, ex_3, ex_4, ex_5, ex_6, ex_7, ex_8, ex_9, ex_10, ex_11, ex_12, ex_13, ex_14, ex_15]; rfl), ht⟩) (fun q h => by cases h) dJ6_bitCount_0f7a4_52

theorem hnX7_init_X1 : ∀ w ∈ wsX10, w ∈ wsX7_init := fun _ h => List.mem_cons_of_mem _ (List.mem_append_left _ (List.mem_append_right _ h))
theorem hnX7_init_X4 : ∀ w ∈ wsX40, w ∈ wsX7_init := fun _ h => List.mem_cons_of_mem _ (List.mem_append_left _ (List.mem_append_left _ (List.mem_append_left _ (List.mem_append_right _ h))))
theorem hnX7_init_X7 : ∀ w ∈ wsX70, w ∈ wsX7_init := fun _ h => List.mem_cons_of_mem _ (List.mem_append_left _ (List.mem_append_left _ (List.mem_append_right _ h)))
set_option maxHeartbeats 4000000 in
set_option maxRecDepth 100000 in
theorem kX7_init (l : Launch) (dC : Nat → ClassId) (dI : Nat → Nat → Nat) (cyI cyZ : ClassId) (h0 : Nat) (sz : Nat) : Met l yX7_init wsX7_init ({ frames := 3, cells := 14, slots := 240, locals := 60 }) (bs_W dC dI cyI cyZ [.ref h0] [(h0, .inr (5, [.null, .null, .null, .null, .null, .int 0, .null]))] sz) (va_Qv (S := Nat × Nat × Nat × Nat × Nat × Nat × Nat × Nat × Nat × Nat × Nat × Nat × Nat × Nat) (fun _ : Nat × Nat × Nat × Nat × Nat × Nat × Nat × Nat × Nat × Nat × Nat × Nat × Nat × Nat => True) (fun q t => bs_E dC dI (va_A [(h0, .inr (5, [.null, .null, .null, .null, .null, .int 0, .null]))] sz) [(h0, .inr (5, [.ref q.1, .ref q.2.2.2.2.1, .ref q.2.2.2.2.2.2.2.2.1, .ref q.2.2.2.2.2.2.2.2.2.2.2.2.1, .ref q.2.2.2.2.2.2.2.2.2.2.2.2.2, .int 0, .null])), (q.1, .inr (3, [.ref q.2.1, .ref q.2.2.1, .int 8])), (q.2.1, .inl (cyI, 10, .inl (fun _ => (0 : Int32)))), (q.2.2.1, .inr (2, [.ref q.2.2.2.1, .int 0])), (q.2.2.2.1, .inl (cyI, 60, .inl (fun _ => (0 : Int32)))), (q.2.2.2.2.1, .inr (3, [.ref q.2.2.2.2.2.1, .ref q.2.2.2.2.2.2.1, .int 8])), (q.2.2.2.2.2.1, .inl (cyI, 10, .inl (fun _ => (0 : Int32)))), (q.2.2.2.2.2.2.1, .inr (2, [.ref q.2.2.2.2.2.2.2.1, .int 0])), (q.2.2.2.2.2.2.2.1, .inl (cyI, 60, .inl (fun _ => (0 : Int32)))), (q.2.2.2.2.2.2.2.2.1, .inr (3, [.ref q.2.2.2.2.2.2.2.2.2.1, .ref q.2.2.2.2.2.2.2.2.2.2.1, .int 8])), (q.2.2.2.2.2.2.2.2.2.1, .inl (cyI, 10, .inl (fun _ => (0 : Int32)))), (q.2.2.2.2.2.2.2.2.2.2.1, .inr (2, [.ref q.2.2.2.2.2.2.2.2.2.2.2.1, .int 0])), (q.2.2.2.2.2.2.2.2.2.2.2.1, .inl (cyI, 60, .inl (fun _ => (0 : Int32)))), (q.2.2.2.2.2.2.2.2.2.2.2.2.1, .inr (0, [.int 0, .int 0, .int 0, .int 0, .int 0])), (q.2.2.2.2.2.2.2.2.2.2.2.2.2, .inl (cyI, 10, .inl (fun _ => (0 : Int32))))] t) (va_A [(h0, .inr (5, [.null, .null, .null, .null, .null, .int 0, .null]))] sz)) 14 240 (va_A [(h0, .inr (5, [.null, .null, .null, .null, .null, .int 0, .null]))] sz) := by
  refine Met.ofW (cc := cX7_init) (maxL := 1) (ret := none) (by decide) rfl ?_
  intro p e s m args below meth c s₁ B hml hv
  obtain ⟨rfl, hsz, hB, hP, hD0⟩ := hv
  have hK := hB.1
  have hN := hB.2
  have hx := B.exec
  have hb := B.bytes
  have hr := B.returns
  have hts := atoms_spec (ws := wsX7_init) B.pre
  have hown : s.vm.findClass RX7 = some m.cls := findClass_of_methodNamed B.named
  have hlocks := B.notSynchronized
  have hin : meth.name = "<init>" := (name_of_methodNamed B.named B.method).1
  subst hsz
  have hD := hD0.self (sz := s.heap.size)
  generalize hAe : va_A [(h0, .inr (5, [.null, .null, .null, .null, .null, .int 0, .null]))] s.heap.size = A at hD ⊢
  have hA : ∀ q : Nat, s.heap.size ≤ q → A q := fun q h => by rw [← hAe]; exact Or.inr h
  have hS : va_S A s.heap s.heap [] := va_S.rf
  have hP : va_P (dC, dI) vwCl [(h0, .inr (5, [.null, .null, .null, .null, .null, .int 0, .null]))] s.heap := hP
  have hl := lv_entry ([.ref h0]) (n := 1) (Nat.le_of_ble_eq_true rfl)
  rw [lg_entry_eq]
  generalize (lg_sl ([.ref h0]) ++ List.replicate (1 - (lg_sl ([.ref h0])).length) Slot.unset).toArray = ls at hl ⊢
  have hl : lv_has ls 1 [(0, .ref h0)] := hl
  refine lv_aload_n hx hb dX7_init_0 rfl (lv_at hl 0 rfl) ?_
  refine W.objInit hx hb hown (hts (.methodLink RX7 1 objectInit) (by decide +kernel)) (hts (.instanceMethod objectInit) (by decide +kernel)) (hts (.code objectInit ⟨#[0xb1]⟩ 1 none) (by decide +kernel)) rfl (by rw [hml]; exact hl.1) rfl dX7_init_1 (Nat.le_of_ble_eq_true rfl) (Nat.le_of_ble_eq_true rfl) ?_
  refine W.eq (g2 := F0 m 4 ls []) rfl ?_
  refine lv_aload_n hx hb dX7_init_4 rfl (lv_at hl 0 rfl) ?_
  refine va_new (ci := 3) (fs := [.null, .null, .int 0]) (C := RX4) (T := TX4) (N := 3) hx hb hts hnX7_init_X4 tyX4 tyX4_ok hown (hts (.classLink RX7 7 RX4) (by decide +kernel)) (hts (.instantiable RX4 3) (by decide +kernel)) (hts (.initialized RX4) (by decide +kernel)) hK hP hD hS hA rfl (fun j hj => by rcases (show j = 0 ∨ j = 1 ∨ j = 2 by omega) with rfl | rfl | rfl <;> rfl) (Nat.le_of_ble_eq_true rfl) (Nat.le_of_ble_eq_true rfl) dX7_init_5 (fun q_1 H hP hD hS => ?_)
  refine W.widen (k := 1) (n := 3) (Nat.le_of_ble_eq_true rfl) (Nat.le_of_ble_eq_true rfl) ?_
  have hP : va_P (dC, dI) vwCl [(h0, .inr (5, [.null, .null, .null, .null, .null, .int 0, .null])), (q_1, .inr (3, [.null, .null, .int 0]))] _ := hP
  have hD : va_D A [(h0, .inr (5, [.null, .null, .null, .null, .null, .int 0, .null])), (q_1, .inr (3, [.null, .null, .int 0]))] := hD
  refine lv_dup hx hb dX7_init_8 rfl ?_
  have f_2 := va_free (wc := [(q_1, .inr (3, [.null, .null, .int 0]))]) hD hS hA [1] rfl
  refine va_callv (va_runIN (As := []) (rest := [.ref q_1, .ref h0]) ⟨hx, hb, hml, hown, hts⟩ (kX4_init l dC dI cyI cyZ q_1 _) ⟨va_cnB 0 hts gX7_init_X4_init_n9 rfl rfl rfl (hN.at 0 rfl) (hts (.initialized RX4) (by decide +kernel)) (by decide +kernel) ⟨Nat.le_of_ble_eq_true rfl, Nat.le_of_ble_eq_true rfl⟩, rfl, (hts (.instanceMethod yX4_init) (by decide +kernel))⟩ (bs_WS hB (hP.sub (ws' := [(q_1, .inr (3, [.null, .null, .int 0]))]) [1] rfl) (hD.sub (ws' := [(q_1, .inr (3, [.null, .null, .int 0]))]) [1] (by decide) rfl)) rfl rfl hl.1 rfl (lv_room (Nat.le_of_ble_eq_true rfl)) dX7_init_9 ⟨Nat.le_of_ble_eq_true rfl, Nat.le_of_ble_eq_true rfl⟩) hS (fun q _ h => f_2 q h) f_2 (fun uh_3 t H1 locs ht hvm h_3 hB1 hz1 hk1 hS => ?_)
  obtain ⟨wk_4, ru_5, to_6⟩ := uh_3
  obtain ⟨hP1, hD1⟩ := hB1
  rw [ht] at hP1
  obtain ⟨hP, hD⟩ := va_join (wr := [(h0, .inr (5, [.null, .null, .null, .null, .null, .int 0, .null]))]) (w1 := [(q_1, .inr (3, [.ref wk_4, .ref ru_5, .int 8])), (wk_4, .inl (cyI, 10, .inl (fun _ => (0 : Int32)))), (ru_5, .inr (2, [.ref to_6, .int 0])), (to_6, .inl (cyI, 60, .inl (fun _ => (0 : Int32))))]) hP hD [1] [0] rfl rfl (by decide) (by decide) hk1 f_2 hP1 hD1
  generalize H1 = H at hP hS ⊢
  have hP : va_P (dC, dI) vwCl [(h0, .inr (5, [.null, .null, .null, .null, .null, .int 0, .null])), (q_1, .inr (3, [.ref wk_4, .ref ru_5, .int 8])), (wk_4, .inl (cyI, 10, .inl (fun _ => (0 : Int32)))), (ru_5, .inr (2, [.ref to_6, .int 0])), (to_6, .inl (cyI, 60, .inl (fun _ => (0 : Int32))))] _ := hP
  have hD : va_D A [(h0, .inr (5, [.null, .null, .null, .null, .null, .int 0, .null])), (q_1, .inr (3, [.ref wk_4, .ref ru_5, .int 8])), (wk_4, .inl (cyI, 10, .inl (fun _ => (0 : Int32)))), (ru_5, .inr (2, [.ref to_6, .int 0])), (to_6, .inl (cyI, 60, .inl (fun _ => (0 : Int32))))] := hD
  refine W.widen (k := 4) (n := 75) (Nat.le_of_ble_eq_true rfl) (Nat.le_of_ble_eq_true rfl) ?_
  refine va_putF (D := (dC, dI)) (ci := 5) (v := .ref q_1) (ty := (.object "RingMeets$Scene")) (C := RX7) (T := TX7) (N := 7) hx hb hts hnX7_init_X7 tyX7 tyX7_ok nmX7 hown hK hP hD hS 0 rfl rfl 0 (by decide) (hts (.fieldLink RX7 10 "RingMeets" "now" "LRingMeets$Scene;") (by decide +kernel)) (fun _ h9 => h9) rfl hin rfl (by decide +kernel) rfl rfl (Nat.le_of_ble_eq_true rfl) dX7_init_12 (fun H locs hP hD hS => ?_)
  have hP : va_P (dC, dI) vwCl [(h0, .inr (5, [.ref q_1, .null, .null, .null, .null, .int 0, .null])), (q_1, .inr (3, [.ref wk_4, .ref ru_5, .int 8])), (wk_4, .inl (cyI, 10, .inl (fun _ => (0 : Int32)))), (ru_5, .inr (2, [.ref to_6, .int 0])), (to_6, .inl (cyI, 60, .inl (fun _ => (0 : Int32))))] _ := hP
  have hD : va_D A [(h0, .inr (5, [.ref q_1, .null, .null, .null, .null, .int 0, .null])), (q_1, .inr (3, [.ref wk_4, .ref ru_5, .int 8])), (wk_4, .inl (cyI, 10, .inl (fun _ => (0 : Int32)))), (ru_5, .inr (2, [.ref to_6, .int 0])), (to_6, .inl (cyI, 60, .inl (fun _ => (0 : Int32))))] := hD
  refine lv_aload_n hx hb dX7_init_15 rfl (lv_at hl 0 rfl) ?_
  refine va_new (ci := 3) (fs := [.null, .null, .int 0]) (C := RX4) (T := TX4) (N := 3) hx hb hts hnX7_init_X4 tyX4 tyX4_ok hown (hts (.classLink RX7 7 RX4) (by decide +kernel)) (hts (.instantiable RX4 3) (by decide +kernel)) (hts (.initialized RX4) (by decide +kernel)) hK hP hD hS hA rfl (fun j hj => by rcases (show j = 0 ∨ j = 1 ∨ j = 2 by omega) with rfl | rfl | rfl <;> rfl) (Nat.le_of_ble_eq_true rfl) (Nat.le_of_ble_eq_true rfl) dX7_init_16 (fun q_7 H hP hD hS => ?_)
  refine W.widen (k := 5) (n := 78) (Nat.le_of_ble_eq_true rfl) (Nat.le_of_ble_eq_true rfl) ?_
  have hP : va_P (dC, dI) vwCl [(h0, .inr (5, [.ref q_1, .null, .null, .null, .null, .int 0, .null])), (q_1, .inr (3, [.ref wk_4, .ref ru_5, .int 8])), (wk_4, .inl (cyI, 10, .inl (fun _ => (0 : Int32)))), (ru_5, .inr (2, [.ref to_6, .int 0])), (to_6, .inl (cyI, 60, .inl (fun _ => (0 : Int32)))), (q_7, .inr (3, [.null, .null, .int 0]))] _ := hP
  have hD : va_D A [(h0, .inr (5, [.ref q_1, .null, .null, .null, .null, .int 0, .null])), (q_1, .inr (3, [.ref wk_4, .ref ru_5, .int 8])), (wk_4, .inl (cyI, 10, .inl (fun _ => (0 : Int32)))), (ru_5, .inr (2, [.ref to_6, .int 0])), (to_6, .inl (cyI, 60, .inl (fun _ => (0 : Int32)))), (q_7, .inr (3, [.null, .null, .int 0]))] := hD
  refine lv_dup hx hb dX7_init_19 rfl ?_
  have f_8 := va_free (wc := [(q_7, .inr (3, [.null, .null, .int 0]))]) hD hS hA [5] rfl
  refine va_callv (va_runIN (As := []) (rest := [.ref q_7, .ref h0]) ⟨hx, hb, hml, hown, hts⟩ (kX4_init l dC dI cyI cyZ q_7 _) ⟨va_cnB 0 hts gX7_init_X4_init_n9 rfl rfl rfl (hN.at 0 rfl) (hts (.initialized RX4) (by decide +kernel)) (by decide +kernel) ⟨Nat.le_of_ble_eq_true rfl, Nat.le_of_ble_eq_true rfl⟩, rfl, (hts (.instanceMethod yX4_init) (by decide +kernel))⟩ (bs_WS hB (hP.sub (ws' := [(q_7, .inr (3, [.null, .null, .int 0]))]) [5] rfl) (hD.sub (ws' := [(q_7, .inr (3, [.null, .null, .int 0]))]) [5] (by decide) rfl)) rfl rfl hl.1 rfl (lv_room (Nat.le_of_ble_eq_true rfl)) dX7_init_20 ⟨Nat.le_of_ble_eq_true rfl, Nat.le_of_ble_eq_true rfl⟩) hS (fun q _ h => f_8 q h) f_8 (fun uh_9 t H1 locs ht hvm h_9 hB1 hz1 hk1 hS => ?_)
  obtain ⟨wk_10, ru_11, to_12⟩ := uh_9
  obtain ⟨hP1, hD1⟩ := hB1
  rw [ht] at hP1
  obtain ⟨hP, hD⟩ := va_join (wr := [(h0, .inr (5, [.ref q_1, .null, .null, .null, .null, .int 0, .null])), (q_1, .inr (3, [.ref wk_4, .ref ru_5, .int 8])), (wk_4, .inl (cyI, 10, .inl (fun _ => (0 : Int32)))), (ru_5, .inr (2, [.ref to_6, .int 0])), (to_6, .inl (cyI, 60, .inl (fun _ => (0 : Int32))))]) (w1 := [(q_7, .inr (3, [.ref wk_10, .ref ru_11, .int 8])), (wk_10, .inl (cyI, 10, .inl (fun _ => (0 : Int32)))), (ru_11, .inr (2, [.ref to_12, .int 0])), (to_12, .inl (cyI, 60, .inl (fun _ => (0 : Int32))))]) hP hD [5] [0, 1, 2, 3, 4] rfl rfl (by decide) (by decide) hk1 f_8 hP1 hD1
  generalize H1 = H at hP hS ⊢
  have hP : va_P (dC, dI) vwCl [(h0, .inr (5, [.ref q_1, .null, .null, .null, .null, .int 0, .null])), (q_1, .inr (3, [.ref wk_4, .ref ru_5, .int 8])), (wk_4, .inl (cyI, 10, .inl (fun _ => (0 : Int32)))), (ru_5, .inr (2, [.ref to_6, .int 0])), (to_6, .inl (cyI, 60, .inl (fun _ => (0 : Int32)))), (q_7, .inr (3, [.ref wk_10, .ref ru_11, .int 8])), (wk_10, .inl (cyI, 10, .inl (fun _ => (0 : Int32)))), (ru_11, .inr (2, [.ref to_12, .int 0])), (to_12, .inl (cyI, 60, .inl (fun _ => (0 : Int32))))] _ := hP
  have hD : va_D A [(h0, .inr (5, [.ref q_1, .null, .null, .null, .null, .int 0, .null])), (q_1, .inr (3, [.ref wk_4, .ref ru_5, .int 8])), (wk_4, .inl (cyI, 10, .inl (fun _ => (0 : Int32)))), (ru_5, .inr (2, [.ref to_6, .int 0])), (to_6, .inl (cyI, 60, .inl (fun _ => (0 : Int32)))), (q_7, .inr (3, [.ref wk_10, .ref ru_11, .int 8])), (wk_10, .inl (cyI, 10, .inl (fun _ => (0 : Int32)))), (ru_11, .inr (2, [.ref to_12, .int 0])), (to_12, .inl (cyI, 60, .inl (fun _ => (0 : Int32))))] := hD
  refine W.widen (k := 8) (n := 150) (Nat.le_of_ble_eq_true rfl) (Nat.le_of_ble_eq_true rfl) ?_
  refine va_putF (D := (dC, dI)) (ci := 5) (v := .ref q_7) (ty := (.object "RingMeets$Scene")) (C := RX7) (T := TX7) (N := 7) hx hb hts hnX7_init_X7 tyX7 tyX7_ok nmX7 hown hK hP hD hS 0 rfl rfl 1 (by decide) (hts (.fieldLink RX7 16 "RingMeets" "firstImage" "LRingMeets$Scene;") (by decide +kernel)) (fun _ h9 => h9) rfl hin rfl (by decide +kernel) rfl rfl (Nat.le_of_ble_eq_true rfl) dX7_init_23 (fun H locs hP hD hS => ?_)
  have hP : va_P (dC, dI) vwCl [(h0, .inr (5, [.ref q_1, .ref q_7, .null, .null, .null, .int 0, .null])), (q_1, .inr (3, [.ref wk_4, .ref ru_5, .int 8])), (wk_4, .inl (cyI, 10, .inl (fun _ => (0 : Int32)))), (ru_5, .inr (2, [.ref to_6, .int 0])), (to_6, .inl (cyI, 60, .inl (fun _ => (0 : Int32)))), (q_7, .inr (3, [.ref wk_10, .ref ru_11, .int 8])), (wk_10, .inl (cyI, 10, .inl (fun _ => (0 : Int32)))), (ru_11, .inr (2, [.ref to_12, .int 0])), (to_12, .inl (cyI, 60, .inl (fun _ => (0 : Int32))))] _ := hP
  have hD : va_D A [(h0, .inr (5, [.ref q_1, .ref q_7, .null, .null, .null, .int 0, .null])), (q_1, .inr (3, [.ref wk_4, .ref ru_5, .int 8])), (wk_4, .inl (cyI, 10, .inl (fun _ => (0 : Int32)))), (ru_5, .inr (2, [.ref to_6, .int 0])), (to_6, .inl (cyI, 60, .inl (fun _ => (0 : Int32)))), (q_7, .inr (3, [.ref wk_10, .ref ru_11, .int 8])), (wk_10, .inl (cyI, 10, .inl (fun _ => (0 : Int32)))), (ru_11, .inr (2, [.ref to_12, .int 0])), (to_12, .inl (cyI, 60, .inl (fun _ => (0 : Int32))))] := hD
  refine lv_aload_n hx hb dX7_init_26 rfl (lv_at hl 0 rfl) ?_
  refine va_new (ci := 3) (fs := [.null, .null, .int 0]) (C := RX4) (T := TX4) (N := 3) hx hb hts hnX7_init_X4 tyX4 tyX4_ok hown (hts (.classLink RX7 7 RX4) (by decide +kernel)) (hts (.instantiable RX4 3) (by decide +kernel)) (hts (.initialized RX4) (by decide +kernel)) hK hP hD hS hA rfl (fun j hj => by rcases (show j = 0 ∨ j = 1 ∨ j = 2 by omega) with rfl | rfl | rfl <;> rfl) (Nat.le_of_ble_eq_true rfl) (Nat.le_of_ble_eq_true rfl) dX7_init_27 (fun q_13 H hP hD hS => ?_)
  refine W.widen (k := 9) (n := 153) (Nat.le_of_ble_eq_true rfl) (Nat.le_of_ble_eq_true rfl) ?_
  have hP : va_P (dC, dI) vwCl [(h0, .inr (5, [.ref q_1, .ref q_7, .null, .null, .null, .int 0, .null])), (q_1, .inr (3, [.ref wk_4, .ref ru_5, .int 8])), (wk_4, .inl (cyI, 10, .inl (fun _ => (0 : Int32)))), (ru_5, .inr (2, [.ref to_6, .int 0])), (to_6, .inl (cyI, 60, .inl (fun _ => (0 : Int32)))), (q_7, .inr (3, [.ref wk_10, .ref ru_11, .int 8])), (wk_10, .inl (cyI, 10, .inl (fun _ => (0 : Int32)))), (ru_11, .inr (2, [.ref to_12, .int 0])), (to_12, .inl (cyI, 60, .inl (fun _ => (0 : Int32)))), (q_13, .inr (3, [.null, .null, .int 0]))] _ := hP
  have hD : va_D A [(h0, .inr (5, [.ref q_1, .ref q_7, .null, .null, .null, .int 0, .null])), (q_1, .inr (3, [.ref wk_4, .ref ru_5, .int 8])), (wk_4, .inl (cyI, 10, .inl (fun _ => (0 : Int32)))), (ru_5, .inr (2, [.ref to_6, .int 0])), (to_6, .inl (cyI, 60, .inl (fun _ => (0 : Int32)))), (q_7, .inr (3, [.ref wk_10, .ref ru_11, .int 8])), (wk_10, .inl (cyI, 10, .inl (fun _ => (0 : Int32)))), (ru_11, .inr (2, [.ref to_12, .int 0])), (to_12, .inl (cyI, 60, .inl (fun _ => (0 : Int32)))), (q_13, .inr (3, [.null, .null, .int 0]))] := hD
  refine lv_dup hx hb dX7_init_30 rfl ?_
  have f_14 := va_free (wc := [(q_13, .inr (3, [.null, .null, .int 0]))]) hD hS hA [9] rfl
  refine va_callv (va_runIN (As := []) (rest := [.ref q_13, .ref h0]) ⟨hx, hb, hml, hown, hts⟩ (kX4_init l dC dI cyI cyZ q_13 _) ⟨va_cnB 0 hts gX7_init_X4_init_n9 rfl rfl rfl (hN.at 0 rfl) (hts (.initialized RX4) (by decide +kernel)) (by decide +kernel) ⟨Nat.le_of_ble_eq_true rfl, Nat.le_of_ble_eq_true rfl⟩, rfl, (hts (.instanceMethod yX4_init) (by decide +kernel))⟩ (bs_WS hB (hP.sub (ws' := [(q_13, .inr (3, [.null, .null, .int 0]))]) [9] rfl) (hD.sub (ws' := [(q_13, .inr (3, [.null, .null, .int 0]))]) [9] (by decide) rfl)) rfl rfl hl.1 rfl (lv_room (Nat.le_of_ble_eq_true rfl)) dX7_init_31 ⟨Nat.le_of_ble_eq_true rfl, Nat.le_of_ble_eq_true rfl⟩) hS (fun q _ h => f_14 q h) f_14 (fun uh_15 t H1 locs ht hvm h_15 hB1 hz1 hk1 hS => ?_)
  obtain ⟨wk_16, ru_17, to_18⟩ := uh_15
  obtain ⟨hP1, hD1⟩ := hB1
  rw [ht] at hP1
  obtain ⟨hP, hD⟩ := va_join (wr := [(h0, .inr (5, [.ref q_1, .ref q_7, .null, .null, .null, .int 0, .null])), (q_1, .inr (3, [.ref wk_4, .ref ru_5, .int 8])), (wk_4, .inl (cyI, 10, .inl (fun _ => (0 : Int32)))), (ru_5, .inr (2, [.ref to_6, .int 0])), (to_6, .inl (cyI, 60, .inl (fun _ => (0 : Int32)))), (q_7, .inr (3, [.ref wk_10, .ref ru_11, .int 8])), (wk_10, .inl (cyI, 10, .inl (fun _ => (0 : Int32)))), (ru_11, .inr (2, [.ref to_12, .int 0])), (to_12, .inl (cyI, 60, .inl (fun _ => (0 : Int32))))]) (w1 := [(q_13, .inr (3, [.ref wk_16, .ref ru_17, .int 8])), (wk_16, .inl (cyI, 10, .inl (fun _ => (0 : Int32)))), (ru_17, .inr (2, [.ref to_18, .int 0])), (to_18, .inl (cyI, 60, .inl (fun _ => (0 : Int32))))]) hP hD [9] [0, 1, 2, 3, 4, 5, 6, 7, 8] rfl rfl (by decide) (by decide) hk1 f_14 hP1 hD1
  generalize H1 = H at hP hS ⊢
  have hP : va_P (dC, dI) vwCl [(h0, .inr (5, [.ref q_1, .ref q_7, .null, .null, .null, .int 0, .null])), (q_1, .inr (3, [.ref wk_4, .ref ru_5, .int 8])), (wk_4, .inl (cyI, 10, .inl (fun _ => (0 : Int32)))), (ru_5, .inr (2, [.ref to_6, .int 0])), (to_6, .inl (cyI, 60, .inl (fun _ => (0 : Int32)))), (q_7, .inr (3, [.ref wk_10, .ref ru_11, .int 8])), (wk_10, .inl (cyI, 10, .inl (fun _ => (0 : Int32)))), (ru_11, .inr (2, [.ref to_12, .int 0])), (to_12, .inl (cyI, 60, .inl (fun _ => (0 : Int32)))), (q_13, .inr (3, [.ref wk_16, .ref ru_17, .int 8])), (wk_16, .inl (cyI, 10, .inl (fun _ => (0 : Int32)))), (ru_17, .inr (2, [.ref to_18, .int 0])), (to_18, .inl (cyI, 60, .inl (fun _ => (0 : Int32))))] _ := hP
  have hD : va_D A [(h0, .inr (5, [.ref q_1, .ref q_7, .null, .null, .null, .int 0, .null])), (q_1, .inr (3, [.ref wk_4, .ref ru_5, .int 8])), (wk_4, .inl (cyI, 10, .inl (fun _ => (0 : Int32)))), (ru_5, .inr (2, [.ref to_6, .int 0])), (to_6, .inl (cyI, 60, .inl (fun _ => (0 : Int32)))), (q_7, .inr (3, [.ref wk_10, .ref ru_11, .int 8])), (wk_10, .inl (cyI, 10, .inl (fun _ => (0 : Int32)))), (ru_11, .inr (2, [.ref to_12, .int 0])), (to_12, .inl (cyI, 60, .inl (fun _ => (0 : Int32)))), (q_13, .inr (3, [.ref wk_16, .ref ru_17, .int 8])), (wk_16, .inl (cyI, 10, .inl (fun _ => (0 : Int32)))), (ru_17, .inr (2, [.ref to_18, .int 0])), (to_18, .inl (cyI, 60, .inl (fun _ => (0 : Int32))))] := hD
  refine W.widen (k := 12) (n := 225) (Nat.le_of_ble_eq_true rfl) (Nat.le_of_ble_eq_true rfl) ?_
  refine va_putF (D := (dC, dI)) (ci := 5) (v := .ref q_13) (ty := (.object "RingMeets$Scene")) (C := RX7) (T := TX7) (N := 7) hx hb hts hnX7_init_X7 tyX7 tyX7_ok nmX7 hown hK hP hD hS 0 rfl rfl 2 (by decide) (hts (.fieldLink RX7 19 "RingMeets" "secondImage" "LRingMeets$Scene;") (by decide +kernel)) (fun _ h9 => h9) rfl hin rfl (by decide +kernel) rfl rfl (Nat.le_of_ble_eq_true rfl) dX7_init_34 (fun H locs hP hD hS => ?_)
  have hP : va_P (dC, dI) vwCl [(h0, .inr (5, [.ref q_1, .ref q_7, .ref q_13, .null, .null, .int 0, .null])), (q_1, .inr (3, [.ref wk_4, .ref ru_5, .int 8])), (wk_4, .inl (cyI, 10, .inl (fun _ => (0 : Int32)))), (ru_5, .inr (2, [.ref to_6, .int 0])), (to_6, .inl (cyI, 60, .inl (fun _ => (0 : Int32)))), (q_7, .inr (3, [.ref wk_10, .ref ru_11, .int 8])), (wk_10, .inl (cyI, 10, .inl (fun _ => (0 : Int32)))), (ru_11, .inr (2, [.ref to_12, .int 0])), (to_12, .inl (cyI, 60, .inl (fun _ => (0 : Int32)))), (q_13, .inr (3, [.ref wk_16, .ref ru_17, .int 8])), (wk_16, .inl (cyI, 10, .inl (fun _ => (0 : Int32)))), (ru_17, .inr (2, [.ref to_18, .int 0])), (to_18, .inl (cyI, 60, .inl (fun _ => (0 : Int32))))] _ := hP
  have hD : va_D A [(h0, .inr (5, [.ref q_1, .ref q_7, .ref q_13, .null, .null, .int 0, .null])), (q_1, .inr (3, [.ref wk_4, .ref ru_5, .int 8])), (wk_4, .inl (cyI, 10, .inl (fun _ => (0 : Int32)))), (ru_5, .inr (2, [.ref to_6, .int 0])), (to_6, .inl (cyI, 60, .inl (fun _ => (0 : Int32)))), (q_7, .inr (3, [.ref wk_10, .ref ru_11, .int 8])), (wk_10, .inl (cyI, 10, .inl (fun _ => (0 : Int32)))), (ru_11, .inr (2, [.ref to_12, .int 0])), (to_12, .inl (cyI, 60, .inl (fun _ => (0 : Int32)))), (q_13, .inr (3, [.ref wk_16, .ref ru_17, .int 8])), (wk_16, .inl (cyI, 10, .inl (fun _ => (0 : Int32)))), (ru_17, .inr (2, [.ref to_18, .int 0])), (to_18, .inl (cyI, 60, .inl (fun _ => (0 : Int32))))] := hD
  refine lv_aload_n hx hb dX7_init_37 rfl (lv_at hl 0 rfl) ?_
  refine va_new (ci := 0) (fs := [.int 0, .int 0, .int 0, .int 0, .int 0]) (C := RX1) (T := TX1) (N := 5) hx hb hts hnX7_init_X1 tyX1 tyX1_ok hown (hts (.classLink RX7 22 RX1) (by decide +kernel)) (hts (.instantiable RX1 5) (by decide +kernel)) (hts (.initialized RX1) (by decide +kernel)) hK hP hD hS hA rfl (fun j hj => by rcases (show j = 0 ∨ j = 1 ∨ j = 2 ∨ j = 3 ∨ j = 4 by omega) with rfl | rfl | rfl | rfl | rfl <;> rfl) (Nat.le_of_ble_eq_true rfl) (Nat.le_of_ble_eq_true rfl) dX7_init_38 (fun q_19 H hP hD hS => ?_)
  refine W.widen (k := 13) (n := 230) (Nat.le_of_ble_eq_true rfl) (Nat.le_of_ble_eq_true rfl) ?_
  have hP : va_P (dC, dI) vwCl [(h0, .inr (5, [.ref q_1, .ref q_7, .ref q_13, .null, .null, .int 0, .null])), (q_1, .inr (3, [.ref wk_4, .ref ru_5, .int 8])), (wk_4, .inl (cyI, 10, .inl (fun _ => (0 : Int32)))), (ru_5, .inr (2, [.ref to_6, .int 0])), (to_6, .inl (cyI, 60, .inl (fun _ => (0 : Int32)))), (q_7, .inr (3, [.ref wk_10, .ref ru_11, .int 8])), (wk_10, .inl (cyI, 10, .inl (fun _ => (0 : Int32)))), (ru_11, .inr (2, [.ref to_12, .int 0])), (to_12, .inl (cyI, 60, .inl (fun _ => (0 : Int32)))), (q_13, .inr (3, [.ref wk_16, .ref ru_17, .int 8])), (wk_16, .inl (cyI, 10, .inl (fun _ => (0 : Int32)))), (ru_17, .inr (2, [.ref to_18, .int 0])), (to_18, .inl (cyI, 60, .inl (fun _ => (0 : Int32)))), (q_19, .inr (0, [.int 0, .int 0, .int 0, .int 0, .int 0]))] _ := hP
  have hD : va_D A [(h0, .inr (5, [.ref q_1, .ref q_7, .ref q_13, .null, .null, .int 0, .null])), (q_1, .inr (3, [.ref wk_4, .ref ru_5, .int 8])), (wk_4, .inl (cyI, 10, .inl (fun _ => (0 : Int32)))), (ru_5, .inr (2, [.ref to_6, .int 0])), (to_6, .inl (cyI, 60, .inl (fun _ => (0 : Int32)))), (q_7, .inr (3, [.ref wk_10, .ref ru_11, .int 8])), (wk_10, .inl (cyI, 10, .inl (fun _ => (0 : Int32)))), (ru_11, .inr (2, [.ref to_12, .int 0])), (to_12, .inl (cyI, 60, .inl (fun _ => (0 : Int32)))), (q_13, .inr (3, [.ref wk_16, .ref ru_17, .int 8])), (wk_16, .inl (cyI, 10, .inl (fun _ => (0 : Int32)))), (ru_17, .inr (2, [.ref to_18, .int 0])), (to_18, .inl (cyI, 60, .inl (fun _ => (0 : Int32)))), (q_19, .inr (0, [.int 0, .int 0, .int 0, .int 0, .int 0]))] := hD
  refine lv_dup hx hb dX7_init_41 rfl ?_
  refine va_csv (va_Run.run (va_runIN (As := []) (rest := [.ref q_19, .ref h0]) ⟨hx, hb, hml, hown, hts⟩ (kX1_init l dC dI cyI cyZ q_19) ⟨va_cnB 0 hts gX7_init_X1_init_n24 rfl rfl rfl (hN.at 5 rfl) (hts (.initialized RX1) (by decide +kernel)) (by decide +kernel) ⟨Nat.le_of_ble_eq_true rfl, Nat.le_of_ble_eq_true rfl⟩, rfl, (hts (.instanceMethod yX1_init) (by decide +kernel))⟩ (bs_RS hB (hP.sub (ws' := []) [] rfl)) rfl rfl hl.1 rfl (lv_room (Nat.le_of_ble_eq_true rfl)) dX7_init_42 ⟨Nat.le_of_ble_eq_true rfl, Nat.le_of_ble_eq_true rfl⟩)) (fun h_20 => ?_)
  refine va_putF (D := (dC, dI)) (ci := 5) (v := .ref q_19) (ty := (.object "RingMeets$Look")) (C := RX7) (T := TX7) (N := 7) hx hb hts hnX7_init_X7 tyX7 tyX7_ok nmX7 hown hK hP hD hS 0 rfl rfl 3 (by decide) (hts (.fieldLink RX7 25 "RingMeets" "look" "LRingMeets$Look;") (by decide +kernel)) (fun _ h9 => h9) rfl hin rfl (by decide +kernel) rfl rfl (Nat.le_of_ble_eq_true rfl) dX7_init_45 (fun H locs hP hD hS => ?_)
  have hP : va_P (dC, dI) vwCl [(h0, .inr (5, [.ref q_1, .ref q_7, .ref q_13, .ref q_19, .null, .int 0, .null])), (q_1, .inr (3, [.ref wk_4, .ref ru_5, .int 8])), (wk_4, .inl (cyI, 10, .inl (fun _ => (0 : Int32)))), (ru_5, .inr (2, [.ref to_6, .int 0])), (to_6, .inl (cyI, 60, .inl (fun _ => (0 : Int32)))), (q_7, .inr (3, [.ref wk_10, .ref ru_11, .int 8])), (wk_10, .inl (cyI, 10, .inl (fun _ => (0 : Int32)))), (ru_11, .inr (2, [.ref to_12, .int 0])), (to_12, .inl (cyI, 60, .inl (fun _ => (0 : Int32)))), (q_13, .inr (3, [.ref wk_16, .ref ru_17, .int 8])), (wk_16, .inl (cyI, 10, .inl (fun _ => (0 : Int32)))), (ru_17, .inr (2, [.ref to_18, .int 0])), (to_18, .inl (cyI, 60, .inl (fun _ => (0 : Int32)))), (q_19, .inr (0, [.int 0, .int 0, .int 0, .int 0, .int 0]))] _ := hP
  have hD : va_D A [(h0, .inr (5, [.ref q_1, .ref q_7, .ref q_13, .ref q_19, .null, .int 0, .null])), (q_1, .inr (3, [.ref wk_4, .ref ru_5, .int 8])), (wk_4, .inl (cyI, 10, .inl (fun _ => (0 : Int32)))), (ru_5, .inr (2, [.ref to_6, .int 0])), (to_6, .inl (cyI, 60, .inl (fun _ => (0 : Int32)))), (q_7, .inr (3, [.ref wk_10, .ref ru_11, .int 8])), (wk_10, .inl (cyI, 10, .inl (fun _ => (0 : Int32)))), (ru_11, .inr (2, [.ref to_12, .int 0])), (to_12, .inl (cyI, 60, .inl (fun _ => (0 : Int32)))), (q_13, .inr (3, [.ref wk_16, .ref ru_17, .int 8])), (wk_16, .inl (cyI, 10, .inl (fun _ => (0 : Int32)))), (ru_17, .inr (2, [.ref to_18, .int 0])), (to_18, .inl (cyI, 60, .inl (fun _ => (0 : Int32)))), (q_19, .inr (0, [.int 0, .int 0, .int 0, .int 0, .int 0]))] := hD
  refine lv_aload_n hx hb dX7_init_48 rfl (lv_at hl 0 rfl) ?_
  refine lv_bipush (v := 10) hx hb dX7_init_49 (by decide) ?_
  refine bs_newI (n := 10) hx hb (hts (.arrayClass .int) (by decide +kernel)) hB hP hD hS hA 10 (by decide) (by decide) (Nat.le_of_ble_eq_true rfl) (Nat.le_of_ble_eq_true rfl) (Nat.le_of_ble_eq_true rfl) dX7_init_51 (fun q_21 H hP hD hS => ?_)
  refine W.widen (k := 14) (n := 240) (Nat.le_of_ble_eq_true rfl) (Nat.le_of_ble_eq_true rfl) ?_
  have hP : va_P (dC, dI) vwCl [(h0, .inr (5, [.ref q_1, .ref q_7, .ref q_13, .ref q_19, .null, .int 0, .null])), (q_1, .inr (3, [.ref wk_4, .ref ru_5, .int 8])), (wk_4, .inl (cyI, 10, .inl (fun _ => (0 : Int32)))), (ru_5, .inr (2, [.ref to_6, .int 0])), (to_6, .inl (cyI, 60, .inl (fun _ => (0 : Int32)))), (q_7, .inr (3, [.ref wk_10, .ref ru_11, .int 8])), (wk_10, .inl (cyI, 10, .inl (fun _ => (0 : Int32)))), (ru_11, .inr (2, [.ref to_12, .int 0])), (to_12, .inl (cyI, 60, .inl (fun _ => (0 : Int32)))), (q_13, .inr (3, [.ref wk_16, .ref ru_17, .int 8])), (wk_16, .inl (cyI, 10, .inl (fun _ => (0 : Int32)))), (ru_17, .inr (2, [.ref to_18, .int 0])), (to_18, .inl (cyI, 60, .inl (fun _ => (0 : Int32)))), (q_19, .inr (0, [.int 0, .int 0, .int 0, .int 0, .int 0])), (q_21, .inl (cyI, 10, .inl (fun _ => (0 : Int32))))] _ := hP
  have hD : va_D A [(h0, .inr (5, [.ref q_1, .ref q_7, .ref q_13, .ref q_19, .null, .int 0, .null])), (q_1, .inr (3, [.ref wk_4, .ref ru_5, .int 8])), (wk_4, .inl (cyI, 10, .inl (fun _ => (0 : Int32)))), (ru_5, .inr (2, [.ref to_6, .int 0])), (to_6, .inl (cyI, 60, .inl (fun _ => (0 : Int32)))), (q_7, .inr (3, [.ref wk_10, .ref ru_11, .int 8])), (wk_10, .inl (cyI, 10, .inl (fun _ => (0 : Int32)))), (ru_11, .inr (2, [.ref to_12, .int 0])), (to_12, .inl (cyI, 60, .inl (fun _ => (0 : Int32)))), (q_13, .inr (3, [.ref wk_16, .ref ru_17, .int 8])), (wk_16, .inl (cyI, 10, .inl (fun _ => (0 : Int32)))), (ru_17, .inr (2, [.ref to_18, .int 0])), (to_18, .inl (cyI, 60, .inl (fun _ => (0 : Int32)))), (q_19, .inr (0, [.int 0, .int 0, .int 0, .int 0, .int 0])), (q_21, .inl (cyI, 10, .inl (fun _ => (0 : Int32))))] := hD
  refine va_putF (D := (dC, dI)) (ci := 5) (v := .ref q_21) (ty := (.array .int)) (C := RX7) (T := TX7) (N := 7) hx hb hts hnX7_init_X7 tyX7 tyX7_ok nmX7 hown hK hP hD hS 0 rfl rfl 4 (by decide) (hts (.fieldLink RX7 29 "RingMeets" "behind" "[I") (by decide +kernel)) (fun _ h9 => h9) rfl hin rfl (by decide +kernel) rfl rfl (Nat.le_of_ble_eq_true rfl) dX7_init_53 (fun H locs hP hD hS => ?_)
  have hP : va_P (dC, dI) vwCl [(h0, .inr (5, [.ref q_1, .ref q_7, .ref q_13, .ref q_19, .ref q_21, .int 0, .null])), (q_1, .inr (3, [.ref wk_4, .ref ru_5, .int 8])), (wk_4, .inl (cyI, 10, .inl (fun _ => (0 : Int32)))), (ru_5, .inr (2, [.ref to_6, .int 0])), (to_6, .inl (cyI, 60, .inl (fun _ => (0 : Int32)))), (q_7, .inr (3, [.ref wk_10, .ref ru_11, .int 8])), (wk_10, .inl (cyI, 10, .inl (fun _ => (0 : Int32)))), (ru_11, .inr (2, [.ref to_12, .int 0])), (to_12, .inl (cyI, 60, .inl (fun _ => (0 : Int32)))), (q_13, .inr (3, [.ref wk_16, .ref ru_17, .int 8])), (wk_16, .inl (cyI, 10, .inl (fun _ => (0 : Int32)))), (ru_17, .inr (2, [.ref to_18, .int 0])), (to_18, .inl (cyI, 60, .inl (fun _ => (0 : Int32)))), (q_19, .inr (0, [.int 0, .int 0, .int 0, .int 0, .int 0])), (q_21, .inl (cyI, 10, .inl (fun _ => (0 : Int32))))] _ := hP
  have hD : va_D A [(h0, .inr (5, [.ref q_1, .ref q_7, .ref q_13, .ref q_19, .ref q_21, .int 0, .null])), (q_1, .inr (3, [.ref wk_4, .ref ru_5, .int 8])), (wk_4, .inl (cyI, 10, .inl (fun _ => (0 : Int32)))), (ru_5, .inr (2, [.ref to_6, .int 0])), (to_6, .inl (cyI, 60, .inl (fun _ => (0 : Int32)))), (q_7, .inr (3, [.ref wk_10, .ref ru_11, .int 8])), (wk_10, .inl (cyI, 10, .inl (fun _ => (0 : Int32)))), (ru_11, .inr (2, [.ref to_12, .int 0])), (to_12, .inl (cyI, 60, .inl (fun _ => (0 : Int32)))), (q_13, .inr (3, [.ref wk_16, .ref ru_17, .int 8])), (wk_16, .inl (cyI, 10, .inl (fun _ => (0 : Int32)))), (ru_17, .inr (2, [.ref to_18, .int 0])), (to_18, .inl (cyI, 60, .inl (fun _ => (0 : Int32)))), (q_19, .inr (0, [.int 0, .int 0, .int 0, .int 0, .int 0])), (q_21, .inl (cyI, 10, .inl (fun _ => (0 : Int32))))] := hD
  exact W.vret hx hb hr (fun t ht hW => ⟨⟨(q_1, wk_4, ru_5, to_6, q_7, wk_10, ru_11, to_12, q_13, wk_16, ru_17, to_18, q_19, q_21), rfl, trivial, ⟨by rw [ht]; exact hP.sub (ws' := [(h0, .inr (5, [.ref q_1, .ref q_7, .ref q_13, .ref q_19, .ref q_21, .int 0, .null])), (q_1, .inr (3, [.ref wk_4, .ref ru_5, .int 8])), (wk_4, .inl (cyI, 10, .inl (fun _ => (0 : Int32)))), (ru_5, .inr (2, [.ref to_6, .int 0])), (to_6, .inl (cyI, 60, .inl (fun _ => (0 : Int32)))), (q_7, .inr (3, [.ref wk_10, .ref ru_11, .int 8])), (wk_10, .inl (cyI, 10, .inl (fun _ => (0 : Int32)))), (ru_11, .inr (2, [.ref to_12, .int 0])), (to_12, .inl (cyI, 60, .inl (fun _ => (0 : Int32)))), (q_13, .inr (3, [.ref wk_16, .ref ru_17, .int 8])), (wk_16, .inl (cyI, 10, .inl (fun _ => (0 : Int32)))), (ru_17, .inr (2, [.ref to_18, .int 0])), (to_18, .inl (cyI, 60, .inl (fun _ => (0 : Int32)))), (q_19, .inr (0, [.int 0, .int 0, .int 0, .int 0, .int 0])), (q_21, .inl (cyI, 10, .inl (fun _ => (0 : Int32))))]) [0, 1, 2, 3, 4, 5, 6, 7, 8, 9, 10, 11, 12, 13, 14] rfl, hD.sub (ws' := [(h0, .inr (5, [.ref q_1, .ref q_7, .ref q_13, .ref q_19, .ref q_21, .int 0, .null])), (q_1, .inr (3, [.ref wk_4, .ref ru_5, .int 8])), (wk_4, .inl (cyI, 10, .inl (fun _ => (0 : Int32)))), (ru_5, .inr (2, [.ref to_6, .int 0])), (to_6, .inl (cyI, 60, .inl (fun _ => (0 : Int32)))), (q_7, .inr (3, [.ref wk_10, .ref ru_11, .int 8])), (wk_10, .inl (cyI, 10, .inl (fun _ => (0 : Int32)))), (ru_11, .inr (2, [.ref to_12, .int 0])), (to_12, .inl (cyI, 60, .inl (fun _ => (0 : Int32)))), (q_13, .inr (3, [.ref wk_16, .ref ru_17, .int 8])), (wk_16, .inl (cyI, 10, .inl (fun _ => (0 : Int32)))), (ru_17, .inr (2, [.ref to_18, .int 0])), (to_18, .inl (cyI, 60, .inl (fun _ => (0 : Int32)))), (q_19, .inr (0, [.int 0, .int 0, .int 0, .int 0, .int 0])), (q_21, .inl (cyI, 10, .inl (fun _ => (0 : Int32))))]) [0, 1, 2, 3, 4, 5, 6, 7, 8, 9, 10, 11, 12, 13, 14] (by decide) rfl⟩⟩, hS.F ht⟩) hS.2.2 dX7_init_56

theorem hnX7_gap_X7 : ∀ w ∈ wsX70, w ∈ wsX7_gap := fun _ h => List.mem_cons_of_mem _ (List.mem_append_left _ (List.mem_append_right _ h))
set_option maxHeartbeats 4000000 in
set_option maxRecDepth 100000 in
theorem kX7_gap (l : Launch) (dC : Nat → ClassId) (dI : Nat → Nat → Nat) (cyI cyZ : ClassId) (h0 a1 b1 c1 lk bh a2 a3 a4 : Nat) (f : Nat → Int32) (hf : ∀ j, f j = 0) (p1 p2 p3 : Int32) : Met l yX7_gap wsX7_gap ({ frames := 4, cells := 0, slots := 0, locals := 85 }) (bs_R dC dI cyI cyZ [.ref h0, .int p1, .int p2, .int p3] [(h0, .inr (5, [.ref a1, .ref b1, .ref c1, .ref lk, .ref bh, .int 0, .null])), (a1, .inr (3, [.ref a2, .ref a3, .int 8])), (a2, .inl (cyI, 10, .inl f)), (a3, .inr (2, [.ref a4, .int 0]))]) (vp_Si (fun r : Int32 => r = -1)) 0 0 (fun _ => False) := by
  refine Met.ofW (cc := cX7_gap) (maxL := 7) (ret := (some .int)) (by decide) rfl ?_
  intro p e s m args below meth c s₁ B hml hv
  obtain ⟨rfl, hB, hP⟩ := hv
  have hK := hB.1
  have hN := hB.2
  have hx := B.exec
  have hb := B.bytes
  have hr := B.returns
  have hts := atoms_spec (ws := wsX7_gap) B.pre
  have hown : s.vm.findClass RX7 = some m.cls := findClass_of_methodNamed B.named
  have hlocks := B.notSynchronized
  have hP : va_P (dC, dI) vwCl [(h0, .inr (5, [.ref a1, .ref b1, .ref c1, .ref lk, .ref bh, .int 0, .null])), (a1, .inr (3, [.ref a2, .ref a3, .int 8])), (a2, .inl (cyI, 10, .inl f)), (a3, .inr (2, [.ref a4, .int 0]))] s.heap := hP
  have hl := lv_entry ([.ref h0, .int p1, .int p2, .int p3]) (n := 7) (Nat.le_of_ble_eq_true rfl)
  rw [lg_entry_eq]
  generalize (lg_sl ([.ref h0, .int p1, .int p2, .int p3]) ++ List.replicate (7 - (lg_sl ([.ref h0, .int p1, .int p2, .int p3])).length) Slot.unset).toArray = ls at hl ⊢
  have hl : lv_has ls 7 [(0, .ref h0), (1, .int p1), (2, .int p2), (3, .int p3)] := hl
  refine lv_aload_n hx hb dX7_gap_0 rfl (lv_at hl 0 rfl) ?_
  refine va_get (D := (dC, dI)) (ci := 5) (v := .ref a1) (C := RX7) (T := TX7) (N := 7) hx hb hts hnX7_gap_X7 hown hK hP 0 rfl rfl 0 (by decide) (hts (.fieldLink RX7 10 "RingMeets" "now" "LRingMeets$Scene;") (by decide +kernel)) (fun _ h9 => h9) rfl dX7_gap_1 ?_
  refine vp_callSi (va_Run.run (va_runV (As := []) (rest := []) ⟨hx, hb, hml, hown, hts⟩ (kX4_stands l dC dI cyI cyZ a1 a2 a3 f hf) (cwV 0 hts gX7_gap_X4_stands rfl rfl rfl (by decide +kernel) ⟨Nat.le_of_ble_eq_true rfl, Nat.le_of_ble_eq_true rfl⟩) (bs_RV hB (hP.sub (ws' := [(a1, .inr (3, [.ref a2, .ref a3, .int 8])), (a2, .inl (cyI, 10, .inl f))]) [1, 2] rfl) 0 rfl rfl) rfl rfl hl.1 rfl (lv_room (Nat.le_of_ble_eq_true rfl)) dX7_gap_4 ⟨Nat.le_of_ble_eq_true rfl, Nat.le_of_ble_eq_true rfl⟩)) (fun r_1 hr_1 => ?_)
  obtain rfl : r_1 = 0 := hr_1
  refine lv_istore (lv' := [(4, .int 0), (0, .ref h0), (1, .int p1), (2, .int p2), (3, .int p3)]) hx hb dX7_gap_7 hl (by decide) rfl (fun ls hl => ?_)
  refine lv_iload hx hb dX7_gap_9 (lv_at hl 0 rfl) ?_
  refine lv_iload_n hx hb dX7_gap_11 rfl (lv_at hl 2 rfl) ?_
  refine vp_callSi (va_Run.run (va_runS (As := [.int 0, .int p1]) (rest := []) ⟨hx, hb, hml, hown, hts⟩ (kX5_has l dC dI cyI cyZ 0 p1) (va_cwS 2 hts gX7_gap_X5_has rfl rfl rfl (by decide +kernel) ⟨Nat.le_of_ble_eq_true rfl, Nat.le_of_ble_eq_true rfl⟩) (bs_RS hB (hP.sub (ws' := []) [] rfl)) rfl rfl hl.1 rfl (lv_room (Nat.le_of_ble_eq_true rfl)) dX7_gap_12 ⟨Nat.le_of_ble_eq_true rfl, Nat.le_of_ble_eq_true rfl⟩)) (fun r_2 hr_2 => ?_)
  obtain rfl : r_2 = 0 := hr_2.2 rfl
  refine lv_if_ne (tgt := 20) hx hb dX7_gap_15 (by decide) (fun c_3 => ?_) (fun c_3 => ?_)
  · skip
    exact absurd c_3 (by decide)
  · skip
    refine lv_iconst (v := (-1)) hx hb dX7_gap_18 (by decide) ?_
    exact W.iret (v := (-1)) hx hb hr (fun t ht hW => ⟨(-1), rfl, rfl, ht⟩) (fun q h => by cases h) dX7_gap_19

theorem hnX7_whom_X4 : ∀ w ∈ wsX40, w ∈ wsX7_whom := fun _ h => List.mem_cons_of_mem _ (List.mem_append_left _ (List.mem_append_right _ h))
theorem hnX7_whom_X7 : ∀ w ∈ wsX70, w ∈ wsX7_whom := fun _ h => List.mem_cons_of_mem _ (List.mem_append_left _ (List.mem_append_left _ (List.mem_append_right _ h)))
set_option maxHeartbeats 4000000 in
set_option maxRecDepth 100000 in
theorem kX7_whom (l : Launch) (dC : Nat → ClassId) (dI : Nat → Nat → Nat) (cyI cyZ : ClassId) (h0 a1 b1 c1 lk bh a2 a3 a4 : Nat) (f : Nat → Int32) (hf : ∀ j, f j = 0) (p1 p2 : Int32) : Met l yX7_whom wsX7_whom ({ frames := 1, cells := 0, slots := 0, locals := 21 }) (bs_R dC dI cyI cyZ [.ref h0, .int p1, .int p2] [(h0, .inr (5, [.ref a1, .ref b1, .ref c1, .ref lk, .ref bh, .int 0, .null])), (a1, .inr (3, [.ref a2, .ref a3, .int 8])), (a2, .inl (cyI, 10, .inl f)), (a3, .inr (2, [.ref a4, .int 0]))]) (vp_Si (fun r : Int32 => r = -1)) 0 0 (fun _ => False) := by
  refine Met.ofW (cc := cX7_whom) (maxL := 4) (ret := (some .int)) (by decide) rfl ?_
  intro p e s m args below meth c s₁ B hml hv
  obtain ⟨rfl, hB, hP⟩ := hv
  have hK := hB.1
  have hN := hB.2
  have hx := B.exec
  have hb := B.bytes
  have hr := B.returns
  have hts := atoms_spec (ws := wsX7_whom) B.pre
  have hown : s.vm.findClass RX7 = some m.cls := findClass_of_methodNamed B.named
  have hlocks := B.notSynchronized
  have hP : va_P (dC, dI) vwCl [(h0, .inr (5, [.ref a1, .ref b1, .ref c1, .ref lk, .ref bh, .int 0, .null])), (a1, .inr (3, [.ref a2, .ref a3, .int 8])), (a2, .inl (cyI, 10, .inl f)), (a3, .inr (2, [.ref a4, .int 0]))] s.heap := hP
  have hl := lv_entry ([.ref h0, .int p1, .int p2]) (n := 4) (Nat.le_of_ble_eq_true rfl)
  rw [lg_entry_eq]
  generalize (lg_sl ([.ref h0, .int p1, .int p2]) ++ List.replicate (4 - (lg_sl ([.ref h0, .int p1, .int p2])).length) Slot.unset).toArray = ls at hl ⊢
  have hl : lv_has ls 4 [(0, .ref h0), (1, .int p1), (2, .int p2)] := hl
  refine lv_aload_n hx hb dX7_whom_0 rfl (lv_at hl 0 rfl) ?_
  refine va_get (D := (dC, dI)) (ci := 5) (v := .ref a1) (C := RX7) (T := TX7) (N := 7) hx hb hts hnX7_whom_X7 hown hK hP 0 rfl rfl 0 (by decide) (hts (.fieldLink RX7 10 "RingMeets" "now" "LRingMeets$Scene;") (by decide +kernel)) (fun _ h9 => h9) rfl dX7_whom_1 ?_
  refine va_getN (D := (dC, dI)) (ci := 3) (v := .ref a3) (C := RX4) (T := TX4) (N := 3) hx hb hts hnX7_whom_X4 hown hK hP 1 rfl rfl 1 (by decide) (hN.fld 3 rfl) (fun _ h9 => h9) rfl dX7_whom_4 ?_
  refine lv_iload_n hx hb dX7_whom_7 rfl (lv_at hl 1 rfl) ?_
  refine vp_callSi (va_Run.run (va_runV (As := [.int p1]) (rest := []) ⟨hx, hb, hml, hown, hts⟩ (kX3_has l dC dI cyI cyZ a3 a4 0 p1) (cwV 1 hts gX7_whom_X3_has rfl rfl rfl (by decide +kernel) ⟨Nat.le_of_ble_eq_true rfl, Nat.le_of_ble_eq_true rfl⟩) (bs_RV hB (hP.sub (ws' := [(a3, .inr (2, [.ref a4, .int 0]))]) [3] rfl) 0 rfl rfl) rfl rfl hl.1 rfl (lv_room (Nat.le_of_ble_eq_true rfl)) dX7_whom_8 ⟨Nat.le_of_ble_eq_true rfl, Nat.le_of_ble_eq_true rfl⟩)) (fun r_1 hr_1 => ?_)
  obtain rfl : r_1 = 0 := hr_1.2 (by decide)
  refine lv_if_ne (tgt := 16) hx hb dX7_whom_11 (by decide) (fun c_2 => ?_) (fun c_2 => ?_)
  · skip
    exact absurd c_2 (by decide)
  · skip
    refine lv_iconst (v := (-1)) hx hb dX7_whom_14 (by decide) ?_
    exact W.iret (v := (-1)) hx hb hr (fun t ht hW => ⟨(-1), rfl, rfl, ht⟩) (fun q h => by cases h) dX7_whom_15

theorem hnX7_drop_X4 : ∀ w ∈ wsX40, w ∈ wsX7_drop := fun _ h => List.mem_cons_of_mem _ (List.mem_append_left _ (List.mem_append_right _ h))
theorem hnX7_drop_X7 : ∀ w ∈ wsX70, w ∈ wsX7_drop := fun _ h => List.mem_cons_of_mem _ (List.mem_append_left _ (List.mem_append_left _ (List.mem_append_right _ h)))
set_option maxHeartbeats 4000000 in
set_option maxRecDepth 100000 in
theorem kX7_drop (l : Launch) (dC : Nat → ClassId) (dI : Nat → Nat → Nat) (cyI cyZ : ClassId) (h0 a1 b1 c1 lk bh a2 a3 a4 : Nat) (f : Nat → Int32) (hf : ∀ j, f j = 0) (p1 : Int32) : Met l yX7_drop wsX7_drop ({ frames := 1, cells := 0, slots := 0, locals := 21 }) (bs_R dC dI cyI cyZ [.ref h0, .int p1] [(h0, .inr (5, [.ref a1, .ref b1, .ref c1, .ref lk, .ref bh, .int 0, .null])), (a1, .inr (3, [.ref a2, .ref a3, .int 8])), (a2, .inl (cyI, 10, .inl f)), (a3, .inr (2, [.ref a4, .int 0]))]) (vp_Si (fun r : Int32 => r = -1)) 0 0 (fun _ => False) := by
  refine Met.ofW (cc := cX7_drop) (maxL := 2) (ret := (some .int)) (by decide) rfl ?_
  intro p e s m args below meth c s₁ B hml hv
  obtain ⟨rfl, hB, hP⟩ := hv
  have hK := hB.1
  have hN := hB.2
  have hx := B.exec
  have hb := B.bytes
  have hr := B.returns
  have hts := atoms_spec (ws := wsX7_drop) B.pre
  have hown : s.vm.findClass RX7 = some m.cls := findClass_of_methodNamed B.named
  have hlocks := B.notSynchronized
  have hP : va_P (dC, dI) vwCl [(h0, .inr (5, [.ref a1, .ref b1, .ref c1, .ref lk, .ref bh, .int 0, .null])), (a1, .inr (3, [.ref a2, .ref a3, .int 8])), (a2, .inl (cyI, 10, .inl f)), (a3, .inr (2, [.ref a4, .int 0]))] s.heap := hP
  have hl := lv_entry ([.ref h0, .int p1]) (n := 2) (Nat.le_of_ble_eq_true rfl)
  rw [lg_entry_eq]
  generalize (lg_sl ([.ref h0, .int p1]) ++ List.replicate (2 - (lg_sl ([.ref h0, .int p1])).length) Slot.unset).toArray = ls at hl ⊢
  have hl : lv_has ls 2 [(0, .ref h0), (1, .int p1)] := hl
  refine lv_aload_n hx hb dX7_drop_0 rfl (lv_at hl 0 rfl) ?_
  refine va_get (D := (dC, dI)) (ci := 5) (v := .ref a1) (C := RX7) (T := TX7) (N := 7) hx hb hts hnX7_drop_X7 hown hK hP 0 rfl rfl 0 (by decide) (hts (.fieldLink RX7 10 "RingMeets" "now" "LRingMeets$Scene;") (by decide +kernel)) (fun _ h9 => h9) rfl dX7_drop_1 ?_
  refine va_getN (D := (dC, dI)) (ci := 3) (v := .ref a3) (C := RX4) (T := TX4) (N := 3) hx hb hts hnX7_drop_X4 hown hK hP 1 rfl rfl 1 (by decide) (hN.fld 3 rfl) (fun _ h9 => h9) rfl dX7_drop_4 ?_
  refine lv_iload_n hx hb dX7_drop_7 rfl (lv_at hl 1 rfl) ?_
  refine vp_callSi (va_Run.run (va_runV (As := [.int p1]) (rest := []) ⟨hx, hb, hml, hown, hts⟩ (kX3_has l dC dI cyI cyZ a3 a4 0 p1) (cwV 1 hts gX7_drop_X3_has rfl rfl rfl (by decide +kernel) ⟨Nat.le_of_ble_eq_true rfl, Nat.le_of_ble_eq_true rfl⟩) (bs_RV hB (hP.sub (ws' := [(a3, .inr (2, [.ref a4, .int 0]))]) [3] rfl) 0 rfl rfl) rfl rfl hl.1 rfl (lv_room (Nat.le_of_ble_eq_true rfl)) dX7_drop_8 ⟨Nat.le_of_ble_eq_true rfl, Nat.le_of_ble_eq_true rfl⟩)) (fun r_1 hr_1 => ?_)
  obtain rfl : r_1 = 0 := hr_1.2 (by decide)
  refine lv_if_ne (tgt := 16) hx hb dX7_drop_11 (by decide) (fun c_2 => ?_) (fun c_2 => ?_)
  · skip
    exact absurd c_2 (by decide)
  · skip
    refine lv_iconst (v := (-1)) hx hb dX7_drop_14 (by decide) ?_
    exact W.iret (v := (-1)) hx hb hr (fun t ht hW => ⟨(-1), rfl, rfl, ht⟩) (fun q h => by cases h) dX7_drop_15

theorem hnX7_of_X4 : ∀ w ∈ wsX40, w ∈ wsX7_of := fun _ h => List.mem_cons_of_mem _ (List.mem_append_left _ (List.mem_append_right _ h))
theorem hnX7_of_X7 : ∀ w ∈ wsX70, w ∈ wsX7_of := fun _ h => List.mem_cons_of_mem _ (List.mem_append_left _ (List.mem_append_left _ (List.mem_append_right _ h)))
set_option maxHeartbeats 4000000 in
set_option maxRecDepth 100000 in
theorem kX7_of (l : Launch) (dC : Nat → ClassId) (dI : Nat → Nat → Nat) (cyI cyZ : ClassId) (h0 a1 b1 c1 lk bh a2 a3 a4 : Nat) (f : Nat → Int32) (hf : ∀ j, f j = 0) (p1 p2 : Int32) : Met l yX7_of wsX7_of ({ frames := 1, cells := 0, slots := 0, locals := 21 }) (bs_R dC dI cyI cyZ [.ref h0, .int p1, .int p2] [(h0, .inr (5, [.ref a1, .ref b1, .ref c1, .ref lk, .ref bh, .int 0, .null])), (a1, .inr (3, [.ref a2, .ref a3, .int 8])), (a2, .inl (cyI, 10, .inl f)), (a3, .inr (2, [.ref a4, .int 0]))]) (vp_Si (fun r : Int32 => r = -1)) 0 0 (fun _ => False) := by
  refine Met.ofW (cc := cX7_of) (maxL := 3) (ret := (some .int)) (by decide) rfl ?_
  intro p e s m args below meth c s₁ B hml hv
  obtain ⟨rfl, hB, hP⟩ := hv
  have hK := hB.1
  have hN := hB.2
  have hx := B.exec
  have hb := B.bytes
  have hr := B.returns
  have hts := atoms_spec (ws := wsX7_of) B.pre
  have hown : s.vm.findClass RX7 = some m.cls := findClass_of_methodNamed B.named
  have hlocks := B.notSynchronized
  have hP : va_P (dC, dI) vwCl [(h0, .inr (5, [.ref a1, .ref b1, .ref c1, .ref lk, .ref bh, .int 0, .null])), (a1, .inr (3, [.ref a2, .ref a3, .int 8])), (a2, .inl (cyI, 10, .inl f)), (a3, .inr (2, [.ref a4, .int 0]))] s.heap := hP
  have hl := lv_entry ([.ref h0, .int p1, .int p2]) (n := 3) (Nat.le_of_ble_eq_true rfl)
  rw [lg_entry_eq]
  generalize (lg_sl ([.ref h0, .int p1, .int p2]) ++ List.replicate (3 - (lg_sl ([.ref h0, .int p1, .int p2])).length) Slot.unset).toArray = ls at hl ⊢
  have hl : lv_has ls 3 [(0, .ref h0), (1, .int p1), (2, .int p2)] := hl
  refine lv_aload_n hx hb dX7_of_0 rfl (lv_at hl 0 rfl) ?_
  refine va_get (D := (dC, dI)) (ci := 5) (v := .ref a1) (C := RX7) (T := TX7) (N := 7) hx hb hts hnX7_of_X7 hown hK hP 0 rfl rfl 0 (by decide) (hts (.fieldLink RX7 10 "RingMeets" "now" "LRingMeets$Scene;") (by decide +kernel)) (fun _ h9 => h9) rfl dX7_of_1 ?_
  refine va_getN (D := (dC, dI)) (ci := 3) (v := .ref a3) (C := RX4) (T := TX4) (N := 3) hx hb hts hnX7_of_X4 hown hK hP 1 rfl rfl 1 (by decide) (hN.fld 3 rfl) (fun _ h9 => h9) rfl dX7_of_4 ?_
  refine lv_iload_n hx hb dX7_of_7 rfl (lv_at hl 1 rfl) ?_
  refine vp_callSi (va_Run.run (va_runV (As := [.int p1]) (rest := []) ⟨hx, hb, hml, hown, hts⟩ (kX3_has l dC dI cyI cyZ a3 a4 0 p1) (cwV 1 hts gX7_of_X3_has rfl rfl rfl (by decide +kernel) ⟨Nat.le_of_ble_eq_true rfl, Nat.le_of_ble_eq_true rfl⟩) (bs_RV hB (hP.sub (ws' := [(a3, .inr (2, [.ref a4, .int 0]))]) [3] rfl) 0 rfl rfl) rfl rfl hl.1 rfl (lv_room (Nat.le_of_ble_eq_true rfl)) dX7_of_8 ⟨Nat.le_of_ble_eq_true rfl, Nat.le_of_ble_eq_true rfl⟩)) (fun r_1 hr_1 => ?_)
  obtain rfl : r_1 = 0 := hr_1.2 (by decide)
  refine lv_if_ne (tgt := 16) hx hb dX7_of_11 (by decide) (fun c_2 => ?_) (fun c_2 => ?_)
  · skip
    exact absurd c_2 (by decide)
  · skip
    refine lv_iconst (v := (-1)) hx hb dX7_of_14 (by decide) ?_
    exact W.iret (v := (-1)) hx hb hr (fun t ht hW => ⟨(-1), rfl, rfl, ht⟩) (fun q h => by cases h) dX7_of_15

theorem hnX7_does_X7 : ∀ w ∈ wsX70, w ∈ wsX7_does := fun _ h => List.mem_cons_of_mem _ (List.mem_append_left _ (List.mem_append_left _ (List.mem_append_left _ (List.mem_append_right _ h))))
set_option maxHeartbeats 4000000 in
set_option maxRecDepth 100000 in
theorem kX7_does (l : Launch) (dC : Nat → ClassId) (dI : Nat → Nat → Nat) (cyI cyZ : ClassId) (h0 a1 b1 c1 lk bh a2 a3 a4 : Nat) (f : Nat → Int32) (hf : ∀ j, f j = 0) (p1 p2 : Int32) : Met l yX7_does wsX7_does ({ frames := 4, cells := 0, slots := 0, locals := 85 }) (bs_R dC dI cyI cyZ [.ref h0, .int p1, .int p2] [(h0, .inr (5, [.ref a1, .ref b1, .ref c1, .ref lk, .ref bh, .int 0, .null])), (a1, .inr (3, [.ref a2, .ref a3, .int 8])), (a2, .inl (cyI, 10, .inl f)), (a3, .inr (2, [.ref a4, .int 0]))]) (vp_Si (fun r : Int32 => r = -1)) 0 0 (fun _ => False) := by
  refine Met.ofW (cc := cX7_does) (maxL := 4) (ret := (some .int)) (by decide) rfl ?_
  intro p e s m args below meth c s₁ B hml hv
  obtain ⟨rfl, hB, hP⟩ := hv
  have hK := hB.1
  have hN := hB.2
  have hx := B.exec
  have hb := B.bytes
  have hr := B.returns
  have hts := atoms_spec (ws := wsX7_does) B.pre
  have hown : s.vm.findClass RX7 = some m.cls := findClass_of_methodNamed B.named
  have hlocks := B.notSynchronized
  have hP : va_P (dC, dI) vwCl [(h0, .inr (5, [.ref a1, .ref b1, .ref c1, .ref lk, .ref bh, .int 0, .null])), (a1, .inr (3, [.ref a2, .ref a3, .int 8])), (a2, .inl (cyI, 10, .inl f)), (a3, .inr (2, [.ref a4, .int 0]))] s.heap := hP
  have hl := lv_entry ([.ref h0, .int p1, .int p2]) (n := 4) (Nat.le_of_ble_eq_true rfl)
  rw [lg_entry_eq]
  generalize (lg_sl ([.ref h0, .int p1, .int p2]) ++ List.replicate (4 - (lg_sl ([.ref h0, .int p1, .int p2])).length) Slot.unset).toArray = ls at hl ⊢
  have hl : lv_has ls 4 [(0, .ref h0), (1, .int p1), (2, .int p2)] := hl
  refine lv_aload_n hx hb dX7_does_0 rfl (lv_at hl 0 rfl) ?_
  refine va_get (D := (dC, dI)) (ci := 5) (v := .ref a1) (C := RX7) (T := TX7) (N := 7) hx hb hts hnX7_does_X7 hown hK hP 0 rfl rfl 0 (by decide) (hts (.fieldLink RX7 10 "RingMeets" "now" "LRingMeets$Scene;") (by decide +kernel)) (fun _ h9 => h9) rfl dX7_does_1 ?_
  refine vp_callSi (va_Run.run (va_runV (As := []) (rest := []) ⟨hx, hb, hml, hown, hts⟩ (kX4_stands l dC dI cyI cyZ a1 a2 a3 f hf) (cwV 0 hts gX7_does_X4_stands rfl rfl rfl (by decide +kernel) ⟨Nat.le_of_ble_eq_true rfl, Nat.le_of_ble_eq_true rfl⟩) (bs_RV hB (hP.sub (ws' := [(a1, .inr (3, [.ref a2, .ref a3, .int 8])), (a2, .inl (cyI, 10, .inl f))]) [1, 2] rfl) 0 rfl rfl) rfl rfl hl.1 rfl (lv_room (Nat.le_of_ble_eq_true rfl)) dX7_does_4 ⟨Nat.le_of_ble_eq_true rfl, Nat.le_of_ble_eq_true rfl⟩)) (fun r_1 hr_1 => ?_)
  obtain rfl : r_1 = 0 := hr_1
  refine lv_istore_n (lv' := [(3, .int 0), (0, .ref h0), (1, .int p1), (2, .int p2)]) hx hb dX7_does_7 rfl hl (by decide) rfl (fun ls hl => ?_)
  refine lv_iload_n hx hb dX7_does_8 rfl (lv_at hl 0 rfl) ?_
  refine lv_iload_n hx hb dX7_does_9 rfl (lv_at hl 2 rfl) ?_
  refine vp_callSi (va_Run.run (va_runS (As := [.int 0, .int p1]) (rest := []) ⟨hx, hb, hml, hown, hts⟩ (kX5_has l dC dI cyI cyZ 0 p1) (va_cwS 2 hts gX7_does_X5_has rfl rfl rfl (by decide +kernel) ⟨Nat.le_of_ble_eq_true rfl, Nat.le_of_ble_eq_true rfl⟩) (bs_RS hB (hP.sub (ws' := []) [] rfl)) rfl rfl hl.1 rfl (lv_room (Nat.le_of_ble_eq_true rfl)) dX7_does_10 ⟨Nat.le_of_ble_eq_true rfl, Nat.le_of_ble_eq_true rfl⟩)) (fun r_2 hr_2 => ?_)
  obtain rfl : r_2 = 0 := hr_2.2 rfl
  refine lv_if_ne (tgt := 18) hx hb dX7_does_13 (by decide) (fun c_3 => ?_) (fun c_3 => ?_)
  · skip
    exact absurd c_3 (by decide)
  · skip
    refine lv_iconst (v := (-1)) hx hb dX7_does_16 (by decide) ?_
    exact W.iret (v := (-1)) hx hb hr (fun t ht hW => ⟨(-1), rfl, rfl, ht⟩) (fun q h => by cases h) dX7_does_17

theorem hnX7_shape_X4 : ∀ w ∈ wsX40, w ∈ wsX7_shape := fun _ h => List.mem_cons_of_mem _ (List.mem_append_right _ h)
theorem hnX7_shape_X7 : ∀ w ∈ wsX70, w ∈ wsX7_shape := fun _ h => List.mem_cons_of_mem _ (List.mem_append_left _ (List.mem_append_right _ h))
set_option maxHeartbeats 4000000 in
set_option maxRecDepth 100000 in
theorem kX7_shape (l : Launch) (dC : Nat → ClassId) (dI : Nat → Nat → Nat) (cyI cyZ : ClassId) (h0 a1 b1 c1 lk bh a2 a3 a4 : Nat) (f : Nat → Int32) (hf : ∀ j, f j = 0) (p1 : Int32) : Met l yX7_shape wsX7_shape ({ frames := 4, cells := 0, slots := 0, locals := 85 }) (bs_R dC dI cyI cyZ [.ref h0, .int p1] [(h0, .inr (5, [.ref a1, .ref b1, .ref c1, .ref lk, .ref bh, .int 0, .null])), (a1, .inr (3, [.ref a2, .ref a3, .int 8])), (a2, .inl (cyI, 10, .inl f)), (a3, .inr (2, [.ref a4, .int 0]))]) (vp_Si (fun r : Int32 => r = sp_shape p1)) 0 0 (fun _ => False) := by
  refine Met.ofW (cc := cX7_shape) (maxL := 4) (ret := (some .int)) (by decide) rfl ?_
  intro p e s m args below meth c s₁ B hml hv
  obtain ⟨rfl, hB, hP⟩ := hv
  have hK := hB.1
  have hN := hB.2
  have hx := B.exec
  have hb := B.bytes
  have hr := B.returns
  have hts := atoms_spec (ws := wsX7_shape) B.pre
  have hown : s.vm.findClass RX7 = some m.cls := findClass_of_methodNamed B.named
  have hlocks := B.notSynchronized
  have hP : va_P (dC, dI) vwCl [(h0, .inr (5, [.ref a1, .ref b1, .ref c1, .ref lk, .ref bh, .int 0, .null])), (a1, .inr (3, [.ref a2, .ref a3, .int 8])), (a2, .inl (cyI, 10, .inl f)), (a3, .inr (2, [.ref a4, .int 0]))] s.heap := hP
  have hl := lv_entry ([.ref h0, .int p1]) (n := 4) (Nat.le_of_ble_eq_true rfl)
  rw [lg_entry_eq]
  generalize (lg_sl ([.ref h0, .int p1]) ++ List.replicate (4 - (lg_sl ([.ref h0, .int p1])).length) Slot.unset).toArray = ls at hl ⊢
  have hl : lv_has ls 4 [(0, .ref h0), (1, .int p1)] := hl
  refine lv_aload_n hx hb dX7_shape_0 rfl (lv_at hl 0 rfl) ?_
  refine va_get (D := (dC, dI)) (ci := 5) (v := .ref a1) (C := RX7) (T := TX7) (N := 7) hx hb hts hnX7_shape_X7 hown hK hP 0 rfl rfl 0 (by decide) (hts (.fieldLink RX7 10 "RingMeets" "now" "LRingMeets$Scene;") (by decide +kernel)) (fun _ h9 => h9) rfl dX7_shape_1 ?_
  refine va_getN (D := (dC, dI)) (ci := 3) (v := .int 8) (C := RX4) (T := TX4) (N := 3) hx hb hts hnX7_shape_X4 hown hK hP 1 rfl rfl 2 (by decide) (hN.fld 4 rfl) (fun _ h9 => h9) rfl dX7_shape_4 ?_
  refine lv_istore_n (lv' := [(2, .int 8), (0, .ref h0), (1, .int p1)]) hx hb dX7_shape_7 rfl hl (by decide) rfl (fun ls hl => ?_)
  refine lv_aload_n hx hb dX7_shape_8 rfl (lv_at hl 1 rfl) ?_
  refine va_get (D := (dC, dI)) (ci := 5) (v := .ref a1) (C := RX7) (T := TX7) (N := 7) hx hb hts hnX7_shape_X7 hown hK hP 0 rfl rfl 0 (by decide) (hts (.fieldLink RX7 10 "RingMeets" "now" "LRingMeets$Scene;") (by decide +kernel)) (fun _ h9 => h9) rfl dX7_shape_9 ?_
  refine vp_callSi (va_Run.run (va_runV (As := []) (rest := []) ⟨hx, hb, hml, hown, hts⟩ (kX4_stands l dC dI cyI cyZ a1 a2 a3 f hf) (cwV 0 hts gX7_shape_X4_stands rfl rfl rfl (by decide +kernel) ⟨Nat.le_of_ble_eq_true rfl, Nat.le_of_ble_eq_true rfl⟩) (bs_RV hB (hP.sub (ws' := [(a1, .inr (3, [.ref a2, .ref a3, .int 8])), (a2, .inl (cyI, 10, .inl f))]) [1, 2] rfl) 0 rfl rfl) rfl rfl hl.1 rfl (lv_room (Nat.le_of_ble_eq_true rfl)) dX7_shape_12 ⟨Nat.le_of_ble_eq_true rfl, Nat.le_of_ble_eq_true rfl⟩)) (fun r_1 hr_1 => ?_)
  obtain rfl : r_1 = 0 := hr_1
  refine lv_istore_n (lv' := [(3, .int 0), (2, .int 8), (0, .ref h0), (1, .int p1)]) hx hb dX7_shape_15 rfl hl (by decide) rfl (fun ls hl => ?_)
  refine lv_iload_n hx hb dX7_shape_16 rfl (lv_at hl 3 rfl) ?_
  rcases nb_sw p1 5 5 rfl with w_2 | ⟨w_2k, w_2l, w_2⟩
  · skip
    refine lv_tableOut (tgt := 128) hx hb dX7_shape_17 w_2 (by decide) ?_
    refine lv_bipush (v := (-2)) hx hb dX7_shape_128 (by decide) ?_
    exact W.iret (v := (-2)) hx hb hr (fun t ht hW => ⟨(-2), rfl, (show (-2) = sp_shape p1 by have hw9 := w_2; unfold sp_shape; (repeat' split) <;> first | rfl | (exfalso; omega)), ht⟩) (fun q h => by cases h) dX7_shape_130
  · skip
    rcases (show w_2k = 0 ∨ w_2k = 1 ∨ w_2k = 2 ∨ w_2k = 3 ∨ w_2k = 4 ∨ w_2k = 5 by omega) with rfl | rfl | rfl | rfl | rfl | rfl
    · skip
      have ew_2 : p1 = 0 := w_2
      refine W.eq (g2 := F0 m 17 ls (.int 0 :: [])) (by rw [ew_2]) ?_
      refine lv_tableIn (off := 39) (tgt := 56) hx hb dX7_shape_17 (by decide) (by decide) (by decide) (by decide) ?_
      refine lv_iload_n hx hb dX7_shape_56 rfl (lv_at hl 1 rfl) ?_
      refine lv_iload_n hx hb dX7_shape_57 rfl (lv_at hl 0 rfl) ?_
      refine vp_callSi (va_Run.run (va_runS (As := [.int 8, .int 0]) (rest := []) ⟨hx, hb, hml, hown, hts⟩ (kX0_turned l dC dI cyI cyZ) (va_cwS 2 hts gX7_shape_X0_turned rfl rfl rfl (by decide +kernel) ⟨Nat.le_of_ble_eq_true rfl, Nat.le_of_ble_eq_true rfl⟩) (bs_RS hB (hP.sub (ws' := []) [] rfl)) rfl rfl hl.1 rfl (lv_room (Nat.le_of_ble_eq_true rfl)) dX7_shape_58 ⟨Nat.le_of_ble_eq_true rfl, Nat.le_of_ble_eq_true rfl⟩)) (fun r_3 hr_3 => ?_)
      obtain rfl : r_3 = 0 := hr_3
      refine lv_if_eq (tgt := 68) hx hb dX7_shape_61 (by decide) (fun c_4 => ?_) (fun c_4 => ?_)
      · skip
        refine lv_iconst (v := 0) hx hb dX7_shape_68 (by decide) ?_
        exact W.iret (v := 0) hx hb hr (fun t ht hW => ⟨0, rfl, (show 0 = sp_shape p1 by have hw9 := congrArg Int32.toInt ew_2; rw [show Int32.toInt 0 = 0 from by decide] at hw9;  unfold sp_shape; (repeat' split) <;> first | rfl | (exfalso; omega)), ht⟩) (fun q h => by cases h) dX7_shape_69
      · skip
        exact absurd c_4 (by decide)
    · skip
      have ew_2 : p1 = 1 := w_2
      refine W.eq (g2 := F0 m 17 ls (.int 1 :: [])) (by rw [ew_2]) ?_
      refine lv_tableIn (off := 53) (tgt := 70) hx hb dX7_shape_17 (by decide) (by decide) (by decide) (by decide) ?_
      refine lv_iload_n hx hb dX7_shape_70 rfl (lv_at hl 1 rfl) ?_
      refine lv_iload_n hx hb dX7_shape_71 rfl (lv_at hl 0 rfl) ?_
      refine vp_callSi (va_Run.run (va_runS (As := [.int 8, .int 0]) (rest := []) ⟨hx, hb, hml, hown, hts⟩ (kX0_mirrored l dC dI cyI cyZ) (va_cwS 2 hts gX7_shape_X0_mirrored rfl rfl rfl (by decide +kernel) ⟨Nat.le_of_ble_eq_true rfl, Nat.le_of_ble_eq_true rfl⟩) (bs_RS hB (hP.sub (ws' := []) [] rfl)) rfl rfl hl.1 rfl (lv_room (Nat.le_of_ble_eq_true rfl)) dX7_shape_72 ⟨Nat.le_of_ble_eq_true rfl, Nat.le_of_ble_eq_true rfl⟩)) (fun r_5 hr_5 => ?_)
      obtain rfl : r_5 = 0 := hr_5
      refine lv_if_eq (tgt := 82) hx hb dX7_shape_75 (by decide) (fun c_6 => ?_) (fun c_6 => ?_)
      · skip
        refine lv_iconst (v := 0) hx hb dX7_shape_82 (by decide) ?_
        exact W.iret (v := 0) hx hb hr (fun t ht hW => ⟨0, rfl, (show 0 = sp_shape p1 by have hw9 := congrArg Int32.toInt ew_2; rw [show Int32.toInt 1 = 1 from by decide] at hw9;  unfold sp_shape; (repeat' split) <;> first | rfl | (exfalso; omega)), ht⟩) (fun q h => by cases h) dX7_shape_83
      · skip
        exact absurd c_6 (by decide)
    · skip
      have ew_2 : p1 = 2 := w_2
      refine W.eq (g2 := F0 m 17 ls (.int 2 :: [])) (by rw [ew_2]) ?_
      refine lv_tableIn (off := 67) (tgt := 84) hx hb dX7_shape_17 (by decide) (by decide) (by decide) (by decide) ?_
      refine lv_iload_n hx hb dX7_shape_84 rfl (lv_at hl 0 rfl) ?_
      refine lv_if_eq (tgt := 108) hx hb dX7_shape_85 (by decide) (fun c_7 => ?_) (fun c_7 => ?_)
      · skip
        refine lv_iconst (v := 0) hx hb dX7_shape_108 (by decide) ?_
        exact W.iret (v := 0) hx hb hr (fun t ht hW => ⟨0, rfl, (show 0 = sp_shape p1 by have hw9 := congrArg Int32.toInt ew_2; rw [show Int32.toInt 2 = 2 from by decide] at hw9;  unfold sp_shape; (repeat' split) <;> first | rfl | (exfalso; omega)), ht⟩) (fun q h => by cases h) dX7_shape_109
      · skip
        exact absurd c_7 (by decide)
    · skip
      have ew_2 : p1 = 3 := w_2
      refine W.eq (g2 := F0 m 17 ls (.int 3 :: [])) (by rw [ew_2]) ?_
      refine lv_tableIn (off := 93) (tgt := 110) hx hb dX7_shape_17 (by decide) (by decide) (by decide) (by decide) ?_
      refine lv_iload_n hx hb dX7_shape_110 rfl (lv_at hl 1 rfl) ?_
      refine lv_iload_n hx hb dX7_shape_111 rfl (lv_at hl 0 rfl) ?_
      refine vp_callSi (va_Run.run (va_runS (As := [.int 8, .int 0]) (rest := []) ⟨hx, hb, hml, hown, hts⟩ (kX0_evens l dC dI cyI cyZ) (va_cwS 2 hts gX7_shape_X0_evens rfl rfl rfl (by decide +kernel) ⟨Nat.le_of_ble_eq_true rfl, Nat.le_of_ble_eq_true rfl⟩) (bs_RS hB (hP.sub (ws' := []) [] rfl)) rfl rfl hl.1 rfl (lv_room (Nat.le_of_ble_eq_true rfl)) dX7_shape_112 ⟨Nat.le_of_ble_eq_true rfl, Nat.le_of_ble_eq_true rfl⟩)) (fun r_8 hr_8 => ?_)
      obtain rfl : r_8 = 0 := hr_8
      exact W.iret (v := 0) hx hb hr (fun t ht hW => ⟨0, rfl, (show 0 = sp_shape p1 by have hw9 := congrArg Int32.toInt ew_2; rw [show Int32.toInt 3 = 3 from by decide] at hw9;  unfold sp_shape; (repeat' split) <;> first | rfl | (exfalso; omega)), ht⟩) (fun q h => by cases h) dX7_shape_115
    · skip
      have ew_2 : p1 = 4 := w_2
      refine W.eq (g2 := F0 m 17 ls (.int 4 :: [])) (by rw [ew_2]) ?_
      refine lv_tableIn (off := 99) (tgt := 116) hx hb dX7_shape_17 (by decide) (by decide) (by decide) (by decide) ?_
      refine lv_iload_n hx hb dX7_shape_116 rfl (lv_at hl 1 rfl) ?_
      refine lv_iload_n hx hb dX7_shape_117 rfl (lv_at hl 0 rfl) ?_
      refine vp_callSi (va_Run.run (va_runS (As := [.int 8, .int 0]) (rest := []) ⟨hx, hb, hml, hown, hts⟩ (kX0_views l dC dI cyI cyZ) (va_cwS 2 hts gX7_shape_X0_views rfl rfl rfl (by decide +kernel) ⟨Nat.le_of_ble_eq_true rfl, Nat.le_of_ble_eq_true rfl⟩) (bs_RS hB (hP.sub (ws' := []) [] rfl)) rfl rfl hl.1 rfl (lv_room (Nat.le_of_ble_eq_true rfl)) dX7_shape_118 ⟨Nat.le_of_ble_eq_true rfl, Nat.le_of_ble_eq_true rfl⟩)) (fun r_9 hr_9 => ?_)
      obtain rfl : r_9 = 0 := hr_9
      exact W.iret (v := 0) hx hb hr (fun t ht hW => ⟨0, rfl, (show 0 = sp_shape p1 by have hw9 := congrArg Int32.toInt ew_2; rw [show Int32.toInt 4 = 4 from by decide] at hw9;  unfold sp_shape; (repeat' split) <;> first | rfl | (exfalso; omega)), ht⟩) (fun q h => by cases h) dX7_shape_121
    · skip
      have ew_2 : p1 = 5 := w_2
      refine W.eq (g2 := F0 m 17 ls (.int 5 :: [])) (by rw [ew_2]) ?_
      refine lv_tableIn (off := 105) (tgt := 122) hx hb dX7_shape_17 (by decide) (by decide) (by decide) (by decide) ?_
      refine lv_iload_n hx hb dX7_shape_122 rfl (lv_at hl 1 rfl) ?_
      refine lv_iload_n hx hb dX7_shape_123 rfl (lv_at hl 0 rfl) ?_
      refine vp_callSi (va_Run.run (va_runS (As := [.int 8, .int 0]) (rest := []) ⟨hx, hb, hml, hown, hts⟩ (kX0_leastTurn l dC dI cyI cyZ) (va_cwS 2 hts gX7_shape_X0_leastTurn rfl rfl rfl (by decide +kernel) ⟨Nat.le_of_ble_eq_true rfl, Nat.le_of_ble_eq_true rfl⟩) (bs_RS hB (hP.sub (ws' := []) [] rfl)) rfl rfl hl.1 rfl (lv_room (Nat.le_of_ble_eq_true rfl)) dX7_shape_124 ⟨Nat.le_of_ble_eq_true rfl, Nat.le_of_ble_eq_true rfl⟩)) (fun r_10 hr_10 => ?_)
      obtain rfl : r_10 = (-6) := hr_10
      exact W.iret (v := (-6)) hx hb hr (fun t ht hW => ⟨(-6), rfl, (show (-6) = sp_shape p1 by have hw9 := congrArg Int32.toInt ew_2; rw [show Int32.toInt 5 = 5 from by decide] at hw9;  unfold sp_shape; (repeat' split) <;> first | rfl | (exfalso; omega)), ht⟩) (fun q h => by cases h) dX7_shape_127

theorem hnX7_count_X3 : ∀ w ∈ wsX30, w ∈ wsX7_count := fun _ h => List.mem_cons_of_mem _ (List.mem_append_right _ h)
theorem hnX7_count_X4 : ∀ w ∈ wsX40, w ∈ wsX7_count := fun _ h => List.mem_cons_of_mem _ (List.mem_append_left _ (List.mem_append_right _ h))
theorem hnX7_count_X7 : ∀ w ∈ wsX70, w ∈ wsX7_count := fun _ h => List.mem_cons_of_mem _ (List.mem_append_left _ (List.mem_append_left _ (List.mem_append_right _ h)))
set_option maxHeartbeats 4000000 in
set_option maxRecDepth 100000 in
theorem kX7_count (l : Launch) (dC : Nat → ClassId) (dI : Nat → Nat → Nat) (cyI cyZ : ClassId) (h0 a1 b1 c1 lk bh a2 a3 a4 : Nat) (f : Nat → Int32) (hf : ∀ j, f j = 0) (p1 : Int32) : Met l yX7_count wsX7_count ({ frames := 4, cells := 0, slots := 0, locals := 85 }) (bs_R dC dI cyI cyZ [.ref h0, .int p1] [(h0, .inr (5, [.ref a1, .ref b1, .ref c1, .ref lk, .ref bh, .int 0, .null])), (a1, .inr (3, [.ref a2, .ref a3, .int 8])), (a2, .inl (cyI, 10, .inl f)), (a3, .inr (2, [.ref a4, .int 0]))]) (vp_Si (fun r : Int32 => r = sp_count p1)) 0 0 (fun _ => False) := by
  refine Met.ofW (cc := cX7_count) (maxL := 2) (ret := (some .int)) (by decide) rfl ?_
  intro p e s m args below meth c s₁ B hml hv
  obtain ⟨rfl, hB, hP⟩ := hv
  have hK := hB.1
  have hN := hB.2
  have hx := B.exec
  have hb := B.bytes
  have hr := B.returns
  have hts := atoms_spec (ws := wsX7_count) B.pre
  have hown : s.vm.findClass RX7 = some m.cls := findClass_of_methodNamed B.named
  have hlocks := B.notSynchronized
  have hP : va_P (dC, dI) vwCl [(h0, .inr (5, [.ref a1, .ref b1, .ref c1, .ref lk, .ref bh, .int 0, .null])), (a1, .inr (3, [.ref a2, .ref a3, .int 8])), (a2, .inl (cyI, 10, .inl f)), (a3, .inr (2, [.ref a4, .int 0]))] s.heap := hP
  have hl := lv_entry ([.ref h0, .int p1]) (n := 2) (Nat.le_of_ble_eq_true rfl)
  rw [lg_entry_eq]
  generalize (lg_sl ([.ref h0, .int p1]) ++ List.replicate (2 - (lg_sl ([.ref h0, .int p1])).length) Slot.unset).toArray = ls at hl ⊢
  have hl : lv_has ls 2 [(0, .ref h0), (1, .int p1)] := hl
  refine lv_iload_n hx hb dX7_count_0 rfl (lv_at hl 1 rfl) ?_
  refine lv_bipush (v := 10) hx hb dX7_count_1 (by decide) ?_
  refine lv_icmp_lt (tgt := 24) hx hb dX7_count_3 (by decide) (fun c_1 => ?_) (fun c_1 => ?_)
  · skip
    have ic_1 := ci_lt (rfl : Int32.toInt p1 = _) (show Int32.toInt 10 = 10 by decide) c_1
    refine lv_iload_n hx hb dX7_count_24 rfl (lv_at hl 1 rfl) ?_
    rcases nb_sw p1 5 5 rfl with w_2 | ⟨w_2k, w_2l, w_2⟩
    · skip
      refine lv_tableOut (tgt := 112) hx hb dX7_count_25 w_2 (by decide) ?_
      refine lv_bipush (v := (-2)) hx hb dX7_count_112 (by decide) ?_
      exact W.iret (v := (-2)) hx hb hr (fun t ht hW => ⟨(-2), rfl, (show (-2) = sp_count p1 by have hw9 := w_2; unfold sp_count; (repeat' split) <;> first | rfl | (exfalso; omega)), ht⟩) (fun q h => by cases h) dX7_count_114
    · skip
      rcases (show w_2k = 0 ∨ w_2k = 1 ∨ w_2k = 2 ∨ w_2k = 3 ∨ w_2k = 4 ∨ w_2k = 5 by omega) with rfl | rfl | rfl | rfl | rfl | rfl
      · skip
        have ew_2 : p1 = 0 := w_2
        refine W.eq (g2 := F0 m 25 ls (.int 0 :: [])) (by rw [ew_2]) ?_
        refine lv_tableIn (off := 39) (tgt := 64) hx hb dX7_count_25 (by decide) (by decide) (by decide) (by decide) ?_
        refine lv_aload_n hx hb dX7_count_64 rfl (lv_at hl 0 rfl) ?_
        refine va_get (D := (dC, dI)) (ci := 5) (v := .ref a1) (C := RX7) (T := TX7) (N := 7) hx hb hts hnX7_count_X7 hown hK hP 0 rfl rfl 0 (by decide) (hts (.fieldLink RX7 10 "RingMeets" "now" "LRingMeets$Scene;") (by decide +kernel)) (fun _ h9 => h9) rfl dX7_count_65 ?_
        refine va_getN (D := (dC, dI)) (ci := 3) (v := .int 8) (C := RX4) (T := TX4) (N := 3) hx hb hts hnX7_count_X4 hown hK hP 1 rfl rfl 2 (by decide) (hN.fld 4 rfl) (fun _ h9 => h9) rfl dX7_count_68 ?_
        exact W.iret (v := 8) hx hb hr (fun t ht hW => ⟨8, rfl, (show 8 = sp_count p1 by have hw9 := congrArg Int32.toInt ew_2; rw [show Int32.toInt 0 = 0 from by decide] at hw9;  unfold sp_count; (repeat' split) <;> first | rfl | (exfalso; omega)), ht⟩) (fun q h => by cases h) dX7_count_71
      · skip
        have ew_2 : p1 = 1 := w_2
        refine W.eq (g2 := F0 m 25 ls (.int 1 :: [])) (by rw [ew_2]) ?_
        refine lv_tableIn (off := 47) (tgt := 72) hx hb dX7_count_25 (by decide) (by decide) (by decide) (by decide) ?_
        refine lv_aload_n hx hb dX7_count_72 rfl (lv_at hl 0 rfl) ?_
        refine va_get (D := (dC, dI)) (ci := 5) (v := .ref a1) (C := RX7) (T := TX7) (N := 7) hx hb hts hnX7_count_X7 hown hK hP 0 rfl rfl 0 (by decide) (hts (.fieldLink RX7 10 "RingMeets" "now" "LRingMeets$Scene;") (by decide +kernel)) (fun _ h9 => h9) rfl dX7_count_73 ?_
        refine vp_callSi (va_Run.run (va_runV (As := []) (rest := []) ⟨hx, hb, hml, hown, hts⟩ (kX4_walkersInAll l dC dI cyI cyZ a1 a2 a3 f hf) (cwV 0 hts gX7_count_X4_walkersInAll rfl rfl rfl (by decide +kernel) ⟨Nat.le_of_ble_eq_true rfl, Nat.le_of_ble_eq_true rfl⟩) (bs_RV hB (hP.sub (ws' := [(a1, .inr (3, [.ref a2, .ref a3, .int 8])), (a2, .inl (cyI, 10, .inl f))]) [1, 2] rfl) 0 rfl rfl) rfl rfl hl.1 rfl (lv_room (Nat.le_of_ble_eq_true rfl)) dX7_count_76 ⟨Nat.le_of_ble_eq_true rfl, Nat.le_of_ble_eq_true rfl⟩)) (fun r_3 hr_3 => ?_)
        obtain rfl : r_3 = 0 := hr_3
        exact W.iret (v := 0) hx hb hr (fun t ht hW => ⟨0, rfl, (show 0 = sp_count p1 by have hw9 := congrArg Int32.toInt ew_2; rw [show Int32.toInt 1 = 1 from by decide] at hw9;  unfold sp_count; (repeat' split) <;> first | rfl | (exfalso; omega)), ht⟩) (fun q h => by cases h) dX7_count_79
      · skip
        have ew_2 : p1 = 2 := w_2
        refine W.eq (g2 := F0 m 25 ls (.int 2 :: [])) (by rw [ew_2]) ?_
        refine lv_tableIn (off := 55) (tgt := 80) hx hb dX7_count_25 (by decide) (by decide) (by decide) (by decide) ?_
        refine lv_aload_n hx hb dX7_count_80 rfl (lv_at hl 0 rfl) ?_
        refine va_get (D := (dC, dI)) (ci := 5) (v := .ref a1) (C := RX7) (T := TX7) (N := 7) hx hb hts hnX7_count_X7 hown hK hP 0 rfl rfl 0 (by decide) (hts (.fieldLink RX7 10 "RingMeets" "now" "LRingMeets$Scene;") (by decide +kernel)) (fun _ h9 => h9) rfl dX7_count_81 ?_
        refine vp_callSi (va_Run.run (va_runV (As := []) (rest := []) ⟨hx, hb, hml, hown, hts⟩ (kX4_stands l dC dI cyI cyZ a1 a2 a3 f hf) (cwV 0 hts gX7_count_X4_stands rfl rfl rfl (by decide +kernel) ⟨Nat.le_of_ble_eq_true rfl, Nat.le_of_ble_eq_true rfl⟩) (bs_RV hB (hP.sub (ws' := [(a1, .inr (3, [.ref a2, .ref a3, .int 8])), (a2, .inl (cyI, 10, .inl f))]) [1, 2] rfl) 0 rfl rfl) rfl rfl hl.1 rfl (lv_room (Nat.le_of_ble_eq_true rfl)) dX7_count_84 ⟨Nat.le_of_ble_eq_true rfl, Nat.le_of_ble_eq_true rfl⟩)) (fun r_4 hr_4 => ?_)
        obtain rfl : r_4 = 0 := hr_4
        exact W.iret (v := 0) hx hb hr (fun t ht hW => ⟨0, rfl, (show 0 = sp_count p1 by have hw9 := congrArg Int32.toInt ew_2; rw [show Int32.toInt 2 = 2 from by decide] at hw9;  unfold sp_count; (repeat' split) <;> first | rfl | (exfalso; omega)), ht⟩) (fun q h => by cases h) dX7_count_87
      · skip
        have ew_2 : p1 = 3 := w_2
        refine W.eq (g2 := F0 m 25 ls (.int 3 :: [])) (by rw [ew_2]) ?_
        refine lv_tableIn (off := 63) (tgt := 88) hx hb dX7_count_25 (by decide) (by decide) (by decide) (by decide) ?_
        refine lv_aload_n hx hb dX7_count_88 rfl (lv_at hl 0 rfl) ?_
        refine va_get (D := (dC, dI)) (ci := 5) (v := .ref a1) (C := RX7) (T := TX7) (N := 7) hx hb hts hnX7_count_X7 hown hK hP 0 rfl rfl 0 (by decide) (hts (.fieldLink RX7 10 "RingMeets" "now" "LRingMeets$Scene;") (by decide +kernel)) (fun _ h9 => h9) rfl dX7_count_89 ?_
        refine vp_callSi (va_Run.run (va_runV (As := []) (rest := []) ⟨hx, hb, hml, hown, hts⟩ (kX4_towers l dC dI cyI cyZ a1 a2 a3 f hf) (cwV 0 hts gX7_count_X4_towers rfl rfl rfl (by decide +kernel) ⟨Nat.le_of_ble_eq_true rfl, Nat.le_of_ble_eq_true rfl⟩) (bs_RV hB (hP.sub (ws' := [(a1, .inr (3, [.ref a2, .ref a3, .int 8])), (a2, .inl (cyI, 10, .inl f))]) [1, 2] rfl) 0 rfl rfl) rfl rfl hl.1 rfl (lv_room (Nat.le_of_ble_eq_true rfl)) dX7_count_92 ⟨Nat.le_of_ble_eq_true rfl, Nat.le_of_ble_eq_true rfl⟩)) (fun r_5 hr_5 => ?_)
        obtain rfl : r_5 = 0 := hr_5
        exact W.iret (v := 0) hx hb hr (fun t ht hW => ⟨0, rfl, (show 0 = sp_count p1 by have hw9 := congrArg Int32.toInt ew_2; rw [show Int32.toInt 3 = 3 from by decide] at hw9;  unfold sp_count; (repeat' split) <;> first | rfl | (exfalso; omega)), ht⟩) (fun q h => by cases h) dX7_count_95
      · skip
        have ew_2 : p1 = 4 := w_2
        refine W.eq (g2 := F0 m 25 ls (.int 4 :: [])) (by rw [ew_2]) ?_
        refine lv_tableIn (off := 71) (tgt := 96) hx hb dX7_count_25 (by decide) (by decide) (by decide) (by decide) ?_
        refine lv_aload_n hx hb dX7_count_96 rfl (lv_at hl 0 rfl) ?_
        refine va_get (D := (dC, dI)) (ci := 5) (v := .ref a1) (C := RX7) (T := TX7) (N := 7) hx hb hts hnX7_count_X7 hown hK hP 0 rfl rfl 0 (by decide) (hts (.fieldLink RX7 10 "RingMeets" "now" "LRingMeets$Scene;") (by decide +kernel)) (fun _ h9 => h9) rfl dX7_count_97 ?_
        refine va_getN (D := (dC, dI)) (ci := 3) (v := .ref a3) (C := RX4) (T := TX4) (N := 3) hx hb hts hnX7_count_X4 hown hK hP 1 rfl rfl 1 (by decide) (hN.fld 3 rfl) (fun _ h9 => h9) rfl dX7_count_100 ?_
        refine va_getN (D := (dC, dI)) (ci := 2) (v := .int 0) (C := RX3) (T := TX3) (N := 2) hx hb hts hnX7_count_X3 hown hK hP 3 rfl rfl 1 (by decide) (hN.fld 2 rfl) (fun _ h9 => h9) rfl dX7_count_103 ?_
        exact W.iret (v := 0) hx hb hr (fun t ht hW => ⟨0, rfl, (show 0 = sp_count p1 by have hw9 := congrArg Int32.toInt ew_2; rw [show Int32.toInt 4 = 4 from by decide] at hw9;  unfold sp_count; (repeat' split) <;> first | rfl | (exfalso; omega)), ht⟩) (fun q h => by cases h) dX7_count_106
      · skip
        have ew_2 : p1 = 5 := w_2
        refine W.eq (g2 := F0 m 25 ls (.int 5 :: [])) (by rw [ew_2]) ?_
        refine lv_tableIn (off := 82) (tgt := 107) hx hb dX7_count_25 (by decide) (by decide) (by decide) (by decide) ?_
        refine lv_aload_n hx hb dX7_count_107 rfl (lv_at hl 0 rfl) ?_
        refine va_get (D := (dC, dI)) (ci := 5) (v := .int 0) (C := RX7) (T := TX7) (N := 7) hx hb hts hnX7_count_X7 hown hK hP 0 rfl rfl 5 (by decide) (hts (.fieldLink RX7 199 "RingMeets" "kept" "I") (by decide +kernel)) (fun _ h9 => h9) rfl dX7_count_108 ?_
        exact W.iret (v := 0) hx hb hr (fun t ht hW => ⟨0, rfl, (show 0 = sp_count p1 by have hw9 := congrArg Int32.toInt ew_2; rw [show Int32.toInt 5 = 5 from by decide] at hw9;  unfold sp_count; (repeat' split) <;> first | rfl | (exfalso; omega)), ht⟩) (fun q h => by cases h) dX7_count_111
  · skip
    have ic_1 := ci_nlt (rfl : Int32.toInt p1 = _) (show Int32.toInt 10 = 10 by decide) c_1
    refine lv_iload_n hx hb dX7_count_6 rfl (lv_at hl 1 rfl) ?_
    refine lv_bipush (v := 20) hx hb dX7_count_7 (by decide) ?_
    refine lv_icmp_ge (tgt := 24) hx hb dX7_count_9 (by decide) (fun c_6 => ?_) (fun c_6 => ?_)
    · skip
      have ic_6 := ci_le (show Int32.toInt 20 = 20 by decide) (rfl : Int32.toInt p1 = _) c_6
      refine lv_iload_n hx hb dX7_count_24 rfl (lv_at hl 1 rfl) ?_
      rcases nb_sw p1 5 5 rfl with w_7 | ⟨w_7k, w_7l, w_7⟩
      · skip
        refine lv_tableOut (tgt := 112) hx hb dX7_count_25 w_7 (by decide) ?_
        refine lv_bipush (v := (-2)) hx hb dX7_count_112 (by decide) ?_
        exact W.iret (v := (-2)) hx hb hr (fun t ht hW => ⟨(-2), rfl, (show (-2) = sp_count p1 by have hw9 := w_7; unfold sp_count; (repeat' split) <;> first | rfl | (exfalso; omega)), ht⟩) (fun q h => by cases h) dX7_count_114
      · skip
        rcases (show w_7k = 0 ∨ w_7k = 1 ∨ w_7k = 2 ∨ w_7k = 3 ∨ w_7k = 4 ∨ w_7k = 5 by omega) with rfl | rfl | rfl | rfl | rfl | rfl
        · skip
          have ew_7 : p1 = 0 := w_7
          refine W.eq (g2 := F0 m 25 ls (.int 0 :: [])) (by rw [ew_7]) ?_
          refine lv_tableIn (off := 39) (tgt := 64) hx hb dX7_count_25 (by decide) (by decide) (by decide) (by decide) ?_
          refine lv_aload_n hx hb dX7_count_64 rfl (lv_at hl 0 rfl) ?_
          refine va_get (D := (dC, dI)) (ci := 5) (v := .ref a1) (C := RX7) (T := TX7) (N := 7) hx hb hts hnX7_count_X7 hown hK hP 0 rfl rfl 0 (by decide) (hts (.fieldLink RX7 10 "RingMeets" "now" "LRingMeets$Scene;") (by decide +kernel)) (fun _ h9 => h9) rfl dX7_count_65 ?_
          refine va_getN (D := (dC, dI)) (ci := 3) (v := .int 8) (C := RX4) (T := TX4) (N := 3) hx hb hts hnX7_count_X4 hown hK hP 1 rfl rfl 2 (by decide) (hN.fld 4 rfl) (fun _ h9 => h9) rfl dX7_count_68 ?_
          exact W.iret (v := 8) hx hb hr (fun t ht hW => ⟨8, rfl, (show 8 = sp_count p1 by have hw9 := congrArg Int32.toInt ew_7; rw [show Int32.toInt 0 = 0 from by decide] at hw9;  unfold sp_count; (repeat' split) <;> first | rfl | (exfalso; omega)), ht⟩) (fun q h => by cases h) dX7_count_71
        · skip
          have ew_7 : p1 = 1 := w_7
          refine W.eq (g2 := F0 m 25 ls (.int 1 :: [])) (by rw [ew_7]) ?_
          refine lv_tableIn (off := 47) (tgt := 72) hx hb dX7_count_25 (by decide) (by decide) (by decide) (by decide) ?_
          refine lv_aload_n hx hb dX7_count_72 rfl (lv_at hl 0 rfl) ?_
          refine va_get (D := (dC, dI)) (ci := 5) (v := .ref a1) (C := RX7) (T := TX7) (N := 7) hx hb hts hnX7_count_X7 hown hK hP 0 rfl rfl 0 (by decide) (hts (.fieldLink RX7 10 "RingMeets" "now" "LRingMeets$Scene;") (by decide +kernel)) (fun _ h9 => h9) rfl dX7_count_73 ?_
          refine vp_callSi (va_Run.run (va_runV (As := []) (rest := []) ⟨hx, hb, hml, hown, hts⟩ (kX4_walkersInAll l dC dI cyI cyZ a1 a2 a3 f hf) (cwV 0 hts gX7_count_X4_walkersInAll rfl rfl rfl (by decide +kernel) ⟨Nat.le_of_ble_eq_true rfl, Nat.le_of_ble_eq_true rfl⟩) (bs_RV hB (hP.sub (ws' := [(a1, .inr (3, [.ref a2, .ref a3, .int 8])), (a2, .inl (cyI, 10, .inl f))]) [1, 2] rfl) 0 rfl rfl) rfl rfl hl.1 rfl (lv_room (Nat.le_of_ble_eq_true rfl)) dX7_count_76 ⟨Nat.le_of_ble_eq_true rfl, Nat.le_of_ble_eq_true rfl⟩)) (fun r_8 hr_8 => ?_)
          obtain rfl : r_8 = 0 := hr_8
          exact W.iret (v := 0) hx hb hr (fun t ht hW => ⟨0, rfl, (show 0 = sp_count p1 by have hw9 := congrArg Int32.toInt ew_7; rw [show Int32.toInt 1 = 1 from by decide] at hw9;  unfold sp_count; (repeat' split) <;> first | rfl | (exfalso; omega)), ht⟩) (fun q h => by cases h) dX7_count_79
        · skip
          have ew_7 : p1 = 2 := w_7
          refine W.eq (g2 := F0 m 25 ls (.int 2 :: [])) (by rw [ew_7]) ?_
          refine lv_tableIn (off := 55) (tgt := 80) hx hb dX7_count_25 (by decide) (by decide) (by decide) (by decide) ?_
          refine lv_aload_n hx hb dX7_count_80 rfl (lv_at hl 0 rfl) ?_
          refine va_get (D := (dC, dI)) (ci := 5) (v := .ref a1) (C := RX7) (T := TX7) (N := 7) hx hb hts hnX7_count_X7 hown hK hP 0 rfl rfl 0 (by decide) (hts (.fieldLink RX7 10 "RingMeets" "now" "LRingMeets$Scene;") (by decide +kernel)) (fun _ h9 => h9) rfl dX7_count_81 ?_
          refine vp_callSi (va_Run.run (va_runV (As := []) (rest := []) ⟨hx, hb, hml, hown, hts⟩ (kX4_stands l dC dI cyI cyZ a1 a2 a3 f hf) (cwV 0 hts gX7_count_X4_stands rfl rfl rfl (by decide +kernel) ⟨Nat.le_of_ble_eq_true rfl, Nat.le_of_ble_eq_true rfl⟩) (bs_RV hB (hP.sub (ws' := [(a1, .inr (3, [.ref a2, .ref a3, .int 8])), (a2, .inl (cyI, 10, .inl f))]) [1, 2] rfl) 0 rfl rfl) rfl rfl hl.1 rfl (lv_room (Nat.le_of_ble_eq_true rfl)) dX7_count_84 ⟨Nat.le_of_ble_eq_true rfl, Nat.le_of_ble_eq_true rfl⟩)) (fun r_9 hr_9 => ?_)
          obtain rfl : r_9 = 0 := hr_9
          exact W.iret (v := 0) hx hb hr (fun t ht hW => ⟨0, rfl, (show 0 = sp_count p1 by have hw9 := congrArg Int32.toInt ew_7; rw [show Int32.toInt 2 = 2 from by decide] at hw9;  unfold sp_count; (repeat' split) <;> first | rfl | (exfalso; omega)), ht⟩) (fun q h => by cases h) dX7_count_87
        · skip
          have ew_7 : p1 = 3 := w_7
          refine W.eq (g2 := F0 m 25 ls (.int 3 :: [])) (by rw [ew_7]) ?_
          refine lv_tableIn (off := 63) (tgt := 88) hx hb dX7_count_25 (by decide) (by decide) (by decide) (by decide) ?_
          refine lv_aload_n hx hb dX7_count_88 rfl (lv_at hl 0 rfl) ?_
          refine va_get (D := (dC, dI)) (ci := 5) (v := .ref a1) (C := RX7) (T := TX7) (N := 7) hx hb hts hnX7_count_X7 hown hK hP 0 rfl rfl 0 (by decide) (hts (.fieldLink RX7 10 "RingMeets" "now" "LRingMeets$Scene;") (by decide +kernel)) (fun _ h9 => h9) rfl dX7_count_89 ?_
          refine vp_callSi (va_Run.run (va_runV (As := []) (rest := []) ⟨hx, hb, hml, hown, hts⟩ (kX4_towers l dC dI cyI cyZ a1 a2 a3 f hf) (cwV 0 hts gX7_count_X4_towers rfl rfl rfl (by decide +kernel) ⟨Nat.le_of_ble_eq_true rfl, Nat.le_of_ble_eq_true rfl⟩) (bs_RV hB (hP.sub (ws' := [(a1, .inr (3, [.ref a2, .ref a3, .int 8])), (a2, .inl (cyI, 10, .inl f))]) [1, 2] rfl) 0 rfl rfl) rfl rfl hl.1 rfl (lv_room (Nat.le_of_ble_eq_true rfl)) dX7_count_92 ⟨Nat.le_of_ble_eq_true rfl, Nat.le_of_ble_eq_true rfl⟩)) (fun r_10 hr_10 => ?_)
          obtain rfl : r_10 = 0 := hr_10
          exact W.iret (v := 0) hx hb hr (fun t ht hW => ⟨0, rfl, (show 0 = sp_count p1 by have hw9 := congrArg Int32.toInt ew_7; rw [show Int32.toInt 3 = 3 from by decide] at hw9;  unfold sp_count; (repeat' split) <;> first | rfl | (exfalso; omega)), ht⟩) (fun q h => by cases h) dX7_count_95
        · skip
          have ew_7 : p1 = 4 := w_7
          refine W.eq (g2 := F0 m 25 ls (.int 4 :: [])) (by rw [ew_7]) ?_
          refine lv_tableIn (off := 71) (tgt := 96) hx hb dX7_count_25 (by decide) (by decide) (by decide) (by decide) ?_
          refine lv_aload_n hx hb dX7_count_96 rfl (lv_at hl 0 rfl) ?_
          refine va_get (D := (dC, dI)) (ci := 5) (v := .ref a1) (C := RX7) (T := TX7) (N := 7) hx hb hts hnX7_count_X7 hown hK hP 0 rfl rfl 0 (by decide) (hts (.fieldLink RX7 10 "RingMeets" "now" "LRingMeets$Scene;") (by decide +kernel)) (fun _ h9 => h9) rfl dX7_count_97 ?_
          refine va_getN (D := (dC, dI)) (ci := 3) (v := .ref a3) (C := RX4) (T := TX4) (N := 3) hx hb hts hnX7_count_X4 hown hK hP 1 rfl rfl 1 (by decide) (hN.fld 3 rfl) (fun _ h9 => h9) rfl dX7_count_100 ?_
          refine va_getN (D := (dC, dI)) (ci := 2) (v := .int 0) (C := RX3) (T := TX3) (N := 2) hx hb hts hnX7_count_X3 hown hK hP 3 rfl rfl 1 (by decide) (hN.fld 2 rfl) (fun _ h9 => h9) rfl dX7_count_103 ?_
          exact W.iret (v := 0) hx hb hr (fun t ht hW => ⟨0, rfl, (show 0 = sp_count p1 by have hw9 := congrArg Int32.toInt ew_7; rw [show Int32.toInt 4 = 4 from by decide] at hw9;  unfold sp_count; (repeat' split) <;> first | rfl | (exfalso; omega)), ht⟩) (fun q h => by cases h) dX7_count_106
        · skip
          have ew_7 : p1 = 5 := w_7
          refine W.eq (g2 := F0 m 25 ls (.int 5 :: [])) (by rw [ew_7]) ?_
          refine lv_tableIn (off := 82) (tgt := 107) hx hb dX7_count_25 (by decide) (by decide) (by decide) (by decide) ?_
          refine lv_aload_n hx hb dX7_count_107 rfl (lv_at hl 0 rfl) ?_
          refine va_get (D := (dC, dI)) (ci := 5) (v := .int 0) (C := RX7) (T := TX7) (N := 7) hx hb hts hnX7_count_X7 hown hK hP 0 rfl rfl 5 (by decide) (hts (.fieldLink RX7 199 "RingMeets" "kept" "I") (by decide +kernel)) (fun _ h9 => h9) rfl dX7_count_108 ?_
          exact W.iret (v := 0) hx hb hr (fun t ht hW => ⟨0, rfl, (show 0 = sp_count p1 by have hw9 := congrArg Int32.toInt ew_7; rw [show Int32.toInt 5 = 5 from by decide] at hw9;  unfold sp_count; (repeat' split) <;> first | rfl | (exfalso; omega)), ht⟩) (fun q h => by cases h) dX7_count_111
    · skip
      have ic_6 := ci_nle (show Int32.toInt 20 = 20 by decide) (rfl : Int32.toInt p1 = _) c_6
      refine lv_aload_n hx hb dX7_count_12 rfl (lv_at hl 0 rfl) ?_
      refine va_get (D := (dC, dI)) (ci := 5) (v := .ref a1) (C := RX7) (T := TX7) (N := 7) hx hb hts hnX7_count_X7 hown hK hP 0 rfl rfl 0 (by decide) (hts (.fieldLink RX7 10 "RingMeets" "now" "LRingMeets$Scene;") (by decide +kernel)) (fun _ h9 => h9) rfl dX7_count_13 ?_
      refine lv_iload_n hx hb dX7_count_16 rfl (lv_at hl 1 rfl) ?_
      refine lv_bipush (v := 10) hx hb dX7_count_17 (by decide) ?_
      refine lv_isub hx hb dX7_count_19 ?_
      refine lv_topi (fun x_11 ex_11 => ?_)
      refine vp_callSi (va_Run.run (va_runV (As := [.int x_11]) (rest := []) ⟨hx, hb, hml, hown, hts⟩ (kX4_walkersOn l dC dI cyI cyZ a1 a2 a3 f hf x_11) (cwV 1 hts gX7_count_X4_walkersOn rfl rfl rfl (by decide +kernel) ⟨Nat.le_of_ble_eq_true rfl, Nat.le_of_ble_eq_true rfl⟩) (bs_RV hB (hP.sub (ws' := [(a1, .inr (3, [.ref a2, .ref a3, .int 8])), (a2, .inl (cyI, 10, .inl f))]) [1, 2] rfl) 0 rfl rfl) rfl rfl hl.1 rfl (lv_room (Nat.le_of_ble_eq_true rfl)) dX7_count_20 ⟨Nat.le_of_ble_eq_true rfl, Nat.le_of_ble_eq_true rfl⟩)) (fun r_12 hr_12 => ?_)
      obtain rfl : r_12 = 0 := hr_12
      exact W.iret (v := 0) hx hb hr (fun t ht hW => ⟨0, rfl, (show 0 = sp_count p1 by  unfold sp_count; (repeat' split) <;> first | rfl | (exfalso; omega)), ht⟩) (fun q h => by cases h) dX7_count_23

set_option maxHeartbeats 4000000 in
set_option maxRecDepth 100000 in
theorem kX7_isSchedule (l : Launch) (dC : Nat → ClassId) (dI : Nat → Nat → Nat) (cyI cyZ : ClassId) (p0 : Int32) : Met l yX7_isSchedule wsX7_isSchedule ({ frames := 0, cells := 0, slots := 0, locals := 0 }) (bs_R dC dI cyI cyZ [.int p0] []) (vp_Si (fun r : Int32 => (r = 0 ∨ r = 1) ∧ (r = 0 → p0.toInt < 0 ∨ 2 < p0.toInt) ∧ (r = 1 → ¬ (p0.toInt < 0 ∨ 2 < p0.toInt)))) 0 0 (fun _ => False) := by
  refine Met.ofW (cc := cX7_isSchedule) (maxL := 1) (ret := (some .boolean)) (by decide) rfl ?_
  intro p e s m args below meth c s₁ B hml hv
  obtain ⟨rfl, hB, hP⟩ := hv
  have hK := hB.1
  have hN := hB.2
  have hx := B.exec
  have hb := B.bytes
  have hr := B.returns
  have hts := atoms_spec (ws := wsX7_isSchedule) B.pre
  have hown : s.vm.findClass RX7 = some m.cls := findClass_of_methodNamed B.named
  have hlocks := B.notSynchronized
  have hP : va_P (dC, dI) vwCl [] s.heap := hP
  have hl := lv_entry ([.int p0]) (n := 1) (Nat.le_of_ble_eq_true rfl)
  rw [lg_entry_eq]
  generalize (lg_sl ([.int p0]) ++ List.replicate (1 - (lg_sl ([.int p0])).length) Slot.unset).toArray = ls at hl ⊢
  have hl : lv_has ls 1 [(0, .int p0)] := hl
  refine lv_iload_n hx hb dX7_isSchedule_0 rfl (lv_at hl 0 rfl) ?_
  refine lv_if_lt (tgt := 13) hx hb dX7_isSchedule_1 (by decide) (fun c_1 => ?_) (fun c_1 => ?_)
  · skip
    have ic_1 := ci_lt (rfl : Int32.toInt p0 = _) (show Int32.toInt 0 = 0 by decide) c_1
    refine lv_iconst (v := 0) hx hb dX7_isSchedule_13 (by decide) ?_
    exact W.zret (v := 0) hx hb hr (show narrow .boolean (.int 0) = .int 0 from rfl) (fun t ht hW => ⟨0, rfl, ⟨Or.inl rfl, fun _ => by omega, fun h => absurd h (by decide)⟩, ht⟩) (fun q h => by cases h) dX7_isSchedule_14
  · skip
    have ic_1 := ci_nlt (rfl : Int32.toInt p0 = _) (show Int32.toInt 0 = 0 by decide) c_1
    refine lv_iload_n hx hb dX7_isSchedule_4 rfl (lv_at hl 0 rfl) ?_
    refine lv_iconst (v := 2) hx hb dX7_isSchedule_5 (by decide) ?_
    refine lv_icmp_gt (tgt := 13) hx hb dX7_isSchedule_6 (by decide) (fun c_2 => ?_) (fun c_2 => ?_)
    · skip
      have ic_2 := ci_lt (show Int32.toInt 2 = 2 by decide) (rfl : Int32.toInt p0 = _) c_2
      refine lv_iconst (v := 0) hx hb dX7_isSchedule_13 (by decide) ?_
      exact W.zret (v := 0) hx hb hr (show narrow .boolean (.int 0) = .int 0 from rfl) (fun t ht hW => ⟨0, rfl, ⟨Or.inl rfl, fun _ => by omega, fun h => absurd h (by decide)⟩, ht⟩) (fun q h => by cases h) dX7_isSchedule_14
    · skip
      have ic_2 := ci_nlt (show Int32.toInt 2 = 2 by decide) (rfl : Int32.toInt p0 = _) c_2
      refine lv_iconst (v := 1) hx hb dX7_isSchedule_9 (by decide) ?_
      refine lv_goto (tgt := 14) hx hb dX7_isSchedule_10 (by decide) ?_
      exact W.zret (v := 1) hx hb hr (show narrow .boolean (.int 1) = .int 1 from rfl) (fun t ht hW => ⟨1, rfl, ⟨Or.inr rfl, fun h => absurd h (by decide), fun _ => by omega⟩, ht⟩) (fun q h => by cases h) dX7_isSchedule_14

theorem hnX7_refusalFromNow_X7 : ∀ w ∈ wsX70, w ∈ wsX7_refusalFromNow := fun _ h => List.mem_cons_of_mem _ (List.mem_append_left _ (List.mem_append_right _ h))
set_option maxHeartbeats 4000000 in
set_option maxRecDepth 100000 in
theorem kX7_refusalFromNow (l : Launch) (dC : Nat → ClassId) (dI : Nat → Nat → Nat) (cyI cyZ : ClassId) (h0 a1 b1 c1 lk bh a2 a3 a4 : Nat) (f : Nat → Int32) (hf : ∀ j, f j = 0) (p1 : Int32) : Met l yX7_refusalFromNow wsX7_refusalFromNow ({ frames := 4, cells := 0, slots := 0, locals := 85 }) (bs_R dC dI cyI cyZ [.ref h0, .int p1] [(h0, .inr (5, [.ref a1, .ref b1, .ref c1, .ref lk, .ref bh, .int 0, .null])), (a1, .inr (3, [.ref a2, .ref a3, .int 8])), (a2, .inl (cyI, 10, .inl f)), (a3, .inr (2, [.ref a4, .int 0]))]) (vp_Si (fun r : Int32 => r = sp_sched p1 ∧ ¬ r = 0)) 0 0 (fun _ => False) := by
  refine Met.ofW (cc := cX7_refusalFromNow) (maxL := 2) (ret := (some .int)) (by decide) rfl ?_
  intro p e s m args below meth c s₁ B hml hv
  obtain ⟨rfl, hB, hP⟩ := hv
  have hK := hB.1
  have hN := hB.2
  have hx := B.exec
  have hb := B.bytes
  have hr := B.returns
  have hts := atoms_spec (ws := wsX7_refusalFromNow) B.pre
  have hown : s.vm.findClass RX7 = some m.cls := findClass_of_methodNamed B.named
  have hlocks := B.notSynchronized
  have hP : va_P (dC, dI) vwCl [(h0, .inr (5, [.ref a1, .ref b1, .ref c1, .ref lk, .ref bh, .int 0, .null])), (a1, .inr (3, [.ref a2, .ref a3, .int 8])), (a2, .inl (cyI, 10, .inl f)), (a3, .inr (2, [.ref a4, .int 0]))] s.heap := hP
  have hl := lv_entry ([.ref h0, .int p1]) (n := 2) (Nat.le_of_ble_eq_true rfl)
  rw [lg_entry_eq]
  generalize (lg_sl ([.ref h0, .int p1]) ++ List.replicate (2 - (lg_sl ([.ref h0, .int p1])).length) Slot.unset).toArray = ls at hl ⊢
  have hl : lv_has ls 2 [(0, .ref h0), (1, .int p1)] := hl
  refine lv_iload_n hx hb dX7_refusalFromNow_0 rfl (lv_at hl 1 rfl) ?_
  refine vp_callSi (va_Run.run (va_runS (As := [.int p1]) (rest := []) ⟨hx, hb, hml, hown, hts⟩ (kX7_isSchedule l dC dI cyI cyZ p1) (va_cwS 1 hts gX7_refusalFromNow_X7_isSchedule rfl rfl rfl (by decide +kernel) ⟨Nat.le_of_ble_eq_true rfl, Nat.le_of_ble_eq_true rfl⟩) (bs_RS hB (hP.sub (ws' := []) [] rfl)) rfl rfl hl.1 rfl (lv_room (Nat.le_of_ble_eq_true rfl)) dX7_refusalFromNow_1 ⟨Nat.le_of_ble_eq_true rfl, Nat.le_of_ble_eq_true rfl⟩)) (fun r_1 hr_1 => ?_)
  refine lv_if_ne (tgt := 10) hx hb dX7_refusalFromNow_4 (by decide) (fun c_2 => ?_) (fun c_2 => ?_)
  · skip
    have ic_2 := ci_ne (rfl : Int32.toInt r_1 = _) (show Int32.toInt 0 = 0 by decide) c_2
    have hs9 := hr_1.2.2 (hr_1.1.resolve_left c_2)
    refine lv_aload_n hx hb dX7_refusalFromNow_10 rfl (lv_at hl 0 rfl) ?_
    refine va_get (D := (dC, dI)) (ci := 5) (v := .ref a1) (C := RX7) (T := TX7) (N := 7) hx hb hts hnX7_refusalFromNow_X7 hown hK hP 0 rfl rfl 0 (by decide) (hts (.fieldLink RX7 10 "RingMeets" "now" "LRingMeets$Scene;") (by decide +kernel)) (fun _ h9 => h9) rfl dX7_refusalFromNow_11 ?_
    refine vp_callSi (va_Run.run (va_runV (As := []) (rest := []) ⟨hx, hb, hml, hown, hts⟩ (kX4_stands l dC dI cyI cyZ a1 a2 a3 f hf) (cwV 0 hts gX7_refusalFromNow_X4_stands rfl rfl rfl (by decide +kernel) ⟨Nat.le_of_ble_eq_true rfl, Nat.le_of_ble_eq_true rfl⟩) (bs_RV hB (hP.sub (ws' := [(a1, .inr (3, [.ref a2, .ref a3, .int 8])), (a2, .inl (cyI, 10, .inl f))]) [1, 2] rfl) 0 rfl rfl) rfl rfl hl.1 rfl (lv_room (Nat.le_of_ble_eq_true rfl)) dX7_refusalFromNow_14 ⟨Nat.le_of_ble_eq_true rfl, Nat.le_of_ble_eq_true rfl⟩)) (fun r_3 hr_3 => ?_)
    obtain rfl : r_3 = 0 := hr_3
    refine lv_if_ne (tgt := 25) hx hb dX7_refusalFromNow_17 (by decide) (fun c_4 => ?_) (fun c_4 => ?_)
    · skip
      exact absurd c_4 (by decide)
    · skip
      refine lv_bipush (v := (-3)) hx hb dX7_refusalFromNow_20 (by decide) ?_
      refine lv_goto (tgt := 26) hx hb dX7_refusalFromNow_22 (by decide) ?_
      exact W.iret (v := (-3)) hx hb hr (fun t ht hW => ⟨(-3), rfl, ⟨(show (-3) = sp_sched p1 by unfold sp_sched; (repeat' split) <;> first | rfl | (exfalso; omega)), by decide⟩, ht⟩) (fun q h => by cases h) dX7_refusalFromNow_26
  · skip
    have ic_2 := ci_eq (rfl : Int32.toInt r_1 = _) (show Int32.toInt 0 = 0 by decide) c_2
    have hs9 := hr_1.2.1 c_2
    refine lv_bipush (v := (-2)) hx hb dX7_refusalFromNow_7 (by decide) ?_
    exact W.iret (v := (-2)) hx hb hr (fun t ht hW => ⟨(-2), rfl, ⟨(show (-2) = sp_sched p1 by unfold sp_sched; (repeat' split) <;> first | rfl | (exfalso; omega)), by decide⟩, ht⟩) (fun q h => by cases h) dX7_refusalFromNow_9

set_option maxHeartbeats 4000000 in
set_option maxRecDepth 100000 in
theorem kX7_first (l : Launch) (dC : Nat → ClassId) (dI : Nat → Nat → Nat) (cyI cyZ : ClassId) (h0 a1 b1 c1 lk bh a2 a3 a4 : Nat) (f : Nat → Int32) (hf : ∀ j, f j = 0) (p1 : Int32) : Met l yX7_first wsX7_first ({ frames := 5, cells := 0, slots := 0, locals := 106 }) (bs_R dC dI cyI cyZ [.ref h0, .int p1] [(h0, .inr (5, [.ref a1, .ref b1, .ref c1, .ref lk, .ref bh, .int 0, .null])), (a1, .inr (3, [.ref a2, .ref a3, .int 8])), (a2, .inl (cyI, 10, .inl f)), (a3, .inr (2, [.ref a4, .int 0]))]) (vp_Si (fun r : Int32 => r = sp_sched p1)) 0 0 (fun _ => False) := by
  refine Met.ofW (cc := cX7_first) (maxL := 4) (ret := (some .int)) (by decide) rfl ?_
  intro p e s m args below meth c s₁ B hml hv
  obtain ⟨rfl, hB, hP⟩ := hv
  have hK := hB.1
  have hN := hB.2
  have hx := B.exec
  have hb := B.bytes
  have hr := B.returns
  have hts := atoms_spec (ws := wsX7_first) B.pre
  have hown : s.vm.findClass RX7 = some m.cls := findClass_of_methodNamed B.named
  have hlocks := B.notSynchronized
  have hP : va_P (dC, dI) vwCl [(h0, .inr (5, [.ref a1, .ref b1, .ref c1, .ref lk, .ref bh, .int 0, .null])), (a1, .inr (3, [.ref a2, .ref a3, .int 8])), (a2, .inl (cyI, 10, .inl f)), (a3, .inr (2, [.ref a4, .int 0]))] s.heap := hP
  have hl := lv_entry ([.ref h0, .int p1]) (n := 4) (Nat.le_of_ble_eq_true rfl)
  rw [lg_entry_eq]
  generalize (lg_sl ([.ref h0, .int p1]) ++ List.replicate (4 - (lg_sl ([.ref h0, .int p1])).length) Slot.unset).toArray = ls at hl ⊢
  have hl : lv_has ls 4 [(0, .ref h0), (1, .int p1)] := hl
  refine lv_aload_n hx hb dX7_first_0 rfl (lv_at hl 0 rfl) ?_
  refine lv_iload_n hx hb dX7_first_1 rfl (lv_at hl 1 rfl) ?_
  refine vp_callSi (va_Run.run (va_runV (As := [.int p1]) (rest := []) ⟨hx, hb, hml, hown, hts⟩ (kX7_refusalFromNow l dC dI cyI cyZ h0 a1 b1 c1 lk bh a2 a3 a4 f hf p1) (cwV 1 hts gX7_first_X7_refusalFromNow rfl rfl rfl (by decide +kernel) ⟨Nat.le_of_ble_eq_true rfl, Nat.le_of_ble_eq_true rfl⟩) (bs_RV hB (hP.sub (ws' := [(h0, .inr (5, [.ref a1, .ref b1, .ref c1, .ref lk, .ref bh, .int 0, .null])), (a1, .inr (3, [.ref a2, .ref a3, .int 8])), (a2, .inl (cyI, 10, .inl f)), (a3, .inr (2, [.ref a4, .int 0]))]) [0, 1, 2, 3] rfl) 0 rfl rfl) rfl rfl hl.1 rfl (lv_room (Nat.le_of_ble_eq_true rfl)) dX7_first_2 ⟨Nat.le_of_ble_eq_true rfl, Nat.le_of_ble_eq_true rfl⟩)) (fun r_1 hr_1 => ?_)
  refine lv_istore_n (lv' := [(2, .int r_1), (0, .ref h0), (1, .int p1)]) hx hb dX7_first_5 rfl hl (by decide) rfl (fun ls hl => ?_)
  refine lv_iload_n hx hb dX7_first_6 rfl (lv_at hl 0 rfl) ?_
  refine lv_if_eq (tgt := 12) hx hb dX7_first_7 (by decide) (fun c_2 => ?_) (fun c_2 => ?_)
  · skip
    have ic_2 := ci_eq (rfl : Int32.toInt r_1 = _) (show Int32.toInt 0 = 0 by decide) c_2
    exact absurd c_2 hr_1.2
  · skip
    have ic_2 := ci_ne (rfl : Int32.toInt r_1 = _) (show Int32.toInt 0 = 0 by decide) c_2
    refine lv_iload_n hx hb dX7_first_10 rfl (lv_at hl 0 rfl) ?_
    exact W.iret (v := r_1) hx hb hr (fun t ht hW => ⟨r_1, rfl, hr_1.1, ht⟩) (fun q h => by cases h) dX7_first_11

set_option maxHeartbeats 4000000 in
set_option maxRecDepth 100000 in
theorem kX7_blind (l : Launch) (dC : Nat → ClassId) (dI : Nat → Nat → Nat) (cyI cyZ : ClassId) (h0 a1 b1 c1 lk bh a2 a3 a4 : Nat) (f : Nat → Int32) (hf : ∀ j, f j = 0) (p1 : Int32) : Met l yX7_blind wsX7_blind ({ frames := 5, cells := 0, slots := 0, locals := 106 }) (bs_R dC dI cyI cyZ [.ref h0, .int p1] [(h0, .inr (5, [.ref a1, .ref b1, .ref c1, .ref lk, .ref bh, .int 0, .null])), (a1, .inr (3, [.ref a2, .ref a3, .int 8])), (a2, .inl (cyI, 10, .inl f)), (a3, .inr (2, [.ref a4, .int 0]))]) (vp_Si (fun r : Int32 => r = sp_sched p1)) 0 0 (fun _ => False) := by
  refine Met.ofW (cc := cX7_blind) (maxL := 4) (ret := (some .int)) (by decide) rfl ?_
  intro p e s m args below meth c s₁ B hml hv
  obtain ⟨rfl, hB, hP⟩ := hv
  have hK := hB.1
  have hN := hB.2
  have hx := B.exec
  have hb := B.bytes
  have hr := B.returns
  have hts := atoms_spec (ws := wsX7_blind) B.pre
  have hown : s.vm.findClass RX7 = some m.cls := findClass_of_methodNamed B.named
  have hlocks := B.notSynchronized
  have hP : va_P (dC, dI) vwCl [(h0, .inr (5, [.ref a1, .ref b1, .ref c1, .ref lk, .ref bh, .int 0, .null])), (a1, .inr (3, [.ref a2, .ref a3, .int 8])), (a2, .inl (cyI, 10, .inl f)), (a3, .inr (2, [.ref a4, .int 0]))] s.heap := hP
  have hl := lv_entry ([.ref h0, .int p1]) (n := 4) (Nat.le_of_ble_eq_true rfl)
  rw [lg_entry_eq]
  generalize (lg_sl ([.ref h0, .int p1]) ++ List.replicate (4 - (lg_sl ([.ref h0, .int p1])).length) Slot.unset).toArray = ls at hl ⊢
  have hl : lv_has ls 4 [(0, .ref h0), (1, .int p1)] := hl
  refine lv_aload_n hx hb dX7_blind_0 rfl (lv_at hl 0 rfl) ?_
  refine lv_iload_n hx hb dX7_blind_1 rfl (lv_at hl 1 rfl) ?_
  refine vp_callSi (va_Run.run (va_runV (As := [.int p1]) (rest := []) ⟨hx, hb, hml, hown, hts⟩ (kX7_refusalFromNow l dC dI cyI cyZ h0 a1 b1 c1 lk bh a2 a3 a4 f hf p1) (cwV 1 hts gX7_blind_X7_refusalFromNow rfl rfl rfl (by decide +kernel) ⟨Nat.le_of_ble_eq_true rfl, Nat.le_of_ble_eq_true rfl⟩) (bs_RV hB (hP.sub (ws' := [(h0, .inr (5, [.ref a1, .ref b1, .ref c1, .ref lk, .ref bh, .int 0, .null])), (a1, .inr (3, [.ref a2, .ref a3, .int 8])), (a2, .inl (cyI, 10, .inl f)), (a3, .inr (2, [.ref a4, .int 0]))]) [0, 1, 2, 3] rfl) 0 rfl rfl) rfl rfl hl.1 rfl (lv_room (Nat.le_of_ble_eq_true rfl)) dX7_blind_2 ⟨Nat.le_of_ble_eq_true rfl, Nat.le_of_ble_eq_true rfl⟩)) (fun r_1 hr_1 => ?_)
  refine lv_istore_n (lv' := [(2, .int r_1), (0, .ref h0), (1, .int p1)]) hx hb dX7_blind_5 rfl hl (by decide) rfl (fun ls hl => ?_)
  refine lv_iload_n hx hb dX7_blind_6 rfl (lv_at hl 0 rfl) ?_
  refine lv_if_eq (tgt := 12) hx hb dX7_blind_7 (by decide) (fun c_2 => ?_) (fun c_2 => ?_)
  · skip
    have ic_2 := ci_eq (rfl : Int32.toInt r_1 = _) (show Int32.toInt 0 = 0 by decide) c_2
    exact absurd c_2 hr_1.2
  · skip
    have ic_2 := ci_ne (rfl : Int32.toInt r_1 = _) (show Int32.toInt 0 = 0 by decide) c_2
    refine lv_iload_n hx hb dX7_blind_10 rfl (lv_at hl 0 rfl) ?_
    exact W.iret (v := r_1) hx hb hr (fun t ht hW => ⟨r_1, rfl, hr_1.1, ht⟩) (fun q h => by cases h) dX7_blind_11

set_option maxHeartbeats 4000000 in
set_option maxRecDepth 100000 in
theorem kX7_used (l : Launch) (dC : Nat → ClassId) (dI : Nat → Nat → Nat) (cyI cyZ : ClassId) (h0 a1 b1 c1 lk bh a2 a3 a4 : Nat) (f : Nat → Int32) (hf : ∀ j, f j = 0) (p1 : Int32) : Met l yX7_used wsX7_used ({ frames := 5, cells := 0, slots := 0, locals := 106 }) (bs_R dC dI cyI cyZ [.ref h0, .int p1] [(h0, .inr (5, [.ref a1, .ref b1, .ref c1, .ref lk, .ref bh, .int 0, .null])), (a1, .inr (3, [.ref a2, .ref a3, .int 8])), (a2, .inl (cyI, 10, .inl f)), (a3, .inr (2, [.ref a4, .int 0]))]) (vp_Si (fun r : Int32 => r = sp_sched p1)) 0 0 (fun _ => False) := by
  refine Met.ofW (cc := cX7_used) (maxL := 4) (ret := (some .int)) (by decide) rfl ?_
  intro p e s m args below meth c s₁ B hml hv
  obtain ⟨rfl, hB, hP⟩ := hv
  have hK := hB.1
  have hN := hB.2
  have hx := B.exec
  have hb := B.bytes
  have hr := B.returns
  have hts := atoms_spec (ws := wsX7_used) B.pre
  have hown : s.vm.findClass RX7 = some m.cls := findClass_of_methodNamed B.named
  have hlocks := B.notSynchronized
  have hP : va_P (dC, dI) vwCl [(h0, .inr (5, [.ref a1, .ref b1, .ref c1, .ref lk, .ref bh, .int 0, .null])), (a1, .inr (3, [.ref a2, .ref a3, .int 8])), (a2, .inl (cyI, 10, .inl f)), (a3, .inr (2, [.ref a4, .int 0]))] s.heap := hP
  have hl := lv_entry ([.ref h0, .int p1]) (n := 4) (Nat.le_of_ble_eq_true rfl)
  rw [lg_entry_eq]
  generalize (lg_sl ([.ref h0, .int p1]) ++ List.replicate (4 - (lg_sl ([.ref h0, .int p1])).length) Slot.unset).toArray = ls at hl ⊢
  have hl : lv_has ls 4 [(0, .ref h0), (1, .int p1)] := hl
  refine lv_aload_n hx hb dX7_used_0 rfl (lv_at hl 0 rfl) ?_
  refine lv_iload_n hx hb dX7_used_1 rfl (lv_at hl 1 rfl) ?_
  refine vp_callSi (va_Run.run (va_runV (As := [.int p1]) (rest := []) ⟨hx, hb, hml, hown, hts⟩ (kX7_refusalFromNow l dC dI cyI cyZ h0 a1 b1 c1 lk bh a2 a3 a4 f hf p1) (cwV 1 hts gX7_used_X7_refusalFromNow rfl rfl rfl (by decide +kernel) ⟨Nat.le_of_ble_eq_true rfl, Nat.le_of_ble_eq_true rfl⟩) (bs_RV hB (hP.sub (ws' := [(h0, .inr (5, [.ref a1, .ref b1, .ref c1, .ref lk, .ref bh, .int 0, .null])), (a1, .inr (3, [.ref a2, .ref a3, .int 8])), (a2, .inl (cyI, 10, .inl f)), (a3, .inr (2, [.ref a4, .int 0]))]) [0, 1, 2, 3] rfl) 0 rfl rfl) rfl rfl hl.1 rfl (lv_room (Nat.le_of_ble_eq_true rfl)) dX7_used_2 ⟨Nat.le_of_ble_eq_true rfl, Nat.le_of_ble_eq_true rfl⟩)) (fun r_1 hr_1 => ?_)
  refine lv_istore_n (lv' := [(2, .int r_1), (0, .ref h0), (1, .int p1)]) hx hb dX7_used_5 rfl hl (by decide) rfl (fun ls hl => ?_)
  refine lv_iload_n hx hb dX7_used_6 rfl (lv_at hl 0 rfl) ?_
  refine lv_if_eq (tgt := 12) hx hb dX7_used_7 (by decide) (fun c_2 => ?_) (fun c_2 => ?_)
  · skip
    have ic_2 := ci_eq (rfl : Int32.toInt r_1 = _) (show Int32.toInt 0 = 0 by decide) c_2
    exact absurd c_2 hr_1.2
  · skip
    have ic_2 := ci_ne (rfl : Int32.toInt r_1 = _) (show Int32.toInt 0 = 0 by decide) c_2
    refine lv_iload_n hx hb dX7_used_10 rfl (lv_at hl 0 rfl) ?_
    exact W.iret (v := r_1) hx hb hr (fun t ht hW => ⟨r_1, rfl, hr_1.1, ht⟩) (fun q h => by cases h) dX7_used_11

set_option maxHeartbeats 4000000 in
set_option maxRecDepth 100000 in
theorem kX7_meets (l : Launch) (dC : Nat → ClassId) (dI : Nat → Nat → Nat) (cyI cyZ : ClassId) (h0 a1 b1 c1 lk bh a2 a3 a4 : Nat) (f : Nat → Int32) (hf : ∀ j, f j = 0) (p1 p2 : Int32) : Met l yX7_meets wsX7_meets ({ frames := 5, cells := 0, slots := 0, locals := 106 }) (bs_R dC dI cyI cyZ [.ref h0, .int p1, .int p2] [(h0, .inr (5, [.ref a1, .ref b1, .ref c1, .ref lk, .ref bh, .int 0, .null])), (a1, .inr (3, [.ref a2, .ref a3, .int 8])), (a2, .inl (cyI, 10, .inl f)), (a3, .inr (2, [.ref a4, .int 0]))]) (vp_Si (fun r : Int32 => r = sp_meets p1 p2)) 0 0 (fun _ => False) := by
  refine Met.ofW (cc := cX7_meets) (maxL := 5) (ret := (some .int)) (by decide) rfl ?_
  intro p e s m args below meth c s₁ B hml hv
  obtain ⟨rfl, hB, hP⟩ := hv
  have hK := hB.1
  have hN := hB.2
  have hx := B.exec
  have hb := B.bytes
  have hr := B.returns
  have hts := atoms_spec (ws := wsX7_meets) B.pre
  have hown : s.vm.findClass RX7 = some m.cls := findClass_of_methodNamed B.named
  have hlocks := B.notSynchronized
  have hP : va_P (dC, dI) vwCl [(h0, .inr (5, [.ref a1, .ref b1, .ref c1, .ref lk, .ref bh, .int 0, .null])), (a1, .inr (3, [.ref a2, .ref a3, .int 8])), (a2, .inl (cyI, 10, .inl f)), (a3, .inr (2, [.ref a4, .int 0]))] s.heap := hP
  have hl := lv_entry ([.ref h0, .int p1, .int p2]) (n := 5) (Nat.le_of_ble_eq_true rfl)
  rw [lg_entry_eq]
  generalize (lg_sl ([.ref h0, .int p1, .int p2]) ++ List.replicate (5 - (lg_sl ([.ref h0, .int p1, .int p2])).length) Slot.unset).toArray = ls at hl ⊢
  have hl : lv_has ls 5 [(0, .ref h0), (1, .int p1), (2, .int p2)] := hl
  refine lv_iload_n hx hb dX7_meets_0 rfl (lv_at hl 2 rfl) ?_
  refine lv_if_lt (tgt := 9) hx hb dX7_meets_1 (by decide) (fun c_1 => ?_) (fun c_1 => ?_)
  · skip
    have ic_1 := ci_lt (rfl : Int32.toInt p2 = _) (show Int32.toInt 0 = 0 by decide) c_1
    refine lv_bipush (v := (-2)) hx hb dX7_meets_9 (by decide) ?_
    exact W.iret (v := (-2)) hx hb hr (fun t ht hW => ⟨(-2), rfl, (show (-2) = sp_meets p1 p2 by unfold sp_meets; rw [if_pos (by omega)]), ht⟩) (fun q h => by cases h) dX7_meets_11
  · skip
    have ic_1 := ci_nlt (rfl : Int32.toInt p2 = _) (show Int32.toInt 0 = 0 by decide) c_1
    refine lv_iload_n hx hb dX7_meets_4 rfl (lv_at hl 2 rfl) ?_
    refine lv_iconst (v := 4) hx hb dX7_meets_5 (by decide) ?_
    refine lv_icmp_le (tgt := 12) hx hb dX7_meets_6 (by decide) (fun c_2 => ?_) (fun c_2 => ?_)
    · skip
      have ic_2 := ci_le (rfl : Int32.toInt p2 = _) (show Int32.toInt 4 = 4 by decide) c_2
      refine lv_aload_n hx hb dX7_meets_12 rfl (lv_at hl 0 rfl) ?_
      refine lv_iload_n hx hb dX7_meets_13 rfl (lv_at hl 1 rfl) ?_
      refine vp_callSi (va_Run.run (va_runV (As := [.int p1]) (rest := []) ⟨hx, hb, hml, hown, hts⟩ (kX7_refusalFromNow l dC dI cyI cyZ h0 a1 b1 c1 lk bh a2 a3 a4 f hf p1) (cwV 1 hts gX7_meets_X7_refusalFromNow rfl rfl rfl (by decide +kernel) ⟨Nat.le_of_ble_eq_true rfl, Nat.le_of_ble_eq_true rfl⟩) (bs_RV hB (hP.sub (ws' := [(h0, .inr (5, [.ref a1, .ref b1, .ref c1, .ref lk, .ref bh, .int 0, .null])), (a1, .inr (3, [.ref a2, .ref a3, .int 8])), (a2, .inl (cyI, 10, .inl f)), (a3, .inr (2, [.ref a4, .int 0]))]) [0, 1, 2, 3] rfl) 0 rfl rfl) rfl rfl hl.1 rfl (lv_room (Nat.le_of_ble_eq_true rfl)) dX7_meets_14 ⟨Nat.le_of_ble_eq_true rfl, Nat.le_of_ble_eq_true rfl⟩)) (fun r_3 hr_3 => ?_)
      refine lv_istore_n (lv' := [(3, .int r_3), (0, .ref h0), (1, .int p1), (2, .int p2)]) hx hb dX7_meets_17 rfl hl (by decide) rfl (fun ls hl => ?_)
      refine lv_iload_n hx hb dX7_meets_18 rfl (lv_at hl 0 rfl) ?_
      refine lv_if_eq (tgt := 24) hx hb dX7_meets_19 (by decide) (fun c_4 => ?_) (fun c_4 => ?_)
      · skip
        have ic_4 := ci_eq (rfl : Int32.toInt r_3 = _) (show Int32.toInt 0 = 0 by decide) c_4
        exact absurd c_4 hr_3.2
      · skip
        have ic_4 := ci_ne (rfl : Int32.toInt r_3 = _) (show Int32.toInt 0 = 0 by decide) c_4
        refine lv_iload_n hx hb dX7_meets_22 rfl (lv_at hl 0 rfl) ?_
        exact W.iret (v := r_3) hx hb hr (fun t ht hW => ⟨r_3, rfl, (show r_3 = sp_meets p1 p2 by rw [hr_3.1]; unfold sp_sched sp_meets; (repeat' split) <;> first | rfl | (exfalso; omega)), ht⟩) (fun q h => by cases h) dX7_meets_23
    · skip
      have ic_2 := ci_nle (rfl : Int32.toInt p2 = _) (show Int32.toInt 4 = 4 by decide) c_2
      refine lv_bipush (v := (-2)) hx hb dX7_meets_9 (by decide) ?_
      exact W.iret (v := (-2)) hx hb hr (fun t ht hW => ⟨(-2), rfl, (show (-2) = sp_meets p1 p2 by unfold sp_meets; rw [if_pos (by omega)]), ht⟩) (fun q h => by cases h) dX7_meets_11

theorem hnX7_restore_X7 : ∀ w ∈ wsX70, w ∈ wsX7_restore := fun _ h => List.mem_cons_of_mem _ (List.mem_append_left _ (List.mem_append_left _ (List.mem_append_right _ h)))
set_option maxHeartbeats 4000000 in
set_option maxRecDepth 100000 in
theorem kX7_restore (l : Launch) (dC : Nat → ClassId) (dI : Nat → Nat → Nat) (cyI cyZ : ClassId) (h0 a1 b1 c1 lk bh a2 a3 a4 : Nat) (f : Nat → Int32) (hf : ∀ j, f j = 0) (p1 : Int32) : Met l yX7_restore wsX7_restore ({ frames := 1, cells := 0, slots := 0, locals := 21 }) (bs_R dC dI cyI cyZ [.ref h0, .int p1] [(h0, .inr (5, [.ref a1, .ref b1, .ref c1, .ref lk, .ref bh, .int 0, .null])), (a1, .inr (3, [.ref a2, .ref a3, .int 8])), (a2, .inl (cyI, 10, .inl f)), (a3, .inr (2, [.ref a4, .int 0]))]) (vp_Si (fun r : Int32 => r = sp_restore p1)) 0 0 (fun _ => False) := by
  refine Met.ofW (cc := cX7_restore) (maxL := 2) (ret := (some .int)) (by decide) rfl ?_
  intro p e s m args below meth c s₁ B hml hv
  obtain ⟨rfl, hB, hP⟩ := hv
  have hK := hB.1
  have hN := hB.2
  have hx := B.exec
  have hb := B.bytes
  have hr := B.returns
  have hts := atoms_spec (ws := wsX7_restore) B.pre
  have hown : s.vm.findClass RX7 = some m.cls := findClass_of_methodNamed B.named
  have hlocks := B.notSynchronized
  have hP : va_P (dC, dI) vwCl [(h0, .inr (5, [.ref a1, .ref b1, .ref c1, .ref lk, .ref bh, .int 0, .null])), (a1, .inr (3, [.ref a2, .ref a3, .int 8])), (a2, .inl (cyI, 10, .inl f)), (a3, .inr (2, [.ref a4, .int 0]))] s.heap := hP
  have hl := lv_entry ([.ref h0, .int p1]) (n := 2) (Nat.le_of_ble_eq_true rfl)
  rw [lg_entry_eq]
  generalize (lg_sl ([.ref h0, .int p1]) ++ List.replicate (2 - (lg_sl ([.ref h0, .int p1])).length) Slot.unset).toArray = ls at hl ⊢
  have hl : lv_has ls 2 [(0, .ref h0), (1, .int p1)] := hl
  refine lv_iload_n hx hb dX7_restore_0 rfl (lv_at hl 1 rfl) ?_
  refine lv_if_lt (tgt := 9) hx hb dX7_restore_1 (by decide) (fun c_1 => ?_) (fun c_1 => ?_)
  · skip
    have ic_1 := ci_lt (rfl : Int32.toInt p1 = _) (show Int32.toInt 0 = 0 by decide) c_1
    refine lv_bipush (v := (-2)) hx hb dX7_restore_9 (by decide) ?_
    exact W.iret (v := (-2)) hx hb hr (fun t ht hW => ⟨(-2), rfl, (show (-2) = sp_restore p1 by unfold sp_restore; (repeat' split) <;> first | rfl | (exfalso; omega)), ht⟩) (fun q h => by cases h) dX7_restore_11
  · skip
    have ic_1 := ci_nlt (rfl : Int32.toInt p1 = _) (show Int32.toInt 0 = 0 by decide) c_1
    refine lv_iload_n hx hb dX7_restore_4 rfl (lv_at hl 1 rfl) ?_
    refine lv_iconst (v := 2) hx hb dX7_restore_5 (by decide) ?_
    refine lv_icmp_lt (tgt := 12) hx hb dX7_restore_6 (by decide) (fun c_2 => ?_) (fun c_2 => ?_)
    · skip
      have ic_2 := ci_lt (rfl : Int32.toInt p1 = _) (show Int32.toInt 2 = 2 by decide) c_2
      refine lv_aload_n hx hb dX7_restore_12 rfl (lv_at hl 0 rfl) ?_
      refine va_get (D := (dC, dI)) (ci := 5) (v := .int 0) (C := RX7) (T := TX7) (N := 7) hx hb hts hnX7_restore_X7 hown hK hP 0 rfl rfl 5 (by decide) (hts (.fieldLink RX7 199 "RingMeets" "kept" "I") (by decide +kernel)) (fun _ h9 => h9) rfl dX7_restore_13 ?_
      refine lv_iload_n hx hb dX7_restore_16 rfl (lv_at hl 1 rfl) ?_
      refine vp_callSi (va_Run.run (va_runS (As := [.int 0, .int p1]) (rest := []) ⟨hx, hb, hml, hown, hts⟩ (kX5_has l dC dI cyI cyZ 0 p1) (va_cwS 2 hts gX7_restore_X5_has rfl rfl rfl (by decide +kernel) ⟨Nat.le_of_ble_eq_true rfl, Nat.le_of_ble_eq_true rfl⟩) (bs_RS hB (hP.sub (ws' := []) [] rfl)) rfl rfl hl.1 rfl (lv_room (Nat.le_of_ble_eq_true rfl)) dX7_restore_17 ⟨Nat.le_of_ble_eq_true rfl, Nat.le_of_ble_eq_true rfl⟩)) (fun r_3 hr_3 => ?_)
      obtain rfl : r_3 = 0 := hr_3.2 rfl
      refine lv_if_ne (tgt := 26) hx hb dX7_restore_20 (by decide) (fun c_4 => ?_) (fun c_4 => ?_)
      · skip
        exact absurd c_4 (by decide)
      · skip
        refine lv_bipush (v := (-3)) hx hb dX7_restore_23 (by decide) ?_
        exact W.iret (v := (-3)) hx hb hr (fun t ht hW => ⟨(-3), rfl, (show (-3) = sp_restore p1 by unfold sp_restore; (repeat' split) <;> first | rfl | (exfalso; omega)), ht⟩) (fun q h => by cases h) dX7_restore_25
    · skip
      have ic_2 := ci_nlt (rfl : Int32.toInt p1 = _) (show Int32.toInt 2 = 2 by decide) c_2
      refine lv_bipush (v := (-2)) hx hb dX7_restore_9 (by decide) ?_
      exact W.iret (v := (-2)) hx hb hr (fun t ht hW => ⟨(-2), rfl, (show (-2) = sp_restore p1 by unfold sp_restore; (repeat' split) <;> first | rfl | (exfalso; omega)), ht⟩) (fun q h => by cases h) dX7_restore_11

theorem hnX7_ring_X4 : ∀ w ∈ wsX40, w ∈ wsX7_ring := fun _ h => List.mem_cons_of_mem _ (List.mem_append_right _ h)
theorem hnX7_ring_X7 : ∀ w ∈ wsX70, w ∈ wsX7_ring := fun _ h => List.mem_cons_of_mem _ (List.mem_append_left _ (List.mem_append_right _ h))
set_option maxHeartbeats 4000000 in
set_option maxRecDepth 100000 in
theorem kX7_ring (l : Launch) (dC : Nat → ClassId) (dI : Nat → Nat → Nat) (cyI cyZ : ClassId) (h0 a1 b1 c1 lk bh a2 a3 a4 : Nat) (f : Nat → Int32) (hf : ∀ j, f j = 0) (p1 : Int32) (sz : Nat) : Met l yX7_ring wsX7_ring ({ frames := 1, cells := 0, slots := 0, locals := 22 }) (bs_W dC dI cyI cyZ [.ref h0, .int p1] [(h0, .inr (5, [.ref a1, .ref b1, .ref c1, .ref lk, .ref bh, .int 0, .null])), (a1, .inr (3, [.ref a2, .ref a3, .int 8])), (a2, .inl (cyI, 10, .inl f)), (a3, .inr (2, [.ref a4, .int 0]))] sz) (va_Qi (S := Unit) (fun (r : Int32) (_ : Unit) => r = sp_ring p1) (fun _ _ => True) (va_A [(h0, .inr (5, [.ref a1, .ref b1, .ref c1, .ref lk, .ref bh, .int 0, .null])), (a1, .inr (3, [.ref a2, .ref a3, .int 8])), (a2, .inl (cyI, 10, .inl f)), (a3, .inr (2, [.ref a4, .int 0]))] sz)) 0 0 (va_A [(h0, .inr (5, [.ref a1, .ref b1, .ref c1, .ref lk, .ref bh, .int 0, .null])), (a1, .inr (3, [.ref a2, .ref a3, .int 8])), (a2, .inl (cyI, 10, .inl f)), (a3, .inr (2, [.ref a4, .int 0]))] sz) := by
  refine Met.ofW (cc := cX7_ring) (maxL := 3) (ret := (some .int)) (by decide) rfl ?_
  intro p e s m args below meth c s₁ B hml hv
  obtain ⟨rfl, hsz, hB, hP, hD0⟩ := hv
  have hK := hB.1
  have hN := hB.2
  have hx := B.exec
  have hb := B.bytes
  have hr := B.returns
  have hts := atoms_spec (ws := wsX7_ring) B.pre
  have hown : s.vm.findClass RX7 = some m.cls := findClass_of_methodNamed B.named
  have hlocks := B.notSynchronized
  subst hsz
  have hD := hD0.self (sz := s.heap.size)
  generalize hAe : va_A [(h0, .inr (5, [.ref a1, .ref b1, .ref c1, .ref lk, .ref bh, .int 0, .null])), (a1, .inr (3, [.ref a2, .ref a3, .int 8])), (a2, .inl (cyI, 10, .inl f)), (a3, .inr (2, [.ref a4, .int 0]))] s.heap.size = A at hD ⊢
  have hA : ∀ q : Nat, s.heap.size ≤ q → A q := fun q h => by rw [← hAe]; exact Or.inr h
  have hS : va_S A s.heap s.heap [] := va_S.rf
  have hP : va_P (dC, dI) vwCl [(h0, .inr (5, [.ref a1, .ref b1, .ref c1, .ref lk, .ref bh, .int 0, .null])), (a1, .inr (3, [.ref a2, .ref a3, .int 8])), (a2, .inl (cyI, 10, .inl f)), (a3, .inr (2, [.ref a4, .int 0]))] s.heap := hP
  have hl := lv_entry ([.ref h0, .int p1]) (n := 3) (Nat.le_of_ble_eq_true rfl)
  rw [lg_entry_eq]
  generalize (lg_sl ([.ref h0, .int p1]) ++ List.replicate (3 - (lg_sl ([.ref h0, .int p1])).length) Slot.unset).toArray = ls at hl ⊢
  have hl : lv_has ls 3 [(0, .ref h0), (1, .int p1)] := hl
  refine lv_iload_n hx hb dX7_ring_0 rfl (lv_at hl 1 rfl) ?_
  refine lv_iconst (v := 3) hx hb dX7_ring_1 (by decide) ?_
  refine lv_icmp_lt (tgt := 11) hx hb dX7_ring_2 (by decide) (fun c_1 => ?_) (fun c_1 => ?_)
  · skip
    have ic_1 := ci_lt (rfl : Int32.toInt p1 = _) (show Int32.toInt 3 = 3 by decide) c_1
    refine lv_bipush (v := (-2)) hx hb dX7_ring_11 (by decide) ?_
    exact W.iret (v := (-2)) hx hb hr (fun t ht hW => ⟨⟨(-2), (), rfl, (show (-2) = sp_ring p1 by unfold sp_ring; (repeat' split) <;> first | rfl | (exfalso; omega)), trivial⟩, hS.F ht⟩) hS.2.2 dX7_ring_13
  · skip
    have ic_1 := ci_nlt (rfl : Int32.toInt p1 = _) (show Int32.toInt 3 = 3 by decide) c_1
    refine lv_iload_n hx hb dX7_ring_5 rfl (lv_at hl 1 rfl) ?_
    refine lv_bipush (v := 10) hx hb dX7_ring_6 (by decide) ?_
    refine lv_icmp_le (tgt := 14) hx hb dX7_ring_8 (by decide) (fun c_2 => ?_) (fun c_2 => ?_)
    · skip
      have ic_2 := ci_le (rfl : Int32.toInt p1 = _) (show Int32.toInt 10 = 10 by decide) c_2
      refine lv_aload_n hx hb dX7_ring_14 rfl (lv_at hl 0 rfl) ?_
      refine va_get (D := (dC, dI)) (ci := 5) (v := .ref a1) (C := RX7) (T := TX7) (N := 7) hx hb hts hnX7_ring_X7 hown hK hP 0 rfl rfl 0 (by decide) (hts (.fieldLink RX7 10 "RingMeets" "now" "LRingMeets$Scene;") (by decide +kernel)) (fun _ h9 => h9) rfl dX7_ring_15 ?_
      refine va_getN (D := (dC, dI)) (ci := 3) (v := .int 8) (C := RX4) (T := TX4) (N := 3) hx hb hts hnX7_ring_X4 hown hK hP 1 rfl rfl 2 (by decide) (hN.fld 4 rfl) (fun _ h9 => h9) rfl dX7_ring_18 ?_
      refine lv_istore_n (lv' := [(2, .int 8), (0, .ref h0), (1, .int p1)]) hx hb dX7_ring_21 rfl hl (by decide) rfl (fun ls hl => ?_)
      refine lv_aload_n hx hb dX7_ring_22 rfl (lv_at hl 1 rfl) ?_
      refine va_get (D := (dC, dI)) (ci := 5) (v := .ref a1) (C := RX7) (T := TX7) (N := 7) hx hb hts hnX7_ring_X7 hown hK hP 0 rfl rfl 0 (by decide) (hts (.fieldLink RX7 10 "RingMeets" "now" "LRingMeets$Scene;") (by decide +kernel)) (fun _ h9 => h9) rfl dX7_ring_23 ?_
      refine lv_iload_n hx hb dX7_ring_26 rfl (lv_at hl 2 rfl) ?_
      have f_3 := va_free (wc := [(a1, .inr (3, [.ref a2, .ref a3, .int 8])), (a2, .inl (cyI, 10, .inl f))]) hD hS hA [1, 2] rfl
      refine va_callv (va_runV (As := [.int p1]) (rest := []) ⟨hx, hb, hml, hown, hts⟩ (kX4_empty l dC dI cyI cyZ a1 a2 a3 f p1 _) (cwV 1 hts gX7_ring_X4_empty rfl rfl rfl (by decide +kernel) ⟨Nat.le_of_ble_eq_true rfl, Nat.le_of_ble_eq_true rfl⟩) (bs_WV hB (hP.sub (ws' := [(a1, .inr (3, [.ref a2, .ref a3, .int 8])), (a2, .inl (cyI, 10, .inl f))]) [1, 2] rfl) (hD.sub (ws' := [(a1, .inr (3, [.ref a2, .ref a3, .int 8])), (a2, .inl (cyI, 10, .inl f))]) [1, 2] (by decide) rfl) 0 rfl rfl) rfl rfl hl.1 rfl (lv_room (Nat.le_of_ble_eq_true rfl)) dX7_ring_27 ⟨Nat.le_of_ble_eq_true rfl, Nat.le_of_ble_eq_true rfl⟩) hS (fun q _ h => f_3 q h) f_3 (fun uh_4 t H1 locs ht hvm h_4 hB1 hz1 hk1 hS => ?_)
      obtain ⟨hP, hD⟩ := va_join (wr := [(h0, .inr (5, [.ref a1, .ref b1, .ref c1, .ref lk, .ref bh, .int 0, .null])), (a3, .inr (2, [.ref a4, .int 0]))]) (w1 := []) hP hD [1, 2] [0, 3] rfl rfl (by decide) (by decide) hk1 f_3 bs_nil bs_nilD
      generalize H1 = H at hP hS ⊢
      have hP : va_P (dC, dI) vwCl [(h0, .inr (5, [.ref a1, .ref b1, .ref c1, .ref lk, .ref bh, .int 0, .null])), (a3, .inr (2, [.ref a4, .int 0]))] _ := hP
      have hD : va_D A [(h0, .inr (5, [.ref a1, .ref b1, .ref c1, .ref lk, .ref bh, .int 0, .null])), (a3, .inr (2, [.ref a4, .int 0]))] := hD
      refine lv_iload_n hx hb dX7_ring_30 rfl (lv_at hl 0 rfl) ?_
      exact W.iret (v := 8) hx hb hr (fun t ht hW => ⟨⟨8, (), rfl, (show 8 = sp_ring p1 by unfold sp_ring; (repeat' split) <;> first | rfl | (exfalso; omega)), trivial⟩, hS.F ht⟩) hS.2.2 dX7_ring_31
    · skip
      have ic_2 := ci_nle (rfl : Int32.toInt p1 = _) (show Int32.toInt 10 = 10 by decide) c_2
      refine lv_bipush (v := (-2)) hx hb dX7_ring_11 (by decide) ?_
      exact W.iret (v := (-2)) hx hb hr (fun t ht hW => ⟨⟨(-2), (), rfl, (show (-2) = sp_ring p1 by unfold sp_ring; (repeat' split) <;> first | rfl | (exfalso; omega)), trivial⟩, hS.F ht⟩) hS.2.2 dX7_ring_13

theorem hnX7_stand_X7 : ∀ w ∈ wsX70, w ∈ wsX7_stand := fun _ h => List.mem_cons_of_mem _ (List.mem_append_left _ (List.mem_append_right _ h))
set_option maxHeartbeats 4000000 in
set_option maxRecDepth 100000 in
theorem kX7_stand (l : Launch) (dC : Nat → ClassId) (dI : Nat → Nat → Nat) (cyI cyZ : ClassId) (h0 a1 b1 c1 lk bh a2 a3 a4 : Nat) (f : Nat → Int32) (hf : ∀ j, f j = 0) (p1 p2 : Int32) (sz : Nat) : Met l yX7_stand wsX7_stand ({ frames := 3, cells := 0, slots := 0, locals := 64 }) (bs_W dC dI cyI cyZ [.ref h0, .int p1, .int p2] [(h0, .inr (5, [.ref a1, .ref b1, .ref c1, .ref lk, .ref bh, .int 0, .null])), (a1, .inr (3, [.ref a2, .ref a3, .int 8])), (a2, .inl (cyI, 10, .inl f)), (a3, .inr (2, [.ref a4, .int 0]))] sz) (va_Qi (S := Unit) (fun (r : Int32) (_ : Unit) => r = sp_stand p1 p2) (fun _ _ => True) (va_A [(h0, .inr (5, [.ref a1, .ref b1, .ref c1, .ref lk, .ref bh, .int 0, .null])), (a1, .inr (3, [.ref a2, .ref a3, .int 8])), (a2, .inl (cyI, 10, .inl f)), (a3, .inr (2, [.ref a4, .int 0]))] sz)) 0 0 (va_A [(h0, .inr (5, [.ref a1, .ref b1, .ref c1, .ref lk, .ref bh, .int 0, .null])), (a1, .inr (3, [.ref a2, .ref a3, .int 8])), (a2, .inl (cyI, 10, .inl f)), (a3, .inr (2, [.ref a4, .int 0]))] sz) := by
  refine Met.ofW (cc := cX7_stand) (maxL := 4) (ret := (some .int)) (by decide) rfl ?_
  intro p e s m args below meth c s₁ B hml hv
  obtain ⟨rfl, hsz, hB, hP, hD0⟩ := hv
  have hK := hB.1
  have hN := hB.2
  have hx := B.exec
  have hb := B.bytes
  have hr := B.returns
  have hts := atoms_spec (ws := wsX7_stand) B.pre
  have hown : s.vm.findClass RX7 = some m.cls := findClass_of_methodNamed B.named
  have hlocks := B.notSynchronized
  subst hsz
  have hD := hD0.self (sz := s.heap.size)
  generalize hAe : va_A [(h0, .inr (5, [.ref a1, .ref b1, .ref c1, .ref lk, .ref bh, .int 0, .null])), (a1, .inr (3, [.ref a2, .ref a3, .int 8])), (a2, .inl (cyI, 10, .inl f)), (a3, .inr (2, [.ref a4, .int 0]))] s.heap.size = A at hD ⊢
  have hA : ∀ q : Nat, s.heap.size ≤ q → A q := fun q h => by rw [← hAe]; exact Or.inr h
  have hS : va_S A s.heap s.heap [] := va_S.rf
  have hP : va_P (dC, dI) vwCl [(h0, .inr (5, [.ref a1, .ref b1, .ref c1, .ref lk, .ref bh, .int 0, .null])), (a1, .inr (3, [.ref a2, .ref a3, .int 8])), (a2, .inl (cyI, 10, .inl f)), (a3, .inr (2, [.ref a4, .int 0]))] s.heap := hP
  have hl := lv_entry ([.ref h0, .int p1, .int p2]) (n := 4) (Nat.le_of_ble_eq_true rfl)
  rw [lg_entry_eq]
  generalize (lg_sl ([.ref h0, .int p1, .int p2]) ++ List.replicate (4 - (lg_sl ([.ref h0, .int p1, .int p2])).length) Slot.unset).toArray = ls at hl ⊢
  have hl : lv_has ls 4 [(0, .ref h0), (1, .int p1), (2, .int p2)] := hl
  refine lv_aload_n hx hb dX7_stand_0 rfl (lv_at hl 0 rfl) ?_
  refine va_get (D := (dC, dI)) (ci := 5) (v := .ref a1) (C := RX7) (T := TX7) (N := 7) hx hb hts hnX7_stand_X7 hown hK hP 0 rfl rfl 0 (by decide) (hts (.fieldLink RX7 10 "RingMeets" "now" "LRingMeets$Scene;") (by decide +kernel)) (fun _ h9 => h9) rfl dX7_stand_1 ?_
  refine lv_iload_n hx hb dX7_stand_4 rfl (lv_at hl 1 rfl) ?_
  refine vp_callSi (va_Run.run (va_runV (As := [.int p1]) (rest := []) ⟨hx, hb, hml, hown, hts⟩ (kX4_hasCell l dC dI cyI cyZ a1 a2 a3 p1) (cwV 1 hts gX7_stand_X4_hasCell rfl rfl rfl (by decide +kernel) ⟨Nat.le_of_ble_eq_true rfl, Nat.le_of_ble_eq_true rfl⟩) (bs_RV hB (hP.sub (ws' := [(a1, .inr (3, [.ref a2, .ref a3, .int 8]))]) [1] rfl) 0 rfl rfl) rfl rfl hl.1 rfl (lv_room (Nat.le_of_ble_eq_true rfl)) dX7_stand_5 ⟨Nat.le_of_ble_eq_true rfl, Nat.le_of_ble_eq_true rfl⟩)) (fun r_1 hr_1 => ?_)
  refine lv_if_ne (tgt := 13) hx hb dX7_stand_8 (by decide) (fun c_2 => ?_) (fun c_2 => ?_)
  · skip
    have ic_2 := ci_ne (rfl : Int32.toInt r_1 = _) (show Int32.toInt 0 = 0 by decide) c_2
    have hs9 := hr_1.2.1 (hr_1.1.resolve_left c_2)
    refine lv_iload_n hx hb dX7_stand_13 rfl (lv_at hl 2 rfl) ?_
    refine lv_if_lt (tgt := 22) hx hb dX7_stand_14 (by decide) (fun c_3 => ?_) (fun c_3 => ?_)
    · skip
      have ic_3 := ci_lt (rfl : Int32.toInt p2 = _) (show Int32.toInt 0 = 0 by decide) c_3
      refine lv_bipush (v := (-2)) hx hb dX7_stand_22 (by decide) ?_
      exact W.iret (v := (-2)) hx hb hr (fun t ht hW => ⟨⟨(-2), (), rfl, (show (-2) = sp_stand p1 p2 by unfold sp_stand; (repeat' split) <;> first | rfl | (exfalso; omega)), trivial⟩, hS.F ht⟩) hS.2.2 dX7_stand_24
    · skip
      have ic_3 := ci_nlt (rfl : Int32.toInt p2 = _) (show Int32.toInt 0 = 0 by decide) c_3
      refine lv_iload_n hx hb dX7_stand_17 rfl (lv_at hl 2 rfl) ?_
      refine lv_iconst (v := 5) hx hb dX7_stand_18 (by decide) ?_
      refine lv_icmp_le (tgt := 25) hx hb dX7_stand_19 (by decide) (fun c_4 => ?_) (fun c_4 => ?_)
      · skip
        have ic_4 := ci_le (rfl : Int32.toInt p2 = _) (show Int32.toInt 5 = 5 by decide) c_4
        refine lv_aload_n hx hb dX7_stand_25 rfl (lv_at hl 0 rfl) ?_
        refine va_get (D := (dC, dI)) (ci := 5) (v := .ref a1) (C := RX7) (T := TX7) (N := 7) hx hb hts hnX7_stand_X7 hown hK hP 0 rfl rfl 0 (by decide) (hts (.fieldLink RX7 10 "RingMeets" "now" "LRingMeets$Scene;") (by decide +kernel)) (fun _ h9 => h9) rfl dX7_stand_26 ?_
        refine lv_iload_n hx hb dX7_stand_29 rfl (lv_at hl 1 rfl) ?_
        refine vp_callSi (va_Run.run (va_runV (As := [.int p1]) (rest := []) ⟨hx, hb, hml, hown, hts⟩ (kX4_walkersOn l dC dI cyI cyZ a1 a2 a3 f hf p1) (cwV 1 hts gX7_stand_X4_walkersOn rfl rfl rfl (by decide +kernel) ⟨Nat.le_of_ble_eq_true rfl, Nat.le_of_ble_eq_true rfl⟩) (bs_RV hB (hP.sub (ws' := [(a1, .inr (3, [.ref a2, .ref a3, .int 8])), (a2, .inl (cyI, 10, .inl f))]) [1, 2] rfl) 0 rfl rfl) rfl rfl hl.1 rfl (lv_room (Nat.le_of_ble_eq_true rfl)) dX7_stand_30 ⟨Nat.le_of_ble_eq_true rfl, Nat.le_of_ble_eq_true rfl⟩)) (fun r_5 hr_5 => ?_)
        obtain rfl : r_5 = 0 := hr_5
        refine lv_istore_n (lv' := [(3, .int 0), (0, .ref h0), (1, .int p1), (2, .int p2)]) hx hb dX7_stand_33 rfl hl (by decide) rfl (fun ls hl => ?_)
        refine lv_aload_n hx hb dX7_stand_34 rfl (lv_at hl 1 rfl) ?_
        refine va_get (D := (dC, dI)) (ci := 5) (v := .ref a1) (C := RX7) (T := TX7) (N := 7) hx hb hts hnX7_stand_X7 hown hK hP 0 rfl rfl 0 (by decide) (hts (.fieldLink RX7 10 "RingMeets" "now" "LRingMeets$Scene;") (by decide +kernel)) (fun _ h9 => h9) rfl dX7_stand_35 ?_
        refine vp_callSi (va_Run.run (va_runV (As := []) (rest := []) ⟨hx, hb, hml, hown, hts⟩ (kX4_walkersInAll l dC dI cyI cyZ a1 a2 a3 f hf) (cwV 0 hts gX7_stand_X4_walkersInAll rfl rfl rfl (by decide +kernel) ⟨Nat.le_of_ble_eq_true rfl, Nat.le_of_ble_eq_true rfl⟩) (bs_RV hB (hP.sub (ws' := [(a1, .inr (3, [.ref a2, .ref a3, .int 8])), (a2, .inl (cyI, 10, .inl f))]) [1, 2] rfl) 0 rfl rfl) rfl rfl hl.1 rfl (lv_room (Nat.le_of_ble_eq_true rfl)) dX7_stand_38 ⟨Nat.le_of_ble_eq_true rfl, Nat.le_of_ble_eq_true rfl⟩)) (fun r_6 hr_6 => ?_)
        obtain rfl : r_6 = 0 := hr_6
        refine lv_iload_n hx hb dX7_stand_41 rfl (lv_at hl 0 rfl) ?_
        refine lv_isub hx hb dX7_stand_42 ?_
        refine lv_topi (fun x_7 ex_7 => ?_)
        obtain rfl : 0 = x_7 := (ex_7.trans (by decide)).symm
        refine lv_iload_n hx hb dX7_stand_43 rfl (lv_at hl 3 rfl) ?_
        refine lv_iadd hx hb dX7_stand_44 ?_
        refine lv_topi (fun x_8 ex_8 => ?_)
        obtain rfl : p2 = x_8 := (ex_8.trans (Int32.zero_add _)).symm
        refine lv_iconst (v := 5) hx hb dX7_stand_45 (by decide) ?_
        refine lv_icmp_le (tgt := 52) hx hb dX7_stand_46 (by decide) (fun c_9 => ?_) (fun c_9 => ?_)
        · skip
          have ic_9 := ci_le (rfl : Int32.toInt p2 = _) (show Int32.toInt 5 = 5 by decide) c_9
          refine lv_aload_n hx hb dX7_stand_52 rfl (lv_at hl 1 rfl) ?_
          refine va_get (D := (dC, dI)) (ci := 5) (v := .ref a1) (C := RX7) (T := TX7) (N := 7) hx hb hts hnX7_stand_X7 hown hK hP 0 rfl rfl 0 (by decide) (hts (.fieldLink RX7 10 "RingMeets" "now" "LRingMeets$Scene;") (by decide +kernel)) (fun _ h9 => h9) rfl dX7_stand_53 ?_
          refine lv_iload_n hx hb dX7_stand_56 rfl (lv_at hl 2 rfl) ?_
          refine lv_iload_n hx hb dX7_stand_57 rfl (lv_at hl 3 rfl) ?_
          have f_10 := va_free (wc := [(a1, .inr (3, [.ref a2, .ref a3, .int 8])), (a2, .inl (cyI, 10, .inl f))]) hD hS hA [1, 2] rfl
          refine va_callv (va_runV (As := [.int p1, .int p2]) (rest := []) ⟨hx, hb, hml, hown, hts⟩ (kX4_put l dC dI cyI cyZ a1 a2 a3 f p1 p2 _) (cwV 2 hts gX7_stand_X4_put rfl rfl rfl (by decide +kernel) ⟨Nat.le_of_ble_eq_true rfl, Nat.le_of_ble_eq_true rfl⟩) (bs_WV hB (hP.sub (ws' := [(a1, .inr (3, [.ref a2, .ref a3, .int 8])), (a2, .inl (cyI, 10, .inl f))]) [1, 2] rfl) (hD.sub (ws' := [(a1, .inr (3, [.ref a2, .ref a3, .int 8])), (a2, .inl (cyI, 10, .inl f))]) [1, 2] (by decide) rfl) 0 rfl rfl) rfl rfl hl.1 rfl (lv_room (Nat.le_of_ble_eq_true rfl)) dX7_stand_58 ⟨Nat.le_of_ble_eq_true rfl, Nat.le_of_ble_eq_true rfl⟩) hS (fun q _ h => f_10 q h) f_10 (fun uh_11 t H1 locs ht hvm h_11 hB1 hz1 hk1 hS => ?_)
          obtain ⟨hP1, hD1⟩ := hB1
          rw [ht] at hP1
          obtain ⟨hP, hD⟩ := va_join (wr := [(h0, .inr (5, [.ref a1, .ref b1, .ref c1, .ref lk, .ref bh, .int 0, .null])), (a3, .inr (2, [.ref a4, .int 0]))]) (w1 := [(a1, .inr (3, [.ref a2, .ref a3, .int 8])), (a2, .inl (cyI, 10, .inl uh_11))]) hP hD [1, 2] [0, 3] rfl rfl (by decide) (by decide) hk1 f_10 hP1 hD1
          generalize H1 = H at hP hS ⊢
          have hP : va_P (dC, dI) vwCl [(h0, .inr (5, [.ref a1, .ref b1, .ref c1, .ref lk, .ref bh, .int 0, .null])), (a3, .inr (2, [.ref a4, .int 0])), (a1, .inr (3, [.ref a2, .ref a3, .int 8])), (a2, .inl (cyI, 10, .inl uh_11))] _ := hP
          have hD : va_D A [(h0, .inr (5, [.ref a1, .ref b1, .ref c1, .ref lk, .ref bh, .int 0, .null])), (a3, .inr (2, [.ref a4, .int 0])), (a1, .inr (3, [.ref a2, .ref a3, .int 8])), (a2, .inl (cyI, 10, .inl uh_11))] := hD
          refine lv_iload_n hx hb dX7_stand_61 rfl (lv_at hl 0 rfl) ?_
          exact W.iret (v := 0) hx hb hr (fun t ht hW => ⟨⟨0, (), rfl, (show 0 = sp_stand p1 p2 by unfold sp_stand; (repeat' split) <;> first | rfl | (exfalso; omega)), trivial⟩, hS.F ht⟩) hS.2.2 dX7_stand_62
        · skip
          have ic_9 := ci_nle (rfl : Int32.toInt p2 = _) (show Int32.toInt 5 = 5 by decide) c_9
          exfalso; omega
      · skip
        have ic_4 := ci_nle (rfl : Int32.toInt p2 = _) (show Int32.toInt 5 = 5 by decide) c_4
        refine lv_bipush (v := (-2)) hx hb dX7_stand_22 (by decide) ?_
        exact W.iret (v := (-2)) hx hb hr (fun t ht hW => ⟨⟨(-2), (), rfl, (show (-2) = sp_stand p1 p2 by unfold sp_stand; (repeat' split) <;> first | rfl | (exfalso; omega)), trivial⟩, hS.F ht⟩) hS.2.2 dX7_stand_24
  · skip
    have ic_2 := ci_eq (rfl : Int32.toInt r_1 = _) (show Int32.toInt 0 = 0 by decide) c_2
    have hs9 := hr_1.2.2 c_2
    refine lv_iconst (v := (-1)) hx hb dX7_stand_11 (by decide) ?_
    exact W.iret (v := (-1)) hx hb hr (fun t ht hW => ⟨⟨(-1), (), rfl, (show (-1) = sp_stand p1 p2 by unfold sp_stand; (repeat' split) <;> first | rfl | (exfalso; omega)), trivial⟩, hS.F ht⟩) hS.2.2 dX7_stand_12

theorem hnX7_rule_X4 : ∀ w ∈ wsX40, w ∈ wsX7_rule := fun _ h => List.mem_cons_of_mem _ (List.mem_append_left _ (List.mem_append_right _ h))
theorem hnX7_rule_X7 : ∀ w ∈ wsX70, w ∈ wsX7_rule := fun _ h => List.mem_cons_of_mem _ (List.mem_append_left _ (List.mem_append_left _ (List.mem_append_right _ h)))
set_option maxHeartbeats 4000000 in
set_option maxRecDepth 100000 in
theorem kX7_rule (l : Launch) (dC : Nat → ClassId) (dI : Nat → Nat → Nat) (cyI cyZ : ClassId) (h0 a1 b1 c1 lk bh a2 a3 a4 : Nat) (f : Nat → Int32) (hf : ∀ j, f j = 0) (gg : Nat → Int32) (p1 p2 p3 p4 p5 : Int32) (sz : Nat) : Met l yX7_rule wsX7_rule ({ frames := 3, cells := 0, slots := 0, locals := 70 }) (bs_W dC dI cyI cyZ [.ref h0, .int p1, .int p2, .int p3, .int p4, .int p5] [(h0, .inr (5, [.ref a1, .ref b1, .ref c1, .ref lk, .ref bh, .int 0, .null])), (a1, .inr (3, [.ref a2, .ref a3, .int 8])), (a2, .inl (cyI, 10, .inl f)), (a3, .inr (2, [.ref a4, .int 0])), (a4, .inl (cyI, 60, .inl gg))] sz) (va_Qi (S := Unit) (fun (r : Int32) (_ : Unit) => r = sp_rule p1 p2 p3 p4 p5) (fun _ _ => True) (va_A [(h0, .inr (5, [.ref a1, .ref b1, .ref c1, .ref lk, .ref bh, .int 0, .null])), (a1, .inr (3, [.ref a2, .ref a3, .int 8])), (a2, .inl (cyI, 10, .inl f)), (a3, .inr (2, [.ref a4, .int 0])), (a4, .inl (cyI, 60, .inl gg))] sz)) 0 0 (va_A [(h0, .inr (5, [.ref a1, .ref b1, .ref c1, .ref lk, .ref bh, .int 0, .null])), (a1, .inr (3, [.ref a2, .ref a3, .int 8])), (a2, .inl (cyI, 10, .inl f)), (a3, .inr (2, [.ref a4, .int 0])), (a4, .inl (cyI, 60, .inl gg))] sz) := by
  refine Met.ofW (cc := cX7_rule) (maxL := 6) (ret := (some .int)) (by decide) rfl ?_
  intro p e s m args below meth c s₁ B hml hv
  obtain ⟨rfl, hsz, hB, hP, hD0⟩ := hv
  have hK := hB.1
  have hN := hB.2
  have hx := B.exec
  have hb := B.bytes
  have hr := B.returns
  have hts := atoms_spec (ws := wsX7_rule) B.pre
  have hown : s.vm.findClass RX7 = some m.cls := findClass_of_methodNamed B.named
  have hlocks := B.notSynchronized
  subst hsz
  have hD := hD0.self (sz := s.heap.size)
  generalize hAe : va_A [(h0, .inr (5, [.ref a1, .ref b1, .ref c1, .ref lk, .ref bh, .int 0, .null])), (a1, .inr (3, [.ref a2, .ref a3, .int 8])), (a2, .inl (cyI, 10, .inl f)), (a3, .inr (2, [.ref a4, .int 0])), (a4, .inl (cyI, 60, .inl gg))] s.heap.size = A at hD ⊢
  have hA : ∀ q : Nat, s.heap.size ≤ q → A q := fun q h => by rw [← hAe]; exact Or.inr h
  have hS : va_S A s.heap s.heap [] := va_S.rf
  have hP : va_P (dC, dI) vwCl [(h0, .inr (5, [.ref a1, .ref b1, .ref c1, .ref lk, .ref bh, .int 0, .null])), (a1, .inr (3, [.ref a2, .ref a3, .int 8])), (a2, .inl (cyI, 10, .inl f)), (a3, .inr (2, [.ref a4, .int 0])), (a4, .inl (cyI, 60, .inl gg))] s.heap := hP
  have hl := lv_entry ([.ref h0, .int p1, .int p2, .int p3, .int p4, .int p5]) (n := 6) (Nat.le_of_ble_eq_true rfl)
  rw [lg_entry_eq]
  generalize (lg_sl ([.ref h0, .int p1, .int p2, .int p3, .int p4, .int p5]) ++ List.replicate (6 - (lg_sl ([.ref h0, .int p1, .int p2, .int p3, .int p4, .int p5])).length) Slot.unset).toArray = ls at hl ⊢
  have hl : lv_has ls 6 [(0, .ref h0), (1, .int p1), (2, .int p2), (3, .int p3), (4, .int p4), (5, .int p5)] := hl
  refine lv_iload_n hx hb dX7_rule_0 rfl (lv_at hl 1 rfl) ?_
  refine lv_if_lt (tgt := 18) hx hb dX7_rule_1 (by decide) (fun c_1 => ?_) (fun c_1 => ?_)
  · skip
    have ic_1 := ci_lt (rfl : Int32.toInt p1 = _) (show Int32.toInt 0 = 0 by decide) c_1
    refine lv_bipush (v := (-2)) hx hb dX7_rule_18 (by decide) ?_
    exact W.iret (v := (-2)) hx hb hr (fun t ht hW => ⟨⟨(-2), (), rfl, (show (-2) = sp_rule p1 p2 p3 p4 p5 by unfold sp_rule; (repeat' split) <;> first | rfl | (exfalso; omega)), trivial⟩, hS.F ht⟩) hS.2.2 dX7_rule_20
  · skip
    have ic_1 := ci_nlt (rfl : Int32.toInt p1 = _) (show Int32.toInt 0 = 0 by decide) c_1
    refine lv_iload_n hx hb dX7_rule_4 rfl (lv_at hl 1 rfl) ?_
    refine lv_iconst (v := 5) hx hb dX7_rule_5 (by decide) ?_
    refine lv_icmp_gt (tgt := 18) hx hb dX7_rule_6 (by decide) (fun c_2 => ?_) (fun c_2 => ?_)
    · skip
      have ic_2 := ci_lt (show Int32.toInt 5 = 5 by decide) (rfl : Int32.toInt p1 = _) c_2
      refine lv_bipush (v := (-2)) hx hb dX7_rule_18 (by decide) ?_
      exact W.iret (v := (-2)) hx hb hr (fun t ht hW => ⟨⟨(-2), (), rfl, (show (-2) = sp_rule p1 p2 p3 p4 p5 by unfold sp_rule; (repeat' split) <;> first | rfl | (exfalso; omega)), trivial⟩, hS.F ht⟩) hS.2.2 dX7_rule_20
    · skip
      have ic_2 := ci_nlt (show Int32.toInt 5 = 5 by decide) (rfl : Int32.toInt p1 = _) c_2
      refine lv_iload_n hx hb dX7_rule_9 rfl (lv_at hl 2 rfl) ?_
      refine lv_if_lt (tgt := 18) hx hb dX7_rule_10 (by decide) (fun c_3 => ?_) (fun c_3 => ?_)
      · skip
        have ic_3 := ci_lt (rfl : Int32.toInt p2 = _) (show Int32.toInt 0 = 0 by decide) c_3
        refine lv_bipush (v := (-2)) hx hb dX7_rule_18 (by decide) ?_
        exact W.iret (v := (-2)) hx hb hr (fun t ht hW => ⟨⟨(-2), (), rfl, (show (-2) = sp_rule p1 p2 p3 p4 p5 by unfold sp_rule; (repeat' split) <;> first | rfl | (exfalso; omega)), trivial⟩, hS.F ht⟩) hS.2.2 dX7_rule_20
      · skip
        have ic_3 := ci_nlt (rfl : Int32.toInt p2 = _) (show Int32.toInt 0 = 0 by decide) c_3
        refine lv_iload_n hx hb dX7_rule_13 rfl (lv_at hl 2 rfl) ?_
        refine lv_iconst (v := 5) hx hb dX7_rule_14 (by decide) ?_
        refine lv_icmp_lt (tgt := 21) hx hb dX7_rule_15 (by decide) (fun c_4 => ?_) (fun c_4 => ?_)
        · skip
          have ic_4 := ci_lt (rfl : Int32.toInt p2 = _) (show Int32.toInt 5 = 5 by decide) c_4
          refine lv_iload_n hx hb dX7_rule_21 rfl (lv_at hl 3 rfl) ?_
          refine lv_if_lt (tgt := 54) hx hb dX7_rule_22 (by decide) (fun c_5 => ?_) (fun c_5 => ?_)
          · skip
            have ic_5 := ci_lt (rfl : Int32.toInt p3 = _) (show Int32.toInt 0 = 0 by decide) c_5
            refine lv_bipush (v := (-2)) hx hb dX7_rule_54 (by decide) ?_
            exact W.iret (v := (-2)) hx hb hr (fun t ht hW => ⟨⟨(-2), (), rfl, (show (-2) = sp_rule p1 p2 p3 p4 p5 by unfold sp_rule; (repeat' split) <;> first | rfl | (exfalso; omega)), trivial⟩, hS.F ht⟩) hS.2.2 dX7_rule_56
          · skip
            have ic_5 := ci_nlt (rfl : Int32.toInt p3 = _) (show Int32.toInt 0 = 0 by decide) c_5
            refine lv_iload_n hx hb dX7_rule_25 rfl (lv_at hl 3 rfl) ?_
            refine lv_iconst (v := 2) hx hb dX7_rule_26 (by decide) ?_
            refine lv_icmp_gt (tgt := 54) hx hb dX7_rule_27 (by decide) (fun c_6 => ?_) (fun c_6 => ?_)
            · skip
              have ic_6 := ci_lt (show Int32.toInt 2 = 2 by decide) (rfl : Int32.toInt p3 = _) c_6
              refine lv_bipush (v := (-2)) hx hb dX7_rule_54 (by decide) ?_
              exact W.iret (v := (-2)) hx hb hr (fun t ht hW => ⟨⟨(-2), (), rfl, (show (-2) = sp_rule p1 p2 p3 p4 p5 by unfold sp_rule; (repeat' split) <;> first | rfl | (exfalso; omega)), trivial⟩, hS.F ht⟩) hS.2.2 dX7_rule_56
            · skip
              have ic_6 := ci_nlt (show Int32.toInt 2 = 2 by decide) (rfl : Int32.toInt p3 = _) c_6
              refine lv_iload hx hb dX7_rule_30 (lv_at hl 4 rfl) ?_
              refine lv_iconst (v := 1) hx hb dX7_rule_32 (by decide) ?_
              refine lv_icmp_lt (tgt := 54) hx hb dX7_rule_33 (by decide) (fun c_7 => ?_) (fun c_7 => ?_)
              · skip
                have ic_7 := ci_lt (rfl : Int32.toInt p4 = _) (show Int32.toInt 1 = 1 by decide) c_7
                refine lv_bipush (v := (-2)) hx hb dX7_rule_54 (by decide) ?_
                exact W.iret (v := (-2)) hx hb hr (fun t ht hW => ⟨⟨(-2), (), rfl, (show (-2) = sp_rule p1 p2 p3 p4 p5 by unfold sp_rule; (repeat' split) <;> first | rfl | (exfalso; omega)), trivial⟩, hS.F ht⟩) hS.2.2 dX7_rule_56
              · skip
                have ic_7 := ci_nlt (rfl : Int32.toInt p4 = _) (show Int32.toInt 1 = 1 by decide) c_7
                refine lv_iload hx hb dX7_rule_36 (lv_at hl 4 rfl) ?_
                refine lv_bipush (v := 10) hx hb dX7_rule_38 (by decide) ?_
                refine lv_icmp_gt (tgt := 54) hx hb dX7_rule_40 (by decide) (fun c_8 => ?_) (fun c_8 => ?_)
                · skip
                  have ic_8 := ci_lt (show Int32.toInt 10 = 10 by decide) (rfl : Int32.toInt p4 = _) c_8
                  refine lv_bipush (v := (-2)) hx hb dX7_rule_54 (by decide) ?_
                  exact W.iret (v := (-2)) hx hb hr (fun t ht hW => ⟨⟨(-2), (), rfl, (show (-2) = sp_rule p1 p2 p3 p4 p5 by unfold sp_rule; (repeat' split) <;> first | rfl | (exfalso; omega)), trivial⟩, hS.F ht⟩) hS.2.2 dX7_rule_56
                · skip
                  have ic_8 := ci_nlt (show Int32.toInt 10 = 10 by decide) (rfl : Int32.toInt p4 = _) c_8
                  refine lv_iload hx hb dX7_rule_43 (lv_at hl 5 rfl) ?_
                  refine lv_if_lt (tgt := 54) hx hb dX7_rule_45 (by decide) (fun c_9 => ?_) (fun c_9 => ?_)
                  · skip
                    have ic_9 := ci_lt (rfl : Int32.toInt p5 = _) (show Int32.toInt 0 = 0 by decide) c_9
                    refine lv_bipush (v := (-2)) hx hb dX7_rule_54 (by decide) ?_
                    exact W.iret (v := (-2)) hx hb hr (fun t ht hW => ⟨⟨(-2), (), rfl, (show (-2) = sp_rule p1 p2 p3 p4 p5 by unfold sp_rule; (repeat' split) <;> first | rfl | (exfalso; omega)), trivial⟩, hS.F ht⟩) hS.2.2 dX7_rule_56
                  · skip
                    have ic_9 := ci_nlt (rfl : Int32.toInt p5 = _) (show Int32.toInt 0 = 0 by decide) c_9
                    refine lv_iload hx hb dX7_rule_48 (lv_at hl 5 rfl) ?_
                    refine lv_iconst (v := 2) hx hb dX7_rule_50 (by decide) ?_
                    refine lv_icmp_le (tgt := 57) hx hb dX7_rule_51 (by decide) (fun c_10 => ?_) (fun c_10 => ?_)
                    · skip
                      have ic_10 := ci_le (rfl : Int32.toInt p5 = _) (show Int32.toInt 2 = 2 by decide) c_10
                      refine lv_aload_n hx hb dX7_rule_57 rfl (lv_at hl 0 rfl) ?_
                      refine va_get (D := (dC, dI)) (ci := 5) (v := .ref a1) (C := RX7) (T := TX7) (N := 7) hx hb hts hnX7_rule_X7 hown hK hP 0 rfl rfl 0 (by decide) (hts (.fieldLink RX7 10 "RingMeets" "now" "LRingMeets$Scene;") (by decide +kernel)) (fun _ h9 => h9) rfl dX7_rule_58 ?_
                      refine va_getN (D := (dC, dI)) (ci := 3) (v := .ref a3) (C := RX4) (T := TX4) (N := 3) hx hb hts hnX7_rule_X4 hown hK hP 1 rfl rfl 1 (by decide) (hN.fld 3 rfl) (fun _ h9 => h9) rfl dX7_rule_61 ?_
                      refine lv_iload_n hx hb dX7_rule_64 rfl (lv_at hl 1 rfl) ?_
                      refine lv_iload_n hx hb dX7_rule_65 rfl (lv_at hl 2 rfl) ?_
                      refine lv_iload_n hx hb dX7_rule_66 rfl (lv_at hl 3 rfl) ?_
                      refine lv_iload hx hb dX7_rule_67 (lv_at hl 4 rfl) ?_
                      refine lv_iload hx hb dX7_rule_69 (lv_at hl 5 rfl) ?_
                      have f_11 := va_free (wc := [(a3, .inr (2, [.ref a4, .int 0])), (a4, .inl (cyI, 60, .inl gg))]) hD hS hA [3, 4] rfl
                      refine va_calli (va_runV (As := [.int p1, .int p2, .int p3, .int p4, .int p5]) (rest := []) ⟨hx, hb, hml, hown, hts⟩ (kX3_append l dC dI cyI cyZ a3 a4 gg p1 p2 p3 p4 p5 _) (cwV 5 hts gX7_rule_X3_append rfl rfl rfl (by decide +kernel) ⟨Nat.le_of_ble_eq_true rfl, Nat.le_of_ble_eq_true rfl⟩) (bs_WV hB (hP.sub (ws' := [(a3, .inr (2, [.ref a4, .int 0])), (a4, .inl (cyI, 60, .inl gg))]) [3, 4] rfl) (hD.sub (ws' := [(a3, .inr (2, [.ref a4, .int 0])), (a4, .inl (cyI, 60, .inl gg))]) [3, 4] (by decide) rfl) 0 rfl rfl) rfl rfl hl.1 rfl (lv_room (Nat.le_of_ble_eq_true rfl)) dX7_rule_71 ⟨Nat.le_of_ble_eq_true rfl, Nat.le_of_ble_eq_true rfl⟩) hS (fun q _ h => f_11 q h) f_11 (fun rh_12 uh_12 t H1 locs ht hvm h_12 hB1 hz1 hk1 hS => ?_)
                      obtain ⟨hP, hD⟩ := va_join (wr := [(h0, .inr (5, [.ref a1, .ref b1, .ref c1, .ref lk, .ref bh, .int 0, .null])), (a1, .inr (3, [.ref a2, .ref a3, .int 8])), (a2, .inl (cyI, 10, .inl f))]) (w1 := []) hP hD [3, 4] [0, 1, 2] rfl rfl (by decide) (by decide) hk1 f_11 bs_nil bs_nilD
                      generalize H1 = H at hP hS ⊢
                      have hP : va_P (dC, dI) vwCl [(h0, .inr (5, [.ref a1, .ref b1, .ref c1, .ref lk, .ref bh, .int 0, .null])), (a1, .inr (3, [.ref a2, .ref a3, .int 8])), (a2, .inl (cyI, 10, .inl f))] _ := hP
                      have hD : va_D A [(h0, .inr (5, [.ref a1, .ref b1, .ref c1, .ref lk, .ref bh, .int 0, .null])), (a1, .inr (3, [.ref a2, .ref a3, .int 8])), (a2, .inl (cyI, 10, .inl f))] := hD
                      obtain rfl : rh_12 = 0 := h_12
                      exact W.iret (v := 0) hx hb hr (fun t ht hW => ⟨⟨0, (), rfl, (show 0 = sp_rule p1 p2 p3 p4 p5 by unfold sp_rule; (repeat' split) <;> first | rfl | (exfalso; omega)), trivial⟩, hS.F ht⟩) hS.2.2 dX7_rule_74
                    · skip
                      have ic_10 := ci_nle (rfl : Int32.toInt p5 = _) (show Int32.toInt 2 = 2 by decide) c_10
                      refine lv_bipush (v := (-2)) hx hb dX7_rule_54 (by decide) ?_
                      exact W.iret (v := (-2)) hx hb hr (fun t ht hW => ⟨⟨(-2), (), rfl, (show (-2) = sp_rule p1 p2 p3 p4 p5 by unfold sp_rule; (repeat' split) <;> first | rfl | (exfalso; omega)), trivial⟩, hS.F ht⟩) hS.2.2 dX7_rule_56
        · skip
          have ic_4 := ci_nlt (rfl : Int32.toInt p2 = _) (show Int32.toInt 5 = 5 by decide) c_4
          refine lv_bipush (v := (-2)) hx hb dX7_rule_18 (by decide) ?_
          exact W.iret (v := (-2)) hx hb hr (fun t ht hW => ⟨⟨(-2), (), rfl, (show (-2) = sp_rule p1 p2 p3 p4 p5 by unfold sp_rule; (repeat' split) <;> first | rfl | (exfalso; omega)), trivial⟩, hS.F ht⟩) hS.2.2 dX7_rule_20

theorem hnX7_imageOf_X7 : ∀ w ∈ wsX70, w ∈ wsX7_imageOf := fun _ h => List.mem_cons_of_mem _ (List.mem_append_right _ h)
set_option maxHeartbeats 4000000 in
set_option maxRecDepth 100000 in
theorem kX7_imageOf (l : Launch) (dC : Nat → ClassId) (dI : Nat → Nat → Nat) (cyI cyZ : ClassId) (h0 a1 b1 c1 lk bh : Nat) (p1 : Int32) : Met l yX7_imageOf wsX7_imageOf ({ frames := 0, cells := 0, slots := 0, locals := 0 }) (bs_R dC dI cyI cyZ [.ref h0, .int p1] [(h0, .inr (5, [.ref a1, .ref b1, .ref c1, .ref lk, .ref bh, .int 0, .null]))]) (va_Sr (fun a : Nat => a = b1 ∨ a = c1) (fun k => .ref k)) 0 0 (fun _ => False) := by
  refine Met.ofW (cc := cX7_imageOf) (maxL := 2) (ret := (some (.object "RingMeets$Scene"))) (by decide) rfl ?_
  intro p e s m args below meth c s₁ B hml hv
  obtain ⟨rfl, hB, hP⟩ := hv
  have hK := hB.1
  have hN := hB.2
  have hx := B.exec
  have hb := B.bytes
  have hr := B.returns
  have hts := atoms_spec (ws := wsX7_imageOf) B.pre
  have hown : s.vm.findClass RX7 = some m.cls := findClass_of_methodNamed B.named
  have hlocks := B.notSynchronized
  have hP : va_P (dC, dI) vwCl [(h0, .inr (5, [.ref a1, .ref b1, .ref c1, .ref lk, .ref bh, .int 0, .null]))] s.heap := hP
  have hl := lv_entry ([.ref h0, .int p1]) (n := 2) (Nat.le_of_ble_eq_true rfl)
  rw [lg_entry_eq]
  generalize (lg_sl ([.ref h0, .int p1]) ++ List.replicate (2 - (lg_sl ([.ref h0, .int p1])).length) Slot.unset).toArray = ls at hl ⊢
  have hl : lv_has ls 2 [(0, .ref h0), (1, .int p1)] := hl
  refine lv_iload_n hx hb dX7_imageOf_0 rfl (lv_at hl 1 rfl) ?_
  refine lv_if_ne (tgt := 11) hx hb dX7_imageOf_1 (by decide) (fun c_1 => ?_) (fun c_1 => ?_)
  · skip
    have ic_1 := ci_ne (rfl : Int32.toInt p1 = _) (show Int32.toInt 0 = 0 by decide) c_1
    refine lv_aload_n hx hb dX7_imageOf_11 rfl (lv_at hl 0 rfl) ?_
    refine va_get (D := (dC, dI)) (ci := 5) (v := .ref c1) (C := RX7) (T := TX7) (N := 7) hx hb hts hnX7_imageOf_X7 hown hK hP 0 rfl rfl 2 (by decide) (hts (.fieldLink RX7 19 "RingMeets" "secondImage" "LRingMeets$Scene;") (by decide +kernel)) (fun _ h9 => h9) rfl dX7_imageOf_12 ?_
    exact W.aret hx hb hr (Or.inl ⟨_, rfl⟩) (Or.inr ⟨_, rfl⟩) (fun t ht hW => ⟨c1, rfl, Or.inr rfl, ht⟩) (fun q h => by cases h) dX7_imageOf_15
  · skip
    have ic_1 := ci_eq (rfl : Int32.toInt p1 = _) (show Int32.toInt 0 = 0 by decide) c_1
    refine lv_aload_n hx hb dX7_imageOf_4 rfl (lv_at hl 0 rfl) ?_
    refine va_get (D := (dC, dI)) (ci := 5) (v := .ref b1) (C := RX7) (T := TX7) (N := 7) hx hb hts hnX7_imageOf_X7 hown hK hP 0 rfl rfl 1 (by decide) (hts (.fieldLink RX7 16 "RingMeets" "firstImage" "LRingMeets$Scene;") (by decide +kernel)) (fun _ h9 => h9) rfl dX7_imageOf_5 ?_
    refine lv_goto (tgt := 15) hx hb dX7_imageOf_8 (by decide) ?_
    exact W.aret hx hb hr (Or.inl ⟨_, rfl⟩) (Or.inr ⟨_, rfl⟩) (fun t ht hW => ⟨b1, rfl, Or.inl rfl, ht⟩) (fun q h => by cases h) dX7_imageOf_15

theorem hnX7_image_X7 : ∀ w ∈ wsX70, w ∈ wsX7_image := fun _ h => List.mem_cons_of_mem _ (List.mem_append_left _ (List.mem_append_left _ (List.mem_append_right _ h)))
set_option maxHeartbeats 4000000 in
set_option maxRecDepth 100000 in
theorem kX7_image (l : Launch) (dC : Nat → ClassId) (dI : Nat → Nat → Nat) (cyI cyZ : ClassId) (h0 a1 b1 c1 lk bh a2 a3 a4 : Nat) (b2 b3 b4 c2 c3 c4 : Nat) (f gg f1 g1 f2 g2 : Nat → Int32) (p1 : Int32) (sz : Nat) : Met l yX7_image wsX7_image ({ frames := 2, cells := 0, slots := 0, locals := 44 }) (bs_W dC dI cyI cyZ [.ref h0, .int p1] [(h0, .inr (5, [.ref a1, .ref b1, .ref c1, .ref lk, .ref bh, .int 0, .null])), (a1, .inr (3, [.ref a2, .ref a3, .int 8])), (a2, .inl (cyI, 10, .inl f)), (a3, .inr (2, [.ref a4, .int 0])), (a4, .inl (cyI, 60, .inl gg)), (b1, .inr (3, [.ref b2, .ref b3, .int 8])), (b2, .inl (cyI, 10, .inl f1)), (b3, .inr (2, [.ref b4, .int 0])), (b4, .inl (cyI, 60, .inl g1)), (c1, .inr (3, [.ref c2, .ref c3, .int 8])), (c2, .inl (cyI, 10, .inl f2)), (c3, .inr (2, [.ref c4, .int 0])), (c4, .inl (cyI, 60, .inl g2))] sz) (va_Qi (S := Unit) (fun (r : Int32) (_ : Unit) => r = sp_image p1) (fun _ _ => True) (va_A [(h0, .inr (5, [.ref a1, .ref b1, .ref c1, .ref lk, .ref bh, .int 0, .null])), (a1, .inr (3, [.ref a2, .ref a3, .int 8])), (a2, .inl (cyI, 10, .inl f)), (a3, .inr (2, [.ref a4, .int 0])), (a4, .inl (cyI, 60, .inl gg)), (b1, .inr (3, [.ref b2, .ref b3, .int 8])), (b2, .inl (cyI, 10, .inl f1)), (b3, .inr (2, [.ref b4, .int 0])), (b4, .inl (cyI, 60, .inl g1)), (c1, .inr (3, [.ref c2, .ref c3, .int 8])), (c2, .inl (cyI, 10, .inl f2)), (c3, .inr (2, [.ref c4, .int 0])), (c4, .inl (cyI, 60, .inl g2))] sz)) 0 0 (va_A [(h0, .inr (5, [.ref a1, .ref b1, .ref c1, .ref lk, .ref bh, .int 0, .null])), (a1, .inr (3, [.ref a2, .ref a3, .int 8])), (a2, .inl (cyI, 10, .inl f)), (a3, .inr (2, [.ref a4, .int 0])), (a4, .inl (cyI, 60, .inl gg)), (b1, .inr (3, [.ref b2, .ref b3, .int 8])), (b2, .inl (cyI, 10, .inl f1)), (b3, .inr (2, [.ref b4, .int 0])), (b4, .inl (cyI, 60, .inl g1)), (c1, .inr (3, [.ref c2, .ref c3, .int 8])), (c2, .inl (cyI, 10, .inl f2)), (c3, .inr (2, [.ref c4, .int 0])), (c4, .inl (cyI, 60, .inl g2))] sz) := by
  refine Met.ofW (cc := cX7_image) (maxL := 2) (ret := (some .int)) (by decide) rfl ?_
  intro p e s m args below meth c s₁ B hml hv
  obtain ⟨rfl, hsz, hB, hP, hD0⟩ := hv
  have hK := hB.1
  have hN := hB.2
  have hx := B.exec
  have hb := B.bytes
  have hr := B.returns
  have hts := atoms_spec (ws := wsX7_image) B.pre
  have hown : s.vm.findClass RX7 = some m.cls := findClass_of_methodNamed B.named
  have hlocks := B.notSynchronized
  subst hsz
  have hD := hD0.self (sz := s.heap.size)
  generalize hAe : va_A [(h0, .inr (5, [.ref a1, .ref b1, .ref c1, .ref lk, .ref bh, .int 0, .null])), (a1, .inr (3, [.ref a2, .ref a3, .int 8])), (a2, .inl (cyI, 10, .inl f)), (a3, .inr (2, [.ref a4, .int 0])), (a4, .inl (cyI, 60, .inl gg)), (b1, .inr (3, [.ref b2, .ref b3, .int 8])), (b2, .inl (cyI, 10, .inl f1)), (b3, .inr (2, [.ref b4, .int 0])), (b4, .inl (cyI, 60, .inl g1)), (c1, .inr (3, [.ref c2, .ref c3, .int 8])), (c2, .inl (cyI, 10, .inl f2)), (c3, .inr (2, [.ref c4, .int 0])), (c4, .inl (cyI, 60, .inl g2))] s.heap.size = A at hD ⊢
  have hA : ∀ q : Nat, s.heap.size ≤ q → A q := fun q h => by rw [← hAe]; exact Or.inr h
  have hS : va_S A s.heap s.heap [] := va_S.rf
  have hP : va_P (dC, dI) vwCl [(h0, .inr (5, [.ref a1, .ref b1, .ref c1, .ref lk, .ref bh, .int 0, .null])), (a1, .inr (3, [.ref a2, .ref a3, .int 8])), (a2, .inl (cyI, 10, .inl f)), (a3, .inr (2, [.ref a4, .int 0])), (a4, .inl (cyI, 60, .inl gg)), (b1, .inr (3, [.ref b2, .ref b3, .int 8])), (b2, .inl (cyI, 10, .inl f1)), (b3, .inr (2, [.ref b4, .int 0])), (b4, .inl (cyI, 60, .inl g1)), (c1, .inr (3, [.ref c2, .ref c3, .int 8])), (c2, .inl (cyI, 10, .inl f2)), (c3, .inr (2, [.ref c4, .int 0])), (c4, .inl (cyI, 60, .inl g2))] s.heap := hP
  have hl := lv_entry ([.ref h0, .int p1]) (n := 2) (Nat.le_of_ble_eq_true rfl)
  rw [lg_entry_eq]
  generalize (lg_sl ([.ref h0, .int p1]) ++ List.replicate (2 - (lg_sl ([.ref h0, .int p1])).length) Slot.unset).toArray = ls at hl ⊢
  have hl : lv_has ls 2 [(0, .ref h0), (1, .int p1)] := hl
  refine lv_iload_n hx hb dX7_image_0 rfl (lv_at hl 1 rfl) ?_
  refine lv_if_lt (tgt := 9) hx hb dX7_image_1 (by decide) (fun c_1 => ?_) (fun c_1 => ?_)
  · skip
    have ic_1 := ci_lt (rfl : Int32.toInt p1 = _) (show Int32.toInt 0 = 0 by decide) c_1
    refine lv_bipush (v := (-2)) hx hb dX7_image_9 (by decide) ?_
    exact W.iret (v := (-2)) hx hb hr (fun t ht hW => ⟨⟨(-2), (), rfl, (show (-2) = sp_image p1 by unfold sp_image; (repeat' split) <;> first | rfl | (exfalso; omega)), trivial⟩, hS.F ht⟩) hS.2.2 dX7_image_11
  · skip
    have ic_1 := ci_nlt (rfl : Int32.toInt p1 = _) (show Int32.toInt 0 = 0 by decide) c_1
    refine lv_iload_n hx hb dX7_image_4 rfl (lv_at hl 1 rfl) ?_
    refine lv_iconst (v := 2) hx hb dX7_image_5 (by decide) ?_
    refine lv_icmp_lt (tgt := 12) hx hb dX7_image_6 (by decide) (fun c_2 => ?_) (fun c_2 => ?_)
    · skip
      have ic_2 := ci_lt (rfl : Int32.toInt p1 = _) (show Int32.toInt 2 = 2 by decide) c_2
      refine lv_aload_n hx hb dX7_image_12 rfl (lv_at hl 0 rfl) ?_
      refine lv_iload_n hx hb dX7_image_13 rfl (lv_at hl 1 rfl) ?_
      refine va_csr (va_Run.run (va_runV (As := [.int p1]) (rest := []) ⟨hx, hb, hml, hown, hts⟩ (kX7_imageOf l dC dI cyI cyZ h0 a1 b1 c1 lk bh p1) (cwV 1 hts gX7_image_X7_imageOf rfl rfl rfl (by decide +kernel) ⟨Nat.le_of_ble_eq_true rfl, Nat.le_of_ble_eq_true rfl⟩) (bs_RV hB (hP.sub (ws' := [(h0, .inr (5, [.ref a1, .ref b1, .ref c1, .ref lk, .ref bh, .int 0, .null]))]) [0] rfl) 0 rfl rfl) rfl rfl hl.1 rfl (lv_room (Nat.le_of_ble_eq_true rfl)) dX7_image_14 ⟨Nat.le_of_ble_eq_true rfl, Nat.le_of_ble_eq_true rfl⟩)) (fun r_3 hr_3 => ?_)
      rcases hr_3 with h9 | h9
      · skip
        refine W.eq (g2 := F0 m 17 ls [.ref b1]) (by rw [h9]) ?_
        refine lv_aload_n hx hb dX7_image_17 rfl (lv_at hl 0 rfl) ?_
        refine va_get (D := (dC, dI)) (ci := 5) (v := .ref a1) (C := RX7) (T := TX7) (N := 7) hx hb hts hnX7_image_X7 hown hK hP 0 rfl rfl 0 (by decide) (hts (.fieldLink RX7 10 "RingMeets" "now" "LRingMeets$Scene;") (by decide +kernel)) (fun _ h9 => h9) rfl dX7_image_18 ?_
        have f_4 := va_free (wc := [(b1, .inr (3, [.ref b2, .ref b3, .int 8])), (b2, .inl (cyI, 10, .inl f1)), (b3, .inr (2, [.ref b4, .int 0])), (b4, .inl (cyI, 60, .inl g1)), (a1, .inr (3, [.ref a2, .ref a3, .int 8])), (a2, .inl (cyI, 10, .inl f)), (a3, .inr (2, [.ref a4, .int 0])), (a4, .inl (cyI, 60, .inl gg))]) hD hS hA [5, 6, 7, 8, 1, 2, 3, 4] rfl
        refine va_callv (va_runV (As := [.ref a1]) (rest := []) ⟨hx, hb, hml, hown, hts⟩ (kX4_copyFrom l dC dI cyI cyZ b1 b2 b3 b4 a1 a2 a3 a4 f1 g1 f gg 0 0 _) (cwV 1 hts gX7_image_X4_copyFrom rfl rfl rfl (by decide +kernel) ⟨Nat.le_of_ble_eq_true rfl, Nat.le_of_ble_eq_true rfl⟩) (bs_WV hB (hP.sub (ws' := [(b1, .inr (3, [.ref b2, .ref b3, .int 8])), (b2, .inl (cyI, 10, .inl f1)), (b3, .inr (2, [.ref b4, .int 0])), (b4, .inl (cyI, 60, .inl g1)), (a1, .inr (3, [.ref a2, .ref a3, .int 8])), (a2, .inl (cyI, 10, .inl f)), (a3, .inr (2, [.ref a4, .int 0])), (a4, .inl (cyI, 60, .inl gg))]) [5, 6, 7, 8, 1, 2, 3, 4] rfl) (hD.sub (ws' := [(b1, .inr (3, [.ref b2, .ref b3, .int 8])), (b2, .inl (cyI, 10, .inl f1)), (b3, .inr (2, [.ref b4, .int 0])), (b4, .inl (cyI, 60, .inl g1)), (a1, .inr (3, [.ref a2, .ref a3, .int 8])), (a2, .inl (cyI, 10, .inl f)), (a3, .inr (2, [.ref a4, .int 0])), (a4, .inl (cyI, 60, .inl gg))]) [5, 6, 7, 8, 1, 2, 3, 4] (by decide) rfl) 0 rfl rfl) rfl rfl hl.1 rfl (lv_room (Nat.le_of_ble_eq_true rfl)) dX7_image_21 ⟨Nat.le_of_ble_eq_true rfl, Nat.le_of_ble_eq_true rfl⟩) hS (fun q _ h => f_4 q h) f_4 (fun uh_5 t H1 locs ht hvm h_5 hB1 hz1 hk1 hS => ?_)
        obtain ⟨hP, hD⟩ := va_join (wr := [(h0, .inr (5, [.ref a1, .ref b1, .ref c1, .ref lk, .ref bh, .int 0, .null])), (c1, .inr (3, [.ref c2, .ref c3, .int 8])), (c2, .inl (cyI, 10, .inl f2)), (c3, .inr (2, [.ref c4, .int 0])), (c4, .inl (cyI, 60, .inl g2))]) (w1 := []) hP hD [5, 6, 7, 8, 1, 2, 3, 4] [0, 9, 10, 11, 12] rfl rfl (by decide) (by decide) hk1 f_4 bs_nil bs_nilD
        generalize H1 = H at hP hS ⊢
        have hP : va_P (dC, dI) vwCl [(h0, .inr (5, [.ref a1, .ref b1, .ref c1, .ref lk, .ref bh, .int 0, .null])), (c1, .inr (3, [.ref c2, .ref c3, .int 8])), (c2, .inl (cyI, 10, .inl f2)), (c3, .inr (2, [.ref c4, .int 0])), (c4, .inl (cyI, 60, .inl g2))] _ := hP
        have hD : va_D A [(h0, .inr (5, [.ref a1, .ref b1, .ref c1, .ref lk, .ref bh, .int 0, .null])), (c1, .inr (3, [.ref c2, .ref c3, .int 8])), (c2, .inl (cyI, 10, .inl f2)), (c3, .inr (2, [.ref c4, .int 0])), (c4, .inl (cyI, 60, .inl g2))] := hD
        refine lv_aload_n hx hb dX7_image_24 rfl (lv_at hl 0 rfl) ?_
        refine lv_dup hx hb dX7_image_25 rfl ?_
        refine va_get (D := (dC, dI)) (ci := 5) (v := .int 0) (C := RX7) (T := TX7) (N := 7) hx hb hts hnX7_image_X7 hown hK hP 0 rfl rfl 5 (by decide) (hts (.fieldLink RX7 199 "RingMeets" "kept" "I") (by decide +kernel)) (fun _ h9 => h9) rfl dX7_image_26 ?_
        refine lv_iconst (v := 1) hx hb dX7_image_29 (by decide) ?_
        refine lv_iload_n hx hb dX7_image_30 rfl (lv_at hl 1 rfl) ?_
        refine lv_ishl hx hb dX7_image_31 ?_
        refine lv_topi (fun x_6 ex_6 => ?_)
        refine lv_ior hx hb dX7_image_32 ?_
        refine lv_topi (fun x_7 ex_7 => ?_)
        obtain rfl : x_6 = x_7 := (ex_7.trans (Int32.zero_or)).symm
        refine va_put (D := (dC, dI)) (ci := 5) (v := .int x_6) (ty := .int) (C := RX7) (T := TX7) (N := 7) hx hb hts hnX7_image_X7 tyX7 tyX7_ok nmX7 hown hK hP hD hS 0 rfl rfl 5 (by decide) (hts (.fieldLink RX7 199 "RingMeets" "kept" "I") (by decide +kernel)) (fun _ h9 => h9) rfl (by decide +kernel) rfl rfl (Nat.le_of_ble_eq_true rfl) dX7_image_33 (fun H locs hP hD hS => ?_)
        have hP : va_P (dC, dI) vwCl [(h0, .inr (5, [.ref a1, .ref b1, .ref c1, .ref lk, .ref bh, .int x_6, .null])), (c1, .inr (3, [.ref c2, .ref c3, .int 8])), (c2, .inl (cyI, 10, .inl f2)), (c3, .inr (2, [.ref c4, .int 0])), (c4, .inl (cyI, 60, .inl g2))] _ := hP
        have hD : va_D A [(h0, .inr (5, [.ref a1, .ref b1, .ref c1, .ref lk, .ref bh, .int x_6, .null])), (c1, .inr (3, [.ref c2, .ref c3, .int 8])), (c2, .inl (cyI, 10, .inl f2)), (c3, .inr (2, [.ref c4, .int 0])), (c4, .inl (cyI, 60, .inl g2))] := hD
        refine lv_iconst (v := 1) hx hb dX7_image_36 (by decide) ?_
        exact W.iret (v := 1) hx hb hr (fun t ht hW => ⟨⟨1, (), rfl, (show 1 = sp_image p1 by unfold sp_image; (repeat' split) <;> first | rfl | (exfalso; omega)), trivial⟩, hS.F ht⟩) hS.2.2 dX7_image_37
      · skip
        refine W.eq (g2 := F0 m 17 ls [.ref c1]) (by rw [h9]) ?_
        refine lv_aload_n hx hb dX7_image_17 rfl (lv_at hl 0 rfl) ?_
        refine va_get (D := (dC, dI)) (ci := 5) (v := .ref a1) (C := RX7) (T := TX7) (N := 7) hx hb hts hnX7_image_X7 hown hK hP 0 rfl rfl 0 (by decide) (hts (.fieldLink RX7 10 "RingMeets" "now" "LRingMeets$Scene;") (by decide +kernel)) (fun _ h9 => h9) rfl dX7_image_18 ?_
        have f_8 := va_free (wc := [(c1, .inr (3, [.ref c2, .ref c3, .int 8])), (c2, .inl (cyI, 10, .inl f2)), (c3, .inr (2, [.ref c4, .int 0])), (c4, .inl (cyI, 60, .inl g2)), (a1, .inr (3, [.ref a2, .ref a3, .int 8])), (a2, .inl (cyI, 10, .inl f)), (a3, .inr (2, [.ref a4, .int 0])), (a4, .inl (cyI, 60, .inl gg))]) hD hS hA [9, 10, 11, 12, 1, 2, 3, 4] rfl
        refine va_callv (va_runV (As := [.ref a1]) (rest := []) ⟨hx, hb, hml, hown, hts⟩ (kX4_copyFrom l dC dI cyI cyZ c1 c2 c3 c4 a1 a2 a3 a4 f2 g2 f gg 0 0 _) (cwV 1 hts gX7_image_X4_copyFrom rfl rfl rfl (by decide +kernel) ⟨Nat.le_of_ble_eq_true rfl, Nat.le_of_ble_eq_true rfl⟩) (bs_WV hB (hP.sub (ws' := [(c1, .inr (3, [.ref c2, .ref c3, .int 8])), (c2, .inl (cyI, 10, .inl f2)), (c3, .inr (2, [.ref c4, .int 0])), (c4, .inl (cyI, 60, .inl g2)), (a1, .inr (3, [.ref a2, .ref a3, .int 8])), (a2, .inl (cyI, 10, .inl f)), (a3, .inr (2, [.ref a4, .int 0])), (a4, .inl (cyI, 60, .inl gg))]) [9, 10, 11, 12, 1, 2, 3, 4] rfl) (hD.sub (ws' := [(c1, .inr (3, [.ref c2, .ref c3, .int 8])), (c2, .inl (cyI, 10, .inl f2)), (c3, .inr (2, [.ref c4, .int 0])), (c4, .inl (cyI, 60, .inl g2)), (a1, .inr (3, [.ref a2, .ref a3, .int 8])), (a2, .inl (cyI, 10, .inl f)), (a3, .inr (2, [.ref a4, .int 0])), (a4, .inl (cyI, 60, .inl gg))]) [9, 10, 11, 12, 1, 2, 3, 4] (by decide) rfl) 0 rfl rfl) rfl rfl hl.1 rfl (lv_room (Nat.le_of_ble_eq_true rfl)) dX7_image_21 ⟨Nat.le_of_ble_eq_true rfl, Nat.le_of_ble_eq_true rfl⟩) hS (fun q _ h => f_8 q h) f_8 (fun uh_9 t H1 locs ht hvm h_9 hB1 hz1 hk1 hS => ?_)
        obtain ⟨hP, hD⟩ := va_join (wr := [(h0, .inr (5, [.ref a1, .ref b1, .ref c1, .ref lk, .ref bh, .int 0, .null])), (b1, .inr (3, [.ref b2, .ref b3, .int 8])), (b2, .inl (cyI, 10, .inl f1)), (b3, .inr (2, [.ref b4, .int 0])), (b4, .inl (cyI, 60, .inl g1))]) (w1 := []) hP hD [9, 10, 11, 12, 1, 2, 3, 4] [0, 5, 6, 7, 8] rfl rfl (by decide) (by decide) hk1 f_8 bs_nil bs_nilD
        generalize H1 = H at hP hS ⊢
        have hP : va_P (dC, dI) vwCl [(h0, .inr (5, [.ref a1, .ref b1, .ref c1, .ref lk, .ref bh, .int 0, .null])), (b1, .inr (3, [.ref b2, .ref b3, .int 8])), (b2, .inl (cyI, 10, .inl f1)), (b3, .inr (2, [.ref b4, .int 0])), (b4, .inl (cyI, 60, .inl g1))] _ := hP
        have hD : va_D A [(h0, .inr (5, [.ref a1, .ref b1, .ref c1, .ref lk, .ref bh, .int 0, .null])), (b1, .inr (3, [.ref b2, .ref b3, .int 8])), (b2, .inl (cyI, 10, .inl f1)), (b3, .inr (2, [.ref b4, .int 0])), (b4, .inl (cyI, 60, .inl g1))] := hD
        refine lv_aload_n hx hb dX7_image_24 rfl (lv_at hl 0 rfl) ?_
        refine lv_dup hx hb dX7_image_25 rfl ?_
        refine va_get (D := (dC, dI)) (ci := 5) (v := .int 0) (C := RX7) (T := TX7) (N := 7) hx hb hts hnX7_image_X7 hown hK hP 0 rfl rfl 5 (by decide) (hts (.fieldLink RX7 199 "RingMeets" "kept" "I") (by decide +kernel)) (fun _ h9 => h9) rfl dX7_image_26 ?_
        refine lv_iconst (v := 1) hx hb dX7_image_29 (by decide) ?_
        refine lv_iload_n hx hb dX7_image_30 rfl (lv_at hl 1 rfl) ?_
        refine lv_ishl hx hb dX7_image_31 ?_
        refine lv_topi (fun x_10 ex_10 => ?_)
        refine lv_ior hx hb dX7_image_32 ?_
        refine lv_topi (fun x_11 ex_11 => ?_)
        obtain rfl : x_10 = x_11 := (ex_11.trans (Int32.zero_or)).symm
        refine va_put (D := (dC, dI)) (ci := 5) (v := .int x_10) (ty := .int) (C := RX7) (T := TX7) (N := 7) hx hb hts hnX7_image_X7 tyX7 tyX7_ok nmX7 hown hK hP hD hS 0 rfl rfl 5 (by decide) (hts (.fieldLink RX7 199 "RingMeets" "kept" "I") (by decide +kernel)) (fun _ h9 => h9) rfl (by decide +kernel) rfl rfl (Nat.le_of_ble_eq_true rfl) dX7_image_33 (fun H locs hP hD hS => ?_)
        have hP : va_P (dC, dI) vwCl [(h0, .inr (5, [.ref a1, .ref b1, .ref c1, .ref lk, .ref bh, .int x_10, .null])), (b1, .inr (3, [.ref b2, .ref b3, .int 8])), (b2, .inl (cyI, 10, .inl f1)), (b3, .inr (2, [.ref b4, .int 0])), (b4, .inl (cyI, 60, .inl g1))] _ := hP
        have hD : va_D A [(h0, .inr (5, [.ref a1, .ref b1, .ref c1, .ref lk, .ref bh, .int x_10, .null])), (b1, .inr (3, [.ref b2, .ref b3, .int 8])), (b2, .inl (cyI, 10, .inl f1)), (b3, .inr (2, [.ref b4, .int 0])), (b4, .inl (cyI, 60, .inl g1))] := hD
        refine lv_iconst (v := 1) hx hb dX7_image_36 (by decide) ?_
        exact W.iret (v := 1) hx hb hr (fun t ht hW => ⟨⟨1, (), rfl, (show 1 = sp_image p1 by unfold sp_image; (repeat' split) <;> first | rfl | (exfalso; omega)), trivial⟩, hS.F ht⟩) hS.2.2 dX7_image_37
    · skip
      have ic_2 := ci_nlt (rfl : Int32.toInt p1 = _) (show Int32.toInt 2 = 2 by decide) c_2
      refine lv_bipush (v := (-2)) hx hb dX7_image_9 (by decide) ?_
      exact W.iret (v := (-2)) hx hb hr (fun t ht hW => ⟨⟨(-2), (), rfl, (show (-2) = sp_image p1 by unfold sp_image; (repeat' split) <;> first | rfl | (exfalso; omega)), trivial⟩, hS.F ht⟩) hS.2.2 dX7_image_11

theorem hnX7_step_X7 : ∀ w ∈ wsX70, w ∈ wsX7_step := fun _ h => List.mem_cons_of_mem _ (List.mem_append_left _ (List.mem_append_left _ (List.mem_append_left _ (List.mem_append_right _ h))))
set_option maxHeartbeats 4000000 in
set_option maxRecDepth 100000 in
theorem kX7_step (l : Launch) (dC : Nat → ClassId) (dI : Nat → Nat → Nat) (cyI cyZ : ClassId) (h0 a1 b1 c1 lk bh a2 a3 a4 : Nat) (f : Nat → Int32) (hf : ∀ j, f j = 0) (z : Nat → Int32) (hz : ∀ j, z j = 0) (p1 : Int32) (sz : Nat) : Met l yX7_step wsX7_step ({ frames := 4, cells := 0, slots := 0, locals := 85 }) (bs_W dC dI cyI cyZ [.ref h0, .int p1] [(h0, .inr (5, [.ref a1, .ref b1, .ref c1, .ref lk, .ref bh, .int 0, .null])), (a1, .inr (3, [.ref a2, .ref a3, .int 8])), (a2, .inl (cyI, 10, .inl f)), (a3, .inr (2, [.ref a4, .int 0])), (bh, .inl (cyI, 10, .inl z))] sz) (va_Qi (S := Unit) (fun (r : Int32) (_ : Unit) => r = sp_step p1) (fun _ _ => True) (va_A [(h0, .inr (5, [.ref a1, .ref b1, .ref c1, .ref lk, .ref bh, .int 0, .null])), (a1, .inr (3, [.ref a2, .ref a3, .int 8])), (a2, .inl (cyI, 10, .inl f)), (a3, .inr (2, [.ref a4, .int 0])), (bh, .inl (cyI, 10, .inl z))] sz)) 0 0 (va_A [(h0, .inr (5, [.ref a1, .ref b1, .ref c1, .ref lk, .ref bh, .int 0, .null])), (a1, .inr (3, [.ref a2, .ref a3, .int 8])), (a2, .inl (cyI, 10, .inl f)), (a3, .inr (2, [.ref a4, .int 0])), (bh, .inl (cyI, 10, .inl z))] sz) := by
  refine Met.ofW (cc := cX7_step) (maxL := 6) (ret := (some .int)) (by decide) rfl ?_
  intro p e s m args below meth c s₁ B hml hv
  obtain ⟨rfl, hsz, hB, hP, hD0⟩ := hv
  have hK := hB.1
  have hN := hB.2
  have hx := B.exec
  have hb := B.bytes
  have hr := B.returns
  have hts := atoms_spec (ws := wsX7_step) B.pre
  have hown : s.vm.findClass RX7 = some m.cls := findClass_of_methodNamed B.named
  have hlocks := B.notSynchronized
  subst hsz
  have hD := hD0.self (sz := s.heap.size)
  generalize hAe : va_A [(h0, .inr (5, [.ref a1, .ref b1, .ref c1, .ref lk, .ref bh, .int 0, .null])), (a1, .inr (3, [.ref a2, .ref a3, .int 8])), (a2, .inl (cyI, 10, .inl f)), (a3, .inr (2, [.ref a4, .int 0])), (bh, .inl (cyI, 10, .inl z))] s.heap.size = A at hD ⊢
  have hA : ∀ q : Nat, s.heap.size ≤ q → A q := fun q h => by rw [← hAe]; exact Or.inr h
  have hS : va_S A s.heap s.heap [] := va_S.rf
  have hP : va_P (dC, dI) vwCl [(h0, .inr (5, [.ref a1, .ref b1, .ref c1, .ref lk, .ref bh, .int 0, .null])), (a1, .inr (3, [.ref a2, .ref a3, .int 8])), (a2, .inl (cyI, 10, .inl f)), (a3, .inr (2, [.ref a4, .int 0])), (bh, .inl (cyI, 10, .inl z))] s.heap := hP
  have hl := lv_entry ([.ref h0, .int p1]) (n := 6) (Nat.le_of_ble_eq_true rfl)
  rw [lg_entry_eq]
  generalize (lg_sl ([.ref h0, .int p1]) ++ List.replicate (6 - (lg_sl ([.ref h0, .int p1])).length) Slot.unset).toArray = ls at hl ⊢
  have hl : lv_has ls 6 [(0, .ref h0), (1, .int p1)] := hl
  refine lv_aload_n hx hb dX7_step_0 rfl (lv_at hl 0 rfl) ?_
  refine va_get (D := (dC, dI)) (ci := 5) (v := .ref a1) (C := RX7) (T := TX7) (N := 7) hx hb hts hnX7_step_X7 hown hK hP 0 rfl rfl 0 (by decide) (hts (.fieldLink RX7 10 "RingMeets" "now" "LRingMeets$Scene;") (by decide +kernel)) (fun _ h9 => h9) rfl dX7_step_1 ?_
  refine vp_callSi (va_Run.run (va_runV (As := []) (rest := []) ⟨hx, hb, hml, hown, hts⟩ (kX4_stands l dC dI cyI cyZ a1 a2 a3 f hf) (cwV 0 hts gX7_step_X4_stands rfl rfl rfl (by decide +kernel) ⟨Nat.le_of_ble_eq_true rfl, Nat.le_of_ble_eq_true rfl⟩) (bs_RV hB (hP.sub (ws' := [(a1, .inr (3, [.ref a2, .ref a3, .int 8])), (a2, .inl (cyI, 10, .inl f))]) [1, 2] rfl) 0 rfl rfl) rfl rfl hl.1 rfl (lv_room (Nat.le_of_ble_eq_true rfl)) dX7_step_4 ⟨Nat.le_of_ble_eq_true rfl, Nat.le_of_ble_eq_true rfl⟩)) (fun r_1 hr_1 => ?_)
  obtain rfl : r_1 = 0 := hr_1
  refine lv_istore_n (lv' := [(2, .int 0), (0, .ref h0), (1, .int p1)]) hx hb dX7_step_7 rfl hl (by decide) rfl (fun ls hl => ?_)
  refine lv_iload_n hx hb dX7_step_8 rfl (lv_at hl 2 rfl) ?_
  refine lv_iload_n hx hb dX7_step_9 rfl (lv_at hl 0 rfl) ?_
  refine lv_iconst (v := (-1)) hx hb dX7_step_10 (by decide) ?_
  refine lv_ixor hx hb dX7_step_11 ?_
  refine lv_topi (fun x_2 ex_2 => ?_)
  obtain rfl : (-1) = x_2 := (ex_2.trans (by decide)).symm
  refine lv_iand hx hb dX7_step_12 ?_
  refine lv_topi (fun x_3 ex_3 => ?_)
  obtain rfl : p1 = x_3 := (ex_3.trans (nb_andm1 _)).symm
  refine lv_if_eq (tgt := 19) hx hb dX7_step_13 (by decide) (fun c_4 => ?_) (fun c_4 => ?_)
  · skip
    have ic_4 := ci_eq (rfl : Int32.toInt p1 = _) (show Int32.toInt 0 = 0 by decide) c_4
    subst c_4
    refine lv_aload_n hx hb dX7_step_19 rfl (lv_at hl 1 rfl) ?_
    refine va_get (D := (dC, dI)) (ci := 5) (v := .ref a1) (C := RX7) (T := TX7) (N := 7) hx hb hts hnX7_step_X7 hown hK hP 0 rfl rfl 0 (by decide) (hts (.fieldLink RX7 10 "RingMeets" "now" "LRingMeets$Scene;") (by decide +kernel)) (fun _ h9 => h9) rfl dX7_step_20 ?_
    refine vp_callSi (va_Run.run (va_runV (As := []) (rest := []) ⟨hx, hb, hml, hown, hts⟩ (kX4_towers l dC dI cyI cyZ a1 a2 a3 f hf) (cwV 0 hts gX7_step_X4_towers rfl rfl rfl (by decide +kernel) ⟨Nat.le_of_ble_eq_true rfl, Nat.le_of_ble_eq_true rfl⟩) (bs_RV hB (hP.sub (ws' := [(a1, .inr (3, [.ref a2, .ref a3, .int 8])), (a2, .inl (cyI, 10, .inl f))]) [1, 2] rfl) 0 rfl rfl) rfl rfl hl.1 rfl (lv_room (Nat.le_of_ble_eq_true rfl)) dX7_step_23 ⟨Nat.le_of_ble_eq_true rfl, Nat.le_of_ble_eq_true rfl⟩)) (fun r_5 hr_5 => ?_)
    obtain rfl : r_5 = 0 := hr_5
    refine lv_istore_n (lv' := [(3, .int 0), (2, .int 0), (0, .ref h0), (1, .int 0)]) hx hb dX7_step_26 rfl hl (by decide) rfl (fun ls hl => ?_)
    refine lv_iconst (v := 0) hx hb dX7_step_27 (by decide) ?_
    refine lv_istore (lv' := [(4, .int 0), (3, .int 0), (2, .int 0), (0, .ref h0), (1, .int 0)]) hx hb dX7_step_28 hl (by decide) rfl (fun ls hl => ?_)
    have L30 : ∀ (n30 : Nat), ∀ (k : Nat) (z : Nat → Int32), (0 ≤ k ∧ k ≤ 10) → (11 ≤ k + n30) → (∀ j, z j = 0) → ∀ (H : Heap) (locs : List Loc), va_P (dC, dI) vwCl [(h0, .inr (5, [.ref a1, .ref b1, .ref c1, .ref lk, .ref bh, .int 0, .null])), (a1, .inr (3, [.ref a2, .ref a3, .int 8])), (a2, .inl (cyI, 10, .inl f)), (a3, .inr (2, [.ref a4, .int 0])), (bh, .inl (cyI, 10, .inl z))] H → va_D A [(h0, .inr (5, [.ref a1, .ref b1, .ref c1, .ref lk, .ref bh, .int 0, .null])), (a1, .inr (3, [.ref a2, .ref a3, .int 8])), (a2, .inl (cyI, 10, .inl f)), (a3, .inr (2, [.ref a4, .int 0])), (bh, .inl (cyI, 10, .inl z))] → va_S A s.heap H locs → ∀ (ls : Array Slot), lv_has ls 6 [(0, .ref h0), (1, .int 0), (2, .int 0), (3, .int 0), (4, .int (nI k))] → W p l e (headSpec wsX7_step ({ frames := 4, cells := 0, slots := 0, locals := 85 })).room s m ([.ref h0, .int 0] : List Value).toArray below meth c H locs 0 0 (MQ below (va_Qi (S := Unit) (fun (r : Int32) (_ : Unit) => r = sp_step 0) (fun _ _ => True) A) ([.ref h0, .int 0] : List Value).toArray s 0 0 A) (F0 m 30 ls []) := by
      intro n30
      induction n30 with
      | zero =>
        intro k z hk30 hn30 hz H locs hP hD hS ls hl
        exfalso
        omega
      | succ n30 ih30 =>
        intro k z hk30 hn30 hz H locs hP hD hS ls hl
        refine lv_iload hx hb dX7_step_30 (lv_at hl 4 rfl) ?_
        refine lv_bipush (v := 10) hx hb dX7_step_32 (by decide) ?_
        refine lv_icmp_ge (tgt := 51) hx hb dX7_step_34 (by decide) (fun c_6 => ?_) (fun c_6 => ?_)
        · skip
          have ic_6 := ci_le (show Int32.toInt 10 = 10 by decide) (nI_toInt (n := k) (by omega)) c_6
          refine lv_iconst (v := 0) hx hb dX7_step_51 (by decide) ?_
          refine lv_istore (lv' := [(4, .int 0), (0, .ref h0), (1, .int 0), (2, .int 0), (3, .int 0)]) hx hb dX7_step_52 hl (by decide) rfl (fun ls hl => ?_)
          have L54 : ∀ (n54 : Nat), ∀ (k : Nat) (z : Nat → Int32), (0 ≤ k ∧ k ≤ 10) → (11 ≤ k + n54) → (∀ j, z j = 0) → ∀ (H : Heap) (locs : List Loc), va_P (dC, dI) vwCl [(h0, .inr (5, [.ref a1, .ref b1, .ref c1, .ref lk, .ref bh, .int 0, .null])), (a1, .inr (3, [.ref a2, .ref a3, .int 8])), (a2, .inl (cyI, 10, .inl f)), (a3, .inr (2, [.ref a4, .int 0])), (bh, .inl (cyI, 10, .inl z))] H → va_D A [(h0, .inr (5, [.ref a1, .ref b1, .ref c1, .ref lk, .ref bh, .int 0, .null])), (a1, .inr (3, [.ref a2, .ref a3, .int 8])), (a2, .inl (cyI, 10, .inl f)), (a3, .inr (2, [.ref a4, .int 0])), (bh, .inl (cyI, 10, .inl z))] → va_S A s.heap H locs → ∀ (ls : Array Slot), lv_has ls 6 [(0, .ref h0), (1, .int 0), (2, .int 0), (3, .int 0), (4, .int (nI k))] → W p l e (headSpec wsX7_step ({ frames := 4, cells := 0, slots := 0, locals := 85 })).room s m ([.ref h0, .int 0] : List Value).toArray below meth c H locs 0 0 (MQ below (va_Qi (S := Unit) (fun (r : Int32) (_ : Unit) => r = sp_step 0) (fun _ _ => True) A) ([.ref h0, .int 0] : List Value).toArray s 0 0 A) (F0 m 54 ls []) := by
            intro n54
            induction n54 with
            | zero =>
              intro k z hk54 hn54 hz H locs hP hD hS ls hl
              exfalso
              omega
            | succ n54 ih54 =>
              intro k z hk54 hn54 hz H locs hP hD hS ls hl
              refine lv_iload hx hb dX7_step_54 (lv_at hl 4 rfl) ?_
              refine lv_bipush (v := 10) hx hb dX7_step_56 (by decide) ?_
              refine lv_icmp_ge (tgt := 145) hx hb dX7_step_58 (by decide) (fun c_7 => ?_) (fun c_7 => ?_)
              · skip
                have ic_7 := ci_le (show Int32.toInt 10 = 10 by decide) (nI_toInt (n := k) (by omega)) c_7
                refine lv_iconst (v := 0) hx hb dX7_step_145 (by decide) ?_
                refine lv_istore (lv' := [(4, .int 0), (0, .ref h0), (1, .int 0), (2, .int 0), (3, .int 0)]) hx hb dX7_step_146 hl (by decide) rfl (fun ls hl => ?_)
                have L148 : ∀ (n148 : Nat), ∀ (k : Nat) (f : Nat → Int32), (0 ≤ k ∧ k ≤ 10) → (11 ≤ k + n148) → (∀ j, f j = 0) → ∀ (H : Heap) (locs : List Loc), va_P (dC, dI) vwCl [(h0, .inr (5, [.ref a1, .ref b1, .ref c1, .ref lk, .ref bh, .int 0, .null])), (a1, .inr (3, [.ref a2, .ref a3, .int 8])), (a2, .inl (cyI, 10, .inl f)), (a3, .inr (2, [.ref a4, .int 0])), (bh, .inl (cyI, 10, .inl z))] H → va_D A [(h0, .inr (5, [.ref a1, .ref b1, .ref c1, .ref lk, .ref bh, .int 0, .null])), (a1, .inr (3, [.ref a2, .ref a3, .int 8])), (a2, .inl (cyI, 10, .inl f)), (a3, .inr (2, [.ref a4, .int 0])), (bh, .inl (cyI, 10, .inl z))] → va_S A s.heap H locs → ∀ (ls : Array Slot), lv_has ls 6 [(0, .ref h0), (4, .int (nI k))] → W p l e (headSpec wsX7_step ({ frames := 4, cells := 0, slots := 0, locals := 85 })).room s m ([.ref h0, .int 0] : List Value).toArray below meth c H locs 0 0 (MQ below (va_Qi (S := Unit) (fun (r : Int32) (_ : Unit) => r = sp_step 0) (fun _ _ => True) A) ([.ref h0, .int 0] : List Value).toArray s 0 0 A) (F0 m 148 ls []) := by
                  intro n148
                  induction n148 with
                  | zero =>
                    intro k f hk148 hn148 hf H locs hP hD hS ls hl
                    exfalso
                    omega
                  | succ n148 ih148 =>
                    intro k f hk148 hn148 hf H locs hP hD hS ls hl
                    refine lv_iload hx hb dX7_step_148 (lv_at hl 1 rfl) ?_
                    refine lv_bipush (v := 10) hx hb dX7_step_150 (by decide) ?_
                    refine lv_icmp_ge (tgt := 177) hx hb dX7_step_152 (by decide) (fun c_8 => ?_) (fun c_8 => ?_)
                    · skip
                      have ic_8 := ci_le (show Int32.toInt 10 = 10 by decide) (nI_toInt (n := k) (by omega)) c_8
                      refine lv_aload_n hx hb dX7_step_177 rfl (lv_at hl 0 rfl) ?_
                      refine va_get (D := (dC, dI)) (ci := 5) (v := .ref a1) (C := RX7) (T := TX7) (N := 7) hx hb hts hnX7_step_X7 hown hK hP 0 rfl rfl 0 (by decide) (hts (.fieldLink RX7 10 "RingMeets" "now" "LRingMeets$Scene;") (by decide +kernel)) (fun _ h9 => h9) rfl dX7_step_178 ?_
                      refine vp_callSi (va_Run.run (va_runV (As := []) (rest := []) ⟨hx, hb, hml, hown, hts⟩ (kX4_stands l dC dI cyI cyZ a1 a2 a3 f hf) (cwV 0 hts gX7_step_X4_stands rfl rfl rfl (by decide +kernel) ⟨Nat.le_of_ble_eq_true rfl, Nat.le_of_ble_eq_true rfl⟩) (bs_RV hB (hP.sub (ws' := [(a1, .inr (3, [.ref a2, .ref a3, .int 8])), (a2, .inl (cyI, 10, .inl f))]) [1, 2] rfl) 0 rfl rfl) rfl rfl hl.1 rfl (lv_room (Nat.le_of_ble_eq_true rfl)) dX7_step_181 ⟨Nat.le_of_ble_eq_true rfl, Nat.le_of_ble_eq_true rfl⟩)) (fun r_9 hr_9 => ?_)
                      obtain rfl : r_9 = 0 := hr_9
                      refine vp_callSi (va_Run.run (va_runS (As := [.int 0]) (rest := []) ⟨hx, hb, hml, hown, hts⟩ (kJ6_bitCount_0f7a4 l dC dI cyI cyZ 0) (va_cwS 1 hts gX7_step_J6_bitCount_0f7a4 rfl rfl rfl (by decide +kernel) ⟨Nat.le_of_ble_eq_true rfl, Nat.le_of_ble_eq_true rfl⟩) (bs_RS hB (hP.sub (ws' := []) [] rfl)) rfl rfl hl.1 rfl (lv_room (Nat.le_of_ble_eq_true rfl)) dX7_step_184 ⟨Nat.le_of_ble_eq_true rfl, Nat.le_of_ble_eq_true rfl⟩)) (fun r_10 hr_10 => ?_)
                      obtain rfl : r_10 = 0 := hr_10.trans (by decide)
                      exact W.iret (v := 0) hx hb hr (fun t ht hW => ⟨⟨0, (), rfl, rfl, trivial⟩, hS.F ht⟩) hS.2.2 dX7_step_187
                    · skip
                      have ic_8 := ci_nle (show Int32.toInt 10 = 10 by decide) (nI_toInt (n := k) (by omega)) c_8
                      refine lv_aload_n hx hb dX7_step_155 rfl (lv_at hl 0 rfl) ?_
                      refine va_get (D := (dC, dI)) (ci := 5) (v := .ref a1) (C := RX7) (T := TX7) (N := 7) hx hb hts hnX7_step_X7 hown hK hP 0 rfl rfl 0 (by decide) (hts (.fieldLink RX7 10 "RingMeets" "now" "LRingMeets$Scene;") (by decide +kernel)) (fun _ h9 => h9) rfl dX7_step_156 ?_
                      refine lv_iload hx hb dX7_step_159 (lv_at hl 1 rfl) ?_
                      refine lv_aload_n hx hb dX7_step_161 rfl (lv_at hl 0 rfl) ?_
                      refine va_get (D := (dC, dI)) (ci := 5) (v := .ref bh) (C := RX7) (T := TX7) (N := 7) hx hb hts hnX7_step_X7 hown hK hP 0 rfl rfl 4 (by decide) (hts (.fieldLink RX7 29 "RingMeets" "behind" "[I") (by decide +kernel)) (fun _ h9 => h9) rfl dX7_step_162 ?_
                      refine lv_iload hx hb dX7_step_165 (lv_at hl 1 rfl) ?_
                      refine va_iald (D := (dC, dI)) hx hb hK hP 4 0 rfl rfl (vp_in_nI (n := k) (N := 10) (by omega) (by omega)) dX7_step_167 ?_
                      refine lv_topi (fun x_11 ex_11 => ?_)
                      rw [nI_clamp (n := k) (by omega)] at ex_11
                      obtain rfl : 0 = x_11 := (ex_11.trans (hz _)).symm
                      have f_12 := va_free (wc := [(a1, .inr (3, [.ref a2, .ref a3, .int 8])), (a2, .inl (cyI, 10, .inl f))]) hD hS hA [1, 2] rfl
                      refine va_callv (va_runV (As := [.int (nI k), .int 0]) (rest := []) ⟨hx, hb, hml, hown, hts⟩ (kX4_put l dC dI cyI cyZ a1 a2 a3 f (nI k) 0 _) (cwV 2 hts gX7_step_X4_put rfl rfl rfl (by decide +kernel) ⟨Nat.le_of_ble_eq_true rfl, Nat.le_of_ble_eq_true rfl⟩) (bs_WV hB (hP.sub (ws' := [(a1, .inr (3, [.ref a2, .ref a3, .int 8])), (a2, .inl (cyI, 10, .inl f))]) [1, 2] rfl) (hD.sub (ws' := [(a1, .inr (3, [.ref a2, .ref a3, .int 8])), (a2, .inl (cyI, 10, .inl f))]) [1, 2] (by decide) rfl) 0 rfl rfl) rfl rfl hl.1 rfl (lv_room (Nat.le_of_ble_eq_true rfl)) dX7_step_168 ⟨Nat.le_of_ble_eq_true rfl, Nat.le_of_ble_eq_true rfl⟩) hS (fun q _ h => f_12 q h) f_12 (fun uh_13 t H1 locs ht hvm h_13 hB1 hz1 hk1 hS => ?_)
                      obtain ⟨hP1, hD1⟩ := hB1
                      rw [ht] at hP1
                      obtain ⟨hP, hD⟩ := va_join (wr := [(h0, .inr (5, [.ref a1, .ref b1, .ref c1, .ref lk, .ref bh, .int 0, .null])), (a3, .inr (2, [.ref a4, .int 0])), (bh, .inl (cyI, 10, .inl z))]) (w1 := [(a1, .inr (3, [.ref a2, .ref a3, .int 8])), (a2, .inl (cyI, 10, .inl uh_13))]) hP hD [1, 2] [0, 3, 4] rfl rfl (by decide) (by decide) hk1 f_12 hP1 hD1
                      generalize H1 = H at hP hS ⊢
                      have hP : va_P (dC, dI) vwCl [(h0, .inr (5, [.ref a1, .ref b1, .ref c1, .ref lk, .ref bh, .int 0, .null])), (a3, .inr (2, [.ref a4, .int 0])), (bh, .inl (cyI, 10, .inl z)), (a1, .inr (3, [.ref a2, .ref a3, .int 8])), (a2, .inl (cyI, 10, .inl uh_13))] _ := hP
                      have hD : va_D A [(h0, .inr (5, [.ref a1, .ref b1, .ref c1, .ref lk, .ref bh, .int 0, .null])), (a3, .inr (2, [.ref a4, .int 0])), (bh, .inl (cyI, 10, .inl z)), (a1, .inr (3, [.ref a2, .ref a3, .int 8])), (a2, .inl (cyI, 10, .inl uh_13))] := hD
                      refine lv_iinc (v := (nI (k + 1))) (lv' := [(4, .int (nI (k + 1))), (0, .ref h0)]) hx hb dX7_step_171 hl (k := 1) rfl (nI_1 _) (by decide) rfl (fun ls hl => ?_)
                      refine lv_goto (tgt := 148) hx hb dX7_step_174 (by decide) ?_
                      exact ih148 (k + 1) uh_13 ⟨by omega, by omega⟩ (by omega) (h_13 rfl hf) _ _ (hP.sub [0, 3, 4, 1, 2] rfl) (hD.sub [0, 3, 4, 1, 2] (by decide) rfl) hS _ (lv_sub hl [1, 0] rfl)
                exact L148 11 0 f ⟨by omega, by omega⟩ (by omega) hf _ _ (hP.sub [0, 1, 2, 3, 4] rfl) (hD.sub [0, 1, 2, 3, 4] (by decide) rfl) hS _ (lv_sub hl [1, 0] rfl)
              · skip
                have ic_7 := ci_nle (show Int32.toInt 10 = 10 by decide) (nI_toInt (n := k) (by omega)) c_7
                refine lv_iload hx hb dX7_step_61 (lv_at hl 4 rfl) ?_
                refine lv_istore (lv' := [(5, .int (nI k)), (0, .ref h0), (1, .int 0), (2, .int 0), (3, .int 0), (4, .int (nI k))]) hx hb dX7_step_63 hl (by decide) rfl (fun ls hl => ?_)
                refine lv_iload_n hx hb dX7_step_65 rfl (lv_at hl 2 rfl) ?_
                refine lv_iload hx hb dX7_step_66 (lv_at hl 5 rfl) ?_
                refine vp_callSi (va_Run.run (va_runS (As := [.int 0, .int (nI k)]) (rest := []) ⟨hx, hb, hml, hown, hts⟩ (kX5_has l dC dI cyI cyZ 0 (nI k)) (va_cwS 2 hts gX7_step_X5_has rfl rfl rfl (by decide +kernel) ⟨Nat.le_of_ble_eq_true rfl, Nat.le_of_ble_eq_true rfl⟩) (bs_RS hB (hP.sub (ws' := []) [] rfl)) rfl rfl hl.1 rfl (lv_room (Nat.le_of_ble_eq_true rfl)) dX7_step_68 ⟨Nat.le_of_ble_eq_true rfl, Nat.le_of_ble_eq_true rfl⟩)) (fun r_14 hr_14 => ?_)
                obtain rfl : r_14 = 0 := hr_14.2 rfl
                refine lv_if_eq (tgt := 108) hx hb dX7_step_71 (by decide) (fun c_15 => ?_) (fun c_15 => ?_)
                · skip
                  refine lv_iload hx hb dX7_step_108 (lv_at hl 0 rfl) ?_
                  refine lv_if_lt (tgt := 139) hx hb dX7_step_110 (by decide) (fun c_16 => ?_) (fun c_16 => ?_)
                  · skip
                    have ic_16 := ci_lt (nI_toInt (n := k) (by omega)) (show Int32.toInt 0 = 0 by decide) c_16
                    exfalso; omega
                  · skip
                    have ic_16 := ci_nlt (nI_toInt (n := k) (by omega)) (show Int32.toInt 0 = 0 by decide) c_16
                    refine lv_iload hx hb dX7_step_113 (lv_at hl 0 rfl) ?_
                    refine lv_bipush (v := 10) hx hb dX7_step_115 (by decide) ?_
                    refine lv_icmp_ge (tgt := 139) hx hb dX7_step_117 (by decide) (fun c_17 => ?_) (fun c_17 => ?_)
                    · skip
                      have ic_17 := ci_le (show Int32.toInt 10 = 10 by decide) (nI_toInt (n := k) (by omega)) c_17
                      exfalso; omega
                    · skip
                      have ic_17 := ci_nle (show Int32.toInt 10 = 10 by decide) (nI_toInt (n := k) (by omega)) c_17
                      refine lv_aload_n hx hb dX7_step_120 rfl (lv_at hl 1 rfl) ?_
                      refine va_get (D := (dC, dI)) (ci := 5) (v := .ref bh) (C := RX7) (T := TX7) (N := 7) hx hb hts hnX7_step_X7 hown hK hP 0 rfl rfl 4 (by decide) (hts (.fieldLink RX7 29 "RingMeets" "behind" "[I") (by decide +kernel)) (fun _ h9 => h9) rfl dX7_step_121 ?_
                      refine lv_iload hx hb dX7_step_124 (lv_at hl 0 rfl) ?_
                      refine lv_dup2_11 hx hb dX7_step_126 rfl rfl ?_
                      refine va_iald (D := (dC, dI)) hx hb hK hP 4 0 rfl rfl (vp_in_nI (n := k) (N := 10) (by omega) (by omega)) dX7_step_127 ?_
                      refine lv_topi (fun x_18 ex_18 => ?_)
                      rw [nI_clamp (n := k) (by omega)] at ex_18
                      obtain rfl : 0 = x_18 := (ex_18.trans (hz _)).symm
                      refine lv_aload_n hx hb dX7_step_128 rfl (lv_at hl 1 rfl) ?_
                      refine va_get (D := (dC, dI)) (ci := 5) (v := .ref a1) (C := RX7) (T := TX7) (N := 7) hx hb hts hnX7_step_X7 hown hK hP 0 rfl rfl 0 (by decide) (hts (.fieldLink RX7 10 "RingMeets" "now" "LRingMeets$Scene;") (by decide +kernel)) (fun _ h9 => h9) rfl dX7_step_129 ?_
                      refine lv_iload hx hb dX7_step_132 (lv_at hl 5 rfl) ?_
                      refine vp_callSi (va_Run.run (va_runV (As := [.int (nI k)]) (rest := [.int 0, .int (nI k), .ref bh]) ⟨hx, hb, hml, hown, hts⟩ (kX4_walkersOn l dC dI cyI cyZ a1 a2 a3 f hf (nI k)) (cwV 1 hts gX7_step_X4_walkersOn rfl rfl rfl (by decide +kernel) ⟨Nat.le_of_ble_eq_true rfl, Nat.le_of_ble_eq_true rfl⟩) (bs_RV hB (hP.sub (ws' := [(a1, .inr (3, [.ref a2, .ref a3, .int 8])), (a2, .inl (cyI, 10, .inl f))]) [1, 2] rfl) 0 rfl rfl) rfl rfl hl.1 rfl (lv_room (Nat.le_of_ble_eq_true rfl)) dX7_step_134 ⟨Nat.le_of_ble_eq_true rfl, Nat.le_of_ble_eq_true rfl⟩)) (fun r_19 hr_19 => ?_)
                      obtain rfl : r_19 = 0 := hr_19
                      refine lv_iadd hx hb dX7_step_137 ?_
                      refine lv_topi (fun x_20 ex_20 => ?_)
                      obtain rfl : 0 = x_20 := (ex_20.trans (by decide)).symm
                      refine va_iast (D := (dC, dI)) hx hb hK hP hD hS 4 0 rfl rfl (vp_in_nI (n := k) (N := 10) (by omega) (by omega)) dX7_step_138 (fun H locs hP hD hS => ?_)
                      obtain ⟨g_21, eg_21⟩ : ∃ y : Nat → Int32, y = upd z (Int32.toNatClampNeg (nI k)) 0 := ⟨_, rfl⟩
                      have hP : va_P (dC, dI) vwCl [(h0, .inr (5, [.ref a1, .ref b1, .ref c1, .ref lk, .ref bh, .int 0, .null])), (a1, .inr (3, [.ref a2, .ref a3, .int 8])), (a2, .inl (cyI, 10, .inl f)), (a3, .inr (2, [.ref a4, .int 0])), (bh, .inl (cyI, 10, .inl g_21))] H := by rw [eg_21]; exact hP
                      have hD : va_D A [(h0, .inr (5, [.ref a1, .ref b1, .ref c1, .ref lk, .ref bh, .int 0, .null])), (a1, .inr (3, [.ref a2, .ref a3, .int 8])), (a2, .inl (cyI, 10, .inl f)), (a3, .inr (2, [.ref a4, .int 0])), (bh, .inl (cyI, 10, .inl g_21))] := by rw [eg_21]; exact hD
                      rw [nI_clamp (n := k) (by omega)] at eg_21
                      refine lv_iinc (v := (nI (k + 1))) (lv' := [(4, .int (nI (k + 1))), (5, .int (nI k)), (0, .ref h0), (1, .int 0), (2, .int 0), (3, .int 0)]) hx hb dX7_step_139 hl (k := 5) rfl (nI_1 _) (by decide) rfl (fun ls hl => ?_)
                      refine lv_goto (tgt := 54) hx hb dX7_step_142 (by decide) ?_
                      exact ih54 (k + 1) g_21 ⟨by omega, by omega⟩ (by omega) (fun j => by rw [eg_21]; unfold upd; split; rfl; exact hz j) _ _ (hP.sub [0, 1, 2, 3, 4] rfl) (hD.sub [0, 1, 2, 3, 4] (by decide) rfl) hS _ (lv_sub hl [2, 3, 4, 5, 0] rfl)
                · skip
                  exact absurd c_15 (by decide)
          exact L54 11 0 z ⟨by omega, by omega⟩ (by omega) hz _ _ (hP.sub [0, 1, 2, 3, 4] rfl) (hD.sub [0, 1, 2, 3, 4] (by decide) rfl) hS _ (lv_sub hl [1, 2, 3, 4, 0] rfl)
        · skip
          have ic_6 := ci_nle (show Int32.toInt 10 = 10 by decide) (nI_toInt (n := k) (by omega)) c_6
          refine lv_aload_n hx hb dX7_step_37 rfl (lv_at hl 0 rfl) ?_
          refine va_get (D := (dC, dI)) (ci := 5) (v := .ref bh) (C := RX7) (T := TX7) (N := 7) hx hb hts hnX7_step_X7 hown hK hP 0 rfl rfl 4 (by decide) (hts (.fieldLink RX7 29 "RingMeets" "behind" "[I") (by decide +kernel)) (fun _ h9 => h9) rfl dX7_step_38 ?_
          refine lv_iload hx hb dX7_step_41 (lv_at hl 4 rfl) ?_
          refine lv_iconst (v := 0) hx hb dX7_step_43 (by decide) ?_
          refine va_iast (D := (dC, dI)) hx hb hK hP hD hS 4 0 rfl rfl (vp_in_nI (n := k) (N := 10) (by omega) (by omega)) dX7_step_44 (fun H locs hP hD hS => ?_)
          obtain ⟨g_22, eg_22⟩ : ∃ y : Nat → Int32, y = upd z (Int32.toNatClampNeg (nI k)) 0 := ⟨_, rfl⟩
          have hP : va_P (dC, dI) vwCl [(h0, .inr (5, [.ref a1, .ref b1, .ref c1, .ref lk, .ref bh, .int 0, .null])), (a1, .inr (3, [.ref a2, .ref a3, .int 8])), (a2, .inl (cyI, 10, .inl f)), (a3, .inr (2, [.ref a4, .int 0])), (bh, .inl (cyI, 10, .inl g_22))] H := by rw [eg_22]; exact hP
          have hD : va_D A [(h0, .inr (5, [.ref a1, .ref b1, .ref c1, .ref lk, .ref bh, .int 0, .null])), (a1, .inr (3, [.ref a2, .ref a3, .int 8])), (a2, .inl (cyI, 10, .inl f)), (a3, .inr (2, [.ref a4, .int 0])), (bh, .inl (cyI, 10, .inl g_22))] := by rw [eg_22]; exact hD
          rw [nI_clamp (n := k) (by omega)] at eg_22
          refine lv_iinc (v := (nI (k + 1))) (lv' := [(4, .int (nI (k + 1))), (0, .ref h0), (1, .int 0), (2, .int 0), (3, .int 0)]) hx hb dX7_step_45 hl (k := 4) rfl (nI_1 _) (by decide) rfl (fun ls hl => ?_)
          refine lv_goto (tgt := 30) hx hb dX7_step_48 (by decide) ?_
          exact ih30 (k + 1) g_22 ⟨by omega, by omega⟩ (by omega) (fun j => by rw [eg_22]; unfold upd; split; rfl; exact hz j) _ _ (hP.sub [0, 1, 2, 3, 4] rfl) (hD.sub [0, 1, 2, 3, 4] (by decide) rfl) hS _ (lv_sub hl [1, 2, 3, 4, 0] rfl)
    exact L30 11 0 z ⟨by omega, by omega⟩ (by omega) hz _ _ (hP.sub [0, 1, 2, 3, 4] rfl) (hD.sub [0, 1, 2, 3, 4] (by decide) rfl) hS _ (lv_sub hl [3, 4, 2, 1, 0] rfl)
  · skip
    have ic_4 := ci_ne (rfl : Int32.toInt p1 = _) (show Int32.toInt 0 = 0 by decide) c_4
    refine lv_bipush (v := (-2)) hx hb dX7_step_16 (by decide) ?_
    exact W.iret (v := (-2)) hx hb hr (fun t ht hW => ⟨⟨(-2), (), rfl, (show (-2 : Int32) = sp_step p1 by unfold sp_step; rw [if_neg c_4]), trivial⟩, hS.F ht⟩) hS.2.2 dX7_step_18
