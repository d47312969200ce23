/-! THE CLAIM OUT OF ONE WALK OF THE LAW'S BODY. Your part is whole_start (and what it stands on); all else here is the same for every law, but numbers. -/
def R_law : String := "RingMeetsLaw"
def lw_P (b : Addr) (xs : List Int32) (args : Array Value) (s : State) : Prop := args = #[.ref b] ∧ s.IntsAt b xs ∧ xs.length ≤ 6 ∧ (Jvm.Cond.and given_1 narrow_1).before args s = true
def lw_Q (_ : Array Value) (s : State) (o : Outcome) (t : State) : Prop := o = .returned (some (.int 1)) ∧ Framed s o t [] 600000 7302250
def lw_Z (below : List Frame) (a : Array Value) (s : State) : State → Prop := fun t => ∃ o, t.status = .running ∧ Ended t below o ∧ lw_Q a s o t
/-- the law's own end, with 1 on the stack, nothing written that was there before, its room as the claim has it -/
theorem lw_ret {p : Program} {l : Launch} {e : Env} {s : State} {m : MethodId} {below : List Frame} {meth : Method} {c : Code} {b : Nat} (hx : p.tables.exec = Jvm.exec) (hb : c.code = code) (hr : meth.sig.returnType = ret) (hlocks : meth.locks = false) {pc : Nat} {H : Heap} {ls : Array Slot} (hdg : decode code pc = .ok (.ireturn, 1)) : W p l e room_1 s m #[Value.ref b] below meth c H [] 600000 7302250 (lw_Z below #[Value.ref b] s) (F0 m pc ls [.int 1]) := by
  intro T hT X
  obtain ⟨fs, hret, hrun, hended, hW, hframe⟩ := X.leave (v := some (.int 1)) (hlocks := hlocks) (fun h => by rw [hr] at h; cases h)
  have hmeth' : T.vm.method? m = some meth := X.method'
  refine ⟨T.setFrames fs, ?_, .returned (some (.int 1)), hrun, hended, rfl, ⟨_, rfl⟩, hW, hframe⟩
  jvm_step X.here [X.here.top, hx, hb, hdg, hmeth', hr, ret, narrow_b1]
  (try refine ⟨rfl, ?_⟩); (try refine ⟨rfl, ?_⟩)
  first | (intro acts; rw [hret _ acts rfl rfl rfl]) | rw [hret _ _ rfl rfl rfl]
  exact Steps.refl _
/-- what holds at the law's entry: the machine, the code, the tables' words (any of lw_tbl by 'hts w (by decide +kernel)'), the script of L ints xs at the cell b, what the Statement gives of the start (any of its parts by flat_of_before) -/
def lw_At (p : Program) (s : State) (m : MethodId) (meth : Method) (c : Code) (b L : Nat) (xs : Nat → Int32) : Prop :=
  p.tables.exec = Jvm.exec ∧ c.code = code ∧ meth.sig.returnType = ret ∧ c.maxLocals = 4 ∧ s.vm.findClass R_law = some m.cls ∧ (∀ w ∈ lw_tbl, w.before #[Value.ref b] s = true) ∧ va_X b L xs s s.heap ∧ b < s.heap.size ∧ meth.locks = false ∧ (Jvm.Cond.and given_1 narrow_1).before #[Value.ref b] s = true
set_option maxHeartbeats 40000000 in
set_option maxRecDepth 100000 in
theorem whole_start {p : Program} {e : Env} {s : State} {m : MethodId} {below : List Frame} {meth : Method} {c : Code} (l : Launch) (hflags : l.flags = flags0) {b L : Nat} {xs : Nat → Int32} (hL : L ≤ 6) (C0 : lw_At p s m meth c b L xs) : W p l e room_1 s m #[Value.ref b] below meth c s.heap [] 0 0 (lw_Z below #[Value.ref b] s) (entryFrame m ([Value.ref b] : List Value).toArray 4) := by
  obtain ⟨hx, hb, hr, hml, hown, hts, hX, hbl, hlocks, hgv⟩ := id C0
  obtain ⟨A, hAe⟩ : ∃ A : Nat → Prop, A = fun q : Nat => s.heap.size ≤ q := ⟨_, rfl⟩
  have hA : ∀ q : Nat, s.heap.size ≤ q → A q := fun q h => by rw [hAe]; exact h
  have hbA : ¬ A b := by rw [hAe]; exact Nat.not_le.mpr hbl
  obtain ⟨c0, iS0, hKn0⟩ := u_known (C := RX1) (T := TX1) (N := 5) (n := 5) hts (fun w h => (gw_wsX10 w h).1) (hts _ lq_0)
  obtain ⟨c1, iS1, hKn1⟩ := u_known (C := RX2) (T := TX2) (N := 4) (n := 4) hts (fun w h => (gw_wsX20 w h).1) (hts _ lq_1)
  obtain ⟨c2, iS2, hKn2⟩ := u_known (C := RX3) (T := TX3) (N := 2) (n := 2) hts (fun w h => (gw_wsX30 w h).1) (hts _ lq_2)
  obtain ⟨c3, iS3, hKn3⟩ := u_known (C := RX4) (T := TX4) (N := 3) (n := 3) hts (fun w h => (gw_wsX40 w h).1) (hts _ lq_3)
  obtain ⟨c4, iS4, hKn4⟩ := u_known (C := RX6) (T := TX6) (N := 20) (n := 20) hts (fun w h => (gw_wsX60 w h).1) (hts _ lq_4)
  obtain ⟨c5, iS5, hKn5⟩ := u_known (C := RX7) (T := TX7) (N := 7) (n := 7) hts (fun w h => (gw_wsX70 w h).1) (hts _ lq_5)
  obtain ⟨c6, iS6, hKn6⟩ := u_known (C := RX8) (T := TX8) (N := 14) (n := 14) hts (fun w h => (gw_wsX80 w h).1) (hts _ lq_6)
  obtain ⟨dC, dI, hKc⟩ : ∃ (dC : Nat → ClassId) (dI : Nat → Nat → Nat), ∀ (k : Nat) (q : vw_C), vwCl[k]? = some q → u_Kn s q.1 q.2.1 q.2.2 (dC k) (dI k) := by
    refine ⟨fun k => if k = 0 then c0 else if k = 1 then c1 else if k = 2 then c2 else if k = 3 then c3 else if k = 4 then c4 else if k = 5 then c5 else c6, fun k => if k = 0 then iS0 else if k = 1 then iS1 else if k = 2 then iS2 else if k = 3 then iS3 else if k = 4 then iS4 else if k = 5 then iS5 else iS6, ?_⟩
    intro k q hq
    match k, hq with
    | 0, hq => cases hq; exact hKn0
    | 1, hq => cases hq; exact hKn1
    | 2, hq => cases hq; exact hKn2
    | 3, hq => cases hq; exact hKn3
    | 4, hq => cases hq; exact hKn4
    | 5, hq => cases hq; exact hKn5
    | 6, hq => cases hq; exact hKn6
    | k + 7, hq => simp [vwCl] at hq
  obtain ⟨cyI, kI, cI, hI1, hI2, hI3⟩ := Cond.arrayClass_spec (hts _ lq_7)
  obtain ⟨cyZ, kZ, cZ, hZ1, hZ2, hZ3⟩ := Cond.arrayClass_spec (hts _ lq_8)
  have hK : va_K (dC, dI) vwCl [(cyI, .int), (cyZ, .boolean)] s := ⟨hKc, fun k q h => by
    match k, h with
    | 0, h => cases h; exact ⟨fun n z => ⟨fun k h => (by cases h), kI, hI2, cI, hI3⟩, hI1⟩
    | 1, h => cases h; exact ⟨fun n z => ⟨fun k h => (by cases h), kZ, hZ2, cZ, hZ3⟩, hZ1⟩
    | k + 2, h => simp at h⟩
  have hN : ns_W s := fun w hw => by
    have h9 := hts w (ns_in w hw)
    rcases ns_kind w hw with ⟨a, i, b, n, d, q, rfl⟩ | ⟨a, i, x, q, rfl⟩
    · exact va_Nw.of rfl h9
    · exact va_Nw.of rfl h9
  have hB : bs_K dC dI cyI cyZ s := ⟨hK, hN⟩
  have hS : va_S A s.heap s.heap [] := va_S.rf
  have hP : va_P (dC, dI) vwCl [] s.heap := bs_nil
  have hD : va_D A [] := bs_nilD
  have hl := lv_entry ([.ref b]) (n := 4) (Nat.le_of_ble_eq_true rfl)
  rw [lg_entry_eq]
  generalize (lg_sl ([.ref b]) ++ List.replicate (4 - (lg_sl ([.ref b])).length) Slot.unset).toArray = ls at hl ⊢
  have hl : lv_has ls 4 [(0, .ref b)] := hl
  refine va_new (ci := 5) (fs := [.null, .null, .null, .null, .null, .int 0, .null]) (C := RX7) (T := TX7) (N := 7) hx hb hts (fun w h => (gw_wsX70 w h).1) tyX7 tyX7_ok hown (hts _ lq_9) (hts _ lq_5) (hts _ lq_10) hK hP hD hS hA rfl (fun j hj => by rcases (show j = 0 ∨ j = 1 ∨ j = 2 ∨ j = 3 ∨ j = 4 ∨ j = 5 ∨ j = 6 by omega) with rfl | rfl | rfl | rfl | rfl | rfl | rfl <;> rfl) (Nat.le_of_ble_eq_true rfl) (Nat.le_of_ble_eq_true rfl) dL_law_0 (fun q_1 H hP hD hS => ?_)
  refine W.widen (k := 1) (n := 7) (Nat.le_of_ble_eq_true rfl) (Nat.le_of_ble_eq_true rfl) ?_
  have hP : va_P (dC, dI) vwCl [(q_1, .inr (5, [.null, .null, .null, .null, .null, .int 0, .null]))] _ := hP
  have hD : va_D A [(q_1, .inr (5, [.null, .null, .null, .null, .null, .int 0, .null]))] := hD
  refine lv_dup hx hb dL_law_3 rfl ?_
  have f_2 := va_free (wc := [(q_1, .inr (5, [.null, .null, .null, .null, .null, .int 0, .null]))]) hD hS hA [0] rfl
  refine va_callv (va_runI (As := []) (rest := [.ref q_1]) ⟨hx, hb, hml, hown, hts⟩ (kX7_init l dC dI cyI cyZ q_1 _) (cwI 0 hts gw_X7_init rfl rfl rfl (hts _ lq_10) (hts _ lq_11) (hts _ lq_12) rfl (by decide +kernel) ⟨Nat.le_of_ble_eq_true rfl, Nat.le_of_ble_eq_true rfl⟩) (bs_WS hB (hP.sub (ws' := [(q_1, .inr (5, [.null, .null, .null, .null, .null, .int 0, .null]))]) [0] rfl) (hD.sub (ws' := [(q_1, .inr (5, [.null, .null, .null, .null, .null, .int 0, .null]))]) [0] (by decide) rfl)) rfl rfl hl.1 rfl (lv_room (Nat.le_of_ble_eq_true rfl)) dL_law_4 ⟨Nat.le_of_ble_eq_true rfl, Nat.le_of_ble_eq_true rfl⟩) hS (fun q _ h => f_2 q h) f_2 (fun uh_3 t H1 locs ht hvm h_3 hB1 hz1 hk1 hS => ?_)
  obtain ⟨xa1, xa2, xa3, xa4, xb1, xb2, xb3, xb4, xc1, xc2, xc3, xc4, xlk, xbh⟩ := uh_3
  obtain ⟨hP1, hD1⟩ := hB1
  rw [ht] at hP1
  obtain ⟨hP, hD⟩ := va_join (wr := []) (w1 := [(q_1, .inr (5, [.ref xa1, .ref xb1, .ref xc1, .ref xlk, .ref xbh, .int 0, .null])), (xa1, .inr (3, [.ref xa2, .ref xa3, .int 8])), (xa2, .inl (cyI, 10, .inl (fun _ => (0 : Int32)))), (xa3, .inr (2, [.ref xa4, .int 0])), (xa4, .inl (cyI, 60, .inl (fun _ => (0 : Int32)))), (xb1, .inr (3, [.ref xb2, .ref xb3, .int 8])), (xb2, .inl (cyI, 10, .inl (fun _ => (0 : Int32)))), (xb3, .inr (2, [.ref xb4, .int 0])), (xb4, .inl (cyI, 60, .inl (fun _ => (0 : Int32)))), (xc1, .inr (3, [.ref xc2, .ref xc3, .int 8])), (xc2, .inl (cyI, 10, .inl (fun _ => (0 : Int32)))), (xc3, .inr (2, [.ref xc4, .int 0])), (xc4, .inl (cyI, 60, .inl (fun _ => (0 : Int32)))), (xlk, .inr (0, [.int 0, .int 0, .int 0, .int 0, .int 0])), (xbh, .inl (cyI, 10, .inl (fun _ => (0 : Int32))))]) hP hD [0] [] rfl rfl (by decide) (by decide) hk1 f_2 hP1 hD1
  generalize H1 = H at hP hS ⊢
  have hP : va_P (dC, dI) vwCl [(q_1, .inr (5, [.ref xa1, .ref xb1, .ref xc1, .ref xlk, .ref xbh, .int 0, .null])), (xa1, .inr (3, [.ref xa2, .ref xa3, .int 8])), (xa2, .inl (cyI, 10, .inl (fun _ => (0 : Int32)))), (xa3, .inr (2, [.ref xa4, .int 0])), (xa4, .inl (cyI, 60, .inl (fun _ => (0 : Int32)))), (xb1, .inr (3, [.ref xb2, .ref xb3, .int 8])), (xb2, .inl (cyI, 10, .inl (fun _ => (0 : Int32)))), (xb3, .inr (2, [.ref xb4, .int 0])), (xb4, .inl (cyI, 60, .inl (fun _ => (0 : Int32)))), (xc1, .inr (3, [.ref xc2, .ref xc3, .int 8])), (xc2, .inl (cyI, 10, .inl (fun _ => (0 : Int32)))), (xc3, .inr (2, [.ref xc4, .int 0])), (xc4, .inl (cyI, 60, .inl (fun _ => (0 : Int32)))), (xlk, .inr (0, [.int 0, .int 0, .int 0, .int 0, .int 0])), (xbh, .inl (cyI, 10, .inl (fun _ => (0 : Int32))))] _ := hP
  have hD : va_D A [(q_1, .inr (5, [.ref xa1, .ref xb1, .ref xc1, .ref xlk, .ref xbh, .int 0, .null])), (xa1, .inr (3, [.ref xa2, .ref xa3, .int 8])), (xa2, .inl (cyI, 10, .inl (fun _ => (0 : Int32)))), (xa3, .inr (2, [.ref xa4, .int 0])), (xa4, .inl (cyI, 60, .inl (fun _ => (0 : Int32)))), (xb1, .inr (3, [.ref xb2, .ref xb3, .int 8])), (xb2, .inl (cyI, 10, .inl (fun _ => (0 : Int32)))), (xb3, .inr (2, [.ref xb4, .int 0])), (xb4, .inl (cyI, 60, .inl (fun _ => (0 : Int32)))), (xc1, .inr (3, [.ref xc2, .ref xc3, .int 8])), (xc2, .inl (cyI, 10, .inl (fun _ => (0 : Int32)))), (xc3, .inr (2, [.ref xc4, .int 0])), (xc4, .inl (cyI, 60, .inl (fun _ => (0 : Int32)))), (xlk, .inr (0, [.int 0, .int 0, .int 0, .int 0, .int 0])), (xbh, .inl (cyI, 10, .inl (fun _ => (0 : Int32))))] := hD
  refine W.widen (k := 15) (n := 247) (Nat.le_of_ble_eq_true rfl) (Nat.le_of_ble_eq_true rfl) ?_
  refine lv_astore_n (lv' := [(1, .ref q_1), (0, .ref b)]) hx hb dL_law_7 rfl hl (by decide) rfl (fun ls hl => ?_)
  refine va_new (ci := 6) (fs := [.null, .null, .null, .null, .null, .null, .int 0, .null, .null, .null, .null, .int 0, .int 0, .null]) (C := RX8) (T := TX8) (N := 14) hx hb hts (fun w h => (gw_wsX80 w h).1) tyX8 tyX8_ok hown (hts _ lq_13) (hts _ lq_6) (hts _ lq_14) hK hP hD hS hA rfl (fun j hj => by rcases (show j = 0 ∨ j = 1 ∨ j = 2 ∨ j = 3 ∨ j = 4 ∨ j = 5 ∨ j = 6 ∨ j = 7 ∨ j = 8 ∨ j = 9 ∨ j = 10 ∨ j = 11 ∨ j = 12 ∨ j = 13 by omega) with rfl | rfl | rfl | rfl | rfl | rfl | rfl | rfl | rfl | rfl | rfl | rfl | rfl | rfl <;> rfl) (Nat.le_of_ble_eq_true rfl) (Nat.le_of_ble_eq_true rfl) dL_law_8 (fun q_4 H hP hD hS => ?_)
  refine W.widen (k := 16) (n := 261) (Nat.le_of_ble_eq_true rfl) (Nat.le_of_ble_eq_true rfl) ?_
  have hP : va_P (dC, dI) vwCl [(q_1, .inr (5, [.ref xa1, .ref xb1, .ref xc1, .ref xlk, .ref xbh, .int 0, .null])), (xa1, .inr (3, [.ref xa2, .ref xa3, .int 8])), (xa2, .inl (cyI, 10, .inl (fun _ => (0 : Int32)))), (xa3, .inr (2, [.ref xa4, .int 0])), (xa4, .inl (cyI, 60, .inl (fun _ => (0 : Int32)))), (xb1, .inr (3, [.ref xb2, .ref xb3, .int 8])), (xb2, .inl (cyI, 10, .inl (fun _ => (0 : Int32)))), (xb3, .inr (2, [.ref xb4, .int 0])), (xb4, .inl (cyI, 60, .inl (fun _ => (0 : Int32)))), (xc1, .inr (3, [.ref xc2, .ref xc3, .int 8])), (xc2, .inl (cyI, 10, .inl (fun _ => (0 : Int32)))), (xc3, .inr (2, [.ref xc4, .int 0])), (xc4, .inl (cyI, 60, .inl (fun _ => (0 : Int32)))), (xlk, .inr (0, [.int 0, .int 0, .int 0, .int 0, .int 0])), (xbh, .inl (cyI, 10, .inl (fun _ => (0 : Int32)))), (q_4, .inr (6, [.null, .null, .null, .null, .null, .null, .int 0, .null, .null, .null, .null, .int 0, .int 0, .null]))] _ := hP
  have hD : va_D A [(q_1, .inr (5, [.ref xa1, .ref xb1, .ref xc1, .ref xlk, .ref xbh, .int 0, .null])), (xa1, .inr (3, [.ref xa2, .ref xa3, .int 8])), (xa2, .inl (cyI, 10, .inl (fun _ => (0 : Int32)))), (xa3, .inr (2, [.ref xa4, .int 0])), (xa4, .inl (cyI, 60, .inl (fun _ => (0 : Int32)))), (xb1, .inr (3, [.ref xb2, .ref xb3, .int 8])), (xb2, .inl (cyI, 10, .inl (fun _ => (0 : Int32)))), (xb3, .inr (2, [.ref xb4, .int 0])), (xb4, .inl (cyI, 60, .inl (fun _ => (0 : Int32)))), (xc1, .inr (3, [.ref xc2, .ref xc3, .int 8])), (xc2, .inl (cyI, 10, .inl (fun _ => (0 : Int32)))), (xc3, .inr (2, [.ref xc4, .int 0])), (xc4, .inl (cyI, 60, .inl (fun _ => (0 : Int32)))), (xlk, .inr (0, [.int 0, .int 0, .int 0, .int 0, .int 0])), (xbh, .inl (cyI, 10, .inl (fun _ => (0 : Int32)))), (q_4, .inr (6, [.null, .null, .null, .null, .null, .null, .int 0, .null, .null, .null, .null, .int 0, .int 0, .null]))] := hD
  refine lv_dup hx hb dL_law_11 rfl ?_
  have f_5 := va_free (wc := [(q_4, .inr (6, [.null, .null, .null, .null, .null, .null, .int 0, .null, .null, .null, .null, .int 0, .int 0, .null]))]) hD hS hA [15] rfl
  refine va_callv (va_runI (As := []) (rest := [.ref q_4]) ⟨hx, hb, hml, hown, hts⟩ (kX8_init l dC dI cyI cyZ q_4 _) (cwI 0 hts gw_X8_init rfl rfl rfl (hts _ lq_14) (hts _ lq_15) (hts _ lq_16) rfl (by decide +kernel) ⟨Nat.le_of_ble_eq_true rfl, Nat.le_of_ble_eq_true rfl⟩) (bs_WS hB (hP.sub (ws' := [(q_4, .inr (6, [.null, .null, .null, .null, .null, .null, .int 0, .null, .null, .null, .null, .int 0, .int 0, .null]))]) [15] rfl) (hD.sub (ws' := [(q_4, .inr (6, [.null, .null, .null, .null, .null, .null, .int 0, .null, .null, .null, .null, .int 0, .int 0, .null]))]) [15] (by decide) rfl)) rfl rfl hl.1 rfl (lv_room (Nat.le_of_ble_eq_true rfl)) dL_law_12 ⟨Nat.le_of_ble_eq_true rfl, Nat.le_of_ble_eq_true rfl⟩) hS (fun q _ h => f_5 q h) f_5 (fun uh_6 t H1 locs ht hvm h_6 hB1 hz1 hk1 hS => ?_)
  obtain ⟨⟨mst, mim, mkp, mpw, mnx, mli, mil, mmv, mso, mla, mco⟩, fs, fp⟩ := uh_6
  obtain ⟨hP1, hD1⟩ := hB1
  rw [ht] at hP1
  obtain ⟨hP, hD⟩ := va_join (wr := [(q_1, .inr (5, [.ref xa1, .ref xb1, .ref xc1, .ref xlk, .ref xbh, .int 0, .null])), (xa1, .inr (3, [.ref xa2, .ref xa3, .int 8])), (xa2, .inl (cyI, 10, .inl (fun _ => (0 : Int32)))), (xa3, .inr (2, [.ref xa4, .int 0])), (xa4, .inl (cyI, 60, .inl (fun _ => (0 : Int32)))), (xb1, .inr (3, [.ref xb2, .ref xb3, .int 8])), (xb2, .inl (cyI, 10, .inl (fun _ => (0 : Int32)))), (xb3, .inr (2, [.ref xb4, .int 0])), (xb4, .inl (cyI, 60, .inl (fun _ => (0 : Int32)))), (xc1, .inr (3, [.ref xc2, .ref xc3, .int 8])), (xc2, .inl (cyI, 10, .inl (fun _ => (0 : Int32)))), (xc3, .inr (2, [.ref xc4, .int 0])), (xc4, .inl (cyI, 60, .inl (fun _ => (0 : Int32)))), (xlk, .inr (0, [.int 0, .int 0, .int 0, .int 0, .int 0])), (xbh, .inl (cyI, 10, .inl (fun _ => (0 : Int32))))]) (w1 := [(q_4, .inr (6, [.ref mst, .ref mim, .ref mkp, .ref mpw, .ref mnx, .ref mli, .int 0, .ref mil, .ref mmv, .ref mso, .ref mla, .int 0, .int 0, .ref mco])), (mst, .inl (cyI, 72, .inl fs)), (mim, .inl (cyI, 144, .inl (fun _ => (0 : Int32)))), (mkp, .inl (cyZ, 2, .inl (fun _ => (0 : Int32)))), (mpw, .inl (cyI, 11, .inl fp)), (mnx, .inl (cyI, 10, .inl (fun _ => (0 : Int32)))), (mli, .inl (cyI, 59049, .inl (fun _ => (0 : Int32)))), (mil, .inl (cyZ, 59049, .inl (fun _ => (0 : Int32)))), (mmv, .inl (cyI, 59049, .inl (fun _ => (0 : Int32)))), (mso, .inl (cyI, 59049, .inl (fun _ => (0 : Int32)))), (mla, .inl (cyI, 59049, .inl (fun _ => (0 : Int32)))), (mco, .inl (cyI, 10, .inl (fun _ => (0 : Int32))))]) hP hD [15] [0, 1, 2, 3, 4, 5, 6, 7, 8, 9, 10, 11, 12, 13, 14] rfl rfl (by decide) (by decide) hk1 f_5 hP1 hD1
  generalize H1 = H at hP hS ⊢
  have hP : va_P (dC, dI) vwCl [(q_1, .inr (5, [.ref xa1, .ref xb1, .ref xc1, .ref xlk, .ref xbh, .int 0, .null])), (xa1, .inr (3, [.ref xa2, .ref xa3, .int 8])), (xa2, .inl (cyI, 10, .inl (fun _ => (0 : Int32)))), (xa3, .inr (2, [.ref xa4, .int 0])), (xa4, .inl (cyI, 60, .inl (fun _ => (0 : Int32)))), (xb1, .inr (3, [.ref xb2, .ref xb3, .int 8])), (xb2, .inl (cyI, 10, .inl (fun _ => (0 : Int32)))), (xb3, .inr (2, [.ref xb4, .int 0])), (xb4, .inl (cyI, 60, .inl (fun _ => (0 : Int32)))), (xc1, .inr (3, [.ref xc2, .ref xc3, .int 8])), (xc2, .inl (cyI, 10, .inl (fun _ => (0 : Int32)))), (xc3, .inr (2, [.ref xc4, .int 0])), (xc4, .inl (cyI, 60, .inl (fun _ => (0 : Int32)))), (xlk, .inr (0, [.int 0, .int 0, .int 0, .int 0, .int 0])), (xbh, .inl (cyI, 10, .inl (fun _ => (0 : Int32)))), (q_4, .inr (6, [.ref mst, .ref mim, .ref mkp, .ref mpw, .ref mnx, .ref mli, .int 0, .ref mil, .ref mmv, .ref mso, .ref mla, .int 0, .int 0, .ref mco])), (mst, .inl (cyI, 72, .inl fs)), (mim, .inl (cyI, 144, .inl (fun _ => (0 : Int32)))), (mkp, .inl (cyZ, 2, .inl (fun _ => (0 : Int32)))), (mpw, .inl (cyI, 11, .inl fp)), (mnx, .inl (cyI, 10, .inl (fun _ => (0 : Int32)))), (mli, .inl (cyI, 59049, .inl (fun _ => (0 : Int32)))), (mil, .inl (cyZ, 59049, .inl (fun _ => (0 : Int32)))), (mmv, .inl (cyI, 59049, .inl (fun _ => (0 : Int32)))), (mso, .inl (cyI, 59049, .inl (fun _ => (0 : Int32)))), (mla, .inl (cyI, 59049, .inl (fun _ => (0 : Int32)))), (mco, .inl (cyI, 10, .inl (fun _ => (0 : Int32))))] _ := hP
  have hD : va_D A [(q_1, .inr (5, [.ref xa1, .ref xb1, .ref xc1, .ref xlk, .ref xbh, .int 0, .null])), (xa1, .inr (3, [.ref xa2, .ref xa3, .int 8])), (xa2, .inl (cyI, 10, .inl (fun _ => (0 : Int32)))), (xa3, .inr (2, [.ref xa4, .int 0])), (xa4, .inl (cyI, 60, .inl (fun _ => (0 : Int32)))), (xb1, .inr (3, [.ref xb2, .ref xb3, .int 8])), (xb2, .inl (cyI, 10, .inl (fun _ => (0 : Int32)))), (xb3, .inr (2, [.ref xb4, .int 0])), (xb4, .inl (cyI, 60, .inl (fun _ => (0 : Int32)))), (xc1, .inr (3, [.ref xc2, .ref xc3, .int 8])), (xc2, .inl (cyI, 10, .inl (fun _ => (0 : Int32)))), (xc3, .inr (2, [.ref xc4, .int 0])), (xc4, .inl (cyI, 60, .inl (fun _ => (0 : Int32)))), (xlk, .inr (0, [.int 0, .int 0, .int 0, .int 0, .int 0])), (xbh, .inl (cyI, 10, .inl (fun _ => (0 : Int32)))), (q_4, .inr (6, [.ref mst, .ref mim, .ref mkp, .ref mpw, .ref mnx, .ref mli, .int 0, .ref mil, .ref mmv, .ref mso, .ref mla, .int 0, .int 0, .ref mco])), (mst, .inl (cyI, 72, .inl fs)), (mim, .inl (cyI, 144, .inl (fun _ => (0 : Int32)))), (mkp, .inl (cyZ, 2, .inl (fun _ => (0 : Int32)))), (mpw, .inl (cyI, 11, .inl fp)), (mnx, .inl (cyI, 10, .inl (fun _ => (0 : Int32)))), (mli, .inl (cyI, 59049, .inl (fun _ => (0 : Int32)))), (mil, .inl (cyZ, 59049, .inl (fun _ => (0 : Int32)))), (mmv, .inl (cyI, 59049, .inl (fun _ => (0 : Int32)))), (mso, .inl (cyI, 59049, .inl (fun _ => (0 : Int32)))), (mla, .inl (cyI, 59049, .inl (fun _ => (0 : Int32)))), (mco, .inl (cyI, 10, .inl (fun _ => (0 : Int32))))] := hD
  refine W.widen (k := 27) (n := 295755) (Nat.le_of_ble_eq_true rfl) (Nat.le_of_ble_eq_true rfl) ?_
  obtain ⟨h8, hs, hp⟩ := h_6
  have h8 : fs 0 = 8 := h8
  have hs : ∀ j, 1 ≤ j → fs j = 0 := hs
  have hp : ∀ j, j ≤ 10 → fp j = nI (3 ^ j) := hp
  refine lv_astore_n (lv' := [(2, .ref q_4), (1, .ref q_1), (0, .ref b)]) hx hb dL_law_15 rfl hl (by decide) rfl (fun ls hl => ?_)
  refine lv_iconst (v := 0) hx hb dL_law_16 (by decide) ?_
  refine lv_istore_n (lv' := [(3, .int 0), (2, .ref q_4), (1, .ref q_1), (0, .ref b)]) hx hb dL_law_17 rfl hl (by decide) rfl (fun ls hl => ?_)
  refine lv_iload_n hx hb dL_law_18 rfl (lv_at hl 0 rfl) ?_
  refine lv_aload_n hx hb dL_law_19 rfl (lv_at hl 3 rfl) ?_
  refine va_slen hx hb hX hbl hbA hS dL_law_20 ?_
  refine lv_topi (fun x_7 ex_7 => ?_)
  rcases (show L = 0 ∨ L = 1 ∨ L = 2 ∨ L = 3 ∨ L = 4 ∨ L = 5 ∨ L = 6 by omega) with rfl | rfl | rfl | rfl | rfl | rfl | rfl
  · skip
    obtain rfl : 0 = x_7 := Eq.symm ex_7
    refine lv_bipush (v := 6) hx hb dL_law_21 (by decide) ?_
    refine lv_isub hx hb dL_law_23 ?_
    refine lv_topi (fun x_8 ex_8 => ?_)
    obtain rfl : (-6) = x_8 := (ex_8.trans (by decide)).symm
    refine lv_icmp_gt (tgt := 670) hx hb dL_law_24 (by decide) (fun c_9 => ?_) (fun c_9 => ?_)
    · skip
      refine lv_iconst (v := 1) hx hb dL_law_670 (by decide) ?_
      refine va_forget (fun q hq => by have h9 := hS.2.2 q hq; rw [hAe] at h9; exact h9) ?_
      refine W.widen (k := 600000) (n := 7302250) (Nat.le_of_ble_eq_true rfl) (Nat.le_of_ble_eq_true rfl) ?_
      exact lw_ret hx hb hr hlocks dL_law_671
    · skip
      exact absurd c_9 (by decide)
  · skip
    obtain rfl : 1 = x_7 := Eq.symm ex_7
    refine lv_bipush (v := 6) hx hb dL_law_21 (by decide) ?_
    refine lv_isub hx hb dL_law_23 ?_
    refine lv_topi (fun x_10 ex_10 => ?_)
    obtain rfl : (-5) = x_10 := (ex_10.trans (by decide)).symm
    refine lv_icmp_gt (tgt := 670) hx hb dL_law_24 (by decide) (fun c_11 => ?_) (fun c_11 => ?_)
    · skip
      refine lv_iconst (v := 1) hx hb dL_law_670 (by decide) ?_
      refine va_forget (fun q hq => by have h9 := hS.2.2 q hq; rw [hAe] at h9; exact h9) ?_
      refine W.widen (k := 600000) (n := 7302250) (Nat.le_of_ble_eq_true rfl) (Nat.le_of_ble_eq_true rfl) ?_
      exact lw_ret hx hb hr hlocks dL_law_671
    · skip
      exact absurd c_11 (by decide)
  · skip
    obtain rfl : 2 = x_7 := Eq.symm ex_7
    refine lv_bipush (v := 6) hx hb dL_law_21 (by decide) ?_
    refine lv_isub hx hb dL_law_23 ?_
    refine lv_topi (fun x_12 ex_12 => ?_)
    obtain rfl : (-4) = x_12 := (ex_12.trans (by decide)).symm
    refine lv_icmp_gt (tgt := 670) hx hb dL_law_24 (by decide) (fun c_13 => ?_) (fun c_13 => ?_)
    · skip
      refine lv_iconst (v := 1) hx hb dL_law_670 (by decide) ?_
      refine va_forget (fun q hq => by have h9 := hS.2.2 q hq; rw [hAe] at h9; exact h9) ?_
      refine W.widen (k := 600000) (n := 7302250) (Nat.le_of_ble_eq_true rfl) (Nat.le_of_ble_eq_true rfl) ?_
      exact lw_ret hx hb hr hlocks dL_law_671
    · skip
      exact absurd c_13 (by decide)
  · skip
    obtain rfl : 3 = x_7 := Eq.symm ex_7
    refine lv_bipush (v := 6) hx hb dL_law_21 (by decide) ?_
    refine lv_isub hx hb dL_law_23 ?_
    refine lv_topi (fun x_14 ex_14 => ?_)
    obtain rfl : (-3) = x_14 := (ex_14.trans (by decide)).symm
    refine lv_icmp_gt (tgt := 670) hx hb dL_law_24 (by decide) (fun c_15 => ?_) (fun c_15 => ?_)
    · skip
      refine lv_iconst (v := 1) hx hb dL_law_670 (by decide) ?_
      refine va_forget (fun q hq => by have h9 := hS.2.2 q hq; rw [hAe] at h9; exact h9) ?_
      refine W.widen (k := 600000) (n := 7302250) (Nat.le_of_ble_eq_true rfl) (Nat.le_of_ble_eq_true rfl) ?_
      exact lw_ret hx hb hr hlocks dL_law_671
    · skip
      exact absurd c_15 (by decide)
  · skip
    obtain rfl : 4 = x_7 := Eq.symm ex_7
    refine lv_bipush (v := 6) hx hb dL_law_21 (by decide) ?_
    refine lv_isub hx hb dL_law_23 ?_
    refine lv_topi (fun x_16 ex_16 => ?_)
    obtain rfl : (-2) = x_16 := (ex_16.trans (by decide)).symm
    refine lv_icmp_gt (tgt := 670) hx hb dL_law_24 (by decide) (fun c_17 => ?_) (fun c_17 => ?_)
    · skip
      refine lv_iconst (v := 1) hx hb dL_law_670 (by decide) ?_
      refine va_forget (fun q hq => by have h9 := hS.2.2 q hq; rw [hAe] at h9; exact h9) ?_
      refine W.widen (k := 600000) (n := 7302250) (Nat.le_of_ble_eq_true rfl) (Nat.le_of_ble_eq_true rfl) ?_
      exact lw_ret hx hb hr hlocks dL_law_671
    · skip
      exact absurd c_17 (by decide)
  · skip
    obtain rfl : 5 = x_7 := Eq.symm ex_7
    refine lv_bipush (v := 6) hx hb dL_law_21 (by decide) ?_
    refine lv_isub hx hb dL_law_23 ?_
    refine lv_topi (fun x_18 ex_18 => ?_)
    obtain rfl : (-1) = x_18 := (ex_18.trans (by decide)).symm
    refine lv_icmp_gt (tgt := 670) hx hb dL_law_24 (by decide) (fun c_19 => ?_) (fun c_19 => ?_)
    · skip
      refine lv_iconst (v := 1) hx hb dL_law_670 (by decide) ?_
      refine va_forget (fun q hq => by have h9 := hS.2.2 q hq; rw [hAe] at h9; exact h9) ?_
      refine W.widen (k := 600000) (n := 7302250) (Nat.le_of_ble_eq_true rfl) (Nat.le_of_ble_eq_true rfl) ?_
      exact lw_ret hx hb hr hlocks dL_law_671
    · skip
      exact absurd c_19 (by decide)
  · skip
    obtain rfl : 6 = x_7 := Eq.symm ex_7
    refine lv_bipush (v := 6) hx hb dL_law_21 (by decide) ?_
    refine lv_isub hx hb dL_law_23 ?_
    refine lv_topi (fun x_20 ex_20 => ?_)
    obtain rfl : 0 = x_20 := (ex_20.trans (by decide)).symm
    refine lv_icmp_gt (tgt := 670) hx hb dL_law_24 (by decide) (fun c_21 => ?_) (fun c_21 => ?_)
    · skip
      exact absurd c_21 (by decide)
    · skip
      refine lv_aload_n hx hb dL_law_27 rfl (lv_at hl 3 rfl) ?_
      refine lv_iload_n hx hb dL_law_28 rfl (lv_at hl 0 rfl) ?_
      refine va_sld hx hb hX hbl hbA hS (show vp_in 0 6 from vp_in_nI (n := 0) (N := 6) (by decide) (by decide)) dL_law_29 ?_
      refine lv_topi (fun x_22 ex_22 => ?_)
      obtain rfl : xs 0 = x_22 := Eq.symm ex_22
      refine lv_bipush (v := 31) hx hb dL_law_30 (by decide) ?_
      refine lv_iand hx hb dL_law_32 ?_
      refine lv_topi (fun x_23 ex_23 => ?_)
      rcases nb_sw x_23 17 17 rfl with w_24 | ⟨w_24k, w_24l, w_24⟩
      · skip
        refine lv_tableOut (tgt := 664) hx hb dL_law_33 w_24 (by decide) ?_
        refine lv_iinc (v := 6) (lv' := [(3, .int 6), (2, .ref q_4), (1, .ref q_1), (0, .ref b)]) hx hb dL_law_664 hl (k := 0) rfl (by decide) (by decide) rfl (fun ls hl => ?_)
        refine lv_goto (tgt := 18) hx hb dL_law_667 (by decide) ?_
        refine lv_iload_n hx hb dL_law_18 rfl (lv_at hl 0 rfl) ?_
        refine lv_aload_n hx hb dL_law_19 rfl (lv_at hl 3 rfl) ?_
        refine va_slen hx hb hX hbl hbA hS dL_law_20 ?_
        refine lv_topi (fun x_25 ex_25 => ?_)
        obtain rfl : 6 = x_25 := Eq.symm ex_25
        refine lv_bipush (v := 6) hx hb dL_law_21 (by decide) ?_
        refine lv_isub hx hb dL_law_23 ?_
        refine lv_topi (fun x_26 ex_26 => ?_)
        obtain rfl : 0 = x_26 := (ex_26.trans (by decide)).symm
        refine lv_icmp_gt (tgt := 670) hx hb dL_law_24 (by decide) (fun c_27 => ?_) (fun c_27 => ?_)
        · skip
          refine lv_iconst (v := 1) hx hb dL_law_670 (by decide) ?_
          refine va_forget (fun q hq => by have h9 := hS.2.2 q hq; rw [hAe] at h9; exact h9) ?_
          refine W.widen (k := 600000) (n := 7302250) (Nat.le_of_ble_eq_true rfl) (Nat.le_of_ble_eq_true rfl) ?_
          exact lw_ret hx hb hr hlocks dL_law_671
        · skip
          exact absurd c_27 (by decide)
      · skip
        rcases (show w_24k = 0 ∨ w_24k = 1 ∨ w_24k = 2 ∨ w_24k = 3 ∨ w_24k = 4 ∨ w_24k = 5 ∨ w_24k = 6 ∨ w_24k = 7 ∨ w_24k = 8 ∨ w_24k = 9 ∨ w_24k = 10 ∨ w_24k = 11 ∨ w_24k = 12 ∨ w_24k = 13 ∨ w_24k = 14 ∨ w_24k = 15 ∨ w_24k = 16 ∨ w_24k = 17 by omega) with rfl | rfl | rfl | rfl | rfl | rfl | rfl | rfl | rfl | rfl | rfl | rfl | rfl | rfl | rfl | rfl | rfl | rfl
        · skip
          have ew_24 : x_23 = 0 := w_24
          refine W.eq (g2 := F0 m 33 ls (.int 0 :: [])) (by rw [ew_24]) ?_
          refine lv_tableIn (off := 87) (tgt := 120) hx hb dL_law_33 (by decide) (by decide) (by decide) (by decide) ?_
          refine lv_aload_n hx hb dL_law_120 rfl (lv_at hl 2 rfl) ?_
          refine lv_aload_n hx hb dL_law_121 rfl (lv_at hl 3 rfl) ?_
          refine lv_iload_n hx hb dL_law_122 rfl (lv_at hl 0 rfl) ?_
          refine lv_iconst (v := 1) hx hb dL_law_123 (by decide) ?_
          refine lv_iadd hx hb dL_law_124 ?_
          refine lv_topi (fun x_28 ex_28 => ?_)
          obtain rfl : 1 = x_28 := (ex_28.trans (by decide)).symm
          refine va_sld hx hb hX hbl hbA hS (show vp_in 1 6 from vp_in_nI (n := 1) (N := 6) (by decide) (by decide)) dL_law_125 ?_
          refine lv_topi (fun x_29 ex_29 => ?_)
          obtain rfl : xs 1 = x_29 := Eq.symm ex_29
          have f_30 := va_free (wc := [(q_1, .inr (5, [.ref xa1, .ref xb1, .ref xc1, .ref xlk, .ref xbh, .int 0, .null])), (xa1, .inr (3, [.ref xa2, .ref xa3, .int 8])), (xa2, .inl (cyI, 10, .inl (fun _ => (0 : Int32)))), (xa3, .inr (2, [.ref xa4, .int 0]))]) hD hS hA [0, 1, 2, 3] rfl
          refine va_calli (va_runV (As := [.int (xs 1)]) (rest := []) ⟨hx, hb, hml, hown, hts⟩ (kX7_ring l dC dI cyI cyZ q_1 xa1 xb1 xc1 xlk xbh xa2 xa3 xa4 (fun _ => (0 : Int32)) (fun _ => rfl) (xs 1) _) (cwV 1 hts gv_X7_ring rfl rfl rfl (by decide +kernel) ⟨Nat.le_of_ble_eq_true rfl, Nat.le_of_ble_eq_true rfl⟩) (bs_WV hB (hP.sub (ws' := [(q_1, .inr (5, [.ref xa1, .ref xb1, .ref xc1, .ref xlk, .ref xbh, .int 0, .null])), (xa1, .inr (3, [.ref xa2, .ref xa3, .int 8])), (xa2, .inl (cyI, 10, .inl (fun _ => (0 : Int32)))), (xa3, .inr (2, [.ref xa4, .int 0]))]) [0, 1, 2, 3] rfl) (hD.sub (ws' := [(q_1, .inr (5, [.ref xa1, .ref xb1, .ref xc1, .ref xlk, .ref xbh, .int 0, .null])), (xa1, .inr (3, [.ref xa2, .ref xa3, .int 8])), (xa2, .inl (cyI, 10, .inl (fun _ => (0 : Int32)))), (xa3, .inr (2, [.ref xa4, .int 0]))]) [0, 1, 2, 3] (by decide) rfl) 0 rfl rfl) rfl rfl hl.1 rfl (lv_room (Nat.le_of_ble_eq_true rfl)) dL_law_126 ⟨Nat.le_of_ble_eq_true rfl, Nat.le_of_ble_eq_true rfl⟩) hS (fun q _ h => f_30 q h) f_30 (fun rh_31 uh_31 t H1 locs ht hvm h_31 hB1 hz1 hk1 hS => ?_)
          obtain ⟨hP, hD⟩ := va_join (wr := [(xa4, .inl (cyI, 60, .inl (fun _ => (0 : Int32)))), (xb1, .inr (3, [.ref xb2, .ref xb3, .int 8])), (xb2, .inl (cyI, 10, .inl (fun _ => (0 : Int32)))), (xb3, .inr (2, [.ref xb4, .int 0])), (xb4, .inl (cyI, 60, .inl (fun _ => (0 : Int32)))), (xc1, .inr (3, [.ref xc2, .ref xc3, .int 8])), (xc2, .inl (cyI, 10, .inl (fun _ => (0 : Int32)))), (xc3, .inr (2, [.ref xc4, .int 0])), (xc4, .inl (cyI, 60, .inl (fun _ => (0 : Int32)))), (xlk, .inr (0, [.int 0, .int 0, .int 0, .int 0, .int 0])), (xbh, .inl (cyI, 10, .inl (fun _ => (0 : Int32)))), (q_4, .inr (6, [.ref mst, .ref mim, .ref mkp, .ref mpw, .ref mnx, .ref mli, .int 0, .ref mil, .ref mmv, .ref mso, .ref mla, .int 0, .int 0, .ref mco])), (mst, .inl (cyI, 72, .inl fs)), (mim, .inl (cyI, 144, .inl (fun _ => (0 : Int32)))), (mkp, .inl (cyZ, 2, .inl (fun _ => (0 : Int32)))), (mpw, .inl (cyI, 11, .inl fp)), (mnx, .inl (cyI, 10, .inl (fun _ => (0 : Int32)))), (mli, .inl (cyI, 59049, .inl (fun _ => (0 : Int32)))), (mil, .inl (cyZ, 59049, .inl (fun _ => (0 : Int32)))), (mmv, .inl (cyI, 59049, .inl (fun _ => (0 : Int32)))), (mso, .inl (cyI, 59049, .inl (fun _ => (0 : Int32)))), (mla, .inl (cyI, 59049, .inl (fun _ => (0 : Int32)))), (mco, .inl (cyI, 10, .inl (fun _ => (0 : Int32))))]) (w1 := []) hP hD [0, 1, 2, 3] [4, 5, 6, 7, 8, 9, 10, 11, 12, 13, 14, 15, 16, 17, 18, 19, 20, 21, 22, 23, 24, 25, 26] rfl rfl (by decide) (by decide) hk1 f_30 bs_nil bs_nilD
          generalize H1 = H at hP hS ⊢
          have hP : va_P (dC, dI) vwCl [(xa4, .inl (cyI, 60, .inl (fun _ => (0 : Int32)))), (xb1, .inr (3, [.ref xb2, .ref xb3, .int 8])), (xb2, .inl (cyI, 10, .inl (fun _ => (0 : Int32)))), (xb3, .inr (2, [.ref xb4, .int 0])), (xb4, .inl (cyI, 60, .inl (fun _ => (0 : Int32)))), (xc1, .inr (3, [.ref xc2, .ref xc3, .int 8])), (xc2, .inl (cyI, 10, .inl (fun _ => (0 : Int32)))), (xc3, .inr (2, [.ref xc4, .int 0])), (xc4, .inl (cyI, 60, .inl (fun _ => (0 : Int32)))), (xlk, .inr (0, [.int 0, .int 0, .int 0, .int 0, .int 0])), (xbh, .inl (cyI, 10, .inl (fun _ => (0 : Int32)))), (q_4, .inr (6, [.ref mst, .ref mim, .ref mkp, .ref mpw, .ref mnx, .ref mli, .int 0, .ref mil, .ref mmv, .ref mso, .ref mla, .int 0, .int 0, .ref mco])), (mst, .inl (cyI, 72, .inl fs)), (mim, .inl (cyI, 144, .inl (fun _ => (0 : Int32)))), (mkp, .inl (cyZ, 2, .inl (fun _ => (0 : Int32)))), (mpw, .inl (cyI, 11, .inl fp)), (mnx, .inl (cyI, 10, .inl (fun _ => (0 : Int32)))), (mli, .inl (cyI, 59049, .inl (fun _ => (0 : Int32)))), (mil, .inl (cyZ, 59049, .inl (fun _ => (0 : Int32)))), (mmv, .inl (cyI, 59049, .inl (fun _ => (0 : Int32)))), (mso, .inl (cyI, 59049, .inl (fun _ => (0 : Int32)))), (mla, .inl (cyI, 59049, .inl (fun _ => (0 : Int32)))), (mco, .inl (cyI, 10, .inl (fun _ => (0 : Int32))))] _ := hP
          have hD : va_D A [(xa4, .inl (cyI, 60, .inl (fun _ => (0 : Int32)))), (xb1, .inr (3, [.ref xb2, .ref xb3, .int 8])), (xb2, .inl (cyI, 10, .inl (fun _ => (0 : Int32)))), (xb3, .inr (2, [.ref xb4, .int 0])), (xb4, .inl (cyI, 60, .inl (fun _ => (0 : Int32)))), (xc1, .inr (3, [.ref xc2, .ref xc3, .int 8])), (xc2, .inl (cyI, 10, .inl (fun _ => (0 : Int32)))), (xc3, .inr (2, [.ref xc4, .int 0])), (xc4, .inl (cyI, 60, .inl (fun _ => (0 : Int32)))), (xlk, .inr (0, [.int 0, .int 0, .int 0, .int 0, .int 0])), (xbh, .inl (cyI, 10, .inl (fun _ => (0 : Int32)))), (q_4, .inr (6, [.ref mst, .ref mim, .ref mkp, .ref mpw, .ref mnx, .ref mli, .int 0, .ref mil, .ref mmv, .ref mso, .ref mla, .int 0, .int 0, .ref mco])), (mst, .inl (cyI, 72, .inl fs)), (mim, .inl (cyI, 144, .inl (fun _ => (0 : Int32)))), (mkp, .inl (cyZ, 2, .inl (fun _ => (0 : Int32)))), (mpw, .inl (cyI, 11, .inl fp)), (mnx, .inl (cyI, 10, .inl (fun _ => (0 : Int32)))), (mli, .inl (cyI, 59049, .inl (fun _ => (0 : Int32)))), (mil, .inl (cyZ, 59049, .inl (fun _ => (0 : Int32)))), (mmv, .inl (cyI, 59049, .inl (fun _ => (0 : Int32)))), (mso, .inl (cyI, 59049, .inl (fun _ => (0 : Int32)))), (mla, .inl (cyI, 59049, .inl (fun _ => (0 : Int32)))), (mco, .inl (cyI, 10, .inl (fun _ => (0 : Int32))))] := hD
          obtain rfl : (sp_ring (xs 1)) = rh_31 := Eq.symm h_31
          refine lv_aload_n hx hb dL_law_129 rfl (lv_at hl 1 rfl) ?_
          refine lv_aload_n hx hb dL_law_130 rfl (lv_at hl 3 rfl) ?_
          refine lv_iload_n hx hb dL_law_131 rfl (lv_at hl 0 rfl) ?_
          refine lv_iconst (v := 1) hx hb dL_law_132 (by decide) ?_
          refine lv_iadd hx hb dL_law_133 ?_
          refine lv_topi (fun x_32 ex_32 => ?_)
          obtain rfl : 1 = x_32 := (ex_32.trans (by decide)).symm
          refine va_sld hx hb hX hbl hbA hS (show vp_in 1 6 from vp_in_nI (n := 1) (N := 6) (by decide) (by decide)) dL_law_134 ?_
          refine lv_topi (fun x_33 ex_33 => ?_)
          obtain rfl : xs 1 = x_33 := Eq.symm ex_33
          have f_34 := va_free (wc := [(q_4, .inr (6, [.ref mst, .ref mim, .ref mkp, .ref mpw, .ref mnx, .ref mli, .int 0, .ref mil, .ref mmv, .ref mso, .ref mla, .int 0, .int 0, .ref mco])), (mst, .inl (cyI, 72, .inl fs)), (mpw, .inl (cyI, 11, .inl fp))]) hD hS hA [11, 12, 15] rfl
          refine va_calli (va_runV (As := [.int (xs 1)]) (rest := [.int (sp_ring (xs 1))]) ⟨hx, hb, hml, hown, hts⟩ (kX8_ring l dC dI cyI cyZ q_4 mst mim mkp mpw mnx mli mil mmv mso mla mco 0 0 0 fs h8 hs fp hp (xs 1) _) (cwV 1 hts gv_X8_ring rfl rfl rfl (by decide +kernel) ⟨Nat.le_of_ble_eq_true rfl, Nat.le_of_ble_eq_true rfl⟩) (bs_WV hB (hP.sub (ws' := [(q_4, .inr (6, [.ref mst, .ref mim, .ref mkp, .ref mpw, .ref mnx, .ref mli, .int 0, .ref mil, .ref mmv, .ref mso, .ref mla, .int 0, .int 0, .ref mco])), (mst, .inl (cyI, 72, .inl fs)), (mpw, .inl (cyI, 11, .inl fp))]) [11, 12, 15] rfl) (hD.sub (ws' := [(q_4, .inr (6, [.ref mst, .ref mim, .ref mkp, .ref mpw, .ref mnx, .ref mli, .int 0, .ref mil, .ref mmv, .ref mso, .ref mla, .int 0, .int 0, .ref mco])), (mst, .inl (cyI, 72, .inl fs)), (mpw, .inl (cyI, 11, .inl fp))]) [11, 12, 15] (by decide) rfl) 0 rfl rfl) rfl rfl hl.1 rfl (lv_room (Nat.le_of_ble_eq_true rfl)) dL_law_135 ⟨Nat.le_of_ble_eq_true rfl, Nat.le_of_ble_eq_true rfl⟩) hS (fun q _ h => f_34 q h) f_34 (fun rh_35 uh_35 t H1 locs ht hvm h_35 hB1 hz1 hk1 hS => ?_)
          obtain ⟨hP, hD⟩ := va_join (wr := [(xa4, .inl (cyI, 60, .inl (fun _ => (0 : Int32)))), (xb1, .inr (3, [.ref xb2, .ref xb3, .int 8])), (xb2, .inl (cyI, 10, .inl (fun _ => (0 : Int32)))), (xb3, .inr (2, [.ref xb4, .int 0])), (xb4, .inl (cyI, 60, .inl (fun _ => (0 : Int32)))), (xc1, .inr (3, [.ref xc2, .ref xc3, .int 8])), (xc2, .inl (cyI, 10, .inl (fun _ => (0 : Int32)))), (xc3, .inr (2, [.ref xc4, .int 0])), (xc4, .inl (cyI, 60, .inl (fun _ => (0 : Int32)))), (xlk, .inr (0, [.int 0, .int 0, .int 0, .int 0, .int 0])), (xbh, .inl (cyI, 10, .inl (fun _ => (0 : Int32)))), (mim, .inl (cyI, 144, .inl (fun _ => (0 : Int32)))), (mkp, .inl (cyZ, 2, .inl (fun _ => (0 : Int32)))), (mnx, .inl (cyI, 10, .inl (fun _ => (0 : Int32)))), (mli, .inl (cyI, 59049, .inl (fun _ => (0 : Int32)))), (mil, .inl (cyZ, 59049, .inl (fun _ => (0 : Int32)))), (mmv, .inl (cyI, 59049, .inl (fun _ => (0 : Int32)))), (mso, .inl (cyI, 59049, .inl (fun _ => (0 : Int32)))), (mla, .inl (cyI, 59049, .inl (fun _ => (0 : Int32)))), (mco, .inl (cyI, 10, .inl (fun _ => (0 : Int32))))]) (w1 := []) hP hD [11, 12, 15] [0, 1, 2, 3, 4, 5, 6, 7, 8, 9, 10, 13, 14, 16, 17, 18, 19, 20, 21, 22] rfl rfl (by decide) (by decide) hk1 f_34 bs_nil bs_nilD
          generalize H1 = H at hP hS ⊢
          have hP : va_P (dC, dI) vwCl [(xa4, .inl (cyI, 60, .inl (fun _ => (0 : Int32)))), (xb1, .inr (3, [.ref xb2, .ref xb3, .int 8])), (xb2, .inl (cyI, 10, .inl (fun _ => (0 : Int32)))), (xb3, .inr (2, [.ref xb4, .int 0])), (xb4, .inl (cyI, 60, .inl (fun _ => (0 : Int32)))), (xc1, .inr (3, [.ref xc2, .ref xc3, .int 8])), (xc2, .inl (cyI, 10, .inl (fun _ => (0 : Int32)))), (xc3, .inr (2, [.ref xc4, .int 0])), (xc4, .inl (cyI, 60, .inl (fun _ => (0 : Int32)))), (xlk, .inr (0, [.int 0, .int 0, .int 0, .int 0, .int 0])), (xbh, .inl (cyI, 10, .inl (fun _ => (0 : Int32)))), (mim, .inl (cyI, 144, .inl (fun _ => (0 : Int32)))), (mkp, .inl (cyZ, 2, .inl (fun _ => (0 : Int32)))), (mnx, .inl (cyI, 10, .inl (fun _ => (0 : Int32)))), (mli, .inl (cyI, 59049, .inl (fun _ => (0 : Int32)))), (mil, .inl (cyZ, 59049, .inl (fun _ => (0 : Int32)))), (mmv, .inl (cyI, 59049, .inl (fun _ => (0 : Int32)))), (mso, .inl (cyI, 59049, .inl (fun _ => (0 : Int32)))), (mla, .inl (cyI, 59049, .inl (fun _ => (0 : Int32)))), (mco, .inl (cyI, 10, .inl (fun _ => (0 : Int32))))] _ := hP
          have hD : va_D A [(xa4, .inl (cyI, 60, .inl (fun _ => (0 : Int32)))), (xb1, .inr (3, [.ref xb2, .ref xb3, .int 8])), (xb2, .inl (cyI, 10, .inl (fun _ => (0 : Int32)))), (xb3, .inr (2, [.ref xb4, .int 0])), (xb4, .inl (cyI, 60, .inl (fun _ => (0 : Int32)))), (xc1, .inr (3, [.ref xc2, .ref xc3, .int 8])), (xc2, .inl (cyI, 10, .inl (fun _ => (0 : Int32)))), (xc3, .inr (2, [.ref xc4, .int 0])), (xc4, .inl (cyI, 60, .inl (fun _ => (0 : Int32)))), (xlk, .inr (0, [.int 0, .int 0, .int 0, .int 0, .int 0])), (xbh, .inl (cyI, 10, .inl (fun _ => (0 : Int32)))), (mim, .inl (cyI, 144, .inl (fun _ => (0 : Int32)))), (mkp, .inl (cyZ, 2, .inl (fun _ => (0 : Int32)))), (mnx, .inl (cyI, 10, .inl (fun _ => (0 : Int32)))), (mli, .inl (cyI, 59049, .inl (fun _ => (0 : Int32)))), (mil, .inl (cyZ, 59049, .inl (fun _ => (0 : Int32)))), (mmv, .inl (cyI, 59049, .inl (fun _ => (0 : Int32)))), (mso, .inl (cyI, 59049, .inl (fun _ => (0 : Int32)))), (mla, .inl (cyI, 59049, .inl (fun _ => (0 : Int32)))), (mco, .inl (cyI, 10, .inl (fun _ => (0 : Int32))))] := hD
          obtain rfl : (sp_ring (xs 1)) = rh_35 := Eq.symm h_35
          refine lv_icmp_eq (tgt := 664) hx hb dL_law_138 (by decide) (fun c_36 => ?_) (fun c_36 => ?_)
          · skip
            refine lv_iinc (v := 6) (lv' := [(3, .int 6), (2, .ref q_4), (1, .ref q_1), (0, .ref b)]) hx hb dL_law_664 hl (k := 0) rfl (by decide) (by decide) rfl (fun ls hl => ?_)
            refine lv_goto (tgt := 18) hx hb dL_law_667 (by decide) ?_
            refine lv_iload_n hx hb dL_law_18 rfl (lv_at hl 0 rfl) ?_
            refine lv_aload_n hx hb dL_law_19 rfl (lv_at hl 3 rfl) ?_
            refine va_slen hx hb hX hbl hbA hS dL_law_20 ?_
            refine lv_topi (fun x_37 ex_37 => ?_)
            obtain rfl : 6 = x_37 := Eq.symm ex_37
            refine lv_bipush (v := 6) hx hb dL_law_21 (by decide) ?_
            refine lv_isub hx hb dL_law_23 ?_
            refine lv_topi (fun x_38 ex_38 => ?_)
            obtain rfl : 0 = x_38 := (ex_38.trans (by decide)).symm
            refine lv_icmp_gt (tgt := 670) hx hb dL_law_24 (by decide) (fun c_39 => ?_) (fun c_39 => ?_)
            · skip
              refine lv_iconst (v := 1) hx hb dL_law_670 (by decide) ?_
              refine va_forget (fun q hq => by have h9 := hS.2.2 q hq; rw [hAe] at h9; exact h9) ?_
              refine W.widen (k := 600000) (n := 7302250) (Nat.le_of_ble_eq_true rfl) (Nat.le_of_ble_eq_true rfl) ?_
              exact lw_ret hx hb hr hlocks dL_law_671
            · skip
              exact absurd c_39 (by decide)
          · skip
            exact absurd rfl c_36
        · skip
          have ew_24 : x_23 = 1 := w_24
          refine W.eq (g2 := F0 m 33 ls (.int 1 :: [])) (by rw [ew_24]) ?_
          refine lv_tableIn (off := 110) (tgt := 143) hx hb dL_law_33 (by decide) (by decide) (by decide) (by decide) ?_
          refine lv_aload_n hx hb dL_law_143 rfl (lv_at hl 2 rfl) ?_
          refine lv_aload_n hx hb dL_law_144 rfl (lv_at hl 3 rfl) ?_
          refine lv_iload_n hx hb dL_law_145 rfl (lv_at hl 0 rfl) ?_
          refine lv_iconst (v := 1) hx hb dL_law_146 (by decide) ?_
          refine lv_iadd hx hb dL_law_147 ?_
          refine lv_topi (fun x_40 ex_40 => ?_)
          obtain rfl : 1 = x_40 := (ex_40.trans (by decide)).symm
          refine va_sld hx hb hX hbl hbA hS (show vp_in 1 6 from vp_in_nI (n := 1) (N := 6) (by decide) (by decide)) dL_law_148 ?_
          refine lv_topi (fun x_41 ex_41 => ?_)
          obtain rfl : xs 1 = x_41 := Eq.symm ex_41
          refine lv_aload_n hx hb dL_law_149 rfl (lv_at hl 3 rfl) ?_
          refine lv_iload_n hx hb dL_law_150 rfl (lv_at hl 0 rfl) ?_
          refine lv_iconst (v := 2) hx hb dL_law_151 (by decide) ?_
          refine lv_iadd hx hb dL_law_152 ?_
          refine lv_topi (fun x_42 ex_42 => ?_)
          obtain rfl : 2 = x_42 := (ex_42.trans (by decide)).symm
          refine va_sld hx hb hX hbl hbA hS (show vp_in 2 6 from vp_in_nI (n := 2) (N := 6) (by decide) (by decide)) dL_law_153 ?_
          refine lv_topi (fun x_43 ex_43 => ?_)
          obtain rfl : xs 2 = x_43 := Eq.symm ex_43
          have f_44 := va_free (wc := [(q_1, .inr (5, [.ref xa1, .ref xb1, .ref xc1, .ref xlk, .ref xbh, .int 0, .null])), (xa1, .inr (3, [.ref xa2, .ref xa3, .int 8])), (xa2, .inl (cyI, 10, .inl (fun _ => (0 : Int32)))), (xa3, .inr (2, [.ref xa4, .int 0]))]) hD hS hA [0, 1, 2, 3] rfl
          refine va_calli (va_runV (As := [.int (xs 1), .int (xs 2)]) (rest := []) ⟨hx, hb, hml, hown, hts⟩ (kX7_stand l dC dI cyI cyZ q_1 xa1 xb1 xc1 xlk xbh xa2 xa3 xa4 (fun _ => (0 : Int32)) (fun _ => rfl) (xs 1) (xs 2) _) (cwV 2 hts gv_X7_stand rfl rfl rfl (by decide +kernel) ⟨Nat.le_of_ble_eq_true rfl, Nat.le_of_ble_eq_true rfl⟩) (bs_WV hB (hP.sub (ws' := [(q_1, .inr (5, [.ref xa1, .ref xb1, .ref xc1, .ref xlk, .ref xbh, .int 0, .null])), (xa1, .inr (3, [.ref xa2, .ref xa3, .int 8])), (xa2, .inl (cyI, 10, .inl (fun _ => (0 : Int32)))), (xa3, .inr (2, [.ref xa4, .int 0]))]) [0, 1, 2, 3] rfl) (hD.sub (ws' := [(q_1, .inr (5, [.ref xa1, .ref xb1, .ref xc1, .ref xlk, .ref xbh, .int 0, .null])), (xa1, .inr (3, [.ref xa2, .ref xa3, .int 8])), (xa2, .inl (cyI, 10, .inl (fun _ => (0 : Int32)))), (xa3, .inr (2, [.ref xa4, .int 0]))]) [0, 1, 2, 3] (by decide) rfl) 0 rfl rfl) rfl rfl hl.1 rfl (lv_room (Nat.le_of_ble_eq_true rfl)) dL_law_154 ⟨Nat.le_of_ble_eq_true rfl, Nat.le_of_ble_eq_true rfl⟩) hS (fun q _ h => f_44 q h) f_44 (fun rh_45 uh_45 t H1 locs ht hvm h_45 hB1 hz1 hk1 hS => ?_)
          obtain ⟨hP, hD⟩ := va_join (wr := [(xa4, .inl (cyI, 60, .inl (fun _ => (0 : Int32)))), (xb1, .inr (3, [.ref xb2, .ref xb3, .int 8])), (xb2, .inl (cyI, 10, .inl (fun _ => (0 : Int32)))), (xb3, .inr (2, [.ref xb4, .int 0])), (xb4, .inl (cyI, 60, .inl (fun _ => (0 : Int32)))), (xc1, .inr (3, [.ref xc2, .ref xc3, .int 8])), (xc2, .inl (cyI, 10, .inl (fun _ => (0 : Int32)))), (xc3, .inr (2, [.ref xc4, .int 0])), (xc4, .inl (cyI, 60, .inl (fun _ => (0 : Int32)))), (xlk, .inr (0, [.int 0, .int 0, .int 0, .int 0, .int 0])), (xbh, .inl (cyI, 10, .inl (fun _ => (0 : Int32)))), (q_4, .inr (6, [.ref mst, .ref mim, .ref mkp, .ref mpw, .ref mnx, .ref mli, .int 0, .ref mil, .ref mmv, .ref mso, .ref mla, .int 0, .int 0, .ref mco])), (mst, .inl (cyI, 72, .inl fs)), (mim, .inl (cyI, 144, .inl (fun _ => (0 : Int32)))), (mkp, .inl (cyZ, 2, .inl (fun _ => (0 : Int32)))), (mpw, .inl (cyI, 11, .inl fp)), (mnx, .inl (cyI, 10, .inl (fun _ => (0 : Int32)))), (mli, .inl (cyI, 59049, .inl (fun _ => (0 : Int32)))), (mil, .inl (cyZ, 59049, .inl (fun _ => (0 : Int32)))), (mmv, .inl (cyI, 59049, .inl (fun _ => (0 : Int32)))), (mso, .inl (cyI, 59049, .inl (fun _ => (0 : Int32)))), (mla, .inl (cyI, 59049, .inl (fun _ => (0 : Int32)))), (mco, .inl (cyI, 10, .inl (fun _ => (0 : Int32))))]) (w1 := []) hP hD [0, 1, 2, 3] [4, 5, 6, 7, 8, 9, 10, 11, 12, 13, 14, 15, 16, 17, 18, 19, 20, 21, 22, 23, 24, 25, 26] rfl rfl (by decide) (by decide) hk1 f_44 bs_nil bs_nilD
          generalize H1 = H at hP hS ⊢
          have hP : va_P (dC, dI) vwCl [(xa4, .inl (cyI, 60, .inl (fun _ => (0 : Int32)))), (xb1, .inr (3, [.ref xb2, .ref xb3, .int 8])), (xb2, .inl (cyI, 10, .inl (fun _ => (0 : Int32)))), (xb3, .inr (2, [.ref xb4, .int 0])), (xb4, .inl (cyI, 60, .inl (fun _ => (0 : Int32)))), (xc1, .inr (3, [.ref xc2, .ref xc3, .int 8])), (xc2, .inl (cyI, 10, .inl (fun _ => (0 : Int32)))), (xc3, .inr (2, [.ref xc4, .int 0])), (xc4, .inl (cyI, 60, .inl (fun _ => (0 : Int32)))), (xlk, .inr (0, [.int 0, .int 0, .int 0, .int 0, .int 0])), (xbh, .inl (cyI, 10, .inl (fun _ => (0 : Int32)))), (q_4, .inr (6, [.ref mst, .ref mim, .ref mkp, .ref mpw, .ref mnx, .ref mli, .int 0, .ref mil, .ref mmv, .ref mso, .ref mla, .int 0, .int 0, .ref mco])), (mst, .inl (cyI, 72, .inl fs)), (mim, .inl (cyI, 144, .inl (fun _ => (0 : Int32)))), (mkp, .inl (cyZ, 2, .inl (fun _ => (0 : Int32)))), (mpw, .inl (cyI, 11, .inl fp)), (mnx, .inl (cyI, 10, .inl (fun _ => (0 : Int32)))), (mli, .inl (cyI, 59049, .inl (fun _ => (0 : Int32)))), (mil, .inl (cyZ, 59049, .inl (fun _ => (0 : Int32)))), (mmv, .inl (cyI, 59049, .inl (fun _ => (0 : Int32)))), (mso, .inl (cyI, 59049, .inl (fun _ => (0 : Int32)))), (mla, .inl (cyI, 59049, .inl (fun _ => (0 : Int32)))), (mco, .inl (cyI, 10, .inl (fun _ => (0 : Int32))))] _ := hP
          have hD : va_D A [(xa4, .inl (cyI, 60, .inl (fun _ => (0 : Int32)))), (xb1, .inr (3, [.ref xb2, .ref xb3, .int 8])), (xb2, .inl (cyI, 10, .inl (fun _ => (0 : Int32)))), (xb3, .inr (2, [.ref xb4, .int 0])), (xb4, .inl (cyI, 60, .inl (fun _ => (0 : Int32)))), (xc1, .inr (3, [.ref xc2, .ref xc3, .int 8])), (xc2, .inl (cyI, 10, .inl (fun _ => (0 : Int32)))), (xc3, .inr (2, [.ref xc4, .int 0])), (xc4, .inl (cyI, 60, .inl (fun _ => (0 : Int32)))), (xlk, .inr (0, [.int 0, .int 0, .int 0, .int 0, .int 0])), (xbh, .inl (cyI, 10, .inl (fun _ => (0 : Int32)))), (q_4, .inr (6, [.ref mst, .ref mim, .ref mkp, .ref mpw, .ref mnx, .ref mli, .int 0, .ref mil, .ref mmv, .ref mso, .ref mla, .int 0, .int 0, .ref mco])), (mst, .inl (cyI, 72, .inl fs)), (mim, .inl (cyI, 144, .inl (fun _ => (0 : Int32)))), (mkp, .inl (cyZ, 2, .inl (fun _ => (0 : Int32)))), (mpw, .inl (cyI, 11, .inl fp)), (mnx, .inl (cyI, 10, .inl (fun _ => (0 : Int32)))), (mli, .inl (cyI, 59049, .inl (fun _ => (0 : Int32)))), (mil, .inl (cyZ, 59049, .inl (fun _ => (0 : Int32)))), (mmv, .inl (cyI, 59049, .inl (fun _ => (0 : Int32)))), (mso, .inl (cyI, 59049, .inl (fun _ => (0 : Int32)))), (mla, .inl (cyI, 59049, .inl (fun _ => (0 : Int32)))), (mco, .inl (cyI, 10, .inl (fun _ => (0 : Int32))))] := hD
          obtain rfl : (sp_stand (xs 1) (xs 2)) = rh_45 := Eq.symm h_45
          refine lv_aload_n hx hb dL_law_157 rfl (lv_at hl 1 rfl) ?_
          refine lv_aload_n hx hb dL_law_158 rfl (lv_at hl 3 rfl) ?_
          refine lv_iload_n hx hb dL_law_159 rfl (lv_at hl 0 rfl) ?_
          refine lv_iconst (v := 1) hx hb dL_law_160 (by decide) ?_
          refine lv_iadd hx hb dL_law_161 ?_
          refine lv_topi (fun x_46 ex_46 => ?_)
          obtain rfl : 1 = x_46 := (ex_46.trans (by decide)).symm
          refine va_sld hx hb hX hbl hbA hS (show vp_in 1 6 from vp_in_nI (n := 1) (N := 6) (by decide) (by decide)) dL_law_162 ?_
          refine lv_topi (fun x_47 ex_47 => ?_)
          obtain rfl : xs 1 = x_47 := Eq.symm ex_47
          refine lv_aload_n hx hb dL_law_163 rfl (lv_at hl 3 rfl) ?_
          refine lv_iload_n hx hb dL_law_164 rfl (lv_at hl 0 rfl) ?_
          refine lv_iconst (v := 2) hx hb dL_law_165 (by decide) ?_
          refine lv_iadd hx hb dL_law_166 ?_
          refine lv_topi (fun x_48 ex_48 => ?_)
          obtain rfl : 2 = x_48 := (ex_48.trans (by decide)).symm
          refine va_sld hx hb hX hbl hbA hS (show vp_in 2 6 from vp_in_nI (n := 2) (N := 6) (by decide) (by decide)) dL_law_167 ?_
          refine lv_topi (fun x_49 ex_49 => ?_)
          obtain rfl : xs 2 = x_49 := Eq.symm ex_49
          have f_50 := va_free (wc := [(q_4, .inr (6, [.ref mst, .ref mim, .ref mkp, .ref mpw, .ref mnx, .ref mli, .int 0, .ref mil, .ref mmv, .ref mso, .ref mla, .int 0, .int 0, .ref mco])), (mst, .inl (cyI, 72, .inl fs)), (mpw, .inl (cyI, 11, .inl fp))]) hD hS hA [11, 12, 15] rfl
          refine va_calli (va_runV (As := [.int (xs 1), .int (xs 2)]) (rest := [.int (sp_stand (xs 1) (xs 2))]) ⟨hx, hb, hml, hown, hts⟩ (kX8_stand l dC dI cyI cyZ q_4 mst mim mkp mpw mnx mli mil mmv mso mla mco 0 0 0 fs h8 hs fp hp (xs 1) (xs 2) _) (cwV 2 hts gv_X8_stand rfl rfl rfl (by decide +kernel) ⟨Nat.le_of_ble_eq_true rfl, Nat.le_of_ble_eq_true rfl⟩) (bs_WV hB (hP.sub (ws' := [(q_4, .inr (6, [.ref mst, .ref mim, .ref mkp, .ref mpw, .ref mnx, .ref mli, .int 0, .ref mil, .ref mmv, .ref mso, .ref mla, .int 0, .int 0, .ref mco])), (mst, .inl (cyI, 72, .inl fs)), (mpw, .inl (cyI, 11, .inl fp))]) [11, 12, 15] rfl) (hD.sub (ws' := [(q_4, .inr (6, [.ref mst, .ref mim, .ref mkp, .ref mpw, .ref mnx, .ref mli, .int 0, .ref mil, .ref mmv, .ref mso, .ref mla, .int 0, .int 0, .ref mco])), (mst, .inl (cyI, 72, .inl fs)), (mpw, .inl (cyI, 11, .inl fp))]) [11, 12, 15] (by decide) rfl) 0 rfl rfl) rfl rfl hl.1 rfl (lv_room (Nat.le_of_ble_eq_true rfl)) dL_law_168 ⟨Nat.le_of_ble_eq_true rfl, Nat.le_of_ble_eq_true rfl⟩) hS (fun q _ h => f_50 q h) f_50 (fun rh_51 uh_51 t H1 locs ht hvm h_51 hB1 hz1 hk1 hS => ?_)
          obtain ⟨hP, hD⟩ := va_join (wr := [(xa4, .inl (cyI, 60, .inl (fun _ => (0 : Int32)))), (xb1, .inr (3, [.ref xb2, .ref xb3, .int 8])), (xb2, .inl (cyI, 10, .inl (fun _ => (0 : Int32)))), (xb3, .inr (2, [.ref xb4, .int 0])), (xb4, .inl (cyI, 60, .inl (fun _ => (0 : Int32)))), (xc1, .inr (3, [.ref xc2, .ref xc3, .int 8])), (xc2, .inl (cyI, 10, .inl (fun _ => (0 : Int32)))), (xc3, .inr (2, [.ref xc4, .int 0])), (xc4, .inl (cyI, 60, .inl (fun _ => (0 : Int32)))), (xlk, .inr (0, [.int 0, .int 0, .int 0, .int 0, .int 0])), (xbh, .inl (cyI, 10, .inl (fun _ => (0 : Int32)))), (mim, .inl (cyI, 144, .inl (fun _ => (0 : Int32)))), (mkp, .inl (cyZ, 2, .inl (fun _ => (0 : Int32)))), (mnx, .inl (cyI, 10, .inl (fun _ => (0 : Int32)))), (mli, .inl (cyI, 59049, .inl (fun _ => (0 : Int32)))), (mil, .inl (cyZ, 59049, .inl (fun _ => (0 : Int32)))), (mmv, .inl (cyI, 59049, .inl (fun _ => (0 : Int32)))), (mso, .inl (cyI, 59049, .inl (fun _ => (0 : Int32)))), (mla, .inl (cyI, 59049, .inl (fun _ => (0 : Int32)))), (mco, .inl (cyI, 10, .inl (fun _ => (0 : Int32))))]) (w1 := []) hP hD [11, 12, 15] [0, 1, 2, 3, 4, 5, 6, 7, 8, 9, 10, 13, 14, 16, 17, 18, 19, 20, 21, 22] rfl rfl (by decide) (by decide) hk1 f_50 bs_nil bs_nilD
          generalize H1 = H at hP hS ⊢
          have hP : va_P (dC, dI) vwCl [(xa4, .inl (cyI, 60, .inl (fun _ => (0 : Int32)))), (xb1, .inr (3, [.ref xb2, .ref xb3, .int 8])), (xb2, .inl (cyI, 10, .inl (fun _ => (0 : Int32)))), (xb3, .inr (2, [.ref xb4, .int 0])), (xb4, .inl (cyI, 60, .inl (fun _ => (0 : Int32)))), (xc1, .inr (3, [.ref xc2, .ref xc3, .int 8])), (xc2, .inl (cyI, 10, .inl (fun _ => (0 : Int32)))), (xc3, .inr (2, [.ref xc4, .int 0])), (xc4, .inl (cyI, 60, .inl (fun _ => (0 : Int32)))), (xlk, .inr (0, [.int 0, .int 0, .int 0, .int 0, .int 0])), (xbh, .inl (cyI, 10, .inl (fun _ => (0 : Int32)))), (mim, .inl (cyI, 144, .inl (fun _ => (0 : Int32)))), (mkp, .inl (cyZ, 2, .inl (fun _ => (0 : Int32)))), (mnx, .inl (cyI, 10, .inl (fun _ => (0 : Int32)))), (mli, .inl (cyI, 59049, .inl (fun _ => (0 : Int32)))), (mil, .inl (cyZ, 59049, .inl (fun _ => (0 : Int32)))), (mmv, .inl (cyI, 59049, .inl (fun _ => (0 : Int32)))), (mso, .inl (cyI, 59049, .inl (fun _ => (0 : Int32)))), (mla, .inl (cyI, 59049, .inl (fun _ => (0 : Int32)))), (mco, .inl (cyI, 10, .inl (fun _ => (0 : Int32))))] _ := hP
          have hD : va_D A [(xa4, .inl (cyI, 60, .inl (fun _ => (0 : Int32)))), (xb1, .inr (3, [.ref xb2, .ref xb3, .int 8])), (xb2, .inl (cyI, 10, .inl (fun _ => (0 : Int32)))), (xb3, .inr (2, [.ref xb4, .int 0])), (xb4, .inl (cyI, 60, .inl (fun _ => (0 : Int32)))), (xc1, .inr (3, [.ref xc2, .ref xc3, .int 8])), (xc2, .inl (cyI, 10, .inl (fun _ => (0 : Int32)))), (xc3, .inr (2, [.ref xc4, .int 0])), (xc4, .inl (cyI, 60, .inl (fun _ => (0 : Int32)))), (xlk, .inr (0, [.int 0, .int 0, .int 0, .int 0, .int 0])), (xbh, .inl (cyI, 10, .inl (fun _ => (0 : Int32)))), (mim, .inl (cyI, 144, .inl (fun _ => (0 : Int32)))), (mkp, .inl (cyZ, 2, .inl (fun _ => (0 : Int32)))), (mnx, .inl (cyI, 10, .inl (fun _ => (0 : Int32)))), (mli, .inl (cyI, 59049, .inl (fun _ => (0 : Int32)))), (mil, .inl (cyZ, 59049, .inl (fun _ => (0 : Int32)))), (mmv, .inl (cyI, 59049, .inl (fun _ => (0 : Int32)))), (mso, .inl (cyI, 59049, .inl (fun _ => (0 : Int32)))), (mla, .inl (cyI, 59049, .inl (fun _ => (0 : Int32)))), (mco, .inl (cyI, 10, .inl (fun _ => (0 : Int32))))] := hD
          obtain rfl : (sp_stand (xs 1) (xs 2)) = rh_51 := Eq.symm h_51
          refine lv_icmp_eq (tgt := 664) hx hb dL_law_171 (by decide) (fun c_52 => ?_) (fun c_52 => ?_)
          · skip
            refine lv_iinc (v := 6) (lv' := [(3, .int 6), (2, .ref q_4), (1, .ref q_1), (0, .ref b)]) hx hb dL_law_664 hl (k := 0) rfl (by decide) (by decide) rfl (fun ls hl => ?_)
            refine lv_goto (tgt := 18) hx hb dL_law_667 (by decide) ?_
            refine lv_iload_n hx hb dL_law_18 rfl (lv_at hl 0 rfl) ?_
            refine lv_aload_n hx hb dL_law_19 rfl (lv_at hl 3 rfl) ?_
            refine va_slen hx hb hX hbl hbA hS dL_law_20 ?_
            refine lv_topi (fun x_53 ex_53 => ?_)
            obtain rfl : 6 = x_53 := Eq.symm ex_53
            refine lv_bipush (v := 6) hx hb dL_law_21 (by decide) ?_
            refine lv_isub hx hb dL_law_23 ?_
            refine lv_topi (fun x_54 ex_54 => ?_)
            obtain rfl : 0 = x_54 := (ex_54.trans (by decide)).symm
            refine lv_icmp_gt (tgt := 670) hx hb dL_law_24 (by decide) (fun c_55 => ?_) (fun c_55 => ?_)
            · skip
              refine lv_iconst (v := 1) hx hb dL_law_670 (by decide) ?_
              refine va_forget (fun q hq => by have h9 := hS.2.2 q hq; rw [hAe] at h9; exact h9) ?_
              refine W.widen (k := 600000) (n := 7302250) (Nat.le_of_ble_eq_true rfl) (Nat.le_of_ble_eq_true rfl) ?_
              exact lw_ret hx hb hr hlocks dL_law_671
            · skip
              exact absurd c_55 (by decide)
          · skip
            exact absurd rfl c_52
        · skip
          have ew_24 : x_23 = 2 := w_24
          refine W.eq (g2 := F0 m 33 ls (.int 2 :: [])) (by rw [ew_24]) ?_
          refine lv_tableIn (off := 143) (tgt := 176) hx hb dL_law_33 (by decide) (by decide) (by decide) (by decide) ?_
          refine lv_aload_n hx hb dL_law_176 rfl (lv_at hl 2 rfl) ?_
          refine lv_aload_n hx hb dL_law_177 rfl (lv_at hl 3 rfl) ?_
          refine lv_iload_n hx hb dL_law_178 rfl (lv_at hl 0 rfl) ?_
          refine lv_iconst (v := 1) hx hb dL_law_179 (by decide) ?_
          refine lv_iadd hx hb dL_law_180 ?_
          refine lv_topi (fun x_56 ex_56 => ?_)
          obtain rfl : 1 = x_56 := (ex_56.trans (by decide)).symm
          refine va_sld hx hb hX hbl hbA hS (show vp_in 1 6 from vp_in_nI (n := 1) (N := 6) (by decide) (by decide)) dL_law_181 ?_
          refine lv_topi (fun x_57 ex_57 => ?_)
          obtain rfl : xs 1 = x_57 := Eq.symm ex_57
          refine lv_aload_n hx hb dL_law_182 rfl (lv_at hl 3 rfl) ?_
          refine lv_iload_n hx hb dL_law_183 rfl (lv_at hl 0 rfl) ?_
          refine lv_iconst (v := 2) hx hb dL_law_184 (by decide) ?_
          refine lv_iadd hx hb dL_law_185 ?_
          refine lv_topi (fun x_58 ex_58 => ?_)
          obtain rfl : 2 = x_58 := (ex_58.trans (by decide)).symm
          refine va_sld hx hb hX hbl hbA hS (show vp_in 2 6 from vp_in_nI (n := 2) (N := 6) (by decide) (by decide)) dL_law_186 ?_
          refine lv_topi (fun x_59 ex_59 => ?_)
          obtain rfl : xs 2 = x_59 := Eq.symm ex_59
          refine lv_aload_n hx hb dL_law_187 rfl (lv_at hl 3 rfl) ?_
          refine lv_iload_n hx hb dL_law_188 rfl (lv_at hl 0 rfl) ?_
          refine lv_iconst (v := 3) hx hb dL_law_189 (by decide) ?_
          refine lv_iadd hx hb dL_law_190 ?_
          refine lv_topi (fun x_60 ex_60 => ?_)
          obtain rfl : 3 = x_60 := (ex_60.trans (by decide)).symm
          refine va_sld hx hb hX hbl hbA hS (show vp_in 3 6 from vp_in_nI (n := 3) (N := 6) (by decide) (by decide)) dL_law_191 ?_
          refine lv_topi (fun x_61 ex_61 => ?_)
          obtain rfl : xs 3 = x_61 := Eq.symm ex_61
          refine vp_callSi (va_Run.run (va_runV (As := [.int (xs 1), .int (xs 2), .int (xs 3)]) (rest := []) ⟨hx, hb, hml, hown, hts⟩ (kX7_gap l dC dI cyI cyZ q_1 xa1 xb1 xc1 xlk xbh xa2 xa3 xa4 (fun _ => (0 : Int32)) (fun _ => rfl) (xs 1) (xs 2) (xs 3)) (cwV 3 hts gv_X7_gap rfl rfl rfl (by decide +kernel) ⟨Nat.le_of_ble_eq_true rfl, Nat.le_of_ble_eq_true rfl⟩) (bs_RV hB (hP.sub (ws' := [(q_1, .inr (5, [.ref xa1, .ref xb1, .ref xc1, .ref xlk, .ref xbh, .int 0, .null])), (xa1, .inr (3, [.ref xa2, .ref xa3, .int 8])), (xa2, .inl (cyI, 10, .inl (fun _ => (0 : Int32)))), (xa3, .inr (2, [.ref xa4, .int 0]))]) [0, 1, 2, 3] rfl) 0 rfl rfl) rfl rfl hl.1 rfl (lv_room (Nat.le_of_ble_eq_true rfl)) dL_law_192 ⟨Nat.le_of_ble_eq_true rfl, Nat.le_of_ble_eq_true rfl⟩)) (fun r_62 hr_62 => ?_)
          obtain rfl : (-1) = r_62 := Eq.symm hr_62
          refine lv_aload_n hx hb dL_law_195 rfl (lv_at hl 1 rfl) ?_
          refine lv_aload_n hx hb dL_law_196 rfl (lv_at hl 3 rfl) ?_
          refine lv_iload_n hx hb dL_law_197 rfl (lv_at hl 0 rfl) ?_
          refine lv_iconst (v := 1) hx hb dL_law_198 (by decide) ?_
          refine lv_iadd hx hb dL_law_199 ?_
          refine lv_topi (fun x_63 ex_63 => ?_)
          obtain rfl : 1 = x_63 := (ex_63.trans (by decide)).symm
          refine va_sld hx hb hX hbl hbA hS (show vp_in 1 6 from vp_in_nI (n := 1) (N := 6) (by decide) (by decide)) dL_law_200 ?_
          refine lv_topi (fun x_64 ex_64 => ?_)
          obtain rfl : xs 1 = x_64 := Eq.symm ex_64
          refine lv_aload_n hx hb dL_law_201 rfl (lv_at hl 3 rfl) ?_
          refine lv_iload_n hx hb dL_law_202 rfl (lv_at hl 0 rfl) ?_
          refine lv_iconst (v := 2) hx hb dL_law_203 (by decide) ?_
          refine lv_iadd hx hb dL_law_204 ?_
          refine lv_topi (fun x_65 ex_65 => ?_)
          obtain rfl : 2 = x_65 := (ex_65.trans (by decide)).symm
          refine va_sld hx hb hX hbl hbA hS (show vp_in 2 6 from vp_in_nI (n := 2) (N := 6) (by decide) (by decide)) dL_law_205 ?_
          refine lv_topi (fun x_66 ex_66 => ?_)
          obtain rfl : xs 2 = x_66 := Eq.symm ex_66
          refine lv_aload_n hx hb dL_law_206 rfl (lv_at hl 3 rfl) ?_
          refine lv_iload_n hx hb dL_law_207 rfl (lv_at hl 0 rfl) ?_
          refine lv_iconst (v := 3) hx hb dL_law_208 (by decide) ?_
          refine lv_iadd hx hb dL_law_209 ?_
          refine lv_topi (fun x_67 ex_67 => ?_)
          obtain rfl : 3 = x_67 := (ex_67.trans (by decide)).symm
          refine va_sld hx hb hX hbl hbA hS (show vp_in 3 6 from vp_in_nI (n := 3) (N := 6) (by decide) (by decide)) dL_law_210 ?_
          refine lv_topi (fun x_68 ex_68 => ?_)
          obtain rfl : xs 3 = x_68 := Eq.symm ex_68
          refine vp_callSi (va_Run.run (va_runV (As := [.int (xs 1), .int (xs 2), .int (xs 3)]) (rest := [.int (-1)]) ⟨hx, hb, hml, hown, hts⟩ (kX8_gap l dC dI cyI cyZ q_4 mst mim mkp mpw mnx mli mil mmv mso mla mco 0 0 0 fs h8 hs fp hp (xs 1) (xs 2) (xs 3)) (cwV 3 hts gv_X8_gap rfl rfl rfl (by decide +kernel) ⟨Nat.le_of_ble_eq_true rfl, Nat.le_of_ble_eq_true rfl⟩) (bs_RV hB (hP.sub (ws' := [(q_4, .inr (6, [.ref mst, .ref mim, .ref mkp, .ref mpw, .ref mnx, .ref mli, .int 0, .ref mil, .ref mmv, .ref mso, .ref mla, .int 0, .int 0, .ref mco])), (mst, .inl (cyI, 72, .inl fs)), (mpw, .inl (cyI, 11, .inl fp))]) [15, 16, 19] rfl) 0 rfl rfl) rfl rfl hl.1 rfl (lv_room (Nat.le_of_ble_eq_true rfl)) dL_law_211 ⟨Nat.le_of_ble_eq_true rfl, Nat.le_of_ble_eq_true rfl⟩)) (fun r_69 hr_69 => ?_)
          obtain rfl : (-1) = r_69 := Eq.symm hr_69
          refine lv_icmp_eq (tgt := 664) hx hb dL_law_214 (by decide) (fun c_70 => ?_) (fun c_70 => ?_)
          · skip
            refine lv_iinc (v := 6) (lv' := [(3, .int 6), (2, .ref q_4), (1, .ref q_1), (0, .ref b)]) hx hb dL_law_664 hl (k := 0) rfl (by decide) (by decide) rfl (fun ls hl => ?_)
            refine lv_goto (tgt := 18) hx hb dL_law_667 (by decide) ?_
            refine lv_iload_n hx hb dL_law_18 rfl (lv_at hl 0 rfl) ?_
            refine lv_aload_n hx hb dL_law_19 rfl (lv_at hl 3 rfl) ?_
            refine va_slen hx hb hX hbl hbA hS dL_law_20 ?_
            refine lv_topi (fun x_71 ex_71 => ?_)
            obtain rfl : 6 = x_71 := Eq.symm ex_71
            refine lv_bipush (v := 6) hx hb dL_law_21 (by decide) ?_
            refine lv_isub hx hb dL_law_23 ?_
            refine lv_topi (fun x_72 ex_72 => ?_)
            obtain rfl : 0 = x_72 := (ex_72.trans (by decide)).symm
            refine lv_icmp_gt (tgt := 670) hx hb dL_law_24 (by decide) (fun c_73 => ?_) (fun c_73 => ?_)
            · skip
              refine lv_iconst (v := 1) hx hb dL_law_670 (by decide) ?_
              refine va_forget (fun q hq => by have h9 := hS.2.2 q hq; rw [hAe] at h9; exact h9) ?_
              refine W.widen (k := 600000) (n := 7302250) (Nat.le_of_ble_eq_true rfl) (Nat.le_of_ble_eq_true rfl) ?_
              exact lw_ret hx hb hr hlocks dL_law_671
            · skip
              exact absurd c_73 (by decide)
          · skip
            exact absurd c_70 (by decide)
        · skip
          have ew_24 : x_23 = 3 := w_24
          refine W.eq (g2 := F0 m 33 ls (.int 3 :: [])) (by rw [ew_24]) ?_
          refine lv_tableIn (off := 186) (tgt := 219) hx hb dL_law_33 (by decide) (by decide) (by decide) (by decide) ?_
          refine lv_aload_n hx hb dL_law_219 rfl (lv_at hl 2 rfl) ?_
          refine lv_aload_n hx hb dL_law_220 rfl (lv_at hl 3 rfl) ?_
          refine lv_iload_n hx hb dL_law_221 rfl (lv_at hl 0 rfl) ?_
          refine lv_iconst (v := 1) hx hb dL_law_222 (by decide) ?_
          refine lv_iadd hx hb dL_law_223 ?_
          refine lv_topi (fun x_74 ex_74 => ?_)
          obtain rfl : 1 = x_74 := (ex_74.trans (by decide)).symm
          refine va_sld hx hb hX hbl hbA hS (show vp_in 1 6 from vp_in_nI (n := 1) (N := 6) (by decide) (by decide)) dL_law_224 ?_
          refine lv_topi (fun x_75 ex_75 => ?_)
          obtain rfl : xs 1 = x_75 := Eq.symm ex_75
          refine vp_callSi (va_Run.run (va_runV (As := [.int (xs 1)]) (rest := []) ⟨hx, hb, hml, hown, hts⟩ (kX7_shape l dC dI cyI cyZ q_1 xa1 xb1 xc1 xlk xbh xa2 xa3 xa4 (fun _ => (0 : Int32)) (fun _ => rfl) (xs 1)) (cwV 1 hts gv_X7_shape rfl rfl rfl (by decide +kernel) ⟨Nat.le_of_ble_eq_true rfl, Nat.le_of_ble_eq_true rfl⟩) (bs_RV hB (hP.sub (ws' := [(q_1, .inr (5, [.ref xa1, .ref xb1, .ref xc1, .ref xlk, .ref xbh, .int 0, .null])), (xa1, .inr (3, [.ref xa2, .ref xa3, .int 8])), (xa2, .inl (cyI, 10, .inl (fun _ => (0 : Int32)))), (xa3, .inr (2, [.ref xa4, .int 0]))]) [0, 1, 2, 3] rfl) 0 rfl rfl) rfl rfl hl.1 rfl (lv_room (Nat.le_of_ble_eq_true rfl)) dL_law_225 ⟨Nat.le_of_ble_eq_true rfl, Nat.le_of_ble_eq_true rfl⟩)) (fun r_76 hr_76 => ?_)
          obtain rfl : (sp_shape (xs 1)) = r_76 := Eq.symm hr_76
          refine lv_aload_n hx hb dL_law_228 rfl (lv_at hl 1 rfl) ?_
          refine lv_aload_n hx hb dL_law_229 rfl (lv_at hl 3 rfl) ?_
          refine lv_iload_n hx hb dL_law_230 rfl (lv_at hl 0 rfl) ?_
          refine lv_iconst (v := 1) hx hb dL_law_231 (by decide) ?_
          refine lv_iadd hx hb dL_law_232 ?_
          refine lv_topi (fun x_77 ex_77 => ?_)
          obtain rfl : 1 = x_77 := (ex_77.trans (by decide)).symm
          refine va_sld hx hb hX hbl hbA hS (show vp_in 1 6 from vp_in_nI (n := 1) (N := 6) (by decide) (by decide)) dL_law_233 ?_
          refine lv_topi (fun x_78 ex_78 => ?_)
          obtain rfl : xs 1 = x_78 := Eq.symm ex_78
          refine vp_callSi (va_Run.run (va_runV (As := [.int (xs 1)]) (rest := [.int (sp_shape (xs 1))]) ⟨hx, hb, hml, hown, hts⟩ (kX8_shape l dC dI cyI cyZ q_4 mst mim mkp mpw mnx mli mil mmv mso mla mco 0 0 0 fs h8 hs fp hp (xs 1)) (cwV 1 hts gv_X8_shape rfl rfl rfl (by decide +kernel) ⟨Nat.le_of_ble_eq_true rfl, Nat.le_of_ble_eq_true rfl⟩) (bs_RV hB (hP.sub (ws' := [(q_4, .inr (6, [.ref mst, .ref mim, .ref mkp, .ref mpw, .ref mnx, .ref mli, .int 0, .ref mil, .ref mmv, .ref mso, .ref mla, .int 0, .int 0, .ref mco])), (mst, .inl (cyI, 72, .inl fs)), (mpw, .inl (cyI, 11, .inl fp))]) [15, 16, 19] rfl) 0 rfl rfl) rfl rfl hl.1 rfl (lv_room (Nat.le_of_ble_eq_true rfl)) dL_law_234 ⟨Nat.le_of_ble_eq_true rfl, Nat.le_of_ble_eq_true rfl⟩)) (fun r_79 hr_79 => ?_)
          obtain rfl : (sp_shape (xs 1)) = r_79 := Eq.symm hr_79
          refine lv_icmp_eq (tgt := 664) hx hb dL_law_237 (by decide) (fun c_80 => ?_) (fun c_80 => ?_)
          · skip
            refine lv_iinc (v := 6) (lv' := [(3, .int 6), (2, .ref q_4), (1, .ref q_1), (0, .ref b)]) hx hb dL_law_664 hl (k := 0) rfl (by decide) (by decide) rfl (fun ls hl => ?_)
            refine lv_goto (tgt := 18) hx hb dL_law_667 (by decide) ?_
            refine lv_iload_n hx hb dL_law_18 rfl (lv_at hl 0 rfl) ?_
            refine lv_aload_n hx hb dL_law_19 rfl (lv_at hl 3 rfl) ?_
            refine va_slen hx hb hX hbl hbA hS dL_law_20 ?_
            refine lv_topi (fun x_81 ex_81 => ?_)
            obtain rfl : 6 = x_81 := Eq.symm ex_81
            refine lv_bipush (v := 6) hx hb dL_law_21 (by decide) ?_
            refine lv_isub hx hb dL_law_23 ?_
            refine lv_topi (fun x_82 ex_82 => ?_)
            obtain rfl : 0 = x_82 := (ex_82.trans (by decide)).symm
            refine lv_icmp_gt (tgt := 670) hx hb dL_law_24 (by decide) (fun c_83 => ?_) (fun c_83 => ?_)
            · skip
              refine lv_iconst (v := 1) hx hb dL_law_670 (by decide) ?_
              refine va_forget (fun q hq => by have h9 := hS.2.2 q hq; rw [hAe] at h9; exact h9) ?_
              refine W.widen (k := 600000) (n := 7302250) (Nat.le_of_ble_eq_true rfl) (Nat.le_of_ble_eq_true rfl) ?_
              exact lw_ret hx hb hr hlocks dL_law_671
            · skip
              exact absurd c_83 (by decide)
          · skip
            exact absurd rfl c_80
        · skip
          have ew_24 : x_23 = 4 := w_24
          refine W.eq (g2 := F0 m 33 ls (.int 4 :: [])) (by rw [ew_24]) ?_
          refine lv_tableIn (off := 209) (tgt := 242) hx hb dL_law_33 (by decide) (by decide) (by decide) (by decide) ?_
          refine lv_aload_n hx hb dL_law_242 rfl (lv_at hl 2 rfl) ?_
          refine lv_aload_n hx hb dL_law_243 rfl (lv_at hl 3 rfl) ?_
          refine lv_iload_n hx hb dL_law_244 rfl (lv_at hl 0 rfl) ?_
          refine lv_iconst (v := 1) hx hb dL_law_245 (by decide) ?_
          refine lv_iadd hx hb dL_law_246 ?_
          refine lv_topi (fun x_84 ex_84 => ?_)
          obtain rfl : 1 = x_84 := (ex_84.trans (by decide)).symm
          refine va_sld hx hb hX hbl hbA hS (show vp_in 1 6 from vp_in_nI (n := 1) (N := 6) (by decide) (by decide)) dL_law_247 ?_
          refine lv_topi (fun x_85 ex_85 => ?_)
          obtain rfl : xs 1 = x_85 := Eq.symm ex_85
          refine lv_aload_n hx hb dL_law_248 rfl (lv_at hl 3 rfl) ?_
          refine lv_iload_n hx hb dL_law_249 rfl (lv_at hl 0 rfl) ?_
          refine lv_iconst (v := 2) hx hb dL_law_250 (by decide) ?_
          refine lv_iadd hx hb dL_law_251 ?_
          refine lv_topi (fun x_86 ex_86 => ?_)
          obtain rfl : 2 = x_86 := (ex_86.trans (by decide)).symm
          refine va_sld hx hb hX hbl hbA hS (show vp_in 2 6 from vp_in_nI (n := 2) (N := 6) (by decide) (by decide)) dL_law_252 ?_
          refine lv_topi (fun x_87 ex_87 => ?_)
          obtain rfl : xs 2 = x_87 := Eq.symm ex_87
          refine lv_aload_n hx hb dL_law_253 rfl (lv_at hl 3 rfl) ?_
          refine lv_iload_n hx hb dL_law_254 rfl (lv_at hl 0 rfl) ?_
          refine lv_iconst (v := 3) hx hb dL_law_255 (by decide) ?_
          refine lv_iadd hx hb dL_law_256 ?_
          refine lv_topi (fun x_88 ex_88 => ?_)
          obtain rfl : 3 = x_88 := (ex_88.trans (by decide)).symm
          refine va_sld hx hb hX hbl hbA hS (show vp_in 3 6 from vp_in_nI (n := 3) (N := 6) (by decide) (by decide)) dL_law_257 ?_
          refine lv_topi (fun x_89 ex_89 => ?_)
          obtain rfl : xs 3 = x_89 := Eq.symm ex_89
          refine lv_aload_n hx hb dL_law_258 rfl (lv_at hl 3 rfl) ?_
          refine lv_iload_n hx hb dL_law_259 rfl (lv_at hl 0 rfl) ?_
          refine lv_iconst (v := 4) hx hb dL_law_260 (by decide) ?_
          refine lv_iadd hx hb dL_law_261 ?_
          refine lv_topi (fun x_90 ex_90 => ?_)
          obtain rfl : 4 = x_90 := (ex_90.trans (by decide)).symm
          refine va_sld hx hb hX hbl hbA hS (show vp_in 4 6 from vp_in_nI (n := 4) (N := 6) (by decide) (by decide)) dL_law_262 ?_
          refine lv_topi (fun x_91 ex_91 => ?_)
          obtain rfl : xs 4 = x_91 := Eq.symm ex_91
          refine lv_aload_n hx hb dL_law_263 rfl (lv_at hl 3 rfl) ?_
          refine lv_iload_n hx hb dL_law_264 rfl (lv_at hl 0 rfl) ?_
          refine lv_iconst (v := 5) hx hb dL_law_265 (by decide) ?_
          refine lv_iadd hx hb dL_law_266 ?_
          refine lv_topi (fun x_92 ex_92 => ?_)
          obtain rfl : 5 = x_92 := (ex_92.trans (by decide)).symm
          refine va_sld hx hb hX hbl hbA hS (show vp_in 5 6 from vp_in_nI (n := 5) (N := 6) (by decide) (by decide)) dL_law_267 ?_
          refine lv_topi (fun x_93 ex_93 => ?_)
          obtain rfl : xs 5 = x_93 := Eq.symm ex_93
          have f_94 := va_free (wc := [(q_1, .inr (5, [.ref xa1, .ref xb1, .ref xc1, .ref xlk, .ref xbh, .int 0, .null])), (xa1, .inr (3, [.ref xa2, .ref xa3, .int 8])), (xa2, .inl (cyI, 10, .inl (fun _ => (0 : Int32)))), (xa3, .inr (2, [.ref xa4, .int 0])), (xa4, .inl (cyI, 60, .inl (fun _ => (0 : Int32))))]) hD hS hA [0, 1, 2, 3, 4] rfl
          refine va_calli (va_runV (As := [.int (xs 1), .int (xs 2), .int (xs 3), .int (xs 4), .int (xs 5)]) (rest := []) ⟨hx, hb, hml, hown, hts⟩ (kX7_rule l dC dI cyI cyZ q_1 xa1 xb1 xc1 xlk xbh xa2 xa3 xa4 (fun _ => (0 : Int32)) (fun _ => rfl) (fun _ => (0 : Int32)) (xs 1) (xs 2) (xs 3) (xs 4) (xs 5) _) (cwV 5 hts gv_X7_rule rfl rfl rfl (by decide +kernel) ⟨Nat.le_of_ble_eq_true rfl, Nat.le_of_ble_eq_true rfl⟩) (bs_WV hB (hP.sub (ws' := [(q_1, .inr (5, [.ref xa1, .ref xb1, .ref xc1, .ref xlk, .ref xbh, .int 0, .null])), (xa1, .inr (3, [.ref xa2, .ref xa3, .int 8])), (xa2, .inl (cyI, 10, .inl (fun _ => (0 : Int32)))), (xa3, .inr (2, [.ref xa4, .int 0])), (xa4, .inl (cyI, 60, .inl (fun _ => (0 : Int32))))]) [0, 1, 2, 3, 4] rfl) (hD.sub (ws' := [(q_1, .inr (5, [.ref xa1, .ref xb1, .ref xc1, .ref xlk, .ref xbh, .int 0, .null])), (xa1, .inr (3, [.ref xa2, .ref xa3, .int 8])), (xa2, .inl (cyI, 10, .inl (fun _ => (0 : Int32)))), (xa3, .inr (2, [.ref xa4, .int 0])), (xa4, .inl (cyI, 60, .inl (fun _ => (0 : Int32))))]) [0, 1, 2, 3, 4] (by decide) rfl) 0 rfl rfl) rfl rfl hl.1 rfl (lv_room (Nat.le_of_ble_eq_true rfl)) dL_law_268 ⟨Nat.le_of_ble_eq_true rfl, Nat.le_of_ble_eq_true rfl⟩) hS (fun q _ h => f_94 q h) f_94 (fun rh_95 uh_95 t H1 locs ht hvm h_95 hB1 hz1 hk1 hS => ?_)
          obtain ⟨hP, hD⟩ := va_join (wr := [(xb1, .inr (3, [.ref xb2, .ref xb3, .int 8])), (xb2, .inl (cyI, 10, .inl (fun _ => (0 : Int32)))), (xb3, .inr (2, [.ref xb4, .int 0])), (xb4, .inl (cyI, 60, .inl (fun _ => (0 : Int32)))), (xc1, .inr (3, [.ref xc2, .ref xc3, .int 8])), (xc2, .inl (cyI, 10, .inl (fun _ => (0 : Int32)))), (xc3, .inr (2, [.ref xc4, .int 0])), (xc4, .inl (cyI, 60, .inl (fun _ => (0 : Int32)))), (xlk, .inr (0, [.int 0, .int 0, .int 0, .int 0, .int 0])), (xbh, .inl (cyI, 10, .inl (fun _ => (0 : Int32)))), (q_4, .inr (6, [.ref mst, .ref mim, .ref mkp, .ref mpw, .ref mnx, .ref mli, .int 0, .ref mil, .ref mmv, .ref mso, .ref mla, .int 0, .int 0, .ref mco])), (mst, .inl (cyI, 72, .inl fs)), (mim, .inl (cyI, 144, .inl (fun _ => (0 : Int32)))), (mkp, .inl (cyZ, 2, .inl (fun _ => (0 : Int32)))), (mpw, .inl (cyI, 11, .inl fp)), (mnx, .inl (cyI, 10, .inl (fun _ => (0 : Int32)))), (mli, .inl (cyI, 59049, .inl (fun _ => (0 : Int32)))), (mil, .inl (cyZ, 59049, .inl (fun _ => (0 : Int32)))), (mmv, .inl (cyI, 59049, .inl (fun _ => (0 : Int32)))), (mso, .inl (cyI, 59049, .inl (fun _ => (0 : Int32)))), (mla, .inl (cyI, 59049, .inl (fun _ => (0 : Int32)))), (mco, .inl (cyI, 10, .inl (fun _ => (0 : Int32))))]) (w1 := []) hP hD [0, 1, 2, 3, 4] [5, 6, 7, 8, 9, 10, 11, 12, 13, 14, 15, 16, 17, 18, 19, 20, 21, 22, 23, 24, 25, 26] rfl rfl (by decide) (by decide) hk1 f_94 bs_nil bs_nilD
          generalize H1 = H at hP hS ⊢
          have hP : va_P (dC, dI) vwCl [(xb1, .inr (3, [.ref xb2, .ref xb3, .int 8])), (xb2, .inl (cyI, 10, .inl (fun _ => (0 : Int32)))), (xb3, .inr (2, [.ref xb4, .int 0])), (xb4, .inl (cyI, 60, .inl (fun _ => (0 : Int32)))), (xc1, .inr (3, [.ref xc2, .ref xc3, .int 8])), (xc2, .inl (cyI, 10, .inl (fun _ => (0 : Int32)))), (xc3, .inr (2, [.ref xc4, .int 0])), (xc4, .inl (cyI, 60, .inl (fun _ => (0 : Int32)))), (xlk, .inr (0, [.int 0, .int 0, .int 0, .int 0, .int 0])), (xbh, .inl (cyI, 10, .inl (fun _ => (0 : Int32)))), (q_4, .inr (6, [.ref mst, .ref mim, .ref mkp, .ref mpw, .ref mnx, .ref mli, .int 0, .ref mil, .ref mmv, .ref mso, .ref mla, .int 0, .int 0, .ref mco])), (mst, .inl (cyI, 72, .inl fs)), (mim, .inl (cyI, 144, .inl (fun _ => (0 : Int32)))), (mkp, .inl (cyZ, 2, .inl (fun _ => (0 : Int32)))), (mpw, .inl (cyI, 11, .inl fp)), (mnx, .inl (cyI, 10, .inl (fun _ => (0 : Int32)))), (mli, .inl (cyI, 59049, .inl (fun _ => (0 : Int32)))), (mil, .inl (cyZ, 59049, .inl (fun _ => (0 : Int32)))), (mmv, .inl (cyI, 59049, .inl (fun _ => (0 : Int32)))), (mso, .inl (cyI, 59049, .inl (fun _ => (0 : Int32)))), (mla, .inl (cyI, 59049, .inl (fun _ => (0 : Int32)))), (mco, .inl (cyI, 10, .inl (fun _ => (0 : Int32))))] _ := hP
          have hD : va_D A [(xb1, .inr (3, [.ref xb2, .ref xb3, .int 8])), (xb2, .inl (cyI, 10, .inl (fun _ => (0 : Int32)))), (xb3, .inr (2, [.ref xb4, .int 0])), (xb4, .inl (cyI, 60, .inl (fun _ => (0 : Int32)))), (xc1, .inr (3, [.ref xc2, .ref xc3, .int 8])), (xc2, .inl (cyI, 10, .inl (fun _ => (0 : Int32)))), (xc3, .inr (2, [.ref xc4, .int 0])), (xc4, .inl (cyI, 60, .inl (fun _ => (0 : Int32)))), (xlk, .inr (0, [.int 0, .int 0, .int 0, .int 0, .int 0])), (xbh, .inl (cyI, 10, .inl (fun _ => (0 : Int32)))), (q_4, .inr (6, [.ref mst, .ref mim, .ref mkp, .ref mpw, .ref mnx, .ref mli, .int 0, .ref mil, .ref mmv, .ref mso, .ref mla, .int 0, .int 0, .ref mco])), (mst, .inl (cyI, 72, .inl fs)), (mim, .inl (cyI, 144, .inl (fun _ => (0 : Int32)))), (mkp, .inl (cyZ, 2, .inl (fun _ => (0 : Int32)))), (mpw, .inl (cyI, 11, .inl fp)), (mnx, .inl (cyI, 10, .inl (fun _ => (0 : Int32)))), (mli, .inl (cyI, 59049, .inl (fun _ => (0 : Int32)))), (mil, .inl (cyZ, 59049, .inl (fun _ => (0 : Int32)))), (mmv, .inl (cyI, 59049, .inl (fun _ => (0 : Int32)))), (mso, .inl (cyI, 59049, .inl (fun _ => (0 : Int32)))), (mla, .inl (cyI, 59049, .inl (fun _ => (0 : Int32)))), (mco, .inl (cyI, 10, .inl (fun _ => (0 : Int32))))] := hD
          obtain rfl : (sp_rule (xs 1) (xs 2) (xs 3) (xs 4) (xs 5)) = rh_95 := Eq.symm h_95
          refine lv_aload_n hx hb dL_law_271 rfl (lv_at hl 1 rfl) ?_
          refine lv_aload_n hx hb dL_law_272 rfl (lv_at hl 3 rfl) ?_
          refine lv_iload_n hx hb dL_law_273 rfl (lv_at hl 0 rfl) ?_
          refine lv_iconst (v := 1) hx hb dL_law_274 (by decide) ?_
          refine lv_iadd hx hb dL_law_275 ?_
          refine lv_topi (fun x_96 ex_96 => ?_)
          obtain rfl : 1 = x_96 := (ex_96.trans (by decide)).symm
          refine va_sld hx hb hX hbl hbA hS (show vp_in 1 6 from vp_in_nI (n := 1) (N := 6) (by decide) (by decide)) dL_law_276 ?_
          refine lv_topi (fun x_97 ex_97 => ?_)
          obtain rfl : xs 1 = x_97 := Eq.symm ex_97
          refine lv_aload_n hx hb dL_law_277 rfl (lv_at hl 3 rfl) ?_
          refine lv_iload_n hx hb dL_law_278 rfl (lv_at hl 0 rfl) ?_
          refine lv_iconst (v := 2) hx hb dL_law_279 (by decide) ?_
          refine lv_iadd hx hb dL_law_280 ?_
          refine lv_topi (fun x_98 ex_98 => ?_)
          obtain rfl : 2 = x_98 := (ex_98.trans (by decide)).symm
          refine va_sld hx hb hX hbl hbA hS (show vp_in 2 6 from vp_in_nI (n := 2) (N := 6) (by decide) (by decide)) dL_law_281 ?_
          refine lv_topi (fun x_99 ex_99 => ?_)
          obtain rfl : xs 2 = x_99 := Eq.symm ex_99
          refine lv_aload_n hx hb dL_law_282 rfl (lv_at hl 3 rfl) ?_
          refine lv_iload_n hx hb dL_law_283 rfl (lv_at hl 0 rfl) ?_
          refine lv_iconst (v := 3) hx hb dL_law_284 (by decide) ?_
          refine lv_iadd hx hb dL_law_285 ?_
          refine lv_topi (fun x_100 ex_100 => ?_)
          obtain rfl : 3 = x_100 := (ex_100.trans (by decide)).symm
          refine va_sld hx hb hX hbl hbA hS (show vp_in 3 6 from vp_in_nI (n := 3) (N := 6) (by decide) (by decide)) dL_law_286 ?_
          refine lv_topi (fun x_101 ex_101 => ?_)
          obtain rfl : xs 3 = x_101 := Eq.symm ex_101
          refine lv_aload_n hx hb dL_law_287 rfl (lv_at hl 3 rfl) ?_
          refine lv_iload_n hx hb dL_law_288 rfl (lv_at hl 0 rfl) ?_
          refine lv_iconst (v := 4) hx hb dL_law_289 (by decide) ?_
          refine lv_iadd hx hb dL_law_290 ?_
          refine lv_topi (fun x_102 ex_102 => ?_)
          obtain rfl : 4 = x_102 := (ex_102.trans (by decide)).symm
          refine va_sld hx hb hX hbl hbA hS (show vp_in 4 6 from vp_in_nI (n := 4) (N := 6) (by decide) (by decide)) dL_law_291 ?_
          refine lv_topi (fun x_103 ex_103 => ?_)
          obtain rfl : xs 4 = x_103 := Eq.symm ex_103
          refine lv_aload_n hx hb dL_law_292 rfl (lv_at hl 3 rfl) ?_
          refine lv_iload_n hx hb dL_law_293 rfl (lv_at hl 0 rfl) ?_
          refine lv_iconst (v := 5) hx hb dL_law_294 (by decide) ?_
          refine lv_iadd hx hb dL_law_295 ?_
          refine lv_topi (fun x_104 ex_104 => ?_)
          obtain rfl : 5 = x_104 := (ex_104.trans (by decide)).symm
          refine va_sld hx hb hX hbl hbA hS (show vp_in 5 6 from vp_in_nI (n := 5) (N := 6) (by decide) (by decide)) dL_law_296 ?_
          refine lv_topi (fun x_105 ex_105 => ?_)
          obtain rfl : xs 5 = x_105 := Eq.symm ex_105
          have f_106 := va_free (wc := [(q_4, .inr (6, [.ref mst, .ref mim, .ref mkp, .ref mpw, .ref mnx, .ref mli, .int 0, .ref mil, .ref mmv, .ref mso, .ref mla, .int 0, .int 0, .ref mco])), (mst, .inl (cyI, 72, .inl fs)), (mpw, .inl (cyI, 11, .inl fp))]) hD hS hA [10, 11, 14] rfl
          refine va_calli (va_runV (As := [.int (xs 1), .int (xs 2), .int (xs 3), .int (xs 4), .int (xs 5)]) (rest := [.int (sp_rule (xs 1) (xs 2) (xs 3) (xs 4) (xs 5))]) ⟨hx, hb, hml, hown, hts⟩ (kX8_rule l dC dI cyI cyZ q_4 mst mim mkp mpw mnx mli mil mmv mso mla mco 0 0 0 fs h8 hs fp hp (xs 1) (xs 2) (xs 3) (xs 4) (xs 5) _) (cwV 5 hts gv_X8_rule rfl rfl rfl (by decide +kernel) ⟨Nat.le_of_ble_eq_true rfl, Nat.le_of_ble_eq_true rfl⟩) (bs_WV hB (hP.sub (ws' := [(q_4, .inr (6, [.ref mst, .ref mim, .ref mkp, .ref mpw, .ref mnx, .ref mli, .int 0, .ref mil, .ref mmv, .ref mso, .ref mla, .int 0, .int 0, .ref mco])), (mst, .inl (cyI, 72, .inl fs)), (mpw, .inl (cyI, 11, .inl fp))]) [10, 11, 14] rfl) (hD.sub (ws' := [(q_4, .inr (6, [.ref mst, .ref mim, .ref mkp, .ref mpw, .ref mnx, .ref mli, .int 0, .ref mil, .ref mmv, .ref mso, .ref mla, .int 0, .int 0, .ref mco])), (mst, .inl (cyI, 72, .inl fs)), (mpw, .inl (cyI, 11, .inl fp))]) [10, 11, 14] (by decide) rfl) 0 rfl rfl) rfl rfl hl.1 rfl (lv_room (Nat.le_of_ble_eq_true rfl)) dL_law_297 ⟨Nat.le_of_ble_eq_true rfl, Nat.le_of_ble_eq_true rfl⟩) hS (fun q _ h => f_106 q h) f_106 (fun rh_107 uh_107 t H1 locs ht hvm h_107 hB1 hz1 hk1 hS => ?_)
          obtain ⟨hP, hD⟩ := va_join (wr := [(xb1, .inr (3, [.ref xb2, .ref xb3, .int 8])), (xb2, .inl (cyI, 10, .inl (fun _ => (0 : Int32)))), (xb3, .inr (2, [.ref xb4, .int 0])), (xb4, .inl (cyI, 60, .inl (fun _ => (0 : Int32)))), (xc1, .inr (3, [.ref xc2, .ref xc3, .int 8])), (xc2, .inl (cyI, 10, .inl (fun _ => (0 : Int32)))), (xc3, .inr (2, [.ref xc4, .int 0])), (xc4, .inl (cyI, 60, .inl (fun _ => (0 : Int32)))), (xlk, .inr (0, [.int 0, .int 0, .int 0, .int 0, .int 0])), (xbh, .inl (cyI, 10, .inl (fun _ => (0 : Int32)))), (mim, .inl (cyI, 144, .inl (fun _ => (0 : Int32)))), (mkp, .inl (cyZ, 2, .inl (fun _ => (0 : Int32)))), (mnx, .inl (cyI, 10, .inl (fun _ => (0 : Int32)))), (mli, .inl (cyI, 59049, .inl (fun _ => (0 : Int32)))), (mil, .inl (cyZ, 59049, .inl (fun _ => (0 : Int32)))), (mmv, .inl (cyI, 59049, .inl (fun _ => (0 : Int32)))), (mso, .inl (cyI, 59049, .inl (fun _ => (0 : Int32)))), (mla, .inl (cyI, 59049, .inl (fun _ => (0 : Int32)))), (mco, .inl (cyI, 10, .inl (fun _ => (0 : Int32))))]) (w1 := []) hP hD [10, 11, 14] [0, 1, 2, 3, 4, 5, 6, 7, 8, 9, 12, 13, 15, 16, 17, 18, 19, 20, 21] rfl rfl (by decide) (by decide) hk1 f_106 bs_nil bs_nilD
          generalize H1 = H at hP hS ⊢
          have hP : va_P (dC, dI) vwCl [(xb1, .inr (3, [.ref xb2, .ref xb3, .int 8])), (xb2, .inl (cyI, 10, .inl (fun _ => (0 : Int32)))), (xb3, .inr (2, [.ref xb4, .int 0])), (xb4, .inl (cyI, 60, .inl (fun _ => (0 : Int32)))), (xc1, .inr (3, [.ref xc2, .ref xc3, .int 8])), (xc2, .inl (cyI, 10, .inl (fun _ => (0 : Int32)))), (xc3, .inr (2, [.ref xc4, .int 0])), (xc4, .inl (cyI, 60, .inl (fun _ => (0 : Int32)))), (xlk, .inr (0, [.int 0, .int 0, .int 0, .int 0, .int 0])), (xbh, .inl (cyI, 10, .inl (fun _ => (0 : Int32)))), (mim, .inl (cyI, 144, .inl (fun _ => (0 : Int32)))), (mkp, .inl (cyZ, 2, .inl (fun _ => (0 : Int32)))), (mnx, .inl (cyI, 10, .inl (fun _ => (0 : Int32)))), (mli, .inl (cyI, 59049, .inl (fun _ => (0 : Int32)))), (mil, .inl (cyZ, 59049, .inl (fun _ => (0 : Int32)))), (mmv, .inl (cyI, 59049, .inl (fun _ => (0 : Int32)))), (mso, .inl (cyI, 59049, .inl (fun _ => (0 : Int32)))), (mla, .inl (cyI, 59049, .inl (fun _ => (0 : Int32)))), (mco, .inl (cyI, 10, .inl (fun _ => (0 : Int32))))] _ := hP
          have hD : va_D A [(xb1, .inr (3, [.ref xb2, .ref xb3, .int 8])), (xb2, .inl (cyI, 10, .inl (fun _ => (0 : Int32)))), (xb3, .inr (2, [.ref xb4, .int 0])), (xb4, .inl (cyI, 60, .inl (fun _ => (0 : Int32)))), (xc1, .inr (3, [.ref xc2, .ref xc3, .int 8])), (xc2, .inl (cyI, 10, .inl (fun _ => (0 : Int32)))), (xc3, .inr (2, [.ref xc4, .int 0])), (xc4, .inl (cyI, 60, .inl (fun _ => (0 : Int32)))), (xlk, .inr (0, [.int 0, .int 0, .int 0, .int 0, .int 0])), (xbh, .inl (cyI, 10, .inl (fun _ => (0 : Int32)))), (mim, .inl (cyI, 144, .inl (fun _ => (0 : Int32)))), (mkp, .inl (cyZ, 2, .inl (fun _ => (0 : Int32)))), (mnx, .inl (cyI, 10, .inl (fun _ => (0 : Int32)))), (mli, .inl (cyI, 59049, .inl (fun _ => (0 : Int32)))), (mil, .inl (cyZ, 59049, .inl (fun _ => (0 : Int32)))), (mmv, .inl (cyI, 59049, .inl (fun _ => (0 : Int32)))), (mso, .inl (cyI, 59049, .inl (fun _ => (0 : Int32)))), (mla, .inl (cyI, 59049, .inl (fun _ => (0 : Int32)))), (mco, .inl (cyI, 10, .inl (fun _ => (0 : Int32))))] := hD
          obtain rfl : (sp_rule (xs 1) (xs 2) (xs 3) (xs 4) (xs 5)) = rh_107 := Eq.symm h_107
          refine lv_icmp_eq (tgt := 664) hx hb dL_law_300 (by decide) (fun c_108 => ?_) (fun c_108 => ?_)
          · skip
            refine lv_iinc (v := 6) (lv' := [(3, .int 6), (2, .ref q_4), (1, .ref q_1), (0, .ref b)]) hx hb dL_law_664 hl (k := 0) rfl (by decide) (by decide) rfl (fun ls hl => ?_)
            refine lv_goto (tgt := 18) hx hb dL_law_667 (by decide) ?_
            refine lv_iload_n hx hb dL_law_18 rfl (lv_at hl 0 rfl) ?_
            refine lv_aload_n hx hb dL_law_19 rfl (lv_at hl 3 rfl) ?_
            refine va_slen hx hb hX hbl hbA hS dL_law_20 ?_
            refine lv_topi (fun x_109 ex_109 => ?_)
            obtain rfl : 6 = x_109 := Eq.symm ex_109
            refine lv_bipush (v := 6) hx hb dL_law_21 (by decide) ?_
            refine lv_isub hx hb dL_law_23 ?_
            refine lv_topi (fun x_110 ex_110 => ?_)
            obtain rfl : 0 = x_110 := (ex_110.trans (by decide)).symm
            refine lv_icmp_gt (tgt := 670) hx hb dL_law_24 (by decide) (fun c_111 => ?_) (fun c_111 => ?_)
            · skip
              refine lv_iconst (v := 1) hx hb dL_law_670 (by decide) ?_
              refine va_forget (fun q hq => by have h9 := hS.2.2 q hq; rw [hAe] at h9; exact h9) ?_
              refine W.widen (k := 600000) (n := 7302250) (Nat.le_of_ble_eq_true rfl) (Nat.le_of_ble_eq_true rfl) ?_
              exact lw_ret hx hb hr hlocks dL_law_671
            · skip
              exact absurd c_111 (by decide)
          · skip
            exact absurd rfl c_108
        · skip
          have ew_24 : x_23 = 5 := w_24
          refine W.eq (g2 := F0 m 33 ls (.int 5 :: [])) (by rw [ew_24]) ?_
          refine lv_tableIn (off := 272) (tgt := 305) hx hb dL_law_33 (by decide) (by decide) (by decide) (by decide) ?_
          refine lv_aload_n hx hb dL_law_305 rfl (lv_at hl 2 rfl) ?_
          refine lv_aload_n hx hb dL_law_306 rfl (lv_at hl 3 rfl) ?_
          refine lv_iload_n hx hb dL_law_307 rfl (lv_at hl 0 rfl) ?_
          refine lv_iconst (v := 1) hx hb dL_law_308 (by decide) ?_
          refine lv_iadd hx hb dL_law_309 ?_
          refine lv_topi (fun x_112 ex_112 => ?_)
          obtain rfl : 1 = x_112 := (ex_112.trans (by decide)).symm
          refine va_sld hx hb hX hbl hbA hS (show vp_in 1 6 from vp_in_nI (n := 1) (N := 6) (by decide) (by decide)) dL_law_310 ?_
          refine lv_topi (fun x_113 ex_113 => ?_)
          obtain rfl : xs 1 = x_113 := Eq.symm ex_113
          refine lv_aload_n hx hb dL_law_311 rfl (lv_at hl 3 rfl) ?_
          refine lv_iload_n hx hb dL_law_312 rfl (lv_at hl 0 rfl) ?_
          refine lv_iconst (v := 2) hx hb dL_law_313 (by decide) ?_
          refine lv_iadd hx hb dL_law_314 ?_
          refine lv_topi (fun x_114 ex_114 => ?_)
          obtain rfl : 2 = x_114 := (ex_114.trans (by decide)).symm
          refine va_sld hx hb hX hbl hbA hS (show vp_in 2 6 from vp_in_nI (n := 2) (N := 6) (by decide) (by decide)) dL_law_315 ?_
          refine lv_topi (fun x_115 ex_115 => ?_)
          obtain rfl : xs 2 = x_115 := Eq.symm ex_115
          refine vp_callSi (va_Run.run (va_runV (As := [.int (xs 1), .int (xs 2)]) (rest := []) ⟨hx, hb, hml, hown, hts⟩ (kX7_whom l dC dI cyI cyZ q_1 xa1 xb1 xc1 xlk xbh xa2 xa3 xa4 (fun _ => (0 : Int32)) (fun _ => rfl) (xs 1) (xs 2)) (cwV 2 hts gv_X7_whom rfl rfl rfl (by decide +kernel) ⟨Nat.le_of_ble_eq_true rfl, Nat.le_of_ble_eq_true rfl⟩) (bs_RV hB (hP.sub (ws' := [(q_1, .inr (5, [.ref xa1, .ref xb1, .ref xc1, .ref xlk, .ref xbh, .int 0, .null])), (xa1, .inr (3, [.ref xa2, .ref xa3, .int 8])), (xa2, .inl (cyI, 10, .inl (fun _ => (0 : Int32)))), (xa3, .inr (2, [.ref xa4, .int 0]))]) [0, 1, 2, 3] rfl) 0 rfl rfl) rfl rfl hl.1 rfl (lv_room (Nat.le_of_ble_eq_true rfl)) dL_law_316 ⟨Nat.le_of_ble_eq_true rfl, Nat.le_of_ble_eq_true rfl⟩)) (fun r_116 hr_116 => ?_)
          obtain rfl : (-1) = r_116 := Eq.symm hr_116
          refine lv_aload_n hx hb dL_law_319 rfl (lv_at hl 1 rfl) ?_
          refine lv_aload_n hx hb dL_law_320 rfl (lv_at hl 3 rfl) ?_
          refine lv_iload_n hx hb dL_law_321 rfl (lv_at hl 0 rfl) ?_
          refine lv_iconst (v := 1) hx hb dL_law_322 (by decide) ?_
          refine lv_iadd hx hb dL_law_323 ?_
          refine lv_topi (fun x_117 ex_117 => ?_)
          obtain rfl : 1 = x_117 := (ex_117.trans (by decide)).symm
          refine va_sld hx hb hX hbl hbA hS (show vp_in 1 6 from vp_in_nI (n := 1) (N := 6) (by decide) (by decide)) dL_law_324 ?_
          refine lv_topi (fun x_118 ex_118 => ?_)
          obtain rfl : xs 1 = x_118 := Eq.symm ex_118
          refine lv_aload_n hx hb dL_law_325 rfl (lv_at hl 3 rfl) ?_
          refine lv_iload_n hx hb dL_law_326 rfl (lv_at hl 0 rfl) ?_
          refine lv_iconst (v := 2) hx hb dL_law_327 (by decide) ?_
          refine lv_iadd hx hb dL_law_328 ?_
          refine lv_topi (fun x_119 ex_119 => ?_)
          obtain rfl : 2 = x_119 := (ex_119.trans (by decide)).symm
          refine va_sld hx hb hX hbl hbA hS (show vp_in 2 6 from vp_in_nI (n := 2) (N := 6) (by decide) (by decide)) dL_law_329 ?_
          refine lv_topi (fun x_120 ex_120 => ?_)
          obtain rfl : xs 2 = x_120 := Eq.symm ex_120
          refine vp_callSi (va_Run.run (va_runV (As := [.int (xs 1), .int (xs 2)]) (rest := [.int (-1)]) ⟨hx, hb, hml, hown, hts⟩ (kX8_whom l dC dI cyI cyZ q_4 mst mim mkp mpw mnx mli mil mmv mso mla mco 0 0 0 fs h8 hs fp hp (xs 1) (xs 2)) (cwV 2 hts gv_X8_whom rfl rfl rfl (by decide +kernel) ⟨Nat.le_of_ble_eq_true rfl, Nat.le_of_ble_eq_true rfl⟩) (bs_RV hB (hP.sub (ws' := [(q_4, .inr (6, [.ref mst, .ref mim, .ref mkp, .ref mpw, .ref mnx, .ref mli, .int 0, .ref mil, .ref mmv, .ref mso, .ref mla, .int 0, .int 0, .ref mco])), (mst, .inl (cyI, 72, .inl fs)), (mpw, .inl (cyI, 11, .inl fp))]) [15, 16, 19] rfl) 0 rfl rfl) rfl rfl hl.1 rfl (lv_room (Nat.le_of_ble_eq_true rfl)) dL_law_330 ⟨Nat.le_of_ble_eq_true rfl, Nat.le_of_ble_eq_true rfl⟩)) (fun r_121 hr_121 => ?_)
          obtain rfl : (-1) = r_121 := Eq.symm hr_121
          refine lv_icmp_eq (tgt := 664) hx hb dL_law_333 (by decide) (fun c_122 => ?_) (fun c_122 => ?_)
          · skip
            refine lv_iinc (v := 6) (lv' := [(3, .int 6), (2, .ref q_4), (1, .ref q_1), (0, .ref b)]) hx hb dL_law_664 hl (k := 0) rfl (by decide) (by decide) rfl (fun ls hl => ?_)
            refine lv_goto (tgt := 18) hx hb dL_law_667 (by decide) ?_
            refine lv_iload_n hx hb dL_law_18 rfl (lv_at hl 0 rfl) ?_
            refine lv_aload_n hx hb dL_law_19 rfl (lv_at hl 3 rfl) ?_
            refine va_slen hx hb hX hbl hbA hS dL_law_20 ?_
            refine lv_topi (fun x_123 ex_123 => ?_)
            obtain rfl : 6 = x_123 := Eq.symm ex_123
            refine lv_bipush (v := 6) hx hb dL_law_21 (by decide) ?_
            refine lv_isub hx hb dL_law_23 ?_
            refine lv_topi (fun x_124 ex_124 => ?_)
            obtain rfl : 0 = x_124 := (ex_124.trans (by decide)).symm
            refine lv_icmp_gt (tgt := 670) hx hb dL_law_24 (by decide) (fun c_125 => ?_) (fun c_125 => ?_)
            · skip
              refine lv_iconst (v := 1) hx hb dL_law_670 (by decide) ?_
              refine va_forget (fun q hq => by have h9 := hS.2.2 q hq; rw [hAe] at h9; exact h9) ?_
              refine W.widen (k := 600000) (n := 7302250) (Nat.le_of_ble_eq_true rfl) (Nat.le_of_ble_eq_true rfl) ?_
              exact lw_ret hx hb hr hlocks dL_law_671
            · skip
              exact absurd c_125 (by decide)
          · skip
            exact absurd c_122 (by decide)
        · skip
          have ew_24 : x_23 = 6 := w_24
          refine W.eq (g2 := F0 m 33 ls (.int 6 :: [])) (by rw [ew_24]) ?_
          refine lv_tableIn (off := 305) (tgt := 338) hx hb dL_law_33 (by decide) (by decide) (by decide) (by decide) ?_
          refine lv_aload_n hx hb dL_law_338 rfl (lv_at hl 2 rfl) ?_
          refine lv_aload_n hx hb dL_law_339 rfl (lv_at hl 3 rfl) ?_
          refine lv_iload_n hx hb dL_law_340 rfl (lv_at hl 0 rfl) ?_
          refine lv_iconst (v := 1) hx hb dL_law_341 (by decide) ?_
          refine lv_iadd hx hb dL_law_342 ?_
          refine lv_topi (fun x_126 ex_126 => ?_)
          obtain rfl : 1 = x_126 := (ex_126.trans (by decide)).symm
          refine va_sld hx hb hX hbl hbA hS (show vp_in 1 6 from vp_in_nI (n := 1) (N := 6) (by decide) (by decide)) dL_law_343 ?_
          refine lv_topi (fun x_127 ex_127 => ?_)
          obtain rfl : xs 1 = x_127 := Eq.symm ex_127
          refine vp_callSi (va_Run.run (va_runV (As := [.int (xs 1)]) (rest := []) ⟨hx, hb, hml, hown, hts⟩ (kX7_drop l dC dI cyI cyZ q_1 xa1 xb1 xc1 xlk xbh xa2 xa3 xa4 (fun _ => (0 : Int32)) (fun _ => rfl) (xs 1)) (cwV 1 hts gv_X7_drop rfl rfl rfl (by decide +kernel) ⟨Nat.le_of_ble_eq_true rfl, Nat.le_of_ble_eq_true rfl⟩) (bs_RV hB (hP.sub (ws' := [(q_1, .inr (5, [.ref xa1, .ref xb1, .ref xc1, .ref xlk, .ref xbh, .int 0, .null])), (xa1, .inr (3, [.ref xa2, .ref xa3, .int 8])), (xa2, .inl (cyI, 10, .inl (fun _ => (0 : Int32)))), (xa3, .inr (2, [.ref xa4, .int 0]))]) [0, 1, 2, 3] rfl) 0 rfl rfl) rfl rfl hl.1 rfl (lv_room (Nat.le_of_ble_eq_true rfl)) dL_law_344 ⟨Nat.le_of_ble_eq_true rfl, Nat.le_of_ble_eq_true rfl⟩)) (fun r_128 hr_128 => ?_)
          obtain rfl : (-1) = r_128 := Eq.symm hr_128
          refine lv_aload_n hx hb dL_law_347 rfl (lv_at hl 1 rfl) ?_
          refine lv_aload_n hx hb dL_law_348 rfl (lv_at hl 3 rfl) ?_
          refine lv_iload_n hx hb dL_law_349 rfl (lv_at hl 0 rfl) ?_
          refine lv_iconst (v := 1) hx hb dL_law_350 (by decide) ?_
          refine lv_iadd hx hb dL_law_351 ?_
          refine lv_topi (fun x_129 ex_129 => ?_)
          obtain rfl : 1 = x_129 := (ex_129.trans (by decide)).symm
          refine va_sld hx hb hX hbl hbA hS (show vp_in 1 6 from vp_in_nI (n := 1) (N := 6) (by decide) (by decide)) dL_law_352 ?_
          refine lv_topi (fun x_130 ex_130 => ?_)
          obtain rfl : xs 1 = x_130 := Eq.symm ex_130
          refine vp_callSi (va_Run.run (va_runV (As := [.int (xs 1)]) (rest := [.int (-1)]) ⟨hx, hb, hml, hown, hts⟩ (kX8_drop l dC dI cyI cyZ q_4 mst mim mkp mpw mnx mli mil mmv mso mla mco 0 0 0 fs h8 hs fp hp (xs 1)) (cwV 1 hts gv_X8_drop rfl rfl rfl (by decide +kernel) ⟨Nat.le_of_ble_eq_true rfl, Nat.le_of_ble_eq_true rfl⟩) (bs_RV hB (hP.sub (ws' := [(q_4, .inr (6, [.ref mst, .ref mim, .ref mkp, .ref mpw, .ref mnx, .ref mli, .int 0, .ref mil, .ref mmv, .ref mso, .ref mla, .int 0, .int 0, .ref mco])), (mst, .inl (cyI, 72, .inl fs)), (mpw, .inl (cyI, 11, .inl fp))]) [15, 16, 19] rfl) 0 rfl rfl) rfl rfl hl.1 rfl (lv_room (Nat.le_of_ble_eq_true rfl)) dL_law_353 ⟨Nat.le_of_ble_eq_true rfl, Nat.le_of_ble_eq_true rfl⟩)) (fun r_131 hr_131 => ?_)
          obtain rfl : (-1) = r_131 := Eq.symm hr_131
          refine lv_icmp_eq (tgt := 664) hx hb dL_law_356 (by decide) (fun c_132 => ?_) (fun c_132 => ?_)
          · skip
            refine lv_iinc (v := 6) (lv' := [(3, .int 6), (2, .ref q_4), (1, .ref q_1), (0, .ref b)]) hx hb dL_law_664 hl (k := 0) rfl (by decide) (by decide) rfl (fun ls hl => ?_)
            refine lv_goto (tgt := 18) hx hb dL_law_667 (by decide) ?_
            refine lv_iload_n hx hb dL_law_18 rfl (lv_at hl 0 rfl) ?_
            refine lv_aload_n hx hb dL_law_19 rfl (lv_at hl 3 rfl) ?_
            refine va_slen hx hb hX hbl hbA hS dL_law_20 ?_
            refine lv_topi (fun x_133 ex_133 => ?_)
            obtain rfl : 6 = x_133 := Eq.symm ex_133
            refine lv_bipush (v := 6) hx hb dL_law_21 (by decide) ?_
            refine lv_isub hx hb dL_law_23 ?_
            refine lv_topi (fun x_134 ex_134 => ?_)
            obtain rfl : 0 = x_134 := (ex_134.trans (by decide)).symm
            refine lv_icmp_gt (tgt := 670) hx hb dL_law_24 (by decide) (fun c_135 => ?_) (fun c_135 => ?_)
            · skip
              refine lv_iconst (v := 1) hx hb dL_law_670 (by decide) ?_
              refine va_forget (fun q hq => by have h9 := hS.2.2 q hq; rw [hAe] at h9; exact h9) ?_
              refine W.widen (k := 600000) (n := 7302250) (Nat.le_of_ble_eq_true rfl) (Nat.le_of_ble_eq_true rfl) ?_
              exact lw_ret hx hb hr hlocks dL_law_671
            · skip
              exact absurd c_135 (by decide)
          · skip
            exact absurd c_132 (by decide)
        · skip
          have ew_24 : x_23 = 7 := w_24
          refine W.eq (g2 := F0 m 33 ls (.int 7 :: [])) (by rw [ew_24]) ?_
          refine lv_tableIn (off := 328) (tgt := 361) hx hb dL_law_33 (by decide) (by decide) (by decide) (by decide) ?_
          refine lv_aload_n hx hb dL_law_361 rfl (lv_at hl 2 rfl) ?_
          refine lv_aload_n hx hb dL_law_362 rfl (lv_at hl 3 rfl) ?_
          refine lv_iload_n hx hb dL_law_363 rfl (lv_at hl 0 rfl) ?_
          refine lv_iconst (v := 1) hx hb dL_law_364 (by decide) ?_
          refine lv_iadd hx hb dL_law_365 ?_
          refine lv_topi (fun x_136 ex_136 => ?_)
          obtain rfl : 1 = x_136 := (ex_136.trans (by decide)).symm
          refine va_sld hx hb hX hbl hbA hS (show vp_in 1 6 from vp_in_nI (n := 1) (N := 6) (by decide) (by decide)) dL_law_366 ?_
          refine lv_topi (fun x_137 ex_137 => ?_)
          obtain rfl : xs 1 = x_137 := Eq.symm ex_137
          refine lv_aload_n hx hb dL_law_367 rfl (lv_at hl 3 rfl) ?_
          refine lv_iload_n hx hb dL_law_368 rfl (lv_at hl 0 rfl) ?_
          refine lv_iconst (v := 2) hx hb dL_law_369 (by decide) ?_
          refine lv_iadd hx hb dL_law_370 ?_
          refine lv_topi (fun x_138 ex_138 => ?_)
          obtain rfl : 2 = x_138 := (ex_138.trans (by decide)).symm
          refine va_sld hx hb hX hbl hbA hS (show vp_in 2 6 from vp_in_nI (n := 2) (N := 6) (by decide) (by decide)) dL_law_371 ?_
          refine lv_topi (fun x_139 ex_139 => ?_)
          obtain rfl : xs 2 = x_139 := Eq.symm ex_139
          refine vp_callSi (va_Run.run (va_runV (As := [.int (xs 1), .int (xs 2)]) (rest := []) ⟨hx, hb, hml, hown, hts⟩ (kX7_of l dC dI cyI cyZ q_1 xa1 xb1 xc1 xlk xbh xa2 xa3 xa4 (fun _ => (0 : Int32)) (fun _ => rfl) (xs 1) (xs 2)) (cwV 2 hts gv_X7_of rfl rfl rfl (by decide +kernel) ⟨Nat.le_of_ble_eq_true rfl, Nat.le_of_ble_eq_true rfl⟩) (bs_RV hB (hP.sub (ws' := [(q_1, .inr (5, [.ref xa1, .ref xb1, .ref xc1, .ref xlk, .ref xbh, .int 0, .null])), (xa1, .inr (3, [.ref xa2, .ref xa3, .int 8])), (xa2, .inl (cyI, 10, .inl (fun _ => (0 : Int32)))), (xa3, .inr (2, [.ref xa4, .int 0]))]) [0, 1, 2, 3] rfl) 0 rfl rfl) rfl rfl hl.1 rfl (lv_room (Nat.le_of_ble_eq_true rfl)) dL_law_372 ⟨Nat.le_of_ble_eq_true rfl, Nat.le_of_ble_eq_true rfl⟩)) (fun r_140 hr_140 => ?_)
          obtain rfl : (-1) = r_140 := Eq.symm hr_140
          refine lv_aload_n hx hb dL_law_375 rfl (lv_at hl 1 rfl) ?_
          refine lv_aload_n hx hb dL_law_376 rfl (lv_at hl 3 rfl) ?_
          refine lv_iload_n hx hb dL_law_377 rfl (lv_at hl 0 rfl) ?_
          refine lv_iconst (v := 1) hx hb dL_law_378 (by decide) ?_
          refine lv_iadd hx hb dL_law_379 ?_
          refine lv_topi (fun x_141 ex_141 => ?_)
          obtain rfl : 1 = x_141 := (ex_141.trans (by decide)).symm
          refine va_sld hx hb hX hbl hbA hS (show vp_in 1 6 from vp_in_nI (n := 1) (N := 6) (by decide) (by decide)) dL_law_380 ?_
          refine lv_topi (fun x_142 ex_142 => ?_)
          obtain rfl : xs 1 = x_142 := Eq.symm ex_142
          refine lv_aload_n hx hb dL_law_381 rfl (lv_at hl 3 rfl) ?_
          refine lv_iload_n hx hb dL_law_382 rfl (lv_at hl 0 rfl) ?_
          refine lv_iconst (v := 2) hx hb dL_law_383 (by decide) ?_
          refine lv_iadd hx hb dL_law_384 ?_
          refine lv_topi (fun x_143 ex_143 => ?_)
          obtain rfl : 2 = x_143 := (ex_143.trans (by decide)).symm
          refine va_sld hx hb hX hbl hbA hS (show vp_in 2 6 from vp_in_nI (n := 2) (N := 6) (by decide) (by decide)) dL_law_385 ?_
          refine lv_topi (fun x_144 ex_144 => ?_)
          obtain rfl : xs 2 = x_144 := Eq.symm ex_144
          refine vp_callSi (va_Run.run (va_runV (As := [.int (xs 1), .int (xs 2)]) (rest := [.int (-1)]) ⟨hx, hb, hml, hown, hts⟩ (kX8_of l dC dI cyI cyZ q_4 mst mim mkp mpw mnx mli mil mmv mso mla mco 0 0 0 fs h8 hs fp hp (xs 1) (xs 2)) (cwV 2 hts gv_X8_of rfl rfl rfl (by decide +kernel) ⟨Nat.le_of_ble_eq_true rfl, Nat.le_of_ble_eq_true rfl⟩) (bs_RV hB (hP.sub (ws' := [(q_4, .inr (6, [.ref mst, .ref mim, .ref mkp, .ref mpw, .ref mnx, .ref mli, .int 0, .ref mil, .ref mmv, .ref mso, .ref mla, .int 0, .int 0, .ref mco])), (mst, .inl (cyI, 72, .inl fs)), (mpw, .inl (cyI, 11, .inl fp))]) [15, 16, 19] rfl) 0 rfl rfl) rfl rfl hl.1 rfl (lv_room (Nat.le_of_ble_eq_true rfl)) dL_law_386 ⟨Nat.le_of_ble_eq_true rfl, Nat.le_of_ble_eq_true rfl⟩)) (fun r_145 hr_145 => ?_)
          obtain rfl : (-1) = r_145 := Eq.symm hr_145
          refine lv_icmp_eq (tgt := 664) hx hb dL_law_389 (by decide) (fun c_146 => ?_) (fun c_146 => ?_)
          · skip
            refine lv_iinc (v := 6) (lv' := [(3, .int 6), (2, .ref q_4), (1, .ref q_1), (0, .ref b)]) hx hb dL_law_664 hl (k := 0) rfl (by decide) (by decide) rfl (fun ls hl => ?_)
            refine lv_goto (tgt := 18) hx hb dL_law_667 (by decide) ?_
            refine lv_iload_n hx hb dL_law_18 rfl (lv_at hl 0 rfl) ?_
            refine lv_aload_n hx hb dL_law_19 rfl (lv_at hl 3 rfl) ?_
            refine va_slen hx hb hX hbl hbA hS dL_law_20 ?_
            refine lv_topi (fun x_147 ex_147 => ?_)
            obtain rfl : 6 = x_147 := Eq.symm ex_147
            refine lv_bipush (v := 6) hx hb dL_law_21 (by decide) ?_
            refine lv_isub hx hb dL_law_23 ?_
            refine lv_topi (fun x_148 ex_148 => ?_)
            obtain rfl : 0 = x_148 := (ex_148.trans (by decide)).symm
            refine lv_icmp_gt (tgt := 670) hx hb dL_law_24 (by decide) (fun c_149 => ?_) (fun c_149 => ?_)
            · skip
              refine lv_iconst (v := 1) hx hb dL_law_670 (by decide) ?_
              refine va_forget (fun q hq => by have h9 := hS.2.2 q hq; rw [hAe] at h9; exact h9) ?_
              refine W.widen (k := 600000) (n := 7302250) (Nat.le_of_ble_eq_true rfl) (Nat.le_of_ble_eq_true rfl) ?_
              exact lw_ret hx hb hr hlocks dL_law_671
            · skip
              exact absurd c_149 (by decide)
          · skip
            exact absurd c_146 (by decide)
        · skip
          have ew_24 : x_23 = 8 := w_24
          refine W.eq (g2 := F0 m 33 ls (.int 8 :: [])) (by rw [ew_24]) ?_
          refine lv_tableIn (off := 361) (tgt := 394) hx hb dL_law_33 (by decide) (by decide) (by decide) (by decide) ?_
          refine lv_aload_n hx hb dL_law_394 rfl (lv_at hl 2 rfl) ?_
          refine lv_aload_n hx hb dL_law_395 rfl (lv_at hl 3 rfl) ?_
          refine lv_iload_n hx hb dL_law_396 rfl (lv_at hl 0 rfl) ?_
          refine lv_iconst (v := 1) hx hb dL_law_397 (by decide) ?_
          refine lv_iadd hx hb dL_law_398 ?_
          refine lv_topi (fun x_150 ex_150 => ?_)
          obtain rfl : 1 = x_150 := (ex_150.trans (by decide)).symm
          refine va_sld hx hb hX hbl hbA hS (show vp_in 1 6 from vp_in_nI (n := 1) (N := 6) (by decide) (by decide)) dL_law_399 ?_
          refine lv_topi (fun x_151 ex_151 => ?_)
          obtain rfl : xs 1 = x_151 := Eq.symm ex_151
          refine lv_aload_n hx hb dL_law_400 rfl (lv_at hl 3 rfl) ?_
          refine lv_iload_n hx hb dL_law_401 rfl (lv_at hl 0 rfl) ?_
          refine lv_iconst (v := 2) hx hb dL_law_402 (by decide) ?_
          refine lv_iadd hx hb dL_law_403 ?_
          refine lv_topi (fun x_152 ex_152 => ?_)
          obtain rfl : 2 = x_152 := (ex_152.trans (by decide)).symm
          refine va_sld hx hb hX hbl hbA hS (show vp_in 2 6 from vp_in_nI (n := 2) (N := 6) (by decide) (by decide)) dL_law_404 ?_
          refine lv_topi (fun x_153 ex_153 => ?_)
          obtain rfl : xs 2 = x_153 := Eq.symm ex_153
          refine vp_callSi (va_Run.run (va_runV (As := [.int (xs 1), .int (xs 2)]) (rest := []) ⟨hx, hb, hml, hown, hts⟩ (kX7_does l dC dI cyI cyZ q_1 xa1 xb1 xc1 xlk xbh xa2 xa3 xa4 (fun _ => (0 : Int32)) (fun _ => rfl) (xs 1) (xs 2)) (cwV 2 hts gv_X7_does rfl rfl rfl (by decide +kernel) ⟨Nat.le_of_ble_eq_true rfl, Nat.le_of_ble_eq_true rfl⟩) (bs_RV hB (hP.sub (ws' := [(q_1, .inr (5, [.ref xa1, .ref xb1, .ref xc1, .ref xlk, .ref xbh, .int 0, .null])), (xa1, .inr (3, [.ref xa2, .ref xa3, .int 8])), (xa2, .inl (cyI, 10, .inl (fun _ => (0 : Int32)))), (xa3, .inr (2, [.ref xa4, .int 0]))]) [0, 1, 2, 3] rfl) 0 rfl rfl) rfl rfl hl.1 rfl (lv_room (Nat.le_of_ble_eq_true rfl)) dL_law_405 ⟨Nat.le_of_ble_eq_true rfl, Nat.le_of_ble_eq_true rfl⟩)) (fun r_154 hr_154 => ?_)
          obtain rfl : (-1) = r_154 := Eq.symm hr_154
          refine lv_aload_n hx hb dL_law_408 rfl (lv_at hl 1 rfl) ?_
          refine lv_aload_n hx hb dL_law_409 rfl (lv_at hl 3 rfl) ?_
          refine lv_iload_n hx hb dL_law_410 rfl (lv_at hl 0 rfl) ?_
          refine lv_iconst (v := 1) hx hb dL_law_411 (by decide) ?_
          refine lv_iadd hx hb dL_law_412 ?_
          refine lv_topi (fun x_155 ex_155 => ?_)
          obtain rfl : 1 = x_155 := (ex_155.trans (by decide)).symm
          refine va_sld hx hb hX hbl hbA hS (show vp_in 1 6 from vp_in_nI (n := 1) (N := 6) (by decide) (by decide)) dL_law_413 ?_
          refine lv_topi (fun x_156 ex_156 => ?_)
          obtain rfl : xs 1 = x_156 := Eq.symm ex_156
          refine lv_aload_n hx hb dL_law_414 rfl (lv_at hl 3 rfl) ?_
          refine lv_iload_n hx hb dL_law_415 rfl (lv_at hl 0 rfl) ?_
          refine lv_iconst (v := 2) hx hb dL_law_416 (by decide) ?_
          refine lv_iadd hx hb dL_law_417 ?_
          refine lv_topi (fun x_157 ex_157 => ?_)
          obtain rfl : 2 = x_157 := (ex_157.trans (by decide)).symm
          refine va_sld hx hb hX hbl hbA hS (show vp_in 2 6 from vp_in_nI (n := 2) (N := 6) (by decide) (by decide)) dL_law_418 ?_
          refine lv_topi (fun x_158 ex_158 => ?_)
          obtain rfl : xs 2 = x_158 := Eq.symm ex_158
          refine vp_callSi (va_Run.run (va_runV (As := [.int (xs 1), .int (xs 2)]) (rest := [.int (-1)]) ⟨hx, hb, hml, hown, hts⟩ (kX8_does l dC dI cyI cyZ q_4 mst mim mkp mpw mnx mli mil mmv mso mla mco 0 0 0 fs h8 hs fp hp (xs 1) (xs 2)) (cwV 2 hts gv_X8_does rfl rfl rfl (by decide +kernel) ⟨Nat.le_of_ble_eq_true rfl, Nat.le_of_ble_eq_true rfl⟩) (bs_RV hB (hP.sub (ws' := [(q_4, .inr (6, [.ref mst, .ref mim, .ref mkp, .ref mpw, .ref mnx, .ref mli, .int 0, .ref mil, .ref mmv, .ref mso, .ref mla, .int 0, .int 0, .ref mco])), (mst, .inl (cyI, 72, .inl fs)), (mpw, .inl (cyI, 11, .inl fp))]) [15, 16, 19] rfl) 0 rfl rfl) rfl rfl hl.1 rfl (lv_room (Nat.le_of_ble_eq_true rfl)) dL_law_419 ⟨Nat.le_of_ble_eq_true rfl, Nat.le_of_ble_eq_true rfl⟩)) (fun r_159 hr_159 => ?_)
          obtain rfl : (-1) = r_159 := Eq.symm hr_159
          refine lv_icmp_eq (tgt := 664) hx hb dL_law_422 (by decide) (fun c_160 => ?_) (fun c_160 => ?_)
          · skip
            refine lv_iinc (v := 6) (lv' := [(3, .int 6), (2, .ref q_4), (1, .ref q_1), (0, .ref b)]) hx hb dL_law_664 hl (k := 0) rfl (by decide) (by decide) rfl (fun ls hl => ?_)
            refine lv_goto (tgt := 18) hx hb dL_law_667 (by decide) ?_
            refine lv_iload_n hx hb dL_law_18 rfl (lv_at hl 0 rfl) ?_
            refine lv_aload_n hx hb dL_law_19 rfl (lv_at hl 3 rfl) ?_
            refine va_slen hx hb hX hbl hbA hS dL_law_20 ?_
            refine lv_topi (fun x_161 ex_161 => ?_)
            obtain rfl : 6 = x_161 := Eq.symm ex_161
            refine lv_bipush (v := 6) hx hb dL_law_21 (by decide) ?_
            refine lv_isub hx hb dL_law_23 ?_
            refine lv_topi (fun x_162 ex_162 => ?_)
            obtain rfl : 0 = x_162 := (ex_162.trans (by decide)).symm
            refine lv_icmp_gt (tgt := 670) hx hb dL_law_24 (by decide) (fun c_163 => ?_) (fun c_163 => ?_)
            · skip
              refine lv_iconst (v := 1) hx hb dL_law_670 (by decide) ?_
              refine va_forget (fun q hq => by have h9 := hS.2.2 q hq; rw [hAe] at h9; exact h9) ?_
              refine W.widen (k := 600000) (n := 7302250) (Nat.le_of_ble_eq_true rfl) (Nat.le_of_ble_eq_true rfl) ?_
              exact lw_ret hx hb hr hlocks dL_law_671
            · skip
              exact absurd c_163 (by decide)
          · skip
            exact absurd c_160 (by decide)
        · skip
          have ew_24 : x_23 = 9 := w_24
          refine W.eq (g2 := F0 m 33 ls (.int 9 :: [])) (by rw [ew_24]) ?_
          refine lv_tableIn (off := 394) (tgt := 427) hx hb dL_law_33 (by decide) (by decide) (by decide) (by decide) ?_
          refine lv_aload_n hx hb dL_law_427 rfl (lv_at hl 2 rfl) ?_
          refine lv_aload_n hx hb dL_law_428 rfl (lv_at hl 3 rfl) ?_
          refine lv_iload_n hx hb dL_law_429 rfl (lv_at hl 0 rfl) ?_
          refine lv_iconst (v := 1) hx hb dL_law_430 (by decide) ?_
          refine lv_iadd hx hb dL_law_431 ?_
          refine lv_topi (fun x_164 ex_164 => ?_)
          obtain rfl : 1 = x_164 := (ex_164.trans (by decide)).symm
          refine va_sld hx hb hX hbl hbA hS (show vp_in 1 6 from vp_in_nI (n := 1) (N := 6) (by decide) (by decide)) dL_law_432 ?_
          refine lv_topi (fun x_165 ex_165 => ?_)
          obtain rfl : xs 1 = x_165 := Eq.symm ex_165
          have f_166 := va_free (wc := [(q_1, .inr (5, [.ref xa1, .ref xb1, .ref xc1, .ref xlk, .ref xbh, .int 0, .null])), (xa1, .inr (3, [.ref xa2, .ref xa3, .int 8])), (xa2, .inl (cyI, 10, .inl (fun _ => (0 : Int32)))), (xa3, .inr (2, [.ref xa4, .int 0])), (xbh, .inl (cyI, 10, .inl (fun _ => (0 : Int32))))]) hD hS hA [0, 1, 2, 3, 14] rfl
          refine va_calli (va_runV (As := [.int (xs 1)]) (rest := []) ⟨hx, hb, hml, hown, hts⟩ (kX7_step l dC dI cyI cyZ q_1 xa1 xb1 xc1 xlk xbh xa2 xa3 xa4 (fun _ => (0 : Int32)) (fun _ => rfl) (fun _ => (0 : Int32)) (fun _ => rfl) (xs 1) _) (cwV 1 hts gv_X7_step rfl rfl rfl (by decide +kernel) ⟨Nat.le_of_ble_eq_true rfl, Nat.le_of_ble_eq_true rfl⟩) (bs_WV hB (hP.sub (ws' := [(q_1, .inr (5, [.ref xa1, .ref xb1, .ref xc1, .ref xlk, .ref xbh, .int 0, .null])), (xa1, .inr (3, [.ref xa2, .ref xa3, .int 8])), (xa2, .inl (cyI, 10, .inl (fun _ => (0 : Int32)))), (xa3, .inr (2, [.ref xa4, .int 0])), (xbh, .inl (cyI, 10, .inl (fun _ => (0 : Int32))))]) [0, 1, 2, 3, 14] rfl) (hD.sub (ws' := [(q_1, .inr (5, [.ref xa1, .ref xb1, .ref xc1, .ref xlk, .ref xbh, .int 0, .null])), (xa1, .inr (3, [.ref xa2, .ref xa3, .int 8])), (xa2, .inl (cyI, 10, .inl (fun _ => (0 : Int32)))), (xa3, .inr (2, [.ref xa4, .int 0])), (xbh, .inl (cyI, 10, .inl (fun _ => (0 : Int32))))]) [0, 1, 2, 3, 14] (by decide) rfl) 0 rfl rfl) rfl rfl hl.1 rfl (lv_room (Nat.le_of_ble_eq_true rfl)) dL_law_433 ⟨Nat.le_of_ble_eq_true rfl, Nat.le_of_ble_eq_true rfl⟩) hS (fun q _ h => f_166 q h) f_166 (fun rh_167 uh_167 t H1 locs ht hvm h_167 hB1 hz1 hk1 hS => ?_)
          obtain ⟨hP, hD⟩ := va_join (wr := [(xa4, .inl (cyI, 60, .inl (fun _ => (0 : Int32)))), (xb1, .inr (3, [.ref xb2, .ref xb3, .int 8])), (xb2, .inl (cyI, 10, .inl (fun _ => (0 : Int32)))), (xb3, .inr (2, [.ref xb4, .int 0])), (xb4, .inl (cyI, 60, .inl (fun _ => (0 : Int32)))), (xc1, .inr (3, [.ref xc2, .ref xc3, .int 8])), (xc2, .inl (cyI, 10, .inl (fun _ => (0 : Int32)))), (xc3, .inr (2, [.ref xc4, .int 0])), (xc4, .inl (cyI, 60, .inl (fun _ => (0 : Int32)))), (xlk, .inr (0, [.int 0, .int 0, .int 0, .int 0, .int 0])), (q_4, .inr (6, [.ref mst, .ref mim, .ref mkp, .ref mpw, .ref mnx, .ref mli, .int 0, .ref mil, .ref mmv, .ref mso, .ref mla, .int 0, .int 0, .ref mco])), (mst, .inl (cyI, 72, .inl fs)), (mim, .inl (cyI, 144, .inl (fun _ => (0 : Int32)))), (mkp, .inl (cyZ, 2, .inl (fun _ => (0 : Int32)))), (mpw, .inl (cyI, 11, .inl fp)), (mnx, .inl (cyI, 10, .inl (fun _ => (0 : Int32)))), (mli, .inl (cyI, 59049, .inl (fun _ => (0 : Int32)))), (mil, .inl (cyZ, 59049, .inl (fun _ => (0 : Int32)))), (mmv, .inl (cyI, 59049, .inl (fun _ => (0 : Int32)))), (mso, .inl (cyI, 59049, .inl (fun _ => (0 : Int32)))), (mla, .inl (cyI, 59049, .inl (fun _ => (0 : Int32)))), (mco, .inl (cyI, 10, .inl (fun _ => (0 : Int32))))]) (w1 := []) hP hD [0, 1, 2, 3, 14] [4, 5, 6, 7, 8, 9, 10, 11, 12, 13, 15, 16, 17, 18, 19, 20, 21, 22, 23, 24, 25, 26] rfl rfl (by decide) (by decide) hk1 f_166 bs_nil bs_nilD
          generalize H1 = H at hP hS ⊢
          have hP : va_P (dC, dI) vwCl [(xa4, .inl (cyI, 60, .inl (fun _ => (0 : Int32)))), (xb1, .inr (3, [.ref xb2, .ref xb3, .int 8])), (xb2, .inl (cyI, 10, .inl (fun _ => (0 : Int32)))), (xb3, .inr (2, [.ref xb4, .int 0])), (xb4, .inl (cyI, 60, .inl (fun _ => (0 : Int32)))), (xc1, .inr (3, [.ref xc2, .ref xc3, .int 8])), (xc2, .inl (cyI, 10, .inl (fun _ => (0 : Int32)))), (xc3, .inr (2, [.ref xc4, .int 0])), (xc4, .inl (cyI, 60, .inl (fun _ => (0 : Int32)))), (xlk, .inr (0, [.int 0, .int 0, .int 0, .int 0, .int 0])), (q_4, .inr (6, [.ref mst, .ref mim, .ref mkp, .ref mpw, .ref mnx, .ref mli, .int 0, .ref mil, .ref mmv, .ref mso, .ref mla, .int 0, .int 0, .ref mco])), (mst, .inl (cyI, 72, .inl fs)), (mim, .inl (cyI, 144, .inl (fun _ => (0 : Int32)))), (mkp, .inl (cyZ, 2, .inl (fun _ => (0 : Int32)))), (mpw, .inl (cyI, 11, .inl fp)), (mnx, .inl (cyI, 10, .inl (fun _ => (0 : Int32)))), (mli, .inl (cyI, 59049, .inl (fun _ => (0 : Int32)))), (mil, .inl (cyZ, 59049, .inl (fun _ => (0 : Int32)))), (mmv, .inl (cyI, 59049, .inl (fun _ => (0 : Int32)))), (mso, .inl (cyI, 59049, .inl (fun _ => (0 : Int32)))), (mla, .inl (cyI, 59049, .inl (fun _ => (0 : Int32)))), (mco, .inl (cyI, 10, .inl (fun _ => (0 : Int32))))] _ := hP
          have hD : va_D A [(xa4, .inl (cyI, 60, .inl (fun _ => (0 : Int32)))), (xb1, .inr (3, [.ref xb2, .ref xb3, .int 8])), (xb2, .inl (cyI, 10, .inl (fun _ => (0 : Int32)))), (xb3, .inr (2, [.ref xb4, .int 0])), (xb4, .inl (cyI, 60, .inl (fun _ => (0 : Int32)))), (xc1, .inr (3, [.ref xc2, .ref xc3, .int 8])), (xc2, .inl (cyI, 10, .inl (fun _ => (0 : Int32)))), (xc3, .inr (2, [.ref xc4, .int 0])), (xc4, .inl (cyI, 60, .inl (fun _ => (0 : Int32)))), (xlk, .inr (0, [.int 0, .int 0, .int 0, .int 0, .int 0])), (q_4, .inr (6, [.ref mst, .ref mim, .ref mkp, .ref mpw, .ref mnx, .ref mli, .int 0, .ref mil, .ref mmv, .ref mso, .ref mla, .int 0, .int 0, .ref mco])), (mst, .inl (cyI, 72, .inl fs)), (mim, .inl (cyI, 144, .inl (fun _ => (0 : Int32)))), (mkp, .inl (cyZ, 2, .inl (fun _ => (0 : Int32)))), (mpw, .inl (cyI, 11, .inl fp)), (mnx, .inl (cyI, 10, .inl (fun _ => (0 : Int32)))), (mli, .inl (cyI, 59049, .inl (fun _ => (0 : Int32)))), (mil, .inl (cyZ, 59049, .inl (fun _ => (0 : Int32)))), (mmv, .inl (cyI, 59049, .inl (fun _ => (0 : Int32)))), (mso, .inl (cyI, 59049, .inl (fun _ => (0 : Int32)))), (mla, .inl (cyI, 59049, .inl (fun _ => (0 : Int32)))), (mco, .inl (cyI, 10, .inl (fun _ => (0 : Int32))))] := hD
          obtain rfl : (sp_step (xs 1)) = rh_167 := Eq.symm h_167
          refine lv_aload_n hx hb dL_law_436 rfl (lv_at hl 1 rfl) ?_
          refine lv_aload_n hx hb dL_law_437 rfl (lv_at hl 3 rfl) ?_
          refine lv_iload_n hx hb dL_law_438 rfl (lv_at hl 0 rfl) ?_
          refine lv_iconst (v := 1) hx hb dL_law_439 (by decide) ?_
          refine lv_iadd hx hb dL_law_440 ?_
          refine lv_topi (fun x_168 ex_168 => ?_)
          obtain rfl : 1 = x_168 := (ex_168.trans (by decide)).symm
          refine va_sld hx hb hX hbl hbA hS (show vp_in 1 6 from vp_in_nI (n := 1) (N := 6) (by decide) (by decide)) dL_law_441 ?_
          refine lv_topi (fun x_169 ex_169 => ?_)
          obtain rfl : xs 1 = x_169 := Eq.symm ex_169
          have f_170 := va_free (wc := [(q_4, .inr (6, [.ref mst, .ref mim, .ref mkp, .ref mpw, .ref mnx, .ref mli, .int 0, .ref mil, .ref mmv, .ref mso, .ref mla, .int 0, .int 0, .ref mco])), (mst, .inl (cyI, 72, .inl fs)), (mpw, .inl (cyI, 11, .inl fp)), (mnx, .inl (cyI, 10, .inl (fun _ => (0 : Int32))))]) hD hS hA [10, 11, 14, 15] rfl
          refine va_calli (va_runV (As := [.int (xs 1)]) (rest := [.int (sp_step (xs 1))]) ⟨hx, hb, hml, hown, hts⟩ (kX8_step l dC dI cyI cyZ q_4 mst mim mkp mpw mnx mli mil mmv mso mla mco 0 0 0 fs h8 hs fp hp (fun _ => (0 : Int32)) (fun _ => rfl) (xs 1) _) (cwV 1 hts gv_X8_step rfl rfl rfl (by decide +kernel) ⟨Nat.le_of_ble_eq_true rfl, Nat.le_of_ble_eq_true rfl⟩) (bs_WV hB (hP.sub (ws' := [(q_4, .inr (6, [.ref mst, .ref mim, .ref mkp, .ref mpw, .ref mnx, .ref mli, .int 0, .ref mil, .ref mmv, .ref mso, .ref mla, .int 0, .int 0, .ref mco])), (mst, .inl (cyI, 72, .inl fs)), (mpw, .inl (cyI, 11, .inl fp)), (mnx, .inl (cyI, 10, .inl (fun _ => (0 : Int32))))]) [10, 11, 14, 15] rfl) (hD.sub (ws' := [(q_4, .inr (6, [.ref mst, .ref mim, .ref mkp, .ref mpw, .ref mnx, .ref mli, .int 0, .ref mil, .ref mmv, .ref mso, .ref mla, .int 0, .int 0, .ref mco])), (mst, .inl (cyI, 72, .inl fs)), (mpw, .inl (cyI, 11, .inl fp)), (mnx, .inl (cyI, 10, .inl (fun _ => (0 : Int32))))]) [10, 11, 14, 15] (by decide) rfl) 0 rfl rfl) rfl rfl hl.1 rfl (lv_room (Nat.le_of_ble_eq_true rfl)) dL_law_442 ⟨Nat.le_of_ble_eq_true rfl, Nat.le_of_ble_eq_true rfl⟩) hS (fun q _ h => f_170 q h) f_170 (fun rh_171 uh_171 t H1 locs ht hvm h_171 hB1 hz1 hk1 hS => ?_)
          obtain ⟨hP, hD⟩ := va_join (wr := [(xa4, .inl (cyI, 60, .inl (fun _ => (0 : Int32)))), (xb1, .inr (3, [.ref xb2, .ref xb3, .int 8])), (xb2, .inl (cyI, 10, .inl (fun _ => (0 : Int32)))), (xb3, .inr (2, [.ref xb4, .int 0])), (xb4, .inl (cyI, 60, .inl (fun _ => (0 : Int32)))), (xc1, .inr (3, [.ref xc2, .ref xc3, .int 8])), (xc2, .inl (cyI, 10, .inl (fun _ => (0 : Int32)))), (xc3, .inr (2, [.ref xc4, .int 0])), (xc4, .inl (cyI, 60, .inl (fun _ => (0 : Int32)))), (xlk, .inr (0, [.int 0, .int 0, .int 0, .int 0, .int 0])), (mim, .inl (cyI, 144, .inl (fun _ => (0 : Int32)))), (mkp, .inl (cyZ, 2, .inl (fun _ => (0 : Int32)))), (mli, .inl (cyI, 59049, .inl (fun _ => (0 : Int32)))), (mil, .inl (cyZ, 59049, .inl (fun _ => (0 : Int32)))), (mmv, .inl (cyI, 59049, .inl (fun _ => (0 : Int32)))), (mso, .inl (cyI, 59049, .inl (fun _ => (0 : Int32)))), (mla, .inl (cyI, 59049, .inl (fun _ => (0 : Int32)))), (mco, .inl (cyI, 10, .inl (fun _ => (0 : Int32))))]) (w1 := []) hP hD [10, 11, 14, 15] [0, 1, 2, 3, 4, 5, 6, 7, 8, 9, 12, 13, 16, 17, 18, 19, 20, 21] rfl rfl (by decide) (by decide) hk1 f_170 bs_nil bs_nilD
          generalize H1 = H at hP hS ⊢
          have hP : va_P (dC, dI) vwCl [(xa4, .inl (cyI, 60, .inl (fun _ => (0 : Int32)))), (xb1, .inr (3, [.ref xb2, .ref xb3, .int 8])), (xb2, .inl (cyI, 10, .inl (fun _ => (0 : Int32)))), (xb3, .inr (2, [.ref xb4, .int 0])), (xb4, .inl (cyI, 60, .inl (fun _ => (0 : Int32)))), (xc1, .inr (3, [.ref xc2, .ref xc3, .int 8])), (xc2, .inl (cyI, 10, .inl (fun _ => (0 : Int32)))), (xc3, .inr (2, [.ref xc4, .int 0])), (xc4, .inl (cyI, 60, .inl (fun _ => (0 : Int32)))), (xlk, .inr (0, [.int 0, .int 0, .int 0, .int 0, .int 0])), (mim, .inl (cyI, 144, .inl (fun _ => (0 : Int32)))), (mkp, .inl (cyZ, 2, .inl (fun _ => (0 : Int32)))), (mli, .inl (cyI, 59049, .inl (fun _ => (0 : Int32)))), (mil, .inl (cyZ, 59049, .inl (fun _ => (0 : Int32)))), (mmv, .inl (cyI, 59049, .inl (fun _ => (0 : Int32)))), (mso, .inl (cyI, 59049, .inl (fun _ => (0 : Int32)))), (mla, .inl (cyI, 59049, .inl (fun _ => (0 : Int32)))), (mco, .inl (cyI, 10, .inl (fun _ => (0 : Int32))))] _ := hP
          have hD : va_D A [(xa4, .inl (cyI, 60, .inl (fun _ => (0 : Int32)))), (xb1, .inr (3, [.ref xb2, .ref xb3, .int 8])), (xb2, .inl (cyI, 10, .inl (fun _ => (0 : Int32)))), (xb3, .inr (2, [.ref xb4, .int 0])), (xb4, .inl (cyI, 60, .inl (fun _ => (0 : Int32)))), (xc1, .inr (3, [.ref xc2, .ref xc3, .int 8])), (xc2, .inl (cyI, 10, .inl (fun _ => (0 : Int32)))), (xc3, .inr (2, [.ref xc4, .int 0])), (xc4, .inl (cyI, 60, .inl (fun _ => (0 : Int32)))), (xlk, .inr (0, [.int 0, .int 0, .int 0, .int 0, .int 0])), (mim, .inl (cyI, 144, .inl (fun _ => (0 : Int32)))), (mkp, .inl (cyZ, 2, .inl (fun _ => (0 : Int32)))), (mli, .inl (cyI, 59049, .inl (fun _ => (0 : Int32)))), (mil, .inl (cyZ, 59049, .inl (fun _ => (0 : Int32)))), (mmv, .inl (cyI, 59049, .inl (fun _ => (0 : Int32)))), (mso, .inl (cyI, 59049, .inl (fun _ => (0 : Int32)))), (mla, .inl (cyI, 59049, .inl (fun _ => (0 : Int32)))), (mco, .inl (cyI, 10, .inl (fun _ => (0 : Int32))))] := hD
          obtain rfl : (sp_step (xs 1)) = rh_171 := Eq.symm h_171
          refine lv_icmp_eq (tgt := 664) hx hb dL_law_445 (by decide) (fun c_172 => ?_) (fun c_172 => ?_)
          · skip
            refine lv_iinc (v := 6) (lv' := [(3, .int 6), (2, .ref q_4), (1, .ref q_1), (0, .ref b)]) hx hb dL_law_664 hl (k := 0) rfl (by decide) (by decide) rfl (fun ls hl => ?_)
            refine lv_goto (tgt := 18) hx hb dL_law_667 (by decide) ?_
            refine lv_iload_n hx hb dL_law_18 rfl (lv_at hl 0 rfl) ?_
            refine lv_aload_n hx hb dL_law_19 rfl (lv_at hl 3 rfl) ?_
            refine va_slen hx hb hX hbl hbA hS dL_law_20 ?_
            refine lv_topi (fun x_173 ex_173 => ?_)
            obtain rfl : 6 = x_173 := Eq.symm ex_173
            refine lv_bipush (v := 6) hx hb dL_law_21 (by decide) ?_
            refine lv_isub hx hb dL_law_23 ?_
            refine lv_topi (fun x_174 ex_174 => ?_)
            obtain rfl : 0 = x_174 := (ex_174.trans (by decide)).symm
            refine lv_icmp_gt (tgt := 670) hx hb dL_law_24 (by decide) (fun c_175 => ?_) (fun c_175 => ?_)
            · skip
              refine lv_iconst (v := 1) hx hb dL_law_670 (by decide) ?_
              refine va_forget (fun q hq => by have h9 := hS.2.2 q hq; rw [hAe] at h9; exact h9) ?_
              refine W.widen (k := 600000) (n := 7302250) (Nat.le_of_ble_eq_true rfl) (Nat.le_of_ble_eq_true rfl) ?_
              exact lw_ret hx hb hr hlocks dL_law_671
            · skip
              exact absurd c_175 (by decide)
          · skip
            exact absurd rfl c_172
        · skip
          have ew_24 : x_23 = 10 := w_24
          refine W.eq (g2 := F0 m 33 ls (.int 10 :: [])) (by rw [ew_24]) ?_
          refine lv_tableIn (off := 417) (tgt := 450) hx hb dL_law_33 (by decide) (by decide) (by decide) (by decide) ?_
          refine lv_aload_n hx hb dL_law_450 rfl (lv_at hl 2 rfl) ?_
          refine lv_aload_n hx hb dL_law_451 rfl (lv_at hl 3 rfl) ?_
          refine lv_iload_n hx hb dL_law_452 rfl (lv_at hl 0 rfl) ?_
          refine lv_iconst (v := 1) hx hb dL_law_453 (by decide) ?_
          refine lv_iadd hx hb dL_law_454 ?_
          refine lv_topi (fun x_176 ex_176 => ?_)
          obtain rfl : 1 = x_176 := (ex_176.trans (by decide)).symm
          refine va_sld hx hb hX hbl hbA hS (show vp_in 1 6 from vp_in_nI (n := 1) (N := 6) (by decide) (by decide)) dL_law_455 ?_
          refine lv_topi (fun x_177 ex_177 => ?_)
          obtain rfl : xs 1 = x_177 := Eq.symm ex_177
          refine lv_aload_n hx hb dL_law_456 rfl (lv_at hl 3 rfl) ?_
          refine lv_iload_n hx hb dL_law_457 rfl (lv_at hl 0 rfl) ?_
          refine lv_iconst (v := 2) hx hb dL_law_458 (by decide) ?_
          refine lv_iadd hx hb dL_law_459 ?_
          refine lv_topi (fun x_178 ex_178 => ?_)
          obtain rfl : 2 = x_178 := (ex_178.trans (by decide)).symm
          refine va_sld hx hb hX hbl hbA hS (show vp_in 2 6 from vp_in_nI (n := 2) (N := 6) (by decide) (by decide)) dL_law_460 ?_
          refine lv_topi (fun x_179 ex_179 => ?_)
          obtain rfl : xs 2 = x_179 := Eq.symm ex_179
          refine vp_callSi (va_Run.run (va_runV (As := [.int (xs 1), .int (xs 2)]) (rest := []) ⟨hx, hb, hml, hown, hts⟩ (kX7_meets l dC dI cyI cyZ q_1 xa1 xb1 xc1 xlk xbh xa2 xa3 xa4 (fun _ => (0 : Int32)) (fun _ => rfl) (xs 1) (xs 2)) (cwV 2 hts gv_X7_meets rfl rfl rfl (by decide +kernel) ⟨Nat.le_of_ble_eq_true rfl, Nat.le_of_ble_eq_true rfl⟩) (bs_RV hB (hP.sub (ws' := [(q_1, .inr (5, [.ref xa1, .ref xb1, .ref xc1, .ref xlk, .ref xbh, .int 0, .null])), (xa1, .inr (3, [.ref xa2, .ref xa3, .int 8])), (xa2, .inl (cyI, 10, .inl (fun _ => (0 : Int32)))), (xa3, .inr (2, [.ref xa4, .int 0]))]) [0, 1, 2, 3] rfl) 0 rfl rfl) rfl rfl hl.1 rfl (lv_room (Nat.le_of_ble_eq_true rfl)) dL_law_461 ⟨Nat.le_of_ble_eq_true rfl, Nat.le_of_ble_eq_true rfl⟩)) (fun r_180 hr_180 => ?_)
          obtain rfl : (sp_meets (xs 1) (xs 2)) = r_180 := Eq.symm hr_180
          refine lv_aload_n hx hb dL_law_464 rfl (lv_at hl 1 rfl) ?_
          refine lv_aload_n hx hb dL_law_465 rfl (lv_at hl 3 rfl) ?_
          refine lv_iload_n hx hb dL_law_466 rfl (lv_at hl 0 rfl) ?_
          refine lv_iconst (v := 1) hx hb dL_law_467 (by decide) ?_
          refine lv_iadd hx hb dL_law_468 ?_
          refine lv_topi (fun x_181 ex_181 => ?_)
          obtain rfl : 1 = x_181 := (ex_181.trans (by decide)).symm
          refine va_sld hx hb hX hbl hbA hS (show vp_in 1 6 from vp_in_nI (n := 1) (N := 6) (by decide) (by decide)) dL_law_469 ?_
          refine lv_topi (fun x_182 ex_182 => ?_)
          obtain rfl : xs 1 = x_182 := Eq.symm ex_182
          refine lv_aload_n hx hb dL_law_470 rfl (lv_at hl 3 rfl) ?_
          refine lv_iload_n hx hb dL_law_471 rfl (lv_at hl 0 rfl) ?_
          refine lv_iconst (v := 2) hx hb dL_law_472 (by decide) ?_
          refine lv_iadd hx hb dL_law_473 ?_
          refine lv_topi (fun x_183 ex_183 => ?_)
          obtain rfl : 2 = x_183 := (ex_183.trans (by decide)).symm
          refine va_sld hx hb hX hbl hbA hS (show vp_in 2 6 from vp_in_nI (n := 2) (N := 6) (by decide) (by decide)) dL_law_474 ?_
          refine lv_topi (fun x_184 ex_184 => ?_)
          obtain rfl : xs 2 = x_184 := Eq.symm ex_184
          refine vp_callSi (va_Run.run (va_runV (As := [.int (xs 1), .int (xs 2)]) (rest := [.int (sp_meets (xs 1) (xs 2))]) ⟨hx, hb, hml, hown, hts⟩ (kX8_meets l dC dI cyI cyZ q_4 mst mim mkp mpw mnx mli mil mmv mso mla mco 0 0 0 fs h8 hs fp hp (xs 1) (xs 2)) (cwV 2 hts gv_X8_meets rfl rfl rfl (by decide +kernel) ⟨Nat.le_of_ble_eq_true rfl, Nat.le_of_ble_eq_true rfl⟩) (bs_RV hB (hP.sub (ws' := [(q_4, .inr (6, [.ref mst, .ref mim, .ref mkp, .ref mpw, .ref mnx, .ref mli, .int 0, .ref mil, .ref mmv, .ref mso, .ref mla, .int 0, .int 0, .ref mco])), (mst, .inl (cyI, 72, .inl fs)), (mpw, .inl (cyI, 11, .inl fp))]) [15, 16, 19] rfl) 0 rfl rfl) rfl rfl hl.1 rfl (lv_room (Nat.le_of_ble_eq_true rfl)) dL_law_475 ⟨Nat.le_of_ble_eq_true rfl, Nat.le_of_ble_eq_true rfl⟩)) (fun r_185 hr_185 => ?_)
          obtain rfl : (sp_meets (xs 1) (xs 2)) = r_185 := Eq.symm hr_185
          refine lv_icmp_eq (tgt := 664) hx hb dL_law_478 (by decide) (fun c_186 => ?_) (fun c_186 => ?_)
          · skip
            refine lv_iinc (v := 6) (lv' := [(3, .int 6), (2, .ref q_4), (1, .ref q_1), (0, .ref b)]) hx hb dL_law_664 hl (k := 0) rfl (by decide) (by decide) rfl (fun ls hl => ?_)
            refine lv_goto (tgt := 18) hx hb dL_law_667 (by decide) ?_
            refine lv_iload_n hx hb dL_law_18 rfl (lv_at hl 0 rfl) ?_
            refine lv_aload_n hx hb dL_law_19 rfl (lv_at hl 3 rfl) ?_
            refine va_slen hx hb hX hbl hbA hS dL_law_20 ?_
            refine lv_topi (fun x_187 ex_187 => ?_)
            obtain rfl : 6 = x_187 := Eq.symm ex_187
            refine lv_bipush (v := 6) hx hb dL_law_21 (by decide) ?_
            refine lv_isub hx hb dL_law_23 ?_
            refine lv_topi (fun x_188 ex_188 => ?_)
            obtain rfl : 0 = x_188 := (ex_188.trans (by decide)).symm
            refine lv_icmp_gt (tgt := 670) hx hb dL_law_24 (by decide) (fun c_189 => ?_) (fun c_189 => ?_)
            · skip
              refine lv_iconst (v := 1) hx hb dL_law_670 (by decide) ?_
              refine va_forget (fun q hq => by have h9 := hS.2.2 q hq; rw [hAe] at h9; exact h9) ?_
              refine W.widen (k := 600000) (n := 7302250) (Nat.le_of_ble_eq_true rfl) (Nat.le_of_ble_eq_true rfl) ?_
              exact lw_ret hx hb hr hlocks dL_law_671
            · skip
              exact absurd c_189 (by decide)
          · skip
            exact absurd rfl c_186
        · skip
          have ew_24 : x_23 = 11 := w_24
          refine W.eq (g2 := F0 m 33 ls (.int 11 :: [])) (by rw [ew_24]) ?_
          refine lv_tableIn (off := 450) (tgt := 483) hx hb dL_law_33 (by decide) (by decide) (by decide) (by decide) ?_
          refine lv_aload_n hx hb dL_law_483 rfl (lv_at hl 2 rfl) ?_
          refine lv_aload_n hx hb dL_law_484 rfl (lv_at hl 3 rfl) ?_
          refine lv_iload_n hx hb dL_law_485 rfl (lv_at hl 0 rfl) ?_
          refine lv_iconst (v := 1) hx hb dL_law_486 (by decide) ?_
          refine lv_iadd hx hb dL_law_487 ?_
          refine lv_topi (fun x_190 ex_190 => ?_)
          obtain rfl : 1 = x_190 := (ex_190.trans (by decide)).symm
          refine va_sld hx hb hX hbl hbA hS (show vp_in 1 6 from vp_in_nI (n := 1) (N := 6) (by decide) (by decide)) dL_law_488 ?_
          refine lv_topi (fun x_191 ex_191 => ?_)
          obtain rfl : xs 1 = x_191 := Eq.symm ex_191
          refine vp_callSi (va_Run.run (va_runV (As := [.int (xs 1)]) (rest := []) ⟨hx, hb, hml, hown, hts⟩ (kX7_first l dC dI cyI cyZ q_1 xa1 xb1 xc1 xlk xbh xa2 xa3 xa4 (fun _ => (0 : Int32)) (fun _ => rfl) (xs 1)) (cwV 1 hts gv_X7_first rfl rfl rfl (by decide +kernel) ⟨Nat.le_of_ble_eq_true rfl, Nat.le_of_ble_eq_true rfl⟩) (bs_RV hB (hP.sub (ws' := [(q_1, .inr (5, [.ref xa1, .ref xb1, .ref xc1, .ref xlk, .ref xbh, .int 0, .null])), (xa1, .inr (3, [.ref xa2, .ref xa3, .int 8])), (xa2, .inl (cyI, 10, .inl (fun _ => (0 : Int32)))), (xa3, .inr (2, [.ref xa4, .int 0]))]) [0, 1, 2, 3] rfl) 0 rfl rfl) rfl rfl hl.1 rfl (lv_room (Nat.le_of_ble_eq_true rfl)) dL_law_489 ⟨Nat.le_of_ble_eq_true rfl, Nat.le_of_ble_eq_true rfl⟩)) (fun r_192 hr_192 => ?_)
          obtain rfl : (sp_sched (xs 1)) = r_192 := Eq.symm hr_192
          refine lv_aload_n hx hb dL_law_492 rfl (lv_at hl 1 rfl) ?_
          refine lv_aload_n hx hb dL_law_493 rfl (lv_at hl 3 rfl) ?_
          refine lv_iload_n hx hb dL_law_494 rfl (lv_at hl 0 rfl) ?_
          refine lv_iconst (v := 1) hx hb dL_law_495 (by decide) ?_
          refine lv_iadd hx hb dL_law_496 ?_
          refine lv_topi (fun x_193 ex_193 => ?_)
          obtain rfl : 1 = x_193 := (ex_193.trans (by decide)).symm
          refine va_sld hx hb hX hbl hbA hS (show vp_in 1 6 from vp_in_nI (n := 1) (N := 6) (by decide) (by decide)) dL_law_497 ?_
          refine lv_topi (fun x_194 ex_194 => ?_)
          obtain rfl : xs 1 = x_194 := Eq.symm ex_194
          refine vp_callSi (va_Run.run (va_runV (As := [.int (xs 1)]) (rest := [.int (sp_sched (xs 1))]) ⟨hx, hb, hml, hown, hts⟩ (kX8_first l dC dI cyI cyZ q_4 mst mim mkp mpw mnx mli mil mmv mso mla mco 0 0 0 fs h8 hs fp hp (xs 1)) (cwV 1 hts gv_X8_first rfl rfl rfl (by decide +kernel) ⟨Nat.le_of_ble_eq_true rfl, Nat.le_of_ble_eq_true rfl⟩) (bs_RV hB (hP.sub (ws' := [(q_4, .inr (6, [.ref mst, .ref mim, .ref mkp, .ref mpw, .ref mnx, .ref mli, .int 0, .ref mil, .ref mmv, .ref mso, .ref mla, .int 0, .int 0, .ref mco])), (mst, .inl (cyI, 72, .inl fs)), (mpw, .inl (cyI, 11, .inl fp))]) [15, 16, 19] rfl) 0 rfl rfl) rfl rfl hl.1 rfl (lv_room (Nat.le_of_ble_eq_true rfl)) dL_law_498 ⟨Nat.le_of_ble_eq_true rfl, Nat.le_of_ble_eq_true rfl⟩)) (fun r_195 hr_195 => ?_)
          obtain rfl : (sp_sched (xs 1)) = r_195 := Eq.symm hr_195
          refine lv_icmp_eq (tgt := 664) hx hb dL_law_501 (by decide) (fun c_196 => ?_) (fun c_196 => ?_)
          · skip
            refine lv_iinc (v := 6) (lv' := [(3, .int 6), (2, .ref q_4), (1, .ref q_1), (0, .ref b)]) hx hb dL_law_664 hl (k := 0) rfl (by decide) (by decide) rfl (fun ls hl => ?_)
            refine lv_goto (tgt := 18) hx hb dL_law_667 (by decide) ?_
            refine lv_iload_n hx hb dL_law_18 rfl (lv_at hl 0 rfl) ?_
            refine lv_aload_n hx hb dL_law_19 rfl (lv_at hl 3 rfl) ?_
            refine va_slen hx hb hX hbl hbA hS dL_law_20 ?_
            refine lv_topi (fun x_197 ex_197 => ?_)
            obtain rfl : 6 = x_197 := Eq.symm ex_197
            refine lv_bipush (v := 6) hx hb dL_law_21 (by decide) ?_
            refine lv_isub hx hb dL_law_23 ?_
            refine lv_topi (fun x_198 ex_198 => ?_)
            obtain rfl : 0 = x_198 := (ex_198.trans (by decide)).symm
            refine lv_icmp_gt (tgt := 670) hx hb dL_law_24 (by decide) (fun c_199 => ?_) (fun c_199 => ?_)
            · skip
              refine lv_iconst (v := 1) hx hb dL_law_670 (by decide) ?_
              refine va_forget (fun q hq => by have h9 := hS.2.2 q hq; rw [hAe] at h9; exact h9) ?_
              refine W.widen (k := 600000) (n := 7302250) (Nat.le_of_ble_eq_true rfl) (Nat.le_of_ble_eq_true rfl) ?_
              exact lw_ret hx hb hr hlocks dL_law_671
            · skip
              exact absurd c_199 (by decide)
          · skip
            exact absurd rfl c_196
        · skip
          have ew_24 : x_23 = 12 := w_24
          refine W.eq (g2 := F0 m 33 ls (.int 12 :: [])) (by rw [ew_24]) ?_
          refine lv_tableIn (off := 473) (tgt := 506) hx hb dL_law_33 (by decide) (by decide) (by decide) (by decide) ?_
          refine lv_aload_n hx hb dL_law_506 rfl (lv_at hl 2 rfl) ?_
          refine lv_aload_n hx hb dL_law_507 rfl (lv_at hl 3 rfl) ?_
          refine lv_iload_n hx hb dL_law_508 rfl (lv_at hl 0 rfl) ?_
          refine lv_iconst (v := 1) hx hb dL_law_509 (by decide) ?_
          refine lv_iadd hx hb dL_law_510 ?_
          refine lv_topi (fun x_200 ex_200 => ?_)
          obtain rfl : 1 = x_200 := (ex_200.trans (by decide)).symm
          refine va_sld hx hb hX hbl hbA hS (show vp_in 1 6 from vp_in_nI (n := 1) (N := 6) (by decide) (by decide)) dL_law_511 ?_
          refine lv_topi (fun x_201 ex_201 => ?_)
          obtain rfl : xs 1 = x_201 := Eq.symm ex_201
          refine vp_callSi (va_Run.run (va_runV (As := [.int (xs 1)]) (rest := []) ⟨hx, hb, hml, hown, hts⟩ (kX7_blind l dC dI cyI cyZ q_1 xa1 xb1 xc1 xlk xbh xa2 xa3 xa4 (fun _ => (0 : Int32)) (fun _ => rfl) (xs 1)) (cwV 1 hts gv_X7_blind rfl rfl rfl (by decide +kernel) ⟨Nat.le_of_ble_eq_true rfl, Nat.le_of_ble_eq_true rfl⟩) (bs_RV hB (hP.sub (ws' := [(q_1, .inr (5, [.ref xa1, .ref xb1, .ref xc1, .ref xlk, .ref xbh, .int 0, .null])), (xa1, .inr (3, [.ref xa2, .ref xa3, .int 8])), (xa2, .inl (cyI, 10, .inl (fun _ => (0 : Int32)))), (xa3, .inr (2, [.ref xa4, .int 0]))]) [0, 1, 2, 3] rfl) 0 rfl rfl) rfl rfl hl.1 rfl (lv_room (Nat.le_of_ble_eq_true rfl)) dL_law_512 ⟨Nat.le_of_ble_eq_true rfl, Nat.le_of_ble_eq_true rfl⟩)) (fun r_202 hr_202 => ?_)
          obtain rfl : (sp_sched (xs 1)) = r_202 := Eq.symm hr_202
          refine lv_aload_n hx hb dL_law_515 rfl (lv_at hl 1 rfl) ?_
          refine lv_aload_n hx hb dL_law_516 rfl (lv_at hl 3 rfl) ?_
          refine lv_iload_n hx hb dL_law_517 rfl (lv_at hl 0 rfl) ?_
          refine lv_iconst (v := 1) hx hb dL_law_518 (by decide) ?_
          refine lv_iadd hx hb dL_law_519 ?_
          refine lv_topi (fun x_203 ex_203 => ?_)
          obtain rfl : 1 = x_203 := (ex_203.trans (by decide)).symm
          refine va_sld hx hb hX hbl hbA hS (show vp_in 1 6 from vp_in_nI (n := 1) (N := 6) (by decide) (by decide)) dL_law_520 ?_
          refine lv_topi (fun x_204 ex_204 => ?_)
          obtain rfl : xs 1 = x_204 := Eq.symm ex_204
          refine vp_callSi (va_Run.run (va_runV (As := [.int (xs 1)]) (rest := [.int (sp_sched (xs 1))]) ⟨hx, hb, hml, hown, hts⟩ (kX8_blind l dC dI cyI cyZ q_4 mst mim mkp mpw mnx mli mil mmv mso mla mco 0 0 0 fs h8 hs fp hp (xs 1)) (cwV 1 hts gv_X8_blind rfl rfl rfl (by decide +kernel) ⟨Nat.le_of_ble_eq_true rfl, Nat.le_of_ble_eq_true rfl⟩) (bs_RV hB (hP.sub (ws' := [(q_4, .inr (6, [.ref mst, .ref mim, .ref mkp, .ref mpw, .ref mnx, .ref mli, .int 0, .ref mil, .ref mmv, .ref mso, .ref mla, .int 0, .int 0, .ref mco])), (mst, .inl (cyI, 72, .inl fs)), (mpw, .inl (cyI, 11, .inl fp))]) [15, 16, 19] rfl) 0 rfl rfl) rfl rfl hl.1 rfl (lv_room (Nat.le_of_ble_eq_true rfl)) dL_law_521 ⟨Nat.le_of_ble_eq_true rfl, Nat.le_of_ble_eq_true rfl⟩)) (fun r_205 hr_205 => ?_)
          obtain rfl : (sp_sched (xs 1)) = r_205 := Eq.symm hr_205
          refine lv_icmp_eq (tgt := 664) hx hb dL_law_524 (by decide) (fun c_206 => ?_) (fun c_206 => ?_)
          · skip
            refine lv_iinc (v := 6) (lv' := [(3, .int 6), (2, .ref q_4), (1, .ref q_1), (0, .ref b)]) hx hb dL_law_664 hl (k := 0) rfl (by decide) (by decide) rfl (fun ls hl => ?_)
            refine lv_goto (tgt := 18) hx hb dL_law_667 (by decide) ?_
            refine lv_iload_n hx hb dL_law_18 rfl (lv_at hl 0 rfl) ?_
            refine lv_aload_n hx hb dL_law_19 rfl (lv_at hl 3 rfl) ?_
            refine va_slen hx hb hX hbl hbA hS dL_law_20 ?_
            refine lv_topi (fun x_207 ex_207 => ?_)
            obtain rfl : 6 = x_207 := Eq.symm ex_207
            refine lv_bipush (v := 6) hx hb dL_law_21 (by decide) ?_
            refine lv_isub hx hb dL_law_23 ?_
            refine lv_topi (fun x_208 ex_208 => ?_)
            obtain rfl : 0 = x_208 := (ex_208.trans (by decide)).symm
            refine lv_icmp_gt (tgt := 670) hx hb dL_law_24 (by decide) (fun c_209 => ?_) (fun c_209 => ?_)
            · skip
              refine lv_iconst (v := 1) hx hb dL_law_670 (by decide) ?_
              refine va_forget (fun q hq => by have h9 := hS.2.2 q hq; rw [hAe] at h9; exact h9) ?_
              refine W.widen (k := 600000) (n := 7302250) (Nat.le_of_ble_eq_true rfl) (Nat.le_of_ble_eq_true rfl) ?_
              exact lw_ret hx hb hr hlocks dL_law_671
            · skip
              exact absurd c_209 (by decide)
          · skip
            exact absurd rfl c_206
        · skip
          have ew_24 : x_23 = 13 := w_24
          refine W.eq (g2 := F0 m 33 ls (.int 13 :: [])) (by rw [ew_24]) ?_
          refine lv_tableIn (off := 496) (tgt := 529) hx hb dL_law_33 (by decide) (by decide) (by decide) (by decide) ?_
          refine lv_aload_n hx hb dL_law_529 rfl (lv_at hl 2 rfl) ?_
          refine lv_aload_n hx hb dL_law_530 rfl (lv_at hl 3 rfl) ?_
          refine lv_iload_n hx hb dL_law_531 rfl (lv_at hl 0 rfl) ?_
          refine lv_iconst (v := 1) hx hb dL_law_532 (by decide) ?_
          refine lv_iadd hx hb dL_law_533 ?_
          refine lv_topi (fun x_210 ex_210 => ?_)
          obtain rfl : 1 = x_210 := (ex_210.trans (by decide)).symm
          refine va_sld hx hb hX hbl hbA hS (show vp_in 1 6 from vp_in_nI (n := 1) (N := 6) (by decide) (by decide)) dL_law_534 ?_
          refine lv_topi (fun x_211 ex_211 => ?_)
          obtain rfl : xs 1 = x_211 := Eq.symm ex_211
          refine vp_callSi (va_Run.run (va_runV (As := [.int (xs 1)]) (rest := []) ⟨hx, hb, hml, hown, hts⟩ (kX7_used l dC dI cyI cyZ q_1 xa1 xb1 xc1 xlk xbh xa2 xa3 xa4 (fun _ => (0 : Int32)) (fun _ => rfl) (xs 1)) (cwV 1 hts gv_X7_used rfl rfl rfl (by decide +kernel) ⟨Nat.le_of_ble_eq_true rfl, Nat.le_of_ble_eq_true rfl⟩) (bs_RV hB (hP.sub (ws' := [(q_1, .inr (5, [.ref xa1, .ref xb1, .ref xc1, .ref xlk, .ref xbh, .int 0, .null])), (xa1, .inr (3, [.ref xa2, .ref xa3, .int 8])), (xa2, .inl (cyI, 10, .inl (fun _ => (0 : Int32)))), (xa3, .inr (2, [.ref xa4, .int 0]))]) [0, 1, 2, 3] rfl) 0 rfl rfl) rfl rfl hl.1 rfl (lv_room (Nat.le_of_ble_eq_true rfl)) dL_law_535 ⟨Nat.le_of_ble_eq_true rfl, Nat.le_of_ble_eq_true rfl⟩)) (fun r_212 hr_212 => ?_)
          obtain rfl : (sp_sched (xs 1)) = r_212 := Eq.symm hr_212
          refine lv_aload_n hx hb dL_law_538 rfl (lv_at hl 1 rfl) ?_
          refine lv_aload_n hx hb dL_law_539 rfl (lv_at hl 3 rfl) ?_
          refine lv_iload_n hx hb dL_law_540 rfl (lv_at hl 0 rfl) ?_
          refine lv_iconst (v := 1) hx hb dL_law_541 (by decide) ?_
          refine lv_iadd hx hb dL_law_542 ?_
          refine lv_topi (fun x_213 ex_213 => ?_)
          obtain rfl : 1 = x_213 := (ex_213.trans (by decide)).symm
          refine va_sld hx hb hX hbl hbA hS (show vp_in 1 6 from vp_in_nI (n := 1) (N := 6) (by decide) (by decide)) dL_law_543 ?_
          refine lv_topi (fun x_214 ex_214 => ?_)
          obtain rfl : xs 1 = x_214 := Eq.symm ex_214
          refine vp_callSi (va_Run.run (va_runV (As := [.int (xs 1)]) (rest := [.int (sp_sched (xs 1))]) ⟨hx, hb, hml, hown, hts⟩ (kX8_used l dC dI cyI cyZ q_4 mst mim mkp mpw mnx mli mil mmv mso mla mco 0 0 0 fs h8 hs fp hp (xs 1)) (cwV 1 hts gv_X8_used rfl rfl rfl (by decide +kernel) ⟨Nat.le_of_ble_eq_true rfl, Nat.le_of_ble_eq_true rfl⟩) (bs_RV hB (hP.sub (ws' := [(q_4, .inr (6, [.ref mst, .ref mim, .ref mkp, .ref mpw, .ref mnx, .ref mli, .int 0, .ref mil, .ref mmv, .ref mso, .ref mla, .int 0, .int 0, .ref mco])), (mst, .inl (cyI, 72, .inl fs)), (mpw, .inl (cyI, 11, .inl fp))]) [15, 16, 19] rfl) 0 rfl rfl) rfl rfl hl.1 rfl (lv_room (Nat.le_of_ble_eq_true rfl)) dL_law_544 ⟨Nat.le_of_ble_eq_true rfl, Nat.le_of_ble_eq_true rfl⟩)) (fun r_215 hr_215 => ?_)
          obtain rfl : (sp_sched (xs 1)) = r_215 := Eq.symm hr_215
          refine lv_icmp_eq (tgt := 664) hx hb dL_law_547 (by decide) (fun c_216 => ?_) (fun c_216 => ?_)
          · skip
            refine lv_iinc (v := 6) (lv' := [(3, .int 6), (2, .ref q_4), (1, .ref q_1), (0, .ref b)]) hx hb dL_law_664 hl (k := 0) rfl (by decide) (by decide) rfl (fun ls hl => ?_)
            refine lv_goto (tgt := 18) hx hb dL_law_667 (by decide) ?_
            refine lv_iload_n hx hb dL_law_18 rfl (lv_at hl 0 rfl) ?_
            refine lv_aload_n hx hb dL_law_19 rfl (lv_at hl 3 rfl) ?_
            refine va_slen hx hb hX hbl hbA hS dL_law_20 ?_
            refine lv_topi (fun x_217 ex_217 => ?_)
            obtain rfl : 6 = x_217 := Eq.symm ex_217
            refine lv_bipush (v := 6) hx hb dL_law_21 (by decide) ?_
            refine lv_isub hx hb dL_law_23 ?_
            refine lv_topi (fun x_218 ex_218 => ?_)
            obtain rfl : 0 = x_218 := (ex_218.trans (by decide)).symm
            refine lv_icmp_gt (tgt := 670) hx hb dL_law_24 (by decide) (fun c_219 => ?_) (fun c_219 => ?_)
            · skip
              refine lv_iconst (v := 1) hx hb dL_law_670 (by decide) ?_
              refine va_forget (fun q hq => by have h9 := hS.2.2 q hq; rw [hAe] at h9; exact h9) ?_
              refine W.widen (k := 600000) (n := 7302250) (Nat.le_of_ble_eq_true rfl) (Nat.le_of_ble_eq_true rfl) ?_
              exact lw_ret hx hb hr hlocks dL_law_671
            · skip
              exact absurd c_219 (by decide)
          · skip
            exact absurd rfl c_216
        · skip
          have ew_24 : x_23 = 14 := w_24
          refine W.eq (g2 := F0 m 33 ls (.int 14 :: [])) (by rw [ew_24]) ?_
          refine lv_tableIn (off := 519) (tgt := 552) hx hb dL_law_33 (by decide) (by decide) (by decide) (by decide) ?_
          refine lv_aload_n hx hb dL_law_552 rfl (lv_at hl 2 rfl) ?_
          refine lv_aload_n hx hb dL_law_553 rfl (lv_at hl 3 rfl) ?_
          refine lv_iload_n hx hb dL_law_554 rfl (lv_at hl 0 rfl) ?_
          refine lv_iconst (v := 1) hx hb dL_law_555 (by decide) ?_
          refine lv_iadd hx hb dL_law_556 ?_
          refine lv_topi (fun x_220 ex_220 => ?_)
          obtain rfl : 1 = x_220 := (ex_220.trans (by decide)).symm
          refine va_sld hx hb hX hbl hbA hS (show vp_in 1 6 from vp_in_nI (n := 1) (N := 6) (by decide) (by decide)) dL_law_557 ?_
          refine lv_topi (fun x_221 ex_221 => ?_)
          obtain rfl : xs 1 = x_221 := Eq.symm ex_221
          refine lv_aload_n hx hb dL_law_558 rfl (lv_at hl 3 rfl) ?_
          refine lv_iload_n hx hb dL_law_559 rfl (lv_at hl 0 rfl) ?_
          refine lv_iconst (v := 2) hx hb dL_law_560 (by decide) ?_
          refine lv_iadd hx hb dL_law_561 ?_
          refine lv_topi (fun x_222 ex_222 => ?_)
          obtain rfl : 2 = x_222 := (ex_222.trans (by decide)).symm
          refine va_sld hx hb hX hbl hbA hS (show vp_in 2 6 from vp_in_nI (n := 2) (N := 6) (by decide) (by decide)) dL_law_562 ?_
          refine lv_topi (fun x_223 ex_223 => ?_)
          obtain rfl : xs 2 = x_223 := Eq.symm ex_223
          refine lv_aload_n hx hb dL_law_563 rfl (lv_at hl 3 rfl) ?_
          refine lv_iload_n hx hb dL_law_564 rfl (lv_at hl 0 rfl) ?_
          refine lv_iconst (v := 3) hx hb dL_law_565 (by decide) ?_
          refine lv_iadd hx hb dL_law_566 ?_
          refine lv_topi (fun x_224 ex_224 => ?_)
          obtain rfl : 3 = x_224 := (ex_224.trans (by decide)).symm
          refine va_sld hx hb hX hbl hbA hS (show vp_in 3 6 from vp_in_nI (n := 3) (N := 6) (by decide) (by decide)) dL_law_567 ?_
          refine lv_topi (fun x_225 ex_225 => ?_)
          obtain rfl : xs 3 = x_225 := Eq.symm ex_225
          have f_226 := va_free (wc := [(q_1, .inr (5, [.ref xa1, .ref xb1, .ref xc1, .ref xlk, .ref xbh, .int 0, .null])), (xa1, .inr (3, [.ref xa2, .ref xa3, .int 8])), (xa2, .inl (cyI, 10, .inl (fun _ => (0 : Int32)))), (xa3, .inr (2, [.ref xa4, .int 0]))]) hD hS hA [0, 1, 2, 3] rfl
          refine va_calli (va_runV (As := [.int (xs 1), .int (xs 2), .int (xs 3)]) (rest := []) ⟨hx, hb, hml, hown, hts⟩ (kX7_all l dC dI cyI cyZ q_1 xa1 xb1 xc1 xlk xbh xa2 xa3 xa4 (fun _ => (0 : Int32)) (xs 1) (xs 2) (xs 3) _) (cwV 3 hts gv_X7_all rfl rfl rfl (by decide +kernel) ⟨Nat.le_of_ble_eq_true rfl, Nat.le_of_ble_eq_true rfl⟩) (bs_WV hB (hP.sub (ws' := [(q_1, .inr (5, [.ref xa1, .ref xb1, .ref xc1, .ref xlk, .ref xbh, .int 0, .null])), (xa1, .inr (3, [.ref xa2, .ref xa3, .int 8])), (xa2, .inl (cyI, 10, .inl (fun _ => (0 : Int32)))), (xa3, .inr (2, [.ref xa4, .int 0]))]) [0, 1, 2, 3] rfl) (hD.sub (ws' := [(q_1, .inr (5, [.ref xa1, .ref xb1, .ref xc1, .ref xlk, .ref xbh, .int 0, .null])), (xa1, .inr (3, [.ref xa2, .ref xa3, .int 8])), (xa2, .inl (cyI, 10, .inl (fun _ => (0 : Int32)))), (xa3, .inr (2, [.ref xa4, .int 0]))]) [0, 1, 2, 3] (by decide) rfl) 0 rfl rfl) rfl rfl hl.1 rfl (lv_room (Nat.le_of_ble_eq_true rfl)) dL_law_568 ⟨Nat.le_of_ble_eq_true rfl, Nat.le_of_ble_eq_true rfl⟩) hS (fun q _ h => f_226 q h) f_226 (fun rh_227 uh_227 t H1 locs ht hvm h_227 hB1 hz1 hk1 hS => ?_)
          obtain ⟨hP, hD⟩ := va_join (wr := [(xa4, .inl (cyI, 60, .inl (fun _ => (0 : Int32)))), (xb1, .inr (3, [.ref xb2, .ref xb3, .int 8])), (xb2, .inl (cyI, 10, .inl (fun _ => (0 : Int32)))), (xb3, .inr (2, [.ref xb4, .int 0])), (xb4, .inl (cyI, 60, .inl (fun _ => (0 : Int32)))), (xc1, .inr (3, [.ref xc2, .ref xc3, .int 8])), (xc2, .inl (cyI, 10, .inl (fun _ => (0 : Int32)))), (xc3, .inr (2, [.ref xc4, .int 0])), (xc4, .inl (cyI, 60, .inl (fun _ => (0 : Int32)))), (xlk, .inr (0, [.int 0, .int 0, .int 0, .int 0, .int 0])), (xbh, .inl (cyI, 10, .inl (fun _ => (0 : Int32)))), (q_4, .inr (6, [.ref mst, .ref mim, .ref mkp, .ref mpw, .ref mnx, .ref mli, .int 0, .ref mil, .ref mmv, .ref mso, .ref mla, .int 0, .int 0, .ref mco])), (mst, .inl (cyI, 72, .inl fs)), (mim, .inl (cyI, 144, .inl (fun _ => (0 : Int32)))), (mkp, .inl (cyZ, 2, .inl (fun _ => (0 : Int32)))), (mpw, .inl (cyI, 11, .inl fp)), (mnx, .inl (cyI, 10, .inl (fun _ => (0 : Int32)))), (mli, .inl (cyI, 59049, .inl (fun _ => (0 : Int32)))), (mil, .inl (cyZ, 59049, .inl (fun _ => (0 : Int32)))), (mmv, .inl (cyI, 59049, .inl (fun _ => (0 : Int32)))), (mso, .inl (cyI, 59049, .inl (fun _ => (0 : Int32)))), (mla, .inl (cyI, 59049, .inl (fun _ => (0 : Int32)))), (mco, .inl (cyI, 10, .inl (fun _ => (0 : Int32))))]) (w1 := []) hP hD [0, 1, 2, 3] [4, 5, 6, 7, 8, 9, 10, 11, 12, 13, 14, 15, 16, 17, 18, 19, 20, 21, 22, 23, 24, 25, 26] rfl rfl (by decide) (by decide) hk1 f_226 bs_nil bs_nilD
          generalize H1 = H at hP hS ⊢
          have hP : va_P (dC, dI) vwCl [(xa4, .inl (cyI, 60, .inl (fun _ => (0 : Int32)))), (xb1, .inr (3, [.ref xb2, .ref xb3, .int 8])), (xb2, .inl (cyI, 10, .inl (fun _ => (0 : Int32)))), (xb3, .inr (2, [.ref xb4, .int 0])), (xb4, .inl (cyI, 60, .inl (fun _ => (0 : Int32)))), (xc1, .inr (3, [.ref xc2, .ref xc3, .int 8])), (xc2, .inl (cyI, 10, .inl (fun _ => (0 : Int32)))), (xc3, .inr (2, [.ref xc4, .int 0])), (xc4, .inl (cyI, 60, .inl (fun _ => (0 : Int32)))), (xlk, .inr (0, [.int 0, .int 0, .int 0, .int 0, .int 0])), (xbh, .inl (cyI, 10, .inl (fun _ => (0 : Int32)))), (q_4, .inr (6, [.ref mst, .ref mim, .ref mkp, .ref mpw, .ref mnx, .ref mli, .int 0, .ref mil, .ref mmv, .ref mso, .ref mla, .int 0, .int 0, .ref mco])), (mst, .inl (cyI, 72, .inl fs)), (mim, .inl (cyI, 144, .inl (fun _ => (0 : Int32)))), (mkp, .inl (cyZ, 2, .inl (fun _ => (0 : Int32)))), (mpw, .inl (cyI, 11, .inl fp)), (mnx, .inl (cyI, 10, .inl (fun _ => (0 : Int32)))), (mli, .inl (cyI, 59049, .inl (fun _ => (0 : Int32)))), (mil, .inl (cyZ, 59049, .inl (fun _ => (0 : Int32)))), (mmv, .inl (cyI, 59049, .inl (fun _ => (0 : Int32)))), (mso, .inl (cyI, 59049, .inl (fun _ => (0 : Int32)))), (mla, .inl (cyI, 59049, .inl (fun _ => (0 : Int32)))), (mco, .inl (cyI, 10, .inl (fun _ => (0 : Int32))))] _ := hP
          have hD : va_D A [(xa4, .inl (cyI, 60, .inl (fun _ => (0 : Int32)))), (xb1, .inr (3, [.ref xb2, .ref xb3, .int 8])), (xb2, .inl (cyI, 10, .inl (fun _ => (0 : Int32)))), (xb3, .inr (2, [.ref xb4, .int 0])), (xb4, .inl (cyI, 60, .inl (fun _ => (0 : Int32)))), (xc1, .inr (3, [.ref xc2, .ref xc3, .int 8])), (xc2, .inl (cyI, 10, .inl (fun _ => (0 : Int32)))), (xc3, .inr (2, [.ref xc4, .int 0])), (xc4, .inl (cyI, 60, .inl (fun _ => (0 : Int32)))), (xlk, .inr (0, [.int 0, .int 0, .int 0, .int 0, .int 0])), (xbh, .inl (cyI, 10, .inl (fun _ => (0 : Int32)))), (q_4, .inr (6, [.ref mst, .ref mim, .ref mkp, .ref mpw, .ref mnx, .ref mli, .int 0, .ref mil, .ref mmv, .ref mso, .ref mla, .int 0, .int 0, .ref mco])), (mst, .inl (cyI, 72, .inl fs)), (mim, .inl (cyI, 144, .inl (fun _ => (0 : Int32)))), (mkp, .inl (cyZ, 2, .inl (fun _ => (0 : Int32)))), (mpw, .inl (cyI, 11, .inl fp)), (mnx, .inl (cyI, 10, .inl (fun _ => (0 : Int32)))), (mli, .inl (cyI, 59049, .inl (fun _ => (0 : Int32)))), (mil, .inl (cyZ, 59049, .inl (fun _ => (0 : Int32)))), (mmv, .inl (cyI, 59049, .inl (fun _ => (0 : Int32)))), (mso, .inl (cyI, 59049, .inl (fun _ => (0 : Int32)))), (mla, .inl (cyI, 59049, .inl (fun _ => (0 : Int32)))), (mco, .inl (cyI, 10, .inl (fun _ => (0 : Int32))))] := hD
          refine W.widen (k := 40) (n := 362221) (Nat.le_of_ble_eq_true rfl) (Nat.le_of_ble_eq_true rfl) ?_
          obtain rfl : (sp_all (xs 1) (xs 2) (xs 3)) = rh_227 := Eq.symm h_227
          refine lv_aload_n hx hb dL_law_571 rfl (lv_at hl 1 rfl) ?_
          refine lv_aload_n hx hb dL_law_572 rfl (lv_at hl 3 rfl) ?_
          refine lv_iload_n hx hb dL_law_573 rfl (lv_at hl 0 rfl) ?_
          refine lv_iconst (v := 1) hx hb dL_law_574 (by decide) ?_
          refine lv_iadd hx hb dL_law_575 ?_
          refine lv_topi (fun x_228 ex_228 => ?_)
          obtain rfl : 1 = x_228 := (ex_228.trans (by decide)).symm
          refine va_sld hx hb hX hbl hbA hS (show vp_in 1 6 from vp_in_nI (n := 1) (N := 6) (by decide) (by decide)) dL_law_576 ?_
          refine lv_topi (fun x_229 ex_229 => ?_)
          obtain rfl : xs 1 = x_229 := Eq.symm ex_229
          refine lv_aload_n hx hb dL_law_577 rfl (lv_at hl 3 rfl) ?_
          refine lv_iload_n hx hb dL_law_578 rfl (lv_at hl 0 rfl) ?_
          refine lv_iconst (v := 2) hx hb dL_law_579 (by decide) ?_
          refine lv_iadd hx hb dL_law_580 ?_
          refine lv_topi (fun x_230 ex_230 => ?_)
          obtain rfl : 2 = x_230 := (ex_230.trans (by decide)).symm
          refine va_sld hx hb hX hbl hbA hS (show vp_in 2 6 from vp_in_nI (n := 2) (N := 6) (by decide) (by decide)) dL_law_581 ?_
          refine lv_topi (fun x_231 ex_231 => ?_)
          obtain rfl : xs 2 = x_231 := Eq.symm ex_231
          refine lv_aload_n hx hb dL_law_582 rfl (lv_at hl 3 rfl) ?_
          refine lv_iload_n hx hb dL_law_583 rfl (lv_at hl 0 rfl) ?_
          refine lv_iconst (v := 3) hx hb dL_law_584 (by decide) ?_
          refine lv_iadd hx hb dL_law_585 ?_
          refine lv_topi (fun x_232 ex_232 => ?_)
          obtain rfl : 3 = x_232 := (ex_232.trans (by decide)).symm
          refine va_sld hx hb hX hbl hbA hS (show vp_in 3 6 from vp_in_nI (n := 3) (N := 6) (by decide) (by decide)) dL_law_586 ?_
          refine lv_topi (fun x_233 ex_233 => ?_)
          obtain rfl : xs 3 = x_233 := Eq.symm ex_233
          have f_234 := va_free (wc := [(q_4, .inr (6, [.ref mst, .ref mim, .ref mkp, .ref mpw, .ref mnx, .ref mli, .int 0, .ref mil, .ref mmv, .ref mso, .ref mla, .int 0, .int 0, .ref mco])), (mst, .inl (cyI, 72, .inl fs)), (mpw, .inl (cyI, 11, .inl fp)), (mli, .inl (cyI, 59049, .inl (fun _ => (0 : Int32)))), (mil, .inl (cyZ, 59049, .inl (fun _ => (0 : Int32)))), (mmv, .inl (cyI, 59049, .inl (fun _ => (0 : Int32)))), (mso, .inl (cyI, 59049, .inl (fun _ => (0 : Int32)))), (mla, .inl (cyI, 59049, .inl (fun _ => (0 : Int32))))]) hD hS hA [11, 12, 15, 17, 18, 19, 20, 21] rfl
          refine va_calli (va_runV (As := [.int (xs 1), .int (xs 2), .int (xs 3)]) (rest := [.int (sp_all (xs 1) (xs 2) (xs 3))]) ⟨hx, hb, hml, hown, hts⟩ (kX8_all l dC dI cyI cyZ q_4 mst mim mkp mpw mnx mli mil mmv mso mla mco 0 0 0 fs h8 hs fp hp (fun _ => (0 : Int32)) (fun _ => (0 : Int32)) (fun _ => (0 : Int32)) (fun _ => (0 : Int32)) (fun _ => (0 : Int32)) (fun _ => rfl) (xs 1) (xs 2) (xs 3) _) (cwV 3 hts gv_X8_all rfl rfl rfl (by decide +kernel) ⟨Nat.le_of_ble_eq_true rfl, Nat.le_of_ble_eq_true rfl⟩) (bs_WV hB (hP.sub (ws' := [(q_4, .inr (6, [.ref mst, .ref mim, .ref mkp, .ref mpw, .ref mnx, .ref mli, .int 0, .ref mil, .ref mmv, .ref mso, .ref mla, .int 0, .int 0, .ref mco])), (mst, .inl (cyI, 72, .inl fs)), (mpw, .inl (cyI, 11, .inl fp)), (mli, .inl (cyI, 59049, .inl (fun _ => (0 : Int32)))), (mil, .inl (cyZ, 59049, .inl (fun _ => (0 : Int32)))), (mmv, .inl (cyI, 59049, .inl (fun _ => (0 : Int32)))), (mso, .inl (cyI, 59049, .inl (fun _ => (0 : Int32)))), (mla, .inl (cyI, 59049, .inl (fun _ => (0 : Int32))))]) [11, 12, 15, 17, 18, 19, 20, 21] rfl) (hD.sub (ws' := [(q_4, .inr (6, [.ref mst, .ref mim, .ref mkp, .ref mpw, .ref mnx, .ref mli, .int 0, .ref mil, .ref mmv, .ref mso, .ref mla, .int 0, .int 0, .ref mco])), (mst, .inl (cyI, 72, .inl fs)), (mpw, .inl (cyI, 11, .inl fp)), (mli, .inl (cyI, 59049, .inl (fun _ => (0 : Int32)))), (mil, .inl (cyZ, 59049, .inl (fun _ => (0 : Int32)))), (mmv, .inl (cyI, 59049, .inl (fun _ => (0 : Int32)))), (mso, .inl (cyI, 59049, .inl (fun _ => (0 : Int32)))), (mla, .inl (cyI, 59049, .inl (fun _ => (0 : Int32))))]) [11, 12, 15, 17, 18, 19, 20, 21] (by decide) rfl) 0 rfl rfl) rfl rfl hl.1 rfl (lv_room (Nat.le_of_ble_eq_true rfl)) dL_law_587 ⟨Nat.le_of_ble_eq_true rfl, Nat.le_of_ble_eq_true rfl⟩) hS (fun q _ h => f_234 q h) f_234 (fun rh_235 uh_235 t H1 locs ht hvm h_235 hB1 hz1 hk1 hS => ?_)
          obtain ⟨hP, hD⟩ := va_join (wr := [(xa4, .inl (cyI, 60, .inl (fun _ => (0 : Int32)))), (xb1, .inr (3, [.ref xb2, .ref xb3, .int 8])), (xb2, .inl (cyI, 10, .inl (fun _ => (0 : Int32)))), (xb3, .inr (2, [.ref xb4, .int 0])), (xb4, .inl (cyI, 60, .inl (fun _ => (0 : Int32)))), (xc1, .inr (3, [.ref xc2, .ref xc3, .int 8])), (xc2, .inl (cyI, 10, .inl (fun _ => (0 : Int32)))), (xc3, .inr (2, [.ref xc4, .int 0])), (xc4, .inl (cyI, 60, .inl (fun _ => (0 : Int32)))), (xlk, .inr (0, [.int 0, .int 0, .int 0, .int 0, .int 0])), (xbh, .inl (cyI, 10, .inl (fun _ => (0 : Int32)))), (mim, .inl (cyI, 144, .inl (fun _ => (0 : Int32)))), (mkp, .inl (cyZ, 2, .inl (fun _ => (0 : Int32)))), (mnx, .inl (cyI, 10, .inl (fun _ => (0 : Int32)))), (mco, .inl (cyI, 10, .inl (fun _ => (0 : Int32))))]) (w1 := []) hP hD [11, 12, 15, 17, 18, 19, 20, 21] [0, 1, 2, 3, 4, 5, 6, 7, 8, 9, 10, 13, 14, 16, 22] rfl rfl (by decide) (by decide) hk1 f_234 bs_nil bs_nilD
          generalize H1 = H at hP hS ⊢
          have hP : va_P (dC, dI) vwCl [(xa4, .inl (cyI, 60, .inl (fun _ => (0 : Int32)))), (xb1, .inr (3, [.ref xb2, .ref xb3, .int 8])), (xb2, .inl (cyI, 10, .inl (fun _ => (0 : Int32)))), (xb3, .inr (2, [.ref xb4, .int 0])), (xb4, .inl (cyI, 60, .inl (fun _ => (0 : Int32)))), (xc1, .inr (3, [.ref xc2, .ref xc3, .int 8])), (xc2, .inl (cyI, 10, .inl (fun _ => (0 : Int32)))), (xc3, .inr (2, [.ref xc4, .int 0])), (xc4, .inl (cyI, 60, .inl (fun _ => (0 : Int32)))), (xlk, .inr (0, [.int 0, .int 0, .int 0, .int 0, .int 0])), (xbh, .inl (cyI, 10, .inl (fun _ => (0 : Int32)))), (mim, .inl (cyI, 144, .inl (fun _ => (0 : Int32)))), (mkp, .inl (cyZ, 2, .inl (fun _ => (0 : Int32)))), (mnx, .inl (cyI, 10, .inl (fun _ => (0 : Int32)))), (mco, .inl (cyI, 10, .inl (fun _ => (0 : Int32))))] _ := hP
          have hD : va_D A [(xa4, .inl (cyI, 60, .inl (fun _ => (0 : Int32)))), (xb1, .inr (3, [.ref xb2, .ref xb3, .int 8])), (xb2, .inl (cyI, 10, .inl (fun _ => (0 : Int32)))), (xb3, .inr (2, [.ref xb4, .int 0])), (xb4, .inl (cyI, 60, .inl (fun _ => (0 : Int32)))), (xc1, .inr (3, [.ref xc2, .ref xc3, .int 8])), (xc2, .inl (cyI, 10, .inl (fun _ => (0 : Int32)))), (xc3, .inr (2, [.ref xc4, .int 0])), (xc4, .inl (cyI, 60, .inl (fun _ => (0 : Int32)))), (xlk, .inr (0, [.int 0, .int 0, .int 0, .int 0, .int 0])), (xbh, .inl (cyI, 10, .inl (fun _ => (0 : Int32)))), (mim, .inl (cyI, 144, .inl (fun _ => (0 : Int32)))), (mkp, .inl (cyZ, 2, .inl (fun _ => (0 : Int32)))), (mnx, .inl (cyI, 10, .inl (fun _ => (0 : Int32)))), (mco, .inl (cyI, 10, .inl (fun _ => (0 : Int32))))] := hD
          obtain rfl : (sp_all (xs 1) (xs 2) (xs 3)) = rh_235 := Eq.symm h_235
          refine lv_icmp_eq (tgt := 664) hx hb dL_law_590 (by decide) (fun c_236 => ?_) (fun c_236 => ?_)
          · skip
            refine lv_iinc (v := 6) (lv' := [(3, .int 6), (2, .ref q_4), (1, .ref q_1), (0, .ref b)]) hx hb dL_law_664 hl (k := 0) rfl (by decide) (by decide) rfl (fun ls hl => ?_)
            refine lv_goto (tgt := 18) hx hb dL_law_667 (by decide) ?_
            refine lv_iload_n hx hb dL_law_18 rfl (lv_at hl 0 rfl) ?_
            refine lv_aload_n hx hb dL_law_19 rfl (lv_at hl 3 rfl) ?_
            refine va_slen hx hb hX hbl hbA hS dL_law_20 ?_
            refine lv_topi (fun x_237 ex_237 => ?_)
            obtain rfl : 6 = x_237 := Eq.symm ex_237
            refine lv_bipush (v := 6) hx hb dL_law_21 (by decide) ?_
            refine lv_isub hx hb dL_law_23 ?_
            refine lv_topi (fun x_238 ex_238 => ?_)
            obtain rfl : 0 = x_238 := (ex_238.trans (by decide)).symm
            refine lv_icmp_gt (tgt := 670) hx hb dL_law_24 (by decide) (fun c_239 => ?_) (fun c_239 => ?_)
            · skip
              refine lv_iconst (v := 1) hx hb dL_law_670 (by decide) ?_
              refine va_forget (fun q hq => by have h9 := hS.2.2 q hq; rw [hAe] at h9; exact h9) ?_
              refine W.widen (k := 600000) (n := 7302250) (Nat.le_of_ble_eq_true rfl) (Nat.le_of_ble_eq_true rfl) ?_
              exact lw_ret hx hb hr hlocks dL_law_671
            · skip
              exact absurd c_239 (by decide)
          · skip
            exact absurd rfl c_236
        · skip
          have ew_24 : x_23 = 15 := w_24
          refine W.eq (g2 := F0 m 33 ls (.int 15 :: [])) (by rw [ew_24]) ?_
          refine lv_tableIn (off := 562) (tgt := 595) hx hb dL_law_33 (by decide) (by decide) (by decide) (by decide) ?_
          refine lv_aload_n hx hb dL_law_595 rfl (lv_at hl 2 rfl) ?_
          refine lv_aload_n hx hb dL_law_596 rfl (lv_at hl 3 rfl) ?_
          refine lv_iload_n hx hb dL_law_597 rfl (lv_at hl 0 rfl) ?_
          refine lv_iconst (v := 1) hx hb dL_law_598 (by decide) ?_
          refine lv_iadd hx hb dL_law_599 ?_
          refine lv_topi (fun x_240 ex_240 => ?_)
          obtain rfl : 1 = x_240 := (ex_240.trans (by decide)).symm
          refine va_sld hx hb hX hbl hbA hS (show vp_in 1 6 from vp_in_nI (n := 1) (N := 6) (by decide) (by decide)) dL_law_600 ?_
          refine lv_topi (fun x_241 ex_241 => ?_)
          obtain rfl : xs 1 = x_241 := Eq.symm ex_241
          have f_242 := va_free (wc := [(q_1, .inr (5, [.ref xa1, .ref xb1, .ref xc1, .ref xlk, .ref xbh, .int 0, .null])), (xa1, .inr (3, [.ref xa2, .ref xa3, .int 8])), (xa2, .inl (cyI, 10, .inl (fun _ => (0 : Int32)))), (xa3, .inr (2, [.ref xa4, .int 0])), (xa4, .inl (cyI, 60, .inl (fun _ => (0 : Int32)))), (xb1, .inr (3, [.ref xb2, .ref xb3, .int 8])), (xb2, .inl (cyI, 10, .inl (fun _ => (0 : Int32)))), (xb3, .inr (2, [.ref xb4, .int 0])), (xb4, .inl (cyI, 60, .inl (fun _ => (0 : Int32)))), (xc1, .inr (3, [.ref xc2, .ref xc3, .int 8])), (xc2, .inl (cyI, 10, .inl (fun _ => (0 : Int32)))), (xc3, .inr (2, [.ref xc4, .int 0])), (xc4, .inl (cyI, 60, .inl (fun _ => (0 : Int32))))]) hD hS hA [0, 1, 2, 3, 4, 5, 6, 7, 8, 9, 10, 11, 12] rfl
          refine va_calli (va_runV (As := [.int (xs 1)]) (rest := []) ⟨hx, hb, hml, hown, hts⟩ (kX7_image l dC dI cyI cyZ q_1 xa1 xb1 xc1 xlk xbh xa2 xa3 xa4 xb2 xb3 xb4 xc2 xc3 xc4 (fun _ => (0 : Int32)) (fun _ => (0 : Int32)) (fun _ => (0 : Int32)) (fun _ => (0 : Int32)) (fun _ => (0 : Int32)) (fun _ => (0 : Int32)) (xs 1) _) (cwV 1 hts gv_X7_image rfl rfl rfl (by decide +kernel) ⟨Nat.le_of_ble_eq_true rfl, Nat.le_of_ble_eq_true rfl⟩) (bs_WV hB (hP.sub (ws' := [(q_1, .inr (5, [.ref xa1, .ref xb1, .ref xc1, .ref xlk, .ref xbh, .int 0, .null])), (xa1, .inr (3, [.ref xa2, .ref xa3, .int 8])), (xa2, .inl (cyI, 10, .inl (fun _ => (0 : Int32)))), (xa3, .inr (2, [.ref xa4, .int 0])), (xa4, .inl (cyI, 60, .inl (fun _ => (0 : Int32)))), (xb1, .inr (3, [.ref xb2, .ref xb3, .int 8])), (xb2, .inl (cyI, 10, .inl (fun _ => (0 : Int32)))), (xb3, .inr (2, [.ref xb4, .int 0])), (xb4, .inl (cyI, 60, .inl (fun _ => (0 : Int32)))), (xc1, .inr (3, [.ref xc2, .ref xc3, .int 8])), (xc2, .inl (cyI, 10, .inl (fun _ => (0 : Int32)))), (xc3, .inr (2, [.ref xc4, .int 0])), (xc4, .inl (cyI, 60, .inl (fun _ => (0 : Int32))))]) [0, 1, 2, 3, 4, 5, 6, 7, 8, 9, 10, 11, 12] rfl) (hD.sub (ws' := [(q_1, .inr (5, [.ref xa1, .ref xb1, .ref xc1, .ref xlk, .ref xbh, .int 0, .null])), (xa1, .inr (3, [.ref xa2, .ref xa3, .int 8])), (xa2, .inl (cyI, 10, .inl (fun _ => (0 : Int32)))), (xa3, .inr (2, [.ref xa4, .int 0])), (xa4, .inl (cyI, 60, .inl (fun _ => (0 : Int32)))), (xb1, .inr (3, [.ref xb2, .ref xb3, .int 8])), (xb2, .inl (cyI, 10, .inl (fun _ => (0 : Int32)))), (xb3, .inr (2, [.ref xb4, .int 0])), (xb4, .inl (cyI, 60, .inl (fun _ => (0 : Int32)))), (xc1, .inr (3, [.ref xc2, .ref xc3, .int 8])), (xc2, .inl (cyI, 10, .inl (fun _ => (0 : Int32)))), (xc3, .inr (2, [.ref xc4, .int 0])), (xc4, .inl (cyI, 60, .inl (fun _ => (0 : Int32))))]) [0, 1, 2, 3, 4, 5, 6, 7, 8, 9, 10, 11, 12] (by decide) rfl) 0 rfl rfl) rfl rfl hl.1 rfl (lv_room (Nat.le_of_ble_eq_true rfl)) dL_law_601 ⟨Nat.le_of_ble_eq_true rfl, Nat.le_of_ble_eq_true rfl⟩) hS (fun q _ h => f_242 q h) f_242 (fun rh_243 uh_243 t H1 locs ht hvm h_243 hB1 hz1 hk1 hS => ?_)
          obtain ⟨hP, hD⟩ := va_join (wr := [(xlk, .inr (0, [.int 0, .int 0, .int 0, .int 0, .int 0])), (xbh, .inl (cyI, 10, .inl (fun _ => (0 : Int32)))), (q_4, .inr (6, [.ref mst, .ref mim, .ref mkp, .ref mpw, .ref mnx, .ref mli, .int 0, .ref mil, .ref mmv, .ref mso, .ref mla, .int 0, .int 0, .ref mco])), (mst, .inl (cyI, 72, .inl fs)), (mim, .inl (cyI, 144, .inl (fun _ => (0 : Int32)))), (mkp, .inl (cyZ, 2, .inl (fun _ => (0 : Int32)))), (mpw, .inl (cyI, 11, .inl fp)), (mnx, .inl (cyI, 10, .inl (fun _ => (0 : Int32)))), (mli, .inl (cyI, 59049, .inl (fun _ => (0 : Int32)))), (mil, .inl (cyZ, 59049, .inl (fun _ => (0 : Int32)))), (mmv, .inl (cyI, 59049, .inl (fun _ => (0 : Int32)))), (mso, .inl (cyI, 59049, .inl (fun _ => (0 : Int32)))), (mla, .inl (cyI, 59049, .inl (fun _ => (0 : Int32)))), (mco, .inl (cyI, 10, .inl (fun _ => (0 : Int32))))]) (w1 := []) hP hD [0, 1, 2, 3, 4, 5, 6, 7, 8, 9, 10, 11, 12] [13, 14, 15, 16, 17, 18, 19, 20, 21, 22, 23, 24, 25, 26] rfl rfl (by decide) (by decide) hk1 f_242 bs_nil bs_nilD
          generalize H1 = H at hP hS ⊢
          have hP : va_P (dC, dI) vwCl [(xlk, .inr (0, [.int 0, .int 0, .int 0, .int 0, .int 0])), (xbh, .inl (cyI, 10, .inl (fun _ => (0 : Int32)))), (q_4, .inr (6, [.ref mst, .ref mim, .ref mkp, .ref mpw, .ref mnx, .ref mli, .int 0, .ref mil, .ref mmv, .ref mso, .ref mla, .int 0, .int 0, .ref mco])), (mst, .inl (cyI, 72, .inl fs)), (mim, .inl (cyI, 144, .inl (fun _ => (0 : Int32)))), (mkp, .inl (cyZ, 2, .inl (fun _ => (0 : Int32)))), (mpw, .inl (cyI, 11, .inl fp)), (mnx, .inl (cyI, 10, .inl (fun _ => (0 : Int32)))), (mli, .inl (cyI, 59049, .inl (fun _ => (0 : Int32)))), (mil, .inl (cyZ, 59049, .inl (fun _ => (0 : Int32)))), (mmv, .inl (cyI, 59049, .inl (fun _ => (0 : Int32)))), (mso, .inl (cyI, 59049, .inl (fun _ => (0 : Int32)))), (mla, .inl (cyI, 59049, .inl (fun _ => (0 : Int32)))), (mco, .inl (cyI, 10, .inl (fun _ => (0 : Int32))))] _ := hP
          have hD : va_D A [(xlk, .inr (0, [.int 0, .int 0, .int 0, .int 0, .int 0])), (xbh, .inl (cyI, 10, .inl (fun _ => (0 : Int32)))), (q_4, .inr (6, [.ref mst, .ref mim, .ref mkp, .ref mpw, .ref mnx, .ref mli, .int 0, .ref mil, .ref mmv, .ref mso, .ref mla, .int 0, .int 0, .ref mco])), (mst, .inl (cyI, 72, .inl fs)), (mim, .inl (cyI, 144, .inl (fun _ => (0 : Int32)))), (mkp, .inl (cyZ, 2, .inl (fun _ => (0 : Int32)))), (mpw, .inl (cyI, 11, .inl fp)), (mnx, .inl (cyI, 10, .inl (fun _ => (0 : Int32)))), (mli, .inl (cyI, 59049, .inl (fun _ => (0 : Int32)))), (mil, .inl (cyZ, 59049, .inl (fun _ => (0 : Int32)))), (mmv, .inl (cyI, 59049, .inl (fun _ => (0 : Int32)))), (mso, .inl (cyI, 59049, .inl (fun _ => (0 : Int32)))), (mla, .inl (cyI, 59049, .inl (fun _ => (0 : Int32)))), (mco, .inl (cyI, 10, .inl (fun _ => (0 : Int32))))] := hD
          obtain rfl : (sp_image (xs 1)) = rh_243 := Eq.symm h_243
          refine lv_aload_n hx hb dL_law_604 rfl (lv_at hl 1 rfl) ?_
          refine lv_aload_n hx hb dL_law_605 rfl (lv_at hl 3 rfl) ?_
          refine lv_iload_n hx hb dL_law_606 rfl (lv_at hl 0 rfl) ?_
          refine lv_iconst (v := 1) hx hb dL_law_607 (by decide) ?_
          refine lv_iadd hx hb dL_law_608 ?_
          refine lv_topi (fun x_244 ex_244 => ?_)
          obtain rfl : 1 = x_244 := (ex_244.trans (by decide)).symm
          refine va_sld hx hb hX hbl hbA hS (show vp_in 1 6 from vp_in_nI (n := 1) (N := 6) (by decide) (by decide)) dL_law_609 ?_
          refine lv_topi (fun x_245 ex_245 => ?_)
          obtain rfl : xs 1 = x_245 := Eq.symm ex_245
          have f_246 := va_free (wc := [(q_4, .inr (6, [.ref mst, .ref mim, .ref mkp, .ref mpw, .ref mnx, .ref mli, .int 0, .ref mil, .ref mmv, .ref mso, .ref mla, .int 0, .int 0, .ref mco])), (mst, .inl (cyI, 72, .inl fs)), (mim, .inl (cyI, 144, .inl (fun _ => (0 : Int32)))), (mkp, .inl (cyZ, 2, .inl (fun _ => (0 : Int32))))]) hD hS hA [2, 3, 4, 5] rfl
          refine va_calli (va_runV (As := [.int (xs 1)]) (rest := [.int (sp_image (xs 1))]) ⟨hx, hb, hml, hown, hts⟩ (kX8_image l dC dI cyI cyZ q_4 mst mim mkp mpw mnx mli mil mmv mso mla mco 0 0 0 fs (fun _ => (0 : Int32)) (fun _ => (0 : Int32)) (xs 1) _) (cwV 1 hts gv_X8_image rfl rfl rfl (by decide +kernel) ⟨Nat.le_of_ble_eq_true rfl, Nat.le_of_ble_eq_true rfl⟩) (bs_WV hB (hP.sub (ws' := [(q_4, .inr (6, [.ref mst, .ref mim, .ref mkp, .ref mpw, .ref mnx, .ref mli, .int 0, .ref mil, .ref mmv, .ref mso, .ref mla, .int 0, .int 0, .ref mco])), (mst, .inl (cyI, 72, .inl fs)), (mim, .inl (cyI, 144, .inl (fun _ => (0 : Int32)))), (mkp, .inl (cyZ, 2, .inl (fun _ => (0 : Int32))))]) [2, 3, 4, 5] rfl) (hD.sub (ws' := [(q_4, .inr (6, [.ref mst, .ref mim, .ref mkp, .ref mpw, .ref mnx, .ref mli, .int 0, .ref mil, .ref mmv, .ref mso, .ref mla, .int 0, .int 0, .ref mco])), (mst, .inl (cyI, 72, .inl fs)), (mim, .inl (cyI, 144, .inl (fun _ => (0 : Int32)))), (mkp, .inl (cyZ, 2, .inl (fun _ => (0 : Int32))))]) [2, 3, 4, 5] (by decide) rfl) 0 rfl rfl) rfl rfl hl.1 rfl (lv_room (Nat.le_of_ble_eq_true rfl)) dL_law_610 ⟨Nat.le_of_ble_eq_true rfl, Nat.le_of_ble_eq_true rfl⟩) hS (fun q _ h => f_246 q h) f_246 (fun rh_247 uh_247 t H1 locs ht hvm h_247 hB1 hz1 hk1 hS => ?_)
          obtain ⟨hP, hD⟩ := va_join (wr := [(xlk, .inr (0, [.int 0, .int 0, .int 0, .int 0, .int 0])), (xbh, .inl (cyI, 10, .inl (fun _ => (0 : Int32)))), (mpw, .inl (cyI, 11, .inl fp)), (mnx, .inl (cyI, 10, .inl (fun _ => (0 : Int32)))), (mli, .inl (cyI, 59049, .inl (fun _ => (0 : Int32)))), (mil, .inl (cyZ, 59049, .inl (fun _ => (0 : Int32)))), (mmv, .inl (cyI, 59049, .inl (fun _ => (0 : Int32)))), (mso, .inl (cyI, 59049, .inl (fun _ => (0 : Int32)))), (mla, .inl (cyI, 59049, .inl (fun _ => (0 : Int32)))), (mco, .inl (cyI, 10, .inl (fun _ => (0 : Int32))))]) (w1 := []) hP hD [2, 3, 4, 5] [0, 1, 6, 7, 8, 9, 10, 11, 12, 13] rfl rfl (by decide) (by decide) hk1 f_246 bs_nil bs_nilD
          generalize H1 = H at hP hS ⊢
          have hP : va_P (dC, dI) vwCl [(xlk, .inr (0, [.int 0, .int 0, .int 0, .int 0, .int 0])), (xbh, .inl (cyI, 10, .inl (fun _ => (0 : Int32)))), (mpw, .inl (cyI, 11, .inl fp)), (mnx, .inl (cyI, 10, .inl (fun _ => (0 : Int32)))), (mli, .inl (cyI, 59049, .inl (fun _ => (0 : Int32)))), (mil, .inl (cyZ, 59049, .inl (fun _ => (0 : Int32)))), (mmv, .inl (cyI, 59049, .inl (fun _ => (0 : Int32)))), (mso, .inl (cyI, 59049, .inl (fun _ => (0 : Int32)))), (mla, .inl (cyI, 59049, .inl (fun _ => (0 : Int32)))), (mco, .inl (cyI, 10, .inl (fun _ => (0 : Int32))))] _ := hP
          have hD : va_D A [(xlk, .inr (0, [.int 0, .int 0, .int 0, .int 0, .int 0])), (xbh, .inl (cyI, 10, .inl (fun _ => (0 : Int32)))), (mpw, .inl (cyI, 11, .inl fp)), (mnx, .inl (cyI, 10, .inl (fun _ => (0 : Int32)))), (mli, .inl (cyI, 59049, .inl (fun _ => (0 : Int32)))), (mil, .inl (cyZ, 59049, .inl (fun _ => (0 : Int32)))), (mmv, .inl (cyI, 59049, .inl (fun _ => (0 : Int32)))), (mso, .inl (cyI, 59049, .inl (fun _ => (0 : Int32)))), (mla, .inl (cyI, 59049, .inl (fun _ => (0 : Int32)))), (mco, .inl (cyI, 10, .inl (fun _ => (0 : Int32))))] := hD
          obtain rfl : (sp_image (xs 1)) = rh_247 := Eq.symm h_247
          refine lv_icmp_eq (tgt := 664) hx hb dL_law_613 (by decide) (fun c_248 => ?_) (fun c_248 => ?_)
          · skip
            refine lv_iinc (v := 6) (lv' := [(3, .int 6), (2, .ref q_4), (1, .ref q_1), (0, .ref b)]) hx hb dL_law_664 hl (k := 0) rfl (by decide) (by decide) rfl (fun ls hl => ?_)
            refine lv_goto (tgt := 18) hx hb dL_law_667 (by decide) ?_
            refine lv_iload_n hx hb dL_law_18 rfl (lv_at hl 0 rfl) ?_
            refine lv_aload_n hx hb dL_law_19 rfl (lv_at hl 3 rfl) ?_
            refine va_slen hx hb hX hbl hbA hS dL_law_20 ?_
            refine lv_topi (fun x_249 ex_249 => ?_)
            obtain rfl : 6 = x_249 := Eq.symm ex_249
            refine lv_bipush (v := 6) hx hb dL_law_21 (by decide) ?_
            refine lv_isub hx hb dL_law_23 ?_
            refine lv_topi (fun x_250 ex_250 => ?_)
            obtain rfl : 0 = x_250 := (ex_250.trans (by decide)).symm
            refine lv_icmp_gt (tgt := 670) hx hb dL_law_24 (by decide) (fun c_251 => ?_) (fun c_251 => ?_)
            · skip
              refine lv_iconst (v := 1) hx hb dL_law_670 (by decide) ?_
              refine va_forget (fun q hq => by have h9 := hS.2.2 q hq; rw [hAe] at h9; exact h9) ?_
              refine W.widen (k := 600000) (n := 7302250) (Nat.le_of_ble_eq_true rfl) (Nat.le_of_ble_eq_true rfl) ?_
              exact lw_ret hx hb hr hlocks dL_law_671
            · skip
              exact absurd c_251 (by decide)
          · skip
            exact absurd rfl c_248
        · skip
          have ew_24 : x_23 = 16 := w_24
          refine W.eq (g2 := F0 m 33 ls (.int 16 :: [])) (by rw [ew_24]) ?_
          refine lv_tableIn (off := 585) (tgt := 618) hx hb dL_law_33 (by decide) (by decide) (by decide) (by decide) ?_
          refine lv_aload_n hx hb dL_law_618 rfl (lv_at hl 2 rfl) ?_
          refine lv_aload_n hx hb dL_law_619 rfl (lv_at hl 3 rfl) ?_
          refine lv_iload_n hx hb dL_law_620 rfl (lv_at hl 0 rfl) ?_
          refine lv_iconst (v := 1) hx hb dL_law_621 (by decide) ?_
          refine lv_iadd hx hb dL_law_622 ?_
          refine lv_topi (fun x_252 ex_252 => ?_)
          obtain rfl : 1 = x_252 := (ex_252.trans (by decide)).symm
          refine va_sld hx hb hX hbl hbA hS (show vp_in 1 6 from vp_in_nI (n := 1) (N := 6) (by decide) (by decide)) dL_law_623 ?_
          refine lv_topi (fun x_253 ex_253 => ?_)
          obtain rfl : xs 1 = x_253 := Eq.symm ex_253
          refine vp_callSi (va_Run.run (va_runV (As := [.int (xs 1)]) (rest := []) ⟨hx, hb, hml, hown, hts⟩ (kX7_restore l dC dI cyI cyZ q_1 xa1 xb1 xc1 xlk xbh xa2 xa3 xa4 (fun _ => (0 : Int32)) (fun _ => rfl) (xs 1)) (cwV 1 hts gv_X7_restore rfl rfl rfl (by decide +kernel) ⟨Nat.le_of_ble_eq_true rfl, Nat.le_of_ble_eq_true rfl⟩) (bs_RV hB (hP.sub (ws' := [(q_1, .inr (5, [.ref xa1, .ref xb1, .ref xc1, .ref xlk, .ref xbh, .int 0, .null])), (xa1, .inr (3, [.ref xa2, .ref xa3, .int 8])), (xa2, .inl (cyI, 10, .inl (fun _ => (0 : Int32)))), (xa3, .inr (2, [.ref xa4, .int 0]))]) [0, 1, 2, 3] rfl) 0 rfl rfl) rfl rfl hl.1 rfl (lv_room (Nat.le_of_ble_eq_true rfl)) dL_law_624 ⟨Nat.le_of_ble_eq_true rfl, Nat.le_of_ble_eq_true rfl⟩)) (fun r_254 hr_254 => ?_)
          obtain rfl : (sp_restore (xs 1)) = r_254 := Eq.symm hr_254
          refine lv_aload_n hx hb dL_law_627 rfl (lv_at hl 1 rfl) ?_
          refine lv_aload_n hx hb dL_law_628 rfl (lv_at hl 3 rfl) ?_
          refine lv_iload_n hx hb dL_law_629 rfl (lv_at hl 0 rfl) ?_
          refine lv_iconst (v := 1) hx hb dL_law_630 (by decide) ?_
          refine lv_iadd hx hb dL_law_631 ?_
          refine lv_topi (fun x_255 ex_255 => ?_)
          obtain rfl : 1 = x_255 := (ex_255.trans (by decide)).symm
          refine va_sld hx hb hX hbl hbA hS (show vp_in 1 6 from vp_in_nI (n := 1) (N := 6) (by decide) (by decide)) dL_law_632 ?_
          refine lv_topi (fun x_256 ex_256 => ?_)
          obtain rfl : xs 1 = x_256 := Eq.symm ex_256
          refine vp_callSi (va_Run.run (va_runV (As := [.int (xs 1)]) (rest := [.int (sp_restore (xs 1))]) ⟨hx, hb, hml, hown, hts⟩ (kX8_restore l dC dI cyI cyZ q_4 mst mim mkp mpw mnx mli mil mmv mso mla mco 0 0 0 fs h8 hs fp hp (fun _ => (0 : Int32)) (fun _ => rfl) (xs 1)) (cwV 1 hts gv_X8_restore rfl rfl rfl (by decide +kernel) ⟨Nat.le_of_ble_eq_true rfl, Nat.le_of_ble_eq_true rfl⟩) (bs_RV hB (hP.sub (ws' := [(q_4, .inr (6, [.ref mst, .ref mim, .ref mkp, .ref mpw, .ref mnx, .ref mli, .int 0, .ref mil, .ref mmv, .ref mso, .ref mla, .int 0, .int 0, .ref mco])), (mst, .inl (cyI, 72, .inl fs)), (mpw, .inl (cyI, 11, .inl fp)), (mkp, .inl (cyZ, 2, .inl (fun _ => (0 : Int32))))]) [15, 16, 19, 18] rfl) 0 rfl rfl) rfl rfl hl.1 rfl (lv_room (Nat.le_of_ble_eq_true rfl)) dL_law_633 ⟨Nat.le_of_ble_eq_true rfl, Nat.le_of_ble_eq_true rfl⟩)) (fun r_257 hr_257 => ?_)
          obtain rfl : (sp_restore (xs 1)) = r_257 := Eq.symm hr_257
          refine lv_icmp_eq (tgt := 664) hx hb dL_law_636 (by decide) (fun c_258 => ?_) (fun c_258 => ?_)
          · skip
            refine lv_iinc (v := 6) (lv' := [(3, .int 6), (2, .ref q_4), (1, .ref q_1), (0, .ref b)]) hx hb dL_law_664 hl (k := 0) rfl (by decide) (by decide) rfl (fun ls hl => ?_)
            refine lv_goto (tgt := 18) hx hb dL_law_667 (by decide) ?_
            refine lv_iload_n hx hb dL_law_18 rfl (lv_at hl 0 rfl) ?_
            refine lv_aload_n hx hb dL_law_19 rfl (lv_at hl 3 rfl) ?_
            refine va_slen hx hb hX hbl hbA hS dL_law_20 ?_
            refine lv_topi (fun x_259 ex_259 => ?_)
            obtain rfl : 6 = x_259 := Eq.symm ex_259
            refine lv_bipush (v := 6) hx hb dL_law_21 (by decide) ?_
            refine lv_isub hx hb dL_law_23 ?_
            refine lv_topi (fun x_260 ex_260 => ?_)
            obtain rfl : 0 = x_260 := (ex_260.trans (by decide)).symm
            refine lv_icmp_gt (tgt := 670) hx hb dL_law_24 (by decide) (fun c_261 => ?_) (fun c_261 => ?_)
            · skip
              refine lv_iconst (v := 1) hx hb dL_law_670 (by decide) ?_
              refine va_forget (fun q hq => by have h9 := hS.2.2 q hq; rw [hAe] at h9; exact h9) ?_
              refine W.widen (k := 600000) (n := 7302250) (Nat.le_of_ble_eq_true rfl) (Nat.le_of_ble_eq_true rfl) ?_
              exact lw_ret hx hb hr hlocks dL_law_671
            · skip
              exact absurd c_261 (by decide)
          · skip
            exact absurd rfl c_258
        · skip
          have ew_24 : x_23 = 17 := w_24
          refine W.eq (g2 := F0 m 33 ls (.int 17 :: [])) (by rw [ew_24]) ?_
          refine lv_tableIn (off := 608) (tgt := 641) hx hb dL_law_33 (by decide) (by decide) (by decide) (by decide) ?_
          refine lv_aload_n hx hb dL_law_641 rfl (lv_at hl 2 rfl) ?_
          refine lv_aload_n hx hb dL_law_642 rfl (lv_at hl 3 rfl) ?_
          refine lv_iload_n hx hb dL_law_643 rfl (lv_at hl 0 rfl) ?_
          refine lv_iconst (v := 1) hx hb dL_law_644 (by decide) ?_
          refine lv_iadd hx hb dL_law_645 ?_
          refine lv_topi (fun x_262 ex_262 => ?_)
          obtain rfl : 1 = x_262 := (ex_262.trans (by decide)).symm
          refine va_sld hx hb hX hbl hbA hS (show vp_in 1 6 from vp_in_nI (n := 1) (N := 6) (by decide) (by decide)) dL_law_646 ?_
          refine lv_topi (fun x_263 ex_263 => ?_)
          obtain rfl : xs 1 = x_263 := Eq.symm ex_263
          refine vp_callSi (va_Run.run (va_runV (As := [.int (xs 1)]) (rest := []) ⟨hx, hb, hml, hown, hts⟩ (kX7_count l dC dI cyI cyZ q_1 xa1 xb1 xc1 xlk xbh xa2 xa3 xa4 (fun _ => (0 : Int32)) (fun _ => rfl) (xs 1)) (cwV 1 hts gv_X7_count rfl rfl rfl (by decide +kernel) ⟨Nat.le_of_ble_eq_true rfl, Nat.le_of_ble_eq_true rfl⟩) (bs_RV hB (hP.sub (ws' := [(q_1, .inr (5, [.ref xa1, .ref xb1, .ref xc1, .ref xlk, .ref xbh, .int 0, .null])), (xa1, .inr (3, [.ref xa2, .ref xa3, .int 8])), (xa2, .inl (cyI, 10, .inl (fun _ => (0 : Int32)))), (xa3, .inr (2, [.ref xa4, .int 0]))]) [0, 1, 2, 3] rfl) 0 rfl rfl) rfl rfl hl.1 rfl (lv_room (Nat.le_of_ble_eq_true rfl)) dL_law_647 ⟨Nat.le_of_ble_eq_true rfl, Nat.le_of_ble_eq_true rfl⟩)) (fun r_264 hr_264 => ?_)
          obtain rfl : (sp_count (xs 1)) = r_264 := Eq.symm hr_264
          refine lv_aload_n hx hb dL_law_650 rfl (lv_at hl 1 rfl) ?_
          refine lv_aload_n hx hb dL_law_651 rfl (lv_at hl 3 rfl) ?_
          refine lv_iload_n hx hb dL_law_652 rfl (lv_at hl 0 rfl) ?_
          refine lv_iconst (v := 1) hx hb dL_law_653 (by decide) ?_
          refine lv_iadd hx hb dL_law_654 ?_
          refine lv_topi (fun x_265 ex_265 => ?_)
          obtain rfl : 1 = x_265 := (ex_265.trans (by decide)).symm
          refine va_sld hx hb hX hbl hbA hS (show vp_in 1 6 from vp_in_nI (n := 1) (N := 6) (by decide) (by decide)) dL_law_655 ?_
          refine lv_topi (fun x_266 ex_266 => ?_)
          obtain rfl : xs 1 = x_266 := Eq.symm ex_266
          refine vp_callSi (va_Run.run (va_runV (As := [.int (xs 1)]) (rest := [.int (sp_count (xs 1))]) ⟨hx, hb, hml, hown, hts⟩ (kX8_count l dC dI cyI cyZ q_4 mst mim mkp mpw mnx mli mil mmv mso mla mco 0 0 0 fs h8 hs fp hp (fun _ => (0 : Int32)) (fun _ => rfl) (xs 1)) (cwV 1 hts gv_X8_count rfl rfl rfl (by decide +kernel) ⟨Nat.le_of_ble_eq_true rfl, Nat.le_of_ble_eq_true rfl⟩) (bs_RV hB (hP.sub (ws' := [(q_4, .inr (6, [.ref mst, .ref mim, .ref mkp, .ref mpw, .ref mnx, .ref mli, .int 0, .ref mil, .ref mmv, .ref mso, .ref mla, .int 0, .int 0, .ref mco])), (mst, .inl (cyI, 72, .inl fs)), (mpw, .inl (cyI, 11, .inl fp)), (mkp, .inl (cyZ, 2, .inl (fun _ => (0 : Int32))))]) [15, 16, 19, 18] rfl) 0 rfl rfl) rfl rfl hl.1 rfl (lv_room (Nat.le_of_ble_eq_true rfl)) dL_law_656 ⟨Nat.le_of_ble_eq_true rfl, Nat.le_of_ble_eq_true rfl⟩)) (fun r_267 hr_267 => ?_)
          obtain rfl : (sp_count (xs 1)) = r_267 := Eq.symm hr_267
          refine lv_icmp_eq (tgt := 664) hx hb dL_law_659 (by decide) (fun c_268 => ?_) (fun c_268 => ?_)
          · skip
            refine lv_iinc (v := 6) (lv' := [(3, .int 6), (2, .ref q_4), (1, .ref q_1), (0, .ref b)]) hx hb dL_law_664 hl (k := 0) rfl (by decide) (by decide) rfl (fun ls hl => ?_)
            refine lv_goto (tgt := 18) hx hb dL_law_667 (by decide) ?_
            refine lv_iload_n hx hb dL_law_18 rfl (lv_at hl 0 rfl) ?_
            refine lv_aload_n hx hb dL_law_19 rfl (lv_at hl 3 rfl) ?_
            refine va_slen hx hb hX hbl hbA hS dL_law_20 ?_
            refine lv_topi (fun x_269 ex_269 => ?_)
            obtain rfl : 6 = x_269 := Eq.symm ex_269
            refine lv_bipush (v := 6) hx hb dL_law_21 (by decide) ?_
            refine lv_isub hx hb dL_law_23 ?_
            refine lv_topi (fun x_270 ex_270 => ?_)
            obtain rfl : 0 = x_270 := (ex_270.trans (by decide)).symm
            refine lv_icmp_gt (tgt := 670) hx hb dL_law_24 (by decide) (fun c_271 => ?_) (fun c_271 => ?_)
            · skip
              refine lv_iconst (v := 1) hx hb dL_law_670 (by decide) ?_
              refine va_forget (fun q hq => by have h9 := hS.2.2 q hq; rw [hAe] at h9; exact h9) ?_
              refine W.widen (k := 600000) (n := 7302250) (Nat.le_of_ble_eq_true rfl) (Nat.le_of_ble_eq_true rfl) ?_
              exact lw_ret hx hb hr hlocks dL_law_671
            · skip
              exact absurd c_271 (by decide)
          · skip
            exact absurd rfl c_268
