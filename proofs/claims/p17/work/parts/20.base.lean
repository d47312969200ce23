/-! nest words: they stand in a contract's start, since a word list can't hold them -/
def nsL : List Cond := [.methodLinkNest RX7 9 yX4_init "RingMeets", .methodLinkNest RX4 17 yX3_init "RingMeets", .fieldLinkNest RX7 122 "RingMeets$Rules" "size" "I" "RingMeets", .fieldLinkNest RX7 100 "RingMeets$Scene" "rules" "LRingMeets$Rules;" "RingMeets", .fieldLinkNest RX7 33 "RingMeets$Scene" "cells" "I" "RingMeets", .methodLinkNest RX7 24 yX1_init "RingMeets", .fieldLinkNest RX7 132 "RingMeets$Look" "side" "I" "RingMeets", .fieldLinkNest RX2 42 "RingMeets$Look" "rule" "I" "RingMeets", .fieldLinkNest RX7 139 "RingMeets$Look" "rule" "I" "RingMeets", .fieldLinkNest RX2 45 "RingMeets$Look" "done" "I" "RingMeets", .fieldLinkNest RX7 142 "RingMeets$Look" "done" "I" "RingMeets", .fieldLinkNest RX7 145 "RingMeets$Look" "goal" "I" "RingMeets", .fieldLinkNest RX7 135 "RingMeets$Look" "even" "Z" "RingMeets", .methodLinkNest RX6 11 yX2_init "RingMeets", .methodLinkNest RX2 11 yX1_init "RingMeets", .fieldLinkNest RX6 115 "RingMeets$Moves" "rulesUsed" "I" "RingMeets", .fieldLinkNest RX7 169 "RingMeets$Walks" "size" "I" "RingMeets", .fieldLinkNest RX7 170 "RingMeets$Walks" "stuck" "I" "RingMeets", .fieldLinkNest RX7 176 "RingMeets$Walks" "rulesUsed" "I" "RingMeets"]
def ns_W (U : State) : Prop := ∀ w ∈ nsL, va_Nw w U
theorem ns_kind : ∀ w ∈ nsL, (∃ a i b n d h, w = Cond.fieldLinkNest a i b n d h) ∨ (∃ a i x h, w = Cond.methodLinkNest a i x h) := by
  intro w hw
  simp only [nsL, List.mem_cons, List.not_mem_nil, or_false] at hw
  rcases hw with rfl | rfl | rfl | rfl | rfl | rfl | rfl | rfl | rfl | rfl | rfl | rfl | rfl | rfl | rfl | rfl | rfl | rfl | rfl <;> first | exact Or.inl ⟨_, _, _, _, _, _, rfl⟩ | exact Or.inr ⟨_, _, _, _, rfl⟩
theorem ns_W.warm {s U : State} (hW : s.WarmedH U.vm) (h : ns_W s) : ns_W U := by
  intro w hw
  have h1 := h w hw
  rcases ns_kind w hw with ⟨a, i, b, n, d, q, rfl⟩ | ⟨a, i, x, q, rfl⟩
  · exact va_Nw.warmF hW h1
  · exact va_Nw.warmM hW h1
theorem ns_W.same {u U : State} (hv : u.vm = U.vm) (h : ns_W u) : ns_W U := by
  intro w hw
  have h1 := h w hw
  rcases ns_kind w hw with ⟨a, i, b, n, d, q, rfl⟩ | ⟨a, i, x, q, rfl⟩
  · exact va_Nw.same rfl hv h1
  · exact va_Nw.same rfl hv h1
theorem ns_W.at {s : State} (h : ns_W s) (k : Nat) {w : Cond} (hk : nsL[k]? = some w) : va_Nw w s := h w (List.mem_of_getElem? hk)
theorem ns_W.fld {s : State} {args : Array Value} (h : ns_W s) (k : Nat) {a : String} {i : Nat} {b n d q : String} (hk : nsL[k]? = some (.fieldLinkNest a i b n d q)) : (Cond.fieldLinkNest a i b n d q).before args s = true := va_Nw.use rfl (h.at k hk)
/-- the tables' side of a world: the classes, the two kinds of rows, the nest words -/
def bs_K (dC : Nat → ClassId) (dI : Nat → Nat → Nat) (cyI cyZ : ClassId) (U : State) : Prop := va_K (dC, dI) vwCl [(cyI, .int), (cyZ, .boolean)] U ∧ ns_W U
theorem bs_K.warm {dC : Nat → ClassId} {dI : Nat → Nat → Nat} {cyI cyZ : ClassId} {s U : State} (hW : s.WarmedH U.vm) (h : bs_K dC dI cyI cyZ s) : bs_K dC dI cyI cyZ U := ⟨va_K.moved hW.alike h.1, h.2.warm hW⟩
theorem bs_K.calling {dC : Nat → ClassId} {dI : Nat → Nat → Nat} {cyI cyZ : ClassId} {U : State} {g : JFrame} {mk : MethodId} {a : Array Value} (h : bs_K dC dI cyI cyZ U) : bs_K dC dI cyI cyZ (U.calling g mk a) := ⟨va_K.moved (u := U) (U := U.calling g mk a) (Vm.Alike.refl U.vm) h.1, h.2.same (u := U) (U := U.calling g mk a) rfl⟩
/-- the start of a method that only reads -/
def bs_R (dC : Nat → ClassId) (dI : Nat → Nat → Nat) (cyI cyZ : ClassId) (av : List Value) (ws : va_W) : Array Value → State → Prop := va_Pc av (fun U => bs_K dC dI cyI cyZ U ∧ va_P (dC, dI) vwCl ws U.heap)
/-- the start of a method that writes or makes cells -/
def bs_W (dC : Nat → ClassId) (dI : Nat → Nat → Nat) (cyI cyZ : ClassId) (av : List Value) (ws : va_W) (sz : Nat) : Array Value → State → Prop := va_Pc av (fun U => U.heap.size = sz ∧ bs_K dC dI cyI cyZ U ∧ va_P (dC, dI) vwCl ws U.heap ∧ va_D (fun _ => True) ws)
theorem bs_R.blind {dC : Nat → ClassId} {dI : Nat → Nat → Nat} {cyI cyZ : ClassId} {av : List Value} {ws : va_W} : FrameBlind (bs_R dC dI cyI cyZ av ws) := fun _ _ _ _ q => ⟨q.1, q.2.1.calling, q.2.2⟩
theorem bs_W.blind {dC : Nat → ClassId} {dI : Nat → Nat → Nat} {cyI cyZ : ClassId} {av : List Value} {ws : va_W} {sz : Nat} : FrameBlind (bs_W dC dI cyI cyZ av ws sz) := fun _ _ _ _ q => ⟨q.1, q.2.1, q.2.2.1.calling, q.2.2.2⟩
theorem bs_RS {dC : Nat → ClassId} {dI : Nat → Nat → Nat} {cyI cyZ : ClassId} {s : State} {H : Heap} {As : List Value} {ws : va_W} (hB : bs_K dC dI cyI cyZ s) (hP : va_P (dC, dI) vwCl ws H) : PreS s H (bs_R dC dI cyI cyZ As ws) As := ⟨bs_R.blind, fun U hU hW => ⟨rfl, hB.warm hW, by rw [hU]; exact hP⟩⟩
theorem bs_RV {dC : Nat → ClassId} {dI : Nat → Nat → Nat} {cyI cyZ : ClassId} {s : State} {H : Heap} {As : List Value} {ws : va_W} {b ci : Nat} {q : vw_C} {fs : List Value} (hB : bs_K dC dI cyI cyZ s) (hP : va_P (dC, dI) vwCl ws H) (q0 : Nat) (hc : vwCl[ci]? = some q) (he : ws[q0]? = some (b, .inr (ci, fs))) : PreV s H q.1 b (bs_R dC dI cyI cyZ (.ref b :: As) ws) As := ⟨bs_R.blind, va_recv hB.1 hP hc he, fun U hU hW => ⟨rfl, hB.warm hW, by rw [hU]; exact hP⟩⟩
theorem bs_WS {dC : Nat → ClassId} {dI : Nat → Nat → Nat} {cyI cyZ : ClassId} {s : State} {H : Heap} {As : List Value} {ws : va_W} {A : Nat → Prop} (hB : bs_K dC dI cyI cyZ s) (hP : va_P (dC, dI) vwCl ws H) (hD : va_D A ws) : PreS s H (bs_W dC dI cyI cyZ As ws H.size) As := ⟨bs_W.blind, fun U hU hW => ⟨rfl, by rw [hU], hB.warm hW, by rw [hU]; exact hP, hD.weaken (fun _ _ _ _ => trivial)⟩⟩
theorem bs_WV {dC : Nat → ClassId} {dI : Nat → Nat → Nat} {cyI cyZ : ClassId} {s : State} {H : Heap} {As : List Value} {ws : va_W} {A : Nat → Prop} {b ci : Nat} {q : vw_C} {fs : List Value} (hB : bs_K dC dI cyI cyZ s) (hP : va_P (dC, dI) vwCl ws H) (hD : va_D A ws) (q0 : Nat) (hc : vwCl[ci]? = some q) (he : ws[q0]? = some (b, .inr (ci, fs))) : PreV s H q.1 b (bs_W dC dI cyI cyZ (.ref b :: As) ws H.size) As := ⟨bs_W.blind, va_recv hB.1 hP hc he, fun U hU hW => ⟨rfl, by rw [hU], hB.warm hW, by rw [hU]; exact hP, hD.weaken (fun _ _ _ _ => trivial)⟩⟩
/-- the world behind a method that writes -/
def bs_E (dC : Nat → ClassId) (dI : Nat → Nat → Nat) (A : Nat → Prop) (ws : va_W) (t : State) : Prop := va_P (dC, dI) vwCl ws t.heap ∧ va_D A ws
theorem bs_nil {dC : Nat → ClassId} {dI : Nat → Nat → Nat} {H : Heap} : va_P (dC, dI) vwCl [] H := fun k q h => by simp at h
theorem bs_nilD {A : Nat → Prop} : va_D A [] := ⟨fun i j p q h => by simp at h, fun k q h => by simp at h⟩
/-- one row class of a kind: a new row's class is the known one -/
theorem bs_same {s : State} {a b : ClassId} {ty : FieldType} (hty : ty = .int ∨ ty = .boolean) (h1 : va_RA s a ty) (h2 : va_RA s b ty) : a = b := by
  rcases hty with rfl | rfl
  · exact Option.some.inj (h1.symm.trans h2)
  · exact Option.some.inj (h1.symm.trans h2)
theorem bs_vI {cA : ClassId} {N : Nat} : vp_cell cA (N, .inl (fun _ => (0 : Int32))) = arrV cA N (fun _ => defaultValue .int) := rfl
theorem bs_vZ {cA : ClassId} {N : Nat} : vp_cell cA (N, .inl (fun _ => (0 : Int32))) = arrV cA N (fun _ => defaultValue .boolean) := rfl
section BSN
variable {p : Program} {l : Launch} {e : Env} {R : Room} {s : State} {m : MethodId} {args : Array Value} {below : List Frame} {meth : Method} {c : Code} {H H0 : Heap} {locs : List Loc} {cells slots : Nat} {Q : State → Prop} {A : Nat → Prop}
variable {cc : ByteArray} {pc : Nat} {ls : Array Slot} {rest : List Value} {dC : Nat → ClassId} {dI : Nat → Nat → Nat} {cyI cyZ : ClassId} {ws : va_W}
theorem bs_newI (hexec : p.tables.exec = Jvm.exec) (hb : c.code = cc) (harr : (Cond.arrayClass .int).before args s = true) (hB : bs_K dC dI cyI cyZ s) (hP : va_P (dC, dI) vwCl ws H) (hD : va_D A ws) (hS : va_S A H0 H locs) (hA : ∀ q, H0.size ≤ q → A q)
    {n : Int32} (N : Nat) (hn : ¬ n < 0) (hN : n.toNatClampNeg = N) (hbytes : N * componentBytes .int ≤ 536870912) (hcells : cells + 1 ≤ R.cells) (hslots : slots + N ≤ R.slots) (hdg : decode cc pc = .ok (.newarray .int, 2))
    (kk : ∀ (q : Nat) (H1 : Heap), va_P (dC, dI) vwCl (ws ++ [(q, .inl (cyI, N, .inl (fun _ => (0 : Int32))))]) H1 → va_D A (ws ++ [(q, .inl (cyI, N, .inl (fun _ => (0 : Int32))))]) → va_S A H0 H1 locs →
      W p l e R s m args below meth c H1 locs (cells + 1) (slots + N) Q (F0 m (pc + 2) ls (.ref q :: rest))) : W p l e R s m args below meth c H locs cells slots Q (F0 m pc ls (.int n :: rest)) := by
  refine va_newa (atype := .int) (ty := .int) (a0 := (N, .inl (fun _ => (0 : Int32)))) hexec hb harr rfl hB.1 hP hD hS hA (fun cA => bs_vI) hn hN hbytes hcells hslots hdg (fun q cA H1 hK1 hP1 hD1 hS1 => ?_)
  have h1 := (hK1.2 2 (cA, .int) rfl).2
  have h2 := (hB.1.2 0 (cyI, .int) rfl).2
  have h3 : cA = cyI := bs_same (Or.inl rfl) h1 h2
  subst h3
  exact kk q H1 hP1 hD1 hS1
theorem bs_newZ (hexec : p.tables.exec = Jvm.exec) (hb : c.code = cc) (harr : (Cond.arrayClass .boolean).before args s = true) (hB : bs_K dC dI cyI cyZ s) (hP : va_P (dC, dI) vwCl ws H) (hD : va_D A ws) (hS : va_S A H0 H locs) (hA : ∀ q, H0.size ≤ q → A q)
    {n : Int32} (N : Nat) (hn : ¬ n < 0) (hN : n.toNatClampNeg = N) (hbytes : N * componentBytes .boolean ≤ 536870912) (hcells : cells + 1 ≤ R.cells) (hslots : slots + N ≤ R.slots) (hdg : decode cc pc = .ok (.newarray .boolean, 2))
    (kk : ∀ (q : Nat) (H1 : Heap), va_P (dC, dI) vwCl (ws ++ [(q, .inl (cyZ, N, .inl (fun _ => (0 : Int32))))]) H1 → va_D A (ws ++ [(q, .inl (cyZ, N, .inl (fun _ => (0 : Int32))))]) → va_S A H0 H1 locs →
      W p l e R s m args below meth c H1 locs (cells + 1) (slots + N) Q (F0 m (pc + 2) ls (.ref q :: rest))) : W p l e R s m args below meth c H locs cells slots Q (F0 m pc ls (.int n :: rest)) := by
  refine va_newa (atype := .boolean) (ty := .boolean) (a0 := (N, .inl (fun _ => (0 : Int32)))) hexec hb harr rfl hB.1 hP hD hS hA (fun cA => bs_vZ) hn hN hbytes hcells hslots hdg (fun q cA H1 hK1 hP1 hD1 hS1 => ?_)
  have h1 := (hK1.2 2 (cA, .boolean) rfl).2
  have h2 := (hB.1.2 1 (cyZ, .boolean) rfl).2
  have h3 : cA = cyZ := bs_same (Or.inr rfl) h1 h2
  subst h3
  exact kk q H1 hP1 hD1 hS1
end BSN
/-! numbers -/
theorem nb_ltL {a : Nat} {y : Int32} {b : Nat} (hy : y = nI b) (ha : a < 2 ^ 31) (hb : b < 2 ^ 31) : nI a < y ↔ a < b := by subst hy; exact nI_ltI ha hb
theorem nb_z : (0 : Int32) = nI 0 := rfl
theorem ci_lt {x y : Int32} {a b : Int} (hx : x.toInt = a) (hy : y.toInt = b) (h : x < y) : a < b := by rw [← hx, ← hy]; exact Int32.lt_iff_toInt_lt.mp h
theorem ci_le {x y : Int32} {a b : Int} (hx : x.toInt = a) (hy : y.toInt = b) (h : x ≤ y) : a ≤ b := by rw [← hx, ← hy]; exact Int32.le_iff_toInt_le.mp h
theorem ci_nlt {x y : Int32} {a b : Int} (hx : x.toInt = a) (hy : y.toInt = b) (h : ¬ x < y) : b ≤ a := by
  rw [← hx, ← hy]; exact Int.not_lt.mp (fun q => h (Int32.lt_iff_toInt_lt.mpr q))
theorem ci_nle {x y : Int32} {a b : Int} (hx : x.toInt = a) (hy : y.toInt = b) (h : ¬ x ≤ y) : b < a := by
  rw [← hx, ← hy]; exact Int.not_le.mp (fun q => h (Int32.le_iff_toInt_le.mpr q))
theorem ci_eq {x y : Int32} {a b : Int} (hx : x.toInt = a) (hy : y.toInt = b) (h : x = y) : a = b := by rw [← hx, ← hy, h]
theorem ci_ne {x y : Int32} {a b : Int} (hx : x.toInt = a) (hy : y.toInt = b) (h : ¬ x = y) : ¬ a = b := by rw [← hx, ← hy]; exact fun q => h (Int32.toInt_inj.mp q)
theorem nb_in {x : Int32} {n : Nat} (h0 : 0 ≤ x.toInt) (h1 : x.toInt < n) : vp_in x n := vp_in_iff.mpr ⟨h0, h1⟩
theorem nb_of {x : Int32} {n : Nat} (h0 : 0 ≤ x.toInt) (h1 : x.toInt ≤ n) (hn : n + 1 < 2 ^ 31) : ∃ k : Nat, k ≤ n ∧ x = nI k := by
  obtain ⟨j, hj, e⟩ := vp_in_of (n := n + 1) (vp_in_iff.mpr ⟨h0, by omega⟩) hn
  exact ⟨j, by omega, e⟩
theorem nb_sw (x : Int32) (n : Nat) (i : Int) (hi : i = n) (hn : n < 100 := by decide) : (x.toInt < 0 ∨ i < x.toInt) ∨ ∃ k : Nat, k ≤ n ∧ x = nI k := by
  by_cases h : x.toInt < 0 ∨ i < x.toInt
  · exact Or.inl h
  · exact Or.inr (nb_of (by omega) (by omega) (by omega))
theorem nb_shr0 (y : Int32) : (0 : Int32) >>> y = 0 := by
  apply Int32.toBitVec_inj.mp
  simp
theorem nb_int (x : Int32) : -2147483648 ≤ x.toInt ∧ x.toInt ≤ 2147483647 := by
  have h1 := Int32.le_toInt x
  have h2 := Int32.toInt_lt x
  omega
theorem nb_andm1 (x : Int32) : x &&& (-1) = x := by
  apply Int32.toBitVec_inj.mp
  simp
theorem nb_sub {a b : Nat} (h : b ≤ a) : nI a - nI b = nI (a - b) := by
  have e : nI (a - b) + nI b = nI a := by rw [nI_add, Nat.sub_add_cancel h]
  rw [← e, Int32.add_sub_cancel]
theorem nb_mul (a b : Nat) : nI a * nI b = nI (a * b) := by
  unfold nI
  rw [Int32.ofNat_mul]
theorem nb_nar {r : Int32} (h : r = 0 ∨ r = 1) : narrow .boolean (.int r) = .int r := by rcases h with rfl | rfl <;> rfl
theorem nb_p3 {k : Nat} (h : k ≤ 10) : ¬ nI (3 ^ k) = 0 := by
  rcases (show k = 0 ∨ k = 1 ∨ k = 2 ∨ k = 3 ∨ k = 4 ∨ k = 5 ∨ k = 6 ∨ k = 7 ∨ k = 8 ∨ k = 9 ∨ k = 10 by omega) with rfl | rfl | rfl | rfl | rfl | rfl | rfl | rfl | rfl | rfl | rfl <;> decide
theorem nb_p3s {k : Nat} (h : 1 ≤ k) : 3 * nI (3 ^ (k - 1)) = nI (3 ^ k) := by
  obtain ⟨j, rfl⟩ : ∃ j, k = j + 1 := ⟨k - 1, by omega⟩
  have e : (3 : Int32) = nI 3 := rfl
  rw [e, nb_mul, Nat.add_sub_cancel, Nat.pow_succ, Nat.mul_comm]
theorem nb_01 {x : Int32} (h0 : 0 ≤ x.toInt) (h1 : x.toInt ≤ 1) : x = 0 ∨ x = 1 := by
  obtain ⟨k, hk, rfl⟩ := nb_of (n := 1) h0 (by omega) (by decide)
  rcases (show k = 0 ∨ k = 1 by omega) with rfl | rfl
  · exact Or.inl rfl
  · exact Or.inr rfl
