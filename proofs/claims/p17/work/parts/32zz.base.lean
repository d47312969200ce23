/-- the start of a method that writes or makes cells, or leaves the heap as it is: the whole heap is known -/
def bs_H (dC : Nat → ClassId) (dI : Nat → Nat → Nat) (cyI cyZ : ClassId) (av : List Value) (ws : va_W) (Hz : Heap) : Array Value → State → Prop := va_Pc av (fun U => U.heap = Hz ∧ bs_K dC dI cyI cyZ U ∧ va_P (dC, dI) vwCl ws U.heap ∧ va_D (fun _ => True) ws)
theorem bs_H.blind {dC : Nat → ClassId} {dI : Nat → Nat → Nat} {cyI cyZ : ClassId} {av : List Value} {ws : va_W} {Hz : Heap} : FrameBlind (bs_H dC dI cyI cyZ av ws Hz) := fun _ _ _ _ q => ⟨q.1, q.2.1, q.2.2.1.calling, q.2.2.2⟩
theorem bs_HV {dC : Nat → ClassId} {dI : Nat → Nat → Nat} {cyI cyZ : ClassId} {s : State} {H : Heap} {As : List Value} {ws : va_W} {A : Nat → Prop} {b ci : Nat} {q : vw_C} {fs : List Value} (hB : bs_K dC dI cyI cyZ s) (hP : va_P (dC, dI) vwCl ws H) (hD : va_D A ws) (q0 : Nat) (hc : vwCl[ci]? = some q) (he : ws[q0]? = some (b, .inr (ci, fs))) : PreV s H q.1 b (bs_H dC dI cyI cyZ (.ref b :: As) ws H) As := ⟨bs_H.blind, va_recv hB.1 hP hc he, fun U hU hW => ⟨rfl, hU, hB.warm hW, by rw [hU]; exact hP, hD.weaken (fun _ _ _ _ => trivial)⟩⟩
section BSO
variable {p : Program} {l : Launch} {e : Env} {R : Room} {s : State} {m : MethodId} {args : Array Value} {below : List Frame} {meth : Method} {c : Code} {H : Heap} {locs : List Loc} {cells slots : Nat} {Q : State → Prop}
variable {pc : Nat} {ls : Array Slot} {rest st0 : List Value} {a : Array Value} {A0 A1 : Nat → Prop} {H0 : Heap} {mc ms : Nat} {free : Addr → Prop}
/-- a call that may leave the heap as it is: then it has cost nothing -/
theorem bs_callO {S : Type} {post : Int32 → Option S → Prop} {B : Option S → State → Prop} (hr : va_Run p l e R s m args below meth c H locs cells slots mc ms (F0 m pc ls st0) rest (va_Qi post B A1 a) free) (hS : va_S A0 H0 H locs) (hA : ∀ q, q < H.size → A1 q → A0 q) (hf : ∀ q, free q → A0 q) (h0 : ∀ t : State, B none t → t.heap = H)
    (k0 : ∀ r : Int32, W p l e R s m args below meth c H locs cells slots Q (F0 m (pc + 3) ls (.int r :: rest)))
    (k1 : ∀ (r : Int32) (u : S) (t : State) (H1 : Heap) (locs1 : List Loc), t.heap = H1 → s.vm.Alike t.vm → post r (some u) → B (some u) t → H.size ≤ H1.size → (∀ q : Nat, q < H.size → ¬ A1 q → H1[q]? = H[q]?) → va_S A0 H0 H1 locs1 → W p l e R s m args below meth c H1 locs1 (cells + mc) (slots + ms) Q (F0 m (pc + 3) ls (.int r :: rest))) : W p l e R s m args below meth c H locs cells slots Q (F0 m pc ls st0) := by
  intro T hT X
  obtain ⟨v, st₀, t, T', L, h00, X', hL, e1, e2, ⟨⟨r, u, hv, hp, hb⟩, hz, hk⟩, st⟩ := hr T hT X
  cases hv
  rw [h00] at hz hk
  cases u with
  | none =>
    have hH : T'.heap = T.heap := by rw [e1, h0 t hb, hT]
    have Y : Stand p l e R s m args below meth c T' locs cells slots := by
      refine { X' with same := ?_ }
      obtain ⟨x1, x2, x3, x4, x5, x6⟩ := X'.same
      obtain ⟨y1, y2, y3, y4, y5, y6⟩ := X.same
      have hh : (T'.setVm s.vm).heap = (T.setVm s.vm).heap := hH
      exact ⟨x1, by rw [hh]; exact y2, by rw [hh]; exact y3, x4, by rw [hh]; exact y5, by rw [hh]; exact y6⟩
    obtain ⟨t2, a1, b1⟩ := k0 r T' (hH.trans hT) Y
    exact ⟨t2, st t2 a1, b1⟩
  | some u =>
    obtain ⟨t2, a1, b1⟩ := k1 r u t T'.heap (locs ++ L) e1.symm (by rw [← e2]; exact X'.warmed.alike) hp hb (by rw [e1]; exact hz) (fun q h1 h2 => by rw [e1]; exact hk q h1 h2)
      ⟨Nat.le_trans hS.1 (by rw [e1]; exact hz), fun q h1 h2 => by rw [e1, hk q (Nat.lt_of_lt_of_le h1 hS.1) (fun z => h2 (hA q (Nat.lt_of_lt_of_le h1 hS.1) z))]; exact hS.2.1 q h1 h2, fun q hq => by
        rcases List.mem_append.mp hq with h | h
        · exact hS.2.2 q h
        · exact hf _ (hL q h)⟩ T' rfl X'
    exact ⟨t2, st t2 a1, b1⟩
end BSO
