/-! a throwing method's start, at its call -/
theorem preVE {s : State} {D : GG} {ws wc : va_W} {H : Heap} {locs : List Loc} {A0 : Nat → Prop} {b : Addr} {As : List Value} {C : String} (hSX : SX s) (hTX : TX s) (hZX : ZX A0 s s.heap) (hNX : NX s) (hK : va_K D.1 vwCl (tys D) s) (hN : NW s) (hP : va_P D.1 vwCl ws H) (hD : va_D A0 ws) (hS : va_S A0 s.heap H locs) (hA : ∀ q, s.heap.size ≤ q → A0 q) (hs : Sb ws wc)
    (ci : Nat) {T : u_T} {N : Nat} {fs : List Value} (q0 : Nat) (hc : vwCl[ci]? = some (C, T, N)) (h0 : wc[q0]? = some (b, .inr (ci, fs))) : PreV s H C b (va_Pc (.ref b :: As) (wdE D wc H.size)) As :=
  ⟨wdE_blind, va_recv hK (sP hs hP) hc h0, fun U hU hW => ⟨rfl, SX.warm hW hSX, TX.warm hW hTX, by
    rw [hU]
    exact ZX.moved hW.alike ((hZX.kept (fun a h1 h2 => hS.2.1 a h1 h2)).narrow (fun q z => z.elim (own_sub hD hs q) (fun z => hA q (Nat.le_trans hS.1 z)))),
    NX.warm hW hNX, by rw [hU], by rw [hU]; exact sP hs hP, va_K.moved hW.alike hK, (sD hs hD).weaken (fun _ _ _ _ => trivial), NW.warm hW hN⟩⟩
/-- what a throw leaves: the class E, where er says so; the world as it was -/
def XK (D : GG) (er : Option String) (w : va_W) (A : Nat → Prop) : String → State → State → Prop := fun E st t => er = some E ∧ va_P D.1 vwCl w t.heap ∧ va_F A st t
/-- what an answer leaves, where er says that nothing is thrown -/
def QE (er : Option String) (Qc : Array Value → State → Outcome → State → Prop) : Array Value → State → Outcome → State → Prop := fun a st o t => er = none ∧ Qc a st o t
