/-! the start of a method that may throw -/
def tX : List (Nat × String) := [(34, "a height is 0 to 4000"), (45, "there are 10 stations"), (58, "no such station"), (61, "both stations are the same"), (91, "both stations are the same, or the length is not 1 to 20"), (96, "there are 15 roads"), (105, "no such road"), (107, "a load is 1 to 6"), (118, "there are 12 mules"), (129, "no such station, or no such number of it"), (134, "no such road, or no such number of it"), (139, "no such mule, or no such number of it"), (144, "both stations are the same, or the urgency is not 0 to 9"), (153, "there are 60 letters"), (165, "no such letter"), (173, "the letter was recalled, has come or is back"), (188, "no such letter, or no such number of it"), (193, "hours are 1 to 100"), (198, "no such count"), (203, "no such station, or no such number of a way"), (221, "hours are 0 to 300"), (233, "hours are 1 to 50")]
def SX (U : State) : Prop := ∀ q ∈ tX, ∃ a : Nat, vk_R RX6 q.1 q.2 a U
theorem SX.warm {s U : State} (hW : s.WarmedH U.vm) (h : SX s) : SX U := fun q hq => by
  obtain ⟨a, ha⟩ := h q hq
  exact ⟨a, vk_R.warm hW ha⟩
theorem SX.same {s U : State} (hv : U.vm = s.vm) (h : SX s) : SX U := fun q hq => by
  obtain ⟨a, ha⟩ := h q hq
  exact ⟨a, vk_R.same hv ha⟩
def ZX (A : Nat → Prop) (U : State) (H : Heap) : Prop := vx_Zq Bundle.tN "UNASSIGNED_STACK" Bundle.steD A U H ∧ vx_Zq Bundle.tN "SUPPRESSED_SENTINEL" Bundle.listD A U H
theorem ZX.moved {A : Nat → Prop} {u U : State} {H : Heap} (hvm : u.vm.Alike U.vm) (h : ZX A u H) : ZX A U H := ⟨vx_Zq.moved hvm h.1, vx_Zq.moved hvm h.2⟩
theorem ZX.kept {A : Nat → Prop} {U : State} {H H1 : Heap} (h : ZX A U H) (hq : ∀ a : Nat, a < H.size → ¬ A a → H1[a]? = H[a]?) : ZX A U H1 := ⟨vx_Zq.kept h.1 hq, vx_Zq.kept h.2 hq⟩
theorem ZX.narrow {A B : Nat → Prop} {U : State} {H : Heap} (h : ZX A U H) (hAB : ∀ q, B q → A q) : ZX B U H := ⟨vx_Zq.narrow h.1 hAB, vx_Zq.narrow h.2 hAB⟩
def wdE (D : GG) (w : va_W) (sz : Nat) (U : State) : Prop := SX U ∧ TX U ∧ ZX (ownZ w sz) U U.heap ∧ wdX D w sz U
theorem wdE_blind {D : GG} {w : va_W} {sz : Nat} {av : List Value} : FrameBlind (va_Pc av (wdE D w sz)) := fun a U g mk h => by
  obtain ⟨h0, hs, ht, hz, hx⟩ := h
  have hq := wdX_blind (D := D) (w := w) (sz := sz) (av := av) a U g mk ⟨h0, hx⟩
  exact ⟨h0, SX.same (s := U) (U := U.calling g mk a) rfl hs, TX.same (s := U) (U := U.calling g mk a) rfl ht, ZX.moved (u := U) (U := U.calling g mk a) (Vm.Alike.refl U.vm) hz, hq.2⟩
