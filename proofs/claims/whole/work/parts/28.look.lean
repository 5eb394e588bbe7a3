/-! looking ahead -/
section KitY
variable {p : Program} {l : Launch} {e : Env} {R : Room} {s : State} {m : MethodId} {args : Array Value} {below : List Frame} {meth : Method} {c : Code} {H : Heap} {locs : List Loc} {cells slots : Nat} {Q : State → Prop}
variable {pc : Nat} {ls : Array Slot} {rest st0 : List Value} {a : Array Value} {A0 B : Nat → Prop} {H0 : Heap} {cc bytes : ByteArray} {nL n index maxL mc ms : Nat} {Ts wsl : List Cond} {ownC C : String} {y : MethodName} {ret : Option FieldType} {rm : Room} {D : GG} {ws wc wr : va_W} {w1 : (Nat → Nat) → va_W} {b : Addr} {As : List Value} {ov : (Nat → Nat) → Option Value}
theorem writeKX (hr : va_Run p l e R s m args below meth c H locs cells slots mc ms (F0 m pc ls st0) rest (QX D ov w1 B a) B)
    (hP : va_P D.1 vwCl ws H) (hD : va_D A0 ws) (hS : va_S A0 H0 H locs) (hA : ∀ q, H0.size ≤ q → A0 q) (hB : ∀ q, B q → own wc q ∨ H.size ≤ q) (hw : ws = wr ++ wc)
    (kk : ∀ (g : Nat → Nat) (H1 : Heap) (locs1 : List Loc), va_P D.1 vwCl (wr ++ w1 g) H1 → va_D A0 (wr ++ w1 g) → va_S A0 H0 H1 locs1 → W p l e R s m args below meth c H1 locs1 (cells + mc) (slots + ms) Q (F0 m (pc + 3) ls ((ov g).toList ++ rest))) : W p l e R s m args below meth c H locs cells slots Q (F0 m pc ls st0) := by
  subst hw
  intro T hT X
  obtain ⟨v', st₀, t, T', L, h0, X', hL, e1, e2, ⟨g, hv, hP1, hD1, hz, hk⟩, st⟩ := hr T hT X
  cases hv
  rw [h0] at hz hk
  have hsr : Sb (wr ++ wc) wr := Sb.l Sb.self
  have hsc : Sb (wr ++ wc) wc := Sb.r Sb.self
  have ho := own_sub hD hsc
  have hBA : ∀ q, B q → A0 q := fun q h => (hB q h).elim (ho q) (fun z => hA _ (Nat.le_trans hS.1 z))
  have hPr := sP hsr hP
  have hfar : ∀ (k : Nat) (x : Nat × va_E), wr[k]? = some x → ¬ B x.1 := fun k x hx hb => by
    rcases hB _ hb with ⟨j, z, hj⟩ | h
    · have hkl := (List.getElem?_eq_some_iff.mp hx).1
      have h1 : (wr ++ wc)[k]? = some x := by rw [List.getElem?_append_left hkl]; exact hx
      have h2 : (wr ++ wc)[wr.length + j]? = some (x.1, z) := by rw [List.getElem?_append_right (by omega), show wr.length + j - wr.length = j by omega]; exact hj
      have := hD.1 _ _ _ _ h1 h2 rfl
      omega
    · exact absurd (hPr k x hx).lt (Nat.not_lt.mpr h)
  obtain ⟨t2, a1, b1⟩ := kk g T'.heap (locs ++ L)
    ((hPr.kept (fun k x hx => by rw [e1]; exact hk x.1 (hPr k x hx).lt (hfar k x hx))).app (by rw [e1]; exact hP1))
    ((sD hsr hD).app (hD1.weaken (fun k q _ h => hBA _ h)) (fun i j p' q' hp' hq' he => hfar i p' hp' (by rw [he]; exact hD1.2 j q' hq')))
    ⟨Nat.le_trans hS.1 (by rw [e1]; exact hz), fun q h1 h2 => by rw [e1, hk q (Nat.lt_of_lt_of_le h1 hS.1) (fun z => h2 (hBA q z))]; exact hS.2.1 q h1 h2, fun q hq => by
      rcases List.mem_append.mp hq with h | h
      · exact hS.2.2 q h
      · exact hBA _ (hL q h)⟩ T' rfl X'
  exact ⟨t2, st t2 a1, b1⟩
theorem preVX (hNX : NX s) (hK : va_K D.1 vwCl (tys D) s) (hN : NW s) (hP : va_P D.1 vwCl ws H) (hD : va_D A0 ws) (hs : Sb ws wc)
    (ci : Nat) {T : u_T} {N : Nat} {fs : List Value} (q0 : Nat) (hc : vwCl[ci]? = some (C, T, N)) (h0 : wc[q0]? = some (b, .inr (ci, fs))) : PreV s H C b (va_Pc (.ref b :: As) (wdX D wc H.size)) As :=
  ⟨wdX_blind, va_recv hK (sP hs hP) hc h0, fun U hU hW => ⟨rfl, NX.warm hW hNX, by rw [hU], by rw [hU]; exact sP hs hP, va_K.moved hW.alike hK, (sD hs hD).weaken (fun _ _ _ _ => trivial), NW.warm hW hN⟩⟩
theorem kVx {Pc : Array Value → State → Prop} (S : CallFix p m c cc nL s args Ts ownC) (hM : Met l y wsl rm Pc (QX D ov w1 B) mc ms B) (cw : CallW R s args ownC C index y bytes maxL ret wsl rm mc ms n) (hp : PreV s H C b Pc As)
    (hP : va_P D.1 vwCl ws H) (hD : va_D A0 ws) (hS : va_S A0 H0 H locs) (hA : ∀ q, H0.size ≤ q → A0 q) (hB : ∀ q, B q → own wc q ∨ H.size ≤ q) (hw : ws = wr ++ wc)
    (hlen : As.length = n) (hsize : ls.size = nL) (hW : (rest.map fun v => v.category).sum ≤ 8) (hro : cells + mc ≤ R.cells ∧ slots + ms ≤ R.slots) (hdg : decode cc pc = .ok (.invokevirtual index, 3))
    (kk : ∀ (g : Nat → Nat) (H1 : Heap) (locs1 : List Loc), va_P D.1 vwCl (wr ++ w1 g) H1 → va_D A0 (wr ++ w1 g) → va_S A0 H0 H1 locs1 → W p l e R s m args below meth c H1 locs1 (cells + mc) (slots + ms) Q (F0 m (pc + 3) ls ((ov g).toList ++ rest))) (hst : st0 = As.reverse ++ .ref b :: rest) : W p l e R s m args below meth c H locs cells slots Q (F0 m pc ls st0) := by
  subst hst
  exact writeKX (va_runV S hM cw hp rfl hlen hsize rfl (lv_room hW) hdg hro) hP hD hS hA hB hw kk
theorem eXi {x r : Int32} {g : Nat → Nat} {ws' : va_W} (hx : p.tables.exec = Jvm.exec) (hb : c.code = cc) (hr : meth.sig.returnType = some .int) (hlocks : meth.locks = false) (hdg : decode cc pc = .ok (.ireturn, 1)) (hS : va_S A0 s.heap H locs) (hP : va_P D.1 vwCl ws' H) (hD : va_D A0 ws') (hv : x = r) (hw : ws' = w1 g) : W p l e R s m args below meth c H locs cells slots (MQ below (QX D (fun _ => some (.int r)) w1 A0) args s cells slots A0) (F0 m pc ls [.int x]) := by
  subst hv
  subst hw
  exact W.iret hx hb hr (fun t ht hW => ⟨g, rfl, by rw [ht]; exact hP, hD, hS.F ht⟩) hS.2.2 hdg hlocks
end KitY
def rsM (L M : Fm) : Fm := sr (sr (sr M 3 (L 3)) 4 (L 4)) 5 (L 5)
def pfo (L : Fm) (ns : Nat) (fog : Int32) (nr nm nl : Nat) (a h : Int32) : Int32 × Int32 × Fm := if inB a 0 (nI nl - 1) = true then (if inB h 0 300 = true then (leM (paF L ns fog nr nm nl h.toNatClampNeg).1 a 3, 0, rsM L (paF L ns fog nr nm nl h.toNatClampNeg).1) else (0, 2, L)) else (0, 1, L)
def cbM (L : Fm) (ns : Nat) (fog : Int32) (nr nm nl : Nat) (h : Int32) : Int32 × Fm := ((paF L ns fog nr nm nl h.toNatClampNeg).2, rsM L (paF L ns fog nr nm nl h.toNatClampNeg).1)
def arN (L : Fm) (ns : Nat) (fog : Int32) (nr nm nl : Nat) (a : Int32) : Nat → Nat → Nat
  | 0, k => k
  | j + 1, k => if leM (paF L ns fog nr nm nl k).1 a 9 = -1 then arN L ns fog nr nm nl a j (k + 1) else k
def par1 (L : Fm) (ns : Nat) (fog : Int32) (nr nm nl : Nat) (a : Int32) : Int32 × Int32 × Fm := if inB a 0 (nI nl - 1) = true then (leM (paF L ns fog nr nm nl (arN L ns fog nr nm nl a 300 0)).1 a 9, 0, rsM L (paF L ns fog nr nm nl (arN L ns fog nr nm nl a 300 0)).1) else (0, 1, L)
