/-! making things: worlds of a heap of a known size -/
def wdZ (D : GG) (w : va_W) (sz : Nat) (U : State) : Prop := U.heap.size = sz ∧ wd D w U
def ownZ (w : va_W) (sz : Nat) : Nat → Prop := fun q => own w q ∨ sz ≤ q
theorem wdZ_blind {D : GG} {w : va_W} {sz : Nat} {av : List Value} : FrameBlind (va_Pc av (wdZ D w sz)) := fun a U g mk h => by
  obtain ⟨h0, hz, h1, h2, h3, h4⟩ := h
  exact ⟨h0, hz, h1, va_K.moved (u := U) (U := U.calling g mk a) (Vm.Alike.refl U.vm) h2, h3, NW.same (u := U) (U := U.calling g mk a) rfl h4⟩
theorem toOwnZ {w : va_W} {A : Nat → Prop} {sz : Nat} (h : va_D A w) : va_D (ownZ w sz) w := ⟨h.1, fun k q hk => Or.inl ⟨k, q.2, hk⟩⟩
def z0 : Nat → Int32 := fun _ => 0
theorem vpl {i : Int32} {n : Nat} (h : decide (i < 0 ∨ n ≤ i.toNatClampNeg) = false) : vp_in i n := of_decide_eq_false h
section KitZ
variable {p : Program} {l : Launch} {e : Env} {R : Room} {s : State} {m : MethodId} {args : Array Value} {below : List Frame} {meth : Method} {c : Code} {H : Heap} {locs : List Loc} {cells slots : Nat} {Q : State → Prop}
variable {pc : Nat} {ls : Array Slot} {rest st0 : List Value} {a : Array Value} {A0 : Nat → Prop} {H0 : Heap} {free : Addr → Prop} {cc bytes : ByteArray} {nL n index maxL mc ms : Nat} {Ts wsl : List Cond} {ownC C host : String} {y : MethodName} {ret : Option FieldType} {rm : Room} {D : GG} {ws wc w1 ws' : va_W} {b : Addr} {As : List Value} {ov : Option Value}
theorem newaI (hx : p.tables.exec = Jvm.exec) (hb : c.code = cc) (harr : (Cond.arrayClass .int).before args s = true) (hK : va_K D.1 vwCl (tys D) s) (hP : va_P D.1 vwCl ws H) (hD : va_D A0 ws) (hS : va_S A0 H0 H locs) (hA : ∀ q, H0.size ≤ q → A0 q)
    {k : Int32} {N' : Nat} (hn : ¬ k < 0) (hN : k.toNatClampNeg = N') (hbytes : N' * componentBytes .int ≤ 536870912) (hcells : cells + 1 ≤ R.cells) (hslots : slots + N' ≤ R.slots) (hdg : decode cc pc = .ok (.newarray .int, 2))
    (kk : ∀ (q : Nat) (H1 : Heap), va_P D.1 vwCl (ws ++ [(q, .inl (D.2 0, N', .inl z0))]) H1 → va_D A0 (ws ++ [(q, .inl (D.2 0, N', .inl z0))]) → va_S A0 H0 H1 locs →
      W p l e R s m args below meth c H1 locs (cells + 1) (slots + N') Q (F0 m (pc + 2) ls (.ref q :: rest))) : W p l e R s m args below meth c H locs cells slots Q (F0 m pc ls (.int k :: rest)) := by
  refine va_newa (a0 := (N', .inl z0)) (ty := .int) hx hb (atype := .int) harr rfl hK hP hD hS hA (fun _ => rfl) hn hN hbytes hcells hslots hdg fun q cA H1 hK1 hP1 hD1 hS1 => ?_
  have e1 := (hK.2 0 (D.2 0, .int) rfl).2
  have e2 := (hK1.2 3 (cA, .int) rfl).2
  have e3 : cA = D.2 0 := by
    have e4 : s.vm.findClass ("[" ++ (FieldType.int).toString) = some (D.2 0) := e1
    have e5 : s.vm.findClass ("[" ++ (FieldType.int).toString) = some cA := e2
    rw [e4] at e5
    exact (Option.some.inj e5).symm
  subst e3
  exact kk q H1 hP1 hD1 hS1
theorem writeKA (hr : va_Run p l e R s m args below meth c H locs cells slots mc ms (F0 m pc ls st0) rest (QW D ov w1 (ownZ wc H.size) a) (ownZ wc H.size))
    (hP : va_P D.1 vwCl ws H) (hD : va_D A0 ws) (hS : va_S A0 H0 H locs) (hA : ∀ q, H0.size ≤ q → A0 q) (hf : Fr ws wc w1 ws')
    (kk : ∀ (H1 : Heap) (locs1 : List Loc), va_P D.1 vwCl ws' H1 → va_D A0 ws' → va_S A0 H0 H1 locs1 → W p l e R s m args below meth c H1 locs1 (cells + mc) (slots + ms) Q (F0 m (pc + 3) ls (ov.toList ++ rest))) : W p l e R s m args below meth c H locs cells slots Q (F0 m pc ls st0) := by
  intro T hT X
  obtain ⟨v', st₀, t, T', L, h0, X', hL, e1, e2, ⟨hv, hP1, hz, hk⟩, st⟩ := hr T hT X
  cases hv
  rw [h0] at hz hk
  have ho := own_sub hD hf.sb
  obtain ⟨j1, j2⟩ := jn hP hD hf (H1 := T'.heap) (fun q g1 g2 => by rw [e1]; exact hk q g1 (fun z => z.elim g2 (fun z => absurd g1 (Nat.not_lt.mpr z)))) (by rw [e1]; exact hP1)
  obtain ⟨t2, a1, b1⟩ := kk T'.heap (locs ++ L) j1 j2
    ⟨Nat.le_trans hS.1 (by rw [e1]; exact hz), fun q h1 h2 => by rw [e1, hk q (Nat.lt_of_lt_of_le h1 hS.1) (fun z => z.elim (fun z => h2 (ho q z)) (fun z => absurd (Nat.lt_of_lt_of_le h1 hS.1) (Nat.not_lt.mpr z)))]; exact hS.2.1 q h1 h2, fun q hq => by
      rcases List.mem_append.mp hq with h | h
      · exact hS.2.2 q h
      · exact (hL q h).elim (ho _) (fun z => hA _ (Nat.le_trans hS.1 z))⟩ T' rfl X'
  exact ⟨t2, st t2 a1, b1⟩
theorem preVZ (hK : va_K D.1 vwCl (tys D) s) (hN : NW s) (hP : va_P D.1 vwCl ws H) (hD : va_D A0 ws) (hs : Sb ws wc)
    (ci : Nat) {T : u_T} {N : Nat} {fs : List Value} (q0 : Nat) (hc : vwCl[ci]? = some (C, T, N)) (h0 : wc[q0]? = some (b, .inr (ci, fs))) : PreV s H C b (va_Pc (.ref b :: As) (wdZ D wc H.size)) As :=
  ⟨wdZ_blind, va_recv hK (sP hs hP) hc h0, fun U hU hW => ⟨rfl, by rw [hU], by rw [hU]; exact sP hs hP, va_K.moved hW.alike hK, (sD hs hD).weaken (fun _ _ _ _ => trivial), NW.warm hW hN⟩⟩
theorem kVa (S : CallFix p m c cc nL s args Ts ownC) (hM : Met l y wsl rm (va_Pc (.ref b :: As) (wdZ D wc H.size)) (QW D ov w1 (ownZ wc H.size)) mc ms (ownZ wc H.size)) (cw : CallW R s args ownC C index y bytes maxL ret wsl rm mc ms n)
    (hK : va_K D.1 vwCl (tys D) s) (hN : NW s) (hP : va_P D.1 vwCl ws H) (hD : va_D A0 ws) (hS : va_S A0 H0 H locs) (hA : ∀ q, H0.size ≤ q → A0 q) (hf : Fr ws wc w1 ws')
    (ci : Nat) {T : u_T} {N : Nat} {fs : List Value} (q0 : Nat) (hc : vwCl[ci]? = some (C, T, N)) (h0 : wc[q0]? = some (b, .inr (ci, fs))) (hlen : As.length = n) (hsize : ls.size = nL) (hW : (rest.map fun v => v.category).sum ≤ 8) (hro : cells + mc ≤ R.cells ∧ slots + ms ≤ R.slots) (hdg : decode cc pc = .ok (.invokevirtual index, 3))
    (kk : ∀ (H1 : Heap) (locs1 : List Loc), va_P D.1 vwCl ws' H1 → va_D A0 ws' → va_S A0 H0 H1 locs1 → W p l e R s m args below meth c H1 locs1 (cells + mc) (slots + ms) Q (F0 m (pc + 3) ls (ov.toList ++ rest))) {st0 : List Value} (hst : st0 = As.reverse ++ .ref b :: rest) : W p l e R s m args below meth c H locs cells slots Q (F0 m pc ls st0) := by
  subst hst
  exact writeKA (va_runV S hM cw (preVZ hK hN hP hD hf.sb ci q0 hc h0) rfl hlen hsize rfl (lv_room hW) hdg hro) hP hD hS hA hf kk
end KitZ
theorem mul_nn {a n m : Nat} (h : a * n + a ≤ m) (hm : m < 2 ^ 31) : ¬ nI a * nI n < 0 := by
  rw [pk_mul]
  exact nI_pos (by omega)
theorem mul_cl {a n m : Nat} (h : a * n + a ≤ m) (hm : m < 2 ^ 31) : (nI a * nI n).toNatClampNeg + (nI a).toNatClampNeg ≤ m := by
  rw [pk_mul, nI_clamp (by omega), nI_clamp (by omega)]
  exact h
def ar3 (a b c : Int32) : Nat → Int32 := upd (upd (upd z0 (0 : Int32).toNatClampNeg a) (1 : Int32).toNatClampNeg b) (2 : Int32).toNatClampNeg c
def ar5 (a b c : Int32) : Nat → Int32 := upd (upd (upd (upd (upd z0 (0 : Int32).toNatClampNeg a) (1 : Int32).toNatClampNeg b) (2 : Int32).toNatClampNeg c) (3 : Int32).toNatClampNeg 0) (4 : Int32).toNatClampNeg 0
def ar11 (a b c d : Int32) : Nat → Int32 := upd (upd (upd (upd (upd (upd (upd (upd (upd (upd (upd z0 (0 : Int32).toNatClampNeg a) (1 : Int32).toNatClampNeg b) (2 : Int32).toNatClampNeg c) (3 : Int32).toNatClampNeg 0) (4 : Int32).toNatClampNeg a) (5 : Int32).toNatClampNeg (-1)) (6 : Int32).toNatClampNeg 0) (7 : Int32).toNatClampNeg 0) (8 : Int32).toNatClampNeg d) (9 : Int32).toNatClampNeg (-1)) (10 : Int32).toNatClampNeg 0
def bdT (L : Fm) (nr : Nat) (a b c : Int32) : Fm := sr L 2 (va_cpy (ar3 a b c) (L 2) (0 : Int32).toNatClampNeg ((3 : Int32) * nI nr).toNatClampNeg (3 : Int32).toNatClampNeg)
def pmT (L : Fm) (nm : Nat) (a b c : Int32) : Fm := sr L 3 (va_cpy (ar5 a b c) (L 3) (0 : Int32).toNatClampNeg ((5 : Int32) * nI nm).toNatClampNeg (5 : Int32).toNatClampNeg)
def poT (L : Fm) (nl : Nat) (a b c : Int32) : Fm := sr L 4 (va_cpy (ar11 a b c (rg 2 (L 5) (0 : Int32))) (L 4) (0 : Int32).toNatClampNeg ((11 : Int32) * nI nl).toNatClampNeg (11 : Int32).toNatClampNeg)
def pbd (L : Fm) (ns nr : Nat) (a b c : Int32) : Int32 × Int32 × Nat × Fm := if inB a 0 (nI ns - 1) = true then (if inB b 0 (nI ns - 1) = true then (if a = b then (0, 2, nr, L) else if inB c 1 20 = true then (if nI nr = 15 then (0, 3, nr, L) else (nI nr, 0, nr + 1, bdT L nr a b c)) else (0, 2, nr, L)) else (0, 1, nr, L)) else (0, 1, nr, L)
def pam (L : Fm) (nr nm : Nat) (a b c : Int32) : Int32 × Int32 × Nat × Fm := if inB a 0 (nI nr - 1) = true then (if inB b 1 6 = true then (if nI nm = 12 then (0, 3, nm, L) else (nI nm, 0, nm + 1, pmT L nm a b (roM L a (if c = 0 then 0 else 1)))) else (0, 2, nm, L)) else (0, 1, nm, L)
def ppo (L : Fm) (ns nl : Nat) (a b c : Int32) : Int32 × Int32 × Nat × Fm := if inB a 0 (nI ns - 1) = true then (if inB b 0 (nI ns - 1) = true then (if a = b then (0, 2, nl, L) else if inB c 0 9 = true then (if nI nl = 60 then (0, 3, nl, L) else (nI nl, 0, nl + 1, poT L nl a b c)) else (0, 2, nl, L)) else (0, 1, nl, L)) else (0, 1, nl, L)
