/-! constructors that make rows -/
section KitI
variable {p : Program} {l : Launch} {e : Env} {R : Room} {s : State} {m : MethodId} {args : Array Value} {below : List Frame} {meth : Method} {c : Code} {H : Heap} {locs : List Loc} {cells slots : Nat} {Q : State → Prop}
variable {pc : Nat} {ls : Array Slot} {rest st0 : List Value} {A0 B : Nat → Prop} {H0 : Heap} {cc bytes : ByteArray} {nL n index maxL mc ms : Nat} {Ts wsl : List Cond} {ownC : String} {y : MethodName} {rm : Room} {D : GG} {ws wc wr : va_W} {w1 : (Nat → Nat) → va_W} {b : Addr} {As : List Value} {ov : (Nat → Nat) → Option Value}
theorem preSZ (hK : va_K D.1 vwCl (tys D) s) (hN : NW s) (hP : va_P D.1 vwCl ws H) (hD : va_D A0 ws) (hs : Sb ws wc) : PreS s H (va_Pc As (wdZ D wc H.size)) As :=
  ⟨wdZ_blind, fun U hU hW => ⟨rfl, by rw [hU], by rw [hU]; exact sP hs hP, va_K.moved hW.alike hK, (sD hs hD).weaken (fun _ _ _ _ => trivial), NW.warm hW hN⟩⟩
theorem kIx {Pc : Array Value → State → Prop} (S : CallFix p m c cc nL s args Ts ownC) (hM : Met l y wsl rm Pc (QX D ov w1 B) mc ms B) (cw : CallB R s args ownC index y bytes maxL none wsl rm mc ms n ∧ y.name = "<init>" ∧ (Cond.instanceMethod y).before args s = true) (hp : PreS s H Pc (.ref b :: As))
    (hP : va_P D.1 vwCl ws H) (hD : va_D A0 ws) (hS : va_S A0 H0 H locs) (hA : ∀ q, H0.size ≤ q → A0 q) (hB : ∀ q, B q → own wc q ∨ H.size ≤ q) (hw : ws = wr ++ wc)
    (hlen : As.length = n) (hsize : ls.size = nL) (hW : (rest.map fun v => v.category).sum ≤ 8) (hro : cells + mc ≤ R.cells ∧ slots + ms ≤ R.slots) (hdg : decode cc pc = .ok (.invokespecial index, 3))
    (kk : ∀ (g : Nat → Nat) (H1 : Heap) (locs1 : List Loc), va_P D.1 vwCl (wr ++ w1 g) H1 → va_D A0 (wr ++ w1 g) → va_S A0 H0 H1 locs1 → W p l e R s m args below meth c H1 locs1 (cells + mc) (slots + ms) Q (F0 m (pc + 3) ls ((ov g).toList ++ rest))) (hst : st0 = As.reverse ++ .ref b :: rest) : W p l e R s m args below meth c H locs cells slots Q (F0 m pc ls st0) := by
  subst hst
  exact writeKX (va_runI S hM cw hp rfl hlen hsize rfl (lv_room hW) hdg hro) hP hD hS hA hB hw kk
end KitI
