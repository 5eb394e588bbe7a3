/-! constructors of Ways and Traffic -/
section KitN
variable {p : Program} {l : Launch} {e : Env} {R : Room} {s : State} {m : MethodId} {args : Array Value} {below : List Frame} {meth : Method} {c : Code} {H : Heap} {locs : List Loc} {cells slots : Nat} {Q : State → Prop}
variable {pc : Nat} {ls : Array Slot} {rest st0 : List Value} {A0 B : Nat → Prop} {H0 : Heap} {cc bytes : ByteArray} {nL n index maxL mc ms : Nat} {Ts wsl : List Cond} {ownC : String} {y : MethodName} {rm : Room} {D : GG} {ws wc wr : va_W} {w1 : (Nat → Nat) → va_W} {b : Addr} {As : List Value} {ov : (Nat → Nat) → Option Value}
theorem kIn {Pc : Array Value → State → Prop} {host : String} (S : CallFix p m c cc nL s args Ts ownC) (hM : Met l y wsl rm Pc (QX D ov w1 B) mc ms B) (cw : va_CN R s args ownC index y host bytes maxL none wsl rm mc ms n ∧ y.name = "<init>" ∧ (Cond.instanceMethod y).before args s = true) (hp : PreS s H Pc (.ref b :: As))
    (hP : va_P D.1 vwCl ws H) (hD : va_D A0 ws) (hS : va_S A0 H0 H locs) (hA : ∀ q, H0.size ≤ q → A0 q) (hB : ∀ q, B q → own wc q ∨ H.size ≤ q) (hw : ws = wr ++ wc)
    (hlen : As.length = n) (hsize : ls.size = nL) (hW : (rest.map fun v => v.category).sum ≤ 8) (hro : cells + mc ≤ R.cells ∧ slots + ms ≤ R.slots) (hdg : decode cc pc = .ok (.invokespecial index, 3))
    (kk : ∀ (g : Nat → Nat) (H1 : Heap) (locs1 : List Loc), va_P D.1 vwCl (wr ++ w1 g) H1 → va_D A0 (wr ++ w1 g) → va_S A0 H0 H1 locs1 → W p l e R s m args below meth c H1 locs1 (cells + mc) (slots + ms) Q (F0 m (pc + 3) ls ((ov g).toList ++ rest))) (hst : st0 = As.reverse ++ .ref b :: rest) : W p l e R s m args below meth c H locs cells slots Q (F0 m pc ls st0) := by
  subst hst
  exact writeKX (va_runIN S hM cw hp rfl hlen hsize rfl (lv_room hW) hdg hro) hP hD hS hA hB hw kk
end KitN
def w5i (L : Nat → Nat → Int32) (x : Nat) : Nat → Nat → Nat → Int32
  | 0 => L
  | k + 1 => sr (sr (w5i L x k) 0 (rs 100 (w5i L x k 0) ((nI x * 10) + nI k) (if nI x = nI k then 0 else 1000000))) 1 (rs 100 (w5i L x k 1) ((nI x * 10) + nI k) (-1))
def w5o (L : Nat → Nat → Int32) : Nat → Nat → Nat → Int32
  | 0 => L
  | k + 1 => w5i (w5o L k) k 10
def W50 : Nat → Nat → Int32 := w5o (fun _ => z0) 10
