/-! means, and the reference's digest -/
theorem vf_of {r : UInt64} (h : r.toNat % 2 ^ 63 < 2047 * 2 ^ 52) : vf_n64 r := by
  unfold vf_n64
  rw [UInt64.le_iff_toNat_le, UInt64.toNat_and]
  show r.toNat &&& (2 ^ 63 - 1) ≤ 2047 * 2 ^ 52
  rw [Nat.and_two_pow_sub_one_eq_mod]
  omega
theorem div_num {a b : Int32} (h : ¬ b = 0) : vf_n64 (FP.ddiv (FP.i2d a) (FP.i2d b)) := by
  have ha := FP.Core.i2d_mag a
  have hb := FP.Core.i2d_big (FP.Core.int32_ne h)
  exact vf_of (Nat.lt_of_lt_of_le (FP.Core.ddiv_mag (K := 1056) (L := 1023) ha hb.1 hb.2 (by decide) (by decide)) (by decide))
theorem eD {p : Program} {l : Launch} {e : Env} {R : Room} {s : State} {m : MethodId} {args : Array Value} {below : List Frame} {meth : Method} {c : Code} {pc : Nat} {ls : Array Slot} {cc : ByteArray} {x r : UInt64} (hx : p.tables.exec = Jvm.exec) (hb : c.code = cc) (hr : meth.sig.returnType = some .double) (hlocks : meth.locks = false) (hdg : decode cc pc = .ok (.dreturn, 1)) (hv : x = r) : W p l e R s m args below meth c s.heap [] 0 0 (MQ below (RP (.double r)) args s 0 0 (fun _ => False)) (F0 m pc ls [.double x]) := by
  subst hv
  exact W.dret hx hb hr (fun t ht hW => ⟨rfl, ht⟩) (fun _ h => nomatch h) hdg hlocks
def sumH (L : Fm) : Nat → Int32
  | 0 => 0
  | k + 1 => if rg 60 (L 3) (nI k) = 2 then sumH L k + (rg 60 (L 9) (nI k) - rg 60 (L 8) (nI k)) else sumH L k
def meanC (L : Fm) (n : Nat) : UInt64 := if inStC L n 2 ≤ 0 then FP.dconst0 else FP.ddiv (FP.i2d (sumH L n)) (FP.i2d (inStC L n 2))
def sumM (L : Fm) : Nat → Int32
  | 0 => 0
  | k + 1 => if leM L (nI k) 3 = 2 then sumM L k + (leM L (nI k) 9 - leM L (nI k) 8) else sumM L k
def cntM (L : Fm) (n : Nat) : Int32 := cI (fun k => leM L (nI k) 3 == 2) n
def meanM (L : Fm) (n : Nat) : UInt64 := if cntM L n = 0 then FP.dconst0 else FP.ddiv (FP.i2d (sumM L n)) (FP.i2d (cntM L n))
def d62 (t : Nat → Nat → Int32) (w : Nat) (d : Int64) : Nat → Int64
  | 0 => d
  | k + 1 => d31 (t k) (d62 t w d k) w
theorem ne_of_nle {x : Int32} (h : ¬ x ≤ 0) : ¬ x = 0 := fun q => h (by rw [q]; exact Int32.le_refl 0)
theorem eWd {p : Program} {l : Launch} {e : Env} {R : Room} {s : State} {m : MethodId} {args : Array Value} {below : List Frame} {meth : Method} {c : Code} {H : Heap} {locs : List Loc} {cells slots : Nat} {pc : Nat} {ls : Array Slot} {cc : ByteArray} {A0 : Nat → Prop} {D : GG} {w1 ws' : va_W} {x r : UInt64} (hx : p.tables.exec = Jvm.exec) (hb : c.code = cc) (hr : meth.sig.returnType = some .double) (hlocks : meth.locks = false) (hdg : decode cc pc = .ok (.dreturn, 1)) (hS : va_S A0 s.heap H locs) (hP : va_P D.1 vwCl ws' H) (hv : x = r) (hw : ws' = w1) : W p l e R s m args below meth c H locs cells slots (MQ below (QW D (some (.double r)) w1 A0) args s cells slots A0) (F0 m pc ls [.double x]) := by
  subst hw
  subst hv
  exact W.dret hx hb hr (fun t ht hW => ⟨rfl, by rw [ht]; exact hP, hS.F ht⟩) hS.2.2 hdg hlocks
theorem eWl {p : Program} {l : Launch} {e : Env} {R : Room} {s : State} {m : MethodId} {args : Array Value} {below : List Frame} {meth : Method} {c : Code} {H : Heap} {locs : List Loc} {cells slots : Nat} {pc : Nat} {ls : Array Slot} {cc : ByteArray} {A0 : Nat → Prop} {D : GG} {w1 ws' : va_W} {x r : Int64} (hx : p.tables.exec = Jvm.exec) (hb : c.code = cc) (hr : meth.sig.returnType = some .long) (hlocks : meth.locks = false) (hdg : decode cc pc = .ok (.lreturn, 1)) (hS : va_S A0 s.heap H locs) (hP : va_P D.1 vwCl ws' H) (hv : x = r) (hw : ws' = w1) : W p l e R s m args below meth c H locs cells slots (MQ below (QW D (some (.long r)) w1 A0) args s cells slots A0) (F0 m pc ls [.long x]) := by
  subst hw
  subst hv
  exact W.lret hx hb hr (fun t ht hW => ⟨rfl, by rw [ht]; exact hP, hS.F ht⟩) hS.2.2 hdg hlocks
