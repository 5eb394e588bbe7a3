/-! the class's own calls: which code of a throw they have (0: none), and what they answer -/
def xe (l : List String) (k : Nat) : Option String := match k with
  | 0 => none
  | j + 1 => l[j]?
def kAS (ns : Nat) (p : Int32) : Nat := if inB p 0 4000 = true then (if nI ns < 10 then 0 else 2) else 1
def kSS (ns : Nat) (a b : Int32) : Nat := if inB a 0 (nI ns - 1) = true then (if inB b 0 (nI ns - 1) = true then (if a = b then 2 else 0) else 1) else 1
def kSF (ns : Nat) (a : Int32) : Nat := if inB a 0 (nI ns - 1) = true then 0 else 1
def kBD (ns nr : Nat) (a b c : Int32) : Nat := if inB a 0 (nI ns - 1) = true then (if inB b 0 (nI ns - 1) = true then (if a = b then 2 else if inB c 1 20 = true then (if nI nr < 15 then 0 else 3) else 2) else 1) else 1
def kAM (nr nm : Nat) (a b : Int32) : Nat := if inB a 0 (nI nr - 1) = true then (if inB b 1 6 = true then (if nI nm < 12 then 0 else 3) else 2) else 1
def kTL (n : Nat) (mx s w : Int32) : Nat := if inB s 0 (nI n - 1) = true then (if inB w 0 mx = true then 0 else 1) else 1
def kPO (ns ne : Nat) (a b c : Int32) : Nat := if inB a 0 (nI ns - 1) = true then (if inB b 0 (nI ns - 1) = true then (if a = b then 2 else if inB c 0 9 = true then (if nI ne < 60 then 0 else 3) else 2) else 1) else 1
def kRC (L : Fm) (ne : Nat) (l : Int32) : Nat := if inB l 0 (nI ne - 1) = true then (if isRecC L l = true then 2 else if endedC L l = true then 2 else 0) else 1
def kPS (h : Int32) : Nat := if inB h 1 100 = true then 0 else 1
def kCT (w : Int32) : Nat := if inB w 0 9 = true then 0 else 1
def kWY (ns : Nat) (a b w : Int32) : Nat := if inB a 0 (nI ns - 1) = true then (if inB b 0 (nI ns - 1) = true then (if inB w 0 1 = true then 0 else 1) else 1) else 1
def kFI (ns : Nat) (a b : Int32) : Nat := if inB a 0 (nI ns - 1) = true then (if inB b 0 (nI ns - 1) = true then 0 else 1) else 1
def kFO (ne : Nat) (l h : Int32) : Nat := if inB l 0 (nI ne - 1) = true then (if inB h 0 300 = true then 0 else 2) else 1
def kAR (ne : Nat) (l : Int32) : Nat := if inB l 0 (nI ne - 1) = true then 0 else 1
def kAD (nm : Nat) (h : Int32) : Nat := if inB h 1 50 = true then (if nI nm < 12 then 0 else 2) else 1
def psC (L : Fm) (a b v : Int32) : Fm := sr L 1 (rs 10 (L 1) a (if v = 0 then bN (rg 10 (L 1) a) b else bW (rg 10 (L 1) a) b))
def wyC (W : Fm) (a b w : Int32) : Int32 := if w = 1 then fiC W a b else if 1000000 ≤ hoC W a b then -1 else hoC W a b
def pmC (M : Fm) (nm : Nat) (a b c : Int32) : Fm := sr (sr (sr (sr (sr M 0 (rs 12 (M 0) (nI nm) a)) 1 (rs 12 (M 1) (nI nm) b)) 2 (rs 12 (M 2) (nI nm) c)) 3 (rs 12 (M 3) (nI nm) 0)) 4 (rs 12 (M 4) (nI nm) 0)
def poC (L : Fm) (ne : Nat) (a b c d : Int32) : Fm := sr (sr (sr (sr (sr (sr (sr (sr (sr (sr (sr L 0 (rs 60 (L 0) (nI ne) a)) 1 (rs 60 (L 1) (nI ne) b)) 2 (rs 60 (L 2) (nI ne) c)) 3 (rs 60 (L 3) (nI ne) 0)) 4 (rs 60 (L 4) (nI ne) a)) 5 (rs 60 (L 5) (nI ne) (-1))) 6 (rs 60 (L 6) (nI ne) 0)) 7 (rs 60 (L 7) (nI ne) 0)) 8 (rs 60 (L 8) (nI ne) d)) 9 (rs 60 (L 9) (nI ne) (-1))) 10 (pio (rs 60 (L 2) (nI ne) c) c (nI ne) ne (L 10))
abbrev Zc : Type := Fm × Nat × Fm × Nat × Fm × Int32 × Int32 × Rw
def QT (D : GG) (ov : Option Value) (w1 : Zc → va_W) (A : Nat → Prop) : Array Value → State → Outcome → State → Prop := fun a st o t => ∃ z : Zc, QW D ov (w1 z) A a st o t
theorem eEi {p : Program} {l : Launch} {e : Env} {R : Room} {s : State} {m : MethodId} {args : Array Value} {below : List Frame} {meth : Method} {c : Code} {H : Heap} {locs : List Loc} {cells slots pc : Nat} {ls : Array Slot} {A0 : Nat → Prop} {cc : ByteArray} {D : GG} {w1 ws' : va_W} {x r : Int32} {er : Option String} (hx : p.tables.exec = Jvm.exec) (hb : c.code = cc) (hr : meth.sig.returnType = some .int) (hlocks : meth.locks = false) (hdg : decode cc pc = .ok (.ireturn, 1)) (hS : va_S A0 s.heap H locs) (hP : va_P D.1 vwCl ws' H) (her : er = none) (hv : x = r) (hw : ws' = w1) : W p l e R s m args below meth c H locs cells slots (MQ below (QE er (QW D (some (.int r)) w1 A0)) args s cells slots A0) (F0 m pc ls [.int x]) := by
  subst hw
  subst hv
  exact W.iret hx hb hr (fun t ht hW => ⟨her, rfl, by rw [ht]; exact hP, hS.F ht⟩) hS.2.2 hdg hlocks
theorem eEt {p : Program} {l : Launch} {e : Env} {R : Room} {s : State} {m : MethodId} {args : Array Value} {below : List Frame} {meth : Method} {c : Code} {H : Heap} {locs : List Loc} {cells slots pc : Nat} {ls : Array Slot} {A0 : Nat → Prop} {cc : ByteArray} {D : GG} {w1 : Zc → va_W} {ws' : va_W} {x r : Int32} {er : Option String} (z : Zc) (hx : p.tables.exec = Jvm.exec) (hb : c.code = cc) (hr : meth.sig.returnType = some .int) (hlocks : meth.locks = false) (hdg : decode cc pc = .ok (.ireturn, 1)) (hS : va_S A0 s.heap H locs) (hP : va_P D.1 vwCl ws' H) (her : er = none) (hv : x = r) (hw : ws' = w1 z) : W p l e R s m args below meth c H locs cells slots (MQ below (QE er (QT D (some (.int r)) w1 A0)) args s cells slots A0) (F0 m pc ls [.int x]) := by
  subst hw
  subst hv
  exact W.iret hx hb hr (fun t ht hW => ⟨her, z, rfl, by rw [ht]; exact hP, hS.F ht⟩) hS.2.2 hdg hlocks
def cmC (W Ld : Fm) (ns : Nat) (fog : Int32) (nm ne : Nat) (M L : Fm) (hou cro : Int32) (h : Nat) : Int32 := inStC (hoF W Ld ns fog nm ne (M, L, hou, cro) h).2.1 ne 2 - inStC L ne 2
def cmN (W Ld : Fm) (ns : Nat) (fog : Int32) (nm ne : Nat) (M L : Fm) (hou cro : Int32) (N : Rw) (h : Nat) : Int32 := inStC (hgF W Ld ns fog nm ne (M, L, hou, cro, N, true) h).2.1 ne 2 - inStC L ne 2
def cnN (W Ld : Fm) (ns : Nat) (fog : Int32) (nm ne : Nat) (M L : Fm) (hou cro : Int32) (N : Rw) (h : Nat) : Rw := (hgF W Ld ns fog nm ne (M, L, hou, cro, N, true) h).2.2.2.2.1
abbrev adM (Ld M : Fm) (nm k : Nat) : Fm := pmC M nm (nI k) 6 (rg 15 (Ld 2) (nI k))
abbrev adW (W Ld M : Fm) (ns nr nm k : Nat) : Fm := fwC W Ld (adM Ld M nm k) ns nr (nm + 1) (nI k)
def adN (W Ld : Fm) (ns : Nat) (fog : Int32) (nr nm ne : Nat) (M L : Fm) (hou cro : Int32) (N : Rw) (h : Nat) : Nat → Int32 × Int32 × Rw
  | 0 => (-1, cmN W Ld ns fog nm ne M L hou cro N h, cnN W Ld ns fog nm ne M L hou cro N h)
  | k + 1 => (if cmN (adW W Ld M ns nr nm k) Ld ns fog (nm + 1) ne (adM Ld M nm k) L hou cro (adN W Ld ns fog nr nm ne M L hou cro N h k).2.2 h ≤ (adN W Ld ns fog nr nm ne M L hou cro N h k).2.1 then (adN W Ld ns fog nr nm ne M L hou cro N h k).1 else nI k, if cmN (adW W Ld M ns nr nm k) Ld ns fog (nm + 1) ne (adM Ld M nm k) L hou cro (adN W Ld ns fog nr nm ne M L hou cro N h k).2.2 h ≤ (adN W Ld ns fog nr nm ne M L hou cro N h k).2.1 then (adN W Ld ns fog nr nm ne M L hou cro N h k).2.1 else cmN (adW W Ld M ns nr nm k) Ld ns fog (nm + 1) ne (adM Ld M nm k) L hou cro (adN W Ld ns fog nr nm ne M L hou cro N h k).2.2 h, cnN (adW W Ld M ns nr nm k) Ld ns fog (nm + 1) ne (adM Ld M nm k) L hou cro (adN W Ld ns fog nr nm ne M L hou cro N h k).2.2 h)
