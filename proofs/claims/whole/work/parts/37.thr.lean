/-! the row of a throw -/
abbrev nmx : List String := ["java/lang/RuntimeException", "java/lang/Exception"]
theorem xwA_tab : xwA.all Cond.onTables = true := by decide +kernel
theorem thR {p : Program} {l : Launch} {e : Env} {R : Room} {s : State} {m : MethodId} {args : Array Value} {below : List Frame} {meth : Method} {c : Code} {H : Heap} {locs : List Loc} {cells slots : Nat} {Qc : Array Value → State → Outcome → State → Prop} {pc : Nat} {ls : Array Slot} {rest : List Value} {cc : ByteArray} {A0 : Nat → Prop} {D : GG} {ws : va_W} {er : Option String} {E text : String} {ik is ic mc ms : Nat}
    (hx : p.tables.exec = Jvm.exec) (hb : c.code = cc) (hl : l.stackTraces = false) (hown : s.vm.findClass RX6 = some m.cls) (hcls : Bundle.fit E = true) (hnames : ∀ n ∈ nmx, Bundle.fit n = true)
    (hk : (Cond.classLink RX6 ik E).before args s = true) (hini : (Cond.initialized E).before args s = true) (hSX : SX s) (hq : (is, text) ∈ tX) (hat : ∀ w ∈ (vx_atS RX6 ic E nmx).filter goodWord, w.before args s = true) (hB : ∀ w ∈ (vx_atS RX6 ic E nmx).filter (fun w => !goodWord w), w ∈ xwA) (hTX : TX s) (hZX : ZX A0 s s.heap)
    (hgood : ∀ w ∈ Cond.classLink RX6 ik E :: Cond.initialized E :: vx_atS RX6 ic E nmx, vx_ot w = true) (hP : va_P D.1 vwCl ws H) (hS : va_S A0 s.heap H locs) (hsize : ls.size = c.maxLocals)
    (d0 : decode cc pc = .ok (.new ik, 3)) (d3 : decode cc (pc + 3) = .ok (.dup, 1)) (d4 : decode cc (pc + 4) = .ok (.ldc is, 2)) (d6 : decode cc (pc + 6) = .ok (.invokespecial ic, 3)) (d9 : decode cc (pc + 9) = .ok (.athrow, 1))
    (hout : ∀ x ∈ c.exceptionTable.toList, covers x (pc + 9) = false)
    (hRframes : nmx.length + 3 < R.frames) (hRlocals : (rest.map fun v => v.category).sum + (13 * (nmx.length + 1) + 43) ≤ R.locals) (hRcells : cells + 1 ≤ R.cells) (hRslots : slots + 6 ≤ R.slots) (hlocks : meth.locks = false) (hc : cells + 1 ≤ mc) (hs : slots + 6 ≤ ms) (her : er = some E) :
    W p l e R s m args below meth c H locs cells slots (vx_MQ below Qc (XK D er ws A0) args s mc ms A0) (F0 m pc ls rest) := by
  obtain ⟨sa, hstr⟩ := hSX _ hq
  exact vx_throwS (A := A0) hx hb hl hown hcls hnames hk hini hstr (vx_hat hat hB (fun w hw => va_Nw.use (List.all_eq_true.mp xwA_tab w hw) (hTX w hw))) hgood hZX.1 hZX.2 hS hsize d0 d3 d4 d6 d9 hout hRframes hRlocals hRcells hRslots hlocks
    (fun t _ hz hk1 => ⟨her, hP.kept (fun k x hx1 => hk1 x.1 ((hP k x hx1).lt)), Nat.le_trans hS.1 hz, fun q h1 h2 => (hk1 q (Nat.lt_of_lt_of_le h1 hS.1)).trans (hS.2.1 q h1 h2)⟩) hS.2.2 hc hs
