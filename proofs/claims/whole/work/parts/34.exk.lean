/-! what a throw asks beside the good words -/
def xw : Cond → Bool
  | .lays .. => true
  | .declares _ => true
  | .castable .. => true
  | _ => false
theorem xw_warm {w : Cond} {s U : State} (hw : xw w = true) (hW : s.WarmedH U.vm) (h : va_Nw w s) : va_Nw w U := by
  match w, hw with
  | .castable a b, _ => exact va_Nw.warmC hW h
  | .declares x, _ => exact va_tabs rfl (rfl : (s.setVm U.vm).vm = U.vm) (by rw [Cond.declares_setVm hW.alike]; exact h)
  | .lays a b c d, _ => exact va_tabs rfl (rfl : (s.setVm U.vm).vm = U.vm) (Cond.lays_setVm hW.alike h)
theorem xw_same {w : Cond} {s U : State} (hw : xw w = true) (hv : s.vm = U.vm) (h : va_Nw w s) : va_Nw w U := by
  match w, hw with
  | .castable a b, _ => exact va_Nw.same rfl hv h
  | .declares x, _ => exact va_Nw.same rfl hv h
  | .lays a b c d, _ => exact va_Nw.same rfl hv h
def xwL (k : Nat) (E : String) : List Cond := (vx_atS RX6 k E ["java/lang/RuntimeException", "java/lang/Exception"]).filter (fun w => !goodWord w)
def xwA : List Cond := xwL 60 "java/lang/IndexOutOfBoundsException" ++ (xwL 36 "java/lang/IllegalArgumentException" ++ xwL 47 "java/lang/IllegalStateException")
theorem xwA_ok : xwA.all xw = true := by decide +kernel
/-- the words of every throw that aren't good words -/
def TX (U : State) : Prop := ∀ w ∈ xwA, va_Nw w U
theorem TX.warm {s U : State} (hW : s.WarmedH U.vm) (h : TX s) : TX U := fun w hw => xw_warm (List.all_eq_true.mp xwA_ok w hw) hW (h w hw)
theorem TX.same {s U : State} (hv : s.vm = U.vm) (h : TX s) : TX U := fun w hw => xw_same (List.all_eq_true.mp xwA_ok w hw) hv (h w hw)
