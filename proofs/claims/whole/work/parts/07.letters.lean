/-! what the small methods answer -/
def cI (P : Nat → Bool) : Nat → Int32
  | 0 => 0
  | k + 1 => if P k = true then cI P k + 1 else cI P k
def bW (st s : Int32) : Int32 := st ||| (1 <<< (s &&& 31))
def bN (st s : Int32) : Int32 := st &&& ((1 <<< (s &&& 31)) ^^^ (-1))
def bH (st s : Int32) : Bool := decide ((st >>> (s &&& 31)) &&& 1 = 1)
def inB (v lo hi : Int32) : Bool := !(decide (v < lo)) && !(decide (hi < v))
def isRecC (L : Nat → Nat → Int32) (l : Int32) : Bool := !(rg 60 (L 6) l == 0)
def endedC (L : Nat → Nat → Int32) (l : Int32) : Bool := !(rg 60 (L 9) l == -1)
def withC (L : Nat → Nat → Int32) (l m : Int32) : Bool := rg 60 (L 3) l == 1 && rg 60 (L 5) l == m
def goalC (L : Nat → Nat → Int32) (l : Int32) : Int32 := if rg 60 (L 7) l = 1 then rg 60 (L 0) l else rg 60 (L 1) l
def ansC (L : Nat → Nat → Int32) (a b : Int32) : Bool := rg 60 (L 0) a == rg 60 (L 1) b && rg 60 (L 0) b == rg 60 (L 1) a
def waitC (L : Nat → Nat → Int32) (n : Nat) (s : Int32) : Int32 := cI (fun k => rg 60 (L 3) (nI k) == 0 && rg 60 (L 4) (nI k) == s) n
def carrC (L : Nat → Nat → Int32) (n : Nat) (m : Int32) : Int32 := cI (fun k => withC L (nI k) m) n
def inStC (L : Nat → Nat → Int32) (n : Nat) (st : Int32) : Int32 := cI (fun k => rg 60 (L 3) (nI k) == st) n
def layC (L : Nat → Nat → Int32) (l s h : Int32) : Nat → Nat → Int32 :=
  if s = goalC L l then sr (sr (sr (sr L 4 (rs 60 (L 4) l s)) 5 (rs 60 (L 5) l (-1))) 3 (rs 60 (L 3) l (if rg 60 (L 7) l = 1 then 3 else 2))) 9 (rs 60 (L 9) l h)
  else sr (sr (sr L 4 (rs 60 (L 4) l s)) 5 (rs 60 (L 5) l (-1))) 3 (rs 60 (L 3) l 0)
def turnC (L : Nat → Nat → Int32) (l h : Int32) : Nat → Nat → Int32 := layC (sr L 7 (rs 60 (L 7) l 1)) l (rg 60 (L 4) l) h
set_option maxHeartbeats 4000000 in
set_option maxRecDepth 100000 in
theorem c_X3_get (l : Launch) (D : GG) (o : Nat) (a : Nat) (n : Nat) (f : Nat → Int32) (p1 : Int32) (hn : n < 2 ^ 31) : Met l yX3_get wsX3_get ({ frames := 0, cells := 0, slots := 0, locals := 0 } : Room) (va_Pc [.ref o, .int p1] (wd D (wRow D o a n f))) (RP (.int (rg n f p1))) 0 0 (fun _ => False) := by
  refine Met.ofW (cc := cX3_get) (maxL := 2) (ret := (some .int)) (by decide) rfl ?_
  intro p e s m args below meth c s₁ B hml hv
  obtain ⟨rfl, hP, hK, hD, hN⟩ := hv
  have hx := B.exec
  have hb := B.bytes
  have hr := B.returns
  have hts := atoms_spec (ws := wsX3_get) B.pre
  have hown : s.vm.findClass RX3 = some m.cls := findClass_of_methodNamed B.named
  have hlocks := B.notSynchronized
  have hinX3 : ∀ w ∈ u_ws RX3 TX3 1, w ∈ wsX3_get := by decide +kernel
  have hl := lv_entry ([.ref o, .int p1]) (n := 2) (Nat.le_of_ble_eq_true rfl)
  rw [lg_entry_eq]
  generalize (lg_sl ([.ref o, .int p1]) ++ List.replicate (2 - (lg_sl ([.ref o, .int p1])).length) Slot.unset).toArray = ls at hl ⊢
  have hl : lv_has ls 2 [(0, .ref o), (1, .int p1)] := hl
  refine lv_iload_n hx hb dX3_get_0 rfl (lv_at hl 1 rfl) ?_
  refine lv_if_lt (tgt := 22) hx hb dX3_get_1 (by decide) (fun c1 => ?_) (fun c1 => ?_)
  · refine lv_iconst (v := 0) hx hb dX3_get_22 (by decide) ?_
    exact eI hx hb hr hlocks dX3_get_23 (by first | exact (rg_lt (by assumption)).symm | exact (rg_ge (by assumption) (by assumption) hn).symm | exact (rg_in (by assumption) (by assumption) hn).symm)
  · refine lv_iload_n hx hb dX3_get_4 rfl (lv_at hl 1 rfl) ?_
    refine lv_aload_n hx hb dX3_get_5 rfl (lv_at hl 0 rfl) ?_
    refine va_get (D := D.1) (ci := 3) (v := .ref a) (C := RX3) (T := TX3) (N := 1) hx hb hts hinX3 hown hK hP 0 rfl rfl 0 (by decide) (hts (.fieldLink RX3 13 "MountainPost$Row" "cells" "[I") (List.mem_of_getElem? (i := 1) rfl)) (fun _ h9 => h9) rfl dX3_get_6 ?_
    refine va_alen (D := D.1) (v := (nI n)) hx hb hK hP 1 0 rfl rfl rfl dX3_get_9 ?_
    refine lv_icmp_ge (tgt := 22) hx hb dX3_get_10 (by decide) (fun c2 => ?_) (fun c2 => ?_)
    · refine lv_iconst (v := 0) hx hb dX3_get_22 (by decide) ?_
      exact eI hx hb hr hlocks dX3_get_23 (by first | exact (rg_lt (by assumption)).symm | exact (rg_ge (by assumption) (by assumption) hn).symm | exact (rg_in (by assumption) (by assumption) hn).symm)
    · refine lv_aload_n hx hb dX3_get_13 rfl (lv_at hl 0 rfl) ?_
      refine va_get (D := D.1) (ci := 3) (v := .ref a) (C := RX3) (T := TX3) (N := 1) hx hb hts hinX3 hown hK hP 0 rfl rfl 0 (by decide) (hts (.fieldLink RX3 13 "MountainPost$Row" "cells" "[I") (List.mem_of_getElem? (i := 1) rfl)) (fun _ h9 => h9) rfl dX3_get_14 ?_
      refine lv_iload_n hx hb dX3_get_17 rfl (lv_at hl 1 rfl) ?_
      refine va_iald (D := D.1) hx hb hK hP 1 0 rfl rfl (vin (by assumption) (by assumption) hn) dX3_get_18 ?_
      refine lv_goto (tgt := 23) hx hb dX3_get_19 (by decide) ?_
      exact eI hx hb hr hlocks dX3_get_23 (by first | exact (rg_lt (by assumption)).symm | exact (rg_ge (by assumption) (by assumption) hn).symm | exact (rg_in (by assumption) (by assumption) hn).symm)

set_option maxHeartbeats 4000000 in
set_option maxRecDepth 100000 in
theorem c_X3_set (l : Launch) (D : GG) (o : Nat) (a : Nat) (n : Nat) (f : Nat → Int32) (p1 : Int32) (p2 : Int32) (hn : n < 2 ^ 31) : Met l yX3_set wsX3_set ({ frames := 0, cells := 0, slots := 0, locals := 0 } : Room) (va_Pc [.ref o, .int p1, .int p2] (wd D (wRow D o a n f))) (QW D none (wRow D o a n (rs n f p1 p2)) (own (wRow D o a n f))) 0 0 (own (wRow D o a n f)) := by
  refine Met.ofW (cc := cX3_set) (maxL := 3) (ret := none) (by decide) rfl ?_
  intro p e s m args below meth c s₁ B hml hv
  obtain ⟨rfl, hP, hK, hD, hN⟩ := hv
  have hx := B.exec
  have hb := B.bytes
  have hr := B.returns
  have hts := atoms_spec (ws := wsX3_set) B.pre
  have hown : s.vm.findClass RX3 = some m.cls := findClass_of_methodNamed B.named
  have hlocks := B.notSynchronized
  have hinX3 : ∀ w ∈ u_ws RX3 TX3 1, w ∈ wsX3_set := by decide +kernel
  have hS : va_S (own (wRow D o a n f)) s.heap s.heap [] := va_S.rf
  have hD : va_D (own (wRow D o a n f)) (wRow D o a n f) := toOwn hD
  generalize hAe : own (wRow D o a n f) = A0 at hD hS ⊢
  have hl := lv_entry ([.ref o, .int p1, .int p2]) (n := 3) (Nat.le_of_ble_eq_true rfl)
  rw [lg_entry_eq]
  generalize (lg_sl ([.ref o, .int p1, .int p2]) ++ List.replicate (3 - (lg_sl ([.ref o, .int p1, .int p2])).length) Slot.unset).toArray = ls at hl ⊢
  have hl : lv_has ls 3 [(0, .ref o), (1, .int p1), (2, .int p2)] := hl
  refine lv_iload_n hx hb dX3_set_0 rfl (lv_at hl 1 rfl) ?_
  refine lv_if_lt (tgt := 20) hx hb dX3_set_1 (by decide) (fun c1 => ?_) (fun c1 => ?_)
  · exact eWv hx hb hr hlocks dX3_set_20 hS hP (by first | rw [rs_lt (by assumption)] | rw [rs_ge (by assumption) (by assumption) hn] | rw [rs_in (by assumption) (by assumption) hn])
  · refine lv_iload_n hx hb dX3_set_4 rfl (lv_at hl 1 rfl) ?_
    refine lv_aload_n hx hb dX3_set_5 rfl (lv_at hl 0 rfl) ?_
    refine va_get (D := D.1) (ci := 3) (v := .ref a) (C := RX3) (T := TX3) (N := 1) hx hb hts hinX3 hown hK hP 0 rfl rfl 0 (by decide) (hts (.fieldLink RX3 13 "MountainPost$Row" "cells" "[I") (List.mem_of_getElem? (i := 1) rfl)) (fun _ h9 => h9) rfl dX3_set_6 ?_
    refine va_alen (D := D.1) (v := (nI n)) hx hb hK hP 1 0 rfl rfl rfl dX3_set_9 ?_
    refine lv_icmp_ge (tgt := 20) hx hb dX3_set_10 (by decide) (fun c2 => ?_) (fun c2 => ?_)
    · exact eWv hx hb hr hlocks dX3_set_20 hS hP (by first | rw [rs_lt (by assumption)] | rw [rs_ge (by assumption) (by assumption) hn] | rw [rs_in (by assumption) (by assumption) hn])
    · refine lv_aload_n hx hb dX3_set_13 rfl (lv_at hl 0 rfl) ?_
      refine va_get (D := D.1) (ci := 3) (v := .ref a) (C := RX3) (T := TX3) (N := 1) hx hb hts hinX3 hown hK hP 0 rfl rfl 0 (by decide) (hts (.fieldLink RX3 13 "MountainPost$Row" "cells" "[I") (List.mem_of_getElem? (i := 1) rfl)) (fun _ h9 => h9) rfl dX3_set_14 ?_
      refine lv_iload_n hx hb dX3_set_17 rfl (lv_at hl 1 rfl) ?_
      refine lv_iload_n hx hb dX3_set_18 rfl (lv_at hl 2 rfl) ?_
      refine va_iast (D := D.1) hx hb hK hP hD hS 1 0 rfl rfl (vin (by assumption) (by assumption) hn) dX3_set_19 (fun H locs hP hD hS => ?_)
      have hP : va_P D.1 vwCl (wRow D o a n (upd f p1.toNatClampNeg p2)) H := hP
      have hD : va_D A0 (wRow D o a n (upd f p1.toNatClampNeg p2)) := hD
      exact eWv hx hb hr hlocks dX3_set_20 hS hP (by first | rw [rs_lt (by assumption)] | rw [rs_ge (by assumption) (by assumption) hn] | rw [rs_in (by assumption) (by assumption) hn])

set_option maxHeartbeats 4000000 in
set_option maxRecDepth 100000 in
theorem c_X6_with (l : Launch) (D : GG) (p0 : Int32) (p1 : Int32)  : Met l yX6_with wsX6_with ({ frames := 0, cells := 0, slots := 0, locals := 0 } : Room) (va_Pc [.int p0, .int p1] (wd D [])) (RP (.int (bW p0 p1))) 0 0 (fun _ => False) := by
  refine Met.ofW (cc := cX6_with) (maxL := 2) (ret := (some .int)) (by decide) rfl ?_
  intro p e s m args below meth c s₁ B hml hv
  obtain ⟨rfl, hP, hK, hD, hN⟩ := hv
  have hx := B.exec
  have hb := B.bytes
  have hr := B.returns
  have hts := atoms_spec (ws := wsX6_with) B.pre
  have hown : s.vm.findClass RX6 = some m.cls := findClass_of_methodNamed B.named
  have hlocks := B.notSynchronized
  have hl := lv_entry ([.int p0, .int p1]) (n := 2) (Nat.le_of_ble_eq_true rfl)
  rw [lg_entry_eq]
  generalize (lg_sl ([.int p0, .int p1]) ++ List.replicate (2 - (lg_sl ([.int p0, .int p1])).length) Slot.unset).toArray = ls at hl ⊢
  have hl : lv_has ls 2 [(0, .int p0), (1, .int p1)] := hl
  refine lv_iload_n hx hb dX6_with_0 rfl (lv_at hl 0 rfl) ?_
  refine lv_iconst (v := 1) hx hb dX6_with_1 (by decide) ?_
  refine lv_iload_n hx hb dX6_with_2 rfl (lv_at hl 1 rfl) ?_
  refine lv_ishl hx hb dX6_with_3 ?_
  refine lv_ior hx hb dX6_with_4 ?_
  exact eI hx hb hr hlocks dX6_with_5 (by rfl)

set_option maxHeartbeats 4000000 in
set_option maxRecDepth 100000 in
theorem c_X6_without (l : Launch) (D : GG) (p0 : Int32) (p1 : Int32)  : Met l yX6_without wsX6_without ({ frames := 0, cells := 0, slots := 0, locals := 0 } : Room) (va_Pc [.int p0, .int p1] (wd D [])) (RP (.int (bN p0 p1))) 0 0 (fun _ => False) := by
  refine Met.ofW (cc := cX6_without) (maxL := 2) (ret := (some .int)) (by decide) rfl ?_
  intro p e s m args below meth c s₁ B hml hv
  obtain ⟨rfl, hP, hK, hD, hN⟩ := hv
  have hx := B.exec
  have hb := B.bytes
  have hr := B.returns
  have hts := atoms_spec (ws := wsX6_without) B.pre
  have hown : s.vm.findClass RX6 = some m.cls := findClass_of_methodNamed B.named
  have hlocks := B.notSynchronized
  have hl := lv_entry ([.int p0, .int p1]) (n := 2) (Nat.le_of_ble_eq_true rfl)
  rw [lg_entry_eq]
  generalize (lg_sl ([.int p0, .int p1]) ++ List.replicate (2 - (lg_sl ([.int p0, .int p1])).length) Slot.unset).toArray = ls at hl ⊢
  have hl : lv_has ls 2 [(0, .int p0), (1, .int p1)] := hl
  refine lv_iload_n hx hb dX6_without_0 rfl (lv_at hl 0 rfl) ?_
  refine lv_iconst (v := 1) hx hb dX6_without_1 (by decide) ?_
  refine lv_iload_n hx hb dX6_without_2 rfl (lv_at hl 1 rfl) ?_
  refine lv_ishl hx hb dX6_without_3 ?_
  refine lv_iconst (v := (-1)) hx hb dX6_without_4 (by decide) ?_
  refine lv_ixor hx hb dX6_without_5 ?_
  refine lv_iand hx hb dX6_without_6 ?_
  exact eI hx hb hr hlocks dX6_without_7 (by rfl)

set_option maxHeartbeats 4000000 in
set_option maxRecDepth 100000 in
theorem c_X6_has (l : Launch) (D : GG) (p0 : Int32) (p1 : Int32)  : Met l yX6_has wsX6_has ({ frames := 0, cells := 0, slots := 0, locals := 0 } : Room) (va_Pc [.int p0, .int p1] (wd D [])) (RP (.int (z2 (bH p0 p1)))) 0 0 (fun _ => False) := by
  refine Met.ofW (cc := cX6_has) (maxL := 2) (ret := (some .boolean)) (by decide) rfl ?_
  intro p e s m args below meth c s₁ B hml hv
  obtain ⟨rfl, hP, hK, hD, hN⟩ := hv
  have hx := B.exec
  have hb := B.bytes
  have hr := B.returns
  have hts := atoms_spec (ws := wsX6_has) B.pre
  have hown : s.vm.findClass RX6 = some m.cls := findClass_of_methodNamed B.named
  have hlocks := B.notSynchronized
  have hl := lv_entry ([.int p0, .int p1]) (n := 2) (Nat.le_of_ble_eq_true rfl)
  rw [lg_entry_eq]
  generalize (lg_sl ([.int p0, .int p1]) ++ List.replicate (2 - (lg_sl ([.int p0, .int p1])).length) Slot.unset).toArray = ls at hl ⊢
  have hl : lv_has ls 2 [(0, .int p0), (1, .int p1)] := hl
  refine lv_iload_n hx hb dX6_has_0 rfl (lv_at hl 0 rfl) ?_
  refine lv_iload_n hx hb dX6_has_1 rfl (lv_at hl 1 rfl) ?_
  refine lv_ishr hx hb dX6_has_2 ?_
  refine lv_iconst (v := 1) hx hb dX6_has_3 (by decide) ?_
  refine lv_iand hx hb dX6_has_4 ?_
  refine lv_iconst (v := 1) hx hb dX6_has_5 (by decide) ?_
  refine lv_icmp_ne (tgt := 13) hx hb dX6_has_6 (by decide) (fun c1 => ?_) (fun c1 => ?_)
  · refine lv_iconst (v := 0) hx hb dX6_has_13 (by decide) ?_
    exact eZ hx hb hr hlocks dX6_has_14 (by simp [bH, z2, c1])
  · refine lv_iconst (v := 1) hx hb dX6_has_9 (by decide) ?_
    refine lv_goto (tgt := 14) hx hb dX6_has_10 (by decide) ?_
    exact eZ hx hb hr hlocks dX6_has_14 (by simp [bH, z2, c1])

set_option maxHeartbeats 4000000 in
set_option maxRecDepth 100000 in
theorem c_X6_isWithin (l : Launch) (D : GG) (p0 : Int32) (p1 : Int32) (p2 : Int32)  : Met l yX6_isWithin wsX6_isWithin ({ frames := 0, cells := 0, slots := 0, locals := 0 } : Room) (va_Pc [.int p0, .int p1, .int p2] (wd D [])) (RP (.int (z2 (inB p0 p1 p2)))) 0 0 (fun _ => False) := by
  refine Met.ofW (cc := cX6_isWithin) (maxL := 3) (ret := (some .boolean)) (by decide) rfl ?_
  intro p e s m args below meth c s₁ B hml hv
  obtain ⟨rfl, hP, hK, hD, hN⟩ := hv
  have hx := B.exec
  have hb := B.bytes
  have hr := B.returns
  have hts := atoms_spec (ws := wsX6_isWithin) B.pre
  have hown : s.vm.findClass RX6 = some m.cls := findClass_of_methodNamed B.named
  have hlocks := B.notSynchronized
  have hl := lv_entry ([.int p0, .int p1, .int p2]) (n := 3) (Nat.le_of_ble_eq_true rfl)
  rw [lg_entry_eq]
  generalize (lg_sl ([.int p0, .int p1, .int p2]) ++ List.replicate (3 - (lg_sl ([.int p0, .int p1, .int p2])).length) Slot.unset).toArray = ls at hl ⊢
  have hl : lv_has ls 3 [(0, .int p0), (1, .int p1), (2, .int p2)] := hl
  refine lv_iload_n hx hb dX6_isWithin_0 rfl (lv_at hl 0 rfl) ?_
  refine lv_iload_n hx hb dX6_isWithin_1 rfl (lv_at hl 1 rfl) ?_
  refine lv_icmp_lt (tgt := 14) hx hb dX6_isWithin_2 (by decide) (fun c1 => ?_) (fun c1 => ?_)
  · refine lv_iconst (v := 0) hx hb dX6_isWithin_14 (by decide) ?_
    exact eZ hx hb hr hlocks dX6_isWithin_15 (by simp [inB, z2, c1])
  · refine lv_iload_n hx hb dX6_isWithin_5 rfl (lv_at hl 0 rfl) ?_
    refine lv_iload_n hx hb dX6_isWithin_6 rfl (lv_at hl 2 rfl) ?_
    refine lv_icmp_gt (tgt := 14) hx hb dX6_isWithin_7 (by decide) (fun c2 => ?_) (fun c2 => ?_)
    · refine lv_iconst (v := 0) hx hb dX6_isWithin_14 (by decide) ?_
      exact eZ hx hb hr hlocks dX6_isWithin_15 (by simp [inB, z2, c1, c2])
    · refine lv_iconst (v := 1) hx hb dX6_isWithin_10 (by decide) ?_
      refine lv_goto (tgt := 15) hx hb dX6_isWithin_11 (by decide) ?_
      exact eZ hx hb hr hlocks dX6_isWithin_15 (by simp [inB, z2, c1, c2])

set_option maxHeartbeats 4000000 in
set_option maxRecDepth 100000 in
theorem c_X1_isRecalled (l : Launch) (D : GG) (Ae : Nat → Nat) (ne : Nat) (Le : Nat → Nat → Int32) (p1 : Int32)  : Met l yX1_isRecalled wsX1_isRecalled ({ frames := 1, cells := 0, slots := 0, locals := 21 } : Room) (va_Pc [.ref (Ae 0), .int p1] (wd D (wLet D Ae ne Le))) (RP (.int (z2 (isRecC Le p1)))) 0 0 (fun _ => False) := by
  refine Met.ofW (cc := cX1_isRecalled) (maxL := 2) (ret := (some .boolean)) (by decide) rfl ?_
  intro p e s m args below meth c s₁ B hml hv
  obtain ⟨rfl, hP, hK, hD, hN⟩ := hv
  have hx := B.exec
  have hb := B.bytes
  have hr := B.returns
  have hts := atoms_spec (ws := wsX1_isRecalled) B.pre
  have hown : s.vm.findClass RX1 = some m.cls := findClass_of_methodNamed B.named
  have hlocks := B.notSynchronized
  have hinX1 : ∀ w ∈ u_ws RX1 TX1 12, w ∈ wsX1_isRecalled := by decide +kernel
  have hl := lv_entry ([.ref (Ae 0), .int p1]) (n := 2) (Nat.le_of_ble_eq_true rfl)
  rw [lg_entry_eq]
  generalize (lg_sl ([.ref (Ae 0), .int p1]) ++ List.replicate (2 - (lg_sl ([.ref (Ae 0), .int p1])).length) Slot.unset).toArray = ls at hl ⊢
  have hl : lv_has ls 2 [(0, .ref (Ae 0)), (1, .int p1)] := hl
  refine lv_aload_n hx hb dX1_isRecalled_0 rfl (lv_at hl 0 rfl) ?_
  refine va_get (D := D.1) (ci := 1) (v := .ref (Ae 7)) (C := RX1) (T := TX1) (N := 12) hx hb hts hinX1 hown hK hP 0 rfl rfl 7 (by decide) (hts (.fieldLink RX1 35 "MountainPost$Letters" "knowers" "LMountainPost$Row;") (List.mem_of_getElem? (i := 1) rfl)) (fun _ h9 => h9) rfl dX1_isRecalled_1 ?_
  refine lv_iload_n hx hb dX1_isRecalled_4 rfl (lv_at hl 1 rfl) ?_
  refine kVp ⟨hx, hb, hml, hown, hts⟩ (c_X3_get l D (Ae 7) (Ae 18) 60 (Le 6) p1 (by decide)) (cwV 1 hts gX1_isRecalled_X3_get rfl rfl rfl (by decide +kernel) ⟨Nat.le_of_ble_eq_true rfl, Nat.le_of_ble_eq_true rfl⟩) hK hN hP hD sbLet6 3 0 rfl rfl rfl hl.1 (Nat.le_of_ble_eq_true rfl) ⟨Nat.zero_le _, Nat.zero_le _⟩ dX1_isRecalled_5 ?_ rfl
  refine lv_if_eq (tgt := 15) hx hb dX1_isRecalled_8 (by decide) (fun c1 => ?_) (fun c1 => ?_)
  · refine lv_iconst (v := 0) hx hb dX1_isRecalled_15 (by decide) ?_
    exact eZ hx hb hr hlocks dX1_isRecalled_16 (by simp [isRecC, z2, c1])
  · refine lv_iconst (v := 1) hx hb dX1_isRecalled_11 (by decide) ?_
    refine lv_goto (tgt := 16) hx hb dX1_isRecalled_12 (by decide) ?_
    exact eZ hx hb hr hlocks dX1_isRecalled_16 (by simp [isRecC, z2, c1])

set_option maxHeartbeats 4000000 in
set_option maxRecDepth 100000 in
theorem c_X1_hasEnded (l : Launch) (D : GG) (Ae : Nat → Nat) (ne : Nat) (Le : Nat → Nat → Int32) (p1 : Int32)  : Met l yX1_hasEnded wsX1_hasEnded ({ frames := 1, cells := 0, slots := 0, locals := 21 } : Room) (va_Pc [.ref (Ae 0), .int p1] (wd D (wLet D Ae ne Le))) (RP (.int (z2 (endedC Le p1)))) 0 0 (fun _ => False) := by
  refine Met.ofW (cc := cX1_hasEnded) (maxL := 2) (ret := (some .boolean)) (by decide) rfl ?_
  intro p e s m args below meth c s₁ B hml hv
  obtain ⟨rfl, hP, hK, hD, hN⟩ := hv
  have hx := B.exec
  have hb := B.bytes
  have hr := B.returns
  have hts := atoms_spec (ws := wsX1_hasEnded) B.pre
  have hown : s.vm.findClass RX1 = some m.cls := findClass_of_methodNamed B.named
  have hlocks := B.notSynchronized
  have hinX1 : ∀ w ∈ u_ws RX1 TX1 12, w ∈ wsX1_hasEnded := by decide +kernel
  have hl := lv_entry ([.ref (Ae 0), .int p1]) (n := 2) (Nat.le_of_ble_eq_true rfl)
  rw [lg_entry_eq]
  generalize (lg_sl ([.ref (Ae 0), .int p1]) ++ List.replicate (2 - (lg_sl ([.ref (Ae 0), .int p1])).length) Slot.unset).toArray = ls at hl ⊢
  have hl : lv_has ls 2 [(0, .ref (Ae 0)), (1, .int p1)] := hl
  refine lv_aload_n hx hb dX1_hasEnded_0 rfl (lv_at hl 0 rfl) ?_
  refine va_get (D := D.1) (ci := 1) (v := .ref (Ae 10)) (C := RX1) (T := TX1) (N := 12) hx hb hts hinX1 hown hK hP 0 rfl rfl 10 (by decide) (hts (.fieldLink RX1 44 "MountainPost$Letters" "hoursEnded" "LMountainPost$Row;") (List.mem_of_getElem? (i := 1) rfl)) (fun _ h9 => h9) rfl dX1_hasEnded_1 ?_
  refine lv_iload_n hx hb dX1_hasEnded_4 rfl (lv_at hl 1 rfl) ?_
  refine kVp ⟨hx, hb, hml, hown, hts⟩ (c_X3_get l D (Ae 10) (Ae 21) 60 (Le 9) p1 (by decide)) (cwV 1 hts gX1_hasEnded_X3_get rfl rfl rfl (by decide +kernel) ⟨Nat.le_of_ble_eq_true rfl, Nat.le_of_ble_eq_true rfl⟩) hK hN hP hD sbLet9 3 0 rfl rfl rfl hl.1 (Nat.le_of_ble_eq_true rfl) ⟨Nat.zero_le _, Nat.zero_le _⟩ dX1_hasEnded_5 ?_ rfl
  refine lv_iconst (v := (-1)) hx hb dX1_hasEnded_8 (by decide) ?_
  refine lv_icmp_eq (tgt := 16) hx hb dX1_hasEnded_9 (by decide) (fun c1 => ?_) (fun c1 => ?_)
  · refine lv_iconst (v := 0) hx hb dX1_hasEnded_16 (by decide) ?_
    exact eZ hx hb hr hlocks dX1_hasEnded_17 (by simp [endedC, z2, c1])
  · refine lv_iconst (v := 1) hx hb dX1_hasEnded_12 (by decide) ?_
    refine lv_goto (tgt := 17) hx hb dX1_hasEnded_13 (by decide) ?_
    exact eZ hx hb hr hlocks dX1_hasEnded_17 (by simp [endedC, z2, c1])

set_option maxHeartbeats 4000000 in
set_option maxRecDepth 100000 in
theorem c_X1_isWith (l : Launch) (D : GG) (Ae : Nat → Nat) (ne : Nat) (Le : Nat → Nat → Int32) (p1 : Int32) (p2 : Int32)  : Met l yX1_isWith wsX1_isWith ({ frames := 1, cells := 0, slots := 0, locals := 21 } : Room) (va_Pc [.ref (Ae 0), .int p1, .int p2] (wd D (wLet D Ae ne Le))) (RP (.int (z2 (withC Le p1 p2)))) 0 0 (fun _ => False) := by
  refine Met.ofW (cc := cX1_isWith) (maxL := 3) (ret := (some .boolean)) (by decide) rfl ?_
  intro p e s m args below meth c s₁ B hml hv
  obtain ⟨rfl, hP, hK, hD, hN⟩ := hv
  have hx := B.exec
  have hb := B.bytes
  have hr := B.returns
  have hts := atoms_spec (ws := wsX1_isWith) B.pre
  have hown : s.vm.findClass RX1 = some m.cls := findClass_of_methodNamed B.named
  have hlocks := B.notSynchronized
  have hinX1 : ∀ w ∈ u_ws RX1 TX1 12, w ∈ wsX1_isWith := by decide +kernel
  have hl := lv_entry ([.ref (Ae 0), .int p1, .int p2]) (n := 3) (Nat.le_of_ble_eq_true rfl)
  rw [lg_entry_eq]
  generalize (lg_sl ([.ref (Ae 0), .int p1, .int p2]) ++ List.replicate (3 - (lg_sl ([.ref (Ae 0), .int p1, .int p2])).length) Slot.unset).toArray = ls at hl ⊢
  have hl : lv_has ls 3 [(0, .ref (Ae 0)), (1, .int p1), (2, .int p2)] := hl
  refine lv_aload_n hx hb dX1_isWith_0 rfl (lv_at hl 0 rfl) ?_
  refine va_get (D := D.1) (ci := 1) (v := .ref (Ae 4)) (C := RX1) (T := TX1) (N := 12) hx hb hts hinX1 hown hK hP 0 rfl rfl 4 (by decide) (hts (.fieldLink RX1 26 "MountainPost$Letters" "states" "LMountainPost$Row;") (List.mem_of_getElem? (i := 1) rfl)) (fun _ h9 => h9) rfl dX1_isWith_1 ?_
  refine lv_iload_n hx hb dX1_isWith_4 rfl (lv_at hl 1 rfl) ?_
  refine kVp ⟨hx, hb, hml, hown, hts⟩ (c_X3_get l D (Ae 4) (Ae 15) 60 (Le 3) p1 (by decide)) (cwV 1 hts gX1_isWith_X3_get rfl rfl rfl (by decide +kernel) ⟨Nat.le_of_ble_eq_true rfl, Nat.le_of_ble_eq_true rfl⟩) hK hN hP hD sbLet3 3 0 rfl rfl rfl hl.1 (Nat.le_of_ble_eq_true rfl) ⟨Nat.zero_le _, Nat.zero_le _⟩ dX1_isWith_5 ?_ rfl
  refine lv_iconst (v := 1) hx hb dX1_isWith_8 (by decide) ?_
  refine lv_icmp_ne (tgt := 28) hx hb dX1_isWith_9 (by decide) (fun c1 => ?_) (fun c1 => ?_)
  · refine lv_iconst (v := 0) hx hb dX1_isWith_28 (by decide) ?_
    exact eZ hx hb hr hlocks dX1_isWith_29 (by simp [withC, z2, c1])
  · refine lv_aload_n hx hb dX1_isWith_12 rfl (lv_at hl 0 rfl) ?_
    refine va_get (D := D.1) (ci := 1) (v := .ref (Ae 6)) (C := RX1) (T := TX1) (N := 12) hx hb hts hinX1 hown hK hP 0 rfl rfl 6 (by decide) (hts (.fieldLink RX1 32 "MountainPost$Letters" "carriers" "LMountainPost$Row;") (List.mem_of_getElem? (i := 2) rfl)) (fun _ h9 => h9) rfl dX1_isWith_13 ?_
    refine lv_iload_n hx hb dX1_isWith_16 rfl (lv_at hl 1 rfl) ?_
    refine kVp ⟨hx, hb, hml, hown, hts⟩ (c_X3_get l D (Ae 6) (Ae 17) 60 (Le 5) p1 (by decide)) (cwV 1 hts gX1_isWith_X3_get rfl rfl rfl (by decide +kernel) ⟨Nat.le_of_ble_eq_true rfl, Nat.le_of_ble_eq_true rfl⟩) hK hN hP hD sbLet5 3 0 rfl rfl rfl hl.1 (Nat.le_of_ble_eq_true rfl) ⟨Nat.zero_le _, Nat.zero_le _⟩ dX1_isWith_17 ?_ rfl
    refine lv_iload_n hx hb dX1_isWith_20 rfl (lv_at hl 2 rfl) ?_
    refine lv_icmp_ne (tgt := 28) hx hb dX1_isWith_21 (by decide) (fun c2 => ?_) (fun c2 => ?_)
    · refine lv_iconst (v := 0) hx hb dX1_isWith_28 (by decide) ?_
      exact eZ hx hb hr hlocks dX1_isWith_29 (by simp [withC, z2, c1, c2])
    · refine lv_iconst (v := 1) hx hb dX1_isWith_24 (by decide) ?_
      refine lv_goto (tgt := 29) hx hb dX1_isWith_25 (by decide) ?_
      exact eZ hx hb hr hlocks dX1_isWith_29 (by simp [withC, z2, c1, c2])

set_option maxHeartbeats 4000000 in
set_option maxRecDepth 100000 in
theorem c_X1_goal (l : Launch) (D : GG) (Ae : Nat → Nat) (ne : Nat) (Le : Nat → Nat → Int32) (p1 : Int32)  : Met l yX1_goal wsX1_goal ({ frames := 1, cells := 0, slots := 0, locals := 21 } : Room) (va_Pc [.ref (Ae 0), .int p1] (wd D (wLet D Ae ne Le))) (RP (.int (goalC Le p1))) 0 0 (fun _ => False) := by
  refine Met.ofW (cc := cX1_goal) (maxL := 2) (ret := (some .int)) (by decide) rfl ?_
  intro p e s m args below meth c s₁ B hml hv
  obtain ⟨rfl, hP, hK, hD, hN⟩ := hv
  have hx := B.exec
  have hb := B.bytes
  have hr := B.returns
  have hts := atoms_spec (ws := wsX1_goal) B.pre
  have hown : s.vm.findClass RX1 = some m.cls := findClass_of_methodNamed B.named
  have hlocks := B.notSynchronized
  have hinX1 : ∀ w ∈ u_ws RX1 TX1 12, w ∈ wsX1_goal := by decide +kernel
  have hl := lv_entry ([.ref (Ae 0), .int p1]) (n := 2) (Nat.le_of_ble_eq_true rfl)
  rw [lg_entry_eq]
  generalize (lg_sl ([.ref (Ae 0), .int p1]) ++ List.replicate (2 - (lg_sl ([.ref (Ae 0), .int p1])).length) Slot.unset).toArray = ls at hl ⊢
  have hl : lv_has ls 2 [(0, .ref (Ae 0)), (1, .int p1)] := hl
  refine lv_aload_n hx hb dX1_goal_0 rfl (lv_at hl 0 rfl) ?_
  refine va_get (D := D.1) (ci := 1) (v := .ref (Ae 8)) (C := RX1) (T := TX1) (N := 12) hx hb hts hinX1 hown hK hP 0 rfl rfl 8 (by decide) (hts (.fieldLink RX1 38 "MountainPost$Letters" "turned" "LMountainPost$Row;") (List.mem_of_getElem? (i := 1) rfl)) (fun _ h9 => h9) rfl dX1_goal_1 ?_
  refine lv_iload_n hx hb dX1_goal_4 rfl (lv_at hl 1 rfl) ?_
  refine kVp ⟨hx, hb, hml, hown, hts⟩ (c_X3_get l D (Ae 8) (Ae 19) 60 (Le 7) p1 (by decide)) (cwV 1 hts gX1_goal_X3_get rfl rfl rfl (by decide +kernel) ⟨Nat.le_of_ble_eq_true rfl, Nat.le_of_ble_eq_true rfl⟩) hK hN hP hD sbLet7 3 0 rfl rfl rfl hl.1 (Nat.le_of_ble_eq_true rfl) ⟨Nat.zero_le _, Nat.zero_le _⟩ dX1_goal_5 ?_ rfl
  refine lv_iconst (v := 1) hx hb dX1_goal_8 (by decide) ?_
  refine lv_icmp_ne (tgt := 23) hx hb dX1_goal_9 (by decide) (fun c1 => ?_) (fun c1 => ?_)
  · refine lv_aload_n hx hb dX1_goal_23 rfl (lv_at hl 0 rfl) ?_
    refine va_get (D := D.1) (ci := 1) (v := .ref (Ae 2)) (C := RX1) (T := TX1) (N := 12) hx hb hts hinX1 hown hK hP 0 rfl rfl 2 (by decide) (hts (.fieldLink RX1 20 "MountainPost$Letters" "tos" "LMountainPost$Row;") (List.mem_of_getElem? (i := 3) rfl)) (fun _ h9 => h9) rfl dX1_goal_24 ?_
    refine lv_iload_n hx hb dX1_goal_27 rfl (lv_at hl 1 rfl) ?_
    refine kVp ⟨hx, hb, hml, hown, hts⟩ (c_X3_get l D (Ae 2) (Ae 13) 60 (Le 1) p1 (by decide)) (cwV 1 hts gX1_goal_X3_get rfl rfl rfl (by decide +kernel) ⟨Nat.le_of_ble_eq_true rfl, Nat.le_of_ble_eq_true rfl⟩) hK hN hP hD sbLet1 3 0 rfl rfl rfl hl.1 (Nat.le_of_ble_eq_true rfl) ⟨Nat.zero_le _, Nat.zero_le _⟩ dX1_goal_28 ?_ rfl
    exact eI hx hb hr hlocks dX1_goal_31 (by simp [goalC, c1])
  · refine lv_aload_n hx hb dX1_goal_12 rfl (lv_at hl 0 rfl) ?_
    refine va_get (D := D.1) (ci := 1) (v := .ref (Ae 1)) (C := RX1) (T := TX1) (N := 12) hx hb hts hinX1 hown hK hP 0 rfl rfl 1 (by decide) (hts (.fieldLink RX1 14 "MountainPost$Letters" "froms" "LMountainPost$Row;") (List.mem_of_getElem? (i := 2) rfl)) (fun _ h9 => h9) rfl dX1_goal_13 ?_
    refine lv_iload_n hx hb dX1_goal_16 rfl (lv_at hl 1 rfl) ?_
    refine kVp ⟨hx, hb, hml, hown, hts⟩ (c_X3_get l D (Ae 1) (Ae 12) 60 (Le 0) p1 (by decide)) (cwV 1 hts gX1_goal_X3_get rfl rfl rfl (by decide +kernel) ⟨Nat.le_of_ble_eq_true rfl, Nat.le_of_ble_eq_true rfl⟩) hK hN hP hD sbLet0 3 0 rfl rfl rfl hl.1 (Nat.le_of_ble_eq_true rfl) ⟨Nat.zero_le _, Nat.zero_le _⟩ dX1_goal_17 ?_ rfl
    refine lv_goto (tgt := 31) hx hb dX1_goal_20 (by decide) ?_
    exact eI hx hb hr hlocks dX1_goal_31 (by simp [goalC, c1])

set_option maxHeartbeats 4000000 in
set_option maxRecDepth 100000 in
theorem c_X1_areAnswers (l : Launch) (D : GG) (Ae : Nat → Nat) (ne : Nat) (Le : Nat → Nat → Int32) (p1 : Int32) (p2 : Int32)  : Met l yX1_areAnswers wsX1_areAnswers ({ frames := 1, cells := 0, slots := 0, locals := 21 } : Room) (va_Pc [.ref (Ae 0), .int p1, .int p2] (wd D (wLet D Ae ne Le))) (RP (.int (z2 (ansC Le p1 p2)))) 0 0 (fun _ => False) := by
  refine Met.ofW (cc := cX1_areAnswers) (maxL := 3) (ret := (some .boolean)) (by decide) rfl ?_
  intro p e s m args below meth c s₁ B hml hv
  obtain ⟨rfl, hP, hK, hD, hN⟩ := hv
  have hx := B.exec
  have hb := B.bytes
  have hr := B.returns
  have hts := atoms_spec (ws := wsX1_areAnswers) B.pre
  have hown : s.vm.findClass RX1 = some m.cls := findClass_of_methodNamed B.named
  have hlocks := B.notSynchronized
  have hinX1 : ∀ w ∈ u_ws RX1 TX1 12, w ∈ wsX1_areAnswers := by decide +kernel
  have hl := lv_entry ([.ref (Ae 0), .int p1, .int p2]) (n := 3) (Nat.le_of_ble_eq_true rfl)
  rw [lg_entry_eq]
  generalize (lg_sl ([.ref (Ae 0), .int p1, .int p2]) ++ List.replicate (3 - (lg_sl ([.ref (Ae 0), .int p1, .int p2])).length) Slot.unset).toArray = ls at hl ⊢
  have hl : lv_has ls 3 [(0, .ref (Ae 0)), (1, .int p1), (2, .int p2)] := hl
  refine lv_aload_n hx hb dX1_areAnswers_0 rfl (lv_at hl 0 rfl) ?_
  refine va_get (D := D.1) (ci := 1) (v := .ref (Ae 1)) (C := RX1) (T := TX1) (N := 12) hx hb hts hinX1 hown hK hP 0 rfl rfl 1 (by decide) (hts (.fieldLink RX1 14 "MountainPost$Letters" "froms" "LMountainPost$Row;") (List.mem_of_getElem? (i := 1) rfl)) (fun _ h9 => h9) rfl dX1_areAnswers_1 ?_
  refine lv_iload_n hx hb dX1_areAnswers_4 rfl (lv_at hl 1 rfl) ?_
  refine kVp ⟨hx, hb, hml, hown, hts⟩ (c_X3_get l D (Ae 1) (Ae 12) 60 (Le 0) p1 (by decide)) (cwV 1 hts gX1_areAnswers_X3_get rfl rfl rfl (by decide +kernel) ⟨Nat.le_of_ble_eq_true rfl, Nat.le_of_ble_eq_true rfl⟩) hK hN hP hD sbLet0 3 0 rfl rfl rfl hl.1 (Nat.le_of_ble_eq_true rfl) ⟨Nat.zero_le _, Nat.zero_le _⟩ dX1_areAnswers_5 ?_ rfl
  refine lv_aload_n hx hb dX1_areAnswers_8 rfl (lv_at hl 0 rfl) ?_
  refine va_get (D := D.1) (ci := 1) (v := .ref (Ae 2)) (C := RX1) (T := TX1) (N := 12) hx hb hts hinX1 hown hK hP 0 rfl rfl 2 (by decide) (hts (.fieldLink RX1 20 "MountainPost$Letters" "tos" "LMountainPost$Row;") (List.mem_of_getElem? (i := 2) rfl)) (fun _ h9 => h9) rfl dX1_areAnswers_9 ?_
  refine lv_iload_n hx hb dX1_areAnswers_12 rfl (lv_at hl 2 rfl) ?_
  refine kVp ⟨hx, hb, hml, hown, hts⟩ (c_X3_get l D (Ae 2) (Ae 13) 60 (Le 1) p2 (by decide)) (cwV 1 hts gX1_areAnswers_X3_get rfl rfl rfl (by decide +kernel) ⟨Nat.le_of_ble_eq_true rfl, Nat.le_of_ble_eq_true rfl⟩) hK hN hP hD sbLet1 3 0 rfl rfl rfl hl.1 (Nat.le_of_ble_eq_true rfl) ⟨Nat.zero_le _, Nat.zero_le _⟩ dX1_areAnswers_13 ?_ rfl
  refine lv_icmp_ne (tgt := 42) hx hb dX1_areAnswers_16 (by decide) (fun c1 => ?_) (fun c1 => ?_)
  · refine lv_iconst (v := 0) hx hb dX1_areAnswers_42 (by decide) ?_
    exact eZ hx hb hr hlocks dX1_areAnswers_43 (by simp [ansC, z2, c1])
  · refine lv_aload_n hx hb dX1_areAnswers_19 rfl (lv_at hl 0 rfl) ?_
    refine va_get (D := D.1) (ci := 1) (v := .ref (Ae 1)) (C := RX1) (T := TX1) (N := 12) hx hb hts hinX1 hown hK hP 0 rfl rfl 1 (by decide) (hts (.fieldLink RX1 14 "MountainPost$Letters" "froms" "LMountainPost$Row;") (List.mem_of_getElem? (i := 1) rfl)) (fun _ h9 => h9) rfl dX1_areAnswers_20 ?_
    refine lv_iload_n hx hb dX1_areAnswers_23 rfl (lv_at hl 2 rfl) ?_
    refine kVp ⟨hx, hb, hml, hown, hts⟩ (c_X3_get l D (Ae 1) (Ae 12) 60 (Le 0) p2 (by decide)) (cwV 1 hts gX1_areAnswers_X3_get rfl rfl rfl (by decide +kernel) ⟨Nat.le_of_ble_eq_true rfl, Nat.le_of_ble_eq_true rfl⟩) hK hN hP hD sbLet0 3 0 rfl rfl rfl hl.1 (Nat.le_of_ble_eq_true rfl) ⟨Nat.zero_le _, Nat.zero_le _⟩ dX1_areAnswers_24 ?_ rfl
    refine lv_aload_n hx hb dX1_areAnswers_27 rfl (lv_at hl 0 rfl) ?_
    refine va_get (D := D.1) (ci := 1) (v := .ref (Ae 2)) (C := RX1) (T := TX1) (N := 12) hx hb hts hinX1 hown hK hP 0 rfl rfl 2 (by decide) (hts (.fieldLink RX1 20 "MountainPost$Letters" "tos" "LMountainPost$Row;") (List.mem_of_getElem? (i := 2) rfl)) (fun _ h9 => h9) rfl dX1_areAnswers_28 ?_
    refine lv_iload_n hx hb dX1_areAnswers_31 rfl (lv_at hl 1 rfl) ?_
    refine kVp ⟨hx, hb, hml, hown, hts⟩ (c_X3_get l D (Ae 2) (Ae 13) 60 (Le 1) p1 (by decide)) (cwV 1 hts gX1_areAnswers_X3_get rfl rfl rfl (by decide +kernel) ⟨Nat.le_of_ble_eq_true rfl, Nat.le_of_ble_eq_true rfl⟩) hK hN hP hD sbLet1 3 0 rfl rfl rfl hl.1 (Nat.le_of_ble_eq_true rfl) ⟨Nat.zero_le _, Nat.zero_le _⟩ dX1_areAnswers_32 ?_ rfl
    refine lv_icmp_ne (tgt := 42) hx hb dX1_areAnswers_35 (by decide) (fun c2 => ?_) (fun c2 => ?_)
    · refine lv_iconst (v := 0) hx hb dX1_areAnswers_42 (by decide) ?_
      exact eZ hx hb hr hlocks dX1_areAnswers_43 (by simp [ansC, z2, c1, c2])
    · refine lv_iconst (v := 1) hx hb dX1_areAnswers_38 (by decide) ?_
      refine lv_goto (tgt := 43) hx hb dX1_areAnswers_39 (by decide) ?_
      exact eZ hx hb hr hlocks dX1_areAnswers_43 (by simp [ansC, z2, c1, c2])

set_option maxHeartbeats 4000000 in
set_option maxRecDepth 100000 in
theorem c_X1_handTo (l : Launch) (D : GG) (Ae : Nat → Nat) (ne : Nat) (Le : Nat → Nat → Int32) (p1 : Int32) (p2 : Int32)  : Met l yX1_handTo wsX1_handTo ({ frames := 1, cells := 0, slots := 0, locals := 22 } : Room) (va_Pc [.ref (Ae 0), .int p1, .int p2] (wd D (wLet D Ae ne Le))) (QW D none (wLet D Ae ne (sr (sr (sr Le 3 (rs 60 (Le 3) p1 1)) 4 (rs 60 (Le 4) p1 (-1))) 5 (rs 60 (Le 5) p1 p2))) (own (wLet D Ae ne Le))) 0 0 (own (wLet D Ae ne Le)) := by
  refine Met.ofW (cc := cX1_handTo) (maxL := 3) (ret := none) (by decide) rfl ?_
  intro p e s m args below meth c s₁ B hml hv
  obtain ⟨rfl, hP, hK, hD, hN⟩ := hv
  have hx := B.exec
  have hb := B.bytes
  have hr := B.returns
  have hts := atoms_spec (ws := wsX1_handTo) B.pre
  have hown : s.vm.findClass RX1 = some m.cls := findClass_of_methodNamed B.named
  have hlocks := B.notSynchronized
  have hinX1 : ∀ w ∈ u_ws RX1 TX1 12, w ∈ wsX1_handTo := by decide +kernel
  have hS : va_S (own (wLet D Ae ne Le)) s.heap s.heap [] := va_S.rf
  have hD : va_D (own (wLet D Ae ne Le)) (wLet D Ae ne Le) := toOwn hD
  generalize hAe : own (wLet D Ae ne Le) = A0 at hD hS ⊢
  have hl := lv_entry ([.ref (Ae 0), .int p1, .int p2]) (n := 3) (Nat.le_of_ble_eq_true rfl)
  rw [lg_entry_eq]
  generalize (lg_sl ([.ref (Ae 0), .int p1, .int p2]) ++ List.replicate (3 - (lg_sl ([.ref (Ae 0), .int p1, .int p2])).length) Slot.unset).toArray = ls at hl ⊢
  have hl : lv_has ls 3 [(0, .ref (Ae 0)), (1, .int p1), (2, .int p2)] := hl
  refine lv_aload_n hx hb dX1_handTo_0 rfl (lv_at hl 0 rfl) ?_
  refine va_get (D := D.1) (ci := 1) (v := .ref (Ae 4)) (C := RX1) (T := TX1) (N := 12) hx hb hts hinX1 hown hK hP 0 rfl rfl 4 (by decide) (hts (.fieldLink RX1 26 "MountainPost$Letters" "states" "LMountainPost$Row;") (List.mem_of_getElem? (i := 1) rfl)) (fun _ h9 => h9) rfl dX1_handTo_1 ?_
  refine lv_iload_n hx hb dX1_handTo_4 rfl (lv_at hl 1 rfl) ?_
  refine lv_iconst (v := 1) hx hb dX1_handTo_5 (by decide) ?_
  refine kVw ⟨hx, hb, hml, hown, hts⟩ (c_X3_set l D (Ae 4) (Ae 15) 60 (Le 3) p1 1 (by decide)) (cwV 2 hts gX1_handTo_X3_set rfl rfl rfl (by decide +kernel) ⟨Nat.le_of_ble_eq_true rfl, Nat.le_of_ble_eq_true rfl⟩) hK hN hP hD hS frLet3 3 0 rfl rfl rfl hl.1 (Nat.le_of_ble_eq_true rfl) ⟨Nat.zero_le _, Nat.zero_le _⟩ dX1_handTo_6 (fun H locs hP hD hS => ?_) rfl
  have hP : va_P D.1 vwCl (wLet D Ae ne (sr Le 3 (rs 60 (Le 3) p1 1))) H := hP
  have hD : va_D A0 (wLet D Ae ne (sr Le 3 (rs 60 (Le 3) p1 1))) := hD
  refine W.eq (g2 := F0 m 9 ls []) rfl ?_
  refine lv_aload_n hx hb dX1_handTo_9 rfl (lv_at hl 0 rfl) ?_
  refine va_get (D := D.1) (ci := 1) (v := .ref (Ae 5)) (C := RX1) (T := TX1) (N := 12) hx hb hts hinX1 hown hK hP 0 rfl rfl 5 (by decide) (hts (.fieldLink RX1 29 "MountainPost$Letters" "places" "LMountainPost$Row;") (List.mem_of_getElem? (i := 2) rfl)) (fun _ h9 => h9) rfl dX1_handTo_10 ?_
  refine lv_iload_n hx hb dX1_handTo_13 rfl (lv_at hl 1 rfl) ?_
  refine lv_iconst (v := (-1)) hx hb dX1_handTo_14 (by decide) ?_
  refine kVw ⟨hx, hb, hml, hown, hts⟩ (c_X3_set l D (Ae 5) (Ae 16) 60 (Le 4) p1 (-1) (by decide)) (cwV 2 hts gX1_handTo_X3_set rfl rfl rfl (by decide +kernel) ⟨Nat.le_of_ble_eq_true rfl, Nat.le_of_ble_eq_true rfl⟩) hK hN hP hD hS frLet4 3 0 rfl rfl rfl hl.1 (Nat.le_of_ble_eq_true rfl) ⟨Nat.zero_le _, Nat.zero_le _⟩ dX1_handTo_15 (fun H locs hP hD hS => ?_) rfl
  have hP : va_P D.1 vwCl (wLet D Ae ne (sr (sr Le 3 (rs 60 (Le 3) p1 1)) 4 (rs 60 (Le 4) p1 (-1)))) H := hP
  have hD : va_D A0 (wLet D Ae ne (sr (sr Le 3 (rs 60 (Le 3) p1 1)) 4 (rs 60 (Le 4) p1 (-1)))) := hD
  refine W.eq (g2 := F0 m 18 ls []) rfl ?_
  refine lv_aload_n hx hb dX1_handTo_18 rfl (lv_at hl 0 rfl) ?_
  refine va_get (D := D.1) (ci := 1) (v := .ref (Ae 6)) (C := RX1) (T := TX1) (N := 12) hx hb hts hinX1 hown hK hP 0 rfl rfl 6 (by decide) (hts (.fieldLink RX1 32 "MountainPost$Letters" "carriers" "LMountainPost$Row;") (List.mem_of_getElem? (i := 3) rfl)) (fun _ h9 => h9) rfl dX1_handTo_19 ?_
  refine lv_iload_n hx hb dX1_handTo_22 rfl (lv_at hl 1 rfl) ?_
  refine lv_iload_n hx hb dX1_handTo_23 rfl (lv_at hl 2 rfl) ?_
  refine kVw ⟨hx, hb, hml, hown, hts⟩ (c_X3_set l D (Ae 6) (Ae 17) 60 (Le 5) p1 p2 (by decide)) (cwV 2 hts gX1_handTo_X3_set rfl rfl rfl (by decide +kernel) ⟨Nat.le_of_ble_eq_true rfl, Nat.le_of_ble_eq_true rfl⟩) hK hN hP hD hS frLet5 3 0 rfl rfl rfl hl.1 (Nat.le_of_ble_eq_true rfl) ⟨Nat.zero_le _, Nat.zero_le _⟩ dX1_handTo_24 (fun H locs hP hD hS => ?_) rfl
  have hP : va_P D.1 vwCl (wLet D Ae ne (sr (sr (sr Le 3 (rs 60 (Le 3) p1 1)) 4 (rs 60 (Le 4) p1 (-1))) 5 (rs 60 (Le 5) p1 p2))) H := hP
  have hD : va_D A0 (wLet D Ae ne (sr (sr (sr Le 3 (rs 60 (Le 3) p1 1)) 4 (rs 60 (Le 4) p1 (-1))) 5 (rs 60 (Le 5) p1 p2))) := hD
  refine W.eq (g2 := F0 m 27 ls []) rfl ?_
  exact eWv hx hb hr hlocks dX1_handTo_27 hS hP (by rfl)

set_option maxHeartbeats 4000000 in
set_option maxRecDepth 100000 in
theorem c_X1_layDown (l : Launch) (D : GG) (Ae : Nat → Nat) (ne : Nat) (Le : Nat → Nat → Int32) (p1 : Int32) (p2 : Int32) (p3 : Int32)  : Met l yX1_layDown wsX1_layDown ({ frames := 2, cells := 0, slots := 0, locals := 42 } : Room) (va_Pc [.ref (Ae 0), .int p1, .int p2, .int p3] (wd D (wLet D Ae ne Le))) (QW D none (wLet D Ae ne (layC Le p1 p2 p3)) (own (wLet D Ae ne Le))) 0 0 (own (wLet D Ae ne Le)) := by
  refine Met.ofW (cc := cX1_layDown) (maxL := 4) (ret := none) (by decide) rfl ?_
  intro p e s m args below meth c s₁ B hml hv
  obtain ⟨rfl, hP, hK, hD, hN⟩ := hv
  have hx := B.exec
  have hb := B.bytes
  have hr := B.returns
  have hts := atoms_spec (ws := wsX1_layDown) B.pre
  have hown : s.vm.findClass RX1 = some m.cls := findClass_of_methodNamed B.named
  have hlocks := B.notSynchronized
  have hinX1 : ∀ w ∈ u_ws RX1 TX1 12, w ∈ wsX1_layDown := by decide +kernel
  have hS : va_S (own (wLet D Ae ne Le)) s.heap s.heap [] := va_S.rf
  have hD : va_D (own (wLet D Ae ne Le)) (wLet D Ae ne Le) := toOwn hD
  generalize hAe : own (wLet D Ae ne Le) = A0 at hD hS ⊢
  have hl := lv_entry ([.ref (Ae 0), .int p1, .int p2, .int p3]) (n := 4) (Nat.le_of_ble_eq_true rfl)
  rw [lg_entry_eq]
  generalize (lg_sl ([.ref (Ae 0), .int p1, .int p2, .int p3]) ++ List.replicate (4 - (lg_sl ([.ref (Ae 0), .int p1, .int p2, .int p3])).length) Slot.unset).toArray = ls at hl ⊢
  have hl : lv_has ls 4 [(0, .ref (Ae 0)), (1, .int p1), (2, .int p2), (3, .int p3)] := hl
  refine lv_aload_n hx hb dX1_layDown_0 rfl (lv_at hl 0 rfl) ?_
  refine va_get (D := D.1) (ci := 1) (v := .ref (Ae 5)) (C := RX1) (T := TX1) (N := 12) hx hb hts hinX1 hown hK hP 0 rfl rfl 5 (by decide) (hts (.fieldLink RX1 29 "MountainPost$Letters" "places" "LMountainPost$Row;") (List.mem_of_getElem? (i := 1) rfl)) (fun _ h9 => h9) rfl dX1_layDown_1 ?_
  refine lv_iload_n hx hb dX1_layDown_4 rfl (lv_at hl 1 rfl) ?_
  refine lv_iload_n hx hb dX1_layDown_5 rfl (lv_at hl 2 rfl) ?_
  refine kVw ⟨hx, hb, hml, hown, hts⟩ (c_X3_set l D (Ae 5) (Ae 16) 60 (Le 4) p1 p2 (by decide)) (cwV 2 hts gX1_layDown_X3_set rfl rfl rfl (by decide +kernel) ⟨Nat.le_of_ble_eq_true rfl, Nat.le_of_ble_eq_true rfl⟩) hK hN hP hD hS frLet4 3 0 rfl rfl rfl hl.1 (Nat.le_of_ble_eq_true rfl) ⟨Nat.zero_le _, Nat.zero_le _⟩ dX1_layDown_6 (fun H locs hP hD hS => ?_) rfl
  have hP : va_P D.1 vwCl (wLet D Ae ne (sr Le 4 (rs 60 (Le 4) p1 p2))) H := hP
  have hD : va_D A0 (wLet D Ae ne (sr Le 4 (rs 60 (Le 4) p1 p2))) := hD
  refine W.eq (g2 := F0 m 9 ls []) rfl ?_
  refine lv_aload_n hx hb dX1_layDown_9 rfl (lv_at hl 0 rfl) ?_
  refine va_get (D := D.1) (ci := 1) (v := .ref (Ae 6)) (C := RX1) (T := TX1) (N := 12) hx hb hts hinX1 hown hK hP 0 rfl rfl 6 (by decide) (hts (.fieldLink RX1 32 "MountainPost$Letters" "carriers" "LMountainPost$Row;") (List.mem_of_getElem? (i := 2) rfl)) (fun _ h9 => h9) rfl dX1_layDown_10 ?_
  refine lv_iload_n hx hb dX1_layDown_13 rfl (lv_at hl 1 rfl) ?_
  refine lv_iconst (v := (-1)) hx hb dX1_layDown_14 (by decide) ?_
  refine kVw ⟨hx, hb, hml, hown, hts⟩ (c_X3_set l D (Ae 6) (Ae 17) 60 (Le 5) p1 (-1) (by decide)) (cwV 2 hts gX1_layDown_X3_set rfl rfl rfl (by decide +kernel) ⟨Nat.le_of_ble_eq_true rfl, Nat.le_of_ble_eq_true rfl⟩) hK hN hP hD hS frLet5 3 0 rfl rfl rfl hl.1 (Nat.le_of_ble_eq_true rfl) ⟨Nat.zero_le _, Nat.zero_le _⟩ dX1_layDown_15 (fun H locs hP hD hS => ?_) rfl
  have hP : va_P D.1 vwCl (wLet D Ae ne (sr (sr Le 4 (rs 60 (Le 4) p1 p2)) 5 (rs 60 (Le 5) p1 (-1)))) H := hP
  have hD : va_D A0 (wLet D Ae ne (sr (sr Le 4 (rs 60 (Le 4) p1 p2)) 5 (rs 60 (Le 5) p1 (-1)))) := hD
  refine W.eq (g2 := F0 m 18 ls []) rfl ?_
  refine lv_iload_n hx hb dX1_layDown_18 rfl (lv_at hl 2 rfl) ?_
  refine lv_aload_n hx hb dX1_layDown_19 rfl (lv_at hl 0 rfl) ?_
  refine lv_iload_n hx hb dX1_layDown_20 rfl (lv_at hl 1 rfl) ?_
  refine kVp ⟨hx, hb, hml, hown, hts⟩ (c_X1_goal l D Ae ne (sr (sr Le 4 (rs 60 (Le 4) p1 p2)) 5 (rs 60 (Le 5) p1 (-1))) p1) (cwV 1 hts gX1_layDown_X1_goal rfl rfl rfl (by decide +kernel) ⟨Nat.le_of_ble_eq_true rfl, Nat.le_of_ble_eq_true rfl⟩) hK hN hP hD Sb.self 1 0 rfl rfl rfl hl.1 (Nat.le_of_ble_eq_true rfl) ⟨Nat.zero_le _, Nat.zero_le _⟩ dX1_layDown_21 ?_ rfl
  refine lv_icmp_ne (tgt := 64) hx hb dX1_layDown_24 (by decide) (fun c1 => ?_) (fun c1 => ?_)
  · refine lv_aload_n hx hb dX1_layDown_64 rfl (lv_at hl 0 rfl) ?_
    refine va_get (D := D.1) (ci := 1) (v := .ref (Ae 4)) (C := RX1) (T := TX1) (N := 12) hx hb hts hinX1 hown hK hP 0 rfl rfl 4 (by decide) (hts (.fieldLink RX1 26 "MountainPost$Letters" "states" "LMountainPost$Row;") (List.mem_of_getElem? (i := 3) rfl)) (fun _ h9 => h9) rfl dX1_layDown_65 ?_
    refine lv_iload_n hx hb dX1_layDown_68 rfl (lv_at hl 1 rfl) ?_
    refine lv_iconst (v := 0) hx hb dX1_layDown_69 (by decide) ?_
    refine kVw ⟨hx, hb, hml, hown, hts⟩ (c_X3_set l D (Ae 4) (Ae 15) 60 (Le 3) p1 0 (by decide)) (cwV 2 hts gX1_layDown_X3_set rfl rfl rfl (by decide +kernel) ⟨Nat.le_of_ble_eq_true rfl, Nat.le_of_ble_eq_true rfl⟩) hK hN hP hD hS frLet3 3 0 rfl rfl rfl hl.1 (Nat.le_of_ble_eq_true rfl) ⟨Nat.zero_le _, Nat.zero_le _⟩ dX1_layDown_70 (fun H locs hP hD hS => ?_) rfl
    have hP : va_P D.1 vwCl (wLet D Ae ne (sr (sr (sr Le 4 (rs 60 (Le 4) p1 p2)) 5 (rs 60 (Le 5) p1 (-1))) 3 (rs 60 (Le 3) p1 0))) H := hP
    have hD : va_D A0 (wLet D Ae ne (sr (sr (sr Le 4 (rs 60 (Le 4) p1 p2)) 5 (rs 60 (Le 5) p1 (-1))) 3 (rs 60 (Le 3) p1 0))) := hD
    refine W.eq (g2 := F0 m 73 ls []) rfl ?_
    exact eWv hx hb hr hlocks dX1_layDown_73 hS hP (by first | (rw [layC, if_neg (show ¬ p2 = goalC Le p1 from c1)]; first | done | rfl) | (rw [layC, if_pos (show p2 = goalC Le p1 from c1), if_pos (show rg 60 (Le 7) p1 = 1 from c2)]; first | done | rfl) | (rw [layC, if_pos (show p2 = goalC Le p1 from c1), if_neg (show ¬ rg 60 (Le 7) p1 = 1 from c2)]; first | done | rfl))
  · refine lv_aload_n hx hb dX1_layDown_27 rfl (lv_at hl 0 rfl) ?_
    refine va_get (D := D.1) (ci := 1) (v := .ref (Ae 4)) (C := RX1) (T := TX1) (N := 12) hx hb hts hinX1 hown hK hP 0 rfl rfl 4 (by decide) (hts (.fieldLink RX1 26 "MountainPost$Letters" "states" "LMountainPost$Row;") (List.mem_of_getElem? (i := 3) rfl)) (fun _ h9 => h9) rfl dX1_layDown_28 ?_
    refine lv_iload_n hx hb dX1_layDown_31 rfl (lv_at hl 1 rfl) ?_
    refine lv_aload_n hx hb dX1_layDown_32 rfl (lv_at hl 0 rfl) ?_
    refine va_get (D := D.1) (ci := 1) (v := .ref (Ae 8)) (C := RX1) (T := TX1) (N := 12) hx hb hts hinX1 hown hK hP 0 rfl rfl 8 (by decide) (hts (.fieldLink RX1 38 "MountainPost$Letters" "turned" "LMountainPost$Row;") (List.mem_of_getElem? (i := 4) rfl)) (fun _ h9 => h9) rfl dX1_layDown_33 ?_
    refine lv_iload_n hx hb dX1_layDown_36 rfl (lv_at hl 1 rfl) ?_
    refine kVp ⟨hx, hb, hml, hown, hts⟩ (c_X3_get l D (Ae 8) (Ae 19) 60 (Le 7) p1 (by decide)) (cwV 1 hts gX1_layDown_X3_get rfl rfl rfl (by decide +kernel) ⟨Nat.le_of_ble_eq_true rfl, Nat.le_of_ble_eq_true rfl⟩) hK hN hP hD sbLet7 3 0 rfl rfl rfl hl.1 (Nat.le_of_ble_eq_true rfl) ⟨Nat.zero_le _, Nat.zero_le _⟩ dX1_layDown_37 ?_ rfl
    refine lv_iconst (v := 1) hx hb dX1_layDown_40 (by decide) ?_
    refine lv_icmp_ne (tgt := 48) hx hb dX1_layDown_41 (by decide) (fun c2 => ?_) (fun c2 => ?_)
    · refine lv_iconst (v := 2) hx hb dX1_layDown_48 (by decide) ?_
      refine kVw ⟨hx, hb, hml, hown, hts⟩ (c_X3_set l D (Ae 4) (Ae 15) 60 (Le 3) p1 2 (by decide)) (cwV 2 hts gX1_layDown_X3_set rfl rfl rfl (by decide +kernel) ⟨Nat.le_of_ble_eq_true rfl, Nat.le_of_ble_eq_true rfl⟩) hK hN hP hD hS frLet3 3 0 rfl rfl rfl hl.1 (Nat.le_of_ble_eq_true rfl) ⟨Nat.zero_le _, Nat.zero_le _⟩ dX1_layDown_49 (fun H locs hP hD hS => ?_) rfl
      have hP : va_P D.1 vwCl (wLet D Ae ne (sr (sr (sr Le 4 (rs 60 (Le 4) p1 p2)) 5 (rs 60 (Le 5) p1 (-1))) 3 (rs 60 (Le 3) p1 2))) H := hP
      have hD : va_D A0 (wLet D Ae ne (sr (sr (sr Le 4 (rs 60 (Le 4) p1 p2)) 5 (rs 60 (Le 5) p1 (-1))) 3 (rs 60 (Le 3) p1 2))) := hD
      refine W.eq (g2 := F0 m 52 ls []) rfl ?_
      refine lv_aload_n hx hb dX1_layDown_52 rfl (lv_at hl 0 rfl) ?_
      refine va_get (D := D.1) (ci := 1) (v := .ref (Ae 10)) (C := RX1) (T := TX1) (N := 12) hx hb hts hinX1 hown hK hP 0 rfl rfl 10 (by decide) (hts (.fieldLink RX1 44 "MountainPost$Letters" "hoursEnded" "LMountainPost$Row;") (List.mem_of_getElem? (i := 5) rfl)) (fun _ h9 => h9) rfl dX1_layDown_53 ?_
      refine lv_iload_n hx hb dX1_layDown_56 rfl (lv_at hl 1 rfl) ?_
      refine lv_iload_n hx hb dX1_layDown_57 rfl (lv_at hl 3 rfl) ?_
      refine kVw ⟨hx, hb, hml, hown, hts⟩ (c_X3_set l D (Ae 10) (Ae 21) 60 (Le 9) p1 p3 (by decide)) (cwV 2 hts gX1_layDown_X3_set rfl rfl rfl (by decide +kernel) ⟨Nat.le_of_ble_eq_true rfl, Nat.le_of_ble_eq_true rfl⟩) hK hN hP hD hS frLet9 3 0 rfl rfl rfl hl.1 (Nat.le_of_ble_eq_true rfl) ⟨Nat.zero_le _, Nat.zero_le _⟩ dX1_layDown_58 (fun H locs hP hD hS => ?_) rfl
      have hP : va_P D.1 vwCl (wLet D Ae ne (sr (sr (sr (sr Le 4 (rs 60 (Le 4) p1 p2)) 5 (rs 60 (Le 5) p1 (-1))) 3 (rs 60 (Le 3) p1 2)) 9 (rs 60 (Le 9) p1 p3))) H := hP
      have hD : va_D A0 (wLet D Ae ne (sr (sr (sr (sr Le 4 (rs 60 (Le 4) p1 p2)) 5 (rs 60 (Le 5) p1 (-1))) 3 (rs 60 (Le 3) p1 2)) 9 (rs 60 (Le 9) p1 p3))) := hD
      refine W.eq (g2 := F0 m 61 ls []) rfl ?_
      refine lv_goto (tgt := 73) hx hb dX1_layDown_61 (by decide) ?_
      exact eWv hx hb hr hlocks dX1_layDown_73 hS hP (by first | (rw [layC, if_neg (show ¬ p2 = goalC Le p1 from c1)]; first | done | rfl) | (rw [layC, if_pos (show p2 = goalC Le p1 from c1), if_pos (show rg 60 (Le 7) p1 = 1 from c2)]; first | done | rfl) | (rw [layC, if_pos (show p2 = goalC Le p1 from c1), if_neg (show ¬ rg 60 (Le 7) p1 = 1 from c2)]; first | done | rfl))
    · refine lv_iconst (v := 3) hx hb dX1_layDown_44 (by decide) ?_
      refine lv_goto (tgt := 49) hx hb dX1_layDown_45 (by decide) ?_
      refine kVw ⟨hx, hb, hml, hown, hts⟩ (c_X3_set l D (Ae 4) (Ae 15) 60 (Le 3) p1 3 (by decide)) (cwV 2 hts gX1_layDown_X3_set rfl rfl rfl (by decide +kernel) ⟨Nat.le_of_ble_eq_true rfl, Nat.le_of_ble_eq_true rfl⟩) hK hN hP hD hS frLet3 3 0 rfl rfl rfl hl.1 (Nat.le_of_ble_eq_true rfl) ⟨Nat.zero_le _, Nat.zero_le _⟩ dX1_layDown_49 (fun H locs hP hD hS => ?_) rfl
      have hP : va_P D.1 vwCl (wLet D Ae ne (sr (sr (sr Le 4 (rs 60 (Le 4) p1 p2)) 5 (rs 60 (Le 5) p1 (-1))) 3 (rs 60 (Le 3) p1 3))) H := hP
      have hD : va_D A0 (wLet D Ae ne (sr (sr (sr Le 4 (rs 60 (Le 4) p1 p2)) 5 (rs 60 (Le 5) p1 (-1))) 3 (rs 60 (Le 3) p1 3))) := hD
      refine W.eq (g2 := F0 m 52 ls []) rfl ?_
      refine lv_aload_n hx hb dX1_layDown_52 rfl (lv_at hl 0 rfl) ?_
      refine va_get (D := D.1) (ci := 1) (v := .ref (Ae 10)) (C := RX1) (T := TX1) (N := 12) hx hb hts hinX1 hown hK hP 0 rfl rfl 10 (by decide) (hts (.fieldLink RX1 44 "MountainPost$Letters" "hoursEnded" "LMountainPost$Row;") (List.mem_of_getElem? (i := 5) rfl)) (fun _ h9 => h9) rfl dX1_layDown_53 ?_
      refine lv_iload_n hx hb dX1_layDown_56 rfl (lv_at hl 1 rfl) ?_
      refine lv_iload_n hx hb dX1_layDown_57 rfl (lv_at hl 3 rfl) ?_
      refine kVw ⟨hx, hb, hml, hown, hts⟩ (c_X3_set l D (Ae 10) (Ae 21) 60 (Le 9) p1 p3 (by decide)) (cwV 2 hts gX1_layDown_X3_set rfl rfl rfl (by decide +kernel) ⟨Nat.le_of_ble_eq_true rfl, Nat.le_of_ble_eq_true rfl⟩) hK hN hP hD hS frLet9 3 0 rfl rfl rfl hl.1 (Nat.le_of_ble_eq_true rfl) ⟨Nat.zero_le _, Nat.zero_le _⟩ dX1_layDown_58 (fun H locs hP hD hS => ?_) rfl
      have hP : va_P D.1 vwCl (wLet D Ae ne (sr (sr (sr (sr Le 4 (rs 60 (Le 4) p1 p2)) 5 (rs 60 (Le 5) p1 (-1))) 3 (rs 60 (Le 3) p1 3)) 9 (rs 60 (Le 9) p1 p3))) H := hP
      have hD : va_D A0 (wLet D Ae ne (sr (sr (sr (sr Le 4 (rs 60 (Le 4) p1 p2)) 5 (rs 60 (Le 5) p1 (-1))) 3 (rs 60 (Le 3) p1 3)) 9 (rs 60 (Le 9) p1 p3))) := hD
      refine W.eq (g2 := F0 m 61 ls []) rfl ?_
      refine lv_goto (tgt := 73) hx hb dX1_layDown_61 (by decide) ?_
      exact eWv hx hb hr hlocks dX1_layDown_73 hS hP (by first | (rw [layC, if_neg (show ¬ p2 = goalC Le p1 from c1)]; first | done | rfl) | (rw [layC, if_pos (show p2 = goalC Le p1 from c1), if_pos (show rg 60 (Le 7) p1 = 1 from c2)]; first | done | rfl) | (rw [layC, if_pos (show p2 = goalC Le p1 from c1), if_neg (show ¬ rg 60 (Le 7) p1 = 1 from c2)]; first | done | rfl))

set_option maxHeartbeats 4000000 in
set_option maxRecDepth 100000 in
theorem c_X1_turn (l : Launch) (D : GG) (Ae : Nat → Nat) (ne : Nat) (Le : Nat → Nat → Int32) (p1 : Int32) (p2 : Int32)  : Met l yX1_turn wsX1_turn ({ frames := 3, cells := 0, slots := 0, locals := 65 } : Room) (va_Pc [.ref (Ae 0), .int p1, .int p2] (wd D (wLet D Ae ne Le))) (QW D none (wLet D Ae ne (turnC Le p1 p2)) (own (wLet D Ae ne Le))) 0 0 (own (wLet D Ae ne Le)) := by
  refine Met.ofW (cc := cX1_turn) (maxL := 3) (ret := none) (by decide) rfl ?_
  intro p e s m args below meth c s₁ B hml hv
  obtain ⟨rfl, hP, hK, hD, hN⟩ := hv
  have hx := B.exec
  have hb := B.bytes
  have hr := B.returns
  have hts := atoms_spec (ws := wsX1_turn) B.pre
  have hown : s.vm.findClass RX1 = some m.cls := findClass_of_methodNamed B.named
  have hlocks := B.notSynchronized
  have hinX1 : ∀ w ∈ u_ws RX1 TX1 12, w ∈ wsX1_turn := by decide +kernel
  have hS : va_S (own (wLet D Ae ne Le)) s.heap s.heap [] := va_S.rf
  have hD : va_D (own (wLet D Ae ne Le)) (wLet D Ae ne Le) := toOwn hD
  generalize hAe : own (wLet D Ae ne Le) = A0 at hD hS ⊢
  have hl := lv_entry ([.ref (Ae 0), .int p1, .int p2]) (n := 3) (Nat.le_of_ble_eq_true rfl)
  rw [lg_entry_eq]
  generalize (lg_sl ([.ref (Ae 0), .int p1, .int p2]) ++ List.replicate (3 - (lg_sl ([.ref (Ae 0), .int p1, .int p2])).length) Slot.unset).toArray = ls at hl ⊢
  have hl : lv_has ls 3 [(0, .ref (Ae 0)), (1, .int p1), (2, .int p2)] := hl
  refine lv_aload_n hx hb dX1_turn_0 rfl (lv_at hl 0 rfl) ?_
  refine va_get (D := D.1) (ci := 1) (v := .ref (Ae 8)) (C := RX1) (T := TX1) (N := 12) hx hb hts hinX1 hown hK hP 0 rfl rfl 8 (by decide) (hts (.fieldLink RX1 38 "MountainPost$Letters" "turned" "LMountainPost$Row;") (List.mem_of_getElem? (i := 1) rfl)) (fun _ h9 => h9) rfl dX1_turn_1 ?_
  refine lv_iload_n hx hb dX1_turn_4 rfl (lv_at hl 1 rfl) ?_
  refine lv_iconst (v := 1) hx hb dX1_turn_5 (by decide) ?_
  refine kVw ⟨hx, hb, hml, hown, hts⟩ (c_X3_set l D (Ae 8) (Ae 19) 60 (Le 7) p1 1 (by decide)) (cwV 2 hts gX1_turn_X3_set rfl rfl rfl (by decide +kernel) ⟨Nat.le_of_ble_eq_true rfl, Nat.le_of_ble_eq_true rfl⟩) hK hN hP hD hS frLet7 3 0 rfl rfl rfl hl.1 (Nat.le_of_ble_eq_true rfl) ⟨Nat.zero_le _, Nat.zero_le _⟩ dX1_turn_6 (fun H locs hP hD hS => ?_) rfl
  have hP : va_P D.1 vwCl (wLet D Ae ne (sr Le 7 (rs 60 (Le 7) p1 1))) H := hP
  have hD : va_D A0 (wLet D Ae ne (sr Le 7 (rs 60 (Le 7) p1 1))) := hD
  refine W.eq (g2 := F0 m 9 ls []) rfl ?_
  refine lv_aload_n hx hb dX1_turn_9 rfl (lv_at hl 0 rfl) ?_
  refine lv_iload_n hx hb dX1_turn_10 rfl (lv_at hl 1 rfl) ?_
  refine lv_aload_n hx hb dX1_turn_11 rfl (lv_at hl 0 rfl) ?_
  refine va_get (D := D.1) (ci := 1) (v := .ref (Ae 5)) (C := RX1) (T := TX1) (N := 12) hx hb hts hinX1 hown hK hP 0 rfl rfl 5 (by decide) (hts (.fieldLink RX1 29 "MountainPost$Letters" "places" "LMountainPost$Row;") (List.mem_of_getElem? (i := 2) rfl)) (fun _ h9 => h9) rfl dX1_turn_12 ?_
  refine lv_iload_n hx hb dX1_turn_15 rfl (lv_at hl 1 rfl) ?_
  refine kVp ⟨hx, hb, hml, hown, hts⟩ (c_X3_get l D (Ae 5) (Ae 16) 60 (Le 4) p1 (by decide)) (cwV 1 hts gX1_turn_X3_get rfl rfl rfl (by decide +kernel) ⟨Nat.le_of_ble_eq_true rfl, Nat.le_of_ble_eq_true rfl⟩) hK hN hP hD sbLet4 3 0 rfl rfl rfl hl.1 (Nat.le_of_ble_eq_true rfl) ⟨Nat.zero_le _, Nat.zero_le _⟩ dX1_turn_16 ?_ rfl
  refine lv_iload_n hx hb dX1_turn_19 rfl (lv_at hl 2 rfl) ?_
  refine kVw ⟨hx, hb, hml, hown, hts⟩ (c_X1_layDown l D Ae ne (sr Le 7 (rs 60 (Le 7) p1 1)) p1 (rg 60 (Le 4) p1) p2) (cwV 3 hts gX1_turn_X1_layDown rfl rfl rfl (by decide +kernel) ⟨Nat.le_of_ble_eq_true rfl, Nat.le_of_ble_eq_true rfl⟩) hK hN hP hD hS frsLet 1 0 rfl rfl rfl hl.1 (Nat.le_of_ble_eq_true rfl) ⟨Nat.zero_le _, Nat.zero_le _⟩ dX1_turn_20 (fun H locs hP hD hS => ?_) rfl
  have hP : va_P D.1 vwCl (wLet D Ae ne (layC (sr Le 7 (rs 60 (Le 7) p1 1)) p1 (rg 60 (Le 4) p1) p2)) H := hP
  have hD : va_D A0 (wLet D Ae ne (layC (sr Le 7 (rs 60 (Le 7) p1 1)) p1 (rg 60 (Le 4) p1) p2)) := hD
  refine W.eq (g2 := F0 m 23 ls []) rfl ?_
  exact eWv hx hb hr hlocks dX1_turn_23 hS hP (by rfl)

set_option maxHeartbeats 4000000 in
set_option maxRecDepth 100000 in
theorem c_X1_waitingAt (l : Launch) (D : GG) (Ae : Nat → Nat) (ne : Nat) (Le : Nat → Nat → Int32) (p1 : Int32) (he : ne < 2 ^ 31) : Met l yX1_waitingAt wsX1_waitingAt ({ frames := 1, cells := 0, slots := 0, locals := 21 } : Room) (va_Pc [.ref (Ae 0), .int p1] (wd D (wLet D Ae ne Le))) (RP (.int (waitC Le ne p1))) 0 0 (fun _ => False) := by
  refine Met.ofW (cc := cX1_waitingAt) (maxL := 4) (ret := (some .int)) (by decide) rfl ?_
  intro p e s m args below meth c s₁ B hml hv
  obtain ⟨rfl, hP, hK, hD, hN⟩ := hv
  have hx := B.exec
  have hb := B.bytes
  have hr := B.returns
  have hts := atoms_spec (ws := wsX1_waitingAt) B.pre
  have hown : s.vm.findClass RX1 = some m.cls := findClass_of_methodNamed B.named
  have hlocks := B.notSynchronized
  have hinX1 : ∀ w ∈ u_ws RX1 TX1 12, w ∈ wsX1_waitingAt := by decide +kernel
  have hl := lv_entry ([.ref (Ae 0), .int p1]) (n := 4) (Nat.le_of_ble_eq_true rfl)
  rw [lg_entry_eq]
  generalize (lg_sl ([.ref (Ae 0), .int p1]) ++ List.replicate (4 - (lg_sl ([.ref (Ae 0), .int p1])).length) Slot.unset).toArray = ls at hl ⊢
  have hl : lv_has ls 4 [(0, .ref (Ae 0)), (1, .int p1)] := hl
  refine lv_iconst (v := 0) hx hb dX1_waitingAt_0 (by decide) ?_
  refine lv_istore_n (lv' := [(2, .int 0), (0, .ref (Ae 0)), (1, .int p1)]) hx hb dX1_waitingAt_1 rfl hl (by decide) rfl (fun ls hl => ?_)
  refine lv_iconst (v := 0) hx hb dX1_waitingAt_2 (by decide) ?_
  refine lv_istore_n (lv' := [(3, .int 0), (2, .int 0), (0, .ref (Ae 0)), (1, .int p1)]) hx hb dX1_waitingAt_3 rfl hl (by decide) rfl (fun ls hl => ?_)
  have lp1 : ∀ (j1 : Nat) (k1 : Nat) (hk1 : k1 + j1 = ne) (x3_1 : Int32) (e3_1 : x3_1 = (nI k1)) (x2_1 : Int32) (e2_1 : x2_1 = (cI (fun k => rg 60 (Le 3) (nI k) == 0 && rg 60 (Le 4) (nI k) == p1) k1)) (ls : Array Slot) (hl : lv_has ls 4 [(3, .int x3_1), (2, .int x2_1), (0, .ref (Ae 0)), (1, .int p1)]), W p l e (headSpec wsX1_waitingAt ({ frames := 1, cells := 0, slots := 0, locals := 21 } : Room)).room s m ([.ref (Ae 0), .int p1] : List Value).toArray below meth c s.heap [] 0 0 (MQ below (RP (.int (waitC Le ne p1))) ([.ref (Ae 0), .int p1] : List Value).toArray s 0 0 (fun _ => False)) (F0 m 4 ls []) := by
    intro j1
    induction j1 with
    | zero =>
      intro k1 hk1 x3_1 e3_1 x2_1 e2_1   ls hl
      subst e3_1 e2_1
      have hkN1 : ne = k1 := (by omega)
      subst hkN1
      refine lv_iload_n hx hb dX1_waitingAt_4 rfl (lv_at hl 0 rfl) ?_
      refine lv_aload_n hx hb dX1_waitingAt_5 rfl (lv_at hl 2 rfl) ?_
      refine va_get (D := D.1) (ci := 1) (v := .int (nI ne)) (C := RX1) (T := TX1) (N := 12) hx hb hts hinX1 hown hK hP 0 rfl rfl 0 (by decide) (hts (.fieldLink RX1 50 "MountainPost$Letters" "number" "I") (List.mem_of_getElem? (i := 1) rfl)) (fun _ h9 => h9) rfl dX1_waitingAt_6 ?_
      refine lv_icmp_ge (tgt := 44) hx hb dX1_waitingAt_9 (by decide) (fun c2 => ?_) (fun c2 => ?_)
      · refine lv_iload_n hx hb dX1_waitingAt_44 rfl (lv_at hl 1 rfl) ?_
        exact eI hx hb hr hlocks dX1_waitingAt_45 (by rfl)
      · exact (up0 rfl c2).elim
    | succ j1 ih1 =>
      intro k1 hk1 x3_1 e3_1 x2_1 e2_1   ls hl
      subst e3_1 e2_1
      have hlt1 : k1 < ne := by omega
      have hlt : k1 < ne := hlt1
      refine lv_iload_n hx hb dX1_waitingAt_4 rfl (lv_at hl 0 rfl) ?_
      refine lv_aload_n hx hb dX1_waitingAt_5 rfl (lv_at hl 2 rfl) ?_
      refine va_get (D := D.1) (ci := 1) (v := .int (nI ne)) (C := RX1) (T := TX1) (N := 12) hx hb hts hinX1 hown hK hP 0 rfl rfl 0 (by decide) (hts (.fieldLink RX1 50 "MountainPost$Letters" "number" "I") (List.mem_of_getElem? (i := 1) rfl)) (fun _ h9 => h9) rfl dX1_waitingAt_6 ?_
      refine lv_icmp_ge (tgt := 44) hx hb dX1_waitingAt_9 (by decide) (fun c3 => ?_) (fun c3 => ?_)
      · exact (upS hk1 he c3).elim
      · refine lv_aload_n hx hb dX1_waitingAt_12 rfl (lv_at hl 2 rfl) ?_
        refine va_get (D := D.1) (ci := 1) (v := .ref (Ae 4)) (C := RX1) (T := TX1) (N := 12) hx hb hts hinX1 hown hK hP 0 rfl rfl 4 (by decide) (hts (.fieldLink RX1 26 "MountainPost$Letters" "states" "LMountainPost$Row;") (List.mem_of_getElem? (i := 2) rfl)) (fun _ h9 => h9) rfl dX1_waitingAt_13 ?_
        refine lv_iload_n hx hb dX1_waitingAt_16 rfl (lv_at hl 0 rfl) ?_
        refine kVp ⟨hx, hb, hml, hown, hts⟩ (c_X3_get l D (Ae 4) (Ae 15) 60 (Le 3) (nI k1) (by decide)) (cwV 1 hts gX1_waitingAt_X3_get rfl rfl rfl (by decide +kernel) ⟨Nat.le_of_ble_eq_true rfl, Nat.le_of_ble_eq_true rfl⟩) hK hN hP hD sbLet3 3 0 rfl rfl rfl hl.1 (Nat.le_of_ble_eq_true rfl) ⟨Nat.zero_le _, Nat.zero_le _⟩ dX1_waitingAt_17 ?_ rfl
        refine lv_if_ne (tgt := 38) hx hb dX1_waitingAt_20 (by decide) (fun c4 => ?_) (fun c4 => ?_)
        · refine lv_iinc (v := ((nI k1) + 1)) (lv' := [(3, .int ((nI k1) + 1)), (2, .int (cI (fun k => rg 60 (Le 3) (nI k) == 0 && rg 60 (Le 4) (nI k) == p1) k1)), (0, .ref (Ae 0)), (1, .int p1)]) hx hb dX1_waitingAt_38 hl (k := 0) rfl rfl (by decide) rfl (fun ls hl => ?_)
          refine lv_goto (tgt := 4) hx hb dX1_waitingAt_41 (by decide) ?_
          exact ih1 (k1 + 1) (by omega) _ (nI_1 k1) _ (by simp [cI, c3, c4]) ls (lv_sub hl [0, 1, 2, 3] rfl)
        · refine lv_aload_n hx hb dX1_waitingAt_23 rfl (lv_at hl 2 rfl) ?_
          refine va_get (D := D.1) (ci := 1) (v := .ref (Ae 5)) (C := RX1) (T := TX1) (N := 12) hx hb hts hinX1 hown hK hP 0 rfl rfl 5 (by decide) (hts (.fieldLink RX1 29 "MountainPost$Letters" "places" "LMountainPost$Row;") (List.mem_of_getElem? (i := 3) rfl)) (fun _ h9 => h9) rfl dX1_waitingAt_24 ?_
          refine lv_iload_n hx hb dX1_waitingAt_27 rfl (lv_at hl 0 rfl) ?_
          refine kVp ⟨hx, hb, hml, hown, hts⟩ (c_X3_get l D (Ae 5) (Ae 16) 60 (Le 4) (nI k1) (by decide)) (cwV 1 hts gX1_waitingAt_X3_get rfl rfl rfl (by decide +kernel) ⟨Nat.le_of_ble_eq_true rfl, Nat.le_of_ble_eq_true rfl⟩) hK hN hP hD sbLet4 3 0 rfl rfl rfl hl.1 (Nat.le_of_ble_eq_true rfl) ⟨Nat.zero_le _, Nat.zero_le _⟩ dX1_waitingAt_28 ?_ rfl
          refine lv_iload_n hx hb dX1_waitingAt_31 rfl (lv_at hl 3 rfl) ?_
          refine lv_icmp_ne (tgt := 38) hx hb dX1_waitingAt_32 (by decide) (fun c5 => ?_) (fun c5 => ?_)
          · refine lv_iinc (v := ((nI k1) + 1)) (lv' := [(3, .int ((nI k1) + 1)), (2, .int (cI (fun k => rg 60 (Le 3) (nI k) == 0 && rg 60 (Le 4) (nI k) == p1) k1)), (0, .ref (Ae 0)), (1, .int p1)]) hx hb dX1_waitingAt_38 hl (k := 0) rfl rfl (by decide) rfl (fun ls hl => ?_)
            refine lv_goto (tgt := 4) hx hb dX1_waitingAt_41 (by decide) ?_
            exact ih1 (k1 + 1) (by omega) _ (nI_1 k1) _ (by simp [cI, c3, c4, c5]) ls (lv_sub hl [0, 1, 2, 3] rfl)
          · refine lv_iinc (v := ((cI (fun k => rg 60 (Le 3) (nI k) == 0 && rg 60 (Le 4) (nI k) == p1) k1) + 1)) (lv' := [(2, .int ((cI (fun k => rg 60 (Le 3) (nI k) == 0 && rg 60 (Le 4) (nI k) == p1) k1) + 1)), (3, .int (nI k1)), (0, .ref (Ae 0)), (1, .int p1)]) hx hb dX1_waitingAt_35 hl (k := 1) rfl rfl (by decide) rfl (fun ls hl => ?_)
            refine lv_iinc (v := ((nI k1) + 1)) (lv' := [(3, .int ((nI k1) + 1)), (2, .int ((cI (fun k => rg 60 (Le 3) (nI k) == 0 && rg 60 (Le 4) (nI k) == p1) k1) + 1)), (0, .ref (Ae 0)), (1, .int p1)]) hx hb dX1_waitingAt_38 hl (k := 1) rfl rfl (by decide) rfl (fun ls hl => ?_)
            refine lv_goto (tgt := 4) hx hb dX1_waitingAt_41 (by decide) ?_
            exact ih1 (k1 + 1) (by omega) _ (nI_1 k1) _ (by simp [cI, c3, c4, c5]) ls (lv_sub hl [0, 1, 2, 3] rfl)
  exact lp1 ne 0 (by omega) _ nI_0.symm _ rfl ls (lv_sub hl [0, 1, 2, 3] rfl)

set_option maxHeartbeats 4000000 in
set_option maxRecDepth 100000 in
theorem c_X1_carriedBy (l : Launch) (D : GG) (Ae : Nat → Nat) (ne : Nat) (Le : Nat → Nat → Int32) (p1 : Int32) (he : ne < 2 ^ 31) : Met l yX1_carriedBy wsX1_carriedBy ({ frames := 2, cells := 0, slots := 0, locals := 43 } : Room) (va_Pc [.ref (Ae 0), .int p1] (wd D (wLet D Ae ne Le))) (RP (.int (carrC Le ne p1))) 0 0 (fun _ => False) := by
  refine Met.ofW (cc := cX1_carriedBy) (maxL := 4) (ret := (some .int)) (by decide) rfl ?_
  intro p e s m args below meth c s₁ B hml hv
  obtain ⟨rfl, hP, hK, hD, hN⟩ := hv
  have hx := B.exec
  have hb := B.bytes
  have hr := B.returns
  have hts := atoms_spec (ws := wsX1_carriedBy) B.pre
  have hown : s.vm.findClass RX1 = some m.cls := findClass_of_methodNamed B.named
  have hlocks := B.notSynchronized
  have hinX1 : ∀ w ∈ u_ws RX1 TX1 12, w ∈ wsX1_carriedBy := by decide +kernel
  have hl := lv_entry ([.ref (Ae 0), .int p1]) (n := 4) (Nat.le_of_ble_eq_true rfl)
  rw [lg_entry_eq]
  generalize (lg_sl ([.ref (Ae 0), .int p1]) ++ List.replicate (4 - (lg_sl ([.ref (Ae 0), .int p1])).length) Slot.unset).toArray = ls at hl ⊢
  have hl : lv_has ls 4 [(0, .ref (Ae 0)), (1, .int p1)] := hl
  refine lv_iconst (v := 0) hx hb dX1_carriedBy_0 (by decide) ?_
  refine lv_istore_n (lv' := [(2, .int 0), (0, .ref (Ae 0)), (1, .int p1)]) hx hb dX1_carriedBy_1 rfl hl (by decide) rfl (fun ls hl => ?_)
  refine lv_iconst (v := 0) hx hb dX1_carriedBy_2 (by decide) ?_
  refine lv_istore_n (lv' := [(3, .int 0), (2, .int 0), (0, .ref (Ae 0)), (1, .int p1)]) hx hb dX1_carriedBy_3 rfl hl (by decide) rfl (fun ls hl => ?_)
  have lp1 : ∀ (j1 : Nat) (k1 : Nat) (hk1 : k1 + j1 = ne) (x3_1 : Int32) (e3_1 : x3_1 = (nI k1)) (x2_1 : Int32) (e2_1 : x2_1 = (cI (fun k => withC Le (nI k) p1) k1)) (ls : Array Slot) (hl : lv_has ls 4 [(3, .int x3_1), (2, .int x2_1), (0, .ref (Ae 0)), (1, .int p1)]), W p l e (headSpec wsX1_carriedBy ({ frames := 2, cells := 0, slots := 0, locals := 43 } : Room)).room s m ([.ref (Ae 0), .int p1] : List Value).toArray below meth c s.heap [] 0 0 (MQ below (RP (.int (carrC Le ne p1))) ([.ref (Ae 0), .int p1] : List Value).toArray s 0 0 (fun _ => False)) (F0 m 4 ls []) := by
    intro j1
    induction j1 with
    | zero =>
      intro k1 hk1 x3_1 e3_1 x2_1 e2_1   ls hl
      subst e3_1 e2_1
      have hkN1 : ne = k1 := (by omega)
      subst hkN1
      refine lv_iload_n hx hb dX1_carriedBy_4 rfl (lv_at hl 0 rfl) ?_
      refine lv_aload_n hx hb dX1_carriedBy_5 rfl (lv_at hl 2 rfl) ?_
      refine va_get (D := D.1) (ci := 1) (v := .int (nI ne)) (C := RX1) (T := TX1) (N := 12) hx hb hts hinX1 hown hK hP 0 rfl rfl 0 (by decide) (hts (.fieldLink RX1 50 "MountainPost$Letters" "number" "I") (List.mem_of_getElem? (i := 1) rfl)) (fun _ h9 => h9) rfl dX1_carriedBy_6 ?_
      refine lv_icmp_ge (tgt := 30) hx hb dX1_carriedBy_9 (by decide) (fun c2 => ?_) (fun c2 => ?_)
      · refine lv_iload_n hx hb dX1_carriedBy_30 rfl (lv_at hl 1 rfl) ?_
        exact eI hx hb hr hlocks dX1_carriedBy_31 (by rfl)
      · exact (up0 rfl c2).elim
    | succ j1 ih1 =>
      intro k1 hk1 x3_1 e3_1 x2_1 e2_1   ls hl
      subst e3_1 e2_1
      have hlt1 : k1 < ne := by omega
      have hlt : k1 < ne := hlt1
      refine lv_iload_n hx hb dX1_carriedBy_4 rfl (lv_at hl 0 rfl) ?_
      refine lv_aload_n hx hb dX1_carriedBy_5 rfl (lv_at hl 2 rfl) ?_
      refine va_get (D := D.1) (ci := 1) (v := .int (nI ne)) (C := RX1) (T := TX1) (N := 12) hx hb hts hinX1 hown hK hP 0 rfl rfl 0 (by decide) (hts (.fieldLink RX1 50 "MountainPost$Letters" "number" "I") (List.mem_of_getElem? (i := 1) rfl)) (fun _ h9 => h9) rfl dX1_carriedBy_6 ?_
      refine lv_icmp_ge (tgt := 30) hx hb dX1_carriedBy_9 (by decide) (fun c3 => ?_) (fun c3 => ?_)
      · exact (upS hk1 he c3).elim
      · refine lv_aload_n hx hb dX1_carriedBy_12 rfl (lv_at hl 2 rfl) ?_
        refine lv_iload_n hx hb dX1_carriedBy_13 rfl (lv_at hl 0 rfl) ?_
        refine lv_iload_n hx hb dX1_carriedBy_14 rfl (lv_at hl 3 rfl) ?_
        refine kVp ⟨hx, hb, hml, hown, hts⟩ (c_X1_isWith l D Ae ne Le (nI k1) p1) (cwV 2 hts gX1_carriedBy_X1_isWith rfl rfl rfl (by decide +kernel) ⟨Nat.le_of_ble_eq_true rfl, Nat.le_of_ble_eq_true rfl⟩) hK hN hP hD Sb.self 1 0 rfl rfl rfl hl.1 (Nat.le_of_ble_eq_true rfl) ⟨Nat.zero_le _, Nat.zero_le _⟩ dX1_carriedBy_15 ?_ rfl
        refine lv_if_eq (tgt := 24) hx hb dX1_carriedBy_18 (by decide) (fun c4 => ?_) (fun c4 => ?_)
        · have c4 := z2_0.mp c4
          refine lv_iinc (v := ((nI k1) + 1)) (lv' := [(3, .int ((nI k1) + 1)), (2, .int (cI (fun k => withC Le (nI k) p1) k1)), (0, .ref (Ae 0)), (1, .int p1)]) hx hb dX1_carriedBy_24 hl (k := 0) rfl rfl (by decide) rfl (fun ls hl => ?_)
          refine lv_goto (tgt := 4) hx hb dX1_carriedBy_27 (by decide) ?_
          exact ih1 (k1 + 1) (by omega) _ (nI_1 k1) _ (by simp [cI, c3, c4]) ls (lv_sub hl [0, 1, 2, 3] rfl)
        · have c4 := z2_n.mp c4
          refine lv_iinc (v := ((cI (fun k => withC Le (nI k) p1) k1) + 1)) (lv' := [(2, .int ((cI (fun k => withC Le (nI k) p1) k1) + 1)), (3, .int (nI k1)), (0, .ref (Ae 0)), (1, .int p1)]) hx hb dX1_carriedBy_21 hl (k := 1) rfl rfl (by decide) rfl (fun ls hl => ?_)
          refine lv_iinc (v := ((nI k1) + 1)) (lv' := [(3, .int ((nI k1) + 1)), (2, .int ((cI (fun k => withC Le (nI k) p1) k1) + 1)), (0, .ref (Ae 0)), (1, .int p1)]) hx hb dX1_carriedBy_24 hl (k := 1) rfl rfl (by decide) rfl (fun ls hl => ?_)
          refine lv_goto (tgt := 4) hx hb dX1_carriedBy_27 (by decide) ?_
          exact ih1 (k1 + 1) (by omega) _ (nI_1 k1) _ (by simp [cI, c3, c4]) ls (lv_sub hl [0, 1, 2, 3] rfl)
  exact lp1 ne 0 (by omega) _ nI_0.symm _ rfl ls (lv_sub hl [0, 1, 2, 3] rfl)

set_option maxHeartbeats 4000000 in
set_option maxRecDepth 100000 in
theorem c_X1_inState (l : Launch) (D : GG) (Ae : Nat → Nat) (ne : Nat) (Le : Nat → Nat → Int32) (p1 : Int32) (he : ne < 2 ^ 31) : Met l yX1_inState wsX1_inState ({ frames := 1, cells := 0, slots := 0, locals := 21 } : Room) (va_Pc [.ref (Ae 0), .int p1] (wd D (wLet D Ae ne Le))) (RP (.int (inStC Le ne p1))) 0 0 (fun _ => False) := by
  refine Met.ofW (cc := cX1_inState) (maxL := 4) (ret := (some .int)) (by decide) rfl ?_
  intro p e s m args below meth c s₁ B hml hv
  obtain ⟨rfl, hP, hK, hD, hN⟩ := hv
  have hx := B.exec
  have hb := B.bytes
  have hr := B.returns
  have hts := atoms_spec (ws := wsX1_inState) B.pre
  have hown : s.vm.findClass RX1 = some m.cls := findClass_of_methodNamed B.named
  have hlocks := B.notSynchronized
  have hinX1 : ∀ w ∈ u_ws RX1 TX1 12, w ∈ wsX1_inState := by decide +kernel
  have hl := lv_entry ([.ref (Ae 0), .int p1]) (n := 4) (Nat.le_of_ble_eq_true rfl)
  rw [lg_entry_eq]
  generalize (lg_sl ([.ref (Ae 0), .int p1]) ++ List.replicate (4 - (lg_sl ([.ref (Ae 0), .int p1])).length) Slot.unset).toArray = ls at hl ⊢
  have hl : lv_has ls 4 [(0, .ref (Ae 0)), (1, .int p1)] := hl
  refine lv_iconst (v := 0) hx hb dX1_inState_0 (by decide) ?_
  refine lv_istore_n (lv' := [(2, .int 0), (0, .ref (Ae 0)), (1, .int p1)]) hx hb dX1_inState_1 rfl hl (by decide) rfl (fun ls hl => ?_)
  refine lv_iconst (v := 0) hx hb dX1_inState_2 (by decide) ?_
  refine lv_istore_n (lv' := [(3, .int 0), (2, .int 0), (0, .ref (Ae 0)), (1, .int p1)]) hx hb dX1_inState_3 rfl hl (by decide) rfl (fun ls hl => ?_)
  have lp1 : ∀ (j1 : Nat) (k1 : Nat) (hk1 : k1 + j1 = ne) (x3_1 : Int32) (e3_1 : x3_1 = (nI k1)) (x2_1 : Int32) (e2_1 : x2_1 = (cI (fun k => rg 60 (Le 3) (nI k) == p1) k1)) (ls : Array Slot) (hl : lv_has ls 4 [(3, .int x3_1), (2, .int x2_1), (0, .ref (Ae 0)), (1, .int p1)]), W p l e (headSpec wsX1_inState ({ frames := 1, cells := 0, slots := 0, locals := 21 } : Room)).room s m ([.ref (Ae 0), .int p1] : List Value).toArray below meth c s.heap [] 0 0 (MQ below (RP (.int (inStC Le ne p1))) ([.ref (Ae 0), .int p1] : List Value).toArray s 0 0 (fun _ => False)) (F0 m 4 ls []) := by
    intro j1
    induction j1 with
    | zero =>
      intro k1 hk1 x3_1 e3_1 x2_1 e2_1   ls hl
      subst e3_1 e2_1
      have hkN1 : ne = k1 := (by omega)
      subst hkN1
      refine lv_iload_n hx hb dX1_inState_4 rfl (lv_at hl 0 rfl) ?_
      refine lv_aload_n hx hb dX1_inState_5 rfl (lv_at hl 2 rfl) ?_
      refine va_get (D := D.1) (ci := 1) (v := .int (nI ne)) (C := RX1) (T := TX1) (N := 12) hx hb hts hinX1 hown hK hP 0 rfl rfl 0 (by decide) (hts (.fieldLink RX1 50 "MountainPost$Letters" "number" "I") (List.mem_of_getElem? (i := 1) rfl)) (fun _ h9 => h9) rfl dX1_inState_6 ?_
      refine lv_icmp_ge (tgt := 33) hx hb dX1_inState_9 (by decide) (fun c2 => ?_) (fun c2 => ?_)
      · refine lv_iload_n hx hb dX1_inState_33 rfl (lv_at hl 1 rfl) ?_
        exact eI hx hb hr hlocks dX1_inState_34 (by rfl)
      · exact (up0 rfl c2).elim
    | succ j1 ih1 =>
      intro k1 hk1 x3_1 e3_1 x2_1 e2_1   ls hl
      subst e3_1 e2_1
      have hlt1 : k1 < ne := by omega
      have hlt : k1 < ne := hlt1
      refine lv_iload_n hx hb dX1_inState_4 rfl (lv_at hl 0 rfl) ?_
      refine lv_aload_n hx hb dX1_inState_5 rfl (lv_at hl 2 rfl) ?_
      refine va_get (D := D.1) (ci := 1) (v := .int (nI ne)) (C := RX1) (T := TX1) (N := 12) hx hb hts hinX1 hown hK hP 0 rfl rfl 0 (by decide) (hts (.fieldLink RX1 50 "MountainPost$Letters" "number" "I") (List.mem_of_getElem? (i := 1) rfl)) (fun _ h9 => h9) rfl dX1_inState_6 ?_
      refine lv_icmp_ge (tgt := 33) hx hb dX1_inState_9 (by decide) (fun c3 => ?_) (fun c3 => ?_)
      · exact (upS hk1 he c3).elim
      · refine lv_aload_n hx hb dX1_inState_12 rfl (lv_at hl 2 rfl) ?_
        refine va_get (D := D.1) (ci := 1) (v := .ref (Ae 4)) (C := RX1) (T := TX1) (N := 12) hx hb hts hinX1 hown hK hP 0 rfl rfl 4 (by decide) (hts (.fieldLink RX1 26 "MountainPost$Letters" "states" "LMountainPost$Row;") (List.mem_of_getElem? (i := 2) rfl)) (fun _ h9 => h9) rfl dX1_inState_13 ?_
        refine lv_iload_n hx hb dX1_inState_16 rfl (lv_at hl 0 rfl) ?_
        refine kVp ⟨hx, hb, hml, hown, hts⟩ (c_X3_get l D (Ae 4) (Ae 15) 60 (Le 3) (nI k1) (by decide)) (cwV 1 hts gX1_inState_X3_get rfl rfl rfl (by decide +kernel) ⟨Nat.le_of_ble_eq_true rfl, Nat.le_of_ble_eq_true rfl⟩) hK hN hP hD sbLet3 3 0 rfl rfl rfl hl.1 (Nat.le_of_ble_eq_true rfl) ⟨Nat.zero_le _, Nat.zero_le _⟩ dX1_inState_17 ?_ rfl
        refine lv_iload_n hx hb dX1_inState_20 rfl (lv_at hl 3 rfl) ?_
        refine lv_icmp_ne (tgt := 27) hx hb dX1_inState_21 (by decide) (fun c4 => ?_) (fun c4 => ?_)
        · refine lv_iinc (v := ((nI k1) + 1)) (lv' := [(3, .int ((nI k1) + 1)), (2, .int (cI (fun k => rg 60 (Le 3) (nI k) == p1) k1)), (0, .ref (Ae 0)), (1, .int p1)]) hx hb dX1_inState_27 hl (k := 0) rfl rfl (by decide) rfl (fun ls hl => ?_)
          refine lv_goto (tgt := 4) hx hb dX1_inState_30 (by decide) ?_
          exact ih1 (k1 + 1) (by omega) _ (nI_1 k1) _ (by simp [cI, c3, c4]) ls (lv_sub hl [0, 1, 2, 3] rfl)
        · refine lv_iinc (v := ((cI (fun k => rg 60 (Le 3) (nI k) == p1) k1) + 1)) (lv' := [(2, .int ((cI (fun k => rg 60 (Le 3) (nI k) == p1) k1) + 1)), (3, .int (nI k1)), (0, .ref (Ae 0)), (1, .int p1)]) hx hb dX1_inState_24 hl (k := 1) rfl rfl (by decide) rfl (fun ls hl => ?_)
          refine lv_iinc (v := ((nI k1) + 1)) (lv' := [(3, .int ((nI k1) + 1)), (2, .int ((cI (fun k => rg 60 (Le 3) (nI k) == p1) k1) + 1)), (0, .ref (Ae 0)), (1, .int p1)]) hx hb dX1_inState_27 hl (k := 1) rfl rfl (by decide) rfl (fun ls hl => ?_)
          refine lv_goto (tgt := 4) hx hb dX1_inState_30 (by decide) ?_
          exact ih1 (k1 + 1) (by omega) _ (nI_1 k1) _ (by simp [cI, c3, c4]) ls (lv_sub hl [0, 1, 2, 3] rfl)
  exact lp1 ne 0 (by omega) _ nI_0.symm _ rfl ls (lv_sub hl [0, 1, 2, 3] rfl)
