set_option maxHeartbeats 4000000 in
set_option maxRecDepth 100000 in
theorem c_X3_copyFrom (l : Launch) (D : GG) (o2 : Nat) (a2 : Nat) (n : Nat) (f2 : Nat → Int32) (o : Nat) (a : Nat) (f : Nat → Int32) (hn : n < 2 ^ 31) : Met l yX3_copyFrom wsX3_copyFrom ({ frames := 1, cells := 0, slots := 0, locals := 40 } : Room) (va_Pc [.ref o, .ref o2] (wd D ((wRow D o2 a2 n f2) ++ (wRow D o a n f)))) (QW D none ((wRow D o2 a2 n f2) ++ (wRow D o a n f2)) (own ((wRow D o2 a2 n f2) ++ (wRow D o a n f)))) 0 0 (own ((wRow D o2 a2 n f2) ++ (wRow D o a n f))) := by
  refine Met.ofW (cc := cX3_copyFrom) (maxL := 2) (ret := none) (by decide) rfl ?_
  intro p e s m args below meth c s₁ B hml hv
  obtain ⟨rfl, hP, hK, hD, hN⟩ := hv
  have hx := B.exec
  have hb := B.bytes
  have hr := B.returns
  have hts := atoms_spec (ws := wsX3_copyFrom) B.pre
  have hown : s.vm.findClass RX3 = some m.cls := findClass_of_methodNamed B.named
  have hlocks := B.notSynchronized
  have hinX3 : ∀ w ∈ u_ws RX3 TX3 1, w ∈ wsX3_copyFrom := by decide +kernel
  have hS : va_S (own ((wRow D o2 a2 n f2) ++ (wRow D o a n f))) s.heap s.heap [] := va_S.rf
  have hD : va_D (own ((wRow D o2 a2 n f2) ++ (wRow D o a n f))) ((wRow D o2 a2 n f2) ++ (wRow D o a n f)) := toOwn hD
  generalize hAe : own ((wRow D o2 a2 n f2) ++ (wRow D o a n f)) = A0 at hD hS ⊢
  have hl := lv_entry ([.ref o, .ref o2]) (n := 2) (Nat.le_of_ble_eq_true rfl)
  rw [lg_entry_eq]
  generalize (lg_sl ([.ref o, .ref o2]) ++ List.replicate (2 - (lg_sl ([.ref o, .ref o2])).length) Slot.unset).toArray = ls at hl ⊢
  have hl : lv_has ls 2 [(0, .ref o), (1, .ref o2)] := hl
  refine lv_aload_n hx hb dX3_copyFrom_0 rfl (lv_at hl 1 rfl) ?_
  refine va_get (D := D.1) (ci := 3) (v := .ref a2) (C := RX3) (T := TX3) (N := 1) hx hb hts hinX3 hown hK (sP (Sb.l Sb.self) hP) 0 rfl rfl 0 (by decide) (hts (.fieldLink RX3 13 "MountainPost$Row" "cells" "[I") (List.mem_of_getElem? (i := 1) rfl)) (fun _ h9 => h9) rfl dX3_copyFrom_1 ?_
  refine lv_iconst (v := 0) hx hb dX3_copyFrom_4 (by decide) ?_
  refine lv_aload_n hx hb dX3_copyFrom_5 rfl (lv_at hl 0 rfl) ?_
  refine va_get (D := D.1) (ci := 3) (v := .ref a) (C := RX3) (T := TX3) (N := 1) hx hb hts hinX3 hown hK (sP (Sb.r Sb.self) hP) 0 rfl rfl 0 (by decide) (hts (.fieldLink RX3 13 "MountainPost$Row" "cells" "[I") (List.mem_of_getElem? (i := 1) rfl)) (fun _ h9 => h9) rfl dX3_copyFrom_6 ?_
  refine lv_iconst (v := 0) hx hb dX3_copyFrom_9 (by decide) ?_
  refine lv_aload_n hx hb dX3_copyFrom_10 rfl (lv_at hl 0 rfl) ?_
  refine va_get (D := D.1) (ci := 3) (v := .ref a) (C := RX3) (T := TX3) (N := 1) hx hb hts hinX3 hown hK (sP (Sb.r Sb.self) hP) 0 rfl rfl 0 (by decide) (hts (.fieldLink RX3 13 "MountainPost$Row" "cells" "[I") (List.mem_of_getElem? (i := 1) rfl)) (fun _ h9 => h9) rfl dX3_copyFrom_11 ?_
  refine va_alen (D := D.1) (v := (nI n)) hx hb hK hP 3 0 rfl rfl rfl dX3_copyFrom_14 ?_
  refine lv_aload_n hx hb dX3_copyFrom_15 rfl (lv_at hl 1 rfl) ?_
  refine va_get (D := D.1) (ci := 3) (v := .ref a2) (C := RX3) (T := TX3) (N := 1) hx hb hts hinX3 hown hK (sP (Sb.l Sb.self) hP) 0 rfl rfl 0 (by decide) (hts (.fieldLink RX3 13 "MountainPost$Row" "cells" "[I") (List.mem_of_getElem? (i := 1) rfl)) (fun _ h9 => h9) rfl dX3_copyFrom_16 ?_
  refine va_alen (D := D.1) (v := (nI n)) hx hb hK hP 1 0 rfl rfl rfl dX3_copyFrom_19 ?_
  refine va_mmin hx hb (hml.trans hl.1.symm) hown (hts (.methodLink RX3 19 Lib.Math.min.name) (List.mem_of_getElem? (i := 2) rfl)) (hts (.static Lib.Math.min.name) (List.mem_of_getElem? (i := 3) rfl)) (hts (.initialized "java/lang/Math") (List.mem_of_getElem? (i := 4) rfl)) (hts (.code Lib.Math.min.name Lib.Math.min.code 2 (some .int)) (List.mem_of_getElem? (i := 5) rfl)) (Nat.le_of_ble_eq_true rfl) (Nat.le_of_ble_eq_true rfl) (Nat.zero_le _) (Nat.zero_le _) dX3_copyFrom_20 ?_
  rw [show (if (nI n) < (nI n) then (nI n) else (nI n)) = (nI n) from by split <;> rfl]
  refine va_copyi (D := D.1) hx hb (hml.trans hl.1.symm) hown (hts (.methodLink RX3 22 arraycopyName) (List.mem_of_getElem? (i := 6) rfl)) (hts (.native arraycopyName) (List.mem_of_getElem? (i := 7) rfl)) (hts (.static arraycopyName) (List.mem_of_getElem? (i := 8) rfl)) (hts (.initialized "java/lang/System") (List.mem_of_getElem? (i := 9) rfl)) hK hP hD hS 1 3 0 0 rfl rfl rfl rfl rfl (by decide) (by decide) (nI_pos hn) (cpy_le hn) (cpy_le hn) (fun _ _ => rfl) (Nat.le_of_ble_eq_true rfl) (Nat.le_of_ble_eq_true rfl) dX3_copyFrom_23 (fun H locs hP hD hS => ?_)
  have hP := cpy_P hn 3 hP
  have hD := cpy_D (e' := .inl (D.2 0, n, .inl f2)) 3 hD
  have hP : va_P D.1 vwCl ((wRow D o2 a2 n f2) ++ (wRow D o a n f2)) H := hP
  have hD : va_D A0 ((wRow D o2 a2 n f2) ++ (wRow D o a n f2)) := hD
  exact eWv hx hb hr hlocks dX3_copyFrom_26 hS hP (by rfl)

set_option maxHeartbeats 4000000 in
set_option maxRecDepth 100000 in
theorem c_X5_copyFrom (l : Launch) (D : GG) (Bw : Nat → Nat) (Kw : Nat → Nat → Int32) (Aw : Nat → Nat) (Lw : Nat → Nat → Int32)  : Met l yX5_copyFrom wsX5_copyFrom ({ frames := 2, cells := 0, slots := 0, locals := 61 } : Room) (va_Pc [.ref (Aw 0), .ref (Bw 0)] (wd D ((wWays D Bw Kw) ++ (wWays D Aw Lw)))) (QW D none ((wWays D Bw Kw) ++ (wWays D Aw Kw)) (own ((wWays D Bw Kw) ++ (wWays D Aw Lw)))) 0 0 (own ((wWays D Bw Kw) ++ (wWays D Aw Lw))) := by
  refine Met.ofW (cc := cX5_copyFrom) (maxL := 2) (ret := none) (by decide) rfl ?_
  intro p e s m args below meth c s₁ B hml hv
  obtain ⟨rfl, hP, hK, hD, hN⟩ := hv
  have hx := B.exec
  have hb := B.bytes
  have hr := B.returns
  have hts := atoms_spec (ws := wsX5_copyFrom) B.pre
  have hown : s.vm.findClass RX5 = some m.cls := findClass_of_methodNamed B.named
  have hlocks := B.notSynchronized
  have hinX5 : ∀ w ∈ u_ws RX5 TX5 2, w ∈ wsX5_copyFrom := by decide +kernel
  have hS : va_S (own ((wWays D Bw Kw) ++ (wWays D Aw Lw))) s.heap s.heap [] := va_S.rf
  have hD : va_D (own ((wWays D Bw Kw) ++ (wWays D Aw Lw))) ((wWays D Bw Kw) ++ (wWays D Aw Lw)) := toOwn hD
  generalize hAe : own ((wWays D Bw Kw) ++ (wWays D Aw Lw)) = A0 at hD hS ⊢
  have hl := lv_entry ([.ref (Aw 0), .ref (Bw 0)]) (n := 2) (Nat.le_of_ble_eq_true rfl)
  rw [lg_entry_eq]
  generalize (lg_sl ([.ref (Aw 0), .ref (Bw 0)]) ++ List.replicate (2 - (lg_sl ([.ref (Aw 0), .ref (Bw 0)])).length) Slot.unset).toArray = ls at hl ⊢
  have hl : lv_has ls 2 [(0, .ref (Aw 0)), (1, .ref (Bw 0))] := hl
  refine lv_aload_n hx hb dX5_copyFrom_0 rfl (lv_at hl 0 rfl) ?_
  refine va_get (D := D.1) (ci := 5) (v := .ref (Aw 1)) (C := RX5) (T := TX5) (N := 2) hx hb hts hinX5 hown hK (sP (Sb.r Sb.self) hP) 0 rfl rfl 0 (by decide) (hts (.fieldLink RX5 14 "MountainPost$Ways" "hours" "LMountainPost$Row;") (List.mem_of_getElem? (i := 1) rfl)) (fun _ h9 => h9) rfl dX5_copyFrom_1 ?_
  refine lv_aload_n hx hb dX5_copyFrom_4 rfl (lv_at hl 1 rfl) ?_
  refine va_get (D := D.1) (ci := 5) (v := .ref (Bw 1)) (C := RX5) (T := TX5) (N := 2) hx hb hts hinX5 hown hK (sP (Sb.l Sb.self) hP) 0 rfl rfl 0 (by decide) (hts (.fieldLink RX5 14 "MountainPost$Ways" "hours" "LMountainPost$Row;") (List.mem_of_getElem? (i := 1) rfl)) (fun _ h9 => h9) rfl dX5_copyFrom_5 ?_
  refine kVw ⟨hx, hb, hml, hown, hts⟩ (c_X3_copyFrom l D (Bw 1) (Bw 3) 100 (Kw 0) (Aw 1) (Aw 3) (Lw 0) (by decide)) (cwV 1 hts gX5_copyFrom_X3_copyFrom rfl rfl rfl (by decide +kernel) ⟨Nat.le_of_ble_eq_true rfl, Nat.le_of_ble_eq_true rfl⟩) hK hN hP hD hS (Fr.app (Fr.kp sbWays0) frWays0) 3 2 rfl rfl rfl hl.1 (Nat.le_of_ble_eq_true rfl) ⟨Nat.zero_le _, Nat.zero_le _⟩ dX5_copyFrom_8 (fun H locs hP hD hS => ?_) rfl
  have hP : va_P D.1 vwCl ((wWays D Bw Kw) ++ (wWays D Aw (sr Lw 0 (Kw 0)))) H := hP
  have hD : va_D A0 ((wWays D Bw Kw) ++ (wWays D Aw (sr Lw 0 (Kw 0)))) := hD
  refine W.eq (g2 := F0 m 11 ls []) rfl ?_
  refine lv_aload_n hx hb dX5_copyFrom_11 rfl (lv_at hl 0 rfl) ?_
  refine va_get (D := D.1) (ci := 5) (v := .ref (Aw 2)) (C := RX5) (T := TX5) (N := 2) hx hb hts hinX5 hown hK (sP (Sb.r Sb.self) hP) 0 rfl rfl 1 (by decide) (hts (.fieldLink RX5 20 "MountainPost$Ways" "firsts" "LMountainPost$Row;") (List.mem_of_getElem? (i := 2) rfl)) (fun _ h9 => h9) rfl dX5_copyFrom_12 ?_
  refine lv_aload_n hx hb dX5_copyFrom_15 rfl (lv_at hl 1 rfl) ?_
  refine va_get (D := D.1) (ci := 5) (v := .ref (Bw 2)) (C := RX5) (T := TX5) (N := 2) hx hb hts hinX5 hown hK (sP (Sb.l Sb.self) hP) 0 rfl rfl 1 (by decide) (hts (.fieldLink RX5 20 "MountainPost$Ways" "firsts" "LMountainPost$Row;") (List.mem_of_getElem? (i := 2) rfl)) (fun _ h9 => h9) rfl dX5_copyFrom_16 ?_
  refine kVw ⟨hx, hb, hml, hown, hts⟩ (c_X3_copyFrom l D (Bw 2) (Bw 4) 100 (Kw 1) (Aw 2) (Aw 4) (Lw 1) (by decide)) (cwV 1 hts gX5_copyFrom_X3_copyFrom rfl rfl rfl (by decide +kernel) ⟨Nat.le_of_ble_eq_true rfl, Nat.le_of_ble_eq_true rfl⟩) hK hN hP hD hS (Fr.app (Fr.kp sbWays1) frWays1) 3 2 rfl rfl rfl hl.1 (Nat.le_of_ble_eq_true rfl) ⟨Nat.zero_le _, Nat.zero_le _⟩ dX5_copyFrom_19 (fun H locs hP hD hS => ?_) rfl
  have hP : va_P D.1 vwCl ((wWays D Bw Kw) ++ (wWays D Aw (sr (sr Lw 0 (Kw 0)) 1 (Kw 1)))) H := hP
  have hD : va_D A0 ((wWays D Bw Kw) ++ (wWays D Aw (sr (sr Lw 0 (Kw 0)) 1 (Kw 1)))) := hD
  refine W.eq (g2 := F0 m 22 ls []) rfl ?_
  exact eWv hx hb hr hlocks dX5_copyFrom_22 hS hP (by rfl)

set_option maxHeartbeats 4000000 in
set_option maxRecDepth 100000 in
theorem c_X2_copyFrom (l : Launch) (D : GG) (Bm : Nat → Nat) (nm2 : Nat) (Km : Nat → Nat → Int32) (Am : Nat → Nat) (nm : Nat) (Lm : Nat → Nat → Int32)  : Met l yX2_copyFrom wsX2_copyFrom ({ frames := 2, cells := 0, slots := 0, locals := 61 } : Room) (va_Pc [.ref (Am 0), .ref (Bm 0)] (wd D ((wMul D Bm nm2 Km) ++ (wMul D Am nm Lm)))) (QW D none ((wMul D Bm nm2 Km) ++ (wMul D Am nm2 Km)) (own ((wMul D Bm nm2 Km) ++ (wMul D Am nm Lm)))) 0 0 (own ((wMul D Bm nm2 Km) ++ (wMul D Am nm Lm))) := by
  refine Met.ofW (cc := cX2_copyFrom) (maxL := 2) (ret := none) (by decide) rfl ?_
  intro p e s m args below meth c s₁ B hml hv
  obtain ⟨rfl, hP, hK, hD, hN⟩ := hv
  have hx := B.exec
  have hb := B.bytes
  have hr := B.returns
  have hts := atoms_spec (ws := wsX2_copyFrom) B.pre
  have hown : s.vm.findClass RX2 = some m.cls := findClass_of_methodNamed B.named
  have hlocks := B.notSynchronized
  have hinX2 : ∀ w ∈ u_ws RX2 TX2 6, w ∈ wsX2_copyFrom := by decide +kernel
  have hS : va_S (own ((wMul D Bm nm2 Km) ++ (wMul D Am nm Lm))) s.heap s.heap [] := va_S.rf
  have hD : va_D (own ((wMul D Bm nm2 Km) ++ (wMul D Am nm Lm))) ((wMul D Bm nm2 Km) ++ (wMul D Am nm Lm)) := toOwn hD
  generalize hAe : own ((wMul D Bm nm2 Km) ++ (wMul D Am nm Lm)) = A0 at hD hS ⊢
  have hl := lv_entry ([.ref (Am 0), .ref (Bm 0)]) (n := 2) (Nat.le_of_ble_eq_true rfl)
  rw [lg_entry_eq]
  generalize (lg_sl ([.ref (Am 0), .ref (Bm 0)]) ++ List.replicate (2 - (lg_sl ([.ref (Am 0), .ref (Bm 0)])).length) Slot.unset).toArray = ls at hl ⊢
  have hl : lv_has ls 2 [(0, .ref (Am 0)), (1, .ref (Bm 0))] := hl
  refine lv_aload_n hx hb dX2_copyFrom_0 rfl (lv_at hl 0 rfl) ?_
  refine lv_aload_n hx hb dX2_copyFrom_1 rfl (lv_at hl 1 rfl) ?_
  refine va_get (D := D.1) (ci := 2) (v := .int (nI nm2)) (C := RX2) (T := TX2) (N := 6) hx hb hts hinX2 hown hK (sP (Sb.l Sb.self) hP) 0 rfl rfl 0 (by decide) (hts (.fieldLink RX2 32 "MountainPost$Mules" "number" "I") (List.mem_of_getElem? (i := 1) rfl)) (fun _ h9 => h9) rfl dX2_copyFrom_2 ?_
  refine W.eq (g2 := F0 m 5 ls [.int (nI nm2), .ref (Am 0)]) (by rw [show nI nm2 = nI nm2 from rfl]) ?_
  refine va_put (D := D.1) (ci := 2) (v := .int (nI nm2)) (ty := .int) (C := RX2) (T := TX2) (N := 6) hx hb hts hinX2 tyX2 tyX2_ok nmX2 hown hK hP hD hS 11 rfl rfl 0 (by decide) (hts (.fieldLink RX2 32 "MountainPost$Mules" "number" "I") (List.mem_of_getElem? (i := 1) rfl)) (fun _ h9 => h9) rfl (by decide +kernel) rfl rfl (Nat.le_of_ble_eq_true rfl) dX2_copyFrom_5 (fun H locs hP hD hS => ?_)
  have hP : va_P D.1 vwCl ((wMul D Bm nm2 Km) ++ (wMul D Am nm2 Lm)) H := hP
  have hD : va_D A0 ((wMul D Bm nm2 Km) ++ (wMul D Am nm2 Lm)) := hD
  refine lv_aload_n hx hb dX2_copyFrom_8 rfl (lv_at hl 0 rfl) ?_
  refine va_get (D := D.1) (ci := 2) (v := .ref (Am 1)) (C := RX2) (T := TX2) (N := 6) hx hb hts hinX2 hown hK (sP (Sb.r Sb.self) hP) 0 rfl rfl 1 (by decide) (hts (.fieldLink RX2 14 "MountainPost$Mules" "roads" "LMountainPost$Row;") (List.mem_of_getElem? (i := 2) rfl)) (fun _ h9 => h9) rfl dX2_copyFrom_9 ?_
  refine lv_aload_n hx hb dX2_copyFrom_12 rfl (lv_at hl 1 rfl) ?_
  refine va_get (D := D.1) (ci := 2) (v := .ref (Bm 1)) (C := RX2) (T := TX2) (N := 6) hx hb hts hinX2 hown hK (sP (Sb.l Sb.self) hP) 0 rfl rfl 1 (by decide) (hts (.fieldLink RX2 14 "MountainPost$Mules" "roads" "LMountainPost$Row;") (List.mem_of_getElem? (i := 2) rfl)) (fun _ h9 => h9) rfl dX2_copyFrom_13 ?_
  refine kVw ⟨hx, hb, hml, hown, hts⟩ (c_X3_copyFrom l D (Bm 1) (Bm 6) 12 (Km 0) (Am 1) (Am 6) (Lm 0) (by decide)) (cwV 1 hts gX2_copyFrom_X3_copyFrom rfl rfl rfl (by decide +kernel) ⟨Nat.le_of_ble_eq_true rfl, Nat.le_of_ble_eq_true rfl⟩) hK hN hP hD hS (Fr.app (Fr.kp sbMul0) frMul0) 3 2 rfl rfl rfl hl.1 (Nat.le_of_ble_eq_true rfl) ⟨Nat.zero_le _, Nat.zero_le _⟩ dX2_copyFrom_16 (fun H locs hP hD hS => ?_) rfl
  have hP : va_P D.1 vwCl ((wMul D Bm nm2 Km) ++ (wMul D Am nm2 (sr Lm 0 (Km 0)))) H := hP
  have hD : va_D A0 ((wMul D Bm nm2 Km) ++ (wMul D Am nm2 (sr Lm 0 (Km 0)))) := hD
  refine W.eq (g2 := F0 m 19 ls []) rfl ?_
  refine lv_aload_n hx hb dX2_copyFrom_19 rfl (lv_at hl 0 rfl) ?_
  refine va_get (D := D.1) (ci := 2) (v := .ref (Am 2)) (C := RX2) (T := TX2) (N := 6) hx hb hts hinX2 hown hK (sP (Sb.r Sb.self) hP) 0 rfl rfl 2 (by decide) (hts (.fieldLink RX2 20 "MountainPost$Mules" "loads" "LMountainPost$Row;") (List.mem_of_getElem? (i := 3) rfl)) (fun _ h9 => h9) rfl dX2_copyFrom_20 ?_
  refine lv_aload_n hx hb dX2_copyFrom_23 rfl (lv_at hl 1 rfl) ?_
  refine va_get (D := D.1) (ci := 2) (v := .ref (Bm 2)) (C := RX2) (T := TX2) (N := 6) hx hb hts hinX2 hown hK (sP (Sb.l Sb.self) hP) 0 rfl rfl 2 (by decide) (hts (.fieldLink RX2 20 "MountainPost$Mules" "loads" "LMountainPost$Row;") (List.mem_of_getElem? (i := 3) rfl)) (fun _ h9 => h9) rfl dX2_copyFrom_24 ?_
  refine kVw ⟨hx, hb, hml, hown, hts⟩ (c_X3_copyFrom l D (Bm 2) (Bm 7) 12 (Km 1) (Am 2) (Am 7) (Lm 1) (by decide)) (cwV 1 hts gX2_copyFrom_X3_copyFrom rfl rfl rfl (by decide +kernel) ⟨Nat.le_of_ble_eq_true rfl, Nat.le_of_ble_eq_true rfl⟩) hK hN hP hD hS (Fr.app (Fr.kp sbMul1) frMul1) 3 2 rfl rfl rfl hl.1 (Nat.le_of_ble_eq_true rfl) ⟨Nat.zero_le _, Nat.zero_le _⟩ dX2_copyFrom_27 (fun H locs hP hD hS => ?_) rfl
  have hP : va_P D.1 vwCl ((wMul D Bm nm2 Km) ++ (wMul D Am nm2 (sr (sr Lm 0 (Km 0)) 1 (Km 1)))) H := hP
  have hD : va_D A0 ((wMul D Bm nm2 Km) ++ (wMul D Am nm2 (sr (sr Lm 0 (Km 0)) 1 (Km 1)))) := hD
  refine W.eq (g2 := F0 m 30 ls []) rfl ?_
  refine lv_aload_n hx hb dX2_copyFrom_30 rfl (lv_at hl 0 rfl) ?_
  refine va_get (D := D.1) (ci := 2) (v := .ref (Am 3)) (C := RX2) (T := TX2) (N := 6) hx hb hts hinX2 hown hK (sP (Sb.r Sb.self) hP) 0 rfl rfl 3 (by decide) (hts (.fieldLink RX2 23 "MountainPost$Mules" "places" "LMountainPost$Row;") (List.mem_of_getElem? (i := 4) rfl)) (fun _ h9 => h9) rfl dX2_copyFrom_31 ?_
  refine lv_aload_n hx hb dX2_copyFrom_34 rfl (lv_at hl 1 rfl) ?_
  refine va_get (D := D.1) (ci := 2) (v := .ref (Bm 3)) (C := RX2) (T := TX2) (N := 6) hx hb hts hinX2 hown hK (sP (Sb.l Sb.self) hP) 0 rfl rfl 3 (by decide) (hts (.fieldLink RX2 23 "MountainPost$Mules" "places" "LMountainPost$Row;") (List.mem_of_getElem? (i := 4) rfl)) (fun _ h9 => h9) rfl dX2_copyFrom_35 ?_
  refine kVw ⟨hx, hb, hml, hown, hts⟩ (c_X3_copyFrom l D (Bm 3) (Bm 8) 12 (Km 2) (Am 3) (Am 8) (Lm 2) (by decide)) (cwV 1 hts gX2_copyFrom_X3_copyFrom rfl rfl rfl (by decide +kernel) ⟨Nat.le_of_ble_eq_true rfl, Nat.le_of_ble_eq_true rfl⟩) hK hN hP hD hS (Fr.app (Fr.kp sbMul2) frMul2) 3 2 rfl rfl rfl hl.1 (Nat.le_of_ble_eq_true rfl) ⟨Nat.zero_le _, Nat.zero_le _⟩ dX2_copyFrom_38 (fun H locs hP hD hS => ?_) rfl
  have hP : va_P D.1 vwCl ((wMul D Bm nm2 Km) ++ (wMul D Am nm2 (sr (sr (sr Lm 0 (Km 0)) 1 (Km 1)) 2 (Km 2)))) H := hP
  have hD : va_D A0 ((wMul D Bm nm2 Km) ++ (wMul D Am nm2 (sr (sr (sr Lm 0 (Km 0)) 1 (Km 1)) 2 (Km 2)))) := hD
  refine W.eq (g2 := F0 m 41 ls []) rfl ?_
  refine lv_aload_n hx hb dX2_copyFrom_41 rfl (lv_at hl 0 rfl) ?_
  refine va_get (D := D.1) (ci := 2) (v := .ref (Am 4)) (C := RX2) (T := TX2) (N := 6) hx hb hts hinX2 hown hK (sP (Sb.r Sb.self) hP) 0 rfl rfl 4 (by decide) (hts (.fieldLink RX2 26 "MountainPost$Mules" "hoursLeft" "LMountainPost$Row;") (List.mem_of_getElem? (i := 5) rfl)) (fun _ h9 => h9) rfl dX2_copyFrom_42 ?_
  refine lv_aload_n hx hb dX2_copyFrom_45 rfl (lv_at hl 1 rfl) ?_
  refine va_get (D := D.1) (ci := 2) (v := .ref (Bm 4)) (C := RX2) (T := TX2) (N := 6) hx hb hts hinX2 hown hK (sP (Sb.l Sb.self) hP) 0 rfl rfl 4 (by decide) (hts (.fieldLink RX2 26 "MountainPost$Mules" "hoursLeft" "LMountainPost$Row;") (List.mem_of_getElem? (i := 5) rfl)) (fun _ h9 => h9) rfl dX2_copyFrom_46 ?_
  refine kVw ⟨hx, hb, hml, hown, hts⟩ (c_X3_copyFrom l D (Bm 4) (Bm 9) 12 (Km 3) (Am 4) (Am 9) (Lm 3) (by decide)) (cwV 1 hts gX2_copyFrom_X3_copyFrom rfl rfl rfl (by decide +kernel) ⟨Nat.le_of_ble_eq_true rfl, Nat.le_of_ble_eq_true rfl⟩) hK hN hP hD hS (Fr.app (Fr.kp sbMul3) frMul3) 3 2 rfl rfl rfl hl.1 (Nat.le_of_ble_eq_true rfl) ⟨Nat.zero_le _, Nat.zero_le _⟩ dX2_copyFrom_49 (fun H locs hP hD hS => ?_) rfl
  have hP : va_P D.1 vwCl ((wMul D Bm nm2 Km) ++ (wMul D Am nm2 (sr (sr (sr (sr Lm 0 (Km 0)) 1 (Km 1)) 2 (Km 2)) 3 (Km 3)))) H := hP
  have hD : va_D A0 ((wMul D Bm nm2 Km) ++ (wMul D Am nm2 (sr (sr (sr (sr Lm 0 (Km 0)) 1 (Km 1)) 2 (Km 2)) 3 (Km 3)))) := hD
  refine W.eq (g2 := F0 m 52 ls []) rfl ?_
  refine lv_aload_n hx hb dX2_copyFrom_52 rfl (lv_at hl 0 rfl) ?_
  refine va_get (D := D.1) (ci := 2) (v := .ref (Am 5)) (C := RX2) (T := TX2) (N := 6) hx hb hts hinX2 hown hK (sP (Sb.r Sb.self) hP) 0 rfl rfl 5 (by decide) (hts (.fieldLink RX2 29 "MountainPost$Mules" "hoursWalked" "LMountainPost$Row;") (List.mem_of_getElem? (i := 6) rfl)) (fun _ h9 => h9) rfl dX2_copyFrom_53 ?_
  refine lv_aload_n hx hb dX2_copyFrom_56 rfl (lv_at hl 1 rfl) ?_
  refine va_get (D := D.1) (ci := 2) (v := .ref (Bm 5)) (C := RX2) (T := TX2) (N := 6) hx hb hts hinX2 hown hK (sP (Sb.l Sb.self) hP) 0 rfl rfl 5 (by decide) (hts (.fieldLink RX2 29 "MountainPost$Mules" "hoursWalked" "LMountainPost$Row;") (List.mem_of_getElem? (i := 6) rfl)) (fun _ h9 => h9) rfl dX2_copyFrom_57 ?_
  refine kVw ⟨hx, hb, hml, hown, hts⟩ (c_X3_copyFrom l D (Bm 5) (Bm 10) 12 (Km 4) (Am 5) (Am 10) (Lm 4) (by decide)) (cwV 1 hts gX2_copyFrom_X3_copyFrom rfl rfl rfl (by decide +kernel) ⟨Nat.le_of_ble_eq_true rfl, Nat.le_of_ble_eq_true rfl⟩) hK hN hP hD hS (Fr.app (Fr.kp sbMul4) frMul4) 3 2 rfl rfl rfl hl.1 (Nat.le_of_ble_eq_true rfl) ⟨Nat.zero_le _, Nat.zero_le _⟩ dX2_copyFrom_60 (fun H locs hP hD hS => ?_) rfl
  have hP : va_P D.1 vwCl ((wMul D Bm nm2 Km) ++ (wMul D Am nm2 (sr (sr (sr (sr (sr Lm 0 (Km 0)) 1 (Km 1)) 2 (Km 2)) 3 (Km 3)) 4 (Km 4)))) H := hP
  have hD : va_D A0 ((wMul D Bm nm2 Km) ++ (wMul D Am nm2 (sr (sr (sr (sr (sr Lm 0 (Km 0)) 1 (Km 1)) 2 (Km 2)) 3 (Km 3)) 4 (Km 4)))) := hD
  refine W.eq (g2 := F0 m 63 ls []) rfl ?_
  exact eWv hx hb hr hlocks dX2_copyFrom_63 hS hP (by rfl)

set_option maxHeartbeats 4000000 in
set_option maxRecDepth 100000 in
theorem c_X1_copyFrom (l : Launch) (D : GG) (Be : Nat → Nat) (ne2 : Nat) (Ke : Nat → Nat → Int32) (Ae : Nat → Nat) (ne : Nat) (Le : Nat → Nat → Int32)  : Met l yX1_copyFrom wsX1_copyFrom ({ frames := 2, cells := 0, slots := 0, locals := 61 } : Room) (va_Pc [.ref (Ae 0), .ref (Be 0)] (wd D ((wLet D Be ne2 Ke) ++ (wLet D Ae ne Le)))) (QW D none ((wLet D Be ne2 Ke) ++ (wLet D Ae ne2 Ke)) (own ((wLet D Be ne2 Ke) ++ (wLet D Ae ne Le)))) 0 0 (own ((wLet D Be ne2 Ke) ++ (wLet D Ae ne Le))) := by
  refine Met.ofW (cc := cX1_copyFrom) (maxL := 2) (ret := none) (by decide) rfl ?_
  intro p e s m args below meth c s₁ B hml hv
  obtain ⟨rfl, hP, hK, hD, hN⟩ := hv
  have hx := B.exec
  have hb := B.bytes
  have hr := B.returns
  have hts := atoms_spec (ws := wsX1_copyFrom) B.pre
  have hown : s.vm.findClass RX1 = some m.cls := findClass_of_methodNamed B.named
  have hlocks := B.notSynchronized
  have hinX1 : ∀ w ∈ u_ws RX1 TX1 12, w ∈ wsX1_copyFrom := by decide +kernel
  have hS : va_S (own ((wLet D Be ne2 Ke) ++ (wLet D Ae ne Le))) s.heap s.heap [] := va_S.rf
  have hD : va_D (own ((wLet D Be ne2 Ke) ++ (wLet D Ae ne Le))) ((wLet D Be ne2 Ke) ++ (wLet D Ae ne Le)) := toOwn hD
  generalize hAe : own ((wLet D Be ne2 Ke) ++ (wLet D Ae ne Le)) = A0 at hD hS ⊢
  have hl := lv_entry ([.ref (Ae 0), .ref (Be 0)]) (n := 2) (Nat.le_of_ble_eq_true rfl)
  rw [lg_entry_eq]
  generalize (lg_sl ([.ref (Ae 0), .ref (Be 0)]) ++ List.replicate (2 - (lg_sl ([.ref (Ae 0), .ref (Be 0)])).length) Slot.unset).toArray = ls at hl ⊢
  have hl : lv_has ls 2 [(0, .ref (Ae 0)), (1, .ref (Be 0))] := hl
  refine lv_aload_n hx hb dX1_copyFrom_0 rfl (lv_at hl 0 rfl) ?_
  refine lv_aload_n hx hb dX1_copyFrom_1 rfl (lv_at hl 1 rfl) ?_
  refine va_get (D := D.1) (ci := 1) (v := .int (nI ne2)) (C := RX1) (T := TX1) (N := 12) hx hb hts hinX1 hown hK (sP (Sb.l Sb.self) hP) 0 rfl rfl 0 (by decide) (hts (.fieldLink RX1 50 "MountainPost$Letters" "number" "I") (List.mem_of_getElem? (i := 1) rfl)) (fun _ h9 => h9) rfl dX1_copyFrom_2 ?_
  refine W.eq (g2 := F0 m 5 ls [.int (nI ne2), .ref (Ae 0)]) (by rw [show nI ne2 = nI ne2 from rfl]) ?_
  refine va_put (D := D.1) (ci := 1) (v := .int (nI ne2)) (ty := .int) (C := RX1) (T := TX1) (N := 12) hx hb hts hinX1 tyX1 tyX1_ok nmX1 hown hK hP hD hS 23 rfl rfl 0 (by decide) (hts (.fieldLink RX1 50 "MountainPost$Letters" "number" "I") (List.mem_of_getElem? (i := 1) rfl)) (fun _ h9 => h9) rfl (by decide +kernel) rfl rfl (Nat.le_of_ble_eq_true rfl) dX1_copyFrom_5 (fun H locs hP hD hS => ?_)
  have hP : va_P D.1 vwCl ((wLet D Be ne2 Ke) ++ (wLet D Ae ne2 Le)) H := hP
  have hD : va_D A0 ((wLet D Be ne2 Ke) ++ (wLet D Ae ne2 Le)) := hD
  refine lv_aload_n hx hb dX1_copyFrom_8 rfl (lv_at hl 0 rfl) ?_
  refine va_get (D := D.1) (ci := 1) (v := .ref (Ae 1)) (C := RX1) (T := TX1) (N := 12) hx hb hts hinX1 hown hK (sP (Sb.r Sb.self) hP) 0 rfl rfl 1 (by decide) (hts (.fieldLink RX1 14 "MountainPost$Letters" "froms" "LMountainPost$Row;") (List.mem_of_getElem? (i := 2) rfl)) (fun _ h9 => h9) rfl dX1_copyFrom_9 ?_
  refine lv_aload_n hx hb dX1_copyFrom_12 rfl (lv_at hl 1 rfl) ?_
  refine va_get (D := D.1) (ci := 1) (v := .ref (Be 1)) (C := RX1) (T := TX1) (N := 12) hx hb hts hinX1 hown hK (sP (Sb.l Sb.self) hP) 0 rfl rfl 1 (by decide) (hts (.fieldLink RX1 14 "MountainPost$Letters" "froms" "LMountainPost$Row;") (List.mem_of_getElem? (i := 2) rfl)) (fun _ h9 => h9) rfl dX1_copyFrom_13 ?_
  refine kVw ⟨hx, hb, hml, hown, hts⟩ (c_X3_copyFrom l D (Be 1) (Be 12) 60 (Ke 0) (Ae 1) (Ae 12) (Le 0) (by decide)) (cwV 1 hts gX1_copyFrom_X3_copyFrom rfl rfl rfl (by decide +kernel) ⟨Nat.le_of_ble_eq_true rfl, Nat.le_of_ble_eq_true rfl⟩) hK hN hP hD hS (Fr.app (Fr.kp sbLet0) frLet0) 3 2 rfl rfl rfl hl.1 (Nat.le_of_ble_eq_true rfl) ⟨Nat.zero_le _, Nat.zero_le _⟩ dX1_copyFrom_16 (fun H locs hP hD hS => ?_) rfl
  have hP : va_P D.1 vwCl ((wLet D Be ne2 Ke) ++ (wLet D Ae ne2 (sr Le 0 (Ke 0)))) H := hP
  have hD : va_D A0 ((wLet D Be ne2 Ke) ++ (wLet D Ae ne2 (sr Le 0 (Ke 0)))) := hD
  refine W.eq (g2 := F0 m 19 ls []) rfl ?_
  refine lv_aload_n hx hb dX1_copyFrom_19 rfl (lv_at hl 0 rfl) ?_
  refine va_get (D := D.1) (ci := 1) (v := .ref (Ae 2)) (C := RX1) (T := TX1) (N := 12) hx hb hts hinX1 hown hK (sP (Sb.r Sb.self) hP) 0 rfl rfl 2 (by decide) (hts (.fieldLink RX1 20 "MountainPost$Letters" "tos" "LMountainPost$Row;") (List.mem_of_getElem? (i := 3) rfl)) (fun _ h9 => h9) rfl dX1_copyFrom_20 ?_
  refine lv_aload_n hx hb dX1_copyFrom_23 rfl (lv_at hl 1 rfl) ?_
  refine va_get (D := D.1) (ci := 1) (v := .ref (Be 2)) (C := RX1) (T := TX1) (N := 12) hx hb hts hinX1 hown hK (sP (Sb.l Sb.self) hP) 0 rfl rfl 2 (by decide) (hts (.fieldLink RX1 20 "MountainPost$Letters" "tos" "LMountainPost$Row;") (List.mem_of_getElem? (i := 3) rfl)) (fun _ h9 => h9) rfl dX1_copyFrom_24 ?_
  refine kVw ⟨hx, hb, hml, hown, hts⟩ (c_X3_copyFrom l D (Be 2) (Be 13) 60 (Ke 1) (Ae 2) (Ae 13) (Le 1) (by decide)) (cwV 1 hts gX1_copyFrom_X3_copyFrom rfl rfl rfl (by decide +kernel) ⟨Nat.le_of_ble_eq_true rfl, Nat.le_of_ble_eq_true rfl⟩) hK hN hP hD hS (Fr.app (Fr.kp sbLet1) frLet1) 3 2 rfl rfl rfl hl.1 (Nat.le_of_ble_eq_true rfl) ⟨Nat.zero_le _, Nat.zero_le _⟩ dX1_copyFrom_27 (fun H locs hP hD hS => ?_) rfl
  have hP : va_P D.1 vwCl ((wLet D Be ne2 Ke) ++ (wLet D Ae ne2 (sr (sr Le 0 (Ke 0)) 1 (Ke 1)))) H := hP
  have hD : va_D A0 ((wLet D Be ne2 Ke) ++ (wLet D Ae ne2 (sr (sr Le 0 (Ke 0)) 1 (Ke 1)))) := hD
  refine W.eq (g2 := F0 m 30 ls []) rfl ?_
  refine lv_aload_n hx hb dX1_copyFrom_30 rfl (lv_at hl 0 rfl) ?_
  refine va_get (D := D.1) (ci := 1) (v := .ref (Ae 3)) (C := RX1) (T := TX1) (N := 12) hx hb hts hinX1 hown hK (sP (Sb.r Sb.self) hP) 0 rfl rfl 3 (by decide) (hts (.fieldLink RX1 23 "MountainPost$Letters" "urgencies" "LMountainPost$Row;") (List.mem_of_getElem? (i := 4) rfl)) (fun _ h9 => h9) rfl dX1_copyFrom_31 ?_
  refine lv_aload_n hx hb dX1_copyFrom_34 rfl (lv_at hl 1 rfl) ?_
  refine va_get (D := D.1) (ci := 1) (v := .ref (Be 3)) (C := RX1) (T := TX1) (N := 12) hx hb hts hinX1 hown hK (sP (Sb.l Sb.self) hP) 0 rfl rfl 3 (by decide) (hts (.fieldLink RX1 23 "MountainPost$Letters" "urgencies" "LMountainPost$Row;") (List.mem_of_getElem? (i := 4) rfl)) (fun _ h9 => h9) rfl dX1_copyFrom_35 ?_
  refine kVw ⟨hx, hb, hml, hown, hts⟩ (c_X3_copyFrom l D (Be 3) (Be 14) 60 (Ke 2) (Ae 3) (Ae 14) (Le 2) (by decide)) (cwV 1 hts gX1_copyFrom_X3_copyFrom rfl rfl rfl (by decide +kernel) ⟨Nat.le_of_ble_eq_true rfl, Nat.le_of_ble_eq_true rfl⟩) hK hN hP hD hS (Fr.app (Fr.kp sbLet2) frLet2) 3 2 rfl rfl rfl hl.1 (Nat.le_of_ble_eq_true rfl) ⟨Nat.zero_le _, Nat.zero_le _⟩ dX1_copyFrom_38 (fun H locs hP hD hS => ?_) rfl
  have hP : va_P D.1 vwCl ((wLet D Be ne2 Ke) ++ (wLet D Ae ne2 (sr (sr (sr Le 0 (Ke 0)) 1 (Ke 1)) 2 (Ke 2)))) H := hP
  have hD : va_D A0 ((wLet D Be ne2 Ke) ++ (wLet D Ae ne2 (sr (sr (sr Le 0 (Ke 0)) 1 (Ke 1)) 2 (Ke 2)))) := hD
  refine W.eq (g2 := F0 m 41 ls []) rfl ?_
  refine lv_aload_n hx hb dX1_copyFrom_41 rfl (lv_at hl 0 rfl) ?_
  refine va_get (D := D.1) (ci := 1) (v := .ref (Ae 4)) (C := RX1) (T := TX1) (N := 12) hx hb hts hinX1 hown hK (sP (Sb.r Sb.self) hP) 0 rfl rfl 4 (by decide) (hts (.fieldLink RX1 26 "MountainPost$Letters" "states" "LMountainPost$Row;") (List.mem_of_getElem? (i := 5) rfl)) (fun _ h9 => h9) rfl dX1_copyFrom_42 ?_
  refine lv_aload_n hx hb dX1_copyFrom_45 rfl (lv_at hl 1 rfl) ?_
  refine va_get (D := D.1) (ci := 1) (v := .ref (Be 4)) (C := RX1) (T := TX1) (N := 12) hx hb hts hinX1 hown hK (sP (Sb.l Sb.self) hP) 0 rfl rfl 4 (by decide) (hts (.fieldLink RX1 26 "MountainPost$Letters" "states" "LMountainPost$Row;") (List.mem_of_getElem? (i := 5) rfl)) (fun _ h9 => h9) rfl dX1_copyFrom_46 ?_
  refine kVw ⟨hx, hb, hml, hown, hts⟩ (c_X3_copyFrom l D (Be 4) (Be 15) 60 (Ke 3) (Ae 4) (Ae 15) (Le 3) (by decide)) (cwV 1 hts gX1_copyFrom_X3_copyFrom rfl rfl rfl (by decide +kernel) ⟨Nat.le_of_ble_eq_true rfl, Nat.le_of_ble_eq_true rfl⟩) hK hN hP hD hS (Fr.app (Fr.kp sbLet3) frLet3) 3 2 rfl rfl rfl hl.1 (Nat.le_of_ble_eq_true rfl) ⟨Nat.zero_le _, Nat.zero_le _⟩ dX1_copyFrom_49 (fun H locs hP hD hS => ?_) rfl
  have hP : va_P D.1 vwCl ((wLet D Be ne2 Ke) ++ (wLet D Ae ne2 (sr (sr (sr (sr Le 0 (Ke 0)) 1 (Ke 1)) 2 (Ke 2)) 3 (Ke 3)))) H := hP
  have hD : va_D A0 ((wLet D Be ne2 Ke) ++ (wLet D Ae ne2 (sr (sr (sr (sr Le 0 (Ke 0)) 1 (Ke 1)) 2 (Ke 2)) 3 (Ke 3)))) := hD
  refine W.eq (g2 := F0 m 52 ls []) rfl ?_
  refine lv_aload_n hx hb dX1_copyFrom_52 rfl (lv_at hl 0 rfl) ?_
  refine va_get (D := D.1) (ci := 1) (v := .ref (Ae 5)) (C := RX1) (T := TX1) (N := 12) hx hb hts hinX1 hown hK (sP (Sb.r Sb.self) hP) 0 rfl rfl 5 (by decide) (hts (.fieldLink RX1 29 "MountainPost$Letters" "places" "LMountainPost$Row;") (List.mem_of_getElem? (i := 6) rfl)) (fun _ h9 => h9) rfl dX1_copyFrom_53 ?_
  refine lv_aload_n hx hb dX1_copyFrom_56 rfl (lv_at hl 1 rfl) ?_
  refine va_get (D := D.1) (ci := 1) (v := .ref (Be 5)) (C := RX1) (T := TX1) (N := 12) hx hb hts hinX1 hown hK (sP (Sb.l Sb.self) hP) 0 rfl rfl 5 (by decide) (hts (.fieldLink RX1 29 "MountainPost$Letters" "places" "LMountainPost$Row;") (List.mem_of_getElem? (i := 6) rfl)) (fun _ h9 => h9) rfl dX1_copyFrom_57 ?_
  refine kVw ⟨hx, hb, hml, hown, hts⟩ (c_X3_copyFrom l D (Be 5) (Be 16) 60 (Ke 4) (Ae 5) (Ae 16) (Le 4) (by decide)) (cwV 1 hts gX1_copyFrom_X3_copyFrom rfl rfl rfl (by decide +kernel) ⟨Nat.le_of_ble_eq_true rfl, Nat.le_of_ble_eq_true rfl⟩) hK hN hP hD hS (Fr.app (Fr.kp sbLet4) frLet4) 3 2 rfl rfl rfl hl.1 (Nat.le_of_ble_eq_true rfl) ⟨Nat.zero_le _, Nat.zero_le _⟩ dX1_copyFrom_60 (fun H locs hP hD hS => ?_) rfl
  have hP : va_P D.1 vwCl ((wLet D Be ne2 Ke) ++ (wLet D Ae ne2 (sr (sr (sr (sr (sr Le 0 (Ke 0)) 1 (Ke 1)) 2 (Ke 2)) 3 (Ke 3)) 4 (Ke 4)))) H := hP
  have hD : va_D A0 ((wLet D Be ne2 Ke) ++ (wLet D Ae ne2 (sr (sr (sr (sr (sr Le 0 (Ke 0)) 1 (Ke 1)) 2 (Ke 2)) 3 (Ke 3)) 4 (Ke 4)))) := hD
  refine W.eq (g2 := F0 m 63 ls []) rfl ?_
  refine lv_aload_n hx hb dX1_copyFrom_63 rfl (lv_at hl 0 rfl) ?_
  refine va_get (D := D.1) (ci := 1) (v := .ref (Ae 6)) (C := RX1) (T := TX1) (N := 12) hx hb hts hinX1 hown hK (sP (Sb.r Sb.self) hP) 0 rfl rfl 6 (by decide) (hts (.fieldLink RX1 32 "MountainPost$Letters" "carriers" "LMountainPost$Row;") (List.mem_of_getElem? (i := 7) rfl)) (fun _ h9 => h9) rfl dX1_copyFrom_64 ?_
  refine lv_aload_n hx hb dX1_copyFrom_67 rfl (lv_at hl 1 rfl) ?_
  refine va_get (D := D.1) (ci := 1) (v := .ref (Be 6)) (C := RX1) (T := TX1) (N := 12) hx hb hts hinX1 hown hK (sP (Sb.l Sb.self) hP) 0 rfl rfl 6 (by decide) (hts (.fieldLink RX1 32 "MountainPost$Letters" "carriers" "LMountainPost$Row;") (List.mem_of_getElem? (i := 7) rfl)) (fun _ h9 => h9) rfl dX1_copyFrom_68 ?_
  refine kVw ⟨hx, hb, hml, hown, hts⟩ (c_X3_copyFrom l D (Be 6) (Be 17) 60 (Ke 5) (Ae 6) (Ae 17) (Le 5) (by decide)) (cwV 1 hts gX1_copyFrom_X3_copyFrom rfl rfl rfl (by decide +kernel) ⟨Nat.le_of_ble_eq_true rfl, Nat.le_of_ble_eq_true rfl⟩) hK hN hP hD hS (Fr.app (Fr.kp sbLet5) frLet5) 3 2 rfl rfl rfl hl.1 (Nat.le_of_ble_eq_true rfl) ⟨Nat.zero_le _, Nat.zero_le _⟩ dX1_copyFrom_71 (fun H locs hP hD hS => ?_) rfl
  have hP : va_P D.1 vwCl ((wLet D Be ne2 Ke) ++ (wLet D Ae ne2 (sr (sr (sr (sr (sr (sr Le 0 (Ke 0)) 1 (Ke 1)) 2 (Ke 2)) 3 (Ke 3)) 4 (Ke 4)) 5 (Ke 5)))) H := hP
  have hD : va_D A0 ((wLet D Be ne2 Ke) ++ (wLet D Ae ne2 (sr (sr (sr (sr (sr (sr Le 0 (Ke 0)) 1 (Ke 1)) 2 (Ke 2)) 3 (Ke 3)) 4 (Ke 4)) 5 (Ke 5)))) := hD
  refine W.eq (g2 := F0 m 74 ls []) rfl ?_
  refine lv_aload_n hx hb dX1_copyFrom_74 rfl (lv_at hl 0 rfl) ?_
  refine va_get (D := D.1) (ci := 1) (v := .ref (Ae 7)) (C := RX1) (T := TX1) (N := 12) hx hb hts hinX1 hown hK (sP (Sb.r Sb.self) hP) 0 rfl rfl 7 (by decide) (hts (.fieldLink RX1 35 "MountainPost$Letters" "knowers" "LMountainPost$Row;") (List.mem_of_getElem? (i := 8) rfl)) (fun _ h9 => h9) rfl dX1_copyFrom_75 ?_
  refine lv_aload_n hx hb dX1_copyFrom_78 rfl (lv_at hl 1 rfl) ?_
  refine va_get (D := D.1) (ci := 1) (v := .ref (Be 7)) (C := RX1) (T := TX1) (N := 12) hx hb hts hinX1 hown hK (sP (Sb.l Sb.self) hP) 0 rfl rfl 7 (by decide) (hts (.fieldLink RX1 35 "MountainPost$Letters" "knowers" "LMountainPost$Row;") (List.mem_of_getElem? (i := 8) rfl)) (fun _ h9 => h9) rfl dX1_copyFrom_79 ?_
  refine kVw ⟨hx, hb, hml, hown, hts⟩ (c_X3_copyFrom l D (Be 7) (Be 18) 60 (Ke 6) (Ae 7) (Ae 18) (Le 6) (by decide)) (cwV 1 hts gX1_copyFrom_X3_copyFrom rfl rfl rfl (by decide +kernel) ⟨Nat.le_of_ble_eq_true rfl, Nat.le_of_ble_eq_true rfl⟩) hK hN hP hD hS (Fr.app (Fr.kp sbLet6) frLet6) 3 2 rfl rfl rfl hl.1 (Nat.le_of_ble_eq_true rfl) ⟨Nat.zero_le _, Nat.zero_le _⟩ dX1_copyFrom_82 (fun H locs hP hD hS => ?_) rfl
  have hP : va_P D.1 vwCl ((wLet D Be ne2 Ke) ++ (wLet D Ae ne2 (sr (sr (sr (sr (sr (sr (sr Le 0 (Ke 0)) 1 (Ke 1)) 2 (Ke 2)) 3 (Ke 3)) 4 (Ke 4)) 5 (Ke 5)) 6 (Ke 6)))) H := hP
  have hD : va_D A0 ((wLet D Be ne2 Ke) ++ (wLet D Ae ne2 (sr (sr (sr (sr (sr (sr (sr Le 0 (Ke 0)) 1 (Ke 1)) 2 (Ke 2)) 3 (Ke 3)) 4 (Ke 4)) 5 (Ke 5)) 6 (Ke 6)))) := hD
  refine W.eq (g2 := F0 m 85 ls []) rfl ?_
  refine lv_aload_n hx hb dX1_copyFrom_85 rfl (lv_at hl 0 rfl) ?_
  refine va_get (D := D.1) (ci := 1) (v := .ref (Ae 8)) (C := RX1) (T := TX1) (N := 12) hx hb hts hinX1 hown hK (sP (Sb.r Sb.self) hP) 0 rfl rfl 8 (by decide) (hts (.fieldLink RX1 38 "MountainPost$Letters" "turned" "LMountainPost$Row;") (List.mem_of_getElem? (i := 9) rfl)) (fun _ h9 => h9) rfl dX1_copyFrom_86 ?_
  refine lv_aload_n hx hb dX1_copyFrom_89 rfl (lv_at hl 1 rfl) ?_
  refine va_get (D := D.1) (ci := 1) (v := .ref (Be 8)) (C := RX1) (T := TX1) (N := 12) hx hb hts hinX1 hown hK (sP (Sb.l Sb.self) hP) 0 rfl rfl 8 (by decide) (hts (.fieldLink RX1 38 "MountainPost$Letters" "turned" "LMountainPost$Row;") (List.mem_of_getElem? (i := 9) rfl)) (fun _ h9 => h9) rfl dX1_copyFrom_90 ?_
  refine kVw ⟨hx, hb, hml, hown, hts⟩ (c_X3_copyFrom l D (Be 8) (Be 19) 60 (Ke 7) (Ae 8) (Ae 19) (Le 7) (by decide)) (cwV 1 hts gX1_copyFrom_X3_copyFrom rfl rfl rfl (by decide +kernel) ⟨Nat.le_of_ble_eq_true rfl, Nat.le_of_ble_eq_true rfl⟩) hK hN hP hD hS (Fr.app (Fr.kp sbLet7) frLet7) 3 2 rfl rfl rfl hl.1 (Nat.le_of_ble_eq_true rfl) ⟨Nat.zero_le _, Nat.zero_le _⟩ dX1_copyFrom_93 (fun H locs hP hD hS => ?_) rfl
  have hP : va_P D.1 vwCl ((wLet D Be ne2 Ke) ++ (wLet D Ae ne2 (sr (sr (sr (sr (sr (sr (sr (sr Le 0 (Ke 0)) 1 (Ke 1)) 2 (Ke 2)) 3 (Ke 3)) 4 (Ke 4)) 5 (Ke 5)) 6 (Ke 6)) 7 (Ke 7)))) H := hP
  have hD : va_D A0 ((wLet D Be ne2 Ke) ++ (wLet D Ae ne2 (sr (sr (sr (sr (sr (sr (sr (sr Le 0 (Ke 0)) 1 (Ke 1)) 2 (Ke 2)) 3 (Ke 3)) 4 (Ke 4)) 5 (Ke 5)) 6 (Ke 6)) 7 (Ke 7)))) := hD
  refine W.eq (g2 := F0 m 96 ls []) rfl ?_
  refine lv_aload_n hx hb dX1_copyFrom_96 rfl (lv_at hl 0 rfl) ?_
  refine va_get (D := D.1) (ci := 1) (v := .ref (Ae 9)) (C := RX1) (T := TX1) (N := 12) hx hb hts hinX1 hown hK (sP (Sb.r Sb.self) hP) 0 rfl rfl 9 (by decide) (hts (.fieldLink RX1 41 "MountainPost$Letters" "hoursPosted" "LMountainPost$Row;") (List.mem_of_getElem? (i := 10) rfl)) (fun _ h9 => h9) rfl dX1_copyFrom_97 ?_
  refine lv_aload_n hx hb dX1_copyFrom_100 rfl (lv_at hl 1 rfl) ?_
  refine va_get (D := D.1) (ci := 1) (v := .ref (Be 9)) (C := RX1) (T := TX1) (N := 12) hx hb hts hinX1 hown hK (sP (Sb.l Sb.self) hP) 0 rfl rfl 9 (by decide) (hts (.fieldLink RX1 41 "MountainPost$Letters" "hoursPosted" "LMountainPost$Row;") (List.mem_of_getElem? (i := 10) rfl)) (fun _ h9 => h9) rfl dX1_copyFrom_101 ?_
  refine kVw ⟨hx, hb, hml, hown, hts⟩ (c_X3_copyFrom l D (Be 9) (Be 20) 60 (Ke 8) (Ae 9) (Ae 20) (Le 8) (by decide)) (cwV 1 hts gX1_copyFrom_X3_copyFrom rfl rfl rfl (by decide +kernel) ⟨Nat.le_of_ble_eq_true rfl, Nat.le_of_ble_eq_true rfl⟩) hK hN hP hD hS (Fr.app (Fr.kp sbLet8) frLet8) 3 2 rfl rfl rfl hl.1 (Nat.le_of_ble_eq_true rfl) ⟨Nat.zero_le _, Nat.zero_le _⟩ dX1_copyFrom_104 (fun H locs hP hD hS => ?_) rfl
  have hP : va_P D.1 vwCl ((wLet D Be ne2 Ke) ++ (wLet D Ae ne2 (sr (sr (sr (sr (sr (sr (sr (sr (sr Le 0 (Ke 0)) 1 (Ke 1)) 2 (Ke 2)) 3 (Ke 3)) 4 (Ke 4)) 5 (Ke 5)) 6 (Ke 6)) 7 (Ke 7)) 8 (Ke 8)))) H := hP
  have hD : va_D A0 ((wLet D Be ne2 Ke) ++ (wLet D Ae ne2 (sr (sr (sr (sr (sr (sr (sr (sr (sr Le 0 (Ke 0)) 1 (Ke 1)) 2 (Ke 2)) 3 (Ke 3)) 4 (Ke 4)) 5 (Ke 5)) 6 (Ke 6)) 7 (Ke 7)) 8 (Ke 8)))) := hD
  refine W.eq (g2 := F0 m 107 ls []) rfl ?_
  refine lv_aload_n hx hb dX1_copyFrom_107 rfl (lv_at hl 0 rfl) ?_
  refine va_get (D := D.1) (ci := 1) (v := .ref (Ae 10)) (C := RX1) (T := TX1) (N := 12) hx hb hts hinX1 hown hK (sP (Sb.r Sb.self) hP) 0 rfl rfl 10 (by decide) (hts (.fieldLink RX1 44 "MountainPost$Letters" "hoursEnded" "LMountainPost$Row;") (List.mem_of_getElem? (i := 11) rfl)) (fun _ h9 => h9) rfl dX1_copyFrom_108 ?_
  refine lv_aload_n hx hb dX1_copyFrom_111 rfl (lv_at hl 1 rfl) ?_
  refine va_get (D := D.1) (ci := 1) (v := .ref (Be 10)) (C := RX1) (T := TX1) (N := 12) hx hb hts hinX1 hown hK (sP (Sb.l Sb.self) hP) 0 rfl rfl 10 (by decide) (hts (.fieldLink RX1 44 "MountainPost$Letters" "hoursEnded" "LMountainPost$Row;") (List.mem_of_getElem? (i := 11) rfl)) (fun _ h9 => h9) rfl dX1_copyFrom_112 ?_
  refine kVw ⟨hx, hb, hml, hown, hts⟩ (c_X3_copyFrom l D (Be 10) (Be 21) 60 (Ke 9) (Ae 10) (Ae 21) (Le 9) (by decide)) (cwV 1 hts gX1_copyFrom_X3_copyFrom rfl rfl rfl (by decide +kernel) ⟨Nat.le_of_ble_eq_true rfl, Nat.le_of_ble_eq_true rfl⟩) hK hN hP hD hS (Fr.app (Fr.kp sbLet9) frLet9) 3 2 rfl rfl rfl hl.1 (Nat.le_of_ble_eq_true rfl) ⟨Nat.zero_le _, Nat.zero_le _⟩ dX1_copyFrom_115 (fun H locs hP hD hS => ?_) rfl
  have hP : va_P D.1 vwCl ((wLet D Be ne2 Ke) ++ (wLet D Ae ne2 (sr (sr (sr (sr (sr (sr (sr (sr (sr (sr Le 0 (Ke 0)) 1 (Ke 1)) 2 (Ke 2)) 3 (Ke 3)) 4 (Ke 4)) 5 (Ke 5)) 6 (Ke 6)) 7 (Ke 7)) 8 (Ke 8)) 9 (Ke 9)))) H := hP
  have hD : va_D A0 ((wLet D Be ne2 Ke) ++ (wLet D Ae ne2 (sr (sr (sr (sr (sr (sr (sr (sr (sr (sr Le 0 (Ke 0)) 1 (Ke 1)) 2 (Ke 2)) 3 (Ke 3)) 4 (Ke 4)) 5 (Ke 5)) 6 (Ke 6)) 7 (Ke 7)) 8 (Ke 8)) 9 (Ke 9)))) := hD
  refine W.eq (g2 := F0 m 118 ls []) rfl ?_
  refine lv_aload_n hx hb dX1_copyFrom_118 rfl (lv_at hl 0 rfl) ?_
  refine va_get (D := D.1) (ci := 1) (v := .ref (Ae 11)) (C := RX1) (T := TX1) (N := 12) hx hb hts hinX1 hown hK (sP (Sb.r Sb.self) hP) 0 rfl rfl 11 (by decide) (hts (.fieldLink RX1 47 "MountainPost$Letters" "order" "LMountainPost$Row;") (List.mem_of_getElem? (i := 12) rfl)) (fun _ h9 => h9) rfl dX1_copyFrom_119 ?_
  refine lv_aload_n hx hb dX1_copyFrom_122 rfl (lv_at hl 1 rfl) ?_
  refine va_get (D := D.1) (ci := 1) (v := .ref (Be 11)) (C := RX1) (T := TX1) (N := 12) hx hb hts hinX1 hown hK (sP (Sb.l Sb.self) hP) 0 rfl rfl 11 (by decide) (hts (.fieldLink RX1 47 "MountainPost$Letters" "order" "LMountainPost$Row;") (List.mem_of_getElem? (i := 12) rfl)) (fun _ h9 => h9) rfl dX1_copyFrom_123 ?_
  refine kVw ⟨hx, hb, hml, hown, hts⟩ (c_X3_copyFrom l D (Be 11) (Be 22) 60 (Ke 10) (Ae 11) (Ae 22) (Le 10) (by decide)) (cwV 1 hts gX1_copyFrom_X3_copyFrom rfl rfl rfl (by decide +kernel) ⟨Nat.le_of_ble_eq_true rfl, Nat.le_of_ble_eq_true rfl⟩) hK hN hP hD hS (Fr.app (Fr.kp sbLet10) frLet10) 3 2 rfl rfl rfl hl.1 (Nat.le_of_ble_eq_true rfl) ⟨Nat.zero_le _, Nat.zero_le _⟩ dX1_copyFrom_126 (fun H locs hP hD hS => ?_) rfl
  have hP : va_P D.1 vwCl ((wLet D Be ne2 Ke) ++ (wLet D Ae ne2 (sr (sr (sr (sr (sr (sr (sr (sr (sr (sr (sr Le 0 (Ke 0)) 1 (Ke 1)) 2 (Ke 2)) 3 (Ke 3)) 4 (Ke 4)) 5 (Ke 5)) 6 (Ke 6)) 7 (Ke 7)) 8 (Ke 8)) 9 (Ke 9)) 10 (Ke 10)))) H := hP
  have hD : va_D A0 ((wLet D Be ne2 Ke) ++ (wLet D Ae ne2 (sr (sr (sr (sr (sr (sr (sr (sr (sr (sr (sr Le 0 (Ke 0)) 1 (Ke 1)) 2 (Ke 2)) 3 (Ke 3)) 4 (Ke 4)) 5 (Ke 5)) 6 (Ke 6)) 7 (Ke 7)) 8 (Ke 8)) 9 (Ke 9)) 10 (Ke 10)))) := hD
  refine W.eq (g2 := F0 m 129 ls []) rfl ?_
  exact eWv hx hb hr hlocks dX1_copyFrom_129 hS hP (by rfl)

set_option maxHeartbeats 4000000 in
set_option maxRecDepth 100000 in
theorem c_X4_copyFrom (l : Launch) (D : GG) (ot2 : Nat) (Ad : Nat → Nat) (Bw : Nat → Nat) (Bm : Nat → Nat) (Be : Nat → Nat) (xu : Nat) (hr2 : Int32) (cr2 : Int32) (Kw : Nat → Nat → Int32) (nm2 : Nat) (Km : Nat → Nat → Int32) (ne2 : Nat) (Ke : Nat → Nat → Int32) (ot : Nat) (Aw : Nat → Nat) (Am : Nat → Nat) (Ae : Nat → Nat) (xt : Nat) (hou : Int32) (cro : Int32) (Lw : Nat → Nat → Int32) (nm : Nat) (Lm : Nat → Nat → Int32) (ne : Nat) (Le : Nat → Nat → Int32) (nsd : Nat) (fogd : Int32) (nrd : Nat) (Ld : Nat → Nat → Int32)  : Met l yX4_copyFrom wsX4_copyFrom ({ frames := 3, cells := 0, slots := 0, locals := 82 } : Room) (va_Pc [.ref ot, .ref ot2] (wd D ((wTob ot2 Ad Bw Bm Be xu hr2 cr2) ++ ((wWays D Bw Kw) ++ ((wMul D Bm nm2 Km) ++ ((wLet D Be ne2 Ke) ++ ((wTob ot Ad Aw Am Ae xt hou cro) ++ ((wWays D Aw Lw) ++ ((wMul D Am nm Lm) ++ ((wLet D Ae ne Le) ++ (wLand D Ad nsd fogd nrd Ld))))))))))) (QW D none ((wTob ot2 Ad Bw Bm Be xu hr2 cr2) ++ ((wWays D Bw Kw) ++ ((wMul D Bm nm2 Km) ++ ((wLet D Be ne2 Ke) ++ ((wTob ot Ad Aw Am Ae xt hr2 cr2) ++ ((wWays D Aw Kw) ++ ((wMul D Am nm2 Km) ++ ((wLet D Ae ne2 Ke) ++ (wLand D Ad nsd fogd nrd Ld))))))))) (own ((wTob ot2 Ad Bw Bm Be xu hr2 cr2) ++ ((wWays D Bw Kw) ++ ((wMul D Bm nm2 Km) ++ ((wLet D Be ne2 Ke) ++ ((wTob ot Ad Aw Am Ae xt hou cro) ++ ((wWays D Aw Lw) ++ ((wMul D Am nm Lm) ++ ((wLet D Ae ne Le) ++ (wLand D Ad nsd fogd nrd Ld))))))))))) 0 0 (own ((wTob ot2 Ad Bw Bm Be xu hr2 cr2) ++ ((wWays D Bw Kw) ++ ((wMul D Bm nm2 Km) ++ ((wLet D Be ne2 Ke) ++ ((wTob ot Ad Aw Am Ae xt hou cro) ++ ((wWays D Aw Lw) ++ ((wMul D Am nm Lm) ++ ((wLet D Ae ne Le) ++ (wLand D Ad nsd fogd nrd Ld)))))))))) := by
  refine Met.ofW (cc := cX4_copyFrom) (maxL := 2) (ret := none) (by decide) rfl ?_
  intro p e s m args below meth c s₁ B hml hv
  obtain ⟨rfl, hP, hK, hD, hN⟩ := hv
  have hx := B.exec
  have hb := B.bytes
  have hr := B.returns
  have hts := atoms_spec (ws := wsX4_copyFrom) B.pre
  have hown : s.vm.findClass RX4 = some m.cls := findClass_of_methodNamed B.named
  have hlocks := B.notSynchronized
  have hinX4 : ∀ w ∈ u_ws RX4 TX4 7, w ∈ wsX4_copyFrom := by decide +kernel
  have hS : va_S (own ((wTob ot2 Ad Bw Bm Be xu hr2 cr2) ++ ((wWays D Bw Kw) ++ ((wMul D Bm nm2 Km) ++ ((wLet D Be ne2 Ke) ++ ((wTob ot Ad Aw Am Ae xt hou cro) ++ ((wWays D Aw Lw) ++ ((wMul D Am nm Lm) ++ ((wLet D Ae ne Le) ++ (wLand D Ad nsd fogd nrd Ld)))))))))) s.heap s.heap [] := va_S.rf
  have hD : va_D (own ((wTob ot2 Ad Bw Bm Be xu hr2 cr2) ++ ((wWays D Bw Kw) ++ ((wMul D Bm nm2 Km) ++ ((wLet D Be ne2 Ke) ++ ((wTob ot Ad Aw Am Ae xt hou cro) ++ ((wWays D Aw Lw) ++ ((wMul D Am nm Lm) ++ ((wLet D Ae ne Le) ++ (wLand D Ad nsd fogd nrd Ld)))))))))) ((wTob ot2 Ad Bw Bm Be xu hr2 cr2) ++ ((wWays D Bw Kw) ++ ((wMul D Bm nm2 Km) ++ ((wLet D Be ne2 Ke) ++ ((wTob ot Ad Aw Am Ae xt hou cro) ++ ((wWays D Aw Lw) ++ ((wMul D Am nm Lm) ++ ((wLet D Ae ne Le) ++ (wLand D Ad nsd fogd nrd Ld))))))))) := toOwn hD
  generalize hAe : own ((wTob ot2 Ad Bw Bm Be xu hr2 cr2) ++ ((wWays D Bw Kw) ++ ((wMul D Bm nm2 Km) ++ ((wLet D Be ne2 Ke) ++ ((wTob ot Ad Aw Am Ae xt hou cro) ++ ((wWays D Aw Lw) ++ ((wMul D Am nm Lm) ++ ((wLet D Ae ne Le) ++ (wLand D Ad nsd fogd nrd Ld))))))))) = A0 at hD hS ⊢
  have hl := lv_entry ([.ref ot, .ref ot2]) (n := 2) (Nat.le_of_ble_eq_true rfl)
  rw [lg_entry_eq]
  generalize (lg_sl ([.ref ot, .ref ot2]) ++ List.replicate (2 - (lg_sl ([.ref ot, .ref ot2])).length) Slot.unset).toArray = ls at hl ⊢
  have hl : lv_has ls 2 [(0, .ref ot), (1, .ref ot2)] := hl
  refine lv_aload_n hx hb dX4_copyFrom_0 rfl (lv_at hl 0 rfl) ?_
  refine va_get (D := D.1) (ci := 4) (v := .ref (Aw 0)) (C := RX4) (T := TX4) (N := 7) hx hb hts hinX4 hown hK (sP (Sb.r (Sb.r (Sb.r (Sb.r (Sb.l Sb.self))))) hP) 0 rfl rfl 1 (by decide) (hts (.fieldLink RX4 12 "MountainPost$Traffic" "ways" "LMountainPost$Ways;") (List.mem_of_getElem? (i := 1) rfl)) (fun _ h9 => h9) rfl dX4_copyFrom_1 ?_
  refine lv_aload_n hx hb dX4_copyFrom_4 rfl (lv_at hl 1 rfl) ?_
  refine va_get (D := D.1) (ci := 4) (v := .ref (Bw 0)) (C := RX4) (T := TX4) (N := 7) hx hb hts hinX4 hown hK (sP (Sb.l Sb.self) hP) 0 rfl rfl 1 (by decide) (hts (.fieldLink RX4 12 "MountainPost$Traffic" "ways" "LMountainPost$Ways;") (List.mem_of_getElem? (i := 1) rfl)) (fun _ h9 => h9) rfl dX4_copyFrom_5 ?_
  refine kVw ⟨hx, hb, hml, hown, hts⟩ (c_X5_copyFrom l D Bw Kw Aw Lw) (cwV 1 hts gX4_copyFrom_X5_copyFrom rfl rfl rfl (by decide +kernel) ⟨Nat.le_of_ble_eq_true rfl, Nat.le_of_ble_eq_true rfl⟩) hK hN hP hD hS (Fr.r (Fr.app (Fr.kp Sb.self) (Fr.r (Fr.r (Fr.r (Fr.l frsWays)))))) 5 5 rfl rfl rfl hl.1 (Nat.le_of_ble_eq_true rfl) ⟨Nat.zero_le _, Nat.zero_le _⟩ dX4_copyFrom_8 (fun H locs hP hD hS => ?_) rfl
  have hP : va_P D.1 vwCl ((wTob ot2 Ad Bw Bm Be xu hr2 cr2) ++ ((wWays D Bw Kw) ++ ((wMul D Bm nm2 Km) ++ ((wLet D Be ne2 Ke) ++ ((wTob ot Ad Aw Am Ae xt hou cro) ++ ((wWays D Aw Kw) ++ ((wMul D Am nm Lm) ++ ((wLet D Ae ne Le) ++ (wLand D Ad nsd fogd nrd Ld))))))))) H := hP
  have hD : va_D A0 ((wTob ot2 Ad Bw Bm Be xu hr2 cr2) ++ ((wWays D Bw Kw) ++ ((wMul D Bm nm2 Km) ++ ((wLet D Be ne2 Ke) ++ ((wTob ot Ad Aw Am Ae xt hou cro) ++ ((wWays D Aw Kw) ++ ((wMul D Am nm Lm) ++ ((wLet D Ae ne Le) ++ (wLand D Ad nsd fogd nrd Ld))))))))) := hD
  refine W.eq (g2 := F0 m 11 ls []) rfl ?_
  refine lv_aload_n hx hb dX4_copyFrom_11 rfl (lv_at hl 0 rfl) ?_
  refine va_get (D := D.1) (ci := 4) (v := .ref (Am 0)) (C := RX4) (T := TX4) (N := 7) hx hb hts hinX4 hown hK (sP (Sb.r (Sb.r (Sb.r (Sb.r (Sb.l Sb.self))))) hP) 0 rfl rfl 2 (by decide) (hts (.fieldLink RX4 21 "MountainPost$Traffic" "mules" "LMountainPost$Mules;") (List.mem_of_getElem? (i := 2) rfl)) (fun _ h9 => h9) rfl dX4_copyFrom_12 ?_
  refine lv_aload_n hx hb dX4_copyFrom_15 rfl (lv_at hl 1 rfl) ?_
  refine va_get (D := D.1) (ci := 4) (v := .ref (Bm 0)) (C := RX4) (T := TX4) (N := 7) hx hb hts hinX4 hown hK (sP (Sb.l Sb.self) hP) 0 rfl rfl 2 (by decide) (hts (.fieldLink RX4 21 "MountainPost$Traffic" "mules" "LMountainPost$Mules;") (List.mem_of_getElem? (i := 2) rfl)) (fun _ h9 => h9) rfl dX4_copyFrom_16 ?_
  refine kVw ⟨hx, hb, hml, hown, hts⟩ (c_X2_copyFrom l D Bm nm2 Km Am nm Lm) (cwV 1 hts gX4_copyFrom_X2_copyFrom rfl rfl rfl (by decide +kernel) ⟨Nat.le_of_ble_eq_true rfl, Nat.le_of_ble_eq_true rfl⟩) hK hN hP hD hS (Fr.r (Fr.r (Fr.app (Fr.kp Sb.self) (Fr.r (Fr.r (Fr.r (Fr.l frsMul))))))) 2 11 rfl rfl rfl hl.1 (Nat.le_of_ble_eq_true rfl) ⟨Nat.zero_le _, Nat.zero_le _⟩ dX4_copyFrom_19 (fun H locs hP hD hS => ?_) rfl
  have hP : va_P D.1 vwCl ((wTob ot2 Ad Bw Bm Be xu hr2 cr2) ++ ((wWays D Bw Kw) ++ ((wMul D Bm nm2 Km) ++ ((wLet D Be ne2 Ke) ++ ((wTob ot Ad Aw Am Ae xt hou cro) ++ ((wWays D Aw Kw) ++ ((wMul D Am nm2 Km) ++ ((wLet D Ae ne Le) ++ (wLand D Ad nsd fogd nrd Ld))))))))) H := hP
  have hD : va_D A0 ((wTob ot2 Ad Bw Bm Be xu hr2 cr2) ++ ((wWays D Bw Kw) ++ ((wMul D Bm nm2 Km) ++ ((wLet D Be ne2 Ke) ++ ((wTob ot Ad Aw Am Ae xt hou cro) ++ ((wWays D Aw Kw) ++ ((wMul D Am nm2 Km) ++ ((wLet D Ae ne Le) ++ (wLand D Ad nsd fogd nrd Ld))))))))) := hD
  refine W.eq (g2 := F0 m 22 ls []) rfl ?_
  refine lv_aload_n hx hb dX4_copyFrom_22 rfl (lv_at hl 0 rfl) ?_
  refine va_get (D := D.1) (ci := 4) (v := .ref (Ae 0)) (C := RX4) (T := TX4) (N := 7) hx hb hts hinX4 hown hK (sP (Sb.r (Sb.r (Sb.r (Sb.r (Sb.l Sb.self))))) hP) 0 rfl rfl 3 (by decide) (hts (.fieldLink RX4 28 "MountainPost$Traffic" "letters" "LMountainPost$Letters;") (List.mem_of_getElem? (i := 3) rfl)) (fun _ h9 => h9) rfl dX4_copyFrom_23 ?_
  refine lv_aload_n hx hb dX4_copyFrom_26 rfl (lv_at hl 1 rfl) ?_
  refine va_get (D := D.1) (ci := 4) (v := .ref (Be 0)) (C := RX4) (T := TX4) (N := 7) hx hb hts hinX4 hown hK (sP (Sb.l Sb.self) hP) 0 rfl rfl 3 (by decide) (hts (.fieldLink RX4 28 "MountainPost$Traffic" "letters" "LMountainPost$Letters;") (List.mem_of_getElem? (i := 3) rfl)) (fun _ h9 => h9) rfl dX4_copyFrom_27 ?_
  refine kVw ⟨hx, hb, hml, hown, hts⟩ (c_X1_copyFrom l D Be ne2 Ke Ae ne Le) (cwV 1 hts gX4_copyFrom_X1_copyFrom rfl rfl rfl (by decide +kernel) ⟨Nat.le_of_ble_eq_true rfl, Nat.le_of_ble_eq_true rfl⟩) hK hN hP hD hS (Fr.r (Fr.r (Fr.r (Fr.app (Fr.kp Sb.self) (Fr.r (Fr.r (Fr.r (Fr.l frsLet)))))))) 1 23 rfl rfl rfl hl.1 (Nat.le_of_ble_eq_true rfl) ⟨Nat.zero_le _, Nat.zero_le _⟩ dX4_copyFrom_30 (fun H locs hP hD hS => ?_) rfl
  have hP : va_P D.1 vwCl ((wTob ot2 Ad Bw Bm Be xu hr2 cr2) ++ ((wWays D Bw Kw) ++ ((wMul D Bm nm2 Km) ++ ((wLet D Be ne2 Ke) ++ ((wTob ot Ad Aw Am Ae xt hou cro) ++ ((wWays D Aw Kw) ++ ((wMul D Am nm2 Km) ++ ((wLet D Ae ne2 Ke) ++ (wLand D Ad nsd fogd nrd Ld))))))))) H := hP
  have hD : va_D A0 ((wTob ot2 Ad Bw Bm Be xu hr2 cr2) ++ ((wWays D Bw Kw) ++ ((wMul D Bm nm2 Km) ++ ((wLet D Be ne2 Ke) ++ ((wTob ot Ad Aw Am Ae xt hou cro) ++ ((wWays D Aw Kw) ++ ((wMul D Am nm2 Km) ++ ((wLet D Ae ne2 Ke) ++ (wLand D Ad nsd fogd nrd Ld))))))))) := hD
  refine W.eq (g2 := F0 m 33 ls []) rfl ?_
  refine lv_aload_n hx hb dX4_copyFrom_33 rfl (lv_at hl 0 rfl) ?_
  refine lv_aload_n hx hb dX4_copyFrom_34 rfl (lv_at hl 1 rfl) ?_
  refine va_get (D := D.1) (ci := 4) (v := .int hr2) (C := RX4) (T := TX4) (N := 7) hx hb hts hinX4 hown hK (sP (Sb.l Sb.self) hP) 0 rfl rfl 5 (by decide) (hts (.fieldLink RX4 70 "MountainPost$Traffic" "hour" "I") (List.mem_of_getElem? (i := 4) rfl)) (fun _ h9 => h9) rfl dX4_copyFrom_35 ?_
  refine va_put (D := D.1) (ci := 4) (v := .int hr2) (ty := .int) (C := RX4) (T := TX4) (N := 7) hx hb hts hinX4 tyX4 tyX4_ok nmX4 hown hK hP hD hS 40 rfl rfl 5 (by decide) (hts (.fieldLink RX4 70 "MountainPost$Traffic" "hour" "I") (List.mem_of_getElem? (i := 4) rfl)) (fun _ h9 => h9) rfl (by decide +kernel) rfl rfl (Nat.le_of_ble_eq_true rfl) dX4_copyFrom_38 (fun H locs hP hD hS => ?_)
  have hP : va_P D.1 vwCl ((wTob ot2 Ad Bw Bm Be xu hr2 cr2) ++ ((wWays D Bw Kw) ++ ((wMul D Bm nm2 Km) ++ ((wLet D Be ne2 Ke) ++ ((wTob ot Ad Aw Am Ae xt hr2 cro) ++ ((wWays D Aw Kw) ++ ((wMul D Am nm2 Km) ++ ((wLet D Ae ne2 Ke) ++ (wLand D Ad nsd fogd nrd Ld))))))))) H := hP
  have hD : va_D A0 ((wTob ot2 Ad Bw Bm Be xu hr2 cr2) ++ ((wWays D Bw Kw) ++ ((wMul D Bm nm2 Km) ++ ((wLet D Be ne2 Ke) ++ ((wTob ot Ad Aw Am Ae xt hr2 cro) ++ ((wWays D Aw Kw) ++ ((wMul D Am nm2 Km) ++ ((wLet D Ae ne2 Ke) ++ (wLand D Ad nsd fogd nrd Ld))))))))) := hD
  refine lv_aload_n hx hb dX4_copyFrom_41 rfl (lv_at hl 0 rfl) ?_
  refine lv_aload_n hx hb dX4_copyFrom_42 rfl (lv_at hl 1 rfl) ?_
  refine va_get (D := D.1) (ci := 4) (v := .int cr2) (C := RX4) (T := TX4) (N := 7) hx hb hts hinX4 hown hK (sP (Sb.l Sb.self) hP) 0 rfl rfl 6 (by decide) (hts (.fieldLink RX4 177 "MountainPost$Traffic" "crosses" "I") (List.mem_of_getElem? (i := 5) rfl)) (fun _ h9 => h9) rfl dX4_copyFrom_43 ?_
  refine va_put (D := D.1) (ci := 4) (v := .int cr2) (ty := .int) (C := RX4) (T := TX4) (N := 7) hx hb hts hinX4 tyX4 tyX4_ok nmX4 hown hK hP hD hS 40 rfl rfl 6 (by decide) (hts (.fieldLink RX4 177 "MountainPost$Traffic" "crosses" "I") (List.mem_of_getElem? (i := 5) rfl)) (fun _ h9 => h9) rfl (by decide +kernel) rfl rfl (Nat.le_of_ble_eq_true rfl) dX4_copyFrom_46 (fun H locs hP hD hS => ?_)
  have hP : va_P D.1 vwCl ((wTob ot2 Ad Bw Bm Be xu hr2 cr2) ++ ((wWays D Bw Kw) ++ ((wMul D Bm nm2 Km) ++ ((wLet D Be ne2 Ke) ++ ((wTob ot Ad Aw Am Ae xt hr2 cr2) ++ ((wWays D Aw Kw) ++ ((wMul D Am nm2 Km) ++ ((wLet D Ae ne2 Ke) ++ (wLand D Ad nsd fogd nrd Ld))))))))) H := hP
  have hD : va_D A0 ((wTob ot2 Ad Bw Bm Be xu hr2 cr2) ++ ((wWays D Bw Kw) ++ ((wMul D Bm nm2 Km) ++ ((wLet D Be ne2 Ke) ++ ((wTob ot Ad Aw Am Ae xt hr2 cr2) ++ ((wWays D Aw Kw) ++ ((wMul D Am nm2 Km) ++ ((wLet D Ae ne2 Ke) ++ (wLand D Ad nsd fogd nrd Ld))))))))) := hD
  exact eWv hx hb hr hlocks dX4_copyFrom_49 hS hP (by rfl)
