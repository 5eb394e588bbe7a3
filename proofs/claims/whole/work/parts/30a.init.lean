set_option maxHeartbeats 4000000 in
set_option maxRecDepth 100000 in
theorem c_X3_init (l : Launch) (D : GG) (oo : Nat) (n : Nat) (sz : Nat) (hn : n ≤ 100) : Met l yX3_init wsX3_init ({ frames := 1, cells := 1, slots := 100, locals := 21 } : Room) (va_Pc [.ref oo, .int (nI n)] (wdZ D [(oo, .inr (3, [.null]))] sz)) (QX D (fun _ => none) (fun g => (wRow D oo (g 0) n z0)) (ownZ [(oo, .inr (3, [.null]))] sz)) 1 100 (ownZ [(oo, .inr (3, [.null]))] sz) := by
  refine Met.ofW (cc := cX3_init) (maxL := 2) (ret := none) (by decide) rfl ?_
  intro p e s m args below meth c s₁ B hml hv
  obtain ⟨rfl, hsz, hP, hK, hD, hN⟩ := hv
  have hx := B.exec
  have hb := B.bytes
  have hr := B.returns
  have hts := atoms_spec (ws := wsX3_init) B.pre
  have hown : s.vm.findClass RX3 = some m.cls := findClass_of_methodNamed B.named
  have hlocks := B.notSynchronized
  have hinit : meth.name = "<init>" := (name_of_methodNamed B.named B.method).1
  have hinX3 : ∀ w ∈ u_ws RX3 TX3 1, w ∈ wsX3_init := by decide +kernel
  subst hsz
  have hS : va_S (ownZ [(oo, .inr (3, [.null]))] s.heap.size) s.heap s.heap [] := va_S.rf
  have hD : va_D (ownZ [(oo, .inr (3, [.null]))] s.heap.size) [(oo, .inr (3, [.null]))] := toOwnZ hD
  have hA : ∀ q : Nat, s.heap.size ≤ q → ownZ [(oo, .inr (3, [.null]))] s.heap.size q := fun _ h => Or.inr h
  generalize hAe : ownZ [(oo, .inr (3, [.null]))] s.heap.size = A0 at hD hS hA ⊢
  have hl := lv_entry ([.ref oo, .int (nI n)]) (n := 2) (Nat.le_of_ble_eq_true rfl)
  rw [lg_entry_eq]
  generalize (lg_sl ([.ref oo, .int (nI n)]) ++ List.replicate (2 - (lg_sl ([.ref oo, .int (nI n)])).length) Slot.unset).toArray = ls at hl ⊢
  have hl : lv_has ls 2 [(0, .ref oo), (1, .int (nI n))] := hl
  refine lv_aload_n hx hb dX3_init_0 rfl (lv_at hl 0 rfl) ?_
  refine W.objInit hx hb hown (hts (.methodLink RX3 1 objectInit) (List.mem_of_getElem? (i := 1) rfl)) (hts (.instanceMethod objectInit) (List.mem_of_getElem? (i := 2) rfl)) (hts (.code objectInit ⟨#[0xb1]⟩ 1 none) (List.mem_of_getElem? (i := 3) rfl)) rfl (by rw [hml]; exact hl.1) rfl dX3_init_1 (Nat.le_of_ble_eq_true rfl) (Nat.le_of_ble_eq_true rfl) ?_
  refine W.eq (g2 := F0 m 4 ls []) rfl ?_
  refine lv_aload_n hx hb dX3_init_4 rfl (lv_at hl 0 rfl) ?_
  refine lv_iconst (v := 0) hx hb dX3_init_5 (by decide) ?_
  refine lv_iload_n hx hb dX3_init_6 rfl (lv_at hl 1 rfl) ?_
  refine va_mmax hx hb (hml.trans hl.1.symm) hown (hts (.methodLink RX3 7 Lib.Math.max.name) (List.mem_of_getElem? (i := 4) rfl)) (hts (.static Lib.Math.max.name) (List.mem_of_getElem? (i := 5) rfl)) (hts (.initialized "java/lang/Math") (List.mem_of_getElem? (i := 6) rfl)) (hts (.code Lib.Math.max.name Lib.Math.max.code 2 (some .int)) (List.mem_of_getElem? (i := 7) rfl)) (Nat.le_of_ble_eq_true rfl) (Nat.le_of_ble_eq_true rfl) (Nat.zero_le _) (Nat.zero_le _) dX3_init_7 ?_
  refine W.eq (g2 := F0 m 10 ls [.int (nI n), .ref oo]) (congrArg (fun zz : Int32 => F0 m 10 ls [.int zz, .ref oo]) (show (if 0 < (nI n) then (nI n) else 0) = (nI n) from maxn hn)) ?_
  refine newaI (D := D) hx hb (hts (.arrayClass .int) (List.mem_of_getElem? (i := 8) rfl)) hK hP hD hS hA (N' := n) (nI_pos (by omega)) (nI_clamp (by omega)) (by show n * 4 ≤ _; omega) (Nat.le_of_ble_eq_true rfl) (by show 0 + n ≤ 100; omega) dX3_init_10 (fun q1 H hP hD hS => ?_)
  have hP : va_P D.1 vwCl ([(oo, .inr (3, [.null]))] ++ [(q1, .inl (D.2 0, n, .inl z0))]) H := hP
  have hD : va_D A0 ([(oo, .inr (3, [.null]))] ++ [(q1, .inl (D.2 0, n, .inl z0))]) := hD
  refine va_putF (D := D.1) (ci := 3) (v := .ref q1) (ty := .array .int) (C := RX3) (T := TX3) (N := 1) hx hb hts hinX3 tyX3 tyX3_ok nmX3 hown hK hP hD hS 0 rfl rfl 0 (by decide) (hts (.fieldLink RX3 13 "MountainPost$Row" "cells" "[I") (List.mem_of_getElem? (i := 9) rfl)) (fun _ h9 => h9) rfl hinit rfl (by decide +kernel) rfl rfl (Nat.le_of_ble_eq_true rfl) dX3_init_12 (fun H locs hP hD hS => ?_)
  have hP : va_P D.1 vwCl ([(oo, .inr (3, [.ref q1]))] ++ [(q1, .inl (D.2 0, n, .inl z0))]) H := hP
  have hD : va_D A0 ([(oo, .inr (3, [.ref q1]))] ++ [(q1, .inl (D.2 0, n, .inl z0))]) := hD
  have hP : va_P D.1 vwCl (wRow D oo ((gl [q1]) 0) n z0) H := hP
  have hD : va_D A0 (wRow D oo ((gl [q1]) 0) n z0) := hD
  refine W.widen (k := 1) (n := 100) (Nat.le_of_ble_eq_true rfl) (by omega) ?_
  exact W.vret hx hb hr (fun t ht hW => ⟨gl [q1], rfl, by rw [ht]; exact hP, hD, hS.F ht⟩) hS.2.2 dX3_init_15 hlocks

set_option maxHeartbeats 4000000 in
set_option maxRecDepth 100000 in
theorem c_X7_init (l : Launch) (D : GG) (oo : Nat) (sz : Nat)  : Met l yX7_init wsX7_init ({ frames := 1, cells := 8, slots := 987, locals := 20 } : Room) (va_Pc [.ref oo] (wdZ D [(oo, .inr (7, [.int 0, .int 0, .null, .null, .int 0, .int 0, .null, .int 0, .int 0, .null, .null, .null, .null, .null]))] sz)) (QX D (fun _ => none) (fun g => (wMod D (nA oo g) 0 0 0 0 0 0 (fun _ => z0))) (ownZ [(oo, .inr (7, [.int 0, .int 0, .null, .null, .int 0, .int 0, .null, .int 0, .int 0, .null, .null, .null, .null, .null]))] sz)) 8 987 (ownZ [(oo, .inr (7, [.int 0, .int 0, .null, .null, .int 0, .int 0, .null, .int 0, .int 0, .null, .null, .null, .null, .null]))] sz) := by
  refine Met.ofW (cc := cX7_init) (maxL := 1) (ret := none) (by decide) rfl ?_
  intro p e s m args below meth c s₁ B hml hv
  obtain ⟨rfl, hsz, hP, hK, hD, hN⟩ := hv
  have hx := B.exec
  have hb := B.bytes
  have hr := B.returns
  have hts := atoms_spec (ws := wsX7_init) B.pre
  have hown : s.vm.findClass RX7 = some m.cls := findClass_of_methodNamed B.named
  have hlocks := B.notSynchronized
  have hinit : meth.name = "<init>" := (name_of_methodNamed B.named B.method).1
  have hinX7 : ∀ w ∈ u_ws RX7 TX7 14, w ∈ wsX7_init := by decide +kernel
  subst hsz
  have hS : va_S (ownZ [(oo, .inr (7, [.int 0, .int 0, .null, .null, .int 0, .int 0, .null, .int 0, .int 0, .null, .null, .null, .null, .null]))] s.heap.size) s.heap s.heap [] := va_S.rf
  have hD : va_D (ownZ [(oo, .inr (7, [.int 0, .int 0, .null, .null, .int 0, .int 0, .null, .int 0, .int 0, .null, .null, .null, .null, .null]))] s.heap.size) [(oo, .inr (7, [.int 0, .int 0, .null, .null, .int 0, .int 0, .null, .int 0, .int 0, .null, .null, .null, .null, .null]))] := toOwnZ hD
  have hA : ∀ q : Nat, s.heap.size ≤ q → ownZ [(oo, .inr (7, [.int 0, .int 0, .null, .null, .int 0, .int 0, .null, .int 0, .int 0, .null, .null, .null, .null, .null]))] s.heap.size q := fun _ h => Or.inr h
  generalize hAe : ownZ [(oo, .inr (7, [.int 0, .int 0, .null, .null, .int 0, .int 0, .null, .int 0, .int 0, .null, .null, .null, .null, .null]))] s.heap.size = A0 at hD hS hA ⊢
  have hl := lv_entry ([.ref oo]) (n := 1) (Nat.le_of_ble_eq_true rfl)
  rw [lg_entry_eq]
  generalize (lg_sl ([.ref oo]) ++ List.replicate (1 - (lg_sl ([.ref oo])).length) Slot.unset).toArray = ls at hl ⊢
  have hl : lv_has ls 1 [(0, .ref oo)] := hl
  refine lv_aload_n hx hb dX7_init_0 rfl (lv_at hl 0 rfl) ?_
  refine W.objInit hx hb hown (hts (.methodLink RX7 1 objectInit) (List.mem_of_getElem? (i := 1) rfl)) (hts (.instanceMethod objectInit) (List.mem_of_getElem? (i := 2) rfl)) (hts (.code objectInit ⟨#[0xb1]⟩ 1 none) (List.mem_of_getElem? (i := 3) rfl)) rfl (by rw [hml]; exact hl.1) rfl dX7_init_1 (Nat.le_of_ble_eq_true rfl) (Nat.le_of_ble_eq_true rfl) ?_
  refine W.eq (g2 := F0 m 4 ls []) rfl ?_
  refine lv_aload_n hx hb dX7_init_4 rfl (lv_at hl 0 rfl) ?_
  refine lv_bipush (v := 10) hx hb dX7_init_5 (by decide) ?_
  refine newaI (D := D) hx hb (hts (.arrayClass .int) (List.mem_of_getElem? (i := 4) rfl)) hK hP hD hS hA (N' := 10) (by decide) (by decide) (by decide) (Nat.le_of_ble_eq_true rfl) (Nat.le_of_ble_eq_true rfl) dX7_init_7 (fun q1 H hP hD hS => ?_)
  have hP : va_P D.1 vwCl ([(oo, .inr (7, [.int 0, .int 0, .null, .null, .int 0, .int 0, .null, .int 0, .int 0, .null, .null, .null, .null, .null]))] ++ [(q1, .inl (D.2 0, 10, .inl z0))]) H := hP
  have hD : va_D A0 ([(oo, .inr (7, [.int 0, .int 0, .null, .null, .int 0, .int 0, .null, .int 0, .int 0, .null, .null, .null, .null, .null]))] ++ [(q1, .inl (D.2 0, 10, .inl z0))]) := hD
  refine va_putF (D := D.1) (ci := 7) (v := .ref q1) (ty := .array .int) (C := RX7) (T := TX7) (N := 14) hx hb hts hinX7 tyX7 tyX7_ok nmX7 hown hK hP hD hS 0 rfl rfl 2 (by decide) (hts (.fieldLink RX7 9 "MountainPostModel" "heights" "[I") (List.mem_of_getElem? (i := 5) rfl)) (fun _ h9 => h9) rfl hinit rfl (by decide +kernel) rfl rfl (Nat.le_of_ble_eq_true rfl) dX7_init_9 (fun H locs hP hD hS => ?_)
  have hP : va_P D.1 vwCl ([(oo, .inr (7, [.int 0, .int 0, .ref q1, .null, .int 0, .int 0, .null, .int 0, .int 0, .null, .null, .null, .null, .null]))] ++ [(q1, .inl (D.2 0, 10, .inl z0))]) H := hP
  have hD : va_D A0 ([(oo, .inr (7, [.int 0, .int 0, .ref q1, .null, .int 0, .int 0, .null, .int 0, .int 0, .null, .null, .null, .null, .null]))] ++ [(q1, .inl (D.2 0, 10, .inl z0))]) := hD
  refine lv_aload_n hx hb dX7_init_12 rfl (lv_at hl 0 rfl) ?_
  refine lv_bipush (v := 10) hx hb dX7_init_13 (by decide) ?_
  refine newaI (D := D) hx hb (hts (.arrayClass .int) (List.mem_of_getElem? (i := 4) rfl)) hK hP hD hS hA (N' := 10) (by decide) (by decide) (by decide) (Nat.le_of_ble_eq_true rfl) (Nat.le_of_ble_eq_true rfl) dX7_init_15 (fun q2 H hP hD hS => ?_)
  have hP : va_P D.1 vwCl ([(oo, .inr (7, [.int 0, .int 0, .ref q1, .null, .int 0, .int 0, .null, .int 0, .int 0, .null, .null, .null, .null, .null]))] ++ ([(q1, .inl (D.2 0, 10, .inl z0))] ++ [(q2, .inl (D.2 0, 10, .inl z0))])) H := hP
  have hD : va_D A0 ([(oo, .inr (7, [.int 0, .int 0, .ref q1, .null, .int 0, .int 0, .null, .int 0, .int 0, .null, .null, .null, .null, .null]))] ++ ([(q1, .inl (D.2 0, 10, .inl z0))] ++ [(q2, .inl (D.2 0, 10, .inl z0))])) := hD
  refine va_putF (D := D.1) (ci := 7) (v := .ref q2) (ty := .array .int) (C := RX7) (T := TX7) (N := 14) hx hb hts hinX7 tyX7 tyX7_ok nmX7 hown hK hP hD hS 0 rfl rfl 3 (by decide) (hts (.fieldLink RX7 13 "MountainPostModel" "sight" "[I") (List.mem_of_getElem? (i := 6) rfl)) (fun _ h9 => h9) rfl hinit rfl (by decide +kernel) rfl rfl (Nat.le_of_ble_eq_true rfl) dX7_init_17 (fun H locs hP hD hS => ?_)
  have hP : va_P D.1 vwCl ([(oo, .inr (7, [.int 0, .int 0, .ref q1, .ref q2, .int 0, .int 0, .null, .int 0, .int 0, .null, .null, .null, .null, .null]))] ++ ([(q1, .inl (D.2 0, 10, .inl z0))] ++ [(q2, .inl (D.2 0, 10, .inl z0))])) H := hP
  have hD : va_D A0 ([(oo, .inr (7, [.int 0, .int 0, .ref q1, .ref q2, .int 0, .int 0, .null, .int 0, .int 0, .null, .null, .null, .null, .null]))] ++ ([(q1, .inl (D.2 0, 10, .inl z0))] ++ [(q2, .inl (D.2 0, 10, .inl z0))])) := hD
  refine lv_aload_n hx hb dX7_init_20 rfl (lv_at hl 0 rfl) ?_
  refine lv_bipush (v := 45) hx hb dX7_init_21 (by decide) ?_
  refine newaI (D := D) hx hb (hts (.arrayClass .int) (List.mem_of_getElem? (i := 4) rfl)) hK hP hD hS hA (N' := 45) (by decide) (by decide) (by decide) (Nat.le_of_ble_eq_true rfl) (Nat.le_of_ble_eq_true rfl) dX7_init_23 (fun q3 H hP hD hS => ?_)
  have hP : va_P D.1 vwCl ([(oo, .inr (7, [.int 0, .int 0, .ref q1, .ref q2, .int 0, .int 0, .null, .int 0, .int 0, .null, .null, .null, .null, .null]))] ++ ([(q1, .inl (D.2 0, 10, .inl z0))] ++ ([(q2, .inl (D.2 0, 10, .inl z0))] ++ [(q3, .inl (D.2 0, 45, .inl z0))]))) H := hP
  have hD : va_D A0 ([(oo, .inr (7, [.int 0, .int 0, .ref q1, .ref q2, .int 0, .int 0, .null, .int 0, .int 0, .null, .null, .null, .null, .null]))] ++ ([(q1, .inl (D.2 0, 10, .inl z0))] ++ ([(q2, .inl (D.2 0, 10, .inl z0))] ++ [(q3, .inl (D.2 0, 45, .inl z0))]))) := hD
  refine va_putF (D := D.1) (ci := 7) (v := .ref q3) (ty := .array .int) (C := RX7) (T := TX7) (N := 14) hx hb hts hinX7 tyX7 tyX7_ok nmX7 hown hK hP hD hS 0 rfl rfl 6 (by decide) (hts (.fieldLink RX7 16 "MountainPostModel" "roadTable" "[I") (List.mem_of_getElem? (i := 7) rfl)) (fun _ h9 => h9) rfl hinit rfl (by decide +kernel) rfl rfl (Nat.le_of_ble_eq_true rfl) dX7_init_25 (fun H locs hP hD hS => ?_)
  have hP : va_P D.1 vwCl ([(oo, .inr (7, [.int 0, .int 0, .ref q1, .ref q2, .int 0, .int 0, .ref q3, .int 0, .int 0, .null, .null, .null, .null, .null]))] ++ ([(q1, .inl (D.2 0, 10, .inl z0))] ++ ([(q2, .inl (D.2 0, 10, .inl z0))] ++ [(q3, .inl (D.2 0, 45, .inl z0))]))) H := hP
  have hD : va_D A0 ([(oo, .inr (7, [.int 0, .int 0, .ref q1, .ref q2, .int 0, .int 0, .ref q3, .int 0, .int 0, .null, .null, .null, .null, .null]))] ++ ([(q1, .inl (D.2 0, 10, .inl z0))] ++ ([(q2, .inl (D.2 0, 10, .inl z0))] ++ [(q3, .inl (D.2 0, 45, .inl z0))]))) := hD
  refine lv_aload_n hx hb dX7_init_28 rfl (lv_at hl 0 rfl) ?_
  refine lv_bipush (v := 60) hx hb dX7_init_29 (by decide) ?_
  refine newaI (D := D) hx hb (hts (.arrayClass .int) (List.mem_of_getElem? (i := 4) rfl)) hK hP hD hS hA (N' := 60) (by decide) (by decide) (by decide) (Nat.le_of_ble_eq_true rfl) (Nat.le_of_ble_eq_true rfl) dX7_init_31 (fun q4 H hP hD hS => ?_)
  have hP : va_P D.1 vwCl ([(oo, .inr (7, [.int 0, .int 0, .ref q1, .ref q2, .int 0, .int 0, .ref q3, .int 0, .int 0, .null, .null, .null, .null, .null]))] ++ ([(q1, .inl (D.2 0, 10, .inl z0))] ++ ([(q2, .inl (D.2 0, 10, .inl z0))] ++ ([(q3, .inl (D.2 0, 45, .inl z0))] ++ [(q4, .inl (D.2 0, 60, .inl z0))])))) H := hP
  have hD : va_D A0 ([(oo, .inr (7, [.int 0, .int 0, .ref q1, .ref q2, .int 0, .int 0, .ref q3, .int 0, .int 0, .null, .null, .null, .null, .null]))] ++ ([(q1, .inl (D.2 0, 10, .inl z0))] ++ ([(q2, .inl (D.2 0, 10, .inl z0))] ++ ([(q3, .inl (D.2 0, 45, .inl z0))] ++ [(q4, .inl (D.2 0, 60, .inl z0))])))) := hD
  refine va_put (D := D.1) (ci := 7) (v := .ref q4) (ty := .array .int) (C := RX7) (T := TX7) (N := 14) hx hb hts hinX7 tyX7 tyX7_ok nmX7 hown hK hP hD hS 0 rfl rfl 9 (by decide) (hts (.fieldLink RX7 19 "MountainPostModel" "muleTable" "[I") (List.mem_of_getElem? (i := 8) rfl)) (fun _ h9 => h9) rfl (by decide +kernel) rfl rfl (Nat.le_of_ble_eq_true rfl) dX7_init_33 (fun H locs hP hD hS => ?_)
  have hP : va_P D.1 vwCl ([(oo, .inr (7, [.int 0, .int 0, .ref q1, .ref q2, .int 0, .int 0, .ref q3, .int 0, .int 0, .ref q4, .null, .null, .null, .null]))] ++ ([(q1, .inl (D.2 0, 10, .inl z0))] ++ ([(q2, .inl (D.2 0, 10, .inl z0))] ++ ([(q3, .inl (D.2 0, 45, .inl z0))] ++ [(q4, .inl (D.2 0, 60, .inl z0))])))) H := hP
  have hD : va_D A0 ([(oo, .inr (7, [.int 0, .int 0, .ref q1, .ref q2, .int 0, .int 0, .ref q3, .int 0, .int 0, .ref q4, .null, .null, .null, .null]))] ++ ([(q1, .inl (D.2 0, 10, .inl z0))] ++ ([(q2, .inl (D.2 0, 10, .inl z0))] ++ ([(q3, .inl (D.2 0, 45, .inl z0))] ++ [(q4, .inl (D.2 0, 60, .inl z0))])))) := hD
  refine lv_aload_n hx hb dX7_init_36 rfl (lv_at hl 0 rfl) ?_
  refine lv_sipush (v := 660) hx hb dX7_init_37 (by decide) ?_
  refine newaI (D := D) hx hb (hts (.arrayClass .int) (List.mem_of_getElem? (i := 4) rfl)) hK hP hD hS hA (N' := 660) (by decide) (by decide) (by decide) (Nat.le_of_ble_eq_true rfl) (Nat.le_of_ble_eq_true rfl) dX7_init_40 (fun q5 H hP hD hS => ?_)
  have hP : va_P D.1 vwCl ([(oo, .inr (7, [.int 0, .int 0, .ref q1, .ref q2, .int 0, .int 0, .ref q3, .int 0, .int 0, .ref q4, .null, .null, .null, .null]))] ++ ([(q1, .inl (D.2 0, 10, .inl z0))] ++ ([(q2, .inl (D.2 0, 10, .inl z0))] ++ ([(q3, .inl (D.2 0, 45, .inl z0))] ++ ([(q4, .inl (D.2 0, 60, .inl z0))] ++ [(q5, .inl (D.2 0, 660, .inl z0))]))))) H := hP
  have hD : va_D A0 ([(oo, .inr (7, [.int 0, .int 0, .ref q1, .ref q2, .int 0, .int 0, .ref q3, .int 0, .int 0, .ref q4, .null, .null, .null, .null]))] ++ ([(q1, .inl (D.2 0, 10, .inl z0))] ++ ([(q2, .inl (D.2 0, 10, .inl z0))] ++ ([(q3, .inl (D.2 0, 45, .inl z0))] ++ ([(q4, .inl (D.2 0, 60, .inl z0))] ++ [(q5, .inl (D.2 0, 660, .inl z0))]))))) := hD
  refine va_put (D := D.1) (ci := 7) (v := .ref q5) (ty := .array .int) (C := RX7) (T := TX7) (N := 14) hx hb hts hinX7 tyX7 tyX7_ok nmX7 hown hK hP hD hS 0 rfl rfl 10 (by decide) (hts (.fieldLink RX7 22 "MountainPostModel" "table" "[I") (List.mem_of_getElem? (i := 9) rfl)) (fun _ h9 => h9) rfl (by decide +kernel) rfl rfl (Nat.le_of_ble_eq_true rfl) dX7_init_42 (fun H locs hP hD hS => ?_)
  have hP : va_P D.1 vwCl ([(oo, .inr (7, [.int 0, .int 0, .ref q1, .ref q2, .int 0, .int 0, .ref q3, .int 0, .int 0, .ref q4, .ref q5, .null, .null, .null]))] ++ ([(q1, .inl (D.2 0, 10, .inl z0))] ++ ([(q2, .inl (D.2 0, 10, .inl z0))] ++ ([(q3, .inl (D.2 0, 45, .inl z0))] ++ ([(q4, .inl (D.2 0, 60, .inl z0))] ++ [(q5, .inl (D.2 0, 660, .inl z0))]))))) H := hP
  have hD : va_D A0 ([(oo, .inr (7, [.int 0, .int 0, .ref q1, .ref q2, .int 0, .int 0, .ref q3, .int 0, .int 0, .ref q4, .ref q5, .null, .null, .null]))] ++ ([(q1, .inl (D.2 0, 10, .inl z0))] ++ ([(q2, .inl (D.2 0, 10, .inl z0))] ++ ([(q3, .inl (D.2 0, 45, .inl z0))] ++ ([(q4, .inl (D.2 0, 60, .inl z0))] ++ [(q5, .inl (D.2 0, 660, .inl z0))]))))) := hD
  refine lv_aload_n hx hb dX7_init_45 rfl (lv_at hl 0 rfl) ?_
  refine lv_iconst (v := 2) hx hb dX7_init_46 (by decide) ?_
  refine newaI (D := D) hx hb (hts (.arrayClass .int) (List.mem_of_getElem? (i := 4) rfl)) hK hP hD hS hA (N' := 2) (by decide) (by decide) (by decide) (Nat.le_of_ble_eq_true rfl) (Nat.le_of_ble_eq_true rfl) dX7_init_47 (fun q6 H hP hD hS => ?_)
  have hP : va_P D.1 vwCl ([(oo, .inr (7, [.int 0, .int 0, .ref q1, .ref q2, .int 0, .int 0, .ref q3, .int 0, .int 0, .ref q4, .ref q5, .null, .null, .null]))] ++ ([(q1, .inl (D.2 0, 10, .inl z0))] ++ ([(q2, .inl (D.2 0, 10, .inl z0))] ++ ([(q3, .inl (D.2 0, 45, .inl z0))] ++ ([(q4, .inl (D.2 0, 60, .inl z0))] ++ ([(q5, .inl (D.2 0, 660, .inl z0))] ++ [(q6, .inl (D.2 0, 2, .inl z0))])))))) H := hP
  have hD : va_D A0 ([(oo, .inr (7, [.int 0, .int 0, .ref q1, .ref q2, .int 0, .int 0, .ref q3, .int 0, .int 0, .ref q4, .ref q5, .null, .null, .null]))] ++ ([(q1, .inl (D.2 0, 10, .inl z0))] ++ ([(q2, .inl (D.2 0, 10, .inl z0))] ++ ([(q3, .inl (D.2 0, 45, .inl z0))] ++ ([(q4, .inl (D.2 0, 60, .inl z0))] ++ ([(q5, .inl (D.2 0, 660, .inl z0))] ++ [(q6, .inl (D.2 0, 2, .inl z0))])))))) := hD
  refine va_put (D := D.1) (ci := 7) (v := .ref q6) (ty := .array .int) (C := RX7) (T := TX7) (N := 14) hx hb hts hinX7 tyX7 tyX7_ok nmX7 hown hK hP hD hS 0 rfl rfl 11 (by decide) (hts (.fieldLink RX7 25 "MountainPostModel" "numbers" "[I") (List.mem_of_getElem? (i := 10) rfl)) (fun _ h9 => h9) rfl (by decide +kernel) rfl rfl (Nat.le_of_ble_eq_true rfl) dX7_init_49 (fun H locs hP hD hS => ?_)
  have hP : va_P D.1 vwCl ([(oo, .inr (7, [.int 0, .int 0, .ref q1, .ref q2, .int 0, .int 0, .ref q3, .int 0, .int 0, .ref q4, .ref q5, .ref q6, .null, .null]))] ++ ([(q1, .inl (D.2 0, 10, .inl z0))] ++ ([(q2, .inl (D.2 0, 10, .inl z0))] ++ ([(q3, .inl (D.2 0, 45, .inl z0))] ++ ([(q4, .inl (D.2 0, 60, .inl z0))] ++ ([(q5, .inl (D.2 0, 660, .inl z0))] ++ [(q6, .inl (D.2 0, 2, .inl z0))])))))) H := hP
  have hD : va_D A0 ([(oo, .inr (7, [.int 0, .int 0, .ref q1, .ref q2, .int 0, .int 0, .ref q3, .int 0, .int 0, .ref q4, .ref q5, .ref q6, .null, .null]))] ++ ([(q1, .inl (D.2 0, 10, .inl z0))] ++ ([(q2, .inl (D.2 0, 10, .inl z0))] ++ ([(q3, .inl (D.2 0, 45, .inl z0))] ++ ([(q4, .inl (D.2 0, 60, .inl z0))] ++ ([(q5, .inl (D.2 0, 660, .inl z0))] ++ [(q6, .inl (D.2 0, 2, .inl z0))])))))) := hD
  refine lv_aload_n hx hb dX7_init_52 rfl (lv_at hl 0 rfl) ?_
  refine lv_bipush (v := 100) hx hb dX7_init_53 (by decide) ?_
  refine newaI (D := D) hx hb (hts (.arrayClass .int) (List.mem_of_getElem? (i := 4) rfl)) hK hP hD hS hA (N' := 100) (by decide) (by decide) (by decide) (Nat.le_of_ble_eq_true rfl) (Nat.le_of_ble_eq_true rfl) dX7_init_55 (fun q7 H hP hD hS => ?_)
  have hP : va_P D.1 vwCl ([(oo, .inr (7, [.int 0, .int 0, .ref q1, .ref q2, .int 0, .int 0, .ref q3, .int 0, .int 0, .ref q4, .ref q5, .ref q6, .null, .null]))] ++ ([(q1, .inl (D.2 0, 10, .inl z0))] ++ ([(q2, .inl (D.2 0, 10, .inl z0))] ++ ([(q3, .inl (D.2 0, 45, .inl z0))] ++ ([(q4, .inl (D.2 0, 60, .inl z0))] ++ ([(q5, .inl (D.2 0, 660, .inl z0))] ++ ([(q6, .inl (D.2 0, 2, .inl z0))] ++ [(q7, .inl (D.2 0, 100, .inl z0))]))))))) H := hP
  have hD : va_D A0 ([(oo, .inr (7, [.int 0, .int 0, .ref q1, .ref q2, .int 0, .int 0, .ref q3, .int 0, .int 0, .ref q4, .ref q5, .ref q6, .null, .null]))] ++ ([(q1, .inl (D.2 0, 10, .inl z0))] ++ ([(q2, .inl (D.2 0, 10, .inl z0))] ++ ([(q3, .inl (D.2 0, 45, .inl z0))] ++ ([(q4, .inl (D.2 0, 60, .inl z0))] ++ ([(q5, .inl (D.2 0, 660, .inl z0))] ++ ([(q6, .inl (D.2 0, 2, .inl z0))] ++ [(q7, .inl (D.2 0, 100, .inl z0))]))))))) := hD
  refine va_putF (D := D.1) (ci := 7) (v := .ref q7) (ty := .array .int) (C := RX7) (T := TX7) (N := 14) hx hb hts hinX7 tyX7 tyX7_ok nmX7 hown hK hP hD hS 0 rfl rfl 12 (by decide) (hts (.fieldLink RX7 28 "MountainPostModel" "far" "[I") (List.mem_of_getElem? (i := 11) rfl)) (fun _ h9 => h9) rfl hinit rfl (by decide +kernel) rfl rfl (Nat.le_of_ble_eq_true rfl) dX7_init_57 (fun H locs hP hD hS => ?_)
  have hP : va_P D.1 vwCl ([(oo, .inr (7, [.int 0, .int 0, .ref q1, .ref q2, .int 0, .int 0, .ref q3, .int 0, .int 0, .ref q4, .ref q5, .ref q6, .ref q7, .null]))] ++ ([(q1, .inl (D.2 0, 10, .inl z0))] ++ ([(q2, .inl (D.2 0, 10, .inl z0))] ++ ([(q3, .inl (D.2 0, 45, .inl z0))] ++ ([(q4, .inl (D.2 0, 60, .inl z0))] ++ ([(q5, .inl (D.2 0, 660, .inl z0))] ++ ([(q6, .inl (D.2 0, 2, .inl z0))] ++ [(q7, .inl (D.2 0, 100, .inl z0))]))))))) H := hP
  have hD : va_D A0 ([(oo, .inr (7, [.int 0, .int 0, .ref q1, .ref q2, .int 0, .int 0, .ref q3, .int 0, .int 0, .ref q4, .ref q5, .ref q6, .ref q7, .null]))] ++ ([(q1, .inl (D.2 0, 10, .inl z0))] ++ ([(q2, .inl (D.2 0, 10, .inl z0))] ++ ([(q3, .inl (D.2 0, 45, .inl z0))] ++ ([(q4, .inl (D.2 0, 60, .inl z0))] ++ ([(q5, .inl (D.2 0, 660, .inl z0))] ++ ([(q6, .inl (D.2 0, 2, .inl z0))] ++ [(q7, .inl (D.2 0, 100, .inl z0))]))))))) := hD
  refine lv_aload_n hx hb dX7_init_60 rfl (lv_at hl 0 rfl) ?_
  refine lv_bipush (v := 100) hx hb dX7_init_61 (by decide) ?_
  refine newaI (D := D) hx hb (hts (.arrayClass .int) (List.mem_of_getElem? (i := 4) rfl)) hK hP hD hS hA (N' := 100) (by decide) (by decide) (by decide) (Nat.le_of_ble_eq_true rfl) (Nat.le_of_ble_eq_true rfl) dX7_init_63 (fun q8 H hP hD hS => ?_)
  have hP : va_P D.1 vwCl ([(oo, .inr (7, [.int 0, .int 0, .ref q1, .ref q2, .int 0, .int 0, .ref q3, .int 0, .int 0, .ref q4, .ref q5, .ref q6, .ref q7, .null]))] ++ ([(q1, .inl (D.2 0, 10, .inl z0))] ++ ([(q2, .inl (D.2 0, 10, .inl z0))] ++ ([(q3, .inl (D.2 0, 45, .inl z0))] ++ ([(q4, .inl (D.2 0, 60, .inl z0))] ++ ([(q5, .inl (D.2 0, 660, .inl z0))] ++ ([(q6, .inl (D.2 0, 2, .inl z0))] ++ ([(q7, .inl (D.2 0, 100, .inl z0))] ++ [(q8, .inl (D.2 0, 100, .inl z0))])))))))) H := hP
  have hD : va_D A0 ([(oo, .inr (7, [.int 0, .int 0, .ref q1, .ref q2, .int 0, .int 0, .ref q3, .int 0, .int 0, .ref q4, .ref q5, .ref q6, .ref q7, .null]))] ++ ([(q1, .inl (D.2 0, 10, .inl z0))] ++ ([(q2, .inl (D.2 0, 10, .inl z0))] ++ ([(q3, .inl (D.2 0, 45, .inl z0))] ++ ([(q4, .inl (D.2 0, 60, .inl z0))] ++ ([(q5, .inl (D.2 0, 660, .inl z0))] ++ ([(q6, .inl (D.2 0, 2, .inl z0))] ++ ([(q7, .inl (D.2 0, 100, .inl z0))] ++ [(q8, .inl (D.2 0, 100, .inl z0))])))))))) := hD
  refine va_putF (D := D.1) (ci := 7) (v := .ref q8) (ty := .array .int) (C := RX7) (T := TX7) (N := 14) hx hb hts hinX7 tyX7 tyX7_ok nmX7 hown hK hP hD hS 0 rfl rfl 13 (by decide) (hts (.fieldLink RX7 31 "MountainPostModel" "first" "[I") (List.mem_of_getElem? (i := 12) rfl)) (fun _ h9 => h9) rfl hinit rfl (by decide +kernel) rfl rfl (Nat.le_of_ble_eq_true rfl) dX7_init_65 (fun H locs hP hD hS => ?_)
  have hP : va_P D.1 vwCl ([(oo, .inr (7, [.int 0, .int 0, .ref q1, .ref q2, .int 0, .int 0, .ref q3, .int 0, .int 0, .ref q4, .ref q5, .ref q6, .ref q7, .ref q8]))] ++ ([(q1, .inl (D.2 0, 10, .inl z0))] ++ ([(q2, .inl (D.2 0, 10, .inl z0))] ++ ([(q3, .inl (D.2 0, 45, .inl z0))] ++ ([(q4, .inl (D.2 0, 60, .inl z0))] ++ ([(q5, .inl (D.2 0, 660, .inl z0))] ++ ([(q6, .inl (D.2 0, 2, .inl z0))] ++ ([(q7, .inl (D.2 0, 100, .inl z0))] ++ [(q8, .inl (D.2 0, 100, .inl z0))])))))))) H := hP
  have hD : va_D A0 ([(oo, .inr (7, [.int 0, .int 0, .ref q1, .ref q2, .int 0, .int 0, .ref q3, .int 0, .int 0, .ref q4, .ref q5, .ref q6, .ref q7, .ref q8]))] ++ ([(q1, .inl (D.2 0, 10, .inl z0))] ++ ([(q2, .inl (D.2 0, 10, .inl z0))] ++ ([(q3, .inl (D.2 0, 45, .inl z0))] ++ ([(q4, .inl (D.2 0, 60, .inl z0))] ++ ([(q5, .inl (D.2 0, 660, .inl z0))] ++ ([(q6, .inl (D.2 0, 2, .inl z0))] ++ ([(q7, .inl (D.2 0, 100, .inl z0))] ++ [(q8, .inl (D.2 0, 100, .inl z0))])))))))) := hD
  have hP : va_P D.1 vwCl (wMod D (nA oo (gl [0, q1, q2, q3, q4, q5, q6, q7, q8])) 0 0 0 0 0 0 (fun _ => z0)) H := hP
  have hD : va_D A0 (wMod D (nA oo (gl [0, q1, q2, q3, q4, q5, q6, q7, q8])) 0 0 0 0 0 0 (fun _ => z0)) := hD
  refine W.widen (k := 8) (n := 987) (Nat.le_of_ble_eq_true rfl) (Nat.le_of_ble_eq_true rfl) ?_
  exact W.vret hx hb hr (fun t ht hW => ⟨gl [0, q1, q2, q3, q4, q5, q6, q7, q8], rfl, by rw [ht]; exact hP, hD, hS.F ht⟩) hS.2.2 dX7_init_68 hlocks
