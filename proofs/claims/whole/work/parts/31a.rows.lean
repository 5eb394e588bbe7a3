set_option maxHeartbeats 4000000 in
set_option maxRecDepth 100000 in
theorem c_X0_init (l : Launch) (D : GG) (oo : Nat) (sz : Nat)  : Met l yX0_init wsX0_init ({ frames := 2, cells := 10, slots := 505, locals := 42 } : Room) (va_Pc [.ref oo] (wdZ D [(oo, .inr (0, [.int 0, .null, .null, .int 0, .int 0, .null, .null, .null]))] sz)) (QX D (fun _ => none) (fun g => (wLand D (nA oo g) 0 0 0 (fun _ => z0))) (ownZ [(oo, .inr (0, [.int 0, .null, .null, .int 0, .int 0, .null, .null, .null]))] sz)) 10 505 (ownZ [(oo, .inr (0, [.int 0, .null, .null, .int 0, .int 0, .null, .null, .null]))] sz) := by
  refine Met.ofW (cc := cX0_init) (maxL := 1) (ret := none) (by decide) rfl ?_
  intro p e s m args below meth c s₁ B hml hv
  obtain ⟨rfl, hsz, hP, hK, hD, hN⟩ := hv
  have hx := B.exec
  have hb := B.bytes
  have hr := B.returns
  have hts := atoms_spec (ws := wsX0_init) B.pre
  have hown : s.vm.findClass RX0 = some m.cls := findClass_of_methodNamed B.named
  have hlocks := B.notSynchronized
  have hinit : meth.name = "<init>" := (name_of_methodNamed B.named B.method).1
  have hinX0 : ∀ w ∈ u_ws RX0 TX0 8, w ∈ wsX0_init := by decide +kernel
  have hinX3 : ∀ w ∈ u_ws RX3 TX3 1, w ∈ wsX0_init := by decide +kernel
  subst hsz
  have hS : va_S (ownZ [(oo, .inr (0, [.int 0, .null, .null, .int 0, .int 0, .null, .null, .null]))] s.heap.size) s.heap s.heap [] := va_S.rf
  have hD : va_D (ownZ [(oo, .inr (0, [.int 0, .null, .null, .int 0, .int 0, .null, .null, .null]))] s.heap.size) [(oo, .inr (0, [.int 0, .null, .null, .int 0, .int 0, .null, .null, .null]))] := toOwnZ hD
  have hA : ∀ q : Nat, s.heap.size ≤ q → ownZ [(oo, .inr (0, [.int 0, .null, .null, .int 0, .int 0, .null, .null, .null]))] s.heap.size q := fun _ h => Or.inr h
  generalize hAe : ownZ [(oo, .inr (0, [.int 0, .null, .null, .int 0, .int 0, .null, .null, .null]))] s.heap.size = A0 at hD hS hA ⊢
  have hl := lv_entry ([.ref oo]) (n := 1) (Nat.le_of_ble_eq_true rfl)
  rw [lg_entry_eq]
  generalize (lg_sl ([.ref oo]) ++ List.replicate (1 - (lg_sl ([.ref oo])).length) Slot.unset).toArray = ls at hl ⊢
  have hl : lv_has ls 1 [(0, .ref oo)] := hl
  refine lv_aload_n hx hb dX0_init_0 rfl (lv_at hl 0 rfl) ?_
  refine W.objInit hx hb hown (hts (.methodLink RX0 3 objectInit) (List.mem_of_getElem? (i := 1) rfl)) (hts (.instanceMethod objectInit) (List.mem_of_getElem? (i := 2) rfl)) (hts (.code objectInit ⟨#[0xb1]⟩ 1 none) (List.mem_of_getElem? (i := 3) rfl)) rfl (by rw [hml]; exact hl.1) rfl dX0_init_1 (Nat.le_of_ble_eq_true rfl) (Nat.le_of_ble_eq_true rfl) ?_
  refine W.eq (g2 := F0 m 4 ls []) rfl ?_
  refine lv_aload_n hx hb dX0_init_4 rfl (lv_at hl 0 rfl) ?_
  refine va_new (D := D.1) (ci := 3) (fs := [.null]) (C := RX3) (T := TX3) (N := 1) hx hb hts hinX3 tyX3 tyX3_ok hown (hts (.classLink RX0 9 RX3) (List.mem_of_getElem? (i := 4) rfl)) (hts (.instantiable RX3 1) (List.mem_of_getElem? (i := 5) rfl)) (hts (.initialized RX3) (List.mem_of_getElem? (i := 6) rfl)) hK hP hD hS hA rfl (fun j hj => by rcases (show j = 0 by omega) with rfl <;> rfl) (Nat.le_of_ble_eq_true rfl) (Nat.le_of_ble_eq_true rfl) dX0_init_5 (fun q1 H hP hD hS => ?_)
  have hP : va_P D.1 vwCl ([(oo, .inr (0, [.int 0, .null, .null, .int 0, .int 0, .null, .null, .null]))] ++ [(q1, .inr (3, [.null]))]) H := hP
  have hD : va_D A0 ([(oo, .inr (0, [.int 0, .null, .null, .int 0, .int 0, .null, .null, .null]))] ++ [(q1, .inr (3, [.null]))]) := hD
  refine lv_dup hx hb dX0_init_8 rfl ?_
  refine lv_bipush (v := 10) hx hb dX0_init_9 (by decide) ?_
  refine kIx ⟨hx, hb, hml, hown, hts⟩ (c_X3_init l D q1 10 _ (by decide)) (cwI 1 hts gX0_init_X3_init rfl rfl rfl (hts (.initialized RX3) (List.mem_of_getElem? (i := 6) rfl)) (hts (.methodLink RX0 11 yX3_init) (List.mem_of_getElem? (i := 12) rfl)) (hts (.instanceMethod yX3_init) (List.mem_of_getElem? (i := 13) rfl)) rfl (by decide +kernel) ⟨Nat.le_of_ble_eq_true rfl, Nat.le_of_ble_eq_true rfl⟩) (preSZ hK hN (ws := [(oo, .inr (0, [.int 0, .null, .null, .int 0, .int 0, .null, .null, .null]))] ++ [(q1, .inr (3, [.null]))]) hP hD (Sb.r Sb.self)) hP hD hS hA (fun _ h => h) (wr := [(oo, .inr (0, [.int 0, .null, .null, .int 0, .int 0, .null, .null, .null]))]) rfl rfl hl.1 (Nat.le_of_ble_eq_true rfl) ⟨Nat.le_of_ble_eq_true rfl, Nat.le_of_ble_eq_true rfl⟩ dX0_init_11 (fun g2 H locs hP hD hS => ?_) rfl
  have hP : va_P D.1 vwCl ([(oo, .inr (0, [.int 0, .null, .null, .int 0, .int 0, .null, .null, .null]))] ++ (wRow D q1 (g2 0) 10 z0)) H := hP
  have hD : va_D A0 ([(oo, .inr (0, [.int 0, .null, .null, .int 0, .int 0, .null, .null, .null]))] ++ (wRow D q1 (g2 0) 10 z0)) := hD
  refine W.eq (g2 := F0 m 14 ls [.ref q1, .ref oo]) rfl ?_
  refine va_putF (D := D.1) (ci := 0) (v := .ref q1) (ty := .object "MountainPost$Row") (C := RX0) (T := TX0) (N := 8) hx hb hts hinX0 tyX0 tyX0_ok nmX0 hown hK hP hD hS 0 rfl rfl 1 (by decide) (hts (.fieldLink RX0 14 "MountainPost$Land" "heights" "LMountainPost$Row;") (List.mem_of_getElem? (i := 7) rfl)) (fun _ h9 => h9) rfl hinit rfl (by decide +kernel) rfl rfl (Nat.le_of_ble_eq_true rfl) dX0_init_14 (fun H locs hP hD hS => ?_)
  have hP : va_P D.1 vwCl ([(oo, .inr (0, [.int 0, .ref q1, .null, .int 0, .int 0, .null, .null, .null]))] ++ (wRow D q1 (g2 0) 10 z0)) H := hP
  have hD : va_D A0 ([(oo, .inr (0, [.int 0, .ref q1, .null, .int 0, .int 0, .null, .null, .null]))] ++ (wRow D q1 (g2 0) 10 z0)) := hD
  refine lv_aload_n hx hb dX0_init_17 rfl (lv_at hl 0 rfl) ?_
  refine va_new (D := D.1) (ci := 3) (fs := [.null]) (C := RX3) (T := TX3) (N := 1) hx hb hts hinX3 tyX3 tyX3_ok hown (hts (.classLink RX0 9 RX3) (List.mem_of_getElem? (i := 4) rfl)) (hts (.instantiable RX3 1) (List.mem_of_getElem? (i := 5) rfl)) (hts (.initialized RX3) (List.mem_of_getElem? (i := 6) rfl)) hK hP hD hS hA rfl (fun j hj => by rcases (show j = 0 by omega) with rfl <;> rfl) (Nat.le_of_ble_eq_true rfl) (Nat.le_of_ble_eq_true rfl) dX0_init_18 (fun q3 H hP hD hS => ?_)
  have hP : va_P D.1 vwCl ([(oo, .inr (0, [.int 0, .ref q1, .null, .int 0, .int 0, .null, .null, .null]))] ++ ((wRow D q1 (g2 0) 10 z0) ++ [(q3, .inr (3, [.null]))])) H := hP
  have hD : va_D A0 ([(oo, .inr (0, [.int 0, .ref q1, .null, .int 0, .int 0, .null, .null, .null]))] ++ ((wRow D q1 (g2 0) 10 z0) ++ [(q3, .inr (3, [.null]))])) := hD
  refine lv_dup hx hb dX0_init_21 rfl ?_
  refine lv_bipush (v := 10) hx hb dX0_init_22 (by decide) ?_
  refine kIx ⟨hx, hb, hml, hown, hts⟩ (c_X3_init l D q3 10 _ (by decide)) (cwI 1 hts gX0_init_X3_init rfl rfl rfl (hts (.initialized RX3) (List.mem_of_getElem? (i := 6) rfl)) (hts (.methodLink RX0 11 yX3_init) (List.mem_of_getElem? (i := 12) rfl)) (hts (.instanceMethod yX3_init) (List.mem_of_getElem? (i := 13) rfl)) rfl (by decide +kernel) ⟨Nat.le_of_ble_eq_true rfl, Nat.le_of_ble_eq_true rfl⟩) (preSZ hK hN (ws := ([(oo, .inr (0, [.int 0, .ref q1, .null, .int 0, .int 0, .null, .null, .null]))] ++ (wRow D q1 (g2 0) 10 z0)) ++ [(q3, .inr (3, [.null]))]) hP hD (Sb.r Sb.self)) hP hD hS hA (fun _ h => h) (wr := ([(oo, .inr (0, [.int 0, .ref q1, .null, .int 0, .int 0, .null, .null, .null]))] ++ (wRow D q1 (g2 0) 10 z0))) rfl rfl hl.1 (Nat.le_of_ble_eq_true rfl) ⟨Nat.le_of_ble_eq_true rfl, Nat.le_of_ble_eq_true rfl⟩ dX0_init_24 (fun g4 H locs hP hD hS => ?_) rfl
  have hP : va_P D.1 vwCl ([(oo, .inr (0, [.int 0, .ref q1, .null, .int 0, .int 0, .null, .null, .null]))] ++ ((wRow D q1 (g2 0) 10 z0) ++ (wRow D q3 (g4 0) 10 z0))) H := hP
  have hD : va_D A0 ([(oo, .inr (0, [.int 0, .ref q1, .null, .int 0, .int 0, .null, .null, .null]))] ++ ((wRow D q1 (g2 0) 10 z0) ++ (wRow D q3 (g4 0) 10 z0))) := hD
  refine W.eq (g2 := F0 m 27 ls [.ref q3, .ref oo]) rfl ?_
  refine va_putF (D := D.1) (ci := 0) (v := .ref q3) (ty := .object "MountainPost$Row") (C := RX0) (T := TX0) (N := 8) hx hb hts hinX0 tyX0 tyX0_ok nmX0 hown hK hP hD hS 0 rfl rfl 2 (by decide) (hts (.fieldLink RX0 20 "MountainPost$Land" "sights" "LMountainPost$Row;") (List.mem_of_getElem? (i := 8) rfl)) (fun _ h9 => h9) rfl hinit rfl (by decide +kernel) rfl rfl (Nat.le_of_ble_eq_true rfl) dX0_init_27 (fun H locs hP hD hS => ?_)
  have hP : va_P D.1 vwCl ([(oo, .inr (0, [.int 0, .ref q1, .ref q3, .int 0, .int 0, .null, .null, .null]))] ++ ((wRow D q1 (g2 0) 10 z0) ++ (wRow D q3 (g4 0) 10 z0))) H := hP
  have hD : va_D A0 ([(oo, .inr (0, [.int 0, .ref q1, .ref q3, .int 0, .int 0, .null, .null, .null]))] ++ ((wRow D q1 (g2 0) 10 z0) ++ (wRow D q3 (g4 0) 10 z0))) := hD
  refine lv_aload_n hx hb dX0_init_30 rfl (lv_at hl 0 rfl) ?_
  refine va_new (D := D.1) (ci := 3) (fs := [.null]) (C := RX3) (T := TX3) (N := 1) hx hb hts hinX3 tyX3 tyX3_ok hown (hts (.classLink RX0 9 RX3) (List.mem_of_getElem? (i := 4) rfl)) (hts (.instantiable RX3 1) (List.mem_of_getElem? (i := 5) rfl)) (hts (.initialized RX3) (List.mem_of_getElem? (i := 6) rfl)) hK hP hD hS hA rfl (fun j hj => by rcases (show j = 0 by omega) with rfl <;> rfl) (Nat.le_of_ble_eq_true rfl) (Nat.le_of_ble_eq_true rfl) dX0_init_31 (fun q5 H hP hD hS => ?_)
  have hP : va_P D.1 vwCl ([(oo, .inr (0, [.int 0, .ref q1, .ref q3, .int 0, .int 0, .null, .null, .null]))] ++ ((wRow D q1 (g2 0) 10 z0) ++ ((wRow D q3 (g4 0) 10 z0) ++ [(q5, .inr (3, [.null]))]))) H := hP
  have hD : va_D A0 ([(oo, .inr (0, [.int 0, .ref q1, .ref q3, .int 0, .int 0, .null, .null, .null]))] ++ ((wRow D q1 (g2 0) 10 z0) ++ ((wRow D q3 (g4 0) 10 z0) ++ [(q5, .inr (3, [.null]))]))) := hD
  refine lv_dup hx hb dX0_init_34 rfl ?_
  refine lv_bipush (v := 15) hx hb dX0_init_35 (by decide) ?_
  refine kIx ⟨hx, hb, hml, hown, hts⟩ (c_X3_init l D q5 15 _ (by decide)) (cwI 1 hts gX0_init_X3_init rfl rfl rfl (hts (.initialized RX3) (List.mem_of_getElem? (i := 6) rfl)) (hts (.methodLink RX0 11 yX3_init) (List.mem_of_getElem? (i := 12) rfl)) (hts (.instanceMethod yX3_init) (List.mem_of_getElem? (i := 13) rfl)) rfl (by decide +kernel) ⟨Nat.le_of_ble_eq_true rfl, Nat.le_of_ble_eq_true rfl⟩) (preSZ hK hN (ws := ([(oo, .inr (0, [.int 0, .ref q1, .ref q3, .int 0, .int 0, .null, .null, .null]))] ++ ((wRow D q1 (g2 0) 10 z0) ++ (wRow D q3 (g4 0) 10 z0))) ++ [(q5, .inr (3, [.null]))]) hP hD (Sb.r Sb.self)) hP hD hS hA (fun _ h => h) (wr := ([(oo, .inr (0, [.int 0, .ref q1, .ref q3, .int 0, .int 0, .null, .null, .null]))] ++ ((wRow D q1 (g2 0) 10 z0) ++ (wRow D q3 (g4 0) 10 z0)))) rfl rfl hl.1 (Nat.le_of_ble_eq_true rfl) ⟨Nat.le_of_ble_eq_true rfl, Nat.le_of_ble_eq_true rfl⟩ dX0_init_37 (fun g6 H locs hP hD hS => ?_) rfl
  have hP : va_P D.1 vwCl ([(oo, .inr (0, [.int 0, .ref q1, .ref q3, .int 0, .int 0, .null, .null, .null]))] ++ ((wRow D q1 (g2 0) 10 z0) ++ ((wRow D q3 (g4 0) 10 z0) ++ (wRow D q5 (g6 0) 15 z0)))) H := hP
  have hD : va_D A0 ([(oo, .inr (0, [.int 0, .ref q1, .ref q3, .int 0, .int 0, .null, .null, .null]))] ++ ((wRow D q1 (g2 0) 10 z0) ++ ((wRow D q3 (g4 0) 10 z0) ++ (wRow D q5 (g6 0) 15 z0)))) := hD
  refine W.eq (g2 := F0 m 40 ls [.ref q5, .ref oo]) rfl ?_
  refine va_putF (D := D.1) (ci := 0) (v := .ref q5) (ty := .object "MountainPost$Row") (C := RX0) (T := TX0) (N := 8) hx hb hts hinX0 tyX0 tyX0_ok nmX0 hown hK hP hD hS 0 rfl rfl 5 (by decide) (hts (.fieldLink RX0 23 "MountainPost$Land" "endsA" "LMountainPost$Row;") (List.mem_of_getElem? (i := 9) rfl)) (fun _ h9 => h9) rfl hinit rfl (by decide +kernel) rfl rfl (Nat.le_of_ble_eq_true rfl) dX0_init_40 (fun H locs hP hD hS => ?_)
  have hP : va_P D.1 vwCl ([(oo, .inr (0, [.int 0, .ref q1, .ref q3, .int 0, .int 0, .ref q5, .null, .null]))] ++ ((wRow D q1 (g2 0) 10 z0) ++ ((wRow D q3 (g4 0) 10 z0) ++ (wRow D q5 (g6 0) 15 z0)))) H := hP
  have hD : va_D A0 ([(oo, .inr (0, [.int 0, .ref q1, .ref q3, .int 0, .int 0, .ref q5, .null, .null]))] ++ ((wRow D q1 (g2 0) 10 z0) ++ ((wRow D q3 (g4 0) 10 z0) ++ (wRow D q5 (g6 0) 15 z0)))) := hD
  refine lv_aload_n hx hb dX0_init_43 rfl (lv_at hl 0 rfl) ?_
  refine va_new (D := D.1) (ci := 3) (fs := [.null]) (C := RX3) (T := TX3) (N := 1) hx hb hts hinX3 tyX3 tyX3_ok hown (hts (.classLink RX0 9 RX3) (List.mem_of_getElem? (i := 4) rfl)) (hts (.instantiable RX3 1) (List.mem_of_getElem? (i := 5) rfl)) (hts (.initialized RX3) (List.mem_of_getElem? (i := 6) rfl)) hK hP hD hS hA rfl (fun j hj => by rcases (show j = 0 by omega) with rfl <;> rfl) (Nat.le_of_ble_eq_true rfl) (Nat.le_of_ble_eq_true rfl) dX0_init_44 (fun q7 H hP hD hS => ?_)
  have hP : va_P D.1 vwCl ([(oo, .inr (0, [.int 0, .ref q1, .ref q3, .int 0, .int 0, .ref q5, .null, .null]))] ++ ((wRow D q1 (g2 0) 10 z0) ++ ((wRow D q3 (g4 0) 10 z0) ++ ((wRow D q5 (g6 0) 15 z0) ++ [(q7, .inr (3, [.null]))])))) H := hP
  have hD : va_D A0 ([(oo, .inr (0, [.int 0, .ref q1, .ref q3, .int 0, .int 0, .ref q5, .null, .null]))] ++ ((wRow D q1 (g2 0) 10 z0) ++ ((wRow D q3 (g4 0) 10 z0) ++ ((wRow D q5 (g6 0) 15 z0) ++ [(q7, .inr (3, [.null]))])))) := hD
  refine lv_dup hx hb dX0_init_47 rfl ?_
  refine lv_bipush (v := 15) hx hb dX0_init_48 (by decide) ?_
  refine kIx ⟨hx, hb, hml, hown, hts⟩ (c_X3_init l D q7 15 _ (by decide)) (cwI 1 hts gX0_init_X3_init rfl rfl rfl (hts (.initialized RX3) (List.mem_of_getElem? (i := 6) rfl)) (hts (.methodLink RX0 11 yX3_init) (List.mem_of_getElem? (i := 12) rfl)) (hts (.instanceMethod yX3_init) (List.mem_of_getElem? (i := 13) rfl)) rfl (by decide +kernel) ⟨Nat.le_of_ble_eq_true rfl, Nat.le_of_ble_eq_true rfl⟩) (preSZ hK hN (ws := ([(oo, .inr (0, [.int 0, .ref q1, .ref q3, .int 0, .int 0, .ref q5, .null, .null]))] ++ ((wRow D q1 (g2 0) 10 z0) ++ ((wRow D q3 (g4 0) 10 z0) ++ (wRow D q5 (g6 0) 15 z0)))) ++ [(q7, .inr (3, [.null]))]) hP hD (Sb.r Sb.self)) hP hD hS hA (fun _ h => h) (wr := ([(oo, .inr (0, [.int 0, .ref q1, .ref q3, .int 0, .int 0, .ref q5, .null, .null]))] ++ ((wRow D q1 (g2 0) 10 z0) ++ ((wRow D q3 (g4 0) 10 z0) ++ (wRow D q5 (g6 0) 15 z0))))) rfl rfl hl.1 (Nat.le_of_ble_eq_true rfl) ⟨Nat.le_of_ble_eq_true rfl, Nat.le_of_ble_eq_true rfl⟩ dX0_init_50 (fun g8 H locs hP hD hS => ?_) rfl
  have hP : va_P D.1 vwCl ([(oo, .inr (0, [.int 0, .ref q1, .ref q3, .int 0, .int 0, .ref q5, .null, .null]))] ++ ((wRow D q1 (g2 0) 10 z0) ++ ((wRow D q3 (g4 0) 10 z0) ++ ((wRow D q5 (g6 0) 15 z0) ++ (wRow D q7 (g8 0) 15 z0))))) H := hP
  have hD : va_D A0 ([(oo, .inr (0, [.int 0, .ref q1, .ref q3, .int 0, .int 0, .ref q5, .null, .null]))] ++ ((wRow D q1 (g2 0) 10 z0) ++ ((wRow D q3 (g4 0) 10 z0) ++ ((wRow D q5 (g6 0) 15 z0) ++ (wRow D q7 (g8 0) 15 z0))))) := hD
  refine W.eq (g2 := F0 m 53 ls [.ref q7, .ref oo]) rfl ?_
  refine va_putF (D := D.1) (ci := 0) (v := .ref q7) (ty := .object "MountainPost$Row") (C := RX0) (T := TX0) (N := 8) hx hb hts hinX0 tyX0 tyX0_ok nmX0 hown hK hP hD hS 0 rfl rfl 6 (by decide) (hts (.fieldLink RX0 26 "MountainPost$Land" "endsB" "LMountainPost$Row;") (List.mem_of_getElem? (i := 10) rfl)) (fun _ h9 => h9) rfl hinit rfl (by decide +kernel) rfl rfl (Nat.le_of_ble_eq_true rfl) dX0_init_53 (fun H locs hP hD hS => ?_)
  have hP : va_P D.1 vwCl ([(oo, .inr (0, [.int 0, .ref q1, .ref q3, .int 0, .int 0, .ref q5, .ref q7, .null]))] ++ ((wRow D q1 (g2 0) 10 z0) ++ ((wRow D q3 (g4 0) 10 z0) ++ ((wRow D q5 (g6 0) 15 z0) ++ (wRow D q7 (g8 0) 15 z0))))) H := hP
  have hD : va_D A0 ([(oo, .inr (0, [.int 0, .ref q1, .ref q3, .int 0, .int 0, .ref q5, .ref q7, .null]))] ++ ((wRow D q1 (g2 0) 10 z0) ++ ((wRow D q3 (g4 0) 10 z0) ++ ((wRow D q5 (g6 0) 15 z0) ++ (wRow D q7 (g8 0) 15 z0))))) := hD
  refine lv_aload_n hx hb dX0_init_56 rfl (lv_at hl 0 rfl) ?_
  refine va_new (D := D.1) (ci := 3) (fs := [.null]) (C := RX3) (T := TX3) (N := 1) hx hb hts hinX3 tyX3 tyX3_ok hown (hts (.classLink RX0 9 RX3) (List.mem_of_getElem? (i := 4) rfl)) (hts (.instantiable RX3 1) (List.mem_of_getElem? (i := 5) rfl)) (hts (.initialized RX3) (List.mem_of_getElem? (i := 6) rfl)) hK hP hD hS hA rfl (fun j hj => by rcases (show j = 0 by omega) with rfl <;> rfl) (Nat.le_of_ble_eq_true rfl) (Nat.le_of_ble_eq_true rfl) dX0_init_57 (fun q9 H hP hD hS => ?_)
  have hP : va_P D.1 vwCl ([(oo, .inr (0, [.int 0, .ref q1, .ref q3, .int 0, .int 0, .ref q5, .ref q7, .null]))] ++ ((wRow D q1 (g2 0) 10 z0) ++ ((wRow D q3 (g4 0) 10 z0) ++ ((wRow D q5 (g6 0) 15 z0) ++ ((wRow D q7 (g8 0) 15 z0) ++ [(q9, .inr (3, [.null]))]))))) H := hP
  have hD : va_D A0 ([(oo, .inr (0, [.int 0, .ref q1, .ref q3, .int 0, .int 0, .ref q5, .ref q7, .null]))] ++ ((wRow D q1 (g2 0) 10 z0) ++ ((wRow D q3 (g4 0) 10 z0) ++ ((wRow D q5 (g6 0) 15 z0) ++ ((wRow D q7 (g8 0) 15 z0) ++ [(q9, .inr (3, [.null]))]))))) := hD
  refine lv_dup hx hb dX0_init_60 rfl ?_
  refine lv_bipush (v := 15) hx hb dX0_init_61 (by decide) ?_
  refine kIx ⟨hx, hb, hml, hown, hts⟩ (c_X3_init l D q9 15 _ (by decide)) (cwI 1 hts gX0_init_X3_init rfl rfl rfl (hts (.initialized RX3) (List.mem_of_getElem? (i := 6) rfl)) (hts (.methodLink RX0 11 yX3_init) (List.mem_of_getElem? (i := 12) rfl)) (hts (.instanceMethod yX3_init) (List.mem_of_getElem? (i := 13) rfl)) rfl (by decide +kernel) ⟨Nat.le_of_ble_eq_true rfl, Nat.le_of_ble_eq_true rfl⟩) (preSZ hK hN (ws := ([(oo, .inr (0, [.int 0, .ref q1, .ref q3, .int 0, .int 0, .ref q5, .ref q7, .null]))] ++ ((wRow D q1 (g2 0) 10 z0) ++ ((wRow D q3 (g4 0) 10 z0) ++ ((wRow D q5 (g6 0) 15 z0) ++ (wRow D q7 (g8 0) 15 z0))))) ++ [(q9, .inr (3, [.null]))]) hP hD (Sb.r Sb.self)) hP hD hS hA (fun _ h => h) (wr := ([(oo, .inr (0, [.int 0, .ref q1, .ref q3, .int 0, .int 0, .ref q5, .ref q7, .null]))] ++ ((wRow D q1 (g2 0) 10 z0) ++ ((wRow D q3 (g4 0) 10 z0) ++ ((wRow D q5 (g6 0) 15 z0) ++ (wRow D q7 (g8 0) 15 z0)))))) rfl rfl hl.1 (Nat.le_of_ble_eq_true rfl) ⟨Nat.le_of_ble_eq_true rfl, Nat.le_of_ble_eq_true rfl⟩ dX0_init_63 (fun g10 H locs hP hD hS => ?_) rfl
  have hP : va_P D.1 vwCl ([(oo, .inr (0, [.int 0, .ref q1, .ref q3, .int 0, .int 0, .ref q5, .ref q7, .null]))] ++ ((wRow D q1 (g2 0) 10 z0) ++ ((wRow D q3 (g4 0) 10 z0) ++ ((wRow D q5 (g6 0) 15 z0) ++ ((wRow D q7 (g8 0) 15 z0) ++ (wRow D q9 (g10 0) 15 z0)))))) H := hP
  have hD : va_D A0 ([(oo, .inr (0, [.int 0, .ref q1, .ref q3, .int 0, .int 0, .ref q5, .ref q7, .null]))] ++ ((wRow D q1 (g2 0) 10 z0) ++ ((wRow D q3 (g4 0) 10 z0) ++ ((wRow D q5 (g6 0) 15 z0) ++ ((wRow D q7 (g8 0) 15 z0) ++ (wRow D q9 (g10 0) 15 z0)))))) := hD
  refine W.eq (g2 := F0 m 66 ls [.ref q9, .ref oo]) rfl ?_
  refine va_putF (D := D.1) (ci := 0) (v := .ref q9) (ty := .object "MountainPost$Row") (C := RX0) (T := TX0) (N := 8) hx hb hts hinX0 tyX0 tyX0_ok nmX0 hown hK hP hD hS 0 rfl rfl 7 (by decide) (hts (.fieldLink RX0 29 "MountainPost$Land" "lengths" "LMountainPost$Row;") (List.mem_of_getElem? (i := 11) rfl)) (fun _ h9 => h9) rfl hinit rfl (by decide +kernel) rfl rfl (Nat.le_of_ble_eq_true rfl) dX0_init_66 (fun H locs hP hD hS => ?_)
  have hP : va_P D.1 vwCl ([(oo, .inr (0, [.int 0, .ref q1, .ref q3, .int 0, .int 0, .ref q5, .ref q7, .ref q9]))] ++ ((wRow D q1 (g2 0) 10 z0) ++ ((wRow D q3 (g4 0) 10 z0) ++ ((wRow D q5 (g6 0) 15 z0) ++ ((wRow D q7 (g8 0) 15 z0) ++ (wRow D q9 (g10 0) 15 z0)))))) H := hP
  have hD : va_D A0 ([(oo, .inr (0, [.int 0, .ref q1, .ref q3, .int 0, .int 0, .ref q5, .ref q7, .ref q9]))] ++ ((wRow D q1 (g2 0) 10 z0) ++ ((wRow D q3 (g4 0) 10 z0) ++ ((wRow D q5 (g6 0) 15 z0) ++ ((wRow D q7 (g8 0) 15 z0) ++ (wRow D q9 (g10 0) 15 z0)))))) := hD
  have hP := hP.sub (ws' := (wLand D (nA oo (gl [0, q1, q3, q5, q7, q9, (g2 0), (g4 0), (g6 0), (g8 0), (g10 0)])) 0 0 0 (fun _ => z0))) [0, 1, 3, 5, 7, 9, 2, 4, 6, 8, 10] rfl
  have hD := hD.sub (ws' := (wLand D (nA oo (gl [0, q1, q3, q5, q7, q9, (g2 0), (g4 0), (g6 0), (g8 0), (g10 0)])) 0 0 0 (fun _ => z0))) [0, 1, 3, 5, 7, 9, 2, 4, 6, 8, 10] (by decide) rfl
  refine W.widen (k := 10) (n := 505) (Nat.le_of_ble_eq_true rfl) (Nat.le_of_ble_eq_true rfl) ?_
  exact W.vret hx hb hr (fun t ht hW => ⟨gl [0, q1, q3, q5, q7, q9, (g2 0), (g4 0), (g6 0), (g8 0), (g10 0)], rfl, by rw [ht]; exact hP, hD, hS.F ht⟩) hS.2.2 dX0_init_69 hlocks

set_option maxHeartbeats 4000000 in
set_option maxRecDepth 100000 in
theorem c_X2_init (l : Launch) (D : GG) (oo : Nat) (sz : Nat)  : Met l yX2_init wsX2_init ({ frames := 2, cells := 10, slots := 505, locals := 42 } : Room) (va_Pc [.ref oo] (wdZ D [(oo, .inr (2, [.int 0, .null, .null, .null, .null, .null]))] sz)) (QX D (fun _ => none) (fun g => (wMul D (nA oo g) 0 (fun _ => z0))) (ownZ [(oo, .inr (2, [.int 0, .null, .null, .null, .null, .null]))] sz)) 10 505 (ownZ [(oo, .inr (2, [.int 0, .null, .null, .null, .null, .null]))] sz) := by
  refine Met.ofW (cc := cX2_init) (maxL := 1) (ret := none) (by decide) rfl ?_
  intro p e s m args below meth c s₁ B hml hv
  obtain ⟨rfl, hsz, hP, hK, hD, hN⟩ := hv
  have hx := B.exec
  have hb := B.bytes
  have hr := B.returns
  have hts := atoms_spec (ws := wsX2_init) B.pre
  have hown : s.vm.findClass RX2 = some m.cls := findClass_of_methodNamed B.named
  have hlocks := B.notSynchronized
  have hinit : meth.name = "<init>" := (name_of_methodNamed B.named B.method).1
  have hinX2 : ∀ w ∈ u_ws RX2 TX2 6, w ∈ wsX2_init := by decide +kernel
  have hinX3 : ∀ w ∈ u_ws RX3 TX3 1, w ∈ wsX2_init := by decide +kernel
  subst hsz
  have hS : va_S (ownZ [(oo, .inr (2, [.int 0, .null, .null, .null, .null, .null]))] s.heap.size) s.heap s.heap [] := va_S.rf
  have hD : va_D (ownZ [(oo, .inr (2, [.int 0, .null, .null, .null, .null, .null]))] s.heap.size) [(oo, .inr (2, [.int 0, .null, .null, .null, .null, .null]))] := toOwnZ hD
  have hA : ∀ q : Nat, s.heap.size ≤ q → ownZ [(oo, .inr (2, [.int 0, .null, .null, .null, .null, .null]))] s.heap.size q := fun _ h => Or.inr h
  generalize hAe : ownZ [(oo, .inr (2, [.int 0, .null, .null, .null, .null, .null]))] s.heap.size = A0 at hD hS hA ⊢
  have hl := lv_entry ([.ref oo]) (n := 1) (Nat.le_of_ble_eq_true rfl)
  rw [lg_entry_eq]
  generalize (lg_sl ([.ref oo]) ++ List.replicate (1 - (lg_sl ([.ref oo])).length) Slot.unset).toArray = ls at hl ⊢
  have hl : lv_has ls 1 [(0, .ref oo)] := hl
  refine lv_aload_n hx hb dX2_init_0 rfl (lv_at hl 0 rfl) ?_
  refine W.objInit hx hb hown (hts (.methodLink RX2 3 objectInit) (List.mem_of_getElem? (i := 1) rfl)) (hts (.instanceMethod objectInit) (List.mem_of_getElem? (i := 2) rfl)) (hts (.code objectInit ⟨#[0xb1]⟩ 1 none) (List.mem_of_getElem? (i := 3) rfl)) rfl (by rw [hml]; exact hl.1) rfl dX2_init_1 (Nat.le_of_ble_eq_true rfl) (Nat.le_of_ble_eq_true rfl) ?_
  refine W.eq (g2 := F0 m 4 ls []) rfl ?_
  refine lv_aload_n hx hb dX2_init_4 rfl (lv_at hl 0 rfl) ?_
  refine va_new (D := D.1) (ci := 3) (fs := [.null]) (C := RX3) (T := TX3) (N := 1) hx hb hts hinX3 tyX3 tyX3_ok hown (hts (.classLink RX2 9 RX3) (List.mem_of_getElem? (i := 4) rfl)) (hts (.instantiable RX3 1) (List.mem_of_getElem? (i := 5) rfl)) (hts (.initialized RX3) (List.mem_of_getElem? (i := 6) rfl)) hK hP hD hS hA rfl (fun j hj => by rcases (show j = 0 by omega) with rfl <;> rfl) (Nat.le_of_ble_eq_true rfl) (Nat.le_of_ble_eq_true rfl) dX2_init_5 (fun q1 H hP hD hS => ?_)
  have hP : va_P D.1 vwCl ([(oo, .inr (2, [.int 0, .null, .null, .null, .null, .null]))] ++ [(q1, .inr (3, [.null]))]) H := hP
  have hD : va_D A0 ([(oo, .inr (2, [.int 0, .null, .null, .null, .null, .null]))] ++ [(q1, .inr (3, [.null]))]) := hD
  refine lv_dup hx hb dX2_init_8 rfl ?_
  refine lv_bipush (v := 12) hx hb dX2_init_9 (by decide) ?_
  refine kIx ⟨hx, hb, hml, hown, hts⟩ (c_X3_init l D q1 12 _ (by decide)) (cwI 1 hts gX2_init_X3_init rfl rfl rfl (hts (.initialized RX3) (List.mem_of_getElem? (i := 6) rfl)) (hts (.methodLink RX2 11 yX3_init) (List.mem_of_getElem? (i := 12) rfl)) (hts (.instanceMethod yX3_init) (List.mem_of_getElem? (i := 13) rfl)) rfl (by decide +kernel) ⟨Nat.le_of_ble_eq_true rfl, Nat.le_of_ble_eq_true rfl⟩) (preSZ hK hN (ws := [(oo, .inr (2, [.int 0, .null, .null, .null, .null, .null]))] ++ [(q1, .inr (3, [.null]))]) hP hD (Sb.r Sb.self)) hP hD hS hA (fun _ h => h) (wr := [(oo, .inr (2, [.int 0, .null, .null, .null, .null, .null]))]) rfl rfl hl.1 (Nat.le_of_ble_eq_true rfl) ⟨Nat.le_of_ble_eq_true rfl, Nat.le_of_ble_eq_true rfl⟩ dX2_init_11 (fun g2 H locs hP hD hS => ?_) rfl
  have hP : va_P D.1 vwCl ([(oo, .inr (2, [.int 0, .null, .null, .null, .null, .null]))] ++ (wRow D q1 (g2 0) 12 z0)) H := hP
  have hD : va_D A0 ([(oo, .inr (2, [.int 0, .null, .null, .null, .null, .null]))] ++ (wRow D q1 (g2 0) 12 z0)) := hD
  refine W.eq (g2 := F0 m 14 ls [.ref q1, .ref oo]) rfl ?_
  refine va_putF (D := D.1) (ci := 2) (v := .ref q1) (ty := .object "MountainPost$Row") (C := RX2) (T := TX2) (N := 6) hx hb hts hinX2 tyX2 tyX2_ok nmX2 hown hK hP hD hS 0 rfl rfl 1 (by decide) (hts (.fieldLink RX2 14 "MountainPost$Mules" "roads" "LMountainPost$Row;") (List.mem_of_getElem? (i := 7) rfl)) (fun _ h9 => h9) rfl hinit rfl (by decide +kernel) rfl rfl (Nat.le_of_ble_eq_true rfl) dX2_init_14 (fun H locs hP hD hS => ?_)
  have hP : va_P D.1 vwCl ([(oo, .inr (2, [.int 0, .ref q1, .null, .null, .null, .null]))] ++ (wRow D q1 (g2 0) 12 z0)) H := hP
  have hD : va_D A0 ([(oo, .inr (2, [.int 0, .ref q1, .null, .null, .null, .null]))] ++ (wRow D q1 (g2 0) 12 z0)) := hD
  refine lv_aload_n hx hb dX2_init_17 rfl (lv_at hl 0 rfl) ?_
  refine va_new (D := D.1) (ci := 3) (fs := [.null]) (C := RX3) (T := TX3) (N := 1) hx hb hts hinX3 tyX3 tyX3_ok hown (hts (.classLink RX2 9 RX3) (List.mem_of_getElem? (i := 4) rfl)) (hts (.instantiable RX3 1) (List.mem_of_getElem? (i := 5) rfl)) (hts (.initialized RX3) (List.mem_of_getElem? (i := 6) rfl)) hK hP hD hS hA rfl (fun j hj => by rcases (show j = 0 by omega) with rfl <;> rfl) (Nat.le_of_ble_eq_true rfl) (Nat.le_of_ble_eq_true rfl) dX2_init_18 (fun q3 H hP hD hS => ?_)
  have hP : va_P D.1 vwCl ([(oo, .inr (2, [.int 0, .ref q1, .null, .null, .null, .null]))] ++ ((wRow D q1 (g2 0) 12 z0) ++ [(q3, .inr (3, [.null]))])) H := hP
  have hD : va_D A0 ([(oo, .inr (2, [.int 0, .ref q1, .null, .null, .null, .null]))] ++ ((wRow D q1 (g2 0) 12 z0) ++ [(q3, .inr (3, [.null]))])) := hD
  refine lv_dup hx hb dX2_init_21 rfl ?_
  refine lv_bipush (v := 12) hx hb dX2_init_22 (by decide) ?_
  refine kIx ⟨hx, hb, hml, hown, hts⟩ (c_X3_init l D q3 12 _ (by decide)) (cwI 1 hts gX2_init_X3_init rfl rfl rfl (hts (.initialized RX3) (List.mem_of_getElem? (i := 6) rfl)) (hts (.methodLink RX2 11 yX3_init) (List.mem_of_getElem? (i := 12) rfl)) (hts (.instanceMethod yX3_init) (List.mem_of_getElem? (i := 13) rfl)) rfl (by decide +kernel) ⟨Nat.le_of_ble_eq_true rfl, Nat.le_of_ble_eq_true rfl⟩) (preSZ hK hN (ws := ([(oo, .inr (2, [.int 0, .ref q1, .null, .null, .null, .null]))] ++ (wRow D q1 (g2 0) 12 z0)) ++ [(q3, .inr (3, [.null]))]) hP hD (Sb.r Sb.self)) hP hD hS hA (fun _ h => h) (wr := ([(oo, .inr (2, [.int 0, .ref q1, .null, .null, .null, .null]))] ++ (wRow D q1 (g2 0) 12 z0))) rfl rfl hl.1 (Nat.le_of_ble_eq_true rfl) ⟨Nat.le_of_ble_eq_true rfl, Nat.le_of_ble_eq_true rfl⟩ dX2_init_24 (fun g4 H locs hP hD hS => ?_) rfl
  have hP : va_P D.1 vwCl ([(oo, .inr (2, [.int 0, .ref q1, .null, .null, .null, .null]))] ++ ((wRow D q1 (g2 0) 12 z0) ++ (wRow D q3 (g4 0) 12 z0))) H := hP
  have hD : va_D A0 ([(oo, .inr (2, [.int 0, .ref q1, .null, .null, .null, .null]))] ++ ((wRow D q1 (g2 0) 12 z0) ++ (wRow D q3 (g4 0) 12 z0))) := hD
  refine W.eq (g2 := F0 m 27 ls [.ref q3, .ref oo]) rfl ?_
  refine va_putF (D := D.1) (ci := 2) (v := .ref q3) (ty := .object "MountainPost$Row") (C := RX2) (T := TX2) (N := 6) hx hb hts hinX2 tyX2 tyX2_ok nmX2 hown hK hP hD hS 0 rfl rfl 2 (by decide) (hts (.fieldLink RX2 20 "MountainPost$Mules" "loads" "LMountainPost$Row;") (List.mem_of_getElem? (i := 8) rfl)) (fun _ h9 => h9) rfl hinit rfl (by decide +kernel) rfl rfl (Nat.le_of_ble_eq_true rfl) dX2_init_27 (fun H locs hP hD hS => ?_)
  have hP : va_P D.1 vwCl ([(oo, .inr (2, [.int 0, .ref q1, .ref q3, .null, .null, .null]))] ++ ((wRow D q1 (g2 0) 12 z0) ++ (wRow D q3 (g4 0) 12 z0))) H := hP
  have hD : va_D A0 ([(oo, .inr (2, [.int 0, .ref q1, .ref q3, .null, .null, .null]))] ++ ((wRow D q1 (g2 0) 12 z0) ++ (wRow D q3 (g4 0) 12 z0))) := hD
  refine lv_aload_n hx hb dX2_init_30 rfl (lv_at hl 0 rfl) ?_
  refine va_new (D := D.1) (ci := 3) (fs := [.null]) (C := RX3) (T := TX3) (N := 1) hx hb hts hinX3 tyX3 tyX3_ok hown (hts (.classLink RX2 9 RX3) (List.mem_of_getElem? (i := 4) rfl)) (hts (.instantiable RX3 1) (List.mem_of_getElem? (i := 5) rfl)) (hts (.initialized RX3) (List.mem_of_getElem? (i := 6) rfl)) hK hP hD hS hA rfl (fun j hj => by rcases (show j = 0 by omega) with rfl <;> rfl) (Nat.le_of_ble_eq_true rfl) (Nat.le_of_ble_eq_true rfl) dX2_init_31 (fun q5 H hP hD hS => ?_)
  have hP : va_P D.1 vwCl ([(oo, .inr (2, [.int 0, .ref q1, .ref q3, .null, .null, .null]))] ++ ((wRow D q1 (g2 0) 12 z0) ++ ((wRow D q3 (g4 0) 12 z0) ++ [(q5, .inr (3, [.null]))]))) H := hP
  have hD : va_D A0 ([(oo, .inr (2, [.int 0, .ref q1, .ref q3, .null, .null, .null]))] ++ ((wRow D q1 (g2 0) 12 z0) ++ ((wRow D q3 (g4 0) 12 z0) ++ [(q5, .inr (3, [.null]))]))) := hD
  refine lv_dup hx hb dX2_init_34 rfl ?_
  refine lv_bipush (v := 12) hx hb dX2_init_35 (by decide) ?_
  refine kIx ⟨hx, hb, hml, hown, hts⟩ (c_X3_init l D q5 12 _ (by decide)) (cwI 1 hts gX2_init_X3_init rfl rfl rfl (hts (.initialized RX3) (List.mem_of_getElem? (i := 6) rfl)) (hts (.methodLink RX2 11 yX3_init) (List.mem_of_getElem? (i := 12) rfl)) (hts (.instanceMethod yX3_init) (List.mem_of_getElem? (i := 13) rfl)) rfl (by decide +kernel) ⟨Nat.le_of_ble_eq_true rfl, Nat.le_of_ble_eq_true rfl⟩) (preSZ hK hN (ws := ([(oo, .inr (2, [.int 0, .ref q1, .ref q3, .null, .null, .null]))] ++ ((wRow D q1 (g2 0) 12 z0) ++ (wRow D q3 (g4 0) 12 z0))) ++ [(q5, .inr (3, [.null]))]) hP hD (Sb.r Sb.self)) hP hD hS hA (fun _ h => h) (wr := ([(oo, .inr (2, [.int 0, .ref q1, .ref q3, .null, .null, .null]))] ++ ((wRow D q1 (g2 0) 12 z0) ++ (wRow D q3 (g4 0) 12 z0)))) rfl rfl hl.1 (Nat.le_of_ble_eq_true rfl) ⟨Nat.le_of_ble_eq_true rfl, Nat.le_of_ble_eq_true rfl⟩ dX2_init_37 (fun g6 H locs hP hD hS => ?_) rfl
  have hP : va_P D.1 vwCl ([(oo, .inr (2, [.int 0, .ref q1, .ref q3, .null, .null, .null]))] ++ ((wRow D q1 (g2 0) 12 z0) ++ ((wRow D q3 (g4 0) 12 z0) ++ (wRow D q5 (g6 0) 12 z0)))) H := hP
  have hD : va_D A0 ([(oo, .inr (2, [.int 0, .ref q1, .ref q3, .null, .null, .null]))] ++ ((wRow D q1 (g2 0) 12 z0) ++ ((wRow D q3 (g4 0) 12 z0) ++ (wRow D q5 (g6 0) 12 z0)))) := hD
  refine W.eq (g2 := F0 m 40 ls [.ref q5, .ref oo]) rfl ?_
  refine va_putF (D := D.1) (ci := 2) (v := .ref q5) (ty := .object "MountainPost$Row") (C := RX2) (T := TX2) (N := 6) hx hb hts hinX2 tyX2 tyX2_ok nmX2 hown hK hP hD hS 0 rfl rfl 3 (by decide) (hts (.fieldLink RX2 23 "MountainPost$Mules" "places" "LMountainPost$Row;") (List.mem_of_getElem? (i := 9) rfl)) (fun _ h9 => h9) rfl hinit rfl (by decide +kernel) rfl rfl (Nat.le_of_ble_eq_true rfl) dX2_init_40 (fun H locs hP hD hS => ?_)
  have hP : va_P D.1 vwCl ([(oo, .inr (2, [.int 0, .ref q1, .ref q3, .ref q5, .null, .null]))] ++ ((wRow D q1 (g2 0) 12 z0) ++ ((wRow D q3 (g4 0) 12 z0) ++ (wRow D q5 (g6 0) 12 z0)))) H := hP
  have hD : va_D A0 ([(oo, .inr (2, [.int 0, .ref q1, .ref q3, .ref q5, .null, .null]))] ++ ((wRow D q1 (g2 0) 12 z0) ++ ((wRow D q3 (g4 0) 12 z0) ++ (wRow D q5 (g6 0) 12 z0)))) := hD
  refine lv_aload_n hx hb dX2_init_43 rfl (lv_at hl 0 rfl) ?_
  refine va_new (D := D.1) (ci := 3) (fs := [.null]) (C := RX3) (T := TX3) (N := 1) hx hb hts hinX3 tyX3 tyX3_ok hown (hts (.classLink RX2 9 RX3) (List.mem_of_getElem? (i := 4) rfl)) (hts (.instantiable RX3 1) (List.mem_of_getElem? (i := 5) rfl)) (hts (.initialized RX3) (List.mem_of_getElem? (i := 6) rfl)) hK hP hD hS hA rfl (fun j hj => by rcases (show j = 0 by omega) with rfl <;> rfl) (Nat.le_of_ble_eq_true rfl) (Nat.le_of_ble_eq_true rfl) dX2_init_44 (fun q7 H hP hD hS => ?_)
  have hP : va_P D.1 vwCl ([(oo, .inr (2, [.int 0, .ref q1, .ref q3, .ref q5, .null, .null]))] ++ ((wRow D q1 (g2 0) 12 z0) ++ ((wRow D q3 (g4 0) 12 z0) ++ ((wRow D q5 (g6 0) 12 z0) ++ [(q7, .inr (3, [.null]))])))) H := hP
  have hD : va_D A0 ([(oo, .inr (2, [.int 0, .ref q1, .ref q3, .ref q5, .null, .null]))] ++ ((wRow D q1 (g2 0) 12 z0) ++ ((wRow D q3 (g4 0) 12 z0) ++ ((wRow D q5 (g6 0) 12 z0) ++ [(q7, .inr (3, [.null]))])))) := hD
  refine lv_dup hx hb dX2_init_47 rfl ?_
  refine lv_bipush (v := 12) hx hb dX2_init_48 (by decide) ?_
  refine kIx ⟨hx, hb, hml, hown, hts⟩ (c_X3_init l D q7 12 _ (by decide)) (cwI 1 hts gX2_init_X3_init rfl rfl rfl (hts (.initialized RX3) (List.mem_of_getElem? (i := 6) rfl)) (hts (.methodLink RX2 11 yX3_init) (List.mem_of_getElem? (i := 12) rfl)) (hts (.instanceMethod yX3_init) (List.mem_of_getElem? (i := 13) rfl)) rfl (by decide +kernel) ⟨Nat.le_of_ble_eq_true rfl, Nat.le_of_ble_eq_true rfl⟩) (preSZ hK hN (ws := ([(oo, .inr (2, [.int 0, .ref q1, .ref q3, .ref q5, .null, .null]))] ++ ((wRow D q1 (g2 0) 12 z0) ++ ((wRow D q3 (g4 0) 12 z0) ++ (wRow D q5 (g6 0) 12 z0)))) ++ [(q7, .inr (3, [.null]))]) hP hD (Sb.r Sb.self)) hP hD hS hA (fun _ h => h) (wr := ([(oo, .inr (2, [.int 0, .ref q1, .ref q3, .ref q5, .null, .null]))] ++ ((wRow D q1 (g2 0) 12 z0) ++ ((wRow D q3 (g4 0) 12 z0) ++ (wRow D q5 (g6 0) 12 z0))))) rfl rfl hl.1 (Nat.le_of_ble_eq_true rfl) ⟨Nat.le_of_ble_eq_true rfl, Nat.le_of_ble_eq_true rfl⟩ dX2_init_50 (fun g8 H locs hP hD hS => ?_) rfl
  have hP : va_P D.1 vwCl ([(oo, .inr (2, [.int 0, .ref q1, .ref q3, .ref q5, .null, .null]))] ++ ((wRow D q1 (g2 0) 12 z0) ++ ((wRow D q3 (g4 0) 12 z0) ++ ((wRow D q5 (g6 0) 12 z0) ++ (wRow D q7 (g8 0) 12 z0))))) H := hP
  have hD : va_D A0 ([(oo, .inr (2, [.int 0, .ref q1, .ref q3, .ref q5, .null, .null]))] ++ ((wRow D q1 (g2 0) 12 z0) ++ ((wRow D q3 (g4 0) 12 z0) ++ ((wRow D q5 (g6 0) 12 z0) ++ (wRow D q7 (g8 0) 12 z0))))) := hD
  refine W.eq (g2 := F0 m 53 ls [.ref q7, .ref oo]) rfl ?_
  refine va_putF (D := D.1) (ci := 2) (v := .ref q7) (ty := .object "MountainPost$Row") (C := RX2) (T := TX2) (N := 6) hx hb hts hinX2 tyX2 tyX2_ok nmX2 hown hK hP hD hS 0 rfl rfl 4 (by decide) (hts (.fieldLink RX2 26 "MountainPost$Mules" "hoursLeft" "LMountainPost$Row;") (List.mem_of_getElem? (i := 10) rfl)) (fun _ h9 => h9) rfl hinit rfl (by decide +kernel) rfl rfl (Nat.le_of_ble_eq_true rfl) dX2_init_53 (fun H locs hP hD hS => ?_)
  have hP : va_P D.1 vwCl ([(oo, .inr (2, [.int 0, .ref q1, .ref q3, .ref q5, .ref q7, .null]))] ++ ((wRow D q1 (g2 0) 12 z0) ++ ((wRow D q3 (g4 0) 12 z0) ++ ((wRow D q5 (g6 0) 12 z0) ++ (wRow D q7 (g8 0) 12 z0))))) H := hP
  have hD : va_D A0 ([(oo, .inr (2, [.int 0, .ref q1, .ref q3, .ref q5, .ref q7, .null]))] ++ ((wRow D q1 (g2 0) 12 z0) ++ ((wRow D q3 (g4 0) 12 z0) ++ ((wRow D q5 (g6 0) 12 z0) ++ (wRow D q7 (g8 0) 12 z0))))) := hD
  refine lv_aload_n hx hb dX2_init_56 rfl (lv_at hl 0 rfl) ?_
  refine va_new (D := D.1) (ci := 3) (fs := [.null]) (C := RX3) (T := TX3) (N := 1) hx hb hts hinX3 tyX3 tyX3_ok hown (hts (.classLink RX2 9 RX3) (List.mem_of_getElem? (i := 4) rfl)) (hts (.instantiable RX3 1) (List.mem_of_getElem? (i := 5) rfl)) (hts (.initialized RX3) (List.mem_of_getElem? (i := 6) rfl)) hK hP hD hS hA rfl (fun j hj => by rcases (show j = 0 by omega) with rfl <;> rfl) (Nat.le_of_ble_eq_true rfl) (Nat.le_of_ble_eq_true rfl) dX2_init_57 (fun q9 H hP hD hS => ?_)
  have hP : va_P D.1 vwCl ([(oo, .inr (2, [.int 0, .ref q1, .ref q3, .ref q5, .ref q7, .null]))] ++ ((wRow D q1 (g2 0) 12 z0) ++ ((wRow D q3 (g4 0) 12 z0) ++ ((wRow D q5 (g6 0) 12 z0) ++ ((wRow D q7 (g8 0) 12 z0) ++ [(q9, .inr (3, [.null]))]))))) H := hP
  have hD : va_D A0 ([(oo, .inr (2, [.int 0, .ref q1, .ref q3, .ref q5, .ref q7, .null]))] ++ ((wRow D q1 (g2 0) 12 z0) ++ ((wRow D q3 (g4 0) 12 z0) ++ ((wRow D q5 (g6 0) 12 z0) ++ ((wRow D q7 (g8 0) 12 z0) ++ [(q9, .inr (3, [.null]))]))))) := hD
  refine lv_dup hx hb dX2_init_60 rfl ?_
  refine lv_bipush (v := 12) hx hb dX2_init_61 (by decide) ?_
  refine kIx ⟨hx, hb, hml, hown, hts⟩ (c_X3_init l D q9 12 _ (by decide)) (cwI 1 hts gX2_init_X3_init rfl rfl rfl (hts (.initialized RX3) (List.mem_of_getElem? (i := 6) rfl)) (hts (.methodLink RX2 11 yX3_init) (List.mem_of_getElem? (i := 12) rfl)) (hts (.instanceMethod yX3_init) (List.mem_of_getElem? (i := 13) rfl)) rfl (by decide +kernel) ⟨Nat.le_of_ble_eq_true rfl, Nat.le_of_ble_eq_true rfl⟩) (preSZ hK hN (ws := ([(oo, .inr (2, [.int 0, .ref q1, .ref q3, .ref q5, .ref q7, .null]))] ++ ((wRow D q1 (g2 0) 12 z0) ++ ((wRow D q3 (g4 0) 12 z0) ++ ((wRow D q5 (g6 0) 12 z0) ++ (wRow D q7 (g8 0) 12 z0))))) ++ [(q9, .inr (3, [.null]))]) hP hD (Sb.r Sb.self)) hP hD hS hA (fun _ h => h) (wr := ([(oo, .inr (2, [.int 0, .ref q1, .ref q3, .ref q5, .ref q7, .null]))] ++ ((wRow D q1 (g2 0) 12 z0) ++ ((wRow D q3 (g4 0) 12 z0) ++ ((wRow D q5 (g6 0) 12 z0) ++ (wRow D q7 (g8 0) 12 z0)))))) rfl rfl hl.1 (Nat.le_of_ble_eq_true rfl) ⟨Nat.le_of_ble_eq_true rfl, Nat.le_of_ble_eq_true rfl⟩ dX2_init_63 (fun g10 H locs hP hD hS => ?_) rfl
  have hP : va_P D.1 vwCl ([(oo, .inr (2, [.int 0, .ref q1, .ref q3, .ref q5, .ref q7, .null]))] ++ ((wRow D q1 (g2 0) 12 z0) ++ ((wRow D q3 (g4 0) 12 z0) ++ ((wRow D q5 (g6 0) 12 z0) ++ ((wRow D q7 (g8 0) 12 z0) ++ (wRow D q9 (g10 0) 12 z0)))))) H := hP
  have hD : va_D A0 ([(oo, .inr (2, [.int 0, .ref q1, .ref q3, .ref q5, .ref q7, .null]))] ++ ((wRow D q1 (g2 0) 12 z0) ++ ((wRow D q3 (g4 0) 12 z0) ++ ((wRow D q5 (g6 0) 12 z0) ++ ((wRow D q7 (g8 0) 12 z0) ++ (wRow D q9 (g10 0) 12 z0)))))) := hD
  refine W.eq (g2 := F0 m 66 ls [.ref q9, .ref oo]) rfl ?_
  refine va_putF (D := D.1) (ci := 2) (v := .ref q9) (ty := .object "MountainPost$Row") (C := RX2) (T := TX2) (N := 6) hx hb hts hinX2 tyX2 tyX2_ok nmX2 hown hK hP hD hS 0 rfl rfl 5 (by decide) (hts (.fieldLink RX2 29 "MountainPost$Mules" "hoursWalked" "LMountainPost$Row;") (List.mem_of_getElem? (i := 11) rfl)) (fun _ h9 => h9) rfl hinit rfl (by decide +kernel) rfl rfl (Nat.le_of_ble_eq_true rfl) dX2_init_66 (fun H locs hP hD hS => ?_)
  have hP : va_P D.1 vwCl ([(oo, .inr (2, [.int 0, .ref q1, .ref q3, .ref q5, .ref q7, .ref q9]))] ++ ((wRow D q1 (g2 0) 12 z0) ++ ((wRow D q3 (g4 0) 12 z0) ++ ((wRow D q5 (g6 0) 12 z0) ++ ((wRow D q7 (g8 0) 12 z0) ++ (wRow D q9 (g10 0) 12 z0)))))) H := hP
  have hD : va_D A0 ([(oo, .inr (2, [.int 0, .ref q1, .ref q3, .ref q5, .ref q7, .ref q9]))] ++ ((wRow D q1 (g2 0) 12 z0) ++ ((wRow D q3 (g4 0) 12 z0) ++ ((wRow D q5 (g6 0) 12 z0) ++ ((wRow D q7 (g8 0) 12 z0) ++ (wRow D q9 (g10 0) 12 z0)))))) := hD
  have hP := hP.sub (ws' := (wMul D (nA oo (gl [0, q1, q3, q5, q7, q9, (g2 0), (g4 0), (g6 0), (g8 0), (g10 0)])) 0 (fun _ => z0))) [0, 1, 3, 5, 7, 9, 2, 4, 6, 8, 10] rfl
  have hD := hD.sub (ws' := (wMul D (nA oo (gl [0, q1, q3, q5, q7, q9, (g2 0), (g4 0), (g6 0), (g8 0), (g10 0)])) 0 (fun _ => z0))) [0, 1, 3, 5, 7, 9, 2, 4, 6, 8, 10] (by decide) rfl
  refine W.widen (k := 10) (n := 505) (Nat.le_of_ble_eq_true rfl) (Nat.le_of_ble_eq_true rfl) ?_
  exact W.vret hx hb hr (fun t ht hW => ⟨gl [0, q1, q3, q5, q7, q9, (g2 0), (g4 0), (g6 0), (g8 0), (g10 0)], rfl, by rw [ht]; exact hP, hD, hS.F ht⟩) hS.2.2 dX2_init_69 hlocks
