set_option maxHeartbeats 4000000 in
set_option maxRecDepth 100000 in
theorem c_X7_putMule (l : Launch) (D : GG) (Ax : Nat → Nat) (th : Int32) (ns : Nat) (fog : Int32) (nr : Nat) (nm : Nat) (nl : Nat) (Lx : Nat → Nat → Int32) (p1 : Int32) (p2 : Int32) (p3 : Int32) (sz : Nat) (hm12 : nm < 12) : Met l yX7_putMule wsX7_putMule ({ frames := 1, cells := 1, slots := 5, locals := 40 } : Room) (va_Pc [.ref (Ax 0), .int p1, .int p2, .int p3] (wdZ D (wMod D Ax th ns fog nr nm nl Lx) sz)) (QW D none (wMod D Ax th ns fog nr (nm + 1) nl (pmT Lx nm p1 p2 p3)) (ownZ (wMod D Ax th ns fog nr nm nl Lx) sz)) 1 5 (ownZ (wMod D Ax th ns fog nr nm nl Lx) sz) := by
  refine Met.ofW (cc := cX7_putMule) (maxL := 5) (ret := none) (by decide) rfl ?_
  intro p e s m args below meth c s₁ B hml hv
  obtain ⟨rfl, hsz, hP, hK, hD, hN⟩ := hv
  have hx := B.exec
  have hb := B.bytes
  have hr := B.returns
  have hts := atoms_spec (ws := wsX7_putMule) B.pre
  have hown : s.vm.findClass RX7 = some m.cls := findClass_of_methodNamed B.named
  have hlocks := B.notSynchronized
  have hinX7 : ∀ w ∈ u_ws RX7 TX7 14, w ∈ wsX7_putMule := by decide +kernel
  subst hsz
  have hS : va_S (ownZ (wMod D Ax th ns fog nr nm nl Lx) s.heap.size) s.heap s.heap [] := va_S.rf
  have hD : va_D (ownZ (wMod D Ax th ns fog nr nm nl Lx) s.heap.size) (wMod D Ax th ns fog nr nm nl Lx) := toOwnZ hD
  have hA : ∀ q : Nat, s.heap.size ≤ q → ownZ (wMod D Ax th ns fog nr nm nl Lx) s.heap.size q := fun _ h => Or.inr h
  generalize hAe : ownZ (wMod D Ax th ns fog nr nm nl Lx) s.heap.size = A0 at hD hS hA ⊢
  have hl := lv_entry ([.ref (Ax 0), .int p1, .int p2, .int p3]) (n := 5) (Nat.le_of_ble_eq_true rfl)
  rw [lg_entry_eq]
  generalize (lg_sl ([.ref (Ax 0), .int p1, .int p2, .int p3]) ++ List.replicate (5 - (lg_sl ([.ref (Ax 0), .int p1, .int p2, .int p3])).length) Slot.unset).toArray = ls at hl ⊢
  have hl : lv_has ls 5 [(0, .ref (Ax 0)), (1, .int p1), (2, .int p2), (3, .int p3)] := hl
  refine lv_iconst (v := 5) hx hb dX7_putMule_0 (by decide) ?_
  refine newaI (D := D) hx hb (hts (.arrayClass .int) (List.mem_of_getElem? (i := 1) rfl)) hK hP hD hS hA (N' := 5) (by decide) (by decide) (by decide) (Nat.le_of_ble_eq_true rfl) (Nat.le_of_ble_eq_true rfl) dX7_putMule_1 (fun q1 H hP hD hS => ?_)
  have hP : va_P D.1 vwCl ((wMod D Ax th ns fog nr nm nl Lx) ++ [(q1, .inl (D.2 0, 5, .inl z0))]) H := hP
  have hD : va_D A0 ((wMod D Ax th ns fog nr nm nl Lx) ++ [(q1, .inl (D.2 0, 5, .inl z0))]) := hD
  refine lv_dup hx hb dX7_putMule_3 rfl ?_
  refine lv_iconst (v := 0) hx hb dX7_putMule_4 (by decide) ?_
  refine lv_iload_n hx hb dX7_putMule_5 rfl (lv_at hl 1 rfl) ?_
  refine va_iast (D := D.1) hx hb hK hP hD hS 9 0 rfl rfl (vpl (by decide)) dX7_putMule_6 (fun H locs hP hD hS => ?_)
  have hP : va_P D.1 vwCl ((wMod D Ax th ns fog nr nm nl Lx) ++ [(q1, .inl (D.2 0, 5, .inl (upd z0 (0 : Int32).toNatClampNeg p1)))]) H := hP
  have hD : va_D A0 ((wMod D Ax th ns fog nr nm nl Lx) ++ [(q1, .inl (D.2 0, 5, .inl (upd z0 (0 : Int32).toNatClampNeg p1)))]) := hD
  refine lv_dup hx hb dX7_putMule_7 rfl ?_
  refine lv_iconst (v := 1) hx hb dX7_putMule_8 (by decide) ?_
  refine lv_iload_n hx hb dX7_putMule_9 rfl (lv_at hl 2 rfl) ?_
  refine va_iast (D := D.1) hx hb hK hP hD hS 9 0 rfl rfl (vpl (by decide)) dX7_putMule_10 (fun H locs hP hD hS => ?_)
  have hP : va_P D.1 vwCl ((wMod D Ax th ns fog nr nm nl Lx) ++ [(q1, .inl (D.2 0, 5, .inl (upd (upd z0 (0 : Int32).toNatClampNeg p1) (1 : Int32).toNatClampNeg p2)))]) H := hP
  have hD : va_D A0 ((wMod D Ax th ns fog nr nm nl Lx) ++ [(q1, .inl (D.2 0, 5, .inl (upd (upd z0 (0 : Int32).toNatClampNeg p1) (1 : Int32).toNatClampNeg p2)))]) := hD
  refine lv_dup hx hb dX7_putMule_11 rfl ?_
  refine lv_iconst (v := 2) hx hb dX7_putMule_12 (by decide) ?_
  refine lv_iload_n hx hb dX7_putMule_13 rfl (lv_at hl 3 rfl) ?_
  refine va_iast (D := D.1) hx hb hK hP hD hS 9 0 rfl rfl (vpl (by decide)) dX7_putMule_14 (fun H locs hP hD hS => ?_)
  have hP : va_P D.1 vwCl ((wMod D Ax th ns fog nr nm nl Lx) ++ [(q1, .inl (D.2 0, 5, .inl (upd (upd (upd z0 (0 : Int32).toNatClampNeg p1) (1 : Int32).toNatClampNeg p2) (2 : Int32).toNatClampNeg p3)))]) H := hP
  have hD : va_D A0 ((wMod D Ax th ns fog nr nm nl Lx) ++ [(q1, .inl (D.2 0, 5, .inl (upd (upd (upd z0 (0 : Int32).toNatClampNeg p1) (1 : Int32).toNatClampNeg p2) (2 : Int32).toNatClampNeg p3)))]) := hD
  refine lv_dup hx hb dX7_putMule_15 rfl ?_
  refine lv_iconst (v := 3) hx hb dX7_putMule_16 (by decide) ?_
  refine lv_iconst (v := 0) hx hb dX7_putMule_17 (by decide) ?_
  refine va_iast (D := D.1) hx hb hK hP hD hS 9 0 rfl rfl (vpl (by decide)) dX7_putMule_18 (fun H locs hP hD hS => ?_)
  have hP : va_P D.1 vwCl ((wMod D Ax th ns fog nr nm nl Lx) ++ [(q1, .inl (D.2 0, 5, .inl (upd (upd (upd (upd z0 (0 : Int32).toNatClampNeg p1) (1 : Int32).toNatClampNeg p2) (2 : Int32).toNatClampNeg p3) (3 : Int32).toNatClampNeg 0)))]) H := hP
  have hD : va_D A0 ((wMod D Ax th ns fog nr nm nl Lx) ++ [(q1, .inl (D.2 0, 5, .inl (upd (upd (upd (upd z0 (0 : Int32).toNatClampNeg p1) (1 : Int32).toNatClampNeg p2) (2 : Int32).toNatClampNeg p3) (3 : Int32).toNatClampNeg 0)))]) := hD
  refine lv_dup hx hb dX7_putMule_19 rfl ?_
  refine lv_iconst (v := 4) hx hb dX7_putMule_20 (by decide) ?_
  refine lv_iconst (v := 0) hx hb dX7_putMule_21 (by decide) ?_
  refine va_iast (D := D.1) hx hb hK hP hD hS 9 0 rfl rfl (vpl (by decide)) dX7_putMule_22 (fun H locs hP hD hS => ?_)
  have hP : va_P D.1 vwCl ((wMod D Ax th ns fog nr nm nl Lx) ++ [(q1, .inl (D.2 0, 5, .inl (upd (upd (upd (upd (upd z0 (0 : Int32).toNatClampNeg p1) (1 : Int32).toNatClampNeg p2) (2 : Int32).toNatClampNeg p3) (3 : Int32).toNatClampNeg 0) (4 : Int32).toNatClampNeg 0)))]) H := hP
  have hD : va_D A0 ((wMod D Ax th ns fog nr nm nl Lx) ++ [(q1, .inl (D.2 0, 5, .inl (upd (upd (upd (upd (upd z0 (0 : Int32).toNatClampNeg p1) (1 : Int32).toNatClampNeg p2) (2 : Int32).toNatClampNeg p3) (3 : Int32).toNatClampNeg 0) (4 : Int32).toNatClampNeg 0)))]) := hD
  refine lv_astore (lv' := [(4, .ref q1), (0, .ref (Ax 0)), (1, .int p1), (2, .int p2), (3, .int p3)]) hx hb dX7_putMule_23 hl (by decide) rfl (fun ls hl => ?_)
  refine lv_aload hx hb dX7_putMule_25 (lv_at hl 0 rfl) ?_
  refine lv_iconst (v := 0) hx hb dX7_putMule_27 (by decide) ?_
  refine lv_aload_n hx hb dX7_putMule_28 rfl (lv_at hl 1 rfl) ?_
  refine va_get (D := D.1) (ci := 7) (v := .ref (Ax 4)) (C := RX7) (T := TX7) (N := 14) hx hb hts hinX7 hown hK (sP (Sb.l Sb.self) hP) 0 rfl rfl 9 (by decide) (hts (.fieldLink RX7 19 "MountainPostModel" "muleTable" "[I") (List.mem_of_getElem? (i := 2) rfl)) (fun _ h9 => h9) rfl dX7_putMule_29 ?_
  refine lv_iconst (v := 5) hx hb dX7_putMule_32 (by decide) ?_
  refine lv_aload_n hx hb dX7_putMule_33 rfl (lv_at hl 1 rfl) ?_
  refine va_get (D := D.1) (ci := 7) (v := .int (nI nm)) (C := RX7) (T := TX7) (N := 14) hx hb hts hinX7 hown hK (sP (Sb.l Sb.self) hP) 0 rfl rfl 7 (by decide) (hts (.fieldLink RX7 73 "MountainPostModel" "mules" "I") (List.mem_of_getElem? (i := 3) rfl)) (fun _ h9 => h9) rfl dX7_putMule_34 ?_
  refine lv_imul hx hb dX7_putMule_37 ?_
  refine lv_iconst (v := 5) hx hb dX7_putMule_38 (by decide) ?_
  refine va_copyi (D := D.1) hx hb (hml.trans hl.1.symm) hown (hts (.methodLink RX7 67 arraycopyName) (List.mem_of_getElem? (i := 4) rfl)) (hts (.native arraycopyName) (List.mem_of_getElem? (i := 5) rfl)) (hts (.static arraycopyName) (List.mem_of_getElem? (i := 6) rfl)) (hts (.initialized "java/lang/System") (List.mem_of_getElem? (i := 7) rfl)) hK hP hD hS 9 4 0 0 rfl rfl rfl rfl rfl (by decide) (mul_nn (a := 5) (n := nm) (m := 60) (by omega) (by decide)) (by decide) (by decide) (mul_cl (a := 5) (n := nm) (m := 60) (by omega) (by decide)) (fun _ _ => rfl) (Nat.le_of_ble_eq_true rfl) (Nat.le_of_ble_eq_true rfl) dX7_putMule_39 (fun H locs hP hD hS => ?_)
  have hP : va_P D.1 vwCl ((wMod D Ax th ns fog nr nm nl (sr Lx 3 (va_cpy (upd (upd (upd (upd (upd z0 (0 : Int32).toNatClampNeg p1) (1 : Int32).toNatClampNeg p2) (2 : Int32).toNatClampNeg p3) (3 : Int32).toNatClampNeg 0) (4 : Int32).toNatClampNeg 0) (Lx 3) (0 : Int32).toNatClampNeg ((5 : Int32) * nI nm).toNatClampNeg (5 : Int32).toNatClampNeg))) ++ [(q1, .inl (D.2 0, 5, .inl (upd (upd (upd (upd (upd z0 (0 : Int32).toNatClampNeg p1) (1 : Int32).toNatClampNeg p2) (2 : Int32).toNatClampNeg p3) (3 : Int32).toNatClampNeg 0) (4 : Int32).toNatClampNeg 0)))]) H := hP
  have hD : va_D A0 ((wMod D Ax th ns fog nr nm nl (sr Lx 3 (va_cpy (upd (upd (upd (upd (upd z0 (0 : Int32).toNatClampNeg p1) (1 : Int32).toNatClampNeg p2) (2 : Int32).toNatClampNeg p3) (3 : Int32).toNatClampNeg 0) (4 : Int32).toNatClampNeg 0) (Lx 3) (0 : Int32).toNatClampNeg ((5 : Int32) * nI nm).toNatClampNeg (5 : Int32).toNatClampNeg))) ++ [(q1, .inl (D.2 0, 5, .inl (upd (upd (upd (upd (upd z0 (0 : Int32).toNatClampNeg p1) (1 : Int32).toNatClampNeg p2) (2 : Int32).toNatClampNeg p3) (3 : Int32).toNatClampNeg 0) (4 : Int32).toNatClampNeg 0)))]) := hD
  refine lv_aload_n hx hb dX7_putMule_42 rfl (lv_at hl 1 rfl) ?_
  refine lv_dup hx hb dX7_putMule_43 rfl ?_
  refine va_get (D := D.1) (ci := 7) (v := .int (nI nm)) (C := RX7) (T := TX7) (N := 14) hx hb hts hinX7 hown hK (sP (Sb.l Sb.self) hP) 0 rfl rfl 7 (by decide) (hts (.fieldLink RX7 73 "MountainPostModel" "mules" "I") (List.mem_of_getElem? (i := 3) rfl)) (fun _ h9 => h9) rfl dX7_putMule_44 ?_
  refine lv_iconst (v := 1) hx hb dX7_putMule_47 (by decide) ?_
  refine lv_iadd hx hb dX7_putMule_48 ?_
  refine W.eq (g2 := F0 m 49 ls [.int (nI (nm + 1)), .ref (Ax 0)]) (by rw [show ((nI nm) + 1) = nI (nm + 1) from nI_1 nm]) ?_
  refine va_put (D := D.1) (ci := 7) (v := .int (nI (nm + 1))) (ty := .int) (C := RX7) (T := TX7) (N := 14) hx hb hts hinX7 tyX7 tyX7_ok nmX7 hown hK hP hD hS 0 rfl rfl 7 (by decide) (hts (.fieldLink RX7 73 "MountainPostModel" "mules" "I") (List.mem_of_getElem? (i := 3) rfl)) (fun _ h9 => h9) rfl (by decide +kernel) rfl rfl (Nat.le_of_ble_eq_true rfl) dX7_putMule_49 (fun H locs hP hD hS => ?_)
  have hP : va_P D.1 vwCl ((wMod D Ax th ns fog nr (nm + 1) nl (sr Lx 3 (va_cpy (upd (upd (upd (upd (upd z0 (0 : Int32).toNatClampNeg p1) (1 : Int32).toNatClampNeg p2) (2 : Int32).toNatClampNeg p3) (3 : Int32).toNatClampNeg 0) (4 : Int32).toNatClampNeg 0) (Lx 3) (0 : Int32).toNatClampNeg ((5 : Int32) * nI nm).toNatClampNeg (5 : Int32).toNatClampNeg))) ++ [(q1, .inl (D.2 0, 5, .inl (upd (upd (upd (upd (upd z0 (0 : Int32).toNatClampNeg p1) (1 : Int32).toNatClampNeg p2) (2 : Int32).toNatClampNeg p3) (3 : Int32).toNatClampNeg 0) (4 : Int32).toNatClampNeg 0)))]) H := hP
  have hD : va_D A0 ((wMod D Ax th ns fog nr (nm + 1) nl (sr Lx 3 (va_cpy (upd (upd (upd (upd (upd z0 (0 : Int32).toNatClampNeg p1) (1 : Int32).toNatClampNeg p2) (2 : Int32).toNatClampNeg p3) (3 : Int32).toNatClampNeg 0) (4 : Int32).toNatClampNeg 0) (Lx 3) (0 : Int32).toNatClampNeg ((5 : Int32) * nI nm).toNatClampNeg (5 : Int32).toNatClampNeg))) ++ [(q1, .inl (D.2 0, 5, .inl (upd (upd (upd (upd (upd z0 (0 : Int32).toNatClampNeg p1) (1 : Int32).toNatClampNeg p2) (2 : Int32).toNatClampNeg p3) (3 : Int32).toNatClampNeg 0) (4 : Int32).toNatClampNeg 0)))]) := hD
  have hP := sP (ws := ((wMod D Ax th ns fog nr (nm + 1) nl (sr Lx 3 (va_cpy (upd (upd (upd (upd (upd z0 (0 : Int32).toNatClampNeg p1) (1 : Int32).toNatClampNeg p2) (2 : Int32).toNatClampNeg p3) (3 : Int32).toNatClampNeg 0) (4 : Int32).toNatClampNeg 0) (Lx 3) (0 : Int32).toNatClampNeg ((5 : Int32) * nI nm).toNatClampNeg (5 : Int32).toNatClampNeg))) ++ [(q1, .inl (D.2 0, 5, .inl (upd (upd (upd (upd (upd z0 (0 : Int32).toNatClampNeg p1) (1 : Int32).toNatClampNeg p2) (2 : Int32).toNatClampNeg p3) (3 : Int32).toNatClampNeg 0) (4 : Int32).toNatClampNeg 0)))])) (wc := (wMod D Ax th ns fog nr (nm + 1) nl (sr Lx 3 (va_cpy (upd (upd (upd (upd (upd z0 (0 : Int32).toNatClampNeg p1) (1 : Int32).toNatClampNeg p2) (2 : Int32).toNatClampNeg p3) (3 : Int32).toNatClampNeg 0) (4 : Int32).toNatClampNeg 0) (Lx 3) (0 : Int32).toNatClampNeg ((5 : Int32) * nI nm).toNatClampNeg (5 : Int32).toNatClampNeg)))) (Sb.l Sb.self) hP
  refine W.widen (k := 1) (n := 5) (Nat.le_of_ble_eq_true rfl) (Nat.le_of_ble_eq_true rfl) ?_
  exact eWv hx hb hr hlocks dX7_putMule_52 hS hP (by rfl)

set_option maxHeartbeats 4000000 in
set_option maxRecDepth 100000 in
theorem c_X7_build (l : Launch) (D : GG) (Ax : Nat → Nat) (th : Int32) (ns : Nat) (fog : Int32) (nr : Nat) (nm : Nat) (nl : Nat) (Lx : Nat → Nat → Int32) (p1 : Int32) (p2 : Int32) (p3 : Int32) (sz : Nat) (b10 : ns ≤ 10) (b15 : nr ≤ 15) (b12 : nm ≤ 12) (b60 : nl ≤ 60) : Met l yX7_build wsX7_build ({ frames := 2, cells := 1, slots := 3, locals := 43 } : Room) (va_Pc [.ref (Ax 0), .int p1, .int p2, .int p3] (wdZ D (wMod D Ax th ns fog nr nm nl Lx) sz)) (QW D (some (.int ((pbd Lx ns nr p1 p2 p3).1))) (wMod D Ax ((pbd Lx ns nr p1 p2 p3).2.1) ns fog ((pbd Lx ns nr p1 p2 p3).2.2.1) nm nl ((pbd Lx ns nr p1 p2 p3).2.2.2)) (ownZ (wMod D Ax th ns fog nr nm nl Lx) sz)) 1 3 (ownZ (wMod D Ax th ns fog nr nm nl Lx) sz) := by
  refine Met.ofW (cc := cX7_build) (maxL := 5) (ret := (some .int)) (by decide) rfl ?_
  intro p e s m args below meth c s₁ B hml hv
  obtain ⟨rfl, hsz, hP, hK, hD, hN⟩ := hv
  have hx := B.exec
  have hb := B.bytes
  have hr := B.returns
  have hts := atoms_spec (ws := wsX7_build) B.pre
  have hown : s.vm.findClass RX7 = some m.cls := findClass_of_methodNamed B.named
  have hlocks := B.notSynchronized
  have hinX7 : ∀ w ∈ u_ws RX7 TX7 14, w ∈ wsX7_build := by decide +kernel
  subst hsz
  have hS : va_S (ownZ (wMod D Ax th ns fog nr nm nl Lx) s.heap.size) s.heap s.heap [] := va_S.rf
  have hD : va_D (ownZ (wMod D Ax th ns fog nr nm nl Lx) s.heap.size) (wMod D Ax th ns fog nr nm nl Lx) := toOwnZ hD
  have hA : ∀ q : Nat, s.heap.size ≤ q → ownZ (wMod D Ax th ns fog nr nm nl Lx) s.heap.size q := fun _ h => Or.inr h
  generalize hAe : ownZ (wMod D Ax th ns fog nr nm nl Lx) s.heap.size = A0 at hD hS hA ⊢
  have hl := lv_entry ([.ref (Ax 0), .int p1, .int p2, .int p3]) (n := 5) (Nat.le_of_ble_eq_true rfl)
  rw [lg_entry_eq]
  generalize (lg_sl ([.ref (Ax 0), .int p1, .int p2, .int p3]) ++ List.replicate (5 - (lg_sl ([.ref (Ax 0), .int p1, .int p2, .int p3])).length) Slot.unset).toArray = ls at hl ⊢
  have hl : lv_has ls 5 [(0, .ref (Ax 0)), (1, .int p1), (2, .int p2), (3, .int p3)] := hl
  refine lv_aload_n hx hb dX7_build_0 rfl (lv_at hl 0 rfl) ?_
  refine lv_iconst (v := 0) hx hb dX7_build_1 (by decide) ?_
  refine va_put (D := D.1) (ci := 7) (v := .int 0) (ty := .int) (C := RX7) (T := TX7) (N := 14) hx hb hts hinX7 tyX7 tyX7_ok nmX7 hown hK hP hD hS 0 rfl rfl 0 (by decide) (hts (.fieldLink RX7 34 "MountainPostModel" "thrown" "I") (List.mem_of_getElem? (i := 1) rfl)) (fun _ h9 => h9) rfl (by decide +kernel) rfl rfl (Nat.le_of_ble_eq_true rfl) dX7_build_2 (fun H locs hP hD hS => ?_)
  have hP : va_P D.1 vwCl (wMod D Ax 0 ns fog nr nm nl Lx) H := hP
  have hD : va_D A0 (wMod D Ax 0 ns fog nr nm nl Lx) := hD
  refine lv_aload_n hx hb dX7_build_5 rfl (lv_at hl 0 rfl) ?_
  refine lv_iload_n hx hb dX7_build_6 rfl (lv_at hl 1 rfl) ?_
  refine kVp ⟨hx, hb, hml, hown, hts⟩ (c_X7_isStation l D Ax 0 ns fog nr nm nl Lx p1) (cwV 1 hts gX7_build_X7_isStation rfl rfl rfl (by decide +kernel) ⟨Nat.le_of_ble_eq_true rfl, Nat.le_of_ble_eq_true rfl⟩) hK hN hP hD Sb.self 7 0 rfl rfl rfl hl.1 (Nat.le_of_ble_eq_true rfl) ⟨Nat.le_of_ble_eq_true rfl, Nat.le_of_ble_eq_true rfl⟩ dX7_build_7 ?_ rfl
  refine lv_if_eq (tgt := 21) hx hb dX7_build_10 (by decide) (fun c1 => ?_) (fun c1 => ?_)
  · have c1 := z2_0.mp c1
    refine lv_aload_n hx hb dX7_build_21 rfl (lv_at hl 0 rfl) ?_
    refine lv_iconst (v := 1) hx hb dX7_build_22 (by decide) ?_
    refine kVw ⟨hx, hb, hml, hown, hts⟩ (c_X7_fail l D Ax 0 ns fog nr nm nl Lx 1) (cwV 1 hts gX7_build_X7_fail rfl rfl rfl (by decide +kernel) ⟨Nat.le_of_ble_eq_true rfl, Nat.le_of_ble_eq_true rfl⟩) hK hN hP hD hS frsMod 7 0 rfl rfl rfl hl.1 (Nat.le_of_ble_eq_true rfl) ⟨Nat.le_of_ble_eq_true rfl, Nat.le_of_ble_eq_true rfl⟩ dX7_build_23 (fun H locs hP hD hS => ?_) rfl
    have hP : va_P D.1 vwCl (wMod D Ax 1 ns fog nr nm nl Lx) H := hP
    have hD : va_D A0 (wMod D Ax 1 ns fog nr nm nl Lx) := hD
    refine W.eq (g2 := F0 m 26 ls [.int 0]) rfl ?_
    refine W.widen (k := 1) (n := 3) (Nat.le_of_ble_eq_true rfl) (Nat.le_of_ble_eq_true rfl) ?_
    exact eWi hx hb hr hlocks dX7_build_26 hS hP (by (rw [pbd, if_neg c1]; first | done | rw [z2, if_pos (by assumption)] | rw [z2, if_neg (by assumption)] | rfl)) (by (rw [pbd, if_neg c1]; first | done | rw [z2, if_pos (by assumption)] | rw [z2, if_neg (by assumption)] | rfl))
  · have c1 := z2_n.mp c1
    refine lv_aload_n hx hb dX7_build_13 rfl (lv_at hl 0 rfl) ?_
    refine lv_iload_n hx hb dX7_build_14 rfl (lv_at hl 2 rfl) ?_
    refine kVp ⟨hx, hb, hml, hown, hts⟩ (c_X7_isStation l D Ax 0 ns fog nr nm nl Lx p2) (cwV 1 hts gX7_build_X7_isStation rfl rfl rfl (by decide +kernel) ⟨Nat.le_of_ble_eq_true rfl, Nat.le_of_ble_eq_true rfl⟩) hK hN hP hD Sb.self 7 0 rfl rfl rfl hl.1 (Nat.le_of_ble_eq_true rfl) ⟨Nat.le_of_ble_eq_true rfl, Nat.le_of_ble_eq_true rfl⟩ dX7_build_15 ?_ rfl
    refine lv_if_ne (tgt := 27) hx hb dX7_build_18 (by decide) (fun c2 => ?_) (fun c2 => ?_)
    · have c2 := z2_n.mp c2
      refine lv_iload_n hx hb dX7_build_27 rfl (lv_at hl 1 rfl) ?_
      refine lv_iload_n hx hb dX7_build_28 rfl (lv_at hl 2 rfl) ?_
      refine lv_icmp_eq (tgt := 42) hx hb dX7_build_29 (by decide) (fun c3 => ?_) (fun c3 => ?_)
      · refine lv_aload_n hx hb dX7_build_42 rfl (lv_at hl 0 rfl) ?_
        refine lv_iconst (v := 2) hx hb dX7_build_43 (by decide) ?_
        refine kVw ⟨hx, hb, hml, hown, hts⟩ (c_X7_fail l D Ax 0 ns fog nr nm nl Lx 2) (cwV 1 hts gX7_build_X7_fail rfl rfl rfl (by decide +kernel) ⟨Nat.le_of_ble_eq_true rfl, Nat.le_of_ble_eq_true rfl⟩) hK hN hP hD hS frsMod 7 0 rfl rfl rfl hl.1 (Nat.le_of_ble_eq_true rfl) ⟨Nat.le_of_ble_eq_true rfl, Nat.le_of_ble_eq_true rfl⟩ dX7_build_44 (fun H locs hP hD hS => ?_) rfl
        have hP : va_P D.1 vwCl (wMod D Ax 2 ns fog nr nm nl Lx) H := hP
        have hD : va_D A0 (wMod D Ax 2 ns fog nr nm nl Lx) := hD
        refine W.eq (g2 := F0 m 47 ls [.int 0]) rfl ?_
        refine W.widen (k := 1) (n := 3) (Nat.le_of_ble_eq_true rfl) (Nat.le_of_ble_eq_true rfl) ?_
        exact eWi hx hb hr hlocks dX7_build_47 hS hP (by (rw [pbd, if_pos c1, if_pos c2, if_pos c3]; first | done | rw [z2, if_pos (by assumption)] | rw [z2, if_neg (by assumption)] | rfl)) (by (rw [pbd, if_pos c1, if_pos c2, if_pos c3]; first | done | rw [z2, if_pos (by assumption)] | rw [z2, if_neg (by assumption)] | rfl))
      · refine lv_iload_n hx hb dX7_build_32 rfl (lv_at hl 3 rfl) ?_
        refine lv_iconst (v := 1) hx hb dX7_build_33 (by decide) ?_
        refine lv_bipush (v := 20) hx hb dX7_build_34 (by decide) ?_
        refine kSp ⟨hx, hb, hml, hown, hts⟩ (c_X7_isIn l D p3 1 20) (va_cwS 3 hts gX7_build_X7_isIn rfl rfl rfl (by decide +kernel) ⟨Nat.le_of_ble_eq_true rfl, Nat.le_of_ble_eq_true rfl⟩) hK hN hP hD Sb.nil  rfl hl.1 (Nat.le_of_ble_eq_true rfl) ⟨Nat.le_of_ble_eq_true rfl, Nat.le_of_ble_eq_true rfl⟩ dX7_build_36 ?_ rfl
        refine lv_if_ne (tgt := 48) hx hb dX7_build_39 (by decide) (fun c4 => ?_) (fun c4 => ?_)
        · have c4 := z2_n.mp c4
          refine lv_aload_n hx hb dX7_build_48 rfl (lv_at hl 0 rfl) ?_
          refine va_get (D := D.1) (ci := 7) (v := .int (nI nr)) (C := RX7) (T := TX7) (N := 14) hx hb hts hinX7 hown hK hP 0 rfl rfl 5 (by decide) (hts (.fieldLink RX7 45 "MountainPostModel" "roads" "I") (List.mem_of_getElem? (i := 2) rfl)) (fun _ h9 => h9) rfl dX7_build_49 ?_
          refine lv_bipush (v := 15) hx hb dX7_build_52 (by decide) ?_
          refine lv_icmp_ne (tgt := 63) hx hb dX7_build_54 (by decide) (fun c5 => ?_) (fun c5 => ?_)
          · refine lv_iconst (v := 3) hx hb dX7_build_63 (by decide) ?_
            refine newaI (D := D) hx hb (hts (.arrayClass .int) (List.mem_of_getElem? (i := 3) rfl)) hK hP hD hS hA (N' := 3) (by decide) (by decide) (by decide) (Nat.le_of_ble_eq_true rfl) (Nat.le_of_ble_eq_true rfl) dX7_build_64 (fun q6 H hP hD hS => ?_)
            have hP : va_P D.1 vwCl ((wMod D Ax 0 ns fog nr nm nl Lx) ++ [(q6, .inl (D.2 0, 3, .inl z0))]) H := hP
            have hD : va_D A0 ((wMod D Ax 0 ns fog nr nm nl Lx) ++ [(q6, .inl (D.2 0, 3, .inl z0))]) := hD
            refine lv_dup hx hb dX7_build_66 rfl ?_
            refine lv_iconst (v := 0) hx hb dX7_build_67 (by decide) ?_
            refine lv_iload_n hx hb dX7_build_68 rfl (lv_at hl 1 rfl) ?_
            refine va_iast (D := D.1) hx hb hK hP hD hS 9 0 rfl rfl (vpl (by decide)) dX7_build_69 (fun H locs hP hD hS => ?_)
            have hP : va_P D.1 vwCl ((wMod D Ax 0 ns fog nr nm nl Lx) ++ [(q6, .inl (D.2 0, 3, .inl (upd z0 (0 : Int32).toNatClampNeg p1)))]) H := hP
            have hD : va_D A0 ((wMod D Ax 0 ns fog nr nm nl Lx) ++ [(q6, .inl (D.2 0, 3, .inl (upd z0 (0 : Int32).toNatClampNeg p1)))]) := hD
            refine lv_dup hx hb dX7_build_70 rfl ?_
            refine lv_iconst (v := 1) hx hb dX7_build_71 (by decide) ?_
            refine lv_iload_n hx hb dX7_build_72 rfl (lv_at hl 2 rfl) ?_
            refine va_iast (D := D.1) hx hb hK hP hD hS 9 0 rfl rfl (vpl (by decide)) dX7_build_73 (fun H locs hP hD hS => ?_)
            have hP : va_P D.1 vwCl ((wMod D Ax 0 ns fog nr nm nl Lx) ++ [(q6, .inl (D.2 0, 3, .inl (upd (upd z0 (0 : Int32).toNatClampNeg p1) (1 : Int32).toNatClampNeg p2)))]) H := hP
            have hD : va_D A0 ((wMod D Ax 0 ns fog nr nm nl Lx) ++ [(q6, .inl (D.2 0, 3, .inl (upd (upd z0 (0 : Int32).toNatClampNeg p1) (1 : Int32).toNatClampNeg p2)))]) := hD
            refine lv_dup hx hb dX7_build_74 rfl ?_
            refine lv_iconst (v := 2) hx hb dX7_build_75 (by decide) ?_
            refine lv_iload_n hx hb dX7_build_76 rfl (lv_at hl 3 rfl) ?_
            refine va_iast (D := D.1) hx hb hK hP hD hS 9 0 rfl rfl (vpl (by decide)) dX7_build_77 (fun H locs hP hD hS => ?_)
            have hP : va_P D.1 vwCl ((wMod D Ax 0 ns fog nr nm nl Lx) ++ [(q6, .inl (D.2 0, 3, .inl (upd (upd (upd z0 (0 : Int32).toNatClampNeg p1) (1 : Int32).toNatClampNeg p2) (2 : Int32).toNatClampNeg p3)))]) H := hP
            have hD : va_D A0 ((wMod D Ax 0 ns fog nr nm nl Lx) ++ [(q6, .inl (D.2 0, 3, .inl (upd (upd (upd z0 (0 : Int32).toNatClampNeg p1) (1 : Int32).toNatClampNeg p2) (2 : Int32).toNatClampNeg p3)))]) := hD
            refine lv_astore (lv' := [(4, .ref q6), (0, .ref (Ax 0)), (1, .int p1), (2, .int p2), (3, .int p3)]) hx hb dX7_build_78 hl (by decide) rfl (fun ls hl => ?_)
            refine lv_aload hx hb dX7_build_80 (lv_at hl 0 rfl) ?_
            refine lv_iconst (v := 0) hx hb dX7_build_82 (by decide) ?_
            refine lv_aload_n hx hb dX7_build_83 rfl (lv_at hl 1 rfl) ?_
            refine va_get (D := D.1) (ci := 7) (v := .ref (Ax 3)) (C := RX7) (T := TX7) (N := 14) hx hb hts hinX7 hown hK (sP (Sb.l Sb.self) hP) 0 rfl rfl 6 (by decide) (hts (.fieldLink RX7 16 "MountainPostModel" "roadTable" "[I") (List.mem_of_getElem? (i := 4) rfl)) (fun _ h9 => h9) rfl dX7_build_84 ?_
            refine lv_iconst (v := 3) hx hb dX7_build_87 (by decide) ?_
            refine lv_aload_n hx hb dX7_build_88 rfl (lv_at hl 1 rfl) ?_
            refine va_get (D := D.1) (ci := 7) (v := .int (nI nr)) (C := RX7) (T := TX7) (N := 14) hx hb hts hinX7 hown hK (sP (Sb.l Sb.self) hP) 0 rfl rfl 5 (by decide) (hts (.fieldLink RX7 45 "MountainPostModel" "roads" "I") (List.mem_of_getElem? (i := 2) rfl)) (fun _ h9 => h9) rfl dX7_build_89 ?_
            refine lv_imul hx hb dX7_build_92 ?_
            refine lv_iconst (v := 3) hx hb dX7_build_93 (by decide) ?_
            refine va_copyi (D := D.1) hx hb (hml.trans hl.1.symm) hown (hts (.methodLink RX7 67 arraycopyName) (List.mem_of_getElem? (i := 5) rfl)) (hts (.native arraycopyName) (List.mem_of_getElem? (i := 6) rfl)) (hts (.static arraycopyName) (List.mem_of_getElem? (i := 7) rfl)) (hts (.initialized "java/lang/System") (List.mem_of_getElem? (i := 8) rfl)) hK hP hD hS 9 3 0 0 rfl rfl rfl rfl rfl (by decide) (mul_nn (a := 3) (n := nr) (m := 45) (by have : nr ≠ 15 := fun q => c5 (by rw [q]; rfl); omega) (by decide)) (by decide) (by decide) (mul_cl (a := 3) (n := nr) (m := 45) (by have : nr ≠ 15 := fun q => c5 (by rw [q]; rfl); omega) (by decide)) (fun _ _ => rfl) (Nat.le_of_ble_eq_true rfl) (Nat.le_of_ble_eq_true rfl) dX7_build_94 (fun H locs hP hD hS => ?_)
            have hP : va_P D.1 vwCl ((wMod D Ax 0 ns fog nr nm nl (sr Lx 2 (va_cpy (upd (upd (upd z0 (0 : Int32).toNatClampNeg p1) (1 : Int32).toNatClampNeg p2) (2 : Int32).toNatClampNeg p3) (Lx 2) (0 : Int32).toNatClampNeg ((3 : Int32) * nI nr).toNatClampNeg (3 : Int32).toNatClampNeg))) ++ [(q6, .inl (D.2 0, 3, .inl (upd (upd (upd z0 (0 : Int32).toNatClampNeg p1) (1 : Int32).toNatClampNeg p2) (2 : Int32).toNatClampNeg p3)))]) H := hP
            have hD : va_D A0 ((wMod D Ax 0 ns fog nr nm nl (sr Lx 2 (va_cpy (upd (upd (upd z0 (0 : Int32).toNatClampNeg p1) (1 : Int32).toNatClampNeg p2) (2 : Int32).toNatClampNeg p3) (Lx 2) (0 : Int32).toNatClampNeg ((3 : Int32) * nI nr).toNatClampNeg (3 : Int32).toNatClampNeg))) ++ [(q6, .inl (D.2 0, 3, .inl (upd (upd (upd z0 (0 : Int32).toNatClampNeg p1) (1 : Int32).toNatClampNeg p2) (2 : Int32).toNatClampNeg p3)))]) := hD
            refine lv_aload_n hx hb dX7_build_97 rfl (lv_at hl 1 rfl) ?_
            refine lv_dup hx hb dX7_build_98 rfl ?_
            refine va_get (D := D.1) (ci := 7) (v := .int (nI nr)) (C := RX7) (T := TX7) (N := 14) hx hb hts hinX7 hown hK (sP (Sb.l Sb.self) hP) 0 rfl rfl 5 (by decide) (hts (.fieldLink RX7 45 "MountainPostModel" "roads" "I") (List.mem_of_getElem? (i := 2) rfl)) (fun _ h9 => h9) rfl dX7_build_99 ?_
            refine lv_iconst (v := 1) hx hb dX7_build_102 (by decide) ?_
            refine lv_iadd hx hb dX7_build_103 ?_
            refine W.eq (g2 := F0 m 104 ls [.int (nI (nr + 1)), .ref (Ax 0)]) (by rw [show ((nI nr) + 1) = nI (nr + 1) from nI_1 nr]) ?_
            refine va_put (D := D.1) (ci := 7) (v := .int (nI (nr + 1))) (ty := .int) (C := RX7) (T := TX7) (N := 14) hx hb hts hinX7 tyX7 tyX7_ok nmX7 hown hK hP hD hS 0 rfl rfl 5 (by decide) (hts (.fieldLink RX7 45 "MountainPostModel" "roads" "I") (List.mem_of_getElem? (i := 2) rfl)) (fun _ h9 => h9) rfl (by decide +kernel) rfl rfl (Nat.le_of_ble_eq_true rfl) dX7_build_104 (fun H locs hP hD hS => ?_)
            have hP : va_P D.1 vwCl ((wMod D Ax 0 ns fog (nr + 1) nm nl (sr Lx 2 (va_cpy (upd (upd (upd z0 (0 : Int32).toNatClampNeg p1) (1 : Int32).toNatClampNeg p2) (2 : Int32).toNatClampNeg p3) (Lx 2) (0 : Int32).toNatClampNeg ((3 : Int32) * nI nr).toNatClampNeg (3 : Int32).toNatClampNeg))) ++ [(q6, .inl (D.2 0, 3, .inl (upd (upd (upd z0 (0 : Int32).toNatClampNeg p1) (1 : Int32).toNatClampNeg p2) (2 : Int32).toNatClampNeg p3)))]) H := hP
            have hD : va_D A0 ((wMod D Ax 0 ns fog (nr + 1) nm nl (sr Lx 2 (va_cpy (upd (upd (upd z0 (0 : Int32).toNatClampNeg p1) (1 : Int32).toNatClampNeg p2) (2 : Int32).toNatClampNeg p3) (Lx 2) (0 : Int32).toNatClampNeg ((3 : Int32) * nI nr).toNatClampNeg (3 : Int32).toNatClampNeg))) ++ [(q6, .inl (D.2 0, 3, .inl (upd (upd (upd z0 (0 : Int32).toNatClampNeg p1) (1 : Int32).toNatClampNeg p2) (2 : Int32).toNatClampNeg p3)))]) := hD
            refine lv_aload_n hx hb dX7_build_107 rfl (lv_at hl 1 rfl) ?_
            refine va_get (D := D.1) (ci := 7) (v := .int (nI (nr + 1))) (C := RX7) (T := TX7) (N := 14) hx hb hts hinX7 hown hK (sP (Sb.l Sb.self) hP) 0 rfl rfl 5 (by decide) (hts (.fieldLink RX7 45 "MountainPostModel" "roads" "I") (List.mem_of_getElem? (i := 2) rfl)) (fun _ h9 => h9) rfl dX7_build_108 ?_
            refine lv_iconst (v := 1) hx hb dX7_build_111 (by decide) ?_
            refine lv_isub hx hb dX7_build_112 ?_
            rw [show ((nI (nr + 1)) - 1) = (nI nr) from nI_pred nr]
            have hP := sP (ws := ((wMod D Ax 0 ns fog (nr + 1) nm nl (sr Lx 2 (va_cpy (upd (upd (upd z0 (0 : Int32).toNatClampNeg p1) (1 : Int32).toNatClampNeg p2) (2 : Int32).toNatClampNeg p3) (Lx 2) (0 : Int32).toNatClampNeg ((3 : Int32) * nI nr).toNatClampNeg (3 : Int32).toNatClampNeg))) ++ [(q6, .inl (D.2 0, 3, .inl (upd (upd (upd z0 (0 : Int32).toNatClampNeg p1) (1 : Int32).toNatClampNeg p2) (2 : Int32).toNatClampNeg p3)))])) (wc := (wMod D Ax 0 ns fog (nr + 1) nm nl (sr Lx 2 (va_cpy (upd (upd (upd z0 (0 : Int32).toNatClampNeg p1) (1 : Int32).toNatClampNeg p2) (2 : Int32).toNatClampNeg p3) (Lx 2) (0 : Int32).toNatClampNeg ((3 : Int32) * nI nr).toNatClampNeg (3 : Int32).toNatClampNeg)))) (Sb.l Sb.self) hP
            refine W.widen (k := 1) (n := 3) (Nat.le_of_ble_eq_true rfl) (Nat.le_of_ble_eq_true rfl) ?_
            exact eWi hx hb hr hlocks dX7_build_113 hS hP (by (rw [pbd, if_pos c1, if_pos c2, if_neg c3, if_pos c4, if_neg c5]; first | done | rw [z2, if_pos (by assumption)] | rw [z2, if_neg (by assumption)] | rfl)) (by (rw [pbd, if_pos c1, if_pos c2, if_neg c3, if_pos c4, if_neg c5]; first | done | rw [z2, if_pos (by assumption)] | rw [z2, if_neg (by assumption)] | rfl))
          · refine lv_aload_n hx hb dX7_build_57 rfl (lv_at hl 0 rfl) ?_
            refine lv_iconst (v := 3) hx hb dX7_build_58 (by decide) ?_
            refine kVw ⟨hx, hb, hml, hown, hts⟩ (c_X7_fail l D Ax 0 ns fog nr nm nl Lx 3) (cwV 1 hts gX7_build_X7_fail rfl rfl rfl (by decide +kernel) ⟨Nat.le_of_ble_eq_true rfl, Nat.le_of_ble_eq_true rfl⟩) hK hN hP hD hS frsMod 7 0 rfl rfl rfl hl.1 (Nat.le_of_ble_eq_true rfl) ⟨Nat.le_of_ble_eq_true rfl, Nat.le_of_ble_eq_true rfl⟩ dX7_build_59 (fun H locs hP hD hS => ?_) rfl
            have hP : va_P D.1 vwCl (wMod D Ax 3 ns fog nr nm nl Lx) H := hP
            have hD : va_D A0 (wMod D Ax 3 ns fog nr nm nl Lx) := hD
            refine W.eq (g2 := F0 m 62 ls [.int 0]) rfl ?_
            refine W.widen (k := 1) (n := 3) (Nat.le_of_ble_eq_true rfl) (Nat.le_of_ble_eq_true rfl) ?_
            exact eWi hx hb hr hlocks dX7_build_62 hS hP (by (rw [pbd, if_pos c1, if_pos c2, if_neg c3, if_pos c4, if_pos c5]; first | done | rw [z2, if_pos (by assumption)] | rw [z2, if_neg (by assumption)] | rfl)) (by (rw [pbd, if_pos c1, if_pos c2, if_neg c3, if_pos c4, if_pos c5]; first | done | rw [z2, if_pos (by assumption)] | rw [z2, if_neg (by assumption)] | rfl))
        · have c4 := z2_0.mp c4
          refine lv_aload_n hx hb dX7_build_42 rfl (lv_at hl 0 rfl) ?_
          refine lv_iconst (v := 2) hx hb dX7_build_43 (by decide) ?_
          refine kVw ⟨hx, hb, hml, hown, hts⟩ (c_X7_fail l D Ax 0 ns fog nr nm nl Lx 2) (cwV 1 hts gX7_build_X7_fail rfl rfl rfl (by decide +kernel) ⟨Nat.le_of_ble_eq_true rfl, Nat.le_of_ble_eq_true rfl⟩) hK hN hP hD hS frsMod 7 0 rfl rfl rfl hl.1 (Nat.le_of_ble_eq_true rfl) ⟨Nat.le_of_ble_eq_true rfl, Nat.le_of_ble_eq_true rfl⟩ dX7_build_44 (fun H locs hP hD hS => ?_) rfl
          have hP : va_P D.1 vwCl (wMod D Ax 2 ns fog nr nm nl Lx) H := hP
          have hD : va_D A0 (wMod D Ax 2 ns fog nr nm nl Lx) := hD
          refine W.eq (g2 := F0 m 47 ls [.int 0]) rfl ?_
          refine W.widen (k := 1) (n := 3) (Nat.le_of_ble_eq_true rfl) (Nat.le_of_ble_eq_true rfl) ?_
          exact eWi hx hb hr hlocks dX7_build_47 hS hP (by (rw [pbd, if_pos c1, if_pos c2, if_neg c3, if_neg c4]; first | done | rw [z2, if_pos (by assumption)] | rw [z2, if_neg (by assumption)] | rfl)) (by (rw [pbd, if_pos c1, if_pos c2, if_neg c3, if_neg c4]; first | done | rw [z2, if_pos (by assumption)] | rw [z2, if_neg (by assumption)] | rfl))
    · have c2 := z2_0.mp c2
      refine lv_aload_n hx hb dX7_build_21 rfl (lv_at hl 0 rfl) ?_
      refine lv_iconst (v := 1) hx hb dX7_build_22 (by decide) ?_
      refine kVw ⟨hx, hb, hml, hown, hts⟩ (c_X7_fail l D Ax 0 ns fog nr nm nl Lx 1) (cwV 1 hts gX7_build_X7_fail rfl rfl rfl (by decide +kernel) ⟨Nat.le_of_ble_eq_true rfl, Nat.le_of_ble_eq_true rfl⟩) hK hN hP hD hS frsMod 7 0 rfl rfl rfl hl.1 (Nat.le_of_ble_eq_true rfl) ⟨Nat.le_of_ble_eq_true rfl, Nat.le_of_ble_eq_true rfl⟩ dX7_build_23 (fun H locs hP hD hS => ?_) rfl
      have hP : va_P D.1 vwCl (wMod D Ax 1 ns fog nr nm nl Lx) H := hP
      have hD : va_D A0 (wMod D Ax 1 ns fog nr nm nl Lx) := hD
      refine W.eq (g2 := F0 m 26 ls [.int 0]) rfl ?_
      refine W.widen (k := 1) (n := 3) (Nat.le_of_ble_eq_true rfl) (Nat.le_of_ble_eq_true rfl) ?_
      exact eWi hx hb hr hlocks dX7_build_26 hS hP (by (rw [pbd, if_pos c1, if_neg c2]; first | done | rw [z2, if_pos (by assumption)] | rw [z2, if_neg (by assumption)] | rfl)) (by (rw [pbd, if_pos c1, if_neg c2]; first | done | rw [z2, if_pos (by assumption)] | rw [z2, if_neg (by assumption)] | rfl))

set_option maxHeartbeats 4000000 in
set_option maxRecDepth 100000 in
theorem c_X7_post (l : Launch) (D : GG) (Ax : Nat → Nat) (th : Int32) (ns : Nat) (fog : Int32) (nr : Nat) (nm : Nat) (nl : Nat) (Lx : Nat → Nat → Int32) (p1 : Int32) (p2 : Int32) (p3 : Int32) (sz : Nat) (b10 : ns ≤ 10) (b15 : nr ≤ 15) (b12 : nm ≤ 12) (b60 : nl ≤ 60) : Met l yX7_post wsX7_post ({ frames := 2, cells := 1, slots := 11, locals := 43 } : Room) (va_Pc [.ref (Ax 0), .int p1, .int p2, .int p3] (wdZ D (wMod D Ax th ns fog nr nm nl Lx) sz)) (QW D (some (.int ((ppo Lx ns nl p1 p2 p3).1))) (wMod D Ax ((ppo Lx ns nl p1 p2 p3).2.1) ns fog nr nm ((ppo Lx ns nl p1 p2 p3).2.2.1) ((ppo Lx ns nl p1 p2 p3).2.2.2)) (ownZ (wMod D Ax th ns fog nr nm nl Lx) sz)) 1 11 (ownZ (wMod D Ax th ns fog nr nm nl Lx) sz) := by
  refine Met.ofW (cc := cX7_post) (maxL := 5) (ret := (some .int)) (by decide) rfl ?_
  intro p e s m args below meth c s₁ B hml hv
  obtain ⟨rfl, hsz, hP, hK, hD, hN⟩ := hv
  have hx := B.exec
  have hb := B.bytes
  have hr := B.returns
  have hts := atoms_spec (ws := wsX7_post) B.pre
  have hown : s.vm.findClass RX7 = some m.cls := findClass_of_methodNamed B.named
  have hlocks := B.notSynchronized
  have hinX7 : ∀ w ∈ u_ws RX7 TX7 14, w ∈ wsX7_post := by decide +kernel
  subst hsz
  have hS : va_S (ownZ (wMod D Ax th ns fog nr nm nl Lx) s.heap.size) s.heap s.heap [] := va_S.rf
  have hD : va_D (ownZ (wMod D Ax th ns fog nr nm nl Lx) s.heap.size) (wMod D Ax th ns fog nr nm nl Lx) := toOwnZ hD
  have hA : ∀ q : Nat, s.heap.size ≤ q → ownZ (wMod D Ax th ns fog nr nm nl Lx) s.heap.size q := fun _ h => Or.inr h
  generalize hAe : ownZ (wMod D Ax th ns fog nr nm nl Lx) s.heap.size = A0 at hD hS hA ⊢
  have hl := lv_entry ([.ref (Ax 0), .int p1, .int p2, .int p3]) (n := 5) (Nat.le_of_ble_eq_true rfl)
  rw [lg_entry_eq]
  generalize (lg_sl ([.ref (Ax 0), .int p1, .int p2, .int p3]) ++ List.replicate (5 - (lg_sl ([.ref (Ax 0), .int p1, .int p2, .int p3])).length) Slot.unset).toArray = ls at hl ⊢
  have hl : lv_has ls 5 [(0, .ref (Ax 0)), (1, .int p1), (2, .int p2), (3, .int p3)] := hl
  refine lv_aload_n hx hb dX7_post_0 rfl (lv_at hl 0 rfl) ?_
  refine lv_iconst (v := 0) hx hb dX7_post_1 (by decide) ?_
  refine va_put (D := D.1) (ci := 7) (v := .int 0) (ty := .int) (C := RX7) (T := TX7) (N := 14) hx hb hts hinX7 tyX7 tyX7_ok nmX7 hown hK hP hD hS 0 rfl rfl 0 (by decide) (hts (.fieldLink RX7 34 "MountainPostModel" "thrown" "I") (List.mem_of_getElem? (i := 1) rfl)) (fun _ h9 => h9) rfl (by decide +kernel) rfl rfl (Nat.le_of_ble_eq_true rfl) dX7_post_2 (fun H locs hP hD hS => ?_)
  have hP : va_P D.1 vwCl (wMod D Ax 0 ns fog nr nm nl Lx) H := hP
  have hD : va_D A0 (wMod D Ax 0 ns fog nr nm nl Lx) := hD
  refine lv_aload_n hx hb dX7_post_5 rfl (lv_at hl 0 rfl) ?_
  refine lv_iload_n hx hb dX7_post_6 rfl (lv_at hl 1 rfl) ?_
  refine kVp ⟨hx, hb, hml, hown, hts⟩ (c_X7_isStation l D Ax 0 ns fog nr nm nl Lx p1) (cwV 1 hts gX7_post_X7_isStation rfl rfl rfl (by decide +kernel) ⟨Nat.le_of_ble_eq_true rfl, Nat.le_of_ble_eq_true rfl⟩) hK hN hP hD Sb.self 7 0 rfl rfl rfl hl.1 (Nat.le_of_ble_eq_true rfl) ⟨Nat.le_of_ble_eq_true rfl, Nat.le_of_ble_eq_true rfl⟩ dX7_post_7 ?_ rfl
  refine lv_if_eq (tgt := 21) hx hb dX7_post_10 (by decide) (fun c1 => ?_) (fun c1 => ?_)
  · have c1 := z2_0.mp c1
    refine lv_aload_n hx hb dX7_post_21 rfl (lv_at hl 0 rfl) ?_
    refine lv_iconst (v := 1) hx hb dX7_post_22 (by decide) ?_
    refine kVw ⟨hx, hb, hml, hown, hts⟩ (c_X7_fail l D Ax 0 ns fog nr nm nl Lx 1) (cwV 1 hts gX7_post_X7_fail rfl rfl rfl (by decide +kernel) ⟨Nat.le_of_ble_eq_true rfl, Nat.le_of_ble_eq_true rfl⟩) hK hN hP hD hS frsMod 7 0 rfl rfl rfl hl.1 (Nat.le_of_ble_eq_true rfl) ⟨Nat.le_of_ble_eq_true rfl, Nat.le_of_ble_eq_true rfl⟩ dX7_post_23 (fun H locs hP hD hS => ?_) rfl
    have hP : va_P D.1 vwCl (wMod D Ax 1 ns fog nr nm nl Lx) H := hP
    have hD : va_D A0 (wMod D Ax 1 ns fog nr nm nl Lx) := hD
    refine W.eq (g2 := F0 m 26 ls [.int 0]) rfl ?_
    refine W.widen (k := 1) (n := 11) (Nat.le_of_ble_eq_true rfl) (Nat.le_of_ble_eq_true rfl) ?_
    exact eWi hx hb hr hlocks dX7_post_26 hS hP (by (rw [ppo, if_neg c1]; first | done | rw [z2, if_pos (by assumption)] | rw [z2, if_neg (by assumption)] | rfl)) (by (rw [ppo, if_neg c1]; first | done | rw [z2, if_pos (by assumption)] | rw [z2, if_neg (by assumption)] | rfl))
  · have c1 := z2_n.mp c1
    refine lv_aload_n hx hb dX7_post_13 rfl (lv_at hl 0 rfl) ?_
    refine lv_iload_n hx hb dX7_post_14 rfl (lv_at hl 2 rfl) ?_
    refine kVp ⟨hx, hb, hml, hown, hts⟩ (c_X7_isStation l D Ax 0 ns fog nr nm nl Lx p2) (cwV 1 hts gX7_post_X7_isStation rfl rfl rfl (by decide +kernel) ⟨Nat.le_of_ble_eq_true rfl, Nat.le_of_ble_eq_true rfl⟩) hK hN hP hD Sb.self 7 0 rfl rfl rfl hl.1 (Nat.le_of_ble_eq_true rfl) ⟨Nat.le_of_ble_eq_true rfl, Nat.le_of_ble_eq_true rfl⟩ dX7_post_15 ?_ rfl
    refine lv_if_ne (tgt := 27) hx hb dX7_post_18 (by decide) (fun c2 => ?_) (fun c2 => ?_)
    · have c2 := z2_n.mp c2
      refine lv_iload_n hx hb dX7_post_27 rfl (lv_at hl 1 rfl) ?_
      refine lv_iload_n hx hb dX7_post_28 rfl (lv_at hl 2 rfl) ?_
      refine lv_icmp_eq (tgt := 42) hx hb dX7_post_29 (by decide) (fun c3 => ?_) (fun c3 => ?_)
      · refine lv_aload_n hx hb dX7_post_42 rfl (lv_at hl 0 rfl) ?_
        refine lv_iconst (v := 2) hx hb dX7_post_43 (by decide) ?_
        refine kVw ⟨hx, hb, hml, hown, hts⟩ (c_X7_fail l D Ax 0 ns fog nr nm nl Lx 2) (cwV 1 hts gX7_post_X7_fail rfl rfl rfl (by decide +kernel) ⟨Nat.le_of_ble_eq_true rfl, Nat.le_of_ble_eq_true rfl⟩) hK hN hP hD hS frsMod 7 0 rfl rfl rfl hl.1 (Nat.le_of_ble_eq_true rfl) ⟨Nat.le_of_ble_eq_true rfl, Nat.le_of_ble_eq_true rfl⟩ dX7_post_44 (fun H locs hP hD hS => ?_) rfl
        have hP : va_P D.1 vwCl (wMod D Ax 2 ns fog nr nm nl Lx) H := hP
        have hD : va_D A0 (wMod D Ax 2 ns fog nr nm nl Lx) := hD
        refine W.eq (g2 := F0 m 47 ls [.int 0]) rfl ?_
        refine W.widen (k := 1) (n := 11) (Nat.le_of_ble_eq_true rfl) (Nat.le_of_ble_eq_true rfl) ?_
        exact eWi hx hb hr hlocks dX7_post_47 hS hP (by (rw [ppo, if_pos c1, if_pos c2, if_pos c3]; first | done | rw [z2, if_pos (by assumption)] | rw [z2, if_neg (by assumption)] | rfl)) (by (rw [ppo, if_pos c1, if_pos c2, if_pos c3]; first | done | rw [z2, if_pos (by assumption)] | rw [z2, if_neg (by assumption)] | rfl))
      · refine lv_iload_n hx hb dX7_post_32 rfl (lv_at hl 3 rfl) ?_
        refine lv_iconst (v := 0) hx hb dX7_post_33 (by decide) ?_
        refine lv_bipush (v := 9) hx hb dX7_post_34 (by decide) ?_
        refine kSp ⟨hx, hb, hml, hown, hts⟩ (c_X7_isIn l D p3 0 9) (va_cwS 3 hts gX7_post_X7_isIn rfl rfl rfl (by decide +kernel) ⟨Nat.le_of_ble_eq_true rfl, Nat.le_of_ble_eq_true rfl⟩) hK hN hP hD Sb.nil  rfl hl.1 (Nat.le_of_ble_eq_true rfl) ⟨Nat.le_of_ble_eq_true rfl, Nat.le_of_ble_eq_true rfl⟩ dX7_post_36 ?_ rfl
        refine lv_if_ne (tgt := 48) hx hb dX7_post_39 (by decide) (fun c4 => ?_) (fun c4 => ?_)
        · have c4 := z2_n.mp c4
          refine lv_aload_n hx hb dX7_post_48 rfl (lv_at hl 0 rfl) ?_
          refine va_get (D := D.1) (ci := 7) (v := .int (nI nl)) (C := RX7) (T := TX7) (N := 14) hx hb hts hinX7 hown hK hP 0 rfl rfl 8 (by decide) (hts (.fieldLink RX7 48 "MountainPostModel" "letters" "I") (List.mem_of_getElem? (i := 2) rfl)) (fun _ h9 => h9) rfl dX7_post_49 ?_
          refine lv_bipush (v := 60) hx hb dX7_post_52 (by decide) ?_
          refine lv_icmp_ne (tgt := 63) hx hb dX7_post_54 (by decide) (fun c5 => ?_) (fun c5 => ?_)
          · refine lv_bipush (v := 11) hx hb dX7_post_63 (by decide) ?_
            refine newaI (D := D) hx hb (hts (.arrayClass .int) (List.mem_of_getElem? (i := 3) rfl)) hK hP hD hS hA (N' := 11) (by decide) (by decide) (by decide) (Nat.le_of_ble_eq_true rfl) (Nat.le_of_ble_eq_true rfl) dX7_post_65 (fun q6 H hP hD hS => ?_)
            have hP : va_P D.1 vwCl ((wMod D Ax 0 ns fog nr nm nl Lx) ++ [(q6, .inl (D.2 0, 11, .inl z0))]) H := hP
            have hD : va_D A0 ((wMod D Ax 0 ns fog nr nm nl Lx) ++ [(q6, .inl (D.2 0, 11, .inl z0))]) := hD
            refine lv_dup hx hb dX7_post_67 rfl ?_
            refine lv_iconst (v := 0) hx hb dX7_post_68 (by decide) ?_
            refine lv_iload_n hx hb dX7_post_69 rfl (lv_at hl 1 rfl) ?_
            refine va_iast (D := D.1) hx hb hK hP hD hS 9 0 rfl rfl (vpl (by decide)) dX7_post_70 (fun H locs hP hD hS => ?_)
            have hP : va_P D.1 vwCl ((wMod D Ax 0 ns fog nr nm nl Lx) ++ [(q6, .inl (D.2 0, 11, .inl (upd z0 (0 : Int32).toNatClampNeg p1)))]) H := hP
            have hD : va_D A0 ((wMod D Ax 0 ns fog nr nm nl Lx) ++ [(q6, .inl (D.2 0, 11, .inl (upd z0 (0 : Int32).toNatClampNeg p1)))]) := hD
            refine lv_dup hx hb dX7_post_71 rfl ?_
            refine lv_iconst (v := 1) hx hb dX7_post_72 (by decide) ?_
            refine lv_iload_n hx hb dX7_post_73 rfl (lv_at hl 2 rfl) ?_
            refine va_iast (D := D.1) hx hb hK hP hD hS 9 0 rfl rfl (vpl (by decide)) dX7_post_74 (fun H locs hP hD hS => ?_)
            have hP : va_P D.1 vwCl ((wMod D Ax 0 ns fog nr nm nl Lx) ++ [(q6, .inl (D.2 0, 11, .inl (upd (upd z0 (0 : Int32).toNatClampNeg p1) (1 : Int32).toNatClampNeg p2)))]) H := hP
            have hD : va_D A0 ((wMod D Ax 0 ns fog nr nm nl Lx) ++ [(q6, .inl (D.2 0, 11, .inl (upd (upd z0 (0 : Int32).toNatClampNeg p1) (1 : Int32).toNatClampNeg p2)))]) := hD
            refine lv_dup hx hb dX7_post_75 rfl ?_
            refine lv_iconst (v := 2) hx hb dX7_post_76 (by decide) ?_
            refine lv_iload_n hx hb dX7_post_77 rfl (lv_at hl 3 rfl) ?_
            refine va_iast (D := D.1) hx hb hK hP hD hS 9 0 rfl rfl (vpl (by decide)) dX7_post_78 (fun H locs hP hD hS => ?_)
            have hP : va_P D.1 vwCl ((wMod D Ax 0 ns fog nr nm nl Lx) ++ [(q6, .inl (D.2 0, 11, .inl (upd (upd (upd z0 (0 : Int32).toNatClampNeg p1) (1 : Int32).toNatClampNeg p2) (2 : Int32).toNatClampNeg p3)))]) H := hP
            have hD : va_D A0 ((wMod D Ax 0 ns fog nr nm nl Lx) ++ [(q6, .inl (D.2 0, 11, .inl (upd (upd (upd z0 (0 : Int32).toNatClampNeg p1) (1 : Int32).toNatClampNeg p2) (2 : Int32).toNatClampNeg p3)))]) := hD
            refine lv_dup hx hb dX7_post_79 rfl ?_
            refine lv_iconst (v := 3) hx hb dX7_post_80 (by decide) ?_
            refine lv_iconst (v := 0) hx hb dX7_post_81 (by decide) ?_
            refine va_iast (D := D.1) hx hb hK hP hD hS 9 0 rfl rfl (vpl (by decide)) dX7_post_82 (fun H locs hP hD hS => ?_)
            have hP : va_P D.1 vwCl ((wMod D Ax 0 ns fog nr nm nl Lx) ++ [(q6, .inl (D.2 0, 11, .inl (upd (upd (upd (upd z0 (0 : Int32).toNatClampNeg p1) (1 : Int32).toNatClampNeg p2) (2 : Int32).toNatClampNeg p3) (3 : Int32).toNatClampNeg 0)))]) H := hP
            have hD : va_D A0 ((wMod D Ax 0 ns fog nr nm nl Lx) ++ [(q6, .inl (D.2 0, 11, .inl (upd (upd (upd (upd z0 (0 : Int32).toNatClampNeg p1) (1 : Int32).toNatClampNeg p2) (2 : Int32).toNatClampNeg p3) (3 : Int32).toNatClampNeg 0)))]) := hD
            refine lv_dup hx hb dX7_post_83 rfl ?_
            refine lv_iconst (v := 4) hx hb dX7_post_84 (by decide) ?_
            refine lv_iload_n hx hb dX7_post_85 rfl (lv_at hl 1 rfl) ?_
            refine va_iast (D := D.1) hx hb hK hP hD hS 9 0 rfl rfl (vpl (by decide)) dX7_post_86 (fun H locs hP hD hS => ?_)
            have hP : va_P D.1 vwCl ((wMod D Ax 0 ns fog nr nm nl Lx) ++ [(q6, .inl (D.2 0, 11, .inl (upd (upd (upd (upd (upd z0 (0 : Int32).toNatClampNeg p1) (1 : Int32).toNatClampNeg p2) (2 : Int32).toNatClampNeg p3) (3 : Int32).toNatClampNeg 0) (4 : Int32).toNatClampNeg p1)))]) H := hP
            have hD : va_D A0 ((wMod D Ax 0 ns fog nr nm nl Lx) ++ [(q6, .inl (D.2 0, 11, .inl (upd (upd (upd (upd (upd z0 (0 : Int32).toNatClampNeg p1) (1 : Int32).toNatClampNeg p2) (2 : Int32).toNatClampNeg p3) (3 : Int32).toNatClampNeg 0) (4 : Int32).toNatClampNeg p1)))]) := hD
            refine lv_dup hx hb dX7_post_87 rfl ?_
            refine lv_iconst (v := 5) hx hb dX7_post_88 (by decide) ?_
            refine lv_iconst (v := (-1)) hx hb dX7_post_89 (by decide) ?_
            refine va_iast (D := D.1) hx hb hK hP hD hS 9 0 rfl rfl (vpl (by decide)) dX7_post_90 (fun H locs hP hD hS => ?_)
            have hP : va_P D.1 vwCl ((wMod D Ax 0 ns fog nr nm nl Lx) ++ [(q6, .inl (D.2 0, 11, .inl (upd (upd (upd (upd (upd (upd z0 (0 : Int32).toNatClampNeg p1) (1 : Int32).toNatClampNeg p2) (2 : Int32).toNatClampNeg p3) (3 : Int32).toNatClampNeg 0) (4 : Int32).toNatClampNeg p1) (5 : Int32).toNatClampNeg (-1))))]) H := hP
            have hD : va_D A0 ((wMod D Ax 0 ns fog nr nm nl Lx) ++ [(q6, .inl (D.2 0, 11, .inl (upd (upd (upd (upd (upd (upd z0 (0 : Int32).toNatClampNeg p1) (1 : Int32).toNatClampNeg p2) (2 : Int32).toNatClampNeg p3) (3 : Int32).toNatClampNeg 0) (4 : Int32).toNatClampNeg p1) (5 : Int32).toNatClampNeg (-1))))]) := hD
            refine lv_dup hx hb dX7_post_91 rfl ?_
            refine lv_bipush (v := 6) hx hb dX7_post_92 (by decide) ?_
            refine lv_iconst (v := 0) hx hb dX7_post_94 (by decide) ?_
            refine va_iast (D := D.1) hx hb hK hP hD hS 9 0 rfl rfl (vpl (by decide)) dX7_post_95 (fun H locs hP hD hS => ?_)
            have hP : va_P D.1 vwCl ((wMod D Ax 0 ns fog nr nm nl Lx) ++ [(q6, .inl (D.2 0, 11, .inl (upd (upd (upd (upd (upd (upd (upd z0 (0 : Int32).toNatClampNeg p1) (1 : Int32).toNatClampNeg p2) (2 : Int32).toNatClampNeg p3) (3 : Int32).toNatClampNeg 0) (4 : Int32).toNatClampNeg p1) (5 : Int32).toNatClampNeg (-1)) (6 : Int32).toNatClampNeg 0)))]) H := hP
            have hD : va_D A0 ((wMod D Ax 0 ns fog nr nm nl Lx) ++ [(q6, .inl (D.2 0, 11, .inl (upd (upd (upd (upd (upd (upd (upd z0 (0 : Int32).toNatClampNeg p1) (1 : Int32).toNatClampNeg p2) (2 : Int32).toNatClampNeg p3) (3 : Int32).toNatClampNeg 0) (4 : Int32).toNatClampNeg p1) (5 : Int32).toNatClampNeg (-1)) (6 : Int32).toNatClampNeg 0)))]) := hD
            refine lv_dup hx hb dX7_post_96 rfl ?_
            refine lv_bipush (v := 7) hx hb dX7_post_97 (by decide) ?_
            refine lv_iconst (v := 0) hx hb dX7_post_99 (by decide) ?_
            refine va_iast (D := D.1) hx hb hK hP hD hS 9 0 rfl rfl (vpl (by decide)) dX7_post_100 (fun H locs hP hD hS => ?_)
            have hP : va_P D.1 vwCl ((wMod D Ax 0 ns fog nr nm nl Lx) ++ [(q6, .inl (D.2 0, 11, .inl (upd (upd (upd (upd (upd (upd (upd (upd z0 (0 : Int32).toNatClampNeg p1) (1 : Int32).toNatClampNeg p2) (2 : Int32).toNatClampNeg p3) (3 : Int32).toNatClampNeg 0) (4 : Int32).toNatClampNeg p1) (5 : Int32).toNatClampNeg (-1)) (6 : Int32).toNatClampNeg 0) (7 : Int32).toNatClampNeg 0)))]) H := hP
            have hD : va_D A0 ((wMod D Ax 0 ns fog nr nm nl Lx) ++ [(q6, .inl (D.2 0, 11, .inl (upd (upd (upd (upd (upd (upd (upd (upd z0 (0 : Int32).toNatClampNeg p1) (1 : Int32).toNatClampNeg p2) (2 : Int32).toNatClampNeg p3) (3 : Int32).toNatClampNeg 0) (4 : Int32).toNatClampNeg p1) (5 : Int32).toNatClampNeg (-1)) (6 : Int32).toNatClampNeg 0) (7 : Int32).toNatClampNeg 0)))]) := hD
            refine lv_dup hx hb dX7_post_101 rfl ?_
            refine lv_bipush (v := 8) hx hb dX7_post_102 (by decide) ?_
            refine lv_aload_n hx hb dX7_post_104 rfl (lv_at hl 0 rfl) ?_
            refine va_get (D := D.1) (ci := 7) (v := .ref (Ax 6)) (C := RX7) (T := TX7) (N := 14) hx hb hts hinX7 hown hK (sP (Sb.l Sb.self) hP) 0 rfl rfl 11 (by decide) (hts (.fieldLink RX7 25 "MountainPostModel" "numbers" "[I") (List.mem_of_getElem? (i := 4) rfl)) (fun _ h9 => h9) rfl dX7_post_105 ?_
            refine lv_iconst (v := 0) hx hb dX7_post_108 (by decide) ?_
            refine va_iald (D := D.1) hx hb hK hP 6 0 rfl rfl (show vp_in (nI 0) 2 from vp_in_nI (by decide) (by decide)) dX7_post_109 ?_
            refine W.eq (g2 := F0 m 110 ls [.int (rg 2 (Lx 5) (0 : Int32)), .int 8, .ref q6, .ref q6]) (congrArg (fun zz : Int32 => F0 m 110 ls [.int zz, .int 8, .ref q6, .ref q6]) (show ((Lx 5) (0 : Int32).toNatClampNeg) = (rg 2 (Lx 5) (0 : Int32)) from (rg_vp (show vp_in (nI 0) 2 from vp_in_nI (by decide) (by decide))).symm)) ?_
            refine va_iast (D := D.1) hx hb hK hP hD hS 9 0 rfl rfl (vpl (by decide)) dX7_post_110 (fun H locs hP hD hS => ?_)
            have hP : va_P D.1 vwCl ((wMod D Ax 0 ns fog nr nm nl Lx) ++ [(q6, .inl (D.2 0, 11, .inl (upd (upd (upd (upd (upd (upd (upd (upd (upd z0 (0 : Int32).toNatClampNeg p1) (1 : Int32).toNatClampNeg p2) (2 : Int32).toNatClampNeg p3) (3 : Int32).toNatClampNeg 0) (4 : Int32).toNatClampNeg p1) (5 : Int32).toNatClampNeg (-1)) (6 : Int32).toNatClampNeg 0) (7 : Int32).toNatClampNeg 0) (8 : Int32).toNatClampNeg (rg 2 (Lx 5) (0 : Int32)))))]) H := hP
            have hD : va_D A0 ((wMod D Ax 0 ns fog nr nm nl Lx) ++ [(q6, .inl (D.2 0, 11, .inl (upd (upd (upd (upd (upd (upd (upd (upd (upd z0 (0 : Int32).toNatClampNeg p1) (1 : Int32).toNatClampNeg p2) (2 : Int32).toNatClampNeg p3) (3 : Int32).toNatClampNeg 0) (4 : Int32).toNatClampNeg p1) (5 : Int32).toNatClampNeg (-1)) (6 : Int32).toNatClampNeg 0) (7 : Int32).toNatClampNeg 0) (8 : Int32).toNatClampNeg (rg 2 (Lx 5) (0 : Int32)))))]) := hD
            refine lv_dup hx hb dX7_post_111 rfl ?_
            refine lv_bipush (v := 9) hx hb dX7_post_112 (by decide) ?_
            refine lv_iconst (v := (-1)) hx hb dX7_post_114 (by decide) ?_
            refine va_iast (D := D.1) hx hb hK hP hD hS 9 0 rfl rfl (vpl (by decide)) dX7_post_115 (fun H locs hP hD hS => ?_)
            have hP : va_P D.1 vwCl ((wMod D Ax 0 ns fog nr nm nl Lx) ++ [(q6, .inl (D.2 0, 11, .inl (upd (upd (upd (upd (upd (upd (upd (upd (upd (upd z0 (0 : Int32).toNatClampNeg p1) (1 : Int32).toNatClampNeg p2) (2 : Int32).toNatClampNeg p3) (3 : Int32).toNatClampNeg 0) (4 : Int32).toNatClampNeg p1) (5 : Int32).toNatClampNeg (-1)) (6 : Int32).toNatClampNeg 0) (7 : Int32).toNatClampNeg 0) (8 : Int32).toNatClampNeg (rg 2 (Lx 5) (0 : Int32))) (9 : Int32).toNatClampNeg (-1))))]) H := hP
            have hD : va_D A0 ((wMod D Ax 0 ns fog nr nm nl Lx) ++ [(q6, .inl (D.2 0, 11, .inl (upd (upd (upd (upd (upd (upd (upd (upd (upd (upd z0 (0 : Int32).toNatClampNeg p1) (1 : Int32).toNatClampNeg p2) (2 : Int32).toNatClampNeg p3) (3 : Int32).toNatClampNeg 0) (4 : Int32).toNatClampNeg p1) (5 : Int32).toNatClampNeg (-1)) (6 : Int32).toNatClampNeg 0) (7 : Int32).toNatClampNeg 0) (8 : Int32).toNatClampNeg (rg 2 (Lx 5) (0 : Int32))) (9 : Int32).toNatClampNeg (-1))))]) := hD
            refine lv_dup hx hb dX7_post_116 rfl ?_
            refine lv_bipush (v := 10) hx hb dX7_post_117 (by decide) ?_
            refine lv_iconst (v := 0) hx hb dX7_post_119 (by decide) ?_
            refine va_iast (D := D.1) hx hb hK hP hD hS 9 0 rfl rfl (vpl (by decide)) dX7_post_120 (fun H locs hP hD hS => ?_)
            have hP : va_P D.1 vwCl ((wMod D Ax 0 ns fog nr nm nl Lx) ++ [(q6, .inl (D.2 0, 11, .inl (upd (upd (upd (upd (upd (upd (upd (upd (upd (upd (upd z0 (0 : Int32).toNatClampNeg p1) (1 : Int32).toNatClampNeg p2) (2 : Int32).toNatClampNeg p3) (3 : Int32).toNatClampNeg 0) (4 : Int32).toNatClampNeg p1) (5 : Int32).toNatClampNeg (-1)) (6 : Int32).toNatClampNeg 0) (7 : Int32).toNatClampNeg 0) (8 : Int32).toNatClampNeg (rg 2 (Lx 5) (0 : Int32))) (9 : Int32).toNatClampNeg (-1)) (10 : Int32).toNatClampNeg 0)))]) H := hP
            have hD : va_D A0 ((wMod D Ax 0 ns fog nr nm nl Lx) ++ [(q6, .inl (D.2 0, 11, .inl (upd (upd (upd (upd (upd (upd (upd (upd (upd (upd (upd z0 (0 : Int32).toNatClampNeg p1) (1 : Int32).toNatClampNeg p2) (2 : Int32).toNatClampNeg p3) (3 : Int32).toNatClampNeg 0) (4 : Int32).toNatClampNeg p1) (5 : Int32).toNatClampNeg (-1)) (6 : Int32).toNatClampNeg 0) (7 : Int32).toNatClampNeg 0) (8 : Int32).toNatClampNeg (rg 2 (Lx 5) (0 : Int32))) (9 : Int32).toNatClampNeg (-1)) (10 : Int32).toNatClampNeg 0)))]) := hD
            refine lv_astore (lv' := [(4, .ref q6), (0, .ref (Ax 0)), (1, .int p1), (2, .int p2), (3, .int p3)]) hx hb dX7_post_121 hl (by decide) rfl (fun ls hl => ?_)
            refine lv_aload hx hb dX7_post_123 (lv_at hl 0 rfl) ?_
            refine lv_iconst (v := 0) hx hb dX7_post_125 (by decide) ?_
            refine lv_aload_n hx hb dX7_post_126 rfl (lv_at hl 1 rfl) ?_
            refine va_get (D := D.1) (ci := 7) (v := .ref (Ax 5)) (C := RX7) (T := TX7) (N := 14) hx hb hts hinX7 hown hK (sP (Sb.l Sb.self) hP) 0 rfl rfl 10 (by decide) (hts (.fieldLink RX7 22 "MountainPostModel" "table" "[I") (List.mem_of_getElem? (i := 5) rfl)) (fun _ h9 => h9) rfl dX7_post_127 ?_
            refine lv_bipush (v := 11) hx hb dX7_post_130 (by decide) ?_
            refine lv_aload_n hx hb dX7_post_132 rfl (lv_at hl 1 rfl) ?_
            refine va_get (D := D.1) (ci := 7) (v := .int (nI nl)) (C := RX7) (T := TX7) (N := 14) hx hb hts hinX7 hown hK (sP (Sb.l Sb.self) hP) 0 rfl rfl 8 (by decide) (hts (.fieldLink RX7 48 "MountainPostModel" "letters" "I") (List.mem_of_getElem? (i := 2) rfl)) (fun _ h9 => h9) rfl dX7_post_133 ?_
            refine lv_imul hx hb dX7_post_136 ?_
            refine lv_bipush (v := 11) hx hb dX7_post_137 (by decide) ?_
            refine va_copyi (D := D.1) hx hb (hml.trans hl.1.symm) hown (hts (.methodLink RX7 67 arraycopyName) (List.mem_of_getElem? (i := 6) rfl)) (hts (.native arraycopyName) (List.mem_of_getElem? (i := 7) rfl)) (hts (.static arraycopyName) (List.mem_of_getElem? (i := 8) rfl)) (hts (.initialized "java/lang/System") (List.mem_of_getElem? (i := 9) rfl)) hK hP hD hS 9 5 0 0 rfl rfl rfl rfl rfl (by decide) (mul_nn (a := 11) (n := nl) (m := 660) (by have : nl ≠ 60 := fun q => c5 (by rw [q]; rfl); omega) (by decide)) (by decide) (by decide) (mul_cl (a := 11) (n := nl) (m := 660) (by have : nl ≠ 60 := fun q => c5 (by rw [q]; rfl); omega) (by decide)) (fun _ _ => rfl) (Nat.le_of_ble_eq_true rfl) (Nat.le_of_ble_eq_true rfl) dX7_post_139 (fun H locs hP hD hS => ?_)
            have hP : va_P D.1 vwCl ((wMod D Ax 0 ns fog nr nm nl (sr Lx 4 (va_cpy (upd (upd (upd (upd (upd (upd (upd (upd (upd (upd (upd z0 (0 : Int32).toNatClampNeg p1) (1 : Int32).toNatClampNeg p2) (2 : Int32).toNatClampNeg p3) (3 : Int32).toNatClampNeg 0) (4 : Int32).toNatClampNeg p1) (5 : Int32).toNatClampNeg (-1)) (6 : Int32).toNatClampNeg 0) (7 : Int32).toNatClampNeg 0) (8 : Int32).toNatClampNeg (rg 2 (Lx 5) (0 : Int32))) (9 : Int32).toNatClampNeg (-1)) (10 : Int32).toNatClampNeg 0) (Lx 4) (0 : Int32).toNatClampNeg ((11 : Int32) * nI nl).toNatClampNeg (11 : Int32).toNatClampNeg))) ++ [(q6, .inl (D.2 0, 11, .inl (upd (upd (upd (upd (upd (upd (upd (upd (upd (upd (upd z0 (0 : Int32).toNatClampNeg p1) (1 : Int32).toNatClampNeg p2) (2 : Int32).toNatClampNeg p3) (3 : Int32).toNatClampNeg 0) (4 : Int32).toNatClampNeg p1) (5 : Int32).toNatClampNeg (-1)) (6 : Int32).toNatClampNeg 0) (7 : Int32).toNatClampNeg 0) (8 : Int32).toNatClampNeg (rg 2 (Lx 5) (0 : Int32))) (9 : Int32).toNatClampNeg (-1)) (10 : Int32).toNatClampNeg 0)))]) H := hP
            have hD : va_D A0 ((wMod D Ax 0 ns fog nr nm nl (sr Lx 4 (va_cpy (upd (upd (upd (upd (upd (upd (upd (upd (upd (upd (upd z0 (0 : Int32).toNatClampNeg p1) (1 : Int32).toNatClampNeg p2) (2 : Int32).toNatClampNeg p3) (3 : Int32).toNatClampNeg 0) (4 : Int32).toNatClampNeg p1) (5 : Int32).toNatClampNeg (-1)) (6 : Int32).toNatClampNeg 0) (7 : Int32).toNatClampNeg 0) (8 : Int32).toNatClampNeg (rg 2 (Lx 5) (0 : Int32))) (9 : Int32).toNatClampNeg (-1)) (10 : Int32).toNatClampNeg 0) (Lx 4) (0 : Int32).toNatClampNeg ((11 : Int32) * nI nl).toNatClampNeg (11 : Int32).toNatClampNeg))) ++ [(q6, .inl (D.2 0, 11, .inl (upd (upd (upd (upd (upd (upd (upd (upd (upd (upd (upd z0 (0 : Int32).toNatClampNeg p1) (1 : Int32).toNatClampNeg p2) (2 : Int32).toNatClampNeg p3) (3 : Int32).toNatClampNeg 0) (4 : Int32).toNatClampNeg p1) (5 : Int32).toNatClampNeg (-1)) (6 : Int32).toNatClampNeg 0) (7 : Int32).toNatClampNeg 0) (8 : Int32).toNatClampNeg (rg 2 (Lx 5) (0 : Int32))) (9 : Int32).toNatClampNeg (-1)) (10 : Int32).toNatClampNeg 0)))]) := hD
            refine lv_aload_n hx hb dX7_post_142 rfl (lv_at hl 1 rfl) ?_
            refine lv_dup hx hb dX7_post_143 rfl ?_
            refine va_get (D := D.1) (ci := 7) (v := .int (nI nl)) (C := RX7) (T := TX7) (N := 14) hx hb hts hinX7 hown hK (sP (Sb.l Sb.self) hP) 0 rfl rfl 8 (by decide) (hts (.fieldLink RX7 48 "MountainPostModel" "letters" "I") (List.mem_of_getElem? (i := 2) rfl)) (fun _ h9 => h9) rfl dX7_post_144 ?_
            refine lv_iconst (v := 1) hx hb dX7_post_147 (by decide) ?_
            refine lv_iadd hx hb dX7_post_148 ?_
            refine W.eq (g2 := F0 m 149 ls [.int (nI (nl + 1)), .ref (Ax 0)]) (by rw [show ((nI nl) + 1) = nI (nl + 1) from nI_1 nl]) ?_
            refine va_put (D := D.1) (ci := 7) (v := .int (nI (nl + 1))) (ty := .int) (C := RX7) (T := TX7) (N := 14) hx hb hts hinX7 tyX7 tyX7_ok nmX7 hown hK hP hD hS 0 rfl rfl 8 (by decide) (hts (.fieldLink RX7 48 "MountainPostModel" "letters" "I") (List.mem_of_getElem? (i := 2) rfl)) (fun _ h9 => h9) rfl (by decide +kernel) rfl rfl (Nat.le_of_ble_eq_true rfl) dX7_post_149 (fun H locs hP hD hS => ?_)
            have hP : va_P D.1 vwCl ((wMod D Ax 0 ns fog nr nm (nl + 1) (sr Lx 4 (va_cpy (upd (upd (upd (upd (upd (upd (upd (upd (upd (upd (upd z0 (0 : Int32).toNatClampNeg p1) (1 : Int32).toNatClampNeg p2) (2 : Int32).toNatClampNeg p3) (3 : Int32).toNatClampNeg 0) (4 : Int32).toNatClampNeg p1) (5 : Int32).toNatClampNeg (-1)) (6 : Int32).toNatClampNeg 0) (7 : Int32).toNatClampNeg 0) (8 : Int32).toNatClampNeg (rg 2 (Lx 5) (0 : Int32))) (9 : Int32).toNatClampNeg (-1)) (10 : Int32).toNatClampNeg 0) (Lx 4) (0 : Int32).toNatClampNeg ((11 : Int32) * nI nl).toNatClampNeg (11 : Int32).toNatClampNeg))) ++ [(q6, .inl (D.2 0, 11, .inl (upd (upd (upd (upd (upd (upd (upd (upd (upd (upd (upd z0 (0 : Int32).toNatClampNeg p1) (1 : Int32).toNatClampNeg p2) (2 : Int32).toNatClampNeg p3) (3 : Int32).toNatClampNeg 0) (4 : Int32).toNatClampNeg p1) (5 : Int32).toNatClampNeg (-1)) (6 : Int32).toNatClampNeg 0) (7 : Int32).toNatClampNeg 0) (8 : Int32).toNatClampNeg (rg 2 (Lx 5) (0 : Int32))) (9 : Int32).toNatClampNeg (-1)) (10 : Int32).toNatClampNeg 0)))]) H := hP
            have hD : va_D A0 ((wMod D Ax 0 ns fog nr nm (nl + 1) (sr Lx 4 (va_cpy (upd (upd (upd (upd (upd (upd (upd (upd (upd (upd (upd z0 (0 : Int32).toNatClampNeg p1) (1 : Int32).toNatClampNeg p2) (2 : Int32).toNatClampNeg p3) (3 : Int32).toNatClampNeg 0) (4 : Int32).toNatClampNeg p1) (5 : Int32).toNatClampNeg (-1)) (6 : Int32).toNatClampNeg 0) (7 : Int32).toNatClampNeg 0) (8 : Int32).toNatClampNeg (rg 2 (Lx 5) (0 : Int32))) (9 : Int32).toNatClampNeg (-1)) (10 : Int32).toNatClampNeg 0) (Lx 4) (0 : Int32).toNatClampNeg ((11 : Int32) * nI nl).toNatClampNeg (11 : Int32).toNatClampNeg))) ++ [(q6, .inl (D.2 0, 11, .inl (upd (upd (upd (upd (upd (upd (upd (upd (upd (upd (upd z0 (0 : Int32).toNatClampNeg p1) (1 : Int32).toNatClampNeg p2) (2 : Int32).toNatClampNeg p3) (3 : Int32).toNatClampNeg 0) (4 : Int32).toNatClampNeg p1) (5 : Int32).toNatClampNeg (-1)) (6 : Int32).toNatClampNeg 0) (7 : Int32).toNatClampNeg 0) (8 : Int32).toNatClampNeg (rg 2 (Lx 5) (0 : Int32))) (9 : Int32).toNatClampNeg (-1)) (10 : Int32).toNatClampNeg 0)))]) := hD
            refine lv_aload_n hx hb dX7_post_152 rfl (lv_at hl 1 rfl) ?_
            refine va_get (D := D.1) (ci := 7) (v := .int (nI (nl + 1))) (C := RX7) (T := TX7) (N := 14) hx hb hts hinX7 hown hK (sP (Sb.l Sb.self) hP) 0 rfl rfl 8 (by decide) (hts (.fieldLink RX7 48 "MountainPostModel" "letters" "I") (List.mem_of_getElem? (i := 2) rfl)) (fun _ h9 => h9) rfl dX7_post_153 ?_
            refine lv_iconst (v := 1) hx hb dX7_post_156 (by decide) ?_
            refine lv_isub hx hb dX7_post_157 ?_
            rw [show ((nI (nl + 1)) - 1) = (nI nl) from nI_pred nl]
            have hP := sP (ws := ((wMod D Ax 0 ns fog nr nm (nl + 1) (sr Lx 4 (va_cpy (upd (upd (upd (upd (upd (upd (upd (upd (upd (upd (upd z0 (0 : Int32).toNatClampNeg p1) (1 : Int32).toNatClampNeg p2) (2 : Int32).toNatClampNeg p3) (3 : Int32).toNatClampNeg 0) (4 : Int32).toNatClampNeg p1) (5 : Int32).toNatClampNeg (-1)) (6 : Int32).toNatClampNeg 0) (7 : Int32).toNatClampNeg 0) (8 : Int32).toNatClampNeg (rg 2 (Lx 5) (0 : Int32))) (9 : Int32).toNatClampNeg (-1)) (10 : Int32).toNatClampNeg 0) (Lx 4) (0 : Int32).toNatClampNeg ((11 : Int32) * nI nl).toNatClampNeg (11 : Int32).toNatClampNeg))) ++ [(q6, .inl (D.2 0, 11, .inl (upd (upd (upd (upd (upd (upd (upd (upd (upd (upd (upd z0 (0 : Int32).toNatClampNeg p1) (1 : Int32).toNatClampNeg p2) (2 : Int32).toNatClampNeg p3) (3 : Int32).toNatClampNeg 0) (4 : Int32).toNatClampNeg p1) (5 : Int32).toNatClampNeg (-1)) (6 : Int32).toNatClampNeg 0) (7 : Int32).toNatClampNeg 0) (8 : Int32).toNatClampNeg (rg 2 (Lx 5) (0 : Int32))) (9 : Int32).toNatClampNeg (-1)) (10 : Int32).toNatClampNeg 0)))])) (wc := (wMod D Ax 0 ns fog nr nm (nl + 1) (sr Lx 4 (va_cpy (upd (upd (upd (upd (upd (upd (upd (upd (upd (upd (upd z0 (0 : Int32).toNatClampNeg p1) (1 : Int32).toNatClampNeg p2) (2 : Int32).toNatClampNeg p3) (3 : Int32).toNatClampNeg 0) (4 : Int32).toNatClampNeg p1) (5 : Int32).toNatClampNeg (-1)) (6 : Int32).toNatClampNeg 0) (7 : Int32).toNatClampNeg 0) (8 : Int32).toNatClampNeg (rg 2 (Lx 5) (0 : Int32))) (9 : Int32).toNatClampNeg (-1)) (10 : Int32).toNatClampNeg 0) (Lx 4) (0 : Int32).toNatClampNeg ((11 : Int32) * nI nl).toNatClampNeg (11 : Int32).toNatClampNeg)))) (Sb.l Sb.self) hP
            refine W.widen (k := 1) (n := 11) (Nat.le_of_ble_eq_true rfl) (Nat.le_of_ble_eq_true rfl) ?_
            exact eWi hx hb hr hlocks dX7_post_158 hS hP (by (rw [ppo, if_pos c1, if_pos c2, if_neg c3, if_pos c4, if_neg c5]; first | done | rw [z2, if_pos (by assumption)] | rw [z2, if_neg (by assumption)] | rfl)) (by (rw [ppo, if_pos c1, if_pos c2, if_neg c3, if_pos c4, if_neg c5]; first | done | rw [z2, if_pos (by assumption)] | rw [z2, if_neg (by assumption)] | rfl))
          · refine lv_aload_n hx hb dX7_post_57 rfl (lv_at hl 0 rfl) ?_
            refine lv_iconst (v := 3) hx hb dX7_post_58 (by decide) ?_
            refine kVw ⟨hx, hb, hml, hown, hts⟩ (c_X7_fail l D Ax 0 ns fog nr nm nl Lx 3) (cwV 1 hts gX7_post_X7_fail rfl rfl rfl (by decide +kernel) ⟨Nat.le_of_ble_eq_true rfl, Nat.le_of_ble_eq_true rfl⟩) hK hN hP hD hS frsMod 7 0 rfl rfl rfl hl.1 (Nat.le_of_ble_eq_true rfl) ⟨Nat.le_of_ble_eq_true rfl, Nat.le_of_ble_eq_true rfl⟩ dX7_post_59 (fun H locs hP hD hS => ?_) rfl
            have hP : va_P D.1 vwCl (wMod D Ax 3 ns fog nr nm nl Lx) H := hP
            have hD : va_D A0 (wMod D Ax 3 ns fog nr nm nl Lx) := hD
            refine W.eq (g2 := F0 m 62 ls [.int 0]) rfl ?_
            refine W.widen (k := 1) (n := 11) (Nat.le_of_ble_eq_true rfl) (Nat.le_of_ble_eq_true rfl) ?_
            exact eWi hx hb hr hlocks dX7_post_62 hS hP (by (rw [ppo, if_pos c1, if_pos c2, if_neg c3, if_pos c4, if_pos c5]; first | done | rw [z2, if_pos (by assumption)] | rw [z2, if_neg (by assumption)] | rfl)) (by (rw [ppo, if_pos c1, if_pos c2, if_neg c3, if_pos c4, if_pos c5]; first | done | rw [z2, if_pos (by assumption)] | rw [z2, if_neg (by assumption)] | rfl))
        · have c4 := z2_0.mp c4
          refine lv_aload_n hx hb dX7_post_42 rfl (lv_at hl 0 rfl) ?_
          refine lv_iconst (v := 2) hx hb dX7_post_43 (by decide) ?_
          refine kVw ⟨hx, hb, hml, hown, hts⟩ (c_X7_fail l D Ax 0 ns fog nr nm nl Lx 2) (cwV 1 hts gX7_post_X7_fail rfl rfl rfl (by decide +kernel) ⟨Nat.le_of_ble_eq_true rfl, Nat.le_of_ble_eq_true rfl⟩) hK hN hP hD hS frsMod 7 0 rfl rfl rfl hl.1 (Nat.le_of_ble_eq_true rfl) ⟨Nat.le_of_ble_eq_true rfl, Nat.le_of_ble_eq_true rfl⟩ dX7_post_44 (fun H locs hP hD hS => ?_) rfl
          have hP : va_P D.1 vwCl (wMod D Ax 2 ns fog nr nm nl Lx) H := hP
          have hD : va_D A0 (wMod D Ax 2 ns fog nr nm nl Lx) := hD
          refine W.eq (g2 := F0 m 47 ls [.int 0]) rfl ?_
          refine W.widen (k := 1) (n := 11) (Nat.le_of_ble_eq_true rfl) (Nat.le_of_ble_eq_true rfl) ?_
          exact eWi hx hb hr hlocks dX7_post_47 hS hP (by (rw [ppo, if_pos c1, if_pos c2, if_neg c3, if_neg c4]; first | done | rw [z2, if_pos (by assumption)] | rw [z2, if_neg (by assumption)] | rfl)) (by (rw [ppo, if_pos c1, if_pos c2, if_neg c3, if_neg c4]; first | done | rw [z2, if_pos (by assumption)] | rw [z2, if_neg (by assumption)] | rfl))
    · have c2 := z2_0.mp c2
      refine lv_aload_n hx hb dX7_post_21 rfl (lv_at hl 0 rfl) ?_
      refine lv_iconst (v := 1) hx hb dX7_post_22 (by decide) ?_
      refine kVw ⟨hx, hb, hml, hown, hts⟩ (c_X7_fail l D Ax 0 ns fog nr nm nl Lx 1) (cwV 1 hts gX7_post_X7_fail rfl rfl rfl (by decide +kernel) ⟨Nat.le_of_ble_eq_true rfl, Nat.le_of_ble_eq_true rfl⟩) hK hN hP hD hS frsMod 7 0 rfl rfl rfl hl.1 (Nat.le_of_ble_eq_true rfl) ⟨Nat.le_of_ble_eq_true rfl, Nat.le_of_ble_eq_true rfl⟩ dX7_post_23 (fun H locs hP hD hS => ?_) rfl
      have hP : va_P D.1 vwCl (wMod D Ax 1 ns fog nr nm nl Lx) H := hP
      have hD : va_D A0 (wMod D Ax 1 ns fog nr nm nl Lx) := hD
      refine W.eq (g2 := F0 m 26 ls [.int 0]) rfl ?_
      refine W.widen (k := 1) (n := 11) (Nat.le_of_ble_eq_true rfl) (Nat.le_of_ble_eq_true rfl) ?_
      exact eWi hx hb hr hlocks dX7_post_26 hS hP (by (rw [ppo, if_pos c1, if_neg c2]; first | done | rw [z2, if_pos (by assumption)] | rw [z2, if_neg (by assumption)] | rfl)) (by (rw [ppo, if_pos c1, if_neg c2]; first | done | rw [z2, if_pos (by assumption)] | rw [z2, if_neg (by assumption)] | rfl))

set_option maxHeartbeats 4000000 in
set_option maxRecDepth 100000 in
theorem c_X7_addMule (l : Launch) (D : GG) (Ax : Nat → Nat) (th : Int32) (ns : Nat) (fog : Int32) (nr : Nat) (nm : Nat) (nl : Nat) (Lx : Nat → Nat → Int32) (p1 : Int32) (p2 : Int32) (p3 : Int32) (sz : Nat) (b10 : ns ≤ 10) (b15 : nr ≤ 15) (b12 : nm ≤ 12) (b60 : nl ≤ 60) : Met l yX7_addMule wsX7_addMule ({ frames := 2, cells := 1, slots := 5, locals := 64 } : Room) (va_Pc [.ref (Ax 0), .int p1, .int p2, .int p3] (wdZ D (wMod D Ax th ns fog nr nm nl Lx) sz)) (QW D (some (.int ((pam Lx nr nm p1 p2 p3).1))) (wMod D Ax ((pam Lx nr nm p1 p2 p3).2.1) ns fog nr ((pam Lx nr nm p1 p2 p3).2.2.1) nl ((pam Lx nr nm p1 p2 p3).2.2.2)) (ownZ (wMod D Ax th ns fog nr nm nl Lx) sz)) 1 5 (ownZ (wMod D Ax th ns fog nr nm nl Lx) sz) := by
  refine Met.ofW (cc := cX7_addMule) (maxL := 4) (ret := (some .int)) (by decide) rfl ?_
  intro p e s m args below meth c s₁ B hml hv
  obtain ⟨rfl, hsz, hP, hK, hD, hN⟩ := hv
  have hx := B.exec
  have hb := B.bytes
  have hr := B.returns
  have hts := atoms_spec (ws := wsX7_addMule) B.pre
  have hown : s.vm.findClass RX7 = some m.cls := findClass_of_methodNamed B.named
  have hlocks := B.notSynchronized
  have hinX7 : ∀ w ∈ u_ws RX7 TX7 14, w ∈ wsX7_addMule := by decide +kernel
  subst hsz
  have hS : va_S (ownZ (wMod D Ax th ns fog nr nm nl Lx) s.heap.size) s.heap s.heap [] := va_S.rf
  have hD : va_D (ownZ (wMod D Ax th ns fog nr nm nl Lx) s.heap.size) (wMod D Ax th ns fog nr nm nl Lx) := toOwnZ hD
  have hA : ∀ q : Nat, s.heap.size ≤ q → ownZ (wMod D Ax th ns fog nr nm nl Lx) s.heap.size q := fun _ h => Or.inr h
  generalize hAe : ownZ (wMod D Ax th ns fog nr nm nl Lx) s.heap.size = A0 at hD hS hA ⊢
  have hl := lv_entry ([.ref (Ax 0), .int p1, .int p2, .int p3]) (n := 4) (Nat.le_of_ble_eq_true rfl)
  rw [lg_entry_eq]
  generalize (lg_sl ([.ref (Ax 0), .int p1, .int p2, .int p3]) ++ List.replicate (4 - (lg_sl ([.ref (Ax 0), .int p1, .int p2, .int p3])).length) Slot.unset).toArray = ls at hl ⊢
  have hl : lv_has ls 4 [(0, .ref (Ax 0)), (1, .int p1), (2, .int p2), (3, .int p3)] := hl
  refine lv_aload_n hx hb dX7_addMule_0 rfl (lv_at hl 0 rfl) ?_
  refine lv_iconst (v := 0) hx hb dX7_addMule_1 (by decide) ?_
  refine va_put (D := D.1) (ci := 7) (v := .int 0) (ty := .int) (C := RX7) (T := TX7) (N := 14) hx hb hts hinX7 tyX7 tyX7_ok nmX7 hown hK hP hD hS 0 rfl rfl 0 (by decide) (hts (.fieldLink RX7 34 "MountainPostModel" "thrown" "I") (List.mem_of_getElem? (i := 1) rfl)) (fun _ h9 => h9) rfl (by decide +kernel) rfl rfl (Nat.le_of_ble_eq_true rfl) dX7_addMule_2 (fun H locs hP hD hS => ?_)
  have hP : va_P D.1 vwCl (wMod D Ax 0 ns fog nr nm nl Lx) H := hP
  have hD : va_D A0 (wMod D Ax 0 ns fog nr nm nl Lx) := hD
  refine lv_aload_n hx hb dX7_addMule_5 rfl (lv_at hl 0 rfl) ?_
  refine lv_iload_n hx hb dX7_addMule_6 rfl (lv_at hl 1 rfl) ?_
  refine kVp ⟨hx, hb, hml, hown, hts⟩ (c_X7_isRoad l D Ax 0 ns fog nr nm nl Lx p1) (cwV 1 hts gX7_addMule_X7_isRoad rfl rfl rfl (by decide +kernel) ⟨Nat.le_of_ble_eq_true rfl, Nat.le_of_ble_eq_true rfl⟩) hK hN hP hD Sb.self 7 0 rfl rfl rfl hl.1 (Nat.le_of_ble_eq_true rfl) ⟨Nat.le_of_ble_eq_true rfl, Nat.le_of_ble_eq_true rfl⟩ dX7_addMule_7 ?_ rfl
  refine lv_if_ne (tgt := 19) hx hb dX7_addMule_10 (by decide) (fun c1 => ?_) (fun c1 => ?_)
  · have c1 := z2_n.mp c1
    refine lv_iload_n hx hb dX7_addMule_19 rfl (lv_at hl 2 rfl) ?_
    refine lv_iconst (v := 1) hx hb dX7_addMule_20 (by decide) ?_
    refine lv_bipush (v := 6) hx hb dX7_addMule_21 (by decide) ?_
    refine kSp ⟨hx, hb, hml, hown, hts⟩ (c_X7_isIn l D p2 1 6) (va_cwS 3 hts gX7_addMule_X7_isIn rfl rfl rfl (by decide +kernel) ⟨Nat.le_of_ble_eq_true rfl, Nat.le_of_ble_eq_true rfl⟩) hK hN hP hD Sb.nil  rfl hl.1 (Nat.le_of_ble_eq_true rfl) ⟨Nat.le_of_ble_eq_true rfl, Nat.le_of_ble_eq_true rfl⟩ dX7_addMule_23 ?_ rfl
    refine lv_if_ne (tgt := 35) hx hb dX7_addMule_26 (by decide) (fun c2 => ?_) (fun c2 => ?_)
    · have c2 := z2_n.mp c2
      refine lv_aload_n hx hb dX7_addMule_35 rfl (lv_at hl 0 rfl) ?_
      refine va_get (D := D.1) (ci := 7) (v := .int (nI nm)) (C := RX7) (T := TX7) (N := 14) hx hb hts hinX7 hown hK hP 0 rfl rfl 7 (by decide) (hts (.fieldLink RX7 73 "MountainPostModel" "mules" "I") (List.mem_of_getElem? (i := 2) rfl)) (fun _ h9 => h9) rfl dX7_addMule_36 ?_
      refine lv_bipush (v := 12) hx hb dX7_addMule_39 (by decide) ?_
      refine lv_icmp_ne (tgt := 50) hx hb dX7_addMule_41 (by decide) (fun c3 => ?_) (fun c3 => ?_)
      · refine lv_aload_n hx hb dX7_addMule_50 rfl (lv_at hl 0 rfl) ?_
        refine lv_iload_n hx hb dX7_addMule_51 rfl (lv_at hl 1 rfl) ?_
        refine lv_iload_n hx hb dX7_addMule_52 rfl (lv_at hl 2 rfl) ?_
        refine lv_aload_n hx hb dX7_addMule_53 rfl (lv_at hl 0 rfl) ?_
        refine lv_iload_n hx hb dX7_addMule_54 rfl (lv_at hl 1 rfl) ?_
        refine lv_iload_n hx hb dX7_addMule_55 rfl (lv_at hl 3 rfl) ?_
        refine lv_if_eq (tgt := 63) hx hb dX7_addMule_56 (by decide) (fun c4 => ?_) (fun c4 => ?_)
        · refine lv_iconst (v := 0) hx hb dX7_addMule_63 (by decide) ?_
          refine kVp ⟨hx, hb, hml, hown, hts⟩ (c_X7_ro l D Ax 0 ns fog nr nm nl Lx p1 0 (ixr (inB_vd (by omega) c1) b15 0 (by decide))) (cwV 2 hts gX7_addMule_X7_ro rfl rfl rfl (by decide +kernel) ⟨Nat.le_of_ble_eq_true rfl, Nat.le_of_ble_eq_true rfl⟩) hK hN hP hD Sb.self 7 0 rfl rfl rfl hl.1 (Nat.le_of_ble_eq_true rfl) ⟨Nat.le_of_ble_eq_true rfl, Nat.le_of_ble_eq_true rfl⟩ dX7_addMule_64 ?_ rfl
          refine kVa ⟨hx, hb, hml, hown, hts⟩ (c_X7_putMule l D Ax 0 ns fog nr nm nl Lx p1 p2 (roM Lx p1 0) _ (by have : nm ≠ 12 := fun q => c3 (by rw [q]; rfl); omega)) (cwV 3 hts gX7_addMule_X7_putMule rfl rfl rfl (by decide +kernel) ⟨Nat.le_of_ble_eq_true rfl, Nat.le_of_ble_eq_true rfl⟩) hK hN hP hD hS hA frsMod 7 0 rfl rfl rfl hl.1 (Nat.le_of_ble_eq_true rfl) ⟨Nat.le_of_ble_eq_true rfl, Nat.le_of_ble_eq_true rfl⟩ dX7_addMule_67 (fun H locs hP hD hS => ?_) rfl
          have hP : va_P D.1 vwCl (wMod D Ax 0 ns fog nr (nm + 1) nl (pmT Lx nm p1 p2 (roM Lx p1 0))) H := hP
          have hD : va_D A0 (wMod D Ax 0 ns fog nr (nm + 1) nl (pmT Lx nm p1 p2 (roM Lx p1 0))) := hD
          refine W.eq (g2 := F0 m 70 ls []) rfl ?_
          refine lv_aload_n hx hb dX7_addMule_70 rfl (lv_at hl 0 rfl) ?_
          refine va_get (D := D.1) (ci := 7) (v := .int (nI (nm + 1))) (C := RX7) (T := TX7) (N := 14) hx hb hts hinX7 hown hK hP 0 rfl rfl 7 (by decide) (hts (.fieldLink RX7 73 "MountainPostModel" "mules" "I") (List.mem_of_getElem? (i := 2) rfl)) (fun _ h9 => h9) rfl dX7_addMule_71 ?_
          refine lv_iconst (v := 1) hx hb dX7_addMule_74 (by decide) ?_
          refine lv_isub hx hb dX7_addMule_75 ?_
          rw [show ((nI (nm + 1)) - 1) = (nI nm) from nI_pred nm]
          refine W.widen (k := 1) (n := 5) (Nat.le_of_ble_eq_true rfl) (Nat.le_of_ble_eq_true rfl) ?_
          exact eWi hx hb hr hlocks dX7_addMule_76 hS hP (by (rw [pam, if_pos c1, if_pos c2, if_neg c3, if_pos c4]; first | done | rw [z2, if_pos (by assumption)] | rw [z2, if_neg (by assumption)] | rfl)) (by (rw [pam, if_pos c1, if_pos c2, if_neg c3, if_pos c4]; first | done | rw [z2, if_pos (by assumption)] | rw [z2, if_neg (by assumption)] | rfl))
        · refine lv_iconst (v := 1) hx hb dX7_addMule_59 (by decide) ?_
          refine lv_goto (tgt := 64) hx hb dX7_addMule_60 (by decide) ?_
          refine kVp ⟨hx, hb, hml, hown, hts⟩ (c_X7_ro l D Ax 0 ns fog nr nm nl Lx p1 1 (ixr (inB_vd (by omega) c1) b15 1 (by decide))) (cwV 2 hts gX7_addMule_X7_ro rfl rfl rfl (by decide +kernel) ⟨Nat.le_of_ble_eq_true rfl, Nat.le_of_ble_eq_true rfl⟩) hK hN hP hD Sb.self 7 0 rfl rfl rfl hl.1 (Nat.le_of_ble_eq_true rfl) ⟨Nat.le_of_ble_eq_true rfl, Nat.le_of_ble_eq_true rfl⟩ dX7_addMule_64 ?_ rfl
          refine kVa ⟨hx, hb, hml, hown, hts⟩ (c_X7_putMule l D Ax 0 ns fog nr nm nl Lx p1 p2 (roM Lx p1 1) _ (by have : nm ≠ 12 := fun q => c3 (by rw [q]; rfl); omega)) (cwV 3 hts gX7_addMule_X7_putMule rfl rfl rfl (by decide +kernel) ⟨Nat.le_of_ble_eq_true rfl, Nat.le_of_ble_eq_true rfl⟩) hK hN hP hD hS hA frsMod 7 0 rfl rfl rfl hl.1 (Nat.le_of_ble_eq_true rfl) ⟨Nat.le_of_ble_eq_true rfl, Nat.le_of_ble_eq_true rfl⟩ dX7_addMule_67 (fun H locs hP hD hS => ?_) rfl
          have hP : va_P D.1 vwCl (wMod D Ax 0 ns fog nr (nm + 1) nl (pmT Lx nm p1 p2 (roM Lx p1 1))) H := hP
          have hD : va_D A0 (wMod D Ax 0 ns fog nr (nm + 1) nl (pmT Lx nm p1 p2 (roM Lx p1 1))) := hD
          refine W.eq (g2 := F0 m 70 ls []) rfl ?_
          refine lv_aload_n hx hb dX7_addMule_70 rfl (lv_at hl 0 rfl) ?_
          refine va_get (D := D.1) (ci := 7) (v := .int (nI (nm + 1))) (C := RX7) (T := TX7) (N := 14) hx hb hts hinX7 hown hK hP 0 rfl rfl 7 (by decide) (hts (.fieldLink RX7 73 "MountainPostModel" "mules" "I") (List.mem_of_getElem? (i := 2) rfl)) (fun _ h9 => h9) rfl dX7_addMule_71 ?_
          refine lv_iconst (v := 1) hx hb dX7_addMule_74 (by decide) ?_
          refine lv_isub hx hb dX7_addMule_75 ?_
          rw [show ((nI (nm + 1)) - 1) = (nI nm) from nI_pred nm]
          refine W.widen (k := 1) (n := 5) (Nat.le_of_ble_eq_true rfl) (Nat.le_of_ble_eq_true rfl) ?_
          exact eWi hx hb hr hlocks dX7_addMule_76 hS hP (by (rw [pam, if_pos c1, if_pos c2, if_neg c3, if_neg c4]; first | done | rw [z2, if_pos (by assumption)] | rw [z2, if_neg (by assumption)] | rfl)) (by (rw [pam, if_pos c1, if_pos c2, if_neg c3, if_neg c4]; first | done | rw [z2, if_pos (by assumption)] | rw [z2, if_neg (by assumption)] | rfl))
      · refine lv_aload_n hx hb dX7_addMule_44 rfl (lv_at hl 0 rfl) ?_
        refine lv_iconst (v := 3) hx hb dX7_addMule_45 (by decide) ?_
        refine kVw ⟨hx, hb, hml, hown, hts⟩ (c_X7_fail l D Ax 0 ns fog nr nm nl Lx 3) (cwV 1 hts gX7_addMule_X7_fail rfl rfl rfl (by decide +kernel) ⟨Nat.le_of_ble_eq_true rfl, Nat.le_of_ble_eq_true rfl⟩) hK hN hP hD hS frsMod 7 0 rfl rfl rfl hl.1 (Nat.le_of_ble_eq_true rfl) ⟨Nat.le_of_ble_eq_true rfl, Nat.le_of_ble_eq_true rfl⟩ dX7_addMule_46 (fun H locs hP hD hS => ?_) rfl
        have hP : va_P D.1 vwCl (wMod D Ax 3 ns fog nr nm nl Lx) H := hP
        have hD : va_D A0 (wMod D Ax 3 ns fog nr nm nl Lx) := hD
        refine W.eq (g2 := F0 m 49 ls [.int 0]) rfl ?_
        refine W.widen (k := 1) (n := 5) (Nat.le_of_ble_eq_true rfl) (Nat.le_of_ble_eq_true rfl) ?_
        exact eWi hx hb hr hlocks dX7_addMule_49 hS hP (by (rw [pam, if_pos c1, if_pos c2, if_pos c3]; first | done | rw [z2, if_pos (by assumption)] | rw [z2, if_neg (by assumption)] | rfl)) (by (rw [pam, if_pos c1, if_pos c2, if_pos c3]; first | done | rw [z2, if_pos (by assumption)] | rw [z2, if_neg (by assumption)] | rfl))
    · have c2 := z2_0.mp c2
      refine lv_aload_n hx hb dX7_addMule_29 rfl (lv_at hl 0 rfl) ?_
      refine lv_iconst (v := 2) hx hb dX7_addMule_30 (by decide) ?_
      refine kVw ⟨hx, hb, hml, hown, hts⟩ (c_X7_fail l D Ax 0 ns fog nr nm nl Lx 2) (cwV 1 hts gX7_addMule_X7_fail rfl rfl rfl (by decide +kernel) ⟨Nat.le_of_ble_eq_true rfl, Nat.le_of_ble_eq_true rfl⟩) hK hN hP hD hS frsMod 7 0 rfl rfl rfl hl.1 (Nat.le_of_ble_eq_true rfl) ⟨Nat.le_of_ble_eq_true rfl, Nat.le_of_ble_eq_true rfl⟩ dX7_addMule_31 (fun H locs hP hD hS => ?_) rfl
      have hP : va_P D.1 vwCl (wMod D Ax 2 ns fog nr nm nl Lx) H := hP
      have hD : va_D A0 (wMod D Ax 2 ns fog nr nm nl Lx) := hD
      refine W.eq (g2 := F0 m 34 ls [.int 0]) rfl ?_
      refine W.widen (k := 1) (n := 5) (Nat.le_of_ble_eq_true rfl) (Nat.le_of_ble_eq_true rfl) ?_
      exact eWi hx hb hr hlocks dX7_addMule_34 hS hP (by (rw [pam, if_pos c1, if_neg c2]; first | done | rw [z2, if_pos (by assumption)] | rw [z2, if_neg (by assumption)] | rfl)) (by (rw [pam, if_pos c1, if_neg c2]; first | done | rw [z2, if_pos (by assumption)] | rw [z2, if_neg (by assumption)] | rfl))
  · have c1 := z2_0.mp c1
    refine lv_aload_n hx hb dX7_addMule_13 rfl (lv_at hl 0 rfl) ?_
    refine lv_iconst (v := 1) hx hb dX7_addMule_14 (by decide) ?_
    refine kVw ⟨hx, hb, hml, hown, hts⟩ (c_X7_fail l D Ax 0 ns fog nr nm nl Lx 1) (cwV 1 hts gX7_addMule_X7_fail rfl rfl rfl (by decide +kernel) ⟨Nat.le_of_ble_eq_true rfl, Nat.le_of_ble_eq_true rfl⟩) hK hN hP hD hS frsMod 7 0 rfl rfl rfl hl.1 (Nat.le_of_ble_eq_true rfl) ⟨Nat.le_of_ble_eq_true rfl, Nat.le_of_ble_eq_true rfl⟩ dX7_addMule_15 (fun H locs hP hD hS => ?_) rfl
    have hP : va_P D.1 vwCl (wMod D Ax 1 ns fog nr nm nl Lx) H := hP
    have hD : va_D A0 (wMod D Ax 1 ns fog nr nm nl Lx) := hD
    refine W.eq (g2 := F0 m 18 ls [.int 0]) rfl ?_
    refine W.widen (k := 1) (n := 5) (Nat.le_of_ble_eq_true rfl) (Nat.le_of_ble_eq_true rfl) ?_
    exact eWi hx hb hr hlocks dX7_addMule_18 hS hP (by (rw [pam, if_neg c1]; first | done | rw [z2, if_pos (by assumption)] | rw [z2, if_neg (by assumption)] | rfl)) (by (rw [pam, if_neg c1]; first | done | rw [z2, if_pos (by assumption)] | rw [z2, if_neg (by assumption)] | rfl))
