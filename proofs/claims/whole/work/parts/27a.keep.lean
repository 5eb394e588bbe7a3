set_option maxHeartbeats 4000000 in
set_option maxRecDepth 100000 in
theorem c_X7_kept (l : Launch) (D : GG) (Ax : Nat → Nat) (th : Int32) (ns : Nat) (fog : Int32) (nr : Nat) (nm : Nat) (nl : Nat) (Lx : Nat → Nat → Int32) (sz : Nat)  : Met l yX7_kept wsX7_kept ({ frames := 1, cells := 4, slots := 725, locals := 40 } : Room) (va_Pc [.ref (Ax 0)] (wdX D (wMod D Ax th ns fog nr nm nl Lx) sz)) (QX D (fun g => some (.ref (g 0))) (fun g => (wMod D Ax th ns fog nr nm nl Lx) ++ wKep D (g 0) (g 1) (g 2) (g 3) (Lx 3) (Lx 4) (Lx 5)) (ownZ (wMod D Ax th ns fog nr nm nl Lx) sz)) 4 725 (ownZ (wMod D Ax th ns fog nr nm nl Lx) sz) := by
  refine Met.ofW (cc := cX7_kept) (maxL := 1) (ret := (some (.array (.array .int)))) (by decide) rfl ?_
  intro p e s m args below meth c s₁ B hml hv
  obtain ⟨rfl, hNX, hsz, hP, hK, hD, hN⟩ := hv
  have hx := B.exec
  have hb := B.bytes
  have hr := B.returns
  have hts := atoms_spec (ws := wsX7_kept) B.pre
  have hown : s.vm.findClass RX7 = some m.cls := findClass_of_methodNamed B.named
  have hlocks := B.notSynchronized
  have hinX7 : ∀ w ∈ u_ws RX7 TX7 14, w ∈ wsX7_kept := by decide +kernel
  subst hsz
  have hS : va_S (ownZ (wMod D Ax th ns fog nr nm nl Lx) s.heap.size) s.heap s.heap [] := va_S.rf
  have hD : va_D (ownZ (wMod D Ax th ns fog nr nm nl Lx) s.heap.size) (wMod D Ax th ns fog nr nm nl Lx) := toOwnZ hD
  have hA : ∀ q : Nat, s.heap.size ≤ q → ownZ (wMod D Ax th ns fog nr nm nl Lx) s.heap.size q := fun _ h => Or.inr h
  generalize hAe : ownZ (wMod D Ax th ns fog nr nm nl Lx) s.heap.size = A0 at hD hS hA ⊢
  have hl := lv_entry ([.ref (Ax 0)]) (n := 1) (Nat.le_of_ble_eq_true rfl)
  rw [lg_entry_eq]
  generalize (lg_sl ([.ref (Ax 0)]) ++ List.replicate (1 - (lg_sl ([.ref (Ax 0)])).length) Slot.unset).toArray = ls at hl ⊢
  have hl : lv_has ls 1 [(0, .ref (Ax 0))] := hl
  refine lv_iconst (v := 3) hx hb dX7_kept_0 (by decide) ?_
  refine newaA (D := D) hx hb hown (hts (.classLink RX7 177 "[I") (List.mem_of_getElem? (i := 1) rfl)) hNX hK hP hD hS hA (N' := 3) (by decide) (by decide) (by decide) (Nat.le_of_ble_eq_true rfl) (Nat.le_of_ble_eq_true rfl) dX7_kept_1 (fun q1 H hP hD hS => ?_)
  have hP : va_P D.1 vwCl ((wMod D Ax th ns fog nr nm nl Lx) ++ [(q1, aR D 3 (fun _ => none))]) H := hP
  have hD : va_D A0 ((wMod D Ax th ns fog nr nm nl Lx) ++ [(q1, aR D 3 (fun _ => none))]) := hD
  refine lv_dup hx hb dX7_kept_4 rfl ?_
  refine lv_iconst (v := 0) hx hb dX7_kept_5 (by decide) ?_
  refine lv_aload_n hx hb dX7_kept_6 rfl (lv_at hl 0 rfl) ?_
  refine va_get (D := D.1) (ci := 7) (v := .ref (Ax 4)) (C := RX7) (T := TX7) (N := 14) hx hb hts hinX7 hown hK (sP (Sb.l Sb.self) hP) 0 rfl rfl 9 (by decide) (hts (.fieldLink RX7 19 "MountainPostModel" "muleTable" "[I") (List.mem_of_getElem? (i := 2) rfl)) (fun _ h9 => h9) rfl dX7_kept_7 ?_
  refine va_clone (D := D.1) hx hb (hml.trans hl.1.symm) hown (hts (.methodLink RX7 178 ⟨"[I", "clone", "()Ljava/lang/Object;"⟩) (List.mem_of_getElem? (i := 3) rfl)) (hts (.sameMethod "[I" "java/lang/Object" "clone" "()Ljava/lang/Object;") (List.mem_of_getElem? (i := 4) rfl)) (hts (.native ⟨"java/lang/Object", "clone", "()Ljava/lang/Object;"⟩) (List.mem_of_getElem? (i := 5) rfl)) (hts (.instanceMethod ⟨"java/lang/Object", "clone", "()Ljava/lang/Object;"⟩) (List.mem_of_getElem? (i := 6) rfl)) (hts (.selects "[I" ⟨"[I", "clone", "()Ljava/lang/Object;"⟩ ⟨"java/lang/Object", "clone", "()Ljava/lang/Object;"⟩) (List.mem_of_getElem? (i := 7) rfl)) hNX.1 hK hP hD hS hA 4 0 rfl rfl (fcI hK) fitI (Nat.le_of_ble_eq_true rfl) (Nat.le_of_ble_eq_true rfl) (Nat.le_of_ble_eq_true rfl) (Nat.le_of_ble_eq_true rfl) dX7_kept_10 (fun q2 H _ hP hD hS => ?_)
  have hP : va_P D.1 vwCl ((wMod D Ax th ns fog nr nm nl Lx) ++ ([(q1, aR D 3 (fun _ => none))] ++ [(q2, .inl (D.2 0, 60, .inl (Lx 3)))])) H := hP
  have hD : va_D A0 ((wMod D Ax th ns fog nr nm nl Lx) ++ ([(q1, aR D 3 (fun _ => none))] ++ [(q2, .inl (D.2 0, 60, .inl (Lx 3)))])) := hD
  refine va_castA (D := D.1) hx hb hown (hts (.classLink RX7 177 "[I") (List.mem_of_getElem? (i := 1) rfl)) hP 10 rfl (fcI hK) dX7_kept_13 ?_
  refine astA (D := D) hx hb hNX hK hP hD hS 9 10 rfl rfl (i := (0 : Int32)) (vpl (by decide)) dX7_kept_16 (fun H locs hP hD hS => ?_)
  have hP : va_P D.1 vwCl ((wMod D Ax th ns fog nr nm nl Lx) ++ ([(q1, aR D 3 (va_up (fun _ => none) (0 : Int32).toNatClampNeg (some q2)))] ++ [(q2, .inl (D.2 0, 60, .inl (Lx 3)))])) H := hP
  have hD : va_D A0 ((wMod D Ax th ns fog nr nm nl Lx) ++ ([(q1, aR D 3 (va_up (fun _ => none) (0 : Int32).toNatClampNeg (some q2)))] ++ [(q2, .inl (D.2 0, 60, .inl (Lx 3)))])) := hD
  refine lv_dup hx hb dX7_kept_17 rfl ?_
  refine lv_iconst (v := 1) hx hb dX7_kept_18 (by decide) ?_
  refine lv_aload_n hx hb dX7_kept_19 rfl (lv_at hl 0 rfl) ?_
  refine va_get (D := D.1) (ci := 7) (v := .ref (Ax 5)) (C := RX7) (T := TX7) (N := 14) hx hb hts hinX7 hown hK (sP (Sb.l Sb.self) hP) 0 rfl rfl 10 (by decide) (hts (.fieldLink RX7 22 "MountainPostModel" "table" "[I") (List.mem_of_getElem? (i := 8) rfl)) (fun _ h9 => h9) rfl dX7_kept_20 ?_
  refine va_clone (D := D.1) hx hb (hml.trans hl.1.symm) hown (hts (.methodLink RX7 178 ⟨"[I", "clone", "()Ljava/lang/Object;"⟩) (List.mem_of_getElem? (i := 3) rfl)) (hts (.sameMethod "[I" "java/lang/Object" "clone" "()Ljava/lang/Object;") (List.mem_of_getElem? (i := 4) rfl)) (hts (.native ⟨"java/lang/Object", "clone", "()Ljava/lang/Object;"⟩) (List.mem_of_getElem? (i := 5) rfl)) (hts (.instanceMethod ⟨"java/lang/Object", "clone", "()Ljava/lang/Object;"⟩) (List.mem_of_getElem? (i := 6) rfl)) (hts (.selects "[I" ⟨"[I", "clone", "()Ljava/lang/Object;"⟩ ⟨"java/lang/Object", "clone", "()Ljava/lang/Object;"⟩) (List.mem_of_getElem? (i := 7) rfl)) hNX.1 hK hP hD hS hA 5 0 rfl rfl (fcI hK) fitI (Nat.le_of_ble_eq_true rfl) (Nat.le_of_ble_eq_true rfl) (Nat.le_of_ble_eq_true rfl) (Nat.le_of_ble_eq_true rfl) dX7_kept_23 (fun q3 H _ hP hD hS => ?_)
  have hP : va_P D.1 vwCl ((wMod D Ax th ns fog nr nm nl Lx) ++ ([(q1, aR D 3 (va_up (fun _ => none) (0 : Int32).toNatClampNeg (some q2)))] ++ ([(q2, .inl (D.2 0, 60, .inl (Lx 3)))] ++ [(q3, .inl (D.2 0, 660, .inl (Lx 4)))]))) H := hP
  have hD : va_D A0 ((wMod D Ax th ns fog nr nm nl Lx) ++ ([(q1, aR D 3 (va_up (fun _ => none) (0 : Int32).toNatClampNeg (some q2)))] ++ ([(q2, .inl (D.2 0, 60, .inl (Lx 3)))] ++ [(q3, .inl (D.2 0, 660, .inl (Lx 4)))]))) := hD
  refine va_castA (D := D.1) hx hb hown (hts (.classLink RX7 177 "[I") (List.mem_of_getElem? (i := 1) rfl)) hP 11 rfl (fcI hK) dX7_kept_26 ?_
  refine astA (D := D) hx hb hNX hK hP hD hS 9 11 rfl rfl (i := (1 : Int32)) (vpl (by decide)) dX7_kept_29 (fun H locs hP hD hS => ?_)
  have hP : va_P D.1 vwCl ((wMod D Ax th ns fog nr nm nl Lx) ++ ([(q1, aR D 3 (va_up (va_up (fun _ => none) (0 : Int32).toNatClampNeg (some q2)) (1 : Int32).toNatClampNeg (some q3)))] ++ ([(q2, .inl (D.2 0, 60, .inl (Lx 3)))] ++ [(q3, .inl (D.2 0, 660, .inl (Lx 4)))]))) H := hP
  have hD : va_D A0 ((wMod D Ax th ns fog nr nm nl Lx) ++ ([(q1, aR D 3 (va_up (va_up (fun _ => none) (0 : Int32).toNatClampNeg (some q2)) (1 : Int32).toNatClampNeg (some q3)))] ++ ([(q2, .inl (D.2 0, 60, .inl (Lx 3)))] ++ [(q3, .inl (D.2 0, 660, .inl (Lx 4)))]))) := hD
  refine lv_dup hx hb dX7_kept_30 rfl ?_
  refine lv_iconst (v := 2) hx hb dX7_kept_31 (by decide) ?_
  refine lv_aload_n hx hb dX7_kept_32 rfl (lv_at hl 0 rfl) ?_
  refine va_get (D := D.1) (ci := 7) (v := .ref (Ax 6)) (C := RX7) (T := TX7) (N := 14) hx hb hts hinX7 hown hK (sP (Sb.l Sb.self) hP) 0 rfl rfl 11 (by decide) (hts (.fieldLink RX7 25 "MountainPostModel" "numbers" "[I") (List.mem_of_getElem? (i := 9) rfl)) (fun _ h9 => h9) rfl dX7_kept_33 ?_
  refine va_clone (D := D.1) hx hb (hml.trans hl.1.symm) hown (hts (.methodLink RX7 178 ⟨"[I", "clone", "()Ljava/lang/Object;"⟩) (List.mem_of_getElem? (i := 3) rfl)) (hts (.sameMethod "[I" "java/lang/Object" "clone" "()Ljava/lang/Object;") (List.mem_of_getElem? (i := 4) rfl)) (hts (.native ⟨"java/lang/Object", "clone", "()Ljava/lang/Object;"⟩) (List.mem_of_getElem? (i := 5) rfl)) (hts (.instanceMethod ⟨"java/lang/Object", "clone", "()Ljava/lang/Object;"⟩) (List.mem_of_getElem? (i := 6) rfl)) (hts (.selects "[I" ⟨"[I", "clone", "()Ljava/lang/Object;"⟩ ⟨"java/lang/Object", "clone", "()Ljava/lang/Object;"⟩) (List.mem_of_getElem? (i := 7) rfl)) hNX.1 hK hP hD hS hA 6 0 rfl rfl (fcI hK) fitI (Nat.le_of_ble_eq_true rfl) (Nat.le_of_ble_eq_true rfl) (Nat.le_of_ble_eq_true rfl) (Nat.le_of_ble_eq_true rfl) dX7_kept_36 (fun q4 H _ hP hD hS => ?_)
  have hP : va_P D.1 vwCl ((wMod D Ax th ns fog nr nm nl Lx) ++ ([(q1, aR D 3 (va_up (va_up (fun _ => none) (0 : Int32).toNatClampNeg (some q2)) (1 : Int32).toNatClampNeg (some q3)))] ++ ([(q2, .inl (D.2 0, 60, .inl (Lx 3)))] ++ ([(q3, .inl (D.2 0, 660, .inl (Lx 4)))] ++ [(q4, .inl (D.2 0, 2, .inl (Lx 5)))])))) H := hP
  have hD : va_D A0 ((wMod D Ax th ns fog nr nm nl Lx) ++ ([(q1, aR D 3 (va_up (va_up (fun _ => none) (0 : Int32).toNatClampNeg (some q2)) (1 : Int32).toNatClampNeg (some q3)))] ++ ([(q2, .inl (D.2 0, 60, .inl (Lx 3)))] ++ ([(q3, .inl (D.2 0, 660, .inl (Lx 4)))] ++ [(q4, .inl (D.2 0, 2, .inl (Lx 5)))])))) := hD
  refine va_castA (D := D.1) hx hb hown (hts (.classLink RX7 177 "[I") (List.mem_of_getElem? (i := 1) rfl)) hP 12 rfl (fcI hK) dX7_kept_39 ?_
  refine astA (D := D) hx hb hNX hK hP hD hS 9 12 rfl rfl (i := (2 : Int32)) (vpl (by decide)) dX7_kept_42 (fun H locs hP hD hS => ?_)
  have hP : va_P D.1 vwCl ((wMod D Ax th ns fog nr nm nl Lx) ++ ([(q1, aR D 3 (va_up (va_up (va_up (fun _ => none) (0 : Int32).toNatClampNeg (some q2)) (1 : Int32).toNatClampNeg (some q3)) (2 : Int32).toNatClampNeg (some q4)))] ++ ([(q2, .inl (D.2 0, 60, .inl (Lx 3)))] ++ ([(q3, .inl (D.2 0, 660, .inl (Lx 4)))] ++ [(q4, .inl (D.2 0, 2, .inl (Lx 5)))])))) H := hP
  have hD : va_D A0 ((wMod D Ax th ns fog nr nm nl Lx) ++ ([(q1, aR D 3 (va_up (va_up (va_up (fun _ => none) (0 : Int32).toNatClampNeg (some q2)) (1 : Int32).toNatClampNeg (some q3)) (2 : Int32).toNatClampNeg (some q4)))] ++ ([(q2, .inl (D.2 0, 60, .inl (Lx 3)))] ++ ([(q3, .inl (D.2 0, 660, .inl (Lx 4)))] ++ [(q4, .inl (D.2 0, 2, .inl (Lx 5)))])))) := hD
  refine W.widen (k := 4) (n := 725) (Nat.le_of_ble_eq_true rfl) (Nat.le_of_ble_eq_true rfl) ?_
  exact W.aret hx hb hr (Or.inr ⟨_, rfl⟩) (Or.inr ⟨_, rfl⟩) (fun t ht hW => ⟨gl [q1, q2, q3, q4], rfl, by rw [ht]; exact hP, hD, hS.F ht⟩) hS.2.2 dX7_kept_43 hlocks

set_option maxHeartbeats 4000000 in
set_option maxRecDepth 100000 in
theorem c_X7_bringBack (l : Launch) (D : GG) (Ax : Nat → Nat) (th : Int32) (ns : Nat) (fog : Int32) (nr : Nat) (nm : Nat) (nl : Nat) (Lx : Nat → Nat → Int32) (kr : Nat) (ka : Nat) (kb : Nat) (kc : Nat) (fa : Nat → Int32) (fb : Nat → Int32) (fc : Nat → Int32)  : Met l yX7_bringBack wsX7_bringBack ({ frames := 0, cells := 0, slots := 0, locals := 0 } : Room) (va_Pc [.ref (Ax 0), .ref kr] (wd D ((wMod D Ax th ns fog nr nm nl Lx) ++ (wKep D kr ka kb kc fa fb fc)))) (QX D (fun _ => none) (fun _ => (wMod D (bA Ax ka kb kc) th ns fog nr nm nl (sr (sr (sr Lx 3 fa) 4 fb) 5 fc))) (own ((wMod D Ax th ns fog nr nm nl Lx) ++ (wKep D kr ka kb kc fa fb fc)))) 0 0 (own ((wMod D Ax th ns fog nr nm nl Lx) ++ (wKep D kr ka kb kc fa fb fc))) := by
  refine Met.ofW (cc := cX7_bringBack) (maxL := 2) (ret := none) (by decide) rfl ?_
  intro p e s m args below meth c s₁ B hml hv
  obtain ⟨rfl, hP, hK, hD, hN⟩ := hv
  have hx := B.exec
  have hb := B.bytes
  have hr := B.returns
  have hts := atoms_spec (ws := wsX7_bringBack) B.pre
  have hown : s.vm.findClass RX7 = some m.cls := findClass_of_methodNamed B.named
  have hlocks := B.notSynchronized
  have hinX7 : ∀ w ∈ u_ws RX7 TX7 14, w ∈ wsX7_bringBack := by decide +kernel
  have hS : va_S (own ((wMod D Ax th ns fog nr nm nl Lx) ++ (wKep D kr ka kb kc fa fb fc))) s.heap s.heap [] := va_S.rf
  have hD : va_D (own ((wMod D Ax th ns fog nr nm nl Lx) ++ (wKep D kr ka kb kc fa fb fc))) ((wMod D Ax th ns fog nr nm nl Lx) ++ (wKep D kr ka kb kc fa fb fc)) := toOwn hD
  generalize hAe : own ((wMod D Ax th ns fog nr nm nl Lx) ++ (wKep D kr ka kb kc fa fb fc)) = A0 at hD hS ⊢
  have hl := lv_entry ([.ref (Ax 0), .ref kr]) (n := 2) (Nat.le_of_ble_eq_true rfl)
  rw [lg_entry_eq]
  generalize (lg_sl ([.ref (Ax 0), .ref kr]) ++ List.replicate (2 - (lg_sl ([.ref (Ax 0), .ref kr])).length) Slot.unset).toArray = ls at hl ⊢
  have hl : lv_has ls 2 [(0, .ref (Ax 0)), (1, .ref kr)] := hl
  refine lv_aload_n hx hb dX7_bringBack_0 rfl (lv_at hl 0 rfl) ?_
  refine lv_aload_n hx hb dX7_bringBack_1 rfl (lv_at hl 1 rfl) ?_
  refine lv_iconst (v := 0) hx hb dX7_bringBack_2 (by decide) ?_
  refine aldA (D := D) hx hb hK hP 9 rfl (i := (0 : Int32)) (vpl (by decide)) dX7_bringBack_3 ?_
  refine W.eq (g2 := F0 m 4 ls [.ref ka, .ref (Ax 0)]) rfl ?_
  refine va_put (D := D.1) (ci := 7) (v := .ref ka) (ty := .array .int) (C := RX7) (T := TX7) (N := 14) hx hb hts hinX7 tyX7 tyX7_ok nmX7 hown hK hP hD hS 0 rfl rfl 9 (by decide) (hts (.fieldLink RX7 19 "MountainPostModel" "muleTable" "[I") (List.mem_of_getElem? (i := 1) rfl)) (fun _ h9 => h9) rfl (by decide +kernel) rfl rfl (Nat.le_of_ble_eq_true rfl) dX7_bringBack_4 (fun H locs hP hD hS => ?_)
  have hP : va_P D.1 vwCl ([(Ax 0, .inr (7, [.int th, .int (nI ns), .ref (Ax 1), .ref (Ax 2), .int fog, .int (nI nr), .ref (Ax 3), .int (nI nm), .int (nI nl), .ref ka, .ref (Ax 5), .ref (Ax 6), .ref (Ax 7), .ref (Ax 8)])), (Ax 1, .inl (D.2 0, 10, .inl (Lx 0))), (Ax 2, .inl (D.2 0, 10, .inl (Lx 1))), (Ax 3, .inl (D.2 0, 45, .inl (Lx 2))), (Ax 4, .inl (D.2 0, 60, .inl (Lx 3))), (Ax 5, .inl (D.2 0, 660, .inl (Lx 4))), (Ax 6, .inl (D.2 0, 2, .inl (Lx 5))), (Ax 7, .inl (D.2 0, 100, .inl (Lx 6))), (Ax 8, .inl (D.2 0, 100, .inl (Lx 7)))] ++ (wKep D kr ka kb kc fa fb fc)) H := hP
  have hD : va_D A0 ([(Ax 0, .inr (7, [.int th, .int (nI ns), .ref (Ax 1), .ref (Ax 2), .int fog, .int (nI nr), .ref (Ax 3), .int (nI nm), .int (nI nl), .ref ka, .ref (Ax 5), .ref (Ax 6), .ref (Ax 7), .ref (Ax 8)])), (Ax 1, .inl (D.2 0, 10, .inl (Lx 0))), (Ax 2, .inl (D.2 0, 10, .inl (Lx 1))), (Ax 3, .inl (D.2 0, 45, .inl (Lx 2))), (Ax 4, .inl (D.2 0, 60, .inl (Lx 3))), (Ax 5, .inl (D.2 0, 660, .inl (Lx 4))), (Ax 6, .inl (D.2 0, 2, .inl (Lx 5))), (Ax 7, .inl (D.2 0, 100, .inl (Lx 6))), (Ax 8, .inl (D.2 0, 100, .inl (Lx 7)))] ++ (wKep D kr ka kb kc fa fb fc)) := hD
  refine lv_aload_n hx hb dX7_bringBack_7 rfl (lv_at hl 0 rfl) ?_
  refine lv_aload_n hx hb dX7_bringBack_8 rfl (lv_at hl 1 rfl) ?_
  refine lv_iconst (v := 1) hx hb dX7_bringBack_9 (by decide) ?_
  refine aldA (D := D) hx hb hK hP 9 rfl (i := (1 : Int32)) (vpl (by decide)) dX7_bringBack_10 ?_
  refine W.eq (g2 := F0 m 11 ls [.ref kb, .ref (Ax 0)]) rfl ?_
  refine va_put (D := D.1) (ci := 7) (v := .ref kb) (ty := .array .int) (C := RX7) (T := TX7) (N := 14) hx hb hts hinX7 tyX7 tyX7_ok nmX7 hown hK hP hD hS 0 rfl rfl 10 (by decide) (hts (.fieldLink RX7 22 "MountainPostModel" "table" "[I") (List.mem_of_getElem? (i := 2) rfl)) (fun _ h9 => h9) rfl (by decide +kernel) rfl rfl (Nat.le_of_ble_eq_true rfl) dX7_bringBack_11 (fun H locs hP hD hS => ?_)
  have hP : va_P D.1 vwCl ([(Ax 0, .inr (7, [.int th, .int (nI ns), .ref (Ax 1), .ref (Ax 2), .int fog, .int (nI nr), .ref (Ax 3), .int (nI nm), .int (nI nl), .ref ka, .ref kb, .ref (Ax 6), .ref (Ax 7), .ref (Ax 8)])), (Ax 1, .inl (D.2 0, 10, .inl (Lx 0))), (Ax 2, .inl (D.2 0, 10, .inl (Lx 1))), (Ax 3, .inl (D.2 0, 45, .inl (Lx 2))), (Ax 4, .inl (D.2 0, 60, .inl (Lx 3))), (Ax 5, .inl (D.2 0, 660, .inl (Lx 4))), (Ax 6, .inl (D.2 0, 2, .inl (Lx 5))), (Ax 7, .inl (D.2 0, 100, .inl (Lx 6))), (Ax 8, .inl (D.2 0, 100, .inl (Lx 7)))] ++ (wKep D kr ka kb kc fa fb fc)) H := hP
  have hD : va_D A0 ([(Ax 0, .inr (7, [.int th, .int (nI ns), .ref (Ax 1), .ref (Ax 2), .int fog, .int (nI nr), .ref (Ax 3), .int (nI nm), .int (nI nl), .ref ka, .ref kb, .ref (Ax 6), .ref (Ax 7), .ref (Ax 8)])), (Ax 1, .inl (D.2 0, 10, .inl (Lx 0))), (Ax 2, .inl (D.2 0, 10, .inl (Lx 1))), (Ax 3, .inl (D.2 0, 45, .inl (Lx 2))), (Ax 4, .inl (D.2 0, 60, .inl (Lx 3))), (Ax 5, .inl (D.2 0, 660, .inl (Lx 4))), (Ax 6, .inl (D.2 0, 2, .inl (Lx 5))), (Ax 7, .inl (D.2 0, 100, .inl (Lx 6))), (Ax 8, .inl (D.2 0, 100, .inl (Lx 7)))] ++ (wKep D kr ka kb kc fa fb fc)) := hD
  refine lv_aload_n hx hb dX7_bringBack_14 rfl (lv_at hl 0 rfl) ?_
  refine lv_aload_n hx hb dX7_bringBack_15 rfl (lv_at hl 1 rfl) ?_
  refine lv_iconst (v := 2) hx hb dX7_bringBack_16 (by decide) ?_
  refine aldA (D := D) hx hb hK hP 9 rfl (i := (2 : Int32)) (vpl (by decide)) dX7_bringBack_17 ?_
  refine W.eq (g2 := F0 m 18 ls [.ref kc, .ref (Ax 0)]) rfl ?_
  refine va_put (D := D.1) (ci := 7) (v := .ref kc) (ty := .array .int) (C := RX7) (T := TX7) (N := 14) hx hb hts hinX7 tyX7 tyX7_ok nmX7 hown hK hP hD hS 0 rfl rfl 11 (by decide) (hts (.fieldLink RX7 25 "MountainPostModel" "numbers" "[I") (List.mem_of_getElem? (i := 3) rfl)) (fun _ h9 => h9) rfl (by decide +kernel) rfl rfl (Nat.le_of_ble_eq_true rfl) dX7_bringBack_18 (fun H locs hP hD hS => ?_)
  have hP : va_P D.1 vwCl ([(Ax 0, .inr (7, [.int th, .int (nI ns), .ref (Ax 1), .ref (Ax 2), .int fog, .int (nI nr), .ref (Ax 3), .int (nI nm), .int (nI nl), .ref ka, .ref kb, .ref kc, .ref (Ax 7), .ref (Ax 8)])), (Ax 1, .inl (D.2 0, 10, .inl (Lx 0))), (Ax 2, .inl (D.2 0, 10, .inl (Lx 1))), (Ax 3, .inl (D.2 0, 45, .inl (Lx 2))), (Ax 4, .inl (D.2 0, 60, .inl (Lx 3))), (Ax 5, .inl (D.2 0, 660, .inl (Lx 4))), (Ax 6, .inl (D.2 0, 2, .inl (Lx 5))), (Ax 7, .inl (D.2 0, 100, .inl (Lx 6))), (Ax 8, .inl (D.2 0, 100, .inl (Lx 7)))] ++ (wKep D kr ka kb kc fa fb fc)) H := hP
  have hD : va_D A0 ([(Ax 0, .inr (7, [.int th, .int (nI ns), .ref (Ax 1), .ref (Ax 2), .int fog, .int (nI nr), .ref (Ax 3), .int (nI nm), .int (nI nl), .ref ka, .ref kb, .ref kc, .ref (Ax 7), .ref (Ax 8)])), (Ax 1, .inl (D.2 0, 10, .inl (Lx 0))), (Ax 2, .inl (D.2 0, 10, .inl (Lx 1))), (Ax 3, .inl (D.2 0, 45, .inl (Lx 2))), (Ax 4, .inl (D.2 0, 60, .inl (Lx 3))), (Ax 5, .inl (D.2 0, 660, .inl (Lx 4))), (Ax 6, .inl (D.2 0, 2, .inl (Lx 5))), (Ax 7, .inl (D.2 0, 100, .inl (Lx 6))), (Ax 8, .inl (D.2 0, 100, .inl (Lx 7)))] ++ (wKep D kr ka kb kc fa fb fc)) := hD
  have hP := hP.sub (ws' := (wMod D (bA Ax ka kb kc) th ns fog nr nm nl (sr (sr (sr Lx 3 fa) 4 fb) 5 fc))) [0, 1, 2, 3, 10, 11, 12, 7, 8] rfl
  have hD := hD.sub (ws' := (wMod D (bA Ax ka kb kc) th ns fog nr nm nl (sr (sr (sr Lx 3 fa) 4 fb) 5 fc))) [0, 1, 2, 3, 10, 11, 12, 7, 8] (by decide) rfl
  exact W.vret hx hb hr (fun t ht hW => ⟨fun _ => 0, rfl, by rw [ht]; exact hP, hD, hS.F ht⟩) hS.2.2 dX7_bringBack_21 hlocks
