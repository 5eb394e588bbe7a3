set_option maxHeartbeats 4000000 in
set_option maxRecDepth 100000 in
theorem c_X1_put (l : Launch) (D : GG) (Ae : Nat → Nat) (ne : Nat) (Le : Nat → Nat → Int32) (p1 : Int32) (p2 : Int32) (p3 : Int32) (p4 : Int32) (he : ne < 2 ^ 31) : Met l yX1_put wsX1_put ({ frames := 2, cells := 0, slots := 0, locals := 45 } : Room) (va_Pc [.ref (Ae 0), .int p1, .int p2, .int p3, .int p4] (wd D (wLet D Ae ne Le))) (QW D (some (.int (nI ne))) (wLet D Ae (ne + 1) (sr (sr (sr (sr (sr (sr (sr (sr (sr (sr (sr Le 0 (rs 60 (Le 0) (nI ne) p1)) 1 (rs 60 (Le 1) (nI ne) p2)) 2 (rs 60 (Le 2) (nI ne) p3)) 3 (rs 60 (Le 3) (nI ne) 0)) 4 (rs 60 (Le 4) (nI ne) p1)) 5 (rs 60 (Le 5) (nI ne) (-1))) 6 (rs 60 (Le 6) (nI ne) 0)) 7 (rs 60 (Le 7) (nI ne) 0)) 8 (rs 60 (Le 8) (nI ne) p4)) 9 (rs 60 (Le 9) (nI ne) (-1))) 10 (pio (rs 60 (Le 2) (nI ne) p3) p3 (nI ne) ne (Le 10)))) (own (wLet D Ae ne Le))) 0 0 (own (wLet D Ae ne Le)) := by
  refine Met.ofW (cc := cX1_put) (maxL := 5) (ret := (some .int)) (by decide) rfl ?_
  intro p e s m args below meth c s₁ B hml hv
  obtain ⟨rfl, hP, hK, hD, hN⟩ := hv
  have hx := B.exec
  have hb := B.bytes
  have hr := B.returns
  have hts := atoms_spec (ws := wsX1_put) B.pre
  have hown : s.vm.findClass RX1 = some m.cls := findClass_of_methodNamed B.named
  have hlocks := B.notSynchronized
  have hinX1 : ∀ w ∈ u_ws RX1 TX1 12, w ∈ wsX1_put := by decide +kernel
  have hS : va_S (own (wLet D Ae ne Le)) s.heap s.heap [] := va_S.rf
  have hD : va_D (own (wLet D Ae ne Le)) (wLet D Ae ne Le) := toOwn hD
  generalize hAe : own (wLet D Ae ne Le) = A0 at hD hS ⊢
  have hl := lv_entry ([.ref (Ae 0), .int p1, .int p2, .int p3, .int p4]) (n := 5) (Nat.le_of_ble_eq_true rfl)
  rw [lg_entry_eq]
  generalize (lg_sl ([.ref (Ae 0), .int p1, .int p2, .int p3, .int p4]) ++ List.replicate (5 - (lg_sl ([.ref (Ae 0), .int p1, .int p2, .int p3, .int p4])).length) Slot.unset).toArray = ls at hl ⊢
  have hl : lv_has ls 5 [(0, .ref (Ae 0)), (1, .int p1), (2, .int p2), (3, .int p3), (4, .int p4)] := hl
  refine lv_aload_n hx hb dX1_put_0 rfl (lv_at hl 0 rfl) ?_
  refine va_get (D := D.1) (ci := 1) (v := .ref (Ae 1)) (C := RX1) (T := TX1) (N := 12) hx hb hts hinX1 hown hK hP 0 rfl rfl 1 (by decide) (hts (.fieldLink RX1 14 "MountainPost$Letters" "froms" "LMountainPost$Row;") (List.mem_of_getElem? (i := 1) rfl)) (fun _ h9 => h9) rfl dX1_put_1 ?_
  refine lv_aload_n hx hb dX1_put_4 rfl (lv_at hl 0 rfl) ?_
  refine va_get (D := D.1) (ci := 1) (v := .int (nI ne)) (C := RX1) (T := TX1) (N := 12) hx hb hts hinX1 hown hK hP 0 rfl rfl 0 (by decide) (hts (.fieldLink RX1 50 "MountainPost$Letters" "number" "I") (List.mem_of_getElem? (i := 2) rfl)) (fun _ h9 => h9) rfl dX1_put_5 ?_
  refine lv_iload_n hx hb dX1_put_8 rfl (lv_at hl 1 rfl) ?_
  refine kVw ⟨hx, hb, hml, hown, hts⟩ (c_X3_set l D (Ae 1) (Ae 12) 60 (Le 0) (nI ne) p1 (by decide)) (cwV 2 hts gX1_put_X3_set rfl rfl rfl (by decide +kernel) ⟨Nat.le_of_ble_eq_true rfl, Nat.le_of_ble_eq_true rfl⟩) hK hN hP hD hS frLet0 3 0 rfl rfl rfl hl.1 (Nat.le_of_ble_eq_true rfl) ⟨Nat.zero_le _, Nat.zero_le _⟩ dX1_put_9 (fun H locs hP hD hS => ?_) rfl
  have hP : va_P D.1 vwCl (wLet D Ae ne (sr Le 0 (rs 60 (Le 0) (nI ne) p1))) H := hP
  have hD : va_D A0 (wLet D Ae ne (sr Le 0 (rs 60 (Le 0) (nI ne) p1))) := hD
  refine W.eq (g2 := F0 m 12 ls []) rfl ?_
  refine lv_aload_n hx hb dX1_put_12 rfl (lv_at hl 0 rfl) ?_
  refine va_get (D := D.1) (ci := 1) (v := .ref (Ae 2)) (C := RX1) (T := TX1) (N := 12) hx hb hts hinX1 hown hK hP 0 rfl rfl 2 (by decide) (hts (.fieldLink RX1 20 "MountainPost$Letters" "tos" "LMountainPost$Row;") (List.mem_of_getElem? (i := 3) rfl)) (fun _ h9 => h9) rfl dX1_put_13 ?_
  refine lv_aload_n hx hb dX1_put_16 rfl (lv_at hl 0 rfl) ?_
  refine va_get (D := D.1) (ci := 1) (v := .int (nI ne)) (C := RX1) (T := TX1) (N := 12) hx hb hts hinX1 hown hK hP 0 rfl rfl 0 (by decide) (hts (.fieldLink RX1 50 "MountainPost$Letters" "number" "I") (List.mem_of_getElem? (i := 2) rfl)) (fun _ h9 => h9) rfl dX1_put_17 ?_
  refine lv_iload_n hx hb dX1_put_20 rfl (lv_at hl 2 rfl) ?_
  refine kVw ⟨hx, hb, hml, hown, hts⟩ (c_X3_set l D (Ae 2) (Ae 13) 60 (Le 1) (nI ne) p2 (by decide)) (cwV 2 hts gX1_put_X3_set rfl rfl rfl (by decide +kernel) ⟨Nat.le_of_ble_eq_true rfl, Nat.le_of_ble_eq_true rfl⟩) hK hN hP hD hS frLet1 3 0 rfl rfl rfl hl.1 (Nat.le_of_ble_eq_true rfl) ⟨Nat.zero_le _, Nat.zero_le _⟩ dX1_put_21 (fun H locs hP hD hS => ?_) rfl
  have hP : va_P D.1 vwCl (wLet D Ae ne (sr (sr Le 0 (rs 60 (Le 0) (nI ne) p1)) 1 (rs 60 (Le 1) (nI ne) p2))) H := hP
  have hD : va_D A0 (wLet D Ae ne (sr (sr Le 0 (rs 60 (Le 0) (nI ne) p1)) 1 (rs 60 (Le 1) (nI ne) p2))) := hD
  refine W.eq (g2 := F0 m 24 ls []) rfl ?_
  refine lv_aload_n hx hb dX1_put_24 rfl (lv_at hl 0 rfl) ?_
  refine va_get (D := D.1) (ci := 1) (v := .ref (Ae 3)) (C := RX1) (T := TX1) (N := 12) hx hb hts hinX1 hown hK hP 0 rfl rfl 3 (by decide) (hts (.fieldLink RX1 23 "MountainPost$Letters" "urgencies" "LMountainPost$Row;") (List.mem_of_getElem? (i := 4) rfl)) (fun _ h9 => h9) rfl dX1_put_25 ?_
  refine lv_aload_n hx hb dX1_put_28 rfl (lv_at hl 0 rfl) ?_
  refine va_get (D := D.1) (ci := 1) (v := .int (nI ne)) (C := RX1) (T := TX1) (N := 12) hx hb hts hinX1 hown hK hP 0 rfl rfl 0 (by decide) (hts (.fieldLink RX1 50 "MountainPost$Letters" "number" "I") (List.mem_of_getElem? (i := 2) rfl)) (fun _ h9 => h9) rfl dX1_put_29 ?_
  refine lv_iload_n hx hb dX1_put_32 rfl (lv_at hl 3 rfl) ?_
  refine kVw ⟨hx, hb, hml, hown, hts⟩ (c_X3_set l D (Ae 3) (Ae 14) 60 (Le 2) (nI ne) p3 (by decide)) (cwV 2 hts gX1_put_X3_set rfl rfl rfl (by decide +kernel) ⟨Nat.le_of_ble_eq_true rfl, Nat.le_of_ble_eq_true rfl⟩) hK hN hP hD hS frLet2 3 0 rfl rfl rfl hl.1 (Nat.le_of_ble_eq_true rfl) ⟨Nat.zero_le _, Nat.zero_le _⟩ dX1_put_33 (fun H locs hP hD hS => ?_) rfl
  have hP : va_P D.1 vwCl (wLet D Ae ne (sr (sr (sr Le 0 (rs 60 (Le 0) (nI ne) p1)) 1 (rs 60 (Le 1) (nI ne) p2)) 2 (rs 60 (Le 2) (nI ne) p3))) H := hP
  have hD : va_D A0 (wLet D Ae ne (sr (sr (sr Le 0 (rs 60 (Le 0) (nI ne) p1)) 1 (rs 60 (Le 1) (nI ne) p2)) 2 (rs 60 (Le 2) (nI ne) p3))) := hD
  refine W.eq (g2 := F0 m 36 ls []) rfl ?_
  refine lv_aload_n hx hb dX1_put_36 rfl (lv_at hl 0 rfl) ?_
  refine va_get (D := D.1) (ci := 1) (v := .ref (Ae 4)) (C := RX1) (T := TX1) (N := 12) hx hb hts hinX1 hown hK hP 0 rfl rfl 4 (by decide) (hts (.fieldLink RX1 26 "MountainPost$Letters" "states" "LMountainPost$Row;") (List.mem_of_getElem? (i := 5) rfl)) (fun _ h9 => h9) rfl dX1_put_37 ?_
  refine lv_aload_n hx hb dX1_put_40 rfl (lv_at hl 0 rfl) ?_
  refine va_get (D := D.1) (ci := 1) (v := .int (nI ne)) (C := RX1) (T := TX1) (N := 12) hx hb hts hinX1 hown hK hP 0 rfl rfl 0 (by decide) (hts (.fieldLink RX1 50 "MountainPost$Letters" "number" "I") (List.mem_of_getElem? (i := 2) rfl)) (fun _ h9 => h9) rfl dX1_put_41 ?_
  refine lv_iconst (v := 0) hx hb dX1_put_44 (by decide) ?_
  refine kVw ⟨hx, hb, hml, hown, hts⟩ (c_X3_set l D (Ae 4) (Ae 15) 60 (Le 3) (nI ne) 0 (by decide)) (cwV 2 hts gX1_put_X3_set rfl rfl rfl (by decide +kernel) ⟨Nat.le_of_ble_eq_true rfl, Nat.le_of_ble_eq_true rfl⟩) hK hN hP hD hS frLet3 3 0 rfl rfl rfl hl.1 (Nat.le_of_ble_eq_true rfl) ⟨Nat.zero_le _, Nat.zero_le _⟩ dX1_put_45 (fun H locs hP hD hS => ?_) rfl
  have hP : va_P D.1 vwCl (wLet D Ae ne (sr (sr (sr (sr Le 0 (rs 60 (Le 0) (nI ne) p1)) 1 (rs 60 (Le 1) (nI ne) p2)) 2 (rs 60 (Le 2) (nI ne) p3)) 3 (rs 60 (Le 3) (nI ne) 0))) H := hP
  have hD : va_D A0 (wLet D Ae ne (sr (sr (sr (sr Le 0 (rs 60 (Le 0) (nI ne) p1)) 1 (rs 60 (Le 1) (nI ne) p2)) 2 (rs 60 (Le 2) (nI ne) p3)) 3 (rs 60 (Le 3) (nI ne) 0))) := hD
  refine W.eq (g2 := F0 m 48 ls []) rfl ?_
  refine lv_aload_n hx hb dX1_put_48 rfl (lv_at hl 0 rfl) ?_
  refine va_get (D := D.1) (ci := 1) (v := .ref (Ae 5)) (C := RX1) (T := TX1) (N := 12) hx hb hts hinX1 hown hK hP 0 rfl rfl 5 (by decide) (hts (.fieldLink RX1 29 "MountainPost$Letters" "places" "LMountainPost$Row;") (List.mem_of_getElem? (i := 6) rfl)) (fun _ h9 => h9) rfl dX1_put_49 ?_
  refine lv_aload_n hx hb dX1_put_52 rfl (lv_at hl 0 rfl) ?_
  refine va_get (D := D.1) (ci := 1) (v := .int (nI ne)) (C := RX1) (T := TX1) (N := 12) hx hb hts hinX1 hown hK hP 0 rfl rfl 0 (by decide) (hts (.fieldLink RX1 50 "MountainPost$Letters" "number" "I") (List.mem_of_getElem? (i := 2) rfl)) (fun _ h9 => h9) rfl dX1_put_53 ?_
  refine lv_iload_n hx hb dX1_put_56 rfl (lv_at hl 1 rfl) ?_
  refine kVw ⟨hx, hb, hml, hown, hts⟩ (c_X3_set l D (Ae 5) (Ae 16) 60 (Le 4) (nI ne) p1 (by decide)) (cwV 2 hts gX1_put_X3_set rfl rfl rfl (by decide +kernel) ⟨Nat.le_of_ble_eq_true rfl, Nat.le_of_ble_eq_true rfl⟩) hK hN hP hD hS frLet4 3 0 rfl rfl rfl hl.1 (Nat.le_of_ble_eq_true rfl) ⟨Nat.zero_le _, Nat.zero_le _⟩ dX1_put_57 (fun H locs hP hD hS => ?_) rfl
  have hP : va_P D.1 vwCl (wLet D Ae ne (sr (sr (sr (sr (sr Le 0 (rs 60 (Le 0) (nI ne) p1)) 1 (rs 60 (Le 1) (nI ne) p2)) 2 (rs 60 (Le 2) (nI ne) p3)) 3 (rs 60 (Le 3) (nI ne) 0)) 4 (rs 60 (Le 4) (nI ne) p1))) H := hP
  have hD : va_D A0 (wLet D Ae ne (sr (sr (sr (sr (sr Le 0 (rs 60 (Le 0) (nI ne) p1)) 1 (rs 60 (Le 1) (nI ne) p2)) 2 (rs 60 (Le 2) (nI ne) p3)) 3 (rs 60 (Le 3) (nI ne) 0)) 4 (rs 60 (Le 4) (nI ne) p1))) := hD
  refine W.eq (g2 := F0 m 60 ls []) rfl ?_
  refine lv_aload_n hx hb dX1_put_60 rfl (lv_at hl 0 rfl) ?_
  refine va_get (D := D.1) (ci := 1) (v := .ref (Ae 6)) (C := RX1) (T := TX1) (N := 12) hx hb hts hinX1 hown hK hP 0 rfl rfl 6 (by decide) (hts (.fieldLink RX1 32 "MountainPost$Letters" "carriers" "LMountainPost$Row;") (List.mem_of_getElem? (i := 7) rfl)) (fun _ h9 => h9) rfl dX1_put_61 ?_
  refine lv_aload_n hx hb dX1_put_64 rfl (lv_at hl 0 rfl) ?_
  refine va_get (D := D.1) (ci := 1) (v := .int (nI ne)) (C := RX1) (T := TX1) (N := 12) hx hb hts hinX1 hown hK hP 0 rfl rfl 0 (by decide) (hts (.fieldLink RX1 50 "MountainPost$Letters" "number" "I") (List.mem_of_getElem? (i := 2) rfl)) (fun _ h9 => h9) rfl dX1_put_65 ?_
  refine lv_iconst (v := (-1)) hx hb dX1_put_68 (by decide) ?_
  refine kVw ⟨hx, hb, hml, hown, hts⟩ (c_X3_set l D (Ae 6) (Ae 17) 60 (Le 5) (nI ne) (-1) (by decide)) (cwV 2 hts gX1_put_X3_set rfl rfl rfl (by decide +kernel) ⟨Nat.le_of_ble_eq_true rfl, Nat.le_of_ble_eq_true rfl⟩) hK hN hP hD hS frLet5 3 0 rfl rfl rfl hl.1 (Nat.le_of_ble_eq_true rfl) ⟨Nat.zero_le _, Nat.zero_le _⟩ dX1_put_69 (fun H locs hP hD hS => ?_) rfl
  have hP : va_P D.1 vwCl (wLet D Ae ne (sr (sr (sr (sr (sr (sr Le 0 (rs 60 (Le 0) (nI ne) p1)) 1 (rs 60 (Le 1) (nI ne) p2)) 2 (rs 60 (Le 2) (nI ne) p3)) 3 (rs 60 (Le 3) (nI ne) 0)) 4 (rs 60 (Le 4) (nI ne) p1)) 5 (rs 60 (Le 5) (nI ne) (-1)))) H := hP
  have hD : va_D A0 (wLet D Ae ne (sr (sr (sr (sr (sr (sr Le 0 (rs 60 (Le 0) (nI ne) p1)) 1 (rs 60 (Le 1) (nI ne) p2)) 2 (rs 60 (Le 2) (nI ne) p3)) 3 (rs 60 (Le 3) (nI ne) 0)) 4 (rs 60 (Le 4) (nI ne) p1)) 5 (rs 60 (Le 5) (nI ne) (-1)))) := hD
  refine W.eq (g2 := F0 m 72 ls []) rfl ?_
  refine lv_aload_n hx hb dX1_put_72 rfl (lv_at hl 0 rfl) ?_
  refine va_get (D := D.1) (ci := 1) (v := .ref (Ae 7)) (C := RX1) (T := TX1) (N := 12) hx hb hts hinX1 hown hK hP 0 rfl rfl 7 (by decide) (hts (.fieldLink RX1 35 "MountainPost$Letters" "knowers" "LMountainPost$Row;") (List.mem_of_getElem? (i := 8) rfl)) (fun _ h9 => h9) rfl dX1_put_73 ?_
  refine lv_aload_n hx hb dX1_put_76 rfl (lv_at hl 0 rfl) ?_
  refine va_get (D := D.1) (ci := 1) (v := .int (nI ne)) (C := RX1) (T := TX1) (N := 12) hx hb hts hinX1 hown hK hP 0 rfl rfl 0 (by decide) (hts (.fieldLink RX1 50 "MountainPost$Letters" "number" "I") (List.mem_of_getElem? (i := 2) rfl)) (fun _ h9 => h9) rfl dX1_put_77 ?_
  refine lv_iconst (v := 0) hx hb dX1_put_80 (by decide) ?_
  refine kVw ⟨hx, hb, hml, hown, hts⟩ (c_X3_set l D (Ae 7) (Ae 18) 60 (Le 6) (nI ne) 0 (by decide)) (cwV 2 hts gX1_put_X3_set rfl rfl rfl (by decide +kernel) ⟨Nat.le_of_ble_eq_true rfl, Nat.le_of_ble_eq_true rfl⟩) hK hN hP hD hS frLet6 3 0 rfl rfl rfl hl.1 (Nat.le_of_ble_eq_true rfl) ⟨Nat.zero_le _, Nat.zero_le _⟩ dX1_put_81 (fun H locs hP hD hS => ?_) rfl
  have hP : va_P D.1 vwCl (wLet D Ae ne (sr (sr (sr (sr (sr (sr (sr Le 0 (rs 60 (Le 0) (nI ne) p1)) 1 (rs 60 (Le 1) (nI ne) p2)) 2 (rs 60 (Le 2) (nI ne) p3)) 3 (rs 60 (Le 3) (nI ne) 0)) 4 (rs 60 (Le 4) (nI ne) p1)) 5 (rs 60 (Le 5) (nI ne) (-1))) 6 (rs 60 (Le 6) (nI ne) 0))) H := hP
  have hD : va_D A0 (wLet D Ae ne (sr (sr (sr (sr (sr (sr (sr Le 0 (rs 60 (Le 0) (nI ne) p1)) 1 (rs 60 (Le 1) (nI ne) p2)) 2 (rs 60 (Le 2) (nI ne) p3)) 3 (rs 60 (Le 3) (nI ne) 0)) 4 (rs 60 (Le 4) (nI ne) p1)) 5 (rs 60 (Le 5) (nI ne) (-1))) 6 (rs 60 (Le 6) (nI ne) 0))) := hD
  refine W.eq (g2 := F0 m 84 ls []) rfl ?_
  refine lv_aload_n hx hb dX1_put_84 rfl (lv_at hl 0 rfl) ?_
  refine va_get (D := D.1) (ci := 1) (v := .ref (Ae 8)) (C := RX1) (T := TX1) (N := 12) hx hb hts hinX1 hown hK hP 0 rfl rfl 8 (by decide) (hts (.fieldLink RX1 38 "MountainPost$Letters" "turned" "LMountainPost$Row;") (List.mem_of_getElem? (i := 9) rfl)) (fun _ h9 => h9) rfl dX1_put_85 ?_
  refine lv_aload_n hx hb dX1_put_88 rfl (lv_at hl 0 rfl) ?_
  refine va_get (D := D.1) (ci := 1) (v := .int (nI ne)) (C := RX1) (T := TX1) (N := 12) hx hb hts hinX1 hown hK hP 0 rfl rfl 0 (by decide) (hts (.fieldLink RX1 50 "MountainPost$Letters" "number" "I") (List.mem_of_getElem? (i := 2) rfl)) (fun _ h9 => h9) rfl dX1_put_89 ?_
  refine lv_iconst (v := 0) hx hb dX1_put_92 (by decide) ?_
  refine kVw ⟨hx, hb, hml, hown, hts⟩ (c_X3_set l D (Ae 8) (Ae 19) 60 (Le 7) (nI ne) 0 (by decide)) (cwV 2 hts gX1_put_X3_set rfl rfl rfl (by decide +kernel) ⟨Nat.le_of_ble_eq_true rfl, Nat.le_of_ble_eq_true rfl⟩) hK hN hP hD hS frLet7 3 0 rfl rfl rfl hl.1 (Nat.le_of_ble_eq_true rfl) ⟨Nat.zero_le _, Nat.zero_le _⟩ dX1_put_93 (fun H locs hP hD hS => ?_) rfl
  have hP : va_P D.1 vwCl (wLet D Ae ne (sr (sr (sr (sr (sr (sr (sr (sr Le 0 (rs 60 (Le 0) (nI ne) p1)) 1 (rs 60 (Le 1) (nI ne) p2)) 2 (rs 60 (Le 2) (nI ne) p3)) 3 (rs 60 (Le 3) (nI ne) 0)) 4 (rs 60 (Le 4) (nI ne) p1)) 5 (rs 60 (Le 5) (nI ne) (-1))) 6 (rs 60 (Le 6) (nI ne) 0)) 7 (rs 60 (Le 7) (nI ne) 0))) H := hP
  have hD : va_D A0 (wLet D Ae ne (sr (sr (sr (sr (sr (sr (sr (sr Le 0 (rs 60 (Le 0) (nI ne) p1)) 1 (rs 60 (Le 1) (nI ne) p2)) 2 (rs 60 (Le 2) (nI ne) p3)) 3 (rs 60 (Le 3) (nI ne) 0)) 4 (rs 60 (Le 4) (nI ne) p1)) 5 (rs 60 (Le 5) (nI ne) (-1))) 6 (rs 60 (Le 6) (nI ne) 0)) 7 (rs 60 (Le 7) (nI ne) 0))) := hD
  refine W.eq (g2 := F0 m 96 ls []) rfl ?_
  refine lv_aload_n hx hb dX1_put_96 rfl (lv_at hl 0 rfl) ?_
  refine va_get (D := D.1) (ci := 1) (v := .ref (Ae 9)) (C := RX1) (T := TX1) (N := 12) hx hb hts hinX1 hown hK hP 0 rfl rfl 9 (by decide) (hts (.fieldLink RX1 41 "MountainPost$Letters" "hoursPosted" "LMountainPost$Row;") (List.mem_of_getElem? (i := 10) rfl)) (fun _ h9 => h9) rfl dX1_put_97 ?_
  refine lv_aload_n hx hb dX1_put_100 rfl (lv_at hl 0 rfl) ?_
  refine va_get (D := D.1) (ci := 1) (v := .int (nI ne)) (C := RX1) (T := TX1) (N := 12) hx hb hts hinX1 hown hK hP 0 rfl rfl 0 (by decide) (hts (.fieldLink RX1 50 "MountainPost$Letters" "number" "I") (List.mem_of_getElem? (i := 2) rfl)) (fun _ h9 => h9) rfl dX1_put_101 ?_
  refine lv_iload hx hb dX1_put_104 (lv_at hl 4 rfl) ?_
  refine kVw ⟨hx, hb, hml, hown, hts⟩ (c_X3_set l D (Ae 9) (Ae 20) 60 (Le 8) (nI ne) p4 (by decide)) (cwV 2 hts gX1_put_X3_set rfl rfl rfl (by decide +kernel) ⟨Nat.le_of_ble_eq_true rfl, Nat.le_of_ble_eq_true rfl⟩) hK hN hP hD hS frLet8 3 0 rfl rfl rfl hl.1 (Nat.le_of_ble_eq_true rfl) ⟨Nat.zero_le _, Nat.zero_le _⟩ dX1_put_106 (fun H locs hP hD hS => ?_) rfl
  have hP : va_P D.1 vwCl (wLet D Ae ne (sr (sr (sr (sr (sr (sr (sr (sr (sr Le 0 (rs 60 (Le 0) (nI ne) p1)) 1 (rs 60 (Le 1) (nI ne) p2)) 2 (rs 60 (Le 2) (nI ne) p3)) 3 (rs 60 (Le 3) (nI ne) 0)) 4 (rs 60 (Le 4) (nI ne) p1)) 5 (rs 60 (Le 5) (nI ne) (-1))) 6 (rs 60 (Le 6) (nI ne) 0)) 7 (rs 60 (Le 7) (nI ne) 0)) 8 (rs 60 (Le 8) (nI ne) p4))) H := hP
  have hD : va_D A0 (wLet D Ae ne (sr (sr (sr (sr (sr (sr (sr (sr (sr Le 0 (rs 60 (Le 0) (nI ne) p1)) 1 (rs 60 (Le 1) (nI ne) p2)) 2 (rs 60 (Le 2) (nI ne) p3)) 3 (rs 60 (Le 3) (nI ne) 0)) 4 (rs 60 (Le 4) (nI ne) p1)) 5 (rs 60 (Le 5) (nI ne) (-1))) 6 (rs 60 (Le 6) (nI ne) 0)) 7 (rs 60 (Le 7) (nI ne) 0)) 8 (rs 60 (Le 8) (nI ne) p4))) := hD
  refine W.eq (g2 := F0 m 109 ls []) rfl ?_
  refine lv_aload_n hx hb dX1_put_109 rfl (lv_at hl 0 rfl) ?_
  refine va_get (D := D.1) (ci := 1) (v := .ref (Ae 10)) (C := RX1) (T := TX1) (N := 12) hx hb hts hinX1 hown hK hP 0 rfl rfl 10 (by decide) (hts (.fieldLink RX1 44 "MountainPost$Letters" "hoursEnded" "LMountainPost$Row;") (List.mem_of_getElem? (i := 11) rfl)) (fun _ h9 => h9) rfl dX1_put_110 ?_
  refine lv_aload_n hx hb dX1_put_113 rfl (lv_at hl 0 rfl) ?_
  refine va_get (D := D.1) (ci := 1) (v := .int (nI ne)) (C := RX1) (T := TX1) (N := 12) hx hb hts hinX1 hown hK hP 0 rfl rfl 0 (by decide) (hts (.fieldLink RX1 50 "MountainPost$Letters" "number" "I") (List.mem_of_getElem? (i := 2) rfl)) (fun _ h9 => h9) rfl dX1_put_114 ?_
  refine lv_iconst (v := (-1)) hx hb dX1_put_117 (by decide) ?_
  refine kVw ⟨hx, hb, hml, hown, hts⟩ (c_X3_set l D (Ae 10) (Ae 21) 60 (Le 9) (nI ne) (-1) (by decide)) (cwV 2 hts gX1_put_X3_set rfl rfl rfl (by decide +kernel) ⟨Nat.le_of_ble_eq_true rfl, Nat.le_of_ble_eq_true rfl⟩) hK hN hP hD hS frLet9 3 0 rfl rfl rfl hl.1 (Nat.le_of_ble_eq_true rfl) ⟨Nat.zero_le _, Nat.zero_le _⟩ dX1_put_118 (fun H locs hP hD hS => ?_) rfl
  have hP : va_P D.1 vwCl (wLet D Ae ne (sr (sr (sr (sr (sr (sr (sr (sr (sr (sr Le 0 (rs 60 (Le 0) (nI ne) p1)) 1 (rs 60 (Le 1) (nI ne) p2)) 2 (rs 60 (Le 2) (nI ne) p3)) 3 (rs 60 (Le 3) (nI ne) 0)) 4 (rs 60 (Le 4) (nI ne) p1)) 5 (rs 60 (Le 5) (nI ne) (-1))) 6 (rs 60 (Le 6) (nI ne) 0)) 7 (rs 60 (Le 7) (nI ne) 0)) 8 (rs 60 (Le 8) (nI ne) p4)) 9 (rs 60 (Le 9) (nI ne) (-1)))) H := hP
  have hD : va_D A0 (wLet D Ae ne (sr (sr (sr (sr (sr (sr (sr (sr (sr (sr Le 0 (rs 60 (Le 0) (nI ne) p1)) 1 (rs 60 (Le 1) (nI ne) p2)) 2 (rs 60 (Le 2) (nI ne) p3)) 3 (rs 60 (Le 3) (nI ne) 0)) 4 (rs 60 (Le 4) (nI ne) p1)) 5 (rs 60 (Le 5) (nI ne) (-1))) 6 (rs 60 (Le 6) (nI ne) 0)) 7 (rs 60 (Le 7) (nI ne) 0)) 8 (rs 60 (Le 8) (nI ne) p4)) 9 (rs 60 (Le 9) (nI ne) (-1)))) := hD
  refine W.eq (g2 := F0 m 121 ls []) rfl ?_
  refine lv_aload_n hx hb dX1_put_121 rfl (lv_at hl 0 rfl) ?_
  refine lv_aload_n hx hb dX1_put_122 rfl (lv_at hl 0 rfl) ?_
  refine va_get (D := D.1) (ci := 1) (v := .int (nI ne)) (C := RX1) (T := TX1) (N := 12) hx hb hts hinX1 hown hK hP 0 rfl rfl 0 (by decide) (hts (.fieldLink RX1 50 "MountainPost$Letters" "number" "I") (List.mem_of_getElem? (i := 2) rfl)) (fun _ h9 => h9) rfl dX1_put_123 ?_
  refine lv_iload_n hx hb dX1_put_126 rfl (lv_at hl 3 rfl) ?_
  refine kVw ⟨hx, hb, hml, hown, hts⟩ (c_X1_putInOrder l D Ae ne (sr (sr (sr (sr (sr (sr (sr (sr (sr (sr Le 0 (rs 60 (Le 0) (nI ne) p1)) 1 (rs 60 (Le 1) (nI ne) p2)) 2 (rs 60 (Le 2) (nI ne) p3)) 3 (rs 60 (Le 3) (nI ne) 0)) 4 (rs 60 (Le 4) (nI ne) p1)) 5 (rs 60 (Le 5) (nI ne) (-1))) 6 (rs 60 (Le 6) (nI ne) 0)) 7 (rs 60 (Le 7) (nI ne) 0)) 8 (rs 60 (Le 8) (nI ne) p4)) 9 (rs 60 (Le 9) (nI ne) (-1))) p3 ne he) (cwV 2 hts gX1_put_X1_putInOrder rfl rfl rfl (by decide +kernel) ⟨Nat.le_of_ble_eq_true rfl, Nat.le_of_ble_eq_true rfl⟩) hK hN hP hD hS frsLet 1 0 rfl rfl rfl hl.1 (Nat.le_of_ble_eq_true rfl) ⟨Nat.zero_le _, Nat.zero_le _⟩ dX1_put_127 (fun H locs hP hD hS => ?_) rfl
  have hP : va_P D.1 vwCl (wLet D Ae ne (sr (sr (sr (sr (sr (sr (sr (sr (sr (sr (sr Le 0 (rs 60 (Le 0) (nI ne) p1)) 1 (rs 60 (Le 1) (nI ne) p2)) 2 (rs 60 (Le 2) (nI ne) p3)) 3 (rs 60 (Le 3) (nI ne) 0)) 4 (rs 60 (Le 4) (nI ne) p1)) 5 (rs 60 (Le 5) (nI ne) (-1))) 6 (rs 60 (Le 6) (nI ne) 0)) 7 (rs 60 (Le 7) (nI ne) 0)) 8 (rs 60 (Le 8) (nI ne) p4)) 9 (rs 60 (Le 9) (nI ne) (-1))) 10 (pio (rs 60 (Le 2) (nI ne) p3) p3 (nI ne) ne (Le 10)))) H := hP
  have hD : va_D A0 (wLet D Ae ne (sr (sr (sr (sr (sr (sr (sr (sr (sr (sr (sr Le 0 (rs 60 (Le 0) (nI ne) p1)) 1 (rs 60 (Le 1) (nI ne) p2)) 2 (rs 60 (Le 2) (nI ne) p3)) 3 (rs 60 (Le 3) (nI ne) 0)) 4 (rs 60 (Le 4) (nI ne) p1)) 5 (rs 60 (Le 5) (nI ne) (-1))) 6 (rs 60 (Le 6) (nI ne) 0)) 7 (rs 60 (Le 7) (nI ne) 0)) 8 (rs 60 (Le 8) (nI ne) p4)) 9 (rs 60 (Le 9) (nI ne) (-1))) 10 (pio (rs 60 (Le 2) (nI ne) p3) p3 (nI ne) ne (Le 10)))) := hD
  refine W.eq (g2 := F0 m 130 ls []) rfl ?_
  refine lv_aload_n hx hb dX1_put_130 rfl (lv_at hl 0 rfl) ?_
  refine lv_dup hx hb dX1_put_131 rfl ?_
  refine va_get (D := D.1) (ci := 1) (v := .int (nI ne)) (C := RX1) (T := TX1) (N := 12) hx hb hts hinX1 hown hK hP 0 rfl rfl 0 (by decide) (hts (.fieldLink RX1 50 "MountainPost$Letters" "number" "I") (List.mem_of_getElem? (i := 2) rfl)) (fun _ h9 => h9) rfl dX1_put_132 ?_
  refine lv_iconst (v := 1) hx hb dX1_put_135 (by decide) ?_
  refine lv_iadd hx hb dX1_put_136 ?_
  refine W.eq (g2 := F0 m 137 ls [.int (nI (ne + 1)), .ref (Ae 0)]) (by rw [show ((nI ne) + 1) = nI (ne + 1) from nI_1 ne]) ?_
  refine va_put (D := D.1) (ci := 1) (v := .int (nI (ne + 1))) (ty := .int) (C := RX1) (T := TX1) (N := 12) hx hb hts hinX1 tyX1 tyX1_ok nmX1 hown hK hP hD hS 0 rfl rfl 0 (by decide) (hts (.fieldLink RX1 50 "MountainPost$Letters" "number" "I") (List.mem_of_getElem? (i := 2) rfl)) (fun _ h9 => h9) rfl (by decide +kernel) rfl rfl (Nat.le_of_ble_eq_true rfl) dX1_put_137 (fun H locs hP hD hS => ?_)
  have hP : va_P D.1 vwCl (wLet D Ae (ne + 1) (sr (sr (sr (sr (sr (sr (sr (sr (sr (sr (sr Le 0 (rs 60 (Le 0) (nI ne) p1)) 1 (rs 60 (Le 1) (nI ne) p2)) 2 (rs 60 (Le 2) (nI ne) p3)) 3 (rs 60 (Le 3) (nI ne) 0)) 4 (rs 60 (Le 4) (nI ne) p1)) 5 (rs 60 (Le 5) (nI ne) (-1))) 6 (rs 60 (Le 6) (nI ne) 0)) 7 (rs 60 (Le 7) (nI ne) 0)) 8 (rs 60 (Le 8) (nI ne) p4)) 9 (rs 60 (Le 9) (nI ne) (-1))) 10 (pio (rs 60 (Le 2) (nI ne) p3) p3 (nI ne) ne (Le 10)))) H := hP
  have hD : va_D A0 (wLet D Ae (ne + 1) (sr (sr (sr (sr (sr (sr (sr (sr (sr (sr (sr Le 0 (rs 60 (Le 0) (nI ne) p1)) 1 (rs 60 (Le 1) (nI ne) p2)) 2 (rs 60 (Le 2) (nI ne) p3)) 3 (rs 60 (Le 3) (nI ne) 0)) 4 (rs 60 (Le 4) (nI ne) p1)) 5 (rs 60 (Le 5) (nI ne) (-1))) 6 (rs 60 (Le 6) (nI ne) 0)) 7 (rs 60 (Le 7) (nI ne) 0)) 8 (rs 60 (Le 8) (nI ne) p4)) 9 (rs 60 (Le 9) (nI ne) (-1))) 10 (pio (rs 60 (Le 2) (nI ne) p3) p3 (nI ne) ne (Le 10)))) := hD
  refine lv_aload_n hx hb dX1_put_140 rfl (lv_at hl 0 rfl) ?_
  refine va_get (D := D.1) (ci := 1) (v := .int (nI (ne + 1))) (C := RX1) (T := TX1) (N := 12) hx hb hts hinX1 hown hK hP 0 rfl rfl 0 (by decide) (hts (.fieldLink RX1 50 "MountainPost$Letters" "number" "I") (List.mem_of_getElem? (i := 2) rfl)) (fun _ h9 => h9) rfl dX1_put_141 ?_
  refine lv_iconst (v := 1) hx hb dX1_put_144 (by decide) ?_
  refine lv_isub hx hb dX1_put_145 ?_
  exact eWi hx hb hr hlocks dX1_put_146 hS hP (by exact nI_pred ne) (by rfl)
