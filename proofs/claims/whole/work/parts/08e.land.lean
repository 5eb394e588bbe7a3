set_option maxHeartbeats 4000000 in
set_option maxRecDepth 100000 in
theorem c_X0_otherEnd (l : Launch) (D : GG) (Ad : Nat → Nat) (nsd : Nat) (fogd : Int32) (nrd : Nat) (Ld : Nat → Nat → Int32) (p1 : Int32) (p2 : Int32)  : Met l yX0_otherEnd wsX0_otherEnd ({ frames := 1, cells := 0, slots := 0, locals := 21 } : Room) (va_Pc [.ref (Ad 0), .int p1, .int p2] (wd D (wLand D Ad nsd fogd nrd Ld))) (RP (.int (othC Ld p1 p2))) 0 0 (fun _ => False) := by
  refine Met.ofW (cc := cX0_otherEnd) (maxL := 4) (ret := (some .int)) (by decide) rfl ?_
  intro p e s m args below meth c s₁ B hml hv
  obtain ⟨rfl, hP, hK, hD, hN⟩ := hv
  have hx := B.exec
  have hb := B.bytes
  have hr := B.returns
  have hts := atoms_spec (ws := wsX0_otherEnd) B.pre
  have hown : s.vm.findClass RX0 = some m.cls := findClass_of_methodNamed B.named
  have hlocks := B.notSynchronized
  have hinX0 : ∀ w ∈ u_ws RX0 TX0 8, w ∈ wsX0_otherEnd := by decide +kernel
  have hl := lv_entry ([.ref (Ad 0), .int p1, .int p2]) (n := 4) (Nat.le_of_ble_eq_true rfl)
  rw [lg_entry_eq]
  generalize (lg_sl ([.ref (Ad 0), .int p1, .int p2]) ++ List.replicate (4 - (lg_sl ([.ref (Ad 0), .int p1, .int p2])).length) Slot.unset).toArray = ls at hl ⊢
  have hl : lv_has ls 4 [(0, .ref (Ad 0)), (1, .int p1), (2, .int p2)] := hl
  refine lv_aload_n hx hb dX0_otherEnd_0 rfl (lv_at hl 0 rfl) ?_
  refine va_get (D := D.1) (ci := 0) (v := .ref (Ad 3)) (C := RX0) (T := TX0) (N := 8) hx hb hts hinX0 hown hK hP 0 rfl rfl 5 (by decide) (hts (.fieldLink RX0 23 "MountainPost$Land" "endsA" "LMountainPost$Row;") (List.mem_of_getElem? (i := 1) rfl)) (fun _ h9 => h9) rfl dX0_otherEnd_1 ?_
  refine lv_iload_n hx hb dX0_otherEnd_4 rfl (lv_at hl 1 rfl) ?_
  refine kVp ⟨hx, hb, hml, hown, hts⟩ (c_X3_get l D (Ad 3) (Ad 8) 15 (Ld 2) p1 (by decide)) (cwV 1 hts gX0_otherEnd_X3_get rfl rfl rfl (by decide +kernel) ⟨Nat.le_of_ble_eq_true rfl, Nat.le_of_ble_eq_true rfl⟩) hK hN hP hD sbLand2 3 0 rfl rfl rfl hl.1 (Nat.le_of_ble_eq_true rfl) ⟨Nat.zero_le _, Nat.zero_le _⟩ dX0_otherEnd_5 ?_ rfl
  refine lv_istore_n (lv' := [(3, .int (rg 15 (Ld 2) p1)), (0, .ref (Ad 0)), (1, .int p1), (2, .int p2)]) hx hb dX0_otherEnd_8 rfl hl (by decide) rfl (fun ls hl => ?_)
  refine lv_iload_n hx hb dX0_otherEnd_9 rfl (lv_at hl 3 rfl) ?_
  refine lv_iload_n hx hb dX0_otherEnd_10 rfl (lv_at hl 0 rfl) ?_
  refine lv_icmp_ne (tgt := 25) hx hb dX0_otherEnd_11 (by decide) (fun c1 => ?_) (fun c1 => ?_)
  · refine lv_iload_n hx hb dX0_otherEnd_25 rfl (lv_at hl 0 rfl) ?_
    exact eI hx hb hr hlocks dX0_otherEnd_26 (by simp [othC, c1])
  · refine lv_aload_n hx hb dX0_otherEnd_14 rfl (lv_at hl 1 rfl) ?_
    refine va_get (D := D.1) (ci := 0) (v := .ref (Ad 4)) (C := RX0) (T := TX0) (N := 8) hx hb hts hinX0 hown hK hP 0 rfl rfl 6 (by decide) (hts (.fieldLink RX0 26 "MountainPost$Land" "endsB" "LMountainPost$Row;") (List.mem_of_getElem? (i := 2) rfl)) (fun _ h9 => h9) rfl dX0_otherEnd_15 ?_
    refine lv_iload_n hx hb dX0_otherEnd_18 rfl (lv_at hl 2 rfl) ?_
    refine kVp ⟨hx, hb, hml, hown, hts⟩ (c_X3_get l D (Ad 4) (Ad 9) 15 (Ld 3) p1 (by decide)) (cwV 1 hts gX0_otherEnd_X3_get rfl rfl rfl (by decide +kernel) ⟨Nat.le_of_ble_eq_true rfl, Nat.le_of_ble_eq_true rfl⟩) hK hN hP hD sbLand3 3 0 rfl rfl rfl hl.1 (Nat.le_of_ble_eq_true rfl) ⟨Nat.zero_le _, Nat.zero_le _⟩ dX0_otherEnd_19 ?_ rfl
    refine lv_goto (tgt := 26) hx hb dX0_otherEnd_22 (by decide) ?_
    exact eI hx hb hr hlocks dX0_otherEnd_26 (by simp [othC, c1])

set_option maxHeartbeats 4000000 in
set_option maxRecDepth 100000 in
theorem c_X0_hoursBetween (l : Launch) (D : GG) (Ad : Nat → Nat) (nsd : Nat) (fogd : Int32) (nrd : Nat) (Ld : Nat → Nat → Int32) (p1 : Int32) (p2 : Int32) (p3 : Int32)  : Met l yX0_hoursBetween wsX0_hoursBetween ({ frames := 1, cells := 0, slots := 0, locals := 21 } : Room) (va_Pc [.ref (Ad 0), .int p1, .int p2, .int p3] (wd D (wLand D Ad nsd fogd nrd Ld))) (RP (.int (hrsC Ld p1 p2 p3))) 0 0 (fun _ => False) := by
  refine Met.ofW (cc := cX0_hoursBetween) (maxL := 5) (ret := (some .int)) (by decide) rfl ?_
  intro p e s m args below meth c s₁ B hml hv
  obtain ⟨rfl, hP, hK, hD, hN⟩ := hv
  have hx := B.exec
  have hb := B.bytes
  have hr := B.returns
  have hts := atoms_spec (ws := wsX0_hoursBetween) B.pre
  have hown : s.vm.findClass RX0 = some m.cls := findClass_of_methodNamed B.named
  have hlocks := B.notSynchronized
  have hinX0 : ∀ w ∈ u_ws RX0 TX0 8, w ∈ wsX0_hoursBetween := by decide +kernel
  have hl := lv_entry ([.ref (Ad 0), .int p1, .int p2, .int p3]) (n := 5) (Nat.le_of_ble_eq_true rfl)
  rw [lg_entry_eq]
  generalize (lg_sl ([.ref (Ad 0), .int p1, .int p2, .int p3]) ++ List.replicate (5 - (lg_sl ([.ref (Ad 0), .int p1, .int p2, .int p3])).length) Slot.unset).toArray = ls at hl ⊢
  have hl : lv_has ls 5 [(0, .ref (Ad 0)), (1, .int p1), (2, .int p2), (3, .int p3)] := hl
  refine lv_iconst (v := 0) hx hb dX0_hoursBetween_0 (by decide) ?_
  refine lv_aload_n hx hb dX0_hoursBetween_1 rfl (lv_at hl 0 rfl) ?_
  refine va_get (D := D.1) (ci := 0) (v := .ref (Ad 1)) (C := RX0) (T := TX0) (N := 8) hx hb hts hinX0 hown hK hP 0 rfl rfl 1 (by decide) (hts (.fieldLink RX0 14 "MountainPost$Land" "heights" "LMountainPost$Row;") (List.mem_of_getElem? (i := 1) rfl)) (fun _ h9 => h9) rfl dX0_hoursBetween_2 ?_
  refine lv_iload_n hx hb dX0_hoursBetween_5 rfl (lv_at hl 3 rfl) ?_
  refine kVp ⟨hx, hb, hml, hown, hts⟩ (c_X3_get l D (Ad 1) (Ad 6) 10 (Ld 0) p3 (by decide)) (cwV 1 hts gX0_hoursBetween_X3_get rfl rfl rfl (by decide +kernel) ⟨Nat.le_of_ble_eq_true rfl, Nat.le_of_ble_eq_true rfl⟩) hK hN hP hD sbLand0 3 0 rfl rfl rfl hl.1 (Nat.le_of_ble_eq_true rfl) ⟨Nat.zero_le _, Nat.zero_le _⟩ dX0_hoursBetween_6 ?_ rfl
  refine lv_aload_n hx hb dX0_hoursBetween_9 rfl (lv_at hl 0 rfl) ?_
  refine va_get (D := D.1) (ci := 0) (v := .ref (Ad 1)) (C := RX0) (T := TX0) (N := 8) hx hb hts hinX0 hown hK hP 0 rfl rfl 1 (by decide) (hts (.fieldLink RX0 14 "MountainPost$Land" "heights" "LMountainPost$Row;") (List.mem_of_getElem? (i := 1) rfl)) (fun _ h9 => h9) rfl dX0_hoursBetween_10 ?_
  refine lv_iload_n hx hb dX0_hoursBetween_13 rfl (lv_at hl 2 rfl) ?_
  refine kVp ⟨hx, hb, hml, hown, hts⟩ (c_X3_get l D (Ad 1) (Ad 6) 10 (Ld 0) p2 (by decide)) (cwV 1 hts gX0_hoursBetween_X3_get rfl rfl rfl (by decide +kernel) ⟨Nat.le_of_ble_eq_true rfl, Nat.le_of_ble_eq_true rfl⟩) hK hN hP hD sbLand0 3 0 rfl rfl rfl hl.1 (Nat.le_of_ble_eq_true rfl) ⟨Nat.zero_le _, Nat.zero_le _⟩ dX0_hoursBetween_14 ?_ rfl
  refine lv_isub hx hb dX0_hoursBetween_17 ?_
  refine va_mmax hx hb (hml.trans hl.1.symm) hown (hts (.methodLink RX0 54 Lib.Math.max.name) (List.mem_of_getElem? (i := 2) rfl)) (hts (.static Lib.Math.max.name) (List.mem_of_getElem? (i := 3) rfl)) (hts (.initialized "java/lang/Math") (List.mem_of_getElem? (i := 4) rfl)) (hts (.code Lib.Math.max.name Lib.Math.max.code 2 (some .int)) (List.mem_of_getElem? (i := 5) rfl)) (Nat.le_of_ble_eq_true rfl) (Nat.le_of_ble_eq_true rfl) (Nat.zero_le _) (Nat.zero_le _) dX0_hoursBetween_18 ?_
  refine lv_istore (lv' := [(4, .int (if 0 < ((rg 10 (Ld 0) p3) - (rg 10 (Ld 0) p2)) then ((rg 10 (Ld 0) p3) - (rg 10 (Ld 0) p2)) else 0)), (0, .ref (Ad 0)), (1, .int p1), (2, .int p2), (3, .int p3)]) hx hb dX0_hoursBetween_21 hl (by decide) rfl (fun ls hl => ?_)
  refine lv_aload_n hx hb dX0_hoursBetween_23 rfl (lv_at hl 1 rfl) ?_
  refine va_get (D := D.1) (ci := 0) (v := .ref (Ad 5)) (C := RX0) (T := TX0) (N := 8) hx hb hts hinX0 hown hK hP 0 rfl rfl 7 (by decide) (hts (.fieldLink RX0 29 "MountainPost$Land" "lengths" "LMountainPost$Row;") (List.mem_of_getElem? (i := 6) rfl)) (fun _ h9 => h9) rfl dX0_hoursBetween_24 ?_
  refine lv_iload_n hx hb dX0_hoursBetween_27 rfl (lv_at hl 2 rfl) ?_
  refine kVp ⟨hx, hb, hml, hown, hts⟩ (c_X3_get l D (Ad 5) (Ad 10) 15 (Ld 4) p1 (by decide)) (cwV 1 hts gX0_hoursBetween_X3_get rfl rfl rfl (by decide +kernel) ⟨Nat.le_of_ble_eq_true rfl, Nat.le_of_ble_eq_true rfl⟩) hK hN hP hD sbLand4 3 0 rfl rfl rfl hl.1 (Nat.le_of_ble_eq_true rfl) ⟨Nat.zero_le _, Nat.zero_le _⟩ dX0_hoursBetween_28 ?_ rfl
  refine lv_iload hx hb dX0_hoursBetween_31 (lv_at hl 0 rfl) ?_
  refine lv_sipush (v := 200) hx hb dX0_hoursBetween_33 (by decide) ?_
  refine lv_idiv hx hb dX0_hoursBetween_36 (by decide) ?_
  refine lv_iadd hx hb dX0_hoursBetween_37 ?_
  exact eI hx hb hr hlocks dX0_hoursBetween_38 (by rfl)

set_option maxHeartbeats 4000000 in
set_option maxRecDepth 100000 in
theorem c_X0_litNext (l : Launch) (D : GG) (Ad : Nat → Nat) (nsd : Nat) (fogd : Int32) (nrd : Nat) (Ld : Nat → Nat → Int32) (p1 : Int32) (hns : nsd < 2 ^ 31) : Met l yX0_litNext wsX0_litNext ({ frames := 1, cells := 0, slots := 0, locals := 21 } : Room) (va_Pc [.ref (Ad 0), .int p1] (wd D (wLand D Ad nsd fogd nrd Ld))) (RP (.int (litC Ld nsd fogd p1))) 0 0 (fun _ => False) := by
  refine Met.ofW (cc := cX0_litNext) (maxL := 5) (ret := (some .int)) (by decide) rfl ?_
  intro p e s m args below meth c s₁ B hml hv
  obtain ⟨rfl, hP, hK, hD, hN⟩ := hv
  have hx := B.exec
  have hb := B.bytes
  have hr := B.returns
  have hts := atoms_spec (ws := wsX0_litNext) B.pre
  have hown : s.vm.findClass RX0 = some m.cls := findClass_of_methodNamed B.named
  have hlocks := B.notSynchronized
  have hinX0 : ∀ w ∈ u_ws RX0 TX0 8, w ∈ wsX0_litNext := by decide +kernel
  have hl := lv_entry ([.ref (Ad 0), .int p1]) (n := 5) (Nat.le_of_ble_eq_true rfl)
  rw [lg_entry_eq]
  generalize (lg_sl ([.ref (Ad 0), .int p1]) ++ List.replicate (5 - (lg_sl ([.ref (Ad 0), .int p1])).length) Slot.unset).toArray = ls at hl ⊢
  have hl : lv_has ls 5 [(0, .ref (Ad 0)), (1, .int p1)] := hl
  refine lv_iload_n hx hb dX0_litNext_0 rfl (lv_at hl 1 rfl) ?_
  refine lv_istore_n (lv' := [(2, .int p1), (0, .ref (Ad 0)), (1, .int p1)]) hx hb dX0_litNext_1 rfl hl (by decide) rfl (fun ls hl => ?_)
  refine lv_iload_n hx hb dX0_litNext_2 rfl (lv_at hl 2 rfl) ?_
  refine lv_aload_n hx hb dX0_litNext_3 rfl (lv_at hl 1 rfl) ?_
  refine va_get (D := D.1) (ci := 0) (v := .int fogd) (C := RX0) (T := TX0) (N := 8) hx hb hts hinX0 hown hK hP 0 rfl rfl 3 (by decide) (hts (.fieldLink RX0 59 "MountainPost$Land" "fog" "I") (List.mem_of_getElem? (i := 1) rfl)) (fun _ h9 => h9) rfl dX0_litNext_4 ?_
  refine lv_iconst (v := (-1)) hx hb dX0_litNext_7 (by decide) ?_
  refine lv_ixor hx hb dX0_litNext_8 ?_
  refine lv_iand hx hb dX0_litNext_9 ?_
  refine lv_istore_n (lv' := [(3, .int (p1 &&& (fogd ^^^ (-1)))), (2, .int p1), (0, .ref (Ad 0)), (1, .int p1)]) hx hb dX0_litNext_10 rfl hl (by decide) rfl (fun ls hl => ?_)
  refine lv_iconst (v := 0) hx hb dX0_litNext_11 (by decide) ?_
  refine lv_istore (lv' := [(4, .int 0), (3, .int (p1 &&& (fogd ^^^ (-1)))), (2, .int p1), (0, .ref (Ad 0)), (1, .int p1)]) hx hb dX0_litNext_12 hl (by decide) rfl (fun ls hl => ?_)
  have lp1 : ∀ (j1 : Nat) (k1 : Nat) (hk1 : k1 + j1 = nsd) (x4_1 : Int32) (e4_1 : x4_1 = (nI k1)) (x2_1 : Int32) (e2_1 : x2_1 = (litF Ld fogd p1 k1)) (ls : Array Slot) (hl : lv_has ls 5 [(4, .int x4_1), (3, .int (p1 &&& (fogd ^^^ (-1)))), (2, .int x2_1), (0, .ref (Ad 0)), (1, .int p1)]), W p l e (headSpec wsX0_litNext ({ frames := 1, cells := 0, slots := 0, locals := 21 } : Room)).room s m ([.ref (Ad 0), .int p1] : List Value).toArray below meth c s.heap [] 0 0 (MQ below (RP (.int (litC Ld nsd fogd p1))) ([.ref (Ad 0), .int p1] : List Value).toArray s 0 0 (fun _ => False)) (F0 m 14 ls []) := by
    intro j1
    induction j1 with
    | zero =>
      intro k1 hk1 x4_1 e4_1 x2_1 e2_1   ls hl
      subst e4_1 e2_1
      have hkN1 : nsd = k1 := (by omega)
      subst hkN1
      refine lv_iload hx hb dX0_litNext_14 (lv_at hl 0 rfl) ?_
      refine lv_aload_n hx hb dX0_litNext_16 rfl (lv_at hl 3 rfl) ?_
      refine va_get (D := D.1) (ci := 0) (v := .int (nI nsd)) (C := RX0) (T := TX0) (N := 8) hx hb hts hinX0 hown hK hP 0 rfl rfl 0 (by decide) (hts (.fieldLink RX0 32 "MountainPost$Land" "stationCount" "I") (List.mem_of_getElem? (i := 2) rfl)) (fun _ h9 => h9) rfl dX0_litNext_17 ?_
      refine lv_icmp_ge (tgt := 57) hx hb dX0_litNext_20 (by decide) (fun c2 => ?_) (fun c2 => ?_)
      · refine lv_iload_n hx hb dX0_litNext_57 rfl (lv_at hl 2 rfl) ?_
        exact eI hx hb hr hlocks dX0_litNext_58 (by rfl)
      · exact (up0 rfl c2).elim
    | succ j1 ih1 =>
      intro k1 hk1 x4_1 e4_1 x2_1 e2_1   ls hl
      subst e4_1 e2_1
      have hlt1 : k1 < nsd := by omega
      have hlt : k1 < nsd := hlt1
      refine lv_iload hx hb dX0_litNext_14 (lv_at hl 0 rfl) ?_
      refine lv_aload_n hx hb dX0_litNext_16 rfl (lv_at hl 3 rfl) ?_
      refine va_get (D := D.1) (ci := 0) (v := .int (nI nsd)) (C := RX0) (T := TX0) (N := 8) hx hb hts hinX0 hown hK hP 0 rfl rfl 0 (by decide) (hts (.fieldLink RX0 32 "MountainPost$Land" "stationCount" "I") (List.mem_of_getElem? (i := 2) rfl)) (fun _ h9 => h9) rfl dX0_litNext_17 ?_
      refine lv_icmp_ge (tgt := 57) hx hb dX0_litNext_20 (by decide) (fun c3 => ?_) (fun c3 => ?_)
      · exact (upS hk1 hns c3).elim
      · refine lv_iload_n hx hb dX0_litNext_23 rfl (lv_at hl 1 rfl) ?_
        refine lv_iload hx hb dX0_litNext_24 (lv_at hl 0 rfl) ?_
        refine kNp ⟨hx, hb, hml, hown, hts⟩ (c_X6_has l D (p1 &&& (fogd ^^^ (-1))) (nI k1)) (va_cnB 2 hts ggX0_litNext_X6_has rfl rfl rfl (hN.m 3 rfl) (hts (.initialized RX6) (List.mem_of_getElem? (i := 5) rfl)) (by decide +kernel) ⟨Nat.le_of_ble_eq_true rfl, Nat.le_of_ble_eq_true rfl⟩) (hts (.static yX6_has) (List.mem_of_getElem? (i := 4) rfl)) hK hN hP hD Sb.nil  rfl hl.1 (Nat.le_of_ble_eq_true rfl) ⟨Nat.zero_le _, Nat.zero_le _⟩ dX0_litNext_26 ?_ rfl
        refine lv_if_eq (tgt := 51) hx hb dX0_litNext_29 (by decide) (fun c4 => ?_) (fun c4 => ?_)
        · have c4 := z2_0.mp c4
          refine lv_iinc (v := ((nI k1) + 1)) (lv' := [(4, .int ((nI k1) + 1)), (3, .int (p1 &&& (fogd ^^^ (-1)))), (2, .int (litF Ld fogd p1 k1)), (0, .ref (Ad 0)), (1, .int p1)]) hx hb dX0_litNext_51 hl (k := 0) rfl rfl (by decide) rfl (fun ls hl => ?_)
          refine lv_goto (tgt := 14) hx hb dX0_litNext_54 (by decide) ?_
          exact ih1 (k1 + 1) (by omega) _ (nI_1 k1) _ (by (rw [litF, if_neg c4]; first | done | rfl)) ls (lv_sub hl [0, 1, 2, 3, 4] rfl)
        · have c4 := z2_n.mp c4
          refine lv_iload_n hx hb dX0_litNext_32 rfl (lv_at hl 2 rfl) ?_
          refine lv_aload_n hx hb dX0_litNext_33 rfl (lv_at hl 3 rfl) ?_
          refine va_get (D := D.1) (ci := 0) (v := .ref (Ad 2)) (C := RX0) (T := TX0) (N := 8) hx hb hts hinX0 hown hK hP 0 rfl rfl 2 (by decide) (hts (.fieldLink RX0 20 "MountainPost$Land" "sights" "LMountainPost$Row;") (List.mem_of_getElem? (i := 3) rfl)) (fun _ h9 => h9) rfl dX0_litNext_34 ?_
          refine lv_iload hx hb dX0_litNext_37 (lv_at hl 0 rfl) ?_
          refine kVp ⟨hx, hb, hml, hown, hts⟩ (c_X3_get l D (Ad 2) (Ad 7) 10 (Ld 1) (nI k1) (by decide)) (cwV 1 hts gX0_litNext_X3_get rfl rfl rfl (by decide +kernel) ⟨Nat.le_of_ble_eq_true rfl, Nat.le_of_ble_eq_true rfl⟩) hK hN hP hD sbLand1 3 0 rfl rfl rfl hl.1 (Nat.le_of_ble_eq_true rfl) ⟨Nat.zero_le _, Nat.zero_le _⟩ dX0_litNext_39 ?_ rfl
          refine lv_aload_n hx hb dX0_litNext_42 rfl (lv_at hl 3 rfl) ?_
          refine va_get (D := D.1) (ci := 0) (v := .int fogd) (C := RX0) (T := TX0) (N := 8) hx hb hts hinX0 hown hK hP 0 rfl rfl 3 (by decide) (hts (.fieldLink RX0 59 "MountainPost$Land" "fog" "I") (List.mem_of_getElem? (i := 1) rfl)) (fun _ h9 => h9) rfl dX0_litNext_43 ?_
          refine lv_iconst (v := (-1)) hx hb dX0_litNext_46 (by decide) ?_
          refine lv_ixor hx hb dX0_litNext_47 ?_
          refine lv_iand hx hb dX0_litNext_48 ?_
          refine lv_ior hx hb dX0_litNext_49 ?_
          refine lv_istore_n (lv' := [(2, .int ((litF Ld fogd p1 k1) ||| ((rg 10 (Ld 1) (nI k1)) &&& (fogd ^^^ (-1))))), (4, .int (nI k1)), (3, .int (p1 &&& (fogd ^^^ (-1)))), (0, .ref (Ad 0)), (1, .int p1)]) hx hb dX0_litNext_50 rfl hl (by decide) rfl (fun ls hl => ?_)
          refine lv_iinc (v := ((nI k1) + 1)) (lv' := [(4, .int ((nI k1) + 1)), (2, .int ((litF Ld fogd p1 k1) ||| ((rg 10 (Ld 1) (nI k1)) &&& (fogd ^^^ (-1))))), (3, .int (p1 &&& (fogd ^^^ (-1)))), (0, .ref (Ad 0)), (1, .int p1)]) hx hb dX0_litNext_51 hl (k := 1) rfl rfl (by decide) rfl (fun ls hl => ?_)
          refine lv_goto (tgt := 14) hx hb dX0_litNext_54 (by decide) ?_
          exact ih1 (k1 + 1) (by omega) _ (nI_1 k1) _ (by (rw [litF, if_pos c4]; first | done | rfl)) ls (lv_sub hl [0, 2, 1, 3, 4] rfl)
  exact lp1 nsd 0 (by omega) _ nI_0.symm _ rfl ls (lv_sub hl [0, 1, 2, 3, 4] rfl)

set_option maxHeartbeats 4000000 in
set_option maxRecDepth 100000 in
theorem c_X0_everLitFrom (l : Launch) (D : GG) (Ad : Nat → Nat) (nsd : Nat) (fogd : Int32) (nrd : Nat) (Ld : Nat → Nat → Int32) (p1 : Int32) (hns : nsd < 2 ^ 31) : Met l yX0_everLitFrom wsX0_everLitFrom ({ frames := 2, cells := 0, slots := 0, locals := 45 } : Room) (va_Pc [.ref (Ad 0), .int p1] (wd D (wLand D Ad nsd fogd nrd Ld))) (RP (.int (evF Ld nsd fogd p1 nsd))) 0 0 (fun _ => False) := by
  refine Met.ofW (cc := cX0_everLitFrom) (maxL := 4) (ret := (some .int)) (by decide) rfl ?_
  intro p e s m args below meth c s₁ B hml hv
  obtain ⟨rfl, hP, hK, hD, hN⟩ := hv
  have hx := B.exec
  have hb := B.bytes
  have hr := B.returns
  have hts := atoms_spec (ws := wsX0_everLitFrom) B.pre
  have hown : s.vm.findClass RX0 = some m.cls := findClass_of_methodNamed B.named
  have hlocks := B.notSynchronized
  have hinX0 : ∀ w ∈ u_ws RX0 TX0 8, w ∈ wsX0_everLitFrom := by decide +kernel
  have hl := lv_entry ([.ref (Ad 0), .int p1]) (n := 4) (Nat.le_of_ble_eq_true rfl)
  rw [lg_entry_eq]
  generalize (lg_sl ([.ref (Ad 0), .int p1]) ++ List.replicate (4 - (lg_sl ([.ref (Ad 0), .int p1])).length) Slot.unset).toArray = ls at hl ⊢
  have hl : lv_has ls 4 [(0, .ref (Ad 0)), (1, .int p1)] := hl
  refine lv_iconst (v := 0) hx hb dX0_everLitFrom_0 (by decide) ?_
  refine lv_iload_n hx hb dX0_everLitFrom_1 rfl (lv_at hl 1 rfl) ?_
  refine kNp ⟨hx, hb, hml, hown, hts⟩ (c_X6_with l D 0 p1) (va_cnB 2 hts ggX0_everLitFrom_X6_with rfl rfl rfl (hN.m 1 rfl) (hts (.initialized RX6) (List.mem_of_getElem? (i := 3) rfl)) (by decide +kernel) ⟨Nat.le_of_ble_eq_true rfl, Nat.le_of_ble_eq_true rfl⟩) (hts (.static yX6_with) (List.mem_of_getElem? (i := 2) rfl)) hK hN hP hD Sb.nil  rfl hl.1 (Nat.le_of_ble_eq_true rfl) ⟨Nat.zero_le _, Nat.zero_le _⟩ dX0_everLitFrom_2 ?_ rfl
  refine lv_istore_n (lv' := [(2, .int (bW 0 p1)), (0, .ref (Ad 0)), (1, .int p1)]) hx hb dX0_everLitFrom_5 rfl hl (by decide) rfl (fun ls hl => ?_)
  refine lv_iconst (v := 0) hx hb dX0_everLitFrom_6 (by decide) ?_
  refine lv_istore_n (lv' := [(3, .int 0), (2, .int (bW 0 p1)), (0, .ref (Ad 0)), (1, .int p1)]) hx hb dX0_everLitFrom_7 rfl hl (by decide) rfl (fun ls hl => ?_)
  have lp1 : ∀ (j1 : Nat) (k1 : Nat) (hk1 : k1 + j1 = nsd) (x3_1 : Int32) (e3_1 : x3_1 = (nI k1)) (x2_1 : Int32) (e2_1 : x2_1 = (evF Ld nsd fogd p1 k1)) (ls : Array Slot) (hl : lv_has ls 4 [(3, .int x3_1), (2, .int x2_1), (0, .ref (Ad 0)), (1, .int p1)]), W p l e (headSpec wsX0_everLitFrom ({ frames := 2, cells := 0, slots := 0, locals := 45 } : Room)).room s m ([.ref (Ad 0), .int p1] : List Value).toArray below meth c s.heap [] 0 0 (MQ below (RP (.int (evF Ld nsd fogd p1 nsd))) ([.ref (Ad 0), .int p1] : List Value).toArray s 0 0 (fun _ => False)) (F0 m 8 ls []) := by
    intro j1
    induction j1 with
    | zero =>
      intro k1 hk1 x3_1 e3_1 x2_1 e2_1   ls hl
      subst e3_1 e2_1
      have hkN1 : nsd = k1 := (by omega)
      subst hkN1
      refine lv_iload_n hx hb dX0_everLitFrom_8 rfl (lv_at hl 0 rfl) ?_
      refine lv_aload_n hx hb dX0_everLitFrom_9 rfl (lv_at hl 2 rfl) ?_
      refine va_get (D := D.1) (ci := 0) (v := .int (nI nsd)) (C := RX0) (T := TX0) (N := 8) hx hb hts hinX0 hown hK hP 0 rfl rfl 0 (by decide) (hts (.fieldLink RX0 32 "MountainPost$Land" "stationCount" "I") (List.mem_of_getElem? (i := 1) rfl)) (fun _ h9 => h9) rfl dX0_everLitFrom_10 ?_
      refine lv_icmp_ge (tgt := 28) hx hb dX0_everLitFrom_13 (by decide) (fun c2 => ?_) (fun c2 => ?_)
      · refine lv_iload_n hx hb dX0_everLitFrom_28 rfl (lv_at hl 1 rfl) ?_
        exact eI hx hb hr hlocks dX0_everLitFrom_29 (by rfl)
      · exact (up0 rfl c2).elim
    | succ j1 ih1 =>
      intro k1 hk1 x3_1 e3_1 x2_1 e2_1   ls hl
      subst e3_1 e2_1
      have hlt1 : k1 < nsd := by omega
      have hlt : k1 < nsd := hlt1
      refine lv_iload_n hx hb dX0_everLitFrom_8 rfl (lv_at hl 0 rfl) ?_
      refine lv_aload_n hx hb dX0_everLitFrom_9 rfl (lv_at hl 2 rfl) ?_
      refine va_get (D := D.1) (ci := 0) (v := .int (nI nsd)) (C := RX0) (T := TX0) (N := 8) hx hb hts hinX0 hown hK hP 0 rfl rfl 0 (by decide) (hts (.fieldLink RX0 32 "MountainPost$Land" "stationCount" "I") (List.mem_of_getElem? (i := 1) rfl)) (fun _ h9 => h9) rfl dX0_everLitFrom_10 ?_
      refine lv_icmp_ge (tgt := 28) hx hb dX0_everLitFrom_13 (by decide) (fun c3 => ?_) (fun c3 => ?_)
      · exact (upS hk1 hns c3).elim
      · refine lv_aload_n hx hb dX0_everLitFrom_16 rfl (lv_at hl 2 rfl) ?_
        refine lv_iload_n hx hb dX0_everLitFrom_17 rfl (lv_at hl 1 rfl) ?_
        refine kVp ⟨hx, hb, hml, hown, hts⟩ (c_X0_litNext l D Ad nsd fogd nrd Ld (evF Ld nsd fogd p1 k1) hns) (cwV 1 hts gX0_everLitFrom_X0_litNext rfl rfl rfl (by decide +kernel) ⟨Nat.le_of_ble_eq_true rfl, Nat.le_of_ble_eq_true rfl⟩) hK hN hP hD Sb.self 0 0 rfl rfl rfl hl.1 (Nat.le_of_ble_eq_true rfl) ⟨Nat.zero_le _, Nat.zero_le _⟩ dX0_everLitFrom_18 ?_ rfl
        refine lv_istore_n (lv' := [(2, .int (litC Ld nsd fogd (evF Ld nsd fogd p1 k1))), (3, .int (nI k1)), (0, .ref (Ad 0)), (1, .int p1)]) hx hb dX0_everLitFrom_21 rfl hl (by decide) rfl (fun ls hl => ?_)
        refine lv_iinc (v := ((nI k1) + 1)) (lv' := [(3, .int ((nI k1) + 1)), (2, .int (litC Ld nsd fogd (evF Ld nsd fogd p1 k1))), (0, .ref (Ad 0)), (1, .int p1)]) hx hb dX0_everLitFrom_22 hl (k := 1) rfl rfl (by decide) rfl (fun ls hl => ?_)
        refine lv_goto (tgt := 8) hx hb dX0_everLitFrom_25 (by decide) ?_
        exact ih1 (k1 + 1) (by omega) _ (nI_1 k1) _ rfl ls (lv_sub hl [0, 1, 2, 3] rfl)
  exact lp1 nsd 0 (by omega) _ nI_0.symm _ rfl ls (lv_sub hl [0, 1, 2, 3] rfl)

set_option maxHeartbeats 4000000 in
set_option maxRecDepth 100000 in
theorem c_X0_hoursOfFire (l : Launch) (D : GG) (Ad : Nat → Nat) (nsd : Nat) (fogd : Int32) (nrd : Nat) (Ld : Nat → Nat → Int32) (p1 : Int32) (p2 : Int32) (hns : nsd < 2 ^ 31) : Met l yX0_hoursOfFire wsX0_hoursOfFire ({ frames := 2, cells := 0, slots := 0, locals := 45 } : Room) (va_Pc [.ref (Ad 0), .int p1, .int p2] (wd D (wLand D Ad nsd fogd nrd Ld))) (RP (.int (fireL Ld nsd fogd p2 nsd 0 (bW 0 p1)))) 0 0 (fun _ => False) := by
  refine Met.ofW (cc := cX0_hoursOfFire) (maxL := 5) (ret := (some .int)) (by decide) rfl ?_
  intro p e s m args below meth c s₁ B hml hv
  obtain ⟨rfl, hP, hK, hD, hN⟩ := hv
  have hx := B.exec
  have hb := B.bytes
  have hr := B.returns
  have hts := atoms_spec (ws := wsX0_hoursOfFire) B.pre
  have hown : s.vm.findClass RX0 = some m.cls := findClass_of_methodNamed B.named
  have hlocks := B.notSynchronized
  have hinX0 : ∀ w ∈ u_ws RX0 TX0 8, w ∈ wsX0_hoursOfFire := by decide +kernel
  have hl := lv_entry ([.ref (Ad 0), .int p1, .int p2]) (n := 5) (Nat.le_of_ble_eq_true rfl)
  rw [lg_entry_eq]
  generalize (lg_sl ([.ref (Ad 0), .int p1, .int p2]) ++ List.replicate (5 - (lg_sl ([.ref (Ad 0), .int p1, .int p2])).length) Slot.unset).toArray = ls at hl ⊢
  have hl : lv_has ls 5 [(0, .ref (Ad 0)), (1, .int p1), (2, .int p2)] := hl
  refine lv_iconst (v := 0) hx hb dX0_hoursOfFire_0 (by decide) ?_
  refine lv_iload_n hx hb dX0_hoursOfFire_1 rfl (lv_at hl 1 rfl) ?_
  refine kNp ⟨hx, hb, hml, hown, hts⟩ (c_X6_with l D 0 p1) (va_cnB 2 hts ggX0_hoursOfFire_X6_with rfl rfl rfl (hN.m 1 rfl) (hts (.initialized RX6) (List.mem_of_getElem? (i := 3) rfl)) (by decide +kernel) ⟨Nat.le_of_ble_eq_true rfl, Nat.le_of_ble_eq_true rfl⟩) (hts (.static yX6_with) (List.mem_of_getElem? (i := 2) rfl)) hK hN hP hD Sb.nil  rfl hl.1 (Nat.le_of_ble_eq_true rfl) ⟨Nat.zero_le _, Nat.zero_le _⟩ dX0_hoursOfFire_2 ?_ rfl
  refine lv_istore_n (lv' := [(3, .int (bW 0 p1)), (0, .ref (Ad 0)), (1, .int p1), (2, .int p2)]) hx hb dX0_hoursOfFire_5 rfl hl (by decide) rfl (fun ls hl => ?_)
  refine lv_iconst (v := 0) hx hb dX0_hoursOfFire_6 (by decide) ?_
  refine lv_istore (lv' := [(4, .int 0), (3, .int (bW 0 p1)), (0, .ref (Ad 0)), (1, .int p1), (2, .int p2)]) hx hb dX0_hoursOfFire_7 hl (by decide) rfl (fun ls hl => ?_)
  have lp1 : ∀ (j1 : Nat) (k : Nat) (li : Int32) (hk : k + j1 = nsd) (hf : fireL Ld nsd fogd p2 j1 k li = fireL Ld nsd fogd p2 nsd 0 (bW 0 p1)) (x4_1 : Int32) (e4_1 : x4_1 = (nI k)) (ls : Array Slot) (hl : lv_has ls 5 [(4, .int x4_1), (3, .int li), (0, .ref (Ad 0)), (1, .int p1), (2, .int p2)]), W p l e (headSpec wsX0_hoursOfFire ({ frames := 2, cells := 0, slots := 0, locals := 45 } : Room)).room s m ([.ref (Ad 0), .int p1, .int p2] : List Value).toArray below meth c s.heap [] 0 0 (MQ below (RP (.int (fireL Ld nsd fogd p2 nsd 0 (bW 0 p1)))) ([.ref (Ad 0), .int p1, .int p2] : List Value).toArray s 0 0 (fun _ => False)) (F0 m 9 ls []) := by
    intro j1
    induction j1 with
    | zero =>
      intro k li hk hf x4_1 e4_1 ls hl
      subst e4_1
      refine lv_iload hx hb dX0_hoursOfFire_9 (lv_at hl 0 rfl) ?_
      refine lv_aload_n hx hb dX0_hoursOfFire_11 rfl (lv_at hl 2 rfl) ?_
      refine va_get (D := D.1) (ci := 0) (v := .int (nI nsd)) (C := RX0) (T := TX0) (N := 8) hx hb hts hinX0 hown hK hP 0 rfl rfl 0 (by decide) (hts (.fieldLink RX0 32 "MountainPost$Land" "stationCount" "I") (List.mem_of_getElem? (i := 1) rfl)) (fun _ h9 => h9) rfl dX0_hoursOfFire_12 ?_
      refine lv_icmp_ge (tgt := 41) hx hb dX0_hoursOfFire_15 (by decide) (fun c2 => ?_) (fun c2 => ?_)
      · refine lv_iconst (v := (-1)) hx hb dX0_hoursOfFire_41 (by decide) ?_
        exact eI hx hb hr hlocks dX0_hoursOfFire_42 (by first | (rw [← hf]; rfl) | (rw [← hf, fireL]; simp [c2]))
      · exact (up0 hk c2).elim
    | succ j1 ih1 =>
      intro k li hk hf x4_1 e4_1 ls hl
      subst e4_1
      refine lv_iload hx hb dX0_hoursOfFire_9 (lv_at hl 0 rfl) ?_
      refine lv_aload_n hx hb dX0_hoursOfFire_11 rfl (lv_at hl 2 rfl) ?_
      refine va_get (D := D.1) (ci := 0) (v := .int (nI nsd)) (C := RX0) (T := TX0) (N := 8) hx hb hts hinX0 hown hK hP 0 rfl rfl 0 (by decide) (hts (.fieldLink RX0 32 "MountainPost$Land" "stationCount" "I") (List.mem_of_getElem? (i := 1) rfl)) (fun _ h9 => h9) rfl dX0_hoursOfFire_12 ?_
      refine lv_icmp_ge (tgt := 41) hx hb dX0_hoursOfFire_15 (by decide) (fun c3 => ?_) (fun c3 => ?_)
      · exact (upS hk hns c3).elim
      · refine lv_iload_n hx hb dX0_hoursOfFire_18 rfl (lv_at hl 1 rfl) ?_
        refine lv_iload_n hx hb dX0_hoursOfFire_19 rfl (lv_at hl 4 rfl) ?_
        refine kNp ⟨hx, hb, hml, hown, hts⟩ (c_X6_has l D li p2) (va_cnB 2 hts ggX0_hoursOfFire_X6_has rfl rfl rfl (hN.m 3 rfl) (hts (.initialized RX6) (List.mem_of_getElem? (i := 3) rfl)) (by decide +kernel) ⟨Nat.le_of_ble_eq_true rfl, Nat.le_of_ble_eq_true rfl⟩) (hts (.static yX6_has) (List.mem_of_getElem? (i := 5) rfl)) hK hN hP hD Sb.nil  rfl hl.1 (Nat.le_of_ble_eq_true rfl) ⟨Nat.zero_le _, Nat.zero_le _⟩ dX0_hoursOfFire_20 ?_ rfl
        refine lv_if_eq (tgt := 29) hx hb dX0_hoursOfFire_23 (by decide) (fun c4 => ?_) (fun c4 => ?_)
        · have c4 := z2_0.mp c4
          refine lv_aload_n hx hb dX0_hoursOfFire_29 rfl (lv_at hl 2 rfl) ?_
          refine lv_iload_n hx hb dX0_hoursOfFire_30 rfl (lv_at hl 1 rfl) ?_
          refine kVp ⟨hx, hb, hml, hown, hts⟩ (c_X0_litNext l D Ad nsd fogd nrd Ld li hns) (cwV 1 hts gX0_hoursOfFire_X0_litNext rfl rfl rfl (by decide +kernel) ⟨Nat.le_of_ble_eq_true rfl, Nat.le_of_ble_eq_true rfl⟩) hK hN hP hD Sb.self 0 0 rfl rfl rfl hl.1 (Nat.le_of_ble_eq_true rfl) ⟨Nat.zero_le _, Nat.zero_le _⟩ dX0_hoursOfFire_31 ?_ rfl
          refine lv_istore_n (lv' := [(3, .int (litC Ld nsd fogd li)), (4, .int (nI k)), (0, .ref (Ad 0)), (1, .int p1), (2, .int p2)]) hx hb dX0_hoursOfFire_34 rfl hl (by decide) rfl (fun ls hl => ?_)
          refine lv_iinc (v := ((nI k) + 1)) (lv' := [(4, .int ((nI k) + 1)), (3, .int (litC Ld nsd fogd li)), (0, .ref (Ad 0)), (1, .int p1), (2, .int p2)]) hx hb dX0_hoursOfFire_35 hl (k := 1) rfl rfl (by decide) rfl (fun ls hl => ?_)
          refine lv_goto (tgt := 9) hx hb dX0_hoursOfFire_38 (by decide) ?_
          exact ih1 (k + 1) (litC Ld nsd fogd li) (by omega) (by rw [← hf, fireL]; simp [c3, c4]) _ (nI_1 k) ls (lv_sub hl [0, 1, 2, 3, 4] rfl)
        · have c4 := z2_n.mp c4
          refine lv_iload hx hb dX0_hoursOfFire_26 (lv_at hl 0 rfl) ?_
          exact eI hx hb hr hlocks dX0_hoursOfFire_28 (by first | (rw [← hf]; rfl) | (rw [← hf, fireL]; simp [c3, c4]))
  exact lp1 nsd 0 (bW 0 p1) (by omega) rfl _ nI_0.symm ls (lv_sub hl [0, 1, 2, 3, 4] rfl)

set_option maxHeartbeats 4000000 in
set_option maxRecDepth 100000 in
theorem c_X0_putStation (l : Launch) (D : GG) (Ad : Nat → Nat) (nsd : Nat) (fogd : Int32) (nrd : Nat) (Ld : Nat → Nat → Int32) (p1 : Int32)  : Met l yX0_putStation wsX0_putStation ({ frames := 1, cells := 0, slots := 0, locals := 22 } : Room) (va_Pc [.ref (Ad 0), .int p1] (wd D (wLand D Ad nsd fogd nrd Ld))) (QW D (some (.int (nI nsd))) (wLand D Ad (nsd + 1) fogd nrd (sr Ld 0 (rs 10 (Ld 0) (nI nsd) p1))) (own (wLand D Ad nsd fogd nrd Ld))) 0 0 (own (wLand D Ad nsd fogd nrd Ld)) := by
  refine Met.ofW (cc := cX0_putStation) (maxL := 2) (ret := (some .int)) (by decide) rfl ?_
  intro p e s m args below meth c s₁ B hml hv
  obtain ⟨rfl, hP, hK, hD, hN⟩ := hv
  have hx := B.exec
  have hb := B.bytes
  have hr := B.returns
  have hts := atoms_spec (ws := wsX0_putStation) B.pre
  have hown : s.vm.findClass RX0 = some m.cls := findClass_of_methodNamed B.named
  have hlocks := B.notSynchronized
  have hinX0 : ∀ w ∈ u_ws RX0 TX0 8, w ∈ wsX0_putStation := by decide +kernel
  have hS : va_S (own (wLand D Ad nsd fogd nrd Ld)) s.heap s.heap [] := va_S.rf
  have hD : va_D (own (wLand D Ad nsd fogd nrd Ld)) (wLand D Ad nsd fogd nrd Ld) := toOwn hD
  generalize hAe : own (wLand D Ad nsd fogd nrd Ld) = A0 at hD hS ⊢
  have hl := lv_entry ([.ref (Ad 0), .int p1]) (n := 2) (Nat.le_of_ble_eq_true rfl)
  rw [lg_entry_eq]
  generalize (lg_sl ([.ref (Ad 0), .int p1]) ++ List.replicate (2 - (lg_sl ([.ref (Ad 0), .int p1])).length) Slot.unset).toArray = ls at hl ⊢
  have hl : lv_has ls 2 [(0, .ref (Ad 0)), (1, .int p1)] := hl
  refine lv_aload_n hx hb dX0_putStation_0 rfl (lv_at hl 0 rfl) ?_
  refine va_get (D := D.1) (ci := 0) (v := .ref (Ad 1)) (C := RX0) (T := TX0) (N := 8) hx hb hts hinX0 hown hK hP 0 rfl rfl 1 (by decide) (hts (.fieldLink RX0 14 "MountainPost$Land" "heights" "LMountainPost$Row;") (List.mem_of_getElem? (i := 1) rfl)) (fun _ h9 => h9) rfl dX0_putStation_1 ?_
  refine lv_aload_n hx hb dX0_putStation_4 rfl (lv_at hl 0 rfl) ?_
  refine va_get (D := D.1) (ci := 0) (v := .int (nI nsd)) (C := RX0) (T := TX0) (N := 8) hx hb hts hinX0 hown hK hP 0 rfl rfl 0 (by decide) (hts (.fieldLink RX0 32 "MountainPost$Land" "stationCount" "I") (List.mem_of_getElem? (i := 2) rfl)) (fun _ h9 => h9) rfl dX0_putStation_5 ?_
  refine lv_iload_n hx hb dX0_putStation_8 rfl (lv_at hl 1 rfl) ?_
  refine kVw ⟨hx, hb, hml, hown, hts⟩ (c_X3_set l D (Ad 1) (Ad 6) 10 (Ld 0) (nI nsd) p1 (by decide)) (cwV 2 hts gX0_putStation_X3_set rfl rfl rfl (by decide +kernel) ⟨Nat.le_of_ble_eq_true rfl, Nat.le_of_ble_eq_true rfl⟩) hK hN hP hD hS frLand0 3 0 rfl rfl rfl hl.1 (Nat.le_of_ble_eq_true rfl) ⟨Nat.zero_le _, Nat.zero_le _⟩ dX0_putStation_9 (fun H locs hP hD hS => ?_) rfl
  have hP : va_P D.1 vwCl (wLand D Ad nsd fogd nrd (sr Ld 0 (rs 10 (Ld 0) (nI nsd) p1))) H := hP
  have hD : va_D A0 (wLand D Ad nsd fogd nrd (sr Ld 0 (rs 10 (Ld 0) (nI nsd) p1))) := hD
  refine W.eq (g2 := F0 m 12 ls []) rfl ?_
  refine lv_aload_n hx hb dX0_putStation_12 rfl (lv_at hl 0 rfl) ?_
  refine lv_dup hx hb dX0_putStation_13 rfl ?_
  refine va_get (D := D.1) (ci := 0) (v := .int (nI nsd)) (C := RX0) (T := TX0) (N := 8) hx hb hts hinX0 hown hK hP 0 rfl rfl 0 (by decide) (hts (.fieldLink RX0 32 "MountainPost$Land" "stationCount" "I") (List.mem_of_getElem? (i := 2) rfl)) (fun _ h9 => h9) rfl dX0_putStation_14 ?_
  refine lv_iconst (v := 1) hx hb dX0_putStation_17 (by decide) ?_
  refine lv_iadd hx hb dX0_putStation_18 ?_
  refine W.eq (g2 := F0 m 19 ls [.int (nI (nsd + 1)), .ref (Ad 0)]) (by rw [show ((nI nsd) + 1) = nI (nsd + 1) from nI_1 nsd]) ?_
  refine va_put (D := D.1) (ci := 0) (v := .int (nI (nsd + 1))) (ty := .int) (C := RX0) (T := TX0) (N := 8) hx hb hts hinX0 tyX0 tyX0_ok nmX0 hown hK hP hD hS 0 rfl rfl 0 (by decide) (hts (.fieldLink RX0 32 "MountainPost$Land" "stationCount" "I") (List.mem_of_getElem? (i := 2) rfl)) (fun _ h9 => h9) rfl (by decide +kernel) rfl rfl (Nat.le_of_ble_eq_true rfl) dX0_putStation_19 (fun H locs hP hD hS => ?_)
  have hP : va_P D.1 vwCl (wLand D Ad (nsd + 1) fogd nrd (sr Ld 0 (rs 10 (Ld 0) (nI nsd) p1))) H := hP
  have hD : va_D A0 (wLand D Ad (nsd + 1) fogd nrd (sr Ld 0 (rs 10 (Ld 0) (nI nsd) p1))) := hD
  refine lv_aload_n hx hb dX0_putStation_22 rfl (lv_at hl 0 rfl) ?_
  refine va_get (D := D.1) (ci := 0) (v := .int (nI (nsd + 1))) (C := RX0) (T := TX0) (N := 8) hx hb hts hinX0 hown hK hP 0 rfl rfl 0 (by decide) (hts (.fieldLink RX0 32 "MountainPost$Land" "stationCount" "I") (List.mem_of_getElem? (i := 2) rfl)) (fun _ h9 => h9) rfl dX0_putStation_23 ?_
  refine lv_iconst (v := 1) hx hb dX0_putStation_26 (by decide) ?_
  refine lv_isub hx hb dX0_putStation_27 ?_
  exact eWi hx hb hr hlocks dX0_putStation_28 hS hP (by exact nI_pred nsd) (by rfl)

set_option maxHeartbeats 4000000 in
set_option maxRecDepth 100000 in
theorem c_X0_putSight (l : Launch) (D : GG) (Ad : Nat → Nat) (nsd : Nat) (fogd : Int32) (nrd : Nat) (Ld : Nat → Nat → Int32) (p1 : Int32) (p2 : Int32) (p3 : Int32)  : Met l yX0_putSight wsX0_putSight ({ frames := 1, cells := 0, slots := 0, locals := 22 } : Room) (va_Pc [.ref (Ad 0), .int p1, .int p2, .int p3] (wd D (wLand D Ad nsd fogd nrd Ld))) (QW D none (wLand D Ad nsd fogd nrd (sr Ld 1 (rs 10 (Ld 1) p1 (if p3 = 0 then bN (rg 10 (Ld 1) p1) p2 else bW (rg 10 (Ld 1) p1) p2)))) (own (wLand D Ad nsd fogd nrd Ld))) 0 0 (own (wLand D Ad nsd fogd nrd Ld)) := by
  refine Met.ofW (cc := cX0_putSight) (maxL := 5) (ret := none) (by decide) rfl ?_
  intro p e s m args below meth c s₁ B hml hv
  obtain ⟨rfl, hP, hK, hD, hN⟩ := hv
  have hx := B.exec
  have hb := B.bytes
  have hr := B.returns
  have hts := atoms_spec (ws := wsX0_putSight) B.pre
  have hown : s.vm.findClass RX0 = some m.cls := findClass_of_methodNamed B.named
  have hlocks := B.notSynchronized
  have hinX0 : ∀ w ∈ u_ws RX0 TX0 8, w ∈ wsX0_putSight := by decide +kernel
  have hS : va_S (own (wLand D Ad nsd fogd nrd Ld)) s.heap s.heap [] := va_S.rf
  have hD : va_D (own (wLand D Ad nsd fogd nrd Ld)) (wLand D Ad nsd fogd nrd Ld) := toOwn hD
  generalize hAe : own (wLand D Ad nsd fogd nrd Ld) = A0 at hD hS ⊢
  have hl := lv_entry ([.ref (Ad 0), .int p1, .int p2, .int p3]) (n := 5) (Nat.le_of_ble_eq_true rfl)
  rw [lg_entry_eq]
  generalize (lg_sl ([.ref (Ad 0), .int p1, .int p2, .int p3]) ++ List.replicate (5 - (lg_sl ([.ref (Ad 0), .int p1, .int p2, .int p3])).length) Slot.unset).toArray = ls at hl ⊢
  have hl : lv_has ls 5 [(0, .ref (Ad 0)), (1, .int p1), (2, .int p2), (3, .int p3)] := hl
  refine lv_aload_n hx hb dX0_putSight_0 rfl (lv_at hl 0 rfl) ?_
  refine va_get (D := D.1) (ci := 0) (v := .ref (Ad 2)) (C := RX0) (T := TX0) (N := 8) hx hb hts hinX0 hown hK hP 0 rfl rfl 2 (by decide) (hts (.fieldLink RX0 20 "MountainPost$Land" "sights" "LMountainPost$Row;") (List.mem_of_getElem? (i := 1) rfl)) (fun _ h9 => h9) rfl dX0_putSight_1 ?_
  refine lv_iload_n hx hb dX0_putSight_4 rfl (lv_at hl 1 rfl) ?_
  refine kVp ⟨hx, hb, hml, hown, hts⟩ (c_X3_get l D (Ad 2) (Ad 7) 10 (Ld 1) p1 (by decide)) (cwV 1 hts gX0_putSight_X3_get rfl rfl rfl (by decide +kernel) ⟨Nat.le_of_ble_eq_true rfl, Nat.le_of_ble_eq_true rfl⟩) hK hN hP hD sbLand1 3 0 rfl rfl rfl hl.1 (Nat.le_of_ble_eq_true rfl) ⟨Nat.zero_le _, Nat.zero_le _⟩ dX0_putSight_5 ?_ rfl
  refine lv_istore (lv' := [(4, .int (rg 10 (Ld 1) p1)), (0, .ref (Ad 0)), (1, .int p1), (2, .int p2), (3, .int p3)]) hx hb dX0_putSight_8 hl (by decide) rfl (fun ls hl => ?_)
  refine lv_aload_n hx hb dX0_putSight_10 rfl (lv_at hl 1 rfl) ?_
  refine va_get (D := D.1) (ci := 0) (v := .ref (Ad 2)) (C := RX0) (T := TX0) (N := 8) hx hb hts hinX0 hown hK hP 0 rfl rfl 2 (by decide) (hts (.fieldLink RX0 20 "MountainPost$Land" "sights" "LMountainPost$Row;") (List.mem_of_getElem? (i := 1) rfl)) (fun _ h9 => h9) rfl dX0_putSight_11 ?_
  refine lv_iload_n hx hb dX0_putSight_14 rfl (lv_at hl 2 rfl) ?_
  refine lv_iload_n hx hb dX0_putSight_15 rfl (lv_at hl 4 rfl) ?_
  refine lv_if_eq (tgt := 28) hx hb dX0_putSight_16 (by decide) (fun c1 => ?_) (fun c1 => ?_)
  · refine lv_iload hx hb dX0_putSight_28 (lv_at hl 0 rfl) ?_
    refine lv_iload_n hx hb dX0_putSight_30 rfl (lv_at hl 3 rfl) ?_
    refine kNp ⟨hx, hb, hml, hown, hts⟩ (c_X6_without l D (rg 10 (Ld 1) p1) p2) (va_cnB 2 hts ggX0_putSight_X6_without rfl rfl rfl (hN.m 2 rfl) (hts (.initialized RX6) (List.mem_of_getElem? (i := 9) rfl)) (by decide +kernel) ⟨Nat.le_of_ble_eq_true rfl, Nat.le_of_ble_eq_true rfl⟩) (hts (.static yX6_without) (List.mem_of_getElem? (i := 11) rfl)) hK hN hP hD Sb.nil  rfl hl.1 (Nat.le_of_ble_eq_true rfl) ⟨Nat.zero_le _, Nat.zero_le _⟩ dX0_putSight_31 ?_ rfl
    refine kVw ⟨hx, hb, hml, hown, hts⟩ (c_X3_set l D (Ad 2) (Ad 7) 10 (Ld 1) p1 (bN (rg 10 (Ld 1) p1) p2) (by decide)) (cwV 2 hts gX0_putSight_X3_set rfl rfl rfl (by decide +kernel) ⟨Nat.le_of_ble_eq_true rfl, Nat.le_of_ble_eq_true rfl⟩) hK hN hP hD hS frLand1 3 0 rfl rfl rfl hl.1 (Nat.le_of_ble_eq_true rfl) ⟨Nat.zero_le _, Nat.zero_le _⟩ dX0_putSight_34 (fun H locs hP hD hS => ?_) rfl
    have hP : va_P D.1 vwCl (wLand D Ad nsd fogd nrd (sr Ld 1 (rs 10 (Ld 1) p1 (bN (rg 10 (Ld 1) p1) p2)))) H := hP
    have hD : va_D A0 (wLand D Ad nsd fogd nrd (sr Ld 1 (rs 10 (Ld 1) p1 (bN (rg 10 (Ld 1) p1) p2)))) := hD
    refine W.eq (g2 := F0 m 37 ls []) rfl ?_
    exact eWv hx hb hr hlocks dX0_putSight_37 hS hP (by first | (rw [if_pos (by assumption)]; first | done | rfl) | (rw [if_neg (by assumption)]; first | done | rfl))
  · refine lv_iload hx hb dX0_putSight_19 (lv_at hl 0 rfl) ?_
    refine lv_iload_n hx hb dX0_putSight_21 rfl (lv_at hl 3 rfl) ?_
    refine kNp ⟨hx, hb, hml, hown, hts⟩ (c_X6_with l D (rg 10 (Ld 1) p1) p2) (va_cnB 2 hts ggX0_putSight_X6_with rfl rfl rfl (hN.m 1 rfl) (hts (.initialized RX6) (List.mem_of_getElem? (i := 9) rfl)) (by decide +kernel) ⟨Nat.le_of_ble_eq_true rfl, Nat.le_of_ble_eq_true rfl⟩) (hts (.static yX6_with) (List.mem_of_getElem? (i := 8) rfl)) hK hN hP hD Sb.nil  rfl hl.1 (Nat.le_of_ble_eq_true rfl) ⟨Nat.zero_le _, Nat.zero_le _⟩ dX0_putSight_22 ?_ rfl
    refine lv_goto (tgt := 34) hx hb dX0_putSight_25 (by decide) ?_
    refine kVw ⟨hx, hb, hml, hown, hts⟩ (c_X3_set l D (Ad 2) (Ad 7) 10 (Ld 1) p1 (bW (rg 10 (Ld 1) p1) p2) (by decide)) (cwV 2 hts gX0_putSight_X3_set rfl rfl rfl (by decide +kernel) ⟨Nat.le_of_ble_eq_true rfl, Nat.le_of_ble_eq_true rfl⟩) hK hN hP hD hS frLand1 3 0 rfl rfl rfl hl.1 (Nat.le_of_ble_eq_true rfl) ⟨Nat.zero_le _, Nat.zero_le _⟩ dX0_putSight_34 (fun H locs hP hD hS => ?_) rfl
    have hP : va_P D.1 vwCl (wLand D Ad nsd fogd nrd (sr Ld 1 (rs 10 (Ld 1) p1 (bW (rg 10 (Ld 1) p1) p2)))) H := hP
    have hD : va_D A0 (wLand D Ad nsd fogd nrd (sr Ld 1 (rs 10 (Ld 1) p1 (bW (rg 10 (Ld 1) p1) p2)))) := hD
    refine W.eq (g2 := F0 m 37 ls []) rfl ?_
    exact eWv hx hb hr hlocks dX0_putSight_37 hS hP (by first | (rw [if_pos (by assumption)]; first | done | rfl) | (rw [if_neg (by assumption)]; first | done | rfl))

set_option maxHeartbeats 4000000 in
set_option maxRecDepth 100000 in
theorem c_X0_putRoad (l : Launch) (D : GG) (Ad : Nat → Nat) (nsd : Nat) (fogd : Int32) (nrd : Nat) (Ld : Nat → Nat → Int32) (p1 : Int32) (p2 : Int32) (p3 : Int32)  : Met l yX0_putRoad wsX0_putRoad ({ frames := 1, cells := 0, slots := 0, locals := 22 } : Room) (va_Pc [.ref (Ad 0), .int p1, .int p2, .int p3] (wd D (wLand D Ad nsd fogd nrd Ld))) (QW D (some (.int (nI nrd))) (wLand D Ad nsd fogd (nrd + 1) (sr (sr (sr Ld 2 (rs 15 (Ld 2) (nI nrd) p1)) 3 (rs 15 (Ld 3) (nI nrd) p2)) 4 (rs 15 (Ld 4) (nI nrd) p3))) (own (wLand D Ad nsd fogd nrd Ld))) 0 0 (own (wLand D Ad nsd fogd nrd Ld)) := by
  refine Met.ofW (cc := cX0_putRoad) (maxL := 4) (ret := (some .int)) (by decide) rfl ?_
  intro p e s m args below meth c s₁ B hml hv
  obtain ⟨rfl, hP, hK, hD, hN⟩ := hv
  have hx := B.exec
  have hb := B.bytes
  have hr := B.returns
  have hts := atoms_spec (ws := wsX0_putRoad) B.pre
  have hown : s.vm.findClass RX0 = some m.cls := findClass_of_methodNamed B.named
  have hlocks := B.notSynchronized
  have hinX0 : ∀ w ∈ u_ws RX0 TX0 8, w ∈ wsX0_putRoad := by decide +kernel
  have hS : va_S (own (wLand D Ad nsd fogd nrd Ld)) s.heap s.heap [] := va_S.rf
  have hD : va_D (own (wLand D Ad nsd fogd nrd Ld)) (wLand D Ad nsd fogd nrd Ld) := toOwn hD
  generalize hAe : own (wLand D Ad nsd fogd nrd Ld) = A0 at hD hS ⊢
  have hl := lv_entry ([.ref (Ad 0), .int p1, .int p2, .int p3]) (n := 4) (Nat.le_of_ble_eq_true rfl)
  rw [lg_entry_eq]
  generalize (lg_sl ([.ref (Ad 0), .int p1, .int p2, .int p3]) ++ List.replicate (4 - (lg_sl ([.ref (Ad 0), .int p1, .int p2, .int p3])).length) Slot.unset).toArray = ls at hl ⊢
  have hl : lv_has ls 4 [(0, .ref (Ad 0)), (1, .int p1), (2, .int p2), (3, .int p3)] := hl
  refine lv_aload_n hx hb dX0_putRoad_0 rfl (lv_at hl 0 rfl) ?_
  refine va_get (D := D.1) (ci := 0) (v := .ref (Ad 3)) (C := RX0) (T := TX0) (N := 8) hx hb hts hinX0 hown hK hP 0 rfl rfl 5 (by decide) (hts (.fieldLink RX0 23 "MountainPost$Land" "endsA" "LMountainPost$Row;") (List.mem_of_getElem? (i := 1) rfl)) (fun _ h9 => h9) rfl dX0_putRoad_1 ?_
  refine lv_aload_n hx hb dX0_putRoad_4 rfl (lv_at hl 0 rfl) ?_
  refine va_get (D := D.1) (ci := 0) (v := .int (nI nrd)) (C := RX0) (T := TX0) (N := 8) hx hb hts hinX0 hown hK hP 0 rfl rfl 4 (by decide) (hts (.fieldLink RX0 51 "MountainPost$Land" "roadCount" "I") (List.mem_of_getElem? (i := 2) rfl)) (fun _ h9 => h9) rfl dX0_putRoad_5 ?_
  refine lv_iload_n hx hb dX0_putRoad_8 rfl (lv_at hl 1 rfl) ?_
  refine kVw ⟨hx, hb, hml, hown, hts⟩ (c_X3_set l D (Ad 3) (Ad 8) 15 (Ld 2) (nI nrd) p1 (by decide)) (cwV 2 hts gX0_putRoad_X3_set rfl rfl rfl (by decide +kernel) ⟨Nat.le_of_ble_eq_true rfl, Nat.le_of_ble_eq_true rfl⟩) hK hN hP hD hS frLand2 3 0 rfl rfl rfl hl.1 (Nat.le_of_ble_eq_true rfl) ⟨Nat.zero_le _, Nat.zero_le _⟩ dX0_putRoad_9 (fun H locs hP hD hS => ?_) rfl
  have hP : va_P D.1 vwCl (wLand D Ad nsd fogd nrd (sr Ld 2 (rs 15 (Ld 2) (nI nrd) p1))) H := hP
  have hD : va_D A0 (wLand D Ad nsd fogd nrd (sr Ld 2 (rs 15 (Ld 2) (nI nrd) p1))) := hD
  refine W.eq (g2 := F0 m 12 ls []) rfl ?_
  refine lv_aload_n hx hb dX0_putRoad_12 rfl (lv_at hl 0 rfl) ?_
  refine va_get (D := D.1) (ci := 0) (v := .ref (Ad 4)) (C := RX0) (T := TX0) (N := 8) hx hb hts hinX0 hown hK hP 0 rfl rfl 6 (by decide) (hts (.fieldLink RX0 26 "MountainPost$Land" "endsB" "LMountainPost$Row;") (List.mem_of_getElem? (i := 3) rfl)) (fun _ h9 => h9) rfl dX0_putRoad_13 ?_
  refine lv_aload_n hx hb dX0_putRoad_16 rfl (lv_at hl 0 rfl) ?_
  refine va_get (D := D.1) (ci := 0) (v := .int (nI nrd)) (C := RX0) (T := TX0) (N := 8) hx hb hts hinX0 hown hK hP 0 rfl rfl 4 (by decide) (hts (.fieldLink RX0 51 "MountainPost$Land" "roadCount" "I") (List.mem_of_getElem? (i := 2) rfl)) (fun _ h9 => h9) rfl dX0_putRoad_17 ?_
  refine lv_iload_n hx hb dX0_putRoad_20 rfl (lv_at hl 2 rfl) ?_
  refine kVw ⟨hx, hb, hml, hown, hts⟩ (c_X3_set l D (Ad 4) (Ad 9) 15 (Ld 3) (nI nrd) p2 (by decide)) (cwV 2 hts gX0_putRoad_X3_set rfl rfl rfl (by decide +kernel) ⟨Nat.le_of_ble_eq_true rfl, Nat.le_of_ble_eq_true rfl⟩) hK hN hP hD hS frLand3 3 0 rfl rfl rfl hl.1 (Nat.le_of_ble_eq_true rfl) ⟨Nat.zero_le _, Nat.zero_le _⟩ dX0_putRoad_21 (fun H locs hP hD hS => ?_) rfl
  have hP : va_P D.1 vwCl (wLand D Ad nsd fogd nrd (sr (sr Ld 2 (rs 15 (Ld 2) (nI nrd) p1)) 3 (rs 15 (Ld 3) (nI nrd) p2))) H := hP
  have hD : va_D A0 (wLand D Ad nsd fogd nrd (sr (sr Ld 2 (rs 15 (Ld 2) (nI nrd) p1)) 3 (rs 15 (Ld 3) (nI nrd) p2))) := hD
  refine W.eq (g2 := F0 m 24 ls []) rfl ?_
  refine lv_aload_n hx hb dX0_putRoad_24 rfl (lv_at hl 0 rfl) ?_
  refine va_get (D := D.1) (ci := 0) (v := .ref (Ad 5)) (C := RX0) (T := TX0) (N := 8) hx hb hts hinX0 hown hK hP 0 rfl rfl 7 (by decide) (hts (.fieldLink RX0 29 "MountainPost$Land" "lengths" "LMountainPost$Row;") (List.mem_of_getElem? (i := 4) rfl)) (fun _ h9 => h9) rfl dX0_putRoad_25 ?_
  refine lv_aload_n hx hb dX0_putRoad_28 rfl (lv_at hl 0 rfl) ?_
  refine va_get (D := D.1) (ci := 0) (v := .int (nI nrd)) (C := RX0) (T := TX0) (N := 8) hx hb hts hinX0 hown hK hP 0 rfl rfl 4 (by decide) (hts (.fieldLink RX0 51 "MountainPost$Land" "roadCount" "I") (List.mem_of_getElem? (i := 2) rfl)) (fun _ h9 => h9) rfl dX0_putRoad_29 ?_
  refine lv_iload_n hx hb dX0_putRoad_32 rfl (lv_at hl 3 rfl) ?_
  refine kVw ⟨hx, hb, hml, hown, hts⟩ (c_X3_set l D (Ad 5) (Ad 10) 15 (Ld 4) (nI nrd) p3 (by decide)) (cwV 2 hts gX0_putRoad_X3_set rfl rfl rfl (by decide +kernel) ⟨Nat.le_of_ble_eq_true rfl, Nat.le_of_ble_eq_true rfl⟩) hK hN hP hD hS frLand4 3 0 rfl rfl rfl hl.1 (Nat.le_of_ble_eq_true rfl) ⟨Nat.zero_le _, Nat.zero_le _⟩ dX0_putRoad_33 (fun H locs hP hD hS => ?_) rfl
  have hP : va_P D.1 vwCl (wLand D Ad nsd fogd nrd (sr (sr (sr Ld 2 (rs 15 (Ld 2) (nI nrd) p1)) 3 (rs 15 (Ld 3) (nI nrd) p2)) 4 (rs 15 (Ld 4) (nI nrd) p3))) H := hP
  have hD : va_D A0 (wLand D Ad nsd fogd nrd (sr (sr (sr Ld 2 (rs 15 (Ld 2) (nI nrd) p1)) 3 (rs 15 (Ld 3) (nI nrd) p2)) 4 (rs 15 (Ld 4) (nI nrd) p3))) := hD
  refine W.eq (g2 := F0 m 36 ls []) rfl ?_
  refine lv_aload_n hx hb dX0_putRoad_36 rfl (lv_at hl 0 rfl) ?_
  refine lv_dup hx hb dX0_putRoad_37 rfl ?_
  refine va_get (D := D.1) (ci := 0) (v := .int (nI nrd)) (C := RX0) (T := TX0) (N := 8) hx hb hts hinX0 hown hK hP 0 rfl rfl 4 (by decide) (hts (.fieldLink RX0 51 "MountainPost$Land" "roadCount" "I") (List.mem_of_getElem? (i := 2) rfl)) (fun _ h9 => h9) rfl dX0_putRoad_38 ?_
  refine lv_iconst (v := 1) hx hb dX0_putRoad_41 (by decide) ?_
  refine lv_iadd hx hb dX0_putRoad_42 ?_
  refine W.eq (g2 := F0 m 43 ls [.int (nI (nrd + 1)), .ref (Ad 0)]) (by rw [show ((nI nrd) + 1) = nI (nrd + 1) from nI_1 nrd]) ?_
  refine va_put (D := D.1) (ci := 0) (v := .int (nI (nrd + 1))) (ty := .int) (C := RX0) (T := TX0) (N := 8) hx hb hts hinX0 tyX0 tyX0_ok nmX0 hown hK hP hD hS 0 rfl rfl 4 (by decide) (hts (.fieldLink RX0 51 "MountainPost$Land" "roadCount" "I") (List.mem_of_getElem? (i := 2) rfl)) (fun _ h9 => h9) rfl (by decide +kernel) rfl rfl (Nat.le_of_ble_eq_true rfl) dX0_putRoad_43 (fun H locs hP hD hS => ?_)
  have hP : va_P D.1 vwCl (wLand D Ad nsd fogd (nrd + 1) (sr (sr (sr Ld 2 (rs 15 (Ld 2) (nI nrd) p1)) 3 (rs 15 (Ld 3) (nI nrd) p2)) 4 (rs 15 (Ld 4) (nI nrd) p3))) H := hP
  have hD : va_D A0 (wLand D Ad nsd fogd (nrd + 1) (sr (sr (sr Ld 2 (rs 15 (Ld 2) (nI nrd) p1)) 3 (rs 15 (Ld 3) (nI nrd) p2)) 4 (rs 15 (Ld 4) (nI nrd) p3))) := hD
  refine lv_aload_n hx hb dX0_putRoad_46 rfl (lv_at hl 0 rfl) ?_
  refine va_get (D := D.1) (ci := 0) (v := .int (nI (nrd + 1))) (C := RX0) (T := TX0) (N := 8) hx hb hts hinX0 hown hK hP 0 rfl rfl 4 (by decide) (hts (.fieldLink RX0 51 "MountainPost$Land" "roadCount" "I") (List.mem_of_getElem? (i := 2) rfl)) (fun _ h9 => h9) rfl dX0_putRoad_47 ?_
  refine lv_iconst (v := 1) hx hb dX0_putRoad_50 (by decide) ?_
  refine lv_isub hx hb dX0_putRoad_51 ?_
  exact eWi hx hb hr hlocks dX0_putRoad_52 hS hP (by exact nI_pred nrd) (by rfl)
