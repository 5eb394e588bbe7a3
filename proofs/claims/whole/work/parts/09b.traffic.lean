set_option maxHeartbeats 4000000 in
set_option maxRecDepth 100000 in
theorem c_X4_setOut (l : Launch) (D : GG) (ot : Nat) (Ad : Nat → Nat) (Aw : Nat → Nat) (Am : Nat → Nat) (Ae : Nat → Nat) (xt : Nat) (hou : Int32) (cro : Int32) (Lw : Nat → Nat → Int32) (nm : Nat) (Lm : Nat → Nat → Int32) (ne : Nat) (Le : Nat → Nat → Int32) (nsd : Nat) (fogd : Int32) (nrd : Nat) (Ld : Nat → Nat → Int32) (p1 : Int32) (he : ne < 2 ^ 31) (hm : nm < 2 ^ 31) : Met l yX4_setOut wsX4_setOut ({ frames := 3, cells := 0, slots := 0, locals := 67 } : Room) (va_Pc [.ref ot, .int p1] (wd D ((wTob ot Ad Aw Am Ae xt hou cro) ++ ((wWays D Aw Lw) ++ ((wMul D Am nm Lm) ++ ((wLet D Ae ne Le) ++ (wLand D Ad nsd fogd nrd Ld))))))) (QW D none ((wTob ot Ad Aw Am Ae xt hou (ouC Ld Lm Le nm ne p1 cro)) ++ ((wWays D Aw Lw) ++ ((wMul D Am nm (outM Ld Lm p1)) ++ ((wLet D Ae ne Le) ++ (wLand D Ad nsd fogd nrd Ld))))) (own ((wTob ot Ad Aw Am Ae xt hou cro) ++ ((wWays D Aw Lw) ++ ((wMul D Am nm Lm) ++ ((wLet D Ae ne Le) ++ (wLand D Ad nsd fogd nrd Ld))))))) 0 0 (own ((wTob ot Ad Aw Am Ae xt hou cro) ++ ((wWays D Aw Lw) ++ ((wMul D Am nm Lm) ++ ((wLet D Ae ne Le) ++ (wLand D Ad nsd fogd nrd Ld)))))) := by
  refine Met.ofW (cc := cX4_setOut) (maxL := 5) (ret := none) (by decide) rfl ?_
  intro p e s m args below meth c s₁ B hml hv
  obtain ⟨rfl, hP, hK, hD, hN⟩ := hv
  have hx := B.exec
  have hb := B.bytes
  have hr := B.returns
  have hts := atoms_spec (ws := wsX4_setOut) B.pre
  have hown : s.vm.findClass RX4 = some m.cls := findClass_of_methodNamed B.named
  have hlocks := B.notSynchronized
  have hinX2 : ∀ w ∈ u_ws RX2 TX2 6, w ∈ wsX4_setOut := by decide +kernel
  have hinX4 : ∀ w ∈ u_ws RX4 TX4 7, w ∈ wsX4_setOut := by decide +kernel
  have hS : va_S (own ((wTob ot Ad Aw Am Ae xt hou cro) ++ ((wWays D Aw Lw) ++ ((wMul D Am nm Lm) ++ ((wLet D Ae ne Le) ++ (wLand D Ad nsd fogd nrd Ld)))))) s.heap s.heap [] := va_S.rf
  have hD : va_D (own ((wTob ot Ad Aw Am Ae xt hou cro) ++ ((wWays D Aw Lw) ++ ((wMul D Am nm Lm) ++ ((wLet D Ae ne Le) ++ (wLand D Ad nsd fogd nrd Ld)))))) ((wTob ot Ad Aw Am Ae xt hou cro) ++ ((wWays D Aw Lw) ++ ((wMul D Am nm Lm) ++ ((wLet D Ae ne Le) ++ (wLand D Ad nsd fogd nrd Ld))))) := toOwn hD
  generalize hAe : own ((wTob ot Ad Aw Am Ae xt hou cro) ++ ((wWays D Aw Lw) ++ ((wMul D Am nm Lm) ++ ((wLet D Ae ne Le) ++ (wLand D Ad nsd fogd nrd Ld))))) = A0 at hD hS ⊢
  have hl := lv_entry ([.ref ot, .int p1]) (n := 5) (Nat.le_of_ble_eq_true rfl)
  rw [lg_entry_eq]
  generalize (lg_sl ([.ref ot, .int p1]) ++ List.replicate (5 - (lg_sl ([.ref ot, .int p1])).length) Slot.unset).toArray = ls at hl ⊢
  have hl : lv_has ls 5 [(0, .ref ot), (1, .int p1)] := hl
  refine lv_aload_n hx hb dX4_setOut_0 rfl (lv_at hl 0 rfl) ?_
  refine va_get (D := D.1) (ci := 4) (v := .ref (Am 0)) (C := RX4) (T := TX4) (N := 7) hx hb hts hinX4 hown hK (sP (Sb.l Sb.self) hP) 0 rfl rfl 2 (by decide) (hts (.fieldLink RX4 21 "MountainPost$Traffic" "mules" "LMountainPost$Mules;") (List.mem_of_getElem? (i := 1) rfl)) (fun _ h9 => h9) rfl dX4_setOut_1 ?_
  refine va_getN (D := D.1) (ci := 2) (v := .ref (Am 1)) (C := RX2) (T := TX2) (N := 6) hx hb hts hinX2 hown hK (sP (Sb.r (Sb.r (Sb.l Sb.self))) hP) 0 rfl rfl 1 (by decide) (hN.f 38 rfl) (fun _ h9 => h9) rfl dX4_setOut_4 ?_
  refine lv_iload_n hx hb dX4_setOut_7 rfl (lv_at hl 1 rfl) ?_
  refine kVp ⟨hx, hb, hml, hown, hts⟩ (c_X3_get l D (Am 1) (Am 6) 12 (Lm 0) p1 (by decide)) (cwV 1 hts gX4_setOut_X3_get rfl rfl rfl (by decide +kernel) ⟨Nat.le_of_ble_eq_true rfl, Nat.le_of_ble_eq_true rfl⟩) hK hN hP hD (Sb.r (Sb.r (Sb.l sbMul0))) 3 0 rfl rfl rfl hl.1 (Nat.le_of_ble_eq_true rfl) ⟨Nat.zero_le _, Nat.zero_le _⟩ dX4_setOut_8 ?_ rfl
  refine lv_istore_n (lv' := [(2, .int (rg 12 (Lm 0) p1)), (0, .ref ot), (1, .int p1)]) hx hb dX4_setOut_11 rfl hl (by decide) rfl (fun ls hl => ?_)
  refine lv_aload_n hx hb dX4_setOut_12 rfl (lv_at hl 1 rfl) ?_
  refine va_get (D := D.1) (ci := 4) (v := .ref (Am 0)) (C := RX4) (T := TX4) (N := 7) hx hb hts hinX4 hown hK (sP (Sb.l Sb.self) hP) 0 rfl rfl 2 (by decide) (hts (.fieldLink RX4 21 "MountainPost$Traffic" "mules" "LMountainPost$Mules;") (List.mem_of_getElem? (i := 1) rfl)) (fun _ h9 => h9) rfl dX4_setOut_13 ?_
  refine va_getN (D := D.1) (ci := 2) (v := .ref (Am 3)) (C := RX2) (T := TX2) (N := 6) hx hb hts hinX2 hown hK (sP (Sb.r (Sb.r (Sb.l Sb.self))) hP) 0 rfl rfl 3 (by decide) (hN.f 33 rfl) (fun _ h9 => h9) rfl dX4_setOut_16 ?_
  refine lv_iload_n hx hb dX4_setOut_19 rfl (lv_at hl 2 rfl) ?_
  refine kVp ⟨hx, hb, hml, hown, hts⟩ (c_X3_get l D (Am 3) (Am 8) 12 (Lm 2) p1 (by decide)) (cwV 1 hts gX4_setOut_X3_get rfl rfl rfl (by decide +kernel) ⟨Nat.le_of_ble_eq_true rfl, Nat.le_of_ble_eq_true rfl⟩) hK hN hP hD (Sb.r (Sb.r (Sb.l sbMul2))) 3 0 rfl rfl rfl hl.1 (Nat.le_of_ble_eq_true rfl) ⟨Nat.zero_le _, Nat.zero_le _⟩ dX4_setOut_20 ?_ rfl
  refine lv_istore_n (lv' := [(3, .int (rg 12 (Lm 2) p1)), (2, .int (rg 12 (Lm 0) p1)), (0, .ref ot), (1, .int p1)]) hx hb dX4_setOut_23 rfl hl (by decide) rfl (fun ls hl => ?_)
  refine lv_aload_n hx hb dX4_setOut_24 rfl (lv_at hl 2 rfl) ?_
  refine va_get (D := D.1) (ci := 4) (v := .ref (Ad 0)) (C := RX4) (T := TX4) (N := 7) hx hb hts hinX4 hown hK (sP (Sb.l Sb.self) hP) 0 rfl rfl 0 (by decide) (hts (.fieldLink RX4 41 "MountainPost$Traffic" "land" "LMountainPost$Land;") (List.mem_of_getElem? (i := 2) rfl)) (fun _ h9 => h9) rfl dX4_setOut_25 ?_
  refine lv_iload_n hx hb dX4_setOut_28 rfl (lv_at hl 1 rfl) ?_
  refine lv_iload_n hx hb dX4_setOut_29 rfl (lv_at hl 0 rfl) ?_
  refine kVp ⟨hx, hb, hml, hown, hts⟩ (c_X0_otherEnd l D Ad nsd fogd nrd Ld (rg 12 (Lm 0) p1) (rg 12 (Lm 2) p1)) (cwV 2 hts gX4_setOut_X0_otherEnd rfl rfl rfl (by decide +kernel) ⟨Nat.le_of_ble_eq_true rfl, Nat.le_of_ble_eq_true rfl⟩) hK hN hP hD (Sb.r (Sb.r (Sb.r (Sb.r Sb.self)))) 0 0 rfl rfl rfl hl.1 (Nat.le_of_ble_eq_true rfl) ⟨Nat.zero_le _, Nat.zero_le _⟩ dX4_setOut_30 ?_ rfl
  refine lv_istore (lv' := [(4, .int (othC Ld (rg 12 (Lm 0) p1) (rg 12 (Lm 2) p1))), (3, .int (rg 12 (Lm 2) p1)), (2, .int (rg 12 (Lm 0) p1)), (0, .ref ot), (1, .int p1)]) hx hb dX4_setOut_33 hl (by decide) rfl (fun ls hl => ?_)
  refine lv_aload_n hx hb dX4_setOut_35 rfl (lv_at hl 3 rfl) ?_
  refine va_get (D := D.1) (ci := 4) (v := .ref (Am 0)) (C := RX4) (T := TX4) (N := 7) hx hb hts hinX4 hown hK (sP (Sb.l Sb.self) hP) 0 rfl rfl 2 (by decide) (hts (.fieldLink RX4 21 "MountainPost$Traffic" "mules" "LMountainPost$Mules;") (List.mem_of_getElem? (i := 1) rfl)) (fun _ h9 => h9) rfl dX4_setOut_36 ?_
  refine va_getN (D := D.1) (ci := 2) (v := .ref (Am 3)) (C := RX2) (T := TX2) (N := 6) hx hb hts hinX2 hown hK (sP (Sb.r (Sb.r (Sb.l Sb.self))) hP) 0 rfl rfl 3 (by decide) (hN.f 33 rfl) (fun _ h9 => h9) rfl dX4_setOut_39 ?_
  refine lv_iload_n hx hb dX4_setOut_42 rfl (lv_at hl 4 rfl) ?_
  refine lv_iload hx hb dX4_setOut_43 (lv_at hl 0 rfl) ?_
  refine kVw ⟨hx, hb, hml, hown, hts⟩ (c_X3_set l D (Am 3) (Am 8) 12 (Lm 2) p1 (othC Ld (rg 12 (Lm 0) p1) (rg 12 (Lm 2) p1)) (by decide)) (cwV 2 hts gX4_setOut_X3_set rfl rfl rfl (by decide +kernel) ⟨Nat.le_of_ble_eq_true rfl, Nat.le_of_ble_eq_true rfl⟩) hK hN hP hD hS (Fr.r (Fr.r (Fr.l frMul2))) 3 0 rfl rfl rfl hl.1 (Nat.le_of_ble_eq_true rfl) ⟨Nat.zero_le _, Nat.zero_le _⟩ dX4_setOut_45 (fun H locs hP hD hS => ?_) rfl
  have hP : va_P D.1 vwCl ((wTob ot Ad Aw Am Ae xt hou cro) ++ ((wWays D Aw Lw) ++ ((wMul D Am nm (sr Lm 2 (rs 12 (Lm 2) p1 (othC Ld (rg 12 (Lm 0) p1) (rg 12 (Lm 2) p1))))) ++ ((wLet D Ae ne Le) ++ (wLand D Ad nsd fogd nrd Ld))))) H := hP
  have hD : va_D A0 ((wTob ot Ad Aw Am Ae xt hou cro) ++ ((wWays D Aw Lw) ++ ((wMul D Am nm (sr Lm 2 (rs 12 (Lm 2) p1 (othC Ld (rg 12 (Lm 0) p1) (rg 12 (Lm 2) p1))))) ++ ((wLet D Ae ne Le) ++ (wLand D Ad nsd fogd nrd Ld))))) := hD
  refine W.eq (g2 := F0 m 48 ls []) rfl ?_
  refine lv_aload_n hx hb dX4_setOut_48 rfl (lv_at hl 3 rfl) ?_
  refine va_get (D := D.1) (ci := 4) (v := .ref (Am 0)) (C := RX4) (T := TX4) (N := 7) hx hb hts hinX4 hown hK (sP (Sb.l Sb.self) hP) 0 rfl rfl 2 (by decide) (hts (.fieldLink RX4 21 "MountainPost$Traffic" "mules" "LMountainPost$Mules;") (List.mem_of_getElem? (i := 1) rfl)) (fun _ h9 => h9) rfl dX4_setOut_49 ?_
  refine va_getN (D := D.1) (ci := 2) (v := .ref (Am 4)) (C := RX2) (T := TX2) (N := 6) hx hb hts hinX2 hown hK (sP (Sb.r (Sb.r (Sb.l Sb.self))) hP) 0 rfl rfl 4 (by decide) (hN.f 30 rfl) (fun _ h9 => h9) rfl dX4_setOut_52 ?_
  refine lv_iload_n hx hb dX4_setOut_55 rfl (lv_at hl 4 rfl) ?_
  refine lv_aload_n hx hb dX4_setOut_56 rfl (lv_at hl 3 rfl) ?_
  refine va_get (D := D.1) (ci := 4) (v := .ref (Ad 0)) (C := RX4) (T := TX4) (N := 7) hx hb hts hinX4 hown hK (sP (Sb.l Sb.self) hP) 0 rfl rfl 0 (by decide) (hts (.fieldLink RX4 41 "MountainPost$Traffic" "land" "LMountainPost$Land;") (List.mem_of_getElem? (i := 2) rfl)) (fun _ h9 => h9) rfl dX4_setOut_57 ?_
  refine lv_iload_n hx hb dX4_setOut_60 rfl (lv_at hl 2 rfl) ?_
  refine lv_iload_n hx hb dX4_setOut_61 rfl (lv_at hl 1 rfl) ?_
  refine lv_iload hx hb dX4_setOut_62 (lv_at hl 0 rfl) ?_
  refine kVp ⟨hx, hb, hml, hown, hts⟩ (c_X0_hoursBetween l D Ad nsd fogd nrd Ld (rg 12 (Lm 0) p1) (rg 12 (Lm 2) p1) (othC Ld (rg 12 (Lm 0) p1) (rg 12 (Lm 2) p1))) (cwV 3 hts gX4_setOut_X0_hoursBetween rfl rfl rfl (by decide +kernel) ⟨Nat.le_of_ble_eq_true rfl, Nat.le_of_ble_eq_true rfl⟩) hK hN hP hD (Sb.r (Sb.r (Sb.r (Sb.r Sb.self)))) 0 0 rfl rfl rfl hl.1 (Nat.le_of_ble_eq_true rfl) ⟨Nat.zero_le _, Nat.zero_le _⟩ dX4_setOut_64 ?_ rfl
  refine kVw ⟨hx, hb, hml, hown, hts⟩ (c_X3_set l D (Am 4) (Am 9) 12 (Lm 3) p1 (hrsC Ld (rg 12 (Lm 0) p1) (rg 12 (Lm 2) p1) (othC Ld (rg 12 (Lm 0) p1) (rg 12 (Lm 2) p1))) (by decide)) (cwV 2 hts gX4_setOut_X3_set rfl rfl rfl (by decide +kernel) ⟨Nat.le_of_ble_eq_true rfl, Nat.le_of_ble_eq_true rfl⟩) hK hN hP hD hS (Fr.r (Fr.r (Fr.l frMul3))) 3 0 rfl rfl rfl hl.1 (Nat.le_of_ble_eq_true rfl) ⟨Nat.zero_le _, Nat.zero_le _⟩ dX4_setOut_67 (fun H locs hP hD hS => ?_) rfl
  have hP : va_P D.1 vwCl ((wTob ot Ad Aw Am Ae xt hou cro) ++ ((wWays D Aw Lw) ++ ((wMul D Am nm (sr (sr Lm 2 (rs 12 (Lm 2) p1 (othC Ld (rg 12 (Lm 0) p1) (rg 12 (Lm 2) p1)))) 3 (rs 12 (Lm 3) p1 (hrsC Ld (rg 12 (Lm 0) p1) (rg 12 (Lm 2) p1) (othC Ld (rg 12 (Lm 0) p1) (rg 12 (Lm 2) p1)))))) ++ ((wLet D Ae ne Le) ++ (wLand D Ad nsd fogd nrd Ld))))) H := hP
  have hD : va_D A0 ((wTob ot Ad Aw Am Ae xt hou cro) ++ ((wWays D Aw Lw) ++ ((wMul D Am nm (sr (sr Lm 2 (rs 12 (Lm 2) p1 (othC Ld (rg 12 (Lm 0) p1) (rg 12 (Lm 2) p1)))) 3 (rs 12 (Lm 3) p1 (hrsC Ld (rg 12 (Lm 0) p1) (rg 12 (Lm 2) p1) (othC Ld (rg 12 (Lm 0) p1) (rg 12 (Lm 2) p1)))))) ++ ((wLet D Ae ne Le) ++ (wLand D Ad nsd fogd nrd Ld))))) := hD
  refine W.eq (g2 := F0 m 70 ls []) rfl ?_
  refine lv_aload_n hx hb dX4_setOut_70 rfl (lv_at hl 3 rfl) ?_
  refine va_get (D := D.1) (ci := 4) (v := .ref (Am 0)) (C := RX4) (T := TX4) (N := 7) hx hb hts hinX4 hown hK (sP (Sb.l Sb.self) hP) 0 rfl rfl 2 (by decide) (hts (.fieldLink RX4 21 "MountainPost$Traffic" "mules" "LMountainPost$Mules;") (List.mem_of_getElem? (i := 1) rfl)) (fun _ h9 => h9) rfl dX4_setOut_71 ?_
  refine lv_iload_n hx hb dX4_setOut_74 rfl (lv_at hl 2 rfl) ?_
  refine kVp ⟨hx, hb, hml, hown, hts⟩ (c_X2_underWayOn l D Am nm (sr (sr Lm 2 (rs 12 (Lm 2) p1 (othC Ld (rg 12 (Lm 0) p1) (rg 12 (Lm 2) p1)))) 3 (rs 12 (Lm 3) p1 (hrsC Ld (rg 12 (Lm 0) p1) (rg 12 (Lm 2) p1) (othC Ld (rg 12 (Lm 0) p1) (rg 12 (Lm 2) p1))))) (rg 12 (Lm 0) p1) (by assumption)) (cwV 1 hts gX4_setOut_X2_underWayOn rfl rfl rfl (by decide +kernel) ⟨Nat.le_of_ble_eq_true rfl, Nat.le_of_ble_eq_true rfl⟩) hK hN hP hD (Sb.r (Sb.r (Sb.l Sb.self))) 2 0 rfl rfl rfl hl.1 (Nat.le_of_ble_eq_true rfl) ⟨Nat.zero_le _, Nat.zero_le _⟩ dX4_setOut_75 ?_ rfl
  refine lv_iconst (v := 1) hx hb dX4_setOut_78 (by decide) ?_
  refine lv_icmp_le (tgt := 96) hx hb dX4_setOut_79 (by decide) (fun c1 => ?_) (fun c1 => ?_)
  · exact eWv hx hb hr hlocks dX4_setOut_96 hS hP (by first | (rw [ouC, if_pos (show onWC (outM _ _ _) _ _ ≤ 1 from (by assumption))]; first | done | rfl) | (rw [ouC, if_neg (show ¬ onWC (outM _ _ _) _ _ ≤ 1 from (by assumption))]; first | done | rfl))
  · refine lv_aload_n hx hb dX4_setOut_82 rfl (lv_at hl 3 rfl) ?_
    refine lv_dup hx hb dX4_setOut_83 rfl ?_
    refine va_get (D := D.1) (ci := 4) (v := .int cro) (C := RX4) (T := TX4) (N := 7) hx hb hts hinX4 hown hK (sP (Sb.l Sb.self) hP) 0 rfl rfl 6 (by decide) (hts (.fieldLink RX4 177 "MountainPost$Traffic" "crosses" "I") (List.mem_of_getElem? (i := 3) rfl)) (fun _ h9 => h9) rfl dX4_setOut_84 ?_
    refine lv_aload_n hx hb dX4_setOut_87 rfl (lv_at hl 3 rfl) ?_
    refine lv_iload_n hx hb dX4_setOut_88 rfl (lv_at hl 4 rfl) ?_
    refine kVp ⟨hx, hb, hml, hown, hts⟩ (c_X4_crossesOf l D ot Ad Aw Am Ae xt hou cro Lw nm (sr (sr Lm 2 (rs 12 (Lm 2) p1 (othC Ld (rg 12 (Lm 0) p1) (rg 12 (Lm 2) p1)))) 3 (rs 12 (Lm 3) p1 (hrsC Ld (rg 12 (Lm 0) p1) (rg 12 (Lm 2) p1) (othC Ld (rg 12 (Lm 0) p1) (rg 12 (Lm 2) p1))))) ne Le nsd fogd nrd Ld p1 (by assumption)) (cwV 1 hts gX4_setOut_X4_crossesOf rfl rfl rfl (by decide +kernel) ⟨Nat.le_of_ble_eq_true rfl, Nat.le_of_ble_eq_true rfl⟩) hK hN hP hD (Sb.app Sb.self (Sb.app Sb.self (Sb.app Sb.self (Sb.app Sb.self Sb.self)))) 4 0 rfl rfl rfl hl.1 (Nat.le_of_ble_eq_true rfl) ⟨Nat.zero_le _, Nat.zero_le _⟩ dX4_setOut_89 ?_ rfl
    refine lv_iadd hx hb dX4_setOut_92 ?_
    refine va_put (D := D.1) (ci := 4) (v := .int (cro + (crG (sr (sr Lm 2 (rs 12 (Lm 2) p1 (othC Ld (rg 12 (Lm 0) p1) (rg 12 (Lm 2) p1)))) 3 (rs 12 (Lm 3) p1 (hrsC Ld (rg 12 (Lm 0) p1) (rg 12 (Lm 2) p1) (othC Ld (rg 12 (Lm 0) p1) (rg 12 (Lm 2) p1))))) Le ne p1 ne))) (ty := .int) (C := RX4) (T := TX4) (N := 7) hx hb hts hinX4 tyX4 tyX4_ok nmX4 hown hK hP hD hS 0 rfl rfl 6 (by decide) (hts (.fieldLink RX4 177 "MountainPost$Traffic" "crosses" "I") (List.mem_of_getElem? (i := 3) rfl)) (fun _ h9 => h9) rfl (by decide +kernel) rfl rfl (Nat.le_of_ble_eq_true rfl) dX4_setOut_93 (fun H locs hP hD hS => ?_)
    have hP : va_P D.1 vwCl ((wTob ot Ad Aw Am Ae xt hou (cro + (crG (sr (sr Lm 2 (rs 12 (Lm 2) p1 (othC Ld (rg 12 (Lm 0) p1) (rg 12 (Lm 2) p1)))) 3 (rs 12 (Lm 3) p1 (hrsC Ld (rg 12 (Lm 0) p1) (rg 12 (Lm 2) p1) (othC Ld (rg 12 (Lm 0) p1) (rg 12 (Lm 2) p1))))) Le ne p1 ne))) ++ ((wWays D Aw Lw) ++ ((wMul D Am nm (sr (sr Lm 2 (rs 12 (Lm 2) p1 (othC Ld (rg 12 (Lm 0) p1) (rg 12 (Lm 2) p1)))) 3 (rs 12 (Lm 3) p1 (hrsC Ld (rg 12 (Lm 0) p1) (rg 12 (Lm 2) p1) (othC Ld (rg 12 (Lm 0) p1) (rg 12 (Lm 2) p1)))))) ++ ((wLet D Ae ne Le) ++ (wLand D Ad nsd fogd nrd Ld))))) H := hP
    have hD : va_D A0 ((wTob ot Ad Aw Am Ae xt hou (cro + (crG (sr (sr Lm 2 (rs 12 (Lm 2) p1 (othC Ld (rg 12 (Lm 0) p1) (rg 12 (Lm 2) p1)))) 3 (rs 12 (Lm 3) p1 (hrsC Ld (rg 12 (Lm 0) p1) (rg 12 (Lm 2) p1) (othC Ld (rg 12 (Lm 0) p1) (rg 12 (Lm 2) p1))))) Le ne p1 ne))) ++ ((wWays D Aw Lw) ++ ((wMul D Am nm (sr (sr Lm 2 (rs 12 (Lm 2) p1 (othC Ld (rg 12 (Lm 0) p1) (rg 12 (Lm 2) p1)))) 3 (rs 12 (Lm 3) p1 (hrsC Ld (rg 12 (Lm 0) p1) (rg 12 (Lm 2) p1) (othC Ld (rg 12 (Lm 0) p1) (rg 12 (Lm 2) p1)))))) ++ ((wLet D Ae ne Le) ++ (wLand D Ad nsd fogd nrd Ld))))) := hD
    exact eWv hx hb hr hlocks dX4_setOut_96 hS hP (by first | (rw [ouC, if_pos (show onWC (outM _ _ _) _ _ ≤ 1 from (by assumption))]; first | done | rfl) | (rw [ouC, if_neg (show ¬ onWC (outM _ _ _) _ _ ≤ 1 from (by assumption))]; first | done | rfl))

set_option maxHeartbeats 4000000 in
set_option maxRecDepth 100000 in
theorem c_X4_unload (l : Launch) (D : GG) (ot : Nat) (Ad : Nat → Nat) (Aw : Nat → Nat) (Am : Nat → Nat) (Ae : Nat → Nat) (xt : Nat) (hou : Int32) (cro : Int32) (Lw : Nat → Nat → Int32) (nm : Nat) (Lm : Nat → Nat → Int32) (ne : Nat) (Le : Nat → Nat → Int32) (nsd : Nat) (fogd : Int32) (nrd : Nat) (Ld : Nat → Nat → Int32) (p1 : Int32) (he : ne < 2 ^ 31) : Met l yX4_unload wsX4_unload ({ frames := 3, cells := 0, slots := 0, locals := 65 } : Room) (va_Pc [.ref ot, .int p1] (wd D ((wTob ot Ad Aw Am Ae xt hou cro) ++ ((wWays D Aw Lw) ++ ((wMul D Am nm Lm) ++ ((wLet D Ae ne Le) ++ (wLand D Ad nsd fogd nrd Ld))))))) (QW D none ((wTob ot Ad Aw Am Ae xt hou cro) ++ ((wWays D Aw Lw) ++ ((wMul D Am nm Lm) ++ ((wLet D Ae ne (unlF Le Lm p1 hou ne)) ++ (wLand D Ad nsd fogd nrd Ld))))) (own ((wTob ot Ad Aw Am Ae xt hou cro) ++ ((wWays D Aw Lw) ++ ((wMul D Am nm Lm) ++ ((wLet D Ae ne Le) ++ (wLand D Ad nsd fogd nrd Ld))))))) 0 0 (own ((wTob ot Ad Aw Am Ae xt hou cro) ++ ((wWays D Aw Lw) ++ ((wMul D Am nm Lm) ++ ((wLet D Ae ne Le) ++ (wLand D Ad nsd fogd nrd Ld)))))) := by
  refine Met.ofW (cc := cX4_unload) (maxL := 3) (ret := none) (by decide) rfl ?_
  intro p e s m args below meth c s₁ B hml hv
  obtain ⟨rfl, hP, hK, hD, hN⟩ := hv
  have hx := B.exec
  have hb := B.bytes
  have hr := B.returns
  have hts := atoms_spec (ws := wsX4_unload) B.pre
  have hown : s.vm.findClass RX4 = some m.cls := findClass_of_methodNamed B.named
  have hlocks := B.notSynchronized
  have hinX1 : ∀ w ∈ u_ws RX1 TX1 12, w ∈ wsX4_unload := by decide +kernel
  have hinX2 : ∀ w ∈ u_ws RX2 TX2 6, w ∈ wsX4_unload := by decide +kernel
  have hinX4 : ∀ w ∈ u_ws RX4 TX4 7, w ∈ wsX4_unload := by decide +kernel
  have hS : va_S (own ((wTob ot Ad Aw Am Ae xt hou cro) ++ ((wWays D Aw Lw) ++ ((wMul D Am nm Lm) ++ ((wLet D Ae ne Le) ++ (wLand D Ad nsd fogd nrd Ld)))))) s.heap s.heap [] := va_S.rf
  have hD : va_D (own ((wTob ot Ad Aw Am Ae xt hou cro) ++ ((wWays D Aw Lw) ++ ((wMul D Am nm Lm) ++ ((wLet D Ae ne Le) ++ (wLand D Ad nsd fogd nrd Ld)))))) ((wTob ot Ad Aw Am Ae xt hou cro) ++ ((wWays D Aw Lw) ++ ((wMul D Am nm Lm) ++ ((wLet D Ae ne Le) ++ (wLand D Ad nsd fogd nrd Ld))))) := toOwn hD
  generalize hAe : own ((wTob ot Ad Aw Am Ae xt hou cro) ++ ((wWays D Aw Lw) ++ ((wMul D Am nm Lm) ++ ((wLet D Ae ne Le) ++ (wLand D Ad nsd fogd nrd Ld))))) = A0 at hD hS ⊢
  have hl := lv_entry ([.ref ot, .int p1]) (n := 3) (Nat.le_of_ble_eq_true rfl)
  rw [lg_entry_eq]
  generalize (lg_sl ([.ref ot, .int p1]) ++ List.replicate (3 - (lg_sl ([.ref ot, .int p1])).length) Slot.unset).toArray = ls at hl ⊢
  have hl : lv_has ls 3 [(0, .ref ot), (1, .int p1)] := hl
  refine lv_iconst (v := 0) hx hb dX4_unload_0 (by decide) ?_
  refine lv_istore_n (lv' := [(2, .int 0), (0, .ref ot), (1, .int p1)]) hx hb dX4_unload_1 rfl hl (by decide) rfl (fun ls hl => ?_)
  have lp1 : ∀ (j1 : Nat) (k1 : Nat) (hk1 : k1 + j1 = ne) (x2_1 : Int32) (e2_1 : x2_1 = (nI k1)) (yeL_1 : Nat → Nat → Int32) (eyeL_1 : yeL_1 = (unlF Le Lm p1 hou k1)) (H : Heap) (locs : List Loc) (hP : va_P D.1 vwCl ((wTob ot Ad Aw Am Ae xt hou cro) ++ ((wWays D Aw Lw) ++ ((wMul D Am nm Lm) ++ ((wLet D Ae ne yeL_1) ++ (wLand D Ad nsd fogd nrd Ld))))) H) (hD : va_D A0 ((wTob ot Ad Aw Am Ae xt hou cro) ++ ((wWays D Aw Lw) ++ ((wMul D Am nm Lm) ++ ((wLet D Ae ne yeL_1) ++ (wLand D Ad nsd fogd nrd Ld)))))) (hS : va_S A0 s.heap H locs) (ls : Array Slot) (hl : lv_has ls 3 [(2, .int x2_1), (0, .ref ot), (1, .int p1)]), W p l e (headSpec wsX4_unload ({ frames := 3, cells := 0, slots := 0, locals := 65 } : Room)).room s m ([.ref ot, .int p1] : List Value).toArray below meth c H locs 0 0 (MQ below (QW D none ((wTob ot Ad Aw Am Ae xt hou cro) ++ ((wWays D Aw Lw) ++ ((wMul D Am nm Lm) ++ ((wLet D Ae ne (unlF Le Lm p1 hou ne)) ++ (wLand D Ad nsd fogd nrd Ld))))) A0) ([.ref ot, .int p1] : List Value).toArray s 0 0 A0) (F0 m 2 ls []) := by
    intro j1
    induction j1 with
    | zero =>
      intro k1 hk1 x2_1 e2_1 yeL_1 eyeL_1  H locs hP hD hS ls hl
      subst e2_1 eyeL_1
      have hkN1 : ne = k1 := (by omega)
      subst hkN1
      refine lv_iload_n hx hb dX4_unload_2 rfl (lv_at hl 0 rfl) ?_
      refine lv_aload_n hx hb dX4_unload_3 rfl (lv_at hl 1 rfl) ?_
      refine va_get (D := D.1) (ci := 4) (v := .ref (Ae 0)) (C := RX4) (T := TX4) (N := 7) hx hb hts hinX4 hown hK (sP (Sb.l Sb.self) hP) 0 rfl rfl 3 (by decide) (hts (.fieldLink RX4 28 "MountainPost$Traffic" "letters" "LMountainPost$Letters;") (List.mem_of_getElem? (i := 1) rfl)) (fun _ h9 => h9) rfl dX4_unload_4 ?_
      refine va_getN (D := D.1) (ci := 1) (v := .int (nI ne)) (C := RX1) (T := TX1) (N := 12) hx hb hts hinX1 hown hK (sP (Sb.r (Sb.r (Sb.r (Sb.l Sb.self)))) hP) 0 rfl rfl 0 (by decide) (hN.f 32 rfl) (fun _ h9 => h9) rfl dX4_unload_7 ?_
      refine lv_icmp_ge (tgt := 54) hx hb dX4_unload_10 (by decide) (fun c2 => ?_) (fun c2 => ?_)
      · exact eWv hx hb hr hlocks dX4_unload_54 hS hP (by rfl)
      · exact (up0 rfl c2).elim
    | succ j1 ih1 =>
      intro k1 hk1 x2_1 e2_1 yeL_1 eyeL_1  H locs hP hD hS ls hl
      subst e2_1 eyeL_1
      have hlt1 : k1 < ne := by omega
      have hlt : k1 < ne := hlt1
      refine lv_iload_n hx hb dX4_unload_2 rfl (lv_at hl 0 rfl) ?_
      refine lv_aload_n hx hb dX4_unload_3 rfl (lv_at hl 1 rfl) ?_
      refine va_get (D := D.1) (ci := 4) (v := .ref (Ae 0)) (C := RX4) (T := TX4) (N := 7) hx hb hts hinX4 hown hK (sP (Sb.l Sb.self) hP) 0 rfl rfl 3 (by decide) (hts (.fieldLink RX4 28 "MountainPost$Traffic" "letters" "LMountainPost$Letters;") (List.mem_of_getElem? (i := 1) rfl)) (fun _ h9 => h9) rfl dX4_unload_4 ?_
      refine va_getN (D := D.1) (ci := 1) (v := .int (nI ne)) (C := RX1) (T := TX1) (N := 12) hx hb hts hinX1 hown hK (sP (Sb.r (Sb.r (Sb.r (Sb.l Sb.self)))) hP) 0 rfl rfl 0 (by decide) (hN.f 32 rfl) (fun _ h9 => h9) rfl dX4_unload_7 ?_
      refine lv_icmp_ge (tgt := 54) hx hb dX4_unload_10 (by decide) (fun c3 => ?_) (fun c3 => ?_)
      · exact (upS hk1 he c3).elim
      · refine lv_aload_n hx hb dX4_unload_13 rfl (lv_at hl 1 rfl) ?_
        refine va_get (D := D.1) (ci := 4) (v := .ref (Ae 0)) (C := RX4) (T := TX4) (N := 7) hx hb hts hinX4 hown hK (sP (Sb.l Sb.self) hP) 0 rfl rfl 3 (by decide) (hts (.fieldLink RX4 28 "MountainPost$Traffic" "letters" "LMountainPost$Letters;") (List.mem_of_getElem? (i := 1) rfl)) (fun _ h9 => h9) rfl dX4_unload_14 ?_
        refine lv_iload_n hx hb dX4_unload_17 rfl (lv_at hl 0 rfl) ?_
        refine lv_iload_n hx hb dX4_unload_18 rfl (lv_at hl 2 rfl) ?_
        refine kVp ⟨hx, hb, hml, hown, hts⟩ (c_X1_isWith l D Ae ne (unlF Le Lm p1 hou k1) (nI k1) p1) (cwV 2 hts gX4_unload_X1_isWith rfl rfl rfl (by decide +kernel) ⟨Nat.le_of_ble_eq_true rfl, Nat.le_of_ble_eq_true rfl⟩) hK hN hP hD (Sb.r (Sb.r (Sb.r (Sb.l Sb.self)))) 1 0 rfl rfl rfl hl.1 (Nat.le_of_ble_eq_true rfl) ⟨Nat.zero_le _, Nat.zero_le _⟩ dX4_unload_19 ?_ rfl
        refine lv_if_eq (tgt := 48) hx hb dX4_unload_22 (by decide) (fun c4 => ?_) (fun c4 => ?_)
        · have c4 := z2_0.mp c4
          refine lv_iinc (v := ((nI k1) + 1)) (lv' := [(2, .int ((nI k1) + 1)), (0, .ref ot), (1, .int p1)]) hx hb dX4_unload_48 hl (k := 0) rfl rfl (by decide) rfl (fun ls hl => ?_)
          refine lv_goto (tgt := 2) hx hb dX4_unload_51 (by decide) ?_
          exact ih1 (k1 + 1) (by omega) _ (nI_1 k1) _ (by first | (rw [unlF, if_pos (by assumption)]; first | done | rfl) | (rw [unlF, if_neg (by assumption)]; first | done | rfl)) _ _ hP hD hS ls (lv_sub hl [0, 1, 2] rfl)
        · have c4 := z2_n.mp c4
          refine lv_aload_n hx hb dX4_unload_25 rfl (lv_at hl 1 rfl) ?_
          refine va_get (D := D.1) (ci := 4) (v := .ref (Ae 0)) (C := RX4) (T := TX4) (N := 7) hx hb hts hinX4 hown hK (sP (Sb.l Sb.self) hP) 0 rfl rfl 3 (by decide) (hts (.fieldLink RX4 28 "MountainPost$Traffic" "letters" "LMountainPost$Letters;") (List.mem_of_getElem? (i := 1) rfl)) (fun _ h9 => h9) rfl dX4_unload_26 ?_
          refine lv_iload_n hx hb dX4_unload_29 rfl (lv_at hl 0 rfl) ?_
          refine lv_aload_n hx hb dX4_unload_30 rfl (lv_at hl 1 rfl) ?_
          refine va_get (D := D.1) (ci := 4) (v := .ref (Am 0)) (C := RX4) (T := TX4) (N := 7) hx hb hts hinX4 hown hK (sP (Sb.l Sb.self) hP) 0 rfl rfl 2 (by decide) (hts (.fieldLink RX4 21 "MountainPost$Traffic" "mules" "LMountainPost$Mules;") (List.mem_of_getElem? (i := 2) rfl)) (fun _ h9 => h9) rfl dX4_unload_31 ?_
          refine va_getN (D := D.1) (ci := 2) (v := .ref (Am 3)) (C := RX2) (T := TX2) (N := 6) hx hb hts hinX2 hown hK (sP (Sb.r (Sb.r (Sb.l Sb.self))) hP) 0 rfl rfl 3 (by decide) (hN.f 33 rfl) (fun _ h9 => h9) rfl dX4_unload_34 ?_
          refine lv_iload_n hx hb dX4_unload_37 rfl (lv_at hl 2 rfl) ?_
          refine kVp ⟨hx, hb, hml, hown, hts⟩ (c_X3_get l D (Am 3) (Am 8) 12 (Lm 2) p1 (by decide)) (cwV 1 hts gX4_unload_X3_get rfl rfl rfl (by decide +kernel) ⟨Nat.le_of_ble_eq_true rfl, Nat.le_of_ble_eq_true rfl⟩) hK hN hP hD (Sb.r (Sb.r (Sb.l sbMul2))) 3 0 rfl rfl rfl hl.1 (Nat.le_of_ble_eq_true rfl) ⟨Nat.zero_le _, Nat.zero_le _⟩ dX4_unload_38 ?_ rfl
          refine lv_aload_n hx hb dX4_unload_41 rfl (lv_at hl 1 rfl) ?_
          refine va_get (D := D.1) (ci := 4) (v := .int hou) (C := RX4) (T := TX4) (N := 7) hx hb hts hinX4 hown hK (sP (Sb.l Sb.self) hP) 0 rfl rfl 5 (by decide) (hts (.fieldLink RX4 70 "MountainPost$Traffic" "hour" "I") (List.mem_of_getElem? (i := 3) rfl)) (fun _ h9 => h9) rfl dX4_unload_42 ?_
          refine kVw ⟨hx, hb, hml, hown, hts⟩ (c_X1_layDown l D Ae ne (unlF Le Lm p1 hou k1) (nI k1) (rg 12 (Lm 2) p1) hou) (cwV 3 hts gX4_unload_X1_layDown rfl rfl rfl (by decide +kernel) ⟨Nat.le_of_ble_eq_true rfl, Nat.le_of_ble_eq_true rfl⟩) hK hN hP hD hS (Fr.r (Fr.r (Fr.r (Fr.l frsLet)))) 1 0 rfl rfl rfl hl.1 (Nat.le_of_ble_eq_true rfl) ⟨Nat.zero_le _, Nat.zero_le _⟩ dX4_unload_45 (fun H locs hP hD hS => ?_) rfl
          have hP : va_P D.1 vwCl ((wTob ot Ad Aw Am Ae xt hou cro) ++ ((wWays D Aw Lw) ++ ((wMul D Am nm Lm) ++ ((wLet D Ae ne (layC (unlF Le Lm p1 hou k1) (nI k1) (rg 12 (Lm 2) p1) hou)) ++ (wLand D Ad nsd fogd nrd Ld))))) H := hP
          have hD : va_D A0 ((wTob ot Ad Aw Am Ae xt hou cro) ++ ((wWays D Aw Lw) ++ ((wMul D Am nm Lm) ++ ((wLet D Ae ne (layC (unlF Le Lm p1 hou k1) (nI k1) (rg 12 (Lm 2) p1) hou)) ++ (wLand D Ad nsd fogd nrd Ld))))) := hD
          refine W.eq (g2 := F0 m 48 ls []) rfl ?_
          refine lv_iinc (v := ((nI k1) + 1)) (lv' := [(2, .int ((nI k1) + 1)), (0, .ref ot), (1, .int p1)]) hx hb dX4_unload_48 hl (k := 0) rfl rfl (by decide) rfl (fun ls hl => ?_)
          refine lv_goto (tgt := 2) hx hb dX4_unload_51 (by decide) ?_
          exact ih1 (k1 + 1) (by omega) _ (nI_1 k1) _ (by first | (rw [unlF, if_pos (by assumption)]; first | done | rfl) | (rw [unlF, if_neg (by assumption)]; first | done | rfl)) _ _ hP hD hS ls (lv_sub hl [0, 1, 2] rfl)
  exact lp1 ne 0 (by omega) _ nI_0.symm _ rfl _ _ hP hD hS ls (lv_sub hl [0, 1, 2] rfl)

set_option maxHeartbeats 4000000 in
set_option maxRecDepth 100000 in
theorem c_X4_bringMules (l : Launch) (D : GG) (ot : Nat) (Ad : Nat → Nat) (Aw : Nat → Nat) (Am : Nat → Nat) (Ae : Nat → Nat) (xt : Nat) (hou : Int32) (cro : Int32) (Lw : Nat → Nat → Int32) (nm : Nat) (Lm : Nat → Nat → Int32) (ne : Nat) (Le : Nat → Nat → Int32) (nsd : Nat) (fogd : Int32) (nrd : Nat) (Ld : Nat → Nat → Int32) (he : ne < 2 ^ 31) (hm : nm < 2 ^ 31) : Met l yX4_bringMules wsX4_bringMules ({ frames := 4, cells := 0, slots := 0, locals := 87 } : Room) (va_Pc [.ref ot] (wd D ((wTob ot Ad Aw Am Ae xt hou cro) ++ ((wWays D Aw Lw) ++ ((wMul D Am nm Lm) ++ ((wLet D Ae ne Le) ++ (wLand D Ad nsd fogd nrd Ld))))))) (QW D (some (.int (z2 (brB Lm Le ne hou nm)))) ((wTob ot Ad Aw Am Ae xt hou cro) ++ ((wWays D Aw Lw) ++ ((wMul D Am nm ((brF Lm Le ne hou nm).1)) ++ ((wLet D Ae ne ((brF Lm Le ne hou nm).2)) ++ (wLand D Ad nsd fogd nrd Ld))))) (own ((wTob ot Ad Aw Am Ae xt hou cro) ++ ((wWays D Aw Lw) ++ ((wMul D Am nm Lm) ++ ((wLet D Ae ne Le) ++ (wLand D Ad nsd fogd nrd Ld))))))) 0 0 (own ((wTob ot Ad Aw Am Ae xt hou cro) ++ ((wWays D Aw Lw) ++ ((wMul D Am nm Lm) ++ ((wLet D Ae ne Le) ++ (wLand D Ad nsd fogd nrd Ld)))))) := by
  refine Met.ofW (cc := cX4_bringMules) (maxL := 3) (ret := (some .boolean)) (by decide) rfl ?_
  intro p e s m args below meth c s₁ B hml hv
  obtain ⟨rfl, hP, hK, hD, hN⟩ := hv
  have hx := B.exec
  have hb := B.bytes
  have hr := B.returns
  have hts := atoms_spec (ws := wsX4_bringMules) B.pre
  have hown : s.vm.findClass RX4 = some m.cls := findClass_of_methodNamed B.named
  have hlocks := B.notSynchronized
  have hinX2 : ∀ w ∈ u_ws RX2 TX2 6, w ∈ wsX4_bringMules := by decide +kernel
  have hinX4 : ∀ w ∈ u_ws RX4 TX4 7, w ∈ wsX4_bringMules := by decide +kernel
  have hS : va_S (own ((wTob ot Ad Aw Am Ae xt hou cro) ++ ((wWays D Aw Lw) ++ ((wMul D Am nm Lm) ++ ((wLet D Ae ne Le) ++ (wLand D Ad nsd fogd nrd Ld)))))) s.heap s.heap [] := va_S.rf
  have hD : va_D (own ((wTob ot Ad Aw Am Ae xt hou cro) ++ ((wWays D Aw Lw) ++ ((wMul D Am nm Lm) ++ ((wLet D Ae ne Le) ++ (wLand D Ad nsd fogd nrd Ld)))))) ((wTob ot Ad Aw Am Ae xt hou cro) ++ ((wWays D Aw Lw) ++ ((wMul D Am nm Lm) ++ ((wLet D Ae ne Le) ++ (wLand D Ad nsd fogd nrd Ld))))) := toOwn hD
  generalize hAe : own ((wTob ot Ad Aw Am Ae xt hou cro) ++ ((wWays D Aw Lw) ++ ((wMul D Am nm Lm) ++ ((wLet D Ae ne Le) ++ (wLand D Ad nsd fogd nrd Ld))))) = A0 at hD hS ⊢
  have hl := lv_entry ([.ref ot]) (n := 3) (Nat.le_of_ble_eq_true rfl)
  rw [lg_entry_eq]
  generalize (lg_sl ([.ref ot]) ++ List.replicate (3 - (lg_sl ([.ref ot])).length) Slot.unset).toArray = ls at hl ⊢
  have hl : lv_has ls 3 [(0, .ref ot)] := hl
  refine lv_iconst (v := 0) hx hb dX4_bringMules_0 (by decide) ?_
  refine lv_istore_n (lv' := [(1, .int 0), (0, .ref ot)]) hx hb dX4_bringMules_1 rfl hl (by decide) rfl (fun ls hl => ?_)
  refine lv_iconst (v := 0) hx hb dX4_bringMules_2 (by decide) ?_
  refine lv_istore_n (lv' := [(2, .int 0), (1, .int 0), (0, .ref ot)]) hx hb dX4_bringMules_3 rfl hl (by decide) rfl (fun ls hl => ?_)
  have lp1 : ∀ (j1 : Nat) (k1 : Nat) (hk1 : k1 + j1 = nm) (x2_1 : Int32) (e2_1 : x2_1 = (nI k1)) (x1_1 : Int32) (e1_1 : x1_1 = z2 (brB Lm Le ne hou k1)) (ymL_1 : Nat → Nat → Int32) (eymL_1 : ymL_1 = (brF Lm Le ne hou k1).1) (yeL_1 : Nat → Nat → Int32) (eyeL_1 : yeL_1 = (brF Lm Le ne hou k1).2) (H : Heap) (locs : List Loc) (hP : va_P D.1 vwCl ((wTob ot Ad Aw Am Ae xt hou cro) ++ ((wWays D Aw Lw) ++ ((wMul D Am nm ymL_1) ++ ((wLet D Ae ne yeL_1) ++ (wLand D Ad nsd fogd nrd Ld))))) H) (hD : va_D A0 ((wTob ot Ad Aw Am Ae xt hou cro) ++ ((wWays D Aw Lw) ++ ((wMul D Am nm ymL_1) ++ ((wLet D Ae ne yeL_1) ++ (wLand D Ad nsd fogd nrd Ld)))))) (hS : va_S A0 s.heap H locs) (ls : Array Slot) (hl : lv_has ls 3 [(2, .int x2_1), (1, .int x1_1), (0, .ref ot)]), W p l e (headSpec wsX4_bringMules ({ frames := 4, cells := 0, slots := 0, locals := 87 } : Room)).room s m ([.ref ot] : List Value).toArray below meth c H locs 0 0 (MQ below (QW D (some (.int (z2 (brB Lm Le ne hou nm)))) ((wTob ot Ad Aw Am Ae xt hou cro) ++ ((wWays D Aw Lw) ++ ((wMul D Am nm ((brF Lm Le ne hou nm).1)) ++ ((wLet D Ae ne ((brF Lm Le ne hou nm).2)) ++ (wLand D Ad nsd fogd nrd Ld))))) A0) ([.ref ot] : List Value).toArray s 0 0 A0) (F0 m 4 ls []) := by
    intro j1
    induction j1 with
    | zero =>
      intro k1 hk1 x2_1 e2_1 x1_1 e1_1 ymL_1 eymL_1 yeL_1 eyeL_1  H locs hP hD hS ls hl
      subst e2_1 e1_1 eymL_1 eyeL_1
      have hkN1 : nm = k1 := (by omega)
      subst hkN1
      refine lv_iload_n hx hb dX4_bringMules_4 rfl (lv_at hl 0 rfl) ?_
      refine lv_aload_n hx hb dX4_bringMules_5 rfl (lv_at hl 2 rfl) ?_
      refine va_get (D := D.1) (ci := 4) (v := .ref (Am 0)) (C := RX4) (T := TX4) (N := 7) hx hb hts hinX4 hown hK (sP (Sb.l Sb.self) hP) 0 rfl rfl 2 (by decide) (hts (.fieldLink RX4 21 "MountainPost$Traffic" "mules" "LMountainPost$Mules;") (List.mem_of_getElem? (i := 1) rfl)) (fun _ h9 => h9) rfl dX4_bringMules_6 ?_
      refine va_getN (D := D.1) (ci := 2) (v := .int (nI nm)) (C := RX2) (T := TX2) (N := 6) hx hb hts hinX2 hown hK (sP (Sb.r (Sb.r (Sb.l Sb.self))) hP) 0 rfl rfl 0 (by decide) (hN.f 29 rfl) (fun _ h9 => h9) rfl dX4_bringMules_9 ?_
      refine lv_icmp_ge (tgt := 98) hx hb dX4_bringMules_12 (by decide) (fun c2 => ?_) (fun c2 => ?_)
      · refine lv_iload_n hx hb dX4_bringMules_98 rfl (lv_at hl 1 rfl) ?_
        exact eWz hx hb hr hlocks dX4_bringMules_99 hS hP (by rfl) (by rfl)
      · exact (up0 rfl c2).elim
    | succ j1 ih1 =>
      intro k1 hk1 x2_1 e2_1 x1_1 e1_1 ymL_1 eymL_1 yeL_1 eyeL_1  H locs hP hD hS ls hl
      subst e2_1 e1_1 eymL_1 eyeL_1
      have hlt1 : k1 < nm := by omega
      have hlt : k1 < nm := hlt1
      refine lv_iload_n hx hb dX4_bringMules_4 rfl (lv_at hl 0 rfl) ?_
      refine lv_aload_n hx hb dX4_bringMules_5 rfl (lv_at hl 2 rfl) ?_
      refine va_get (D := D.1) (ci := 4) (v := .ref (Am 0)) (C := RX4) (T := TX4) (N := 7) hx hb hts hinX4 hown hK (sP (Sb.l Sb.self) hP) 0 rfl rfl 2 (by decide) (hts (.fieldLink RX4 21 "MountainPost$Traffic" "mules" "LMountainPost$Mules;") (List.mem_of_getElem? (i := 1) rfl)) (fun _ h9 => h9) rfl dX4_bringMules_6 ?_
      refine va_getN (D := D.1) (ci := 2) (v := .int (nI nm)) (C := RX2) (T := TX2) (N := 6) hx hb hts hinX2 hown hK (sP (Sb.r (Sb.r (Sb.l Sb.self))) hP) 0 rfl rfl 0 (by decide) (hN.f 29 rfl) (fun _ h9 => h9) rfl dX4_bringMules_9 ?_
      refine lv_icmp_ge (tgt := 98) hx hb dX4_bringMules_12 (by decide) (fun c3 => ?_) (fun c3 => ?_)
      · exact (upS hk1 hm c3).elim
      · refine lv_aload_n hx hb dX4_bringMules_15 rfl (lv_at hl 2 rfl) ?_
        refine va_get (D := D.1) (ci := 4) (v := .ref (Am 0)) (C := RX4) (T := TX4) (N := 7) hx hb hts hinX4 hown hK (sP (Sb.l Sb.self) hP) 0 rfl rfl 2 (by decide) (hts (.fieldLink RX4 21 "MountainPost$Traffic" "mules" "LMountainPost$Mules;") (List.mem_of_getElem? (i := 1) rfl)) (fun _ h9 => h9) rfl dX4_bringMules_16 ?_
        refine lv_iload_n hx hb dX4_bringMules_19 rfl (lv_at hl 0 rfl) ?_
        refine kVp ⟨hx, hb, hml, hown, hts⟩ (c_X2_isUnderWay l D Am nm ((brF Lm Le ne hou k1).1) (nI k1)) (cwV 1 hts gX4_bringMules_X2_isUnderWay rfl rfl rfl (by decide +kernel) ⟨Nat.le_of_ble_eq_true rfl, Nat.le_of_ble_eq_true rfl⟩) hK hN hP hD (Sb.r (Sb.r (Sb.l Sb.self))) 2 0 rfl rfl rfl hl.1 (Nat.le_of_ble_eq_true rfl) ⟨Nat.zero_le _, Nat.zero_le _⟩ dX4_bringMules_20 ?_ rfl
        refine lv_if_eq (tgt := 92) hx hb dX4_bringMules_23 (by decide) (fun c4 => ?_) (fun c4 => ?_)
        · have c4 := z2_0.mp c4
          refine lv_iinc (v := ((nI k1) + 1)) (lv' := [(2, .int ((nI k1) + 1)), (1, .int (z2 (brB Lm Le ne hou k1))), (0, .ref ot)]) hx hb dX4_bringMules_92 hl (k := 0) rfl rfl (by decide) rfl (fun ls hl => ?_)
          refine lv_goto (tgt := 4) hx hb dX4_bringMules_95 (by decide) ?_
          exact ih1 (k1 + 1) (by omega) _ (nI_1 k1) _ (by rw [brB, Bool.eq_false_iff.mpr c4, Bool.or_false]) _ (by (rw [brF, if_neg c4]; first | done | rfl)) _ (by (rw [brF, if_neg c4]; first | done | rfl)) _ _ hP hD hS ls (lv_sub hl [0, 1, 2] rfl)
        · have c4 := z2_n.mp c4
          refine lv_iconst (v := 1) hx hb dX4_bringMules_26 (by decide) ?_
          refine lv_istore_n (lv' := [(1, .int 1), (2, .int (nI k1)), (0, .ref ot)]) hx hb dX4_bringMules_27 rfl hl (by decide) rfl (fun ls hl => ?_)
          refine lv_aload_n hx hb dX4_bringMules_28 rfl (lv_at hl 2 rfl) ?_
          refine va_get (D := D.1) (ci := 4) (v := .ref (Am 0)) (C := RX4) (T := TX4) (N := 7) hx hb hts hinX4 hown hK (sP (Sb.l Sb.self) hP) 0 rfl rfl 2 (by decide) (hts (.fieldLink RX4 21 "MountainPost$Traffic" "mules" "LMountainPost$Mules;") (List.mem_of_getElem? (i := 1) rfl)) (fun _ h9 => h9) rfl dX4_bringMules_29 ?_
          refine va_getN (D := D.1) (ci := 2) (v := .ref (Am 4)) (C := RX2) (T := TX2) (N := 6) hx hb hts hinX2 hown hK (sP (Sb.r (Sb.r (Sb.l Sb.self))) hP) 0 rfl rfl 4 (by decide) (hN.f 30 rfl) (fun _ h9 => h9) rfl dX4_bringMules_32 ?_
          refine lv_iload_n hx hb dX4_bringMules_35 rfl (lv_at hl 1 rfl) ?_
          refine lv_aload_n hx hb dX4_bringMules_36 rfl (lv_at hl 2 rfl) ?_
          refine va_get (D := D.1) (ci := 4) (v := .ref (Am 0)) (C := RX4) (T := TX4) (N := 7) hx hb hts hinX4 hown hK (sP (Sb.l Sb.self) hP) 0 rfl rfl 2 (by decide) (hts (.fieldLink RX4 21 "MountainPost$Traffic" "mules" "LMountainPost$Mules;") (List.mem_of_getElem? (i := 1) rfl)) (fun _ h9 => h9) rfl dX4_bringMules_37 ?_
          refine va_getN (D := D.1) (ci := 2) (v := .ref (Am 4)) (C := RX2) (T := TX2) (N := 6) hx hb hts hinX2 hown hK (sP (Sb.r (Sb.r (Sb.l Sb.self))) hP) 0 rfl rfl 4 (by decide) (hN.f 30 rfl) (fun _ h9 => h9) rfl dX4_bringMules_40 ?_
          refine lv_iload_n hx hb dX4_bringMules_43 rfl (lv_at hl 1 rfl) ?_
          refine kVp ⟨hx, hb, hml, hown, hts⟩ (c_X3_get l D (Am 4) (Am 9) 12 (((brF Lm Le ne hou k1).1) 3) (nI k1) (by decide)) (cwV 1 hts gX4_bringMules_X3_get rfl rfl rfl (by decide +kernel) ⟨Nat.le_of_ble_eq_true rfl, Nat.le_of_ble_eq_true rfl⟩) hK hN hP hD (Sb.r (Sb.r (Sb.l sbMul3))) 3 0 rfl rfl rfl hl.1 (Nat.le_of_ble_eq_true rfl) ⟨Nat.zero_le _, Nat.zero_le _⟩ dX4_bringMules_44 ?_ rfl
          refine lv_iconst (v := 1) hx hb dX4_bringMules_47 (by decide) ?_
          refine lv_isub hx hb dX4_bringMules_48 ?_
          refine kVw ⟨hx, hb, hml, hown, hts⟩ (c_X3_set l D (Am 4) (Am 9) 12 (((brF Lm Le ne hou k1).1) 3) (nI k1) ((rg 12 (((brF Lm Le ne hou k1).1) 3) (nI k1)) - 1) (by decide)) (cwV 2 hts gX4_bringMules_X3_set rfl rfl rfl (by decide +kernel) ⟨Nat.le_of_ble_eq_true rfl, Nat.le_of_ble_eq_true rfl⟩) hK hN hP hD hS (Fr.r (Fr.r (Fr.l frMul3))) 3 0 rfl rfl rfl hl.1 (Nat.le_of_ble_eq_true rfl) ⟨Nat.zero_le _, Nat.zero_le _⟩ dX4_bringMules_49 (fun H locs hP hD hS => ?_) rfl
          have hP : va_P D.1 vwCl ((wTob ot Ad Aw Am Ae xt hou cro) ++ ((wWays D Aw Lw) ++ ((wMul D Am nm (sr ((brF Lm Le ne hou k1).1) 3 (rs 12 (((brF Lm Le ne hou k1).1) 3) (nI k1) ((rg 12 (((brF Lm Le ne hou k1).1) 3) (nI k1)) - 1)))) ++ ((wLet D Ae ne ((brF Lm Le ne hou k1).2)) ++ (wLand D Ad nsd fogd nrd Ld))))) H := hP
          have hD : va_D A0 ((wTob ot Ad Aw Am Ae xt hou cro) ++ ((wWays D Aw Lw) ++ ((wMul D Am nm (sr ((brF Lm Le ne hou k1).1) 3 (rs 12 (((brF Lm Le ne hou k1).1) 3) (nI k1) ((rg 12 (((brF Lm Le ne hou k1).1) 3) (nI k1)) - 1)))) ++ ((wLet D Ae ne ((brF Lm Le ne hou k1).2)) ++ (wLand D Ad nsd fogd nrd Ld))))) := hD
          refine W.eq (g2 := F0 m 52 ls []) rfl ?_
          refine lv_aload_n hx hb dX4_bringMules_52 rfl (lv_at hl 2 rfl) ?_
          refine va_get (D := D.1) (ci := 4) (v := .ref (Am 0)) (C := RX4) (T := TX4) (N := 7) hx hb hts hinX4 hown hK (sP (Sb.l Sb.self) hP) 0 rfl rfl 2 (by decide) (hts (.fieldLink RX4 21 "MountainPost$Traffic" "mules" "LMountainPost$Mules;") (List.mem_of_getElem? (i := 1) rfl)) (fun _ h9 => h9) rfl dX4_bringMules_53 ?_
          refine va_getN (D := D.1) (ci := 2) (v := .ref (Am 5)) (C := RX2) (T := TX2) (N := 6) hx hb hts hinX2 hown hK (sP (Sb.r (Sb.r (Sb.l Sb.self))) hP) 0 rfl rfl 5 (by decide) (hN.f 31 rfl) (fun _ h9 => h9) rfl dX4_bringMules_56 ?_
          refine lv_iload_n hx hb dX4_bringMules_59 rfl (lv_at hl 1 rfl) ?_
          refine lv_aload_n hx hb dX4_bringMules_60 rfl (lv_at hl 2 rfl) ?_
          refine va_get (D := D.1) (ci := 4) (v := .ref (Am 0)) (C := RX4) (T := TX4) (N := 7) hx hb hts hinX4 hown hK (sP (Sb.l Sb.self) hP) 0 rfl rfl 2 (by decide) (hts (.fieldLink RX4 21 "MountainPost$Traffic" "mules" "LMountainPost$Mules;") (List.mem_of_getElem? (i := 1) rfl)) (fun _ h9 => h9) rfl dX4_bringMules_61 ?_
          refine va_getN (D := D.1) (ci := 2) (v := .ref (Am 5)) (C := RX2) (T := TX2) (N := 6) hx hb hts hinX2 hown hK (sP (Sb.r (Sb.r (Sb.l Sb.self))) hP) 0 rfl rfl 5 (by decide) (hN.f 31 rfl) (fun _ h9 => h9) rfl dX4_bringMules_64 ?_
          refine lv_iload_n hx hb dX4_bringMules_67 rfl (lv_at hl 1 rfl) ?_
          refine kVp ⟨hx, hb, hml, hown, hts⟩ (c_X3_get l D (Am 5) (Am 10) 12 (((brF Lm Le ne hou k1).1) 4) (nI k1) (by decide)) (cwV 1 hts gX4_bringMules_X3_get rfl rfl rfl (by decide +kernel) ⟨Nat.le_of_ble_eq_true rfl, Nat.le_of_ble_eq_true rfl⟩) hK hN hP hD (Sb.r (Sb.r (Sb.l sbMul4))) 3 0 rfl rfl rfl hl.1 (Nat.le_of_ble_eq_true rfl) ⟨Nat.zero_le _, Nat.zero_le _⟩ dX4_bringMules_68 ?_ rfl
          refine lv_iconst (v := 1) hx hb dX4_bringMules_71 (by decide) ?_
          refine lv_iadd hx hb dX4_bringMules_72 ?_
          refine kVw ⟨hx, hb, hml, hown, hts⟩ (c_X3_set l D (Am 5) (Am 10) 12 (((brF Lm Le ne hou k1).1) 4) (nI k1) ((rg 12 (((brF Lm Le ne hou k1).1) 4) (nI k1)) + 1) (by decide)) (cwV 2 hts gX4_bringMules_X3_set rfl rfl rfl (by decide +kernel) ⟨Nat.le_of_ble_eq_true rfl, Nat.le_of_ble_eq_true rfl⟩) hK hN hP hD hS (Fr.r (Fr.r (Fr.l frMul4))) 3 0 rfl rfl rfl hl.1 (Nat.le_of_ble_eq_true rfl) ⟨Nat.zero_le _, Nat.zero_le _⟩ dX4_bringMules_73 (fun H locs hP hD hS => ?_) rfl
          have hP : va_P D.1 vwCl ((wTob ot Ad Aw Am Ae xt hou cro) ++ ((wWays D Aw Lw) ++ ((wMul D Am nm (sr (sr ((brF Lm Le ne hou k1).1) 3 (rs 12 (((brF Lm Le ne hou k1).1) 3) (nI k1) ((rg 12 (((brF Lm Le ne hou k1).1) 3) (nI k1)) - 1))) 4 (rs 12 (((brF Lm Le ne hou k1).1) 4) (nI k1) ((rg 12 (((brF Lm Le ne hou k1).1) 4) (nI k1)) + 1)))) ++ ((wLet D Ae ne ((brF Lm Le ne hou k1).2)) ++ (wLand D Ad nsd fogd nrd Ld))))) H := hP
          have hD : va_D A0 ((wTob ot Ad Aw Am Ae xt hou cro) ++ ((wWays D Aw Lw) ++ ((wMul D Am nm (sr (sr ((brF Lm Le ne hou k1).1) 3 (rs 12 (((brF Lm Le ne hou k1).1) 3) (nI k1) ((rg 12 (((brF Lm Le ne hou k1).1) 3) (nI k1)) - 1))) 4 (rs 12 (((brF Lm Le ne hou k1).1) 4) (nI k1) ((rg 12 (((brF Lm Le ne hou k1).1) 4) (nI k1)) + 1)))) ++ ((wLet D Ae ne ((brF Lm Le ne hou k1).2)) ++ (wLand D Ad nsd fogd nrd Ld))))) := hD
          refine W.eq (g2 := F0 m 76 ls []) rfl ?_
          refine lv_aload_n hx hb dX4_bringMules_76 rfl (lv_at hl 2 rfl) ?_
          refine va_get (D := D.1) (ci := 4) (v := .ref (Am 0)) (C := RX4) (T := TX4) (N := 7) hx hb hts hinX4 hown hK (sP (Sb.l Sb.self) hP) 0 rfl rfl 2 (by decide) (hts (.fieldLink RX4 21 "MountainPost$Traffic" "mules" "LMountainPost$Mules;") (List.mem_of_getElem? (i := 1) rfl)) (fun _ h9 => h9) rfl dX4_bringMules_77 ?_
          refine lv_iload_n hx hb dX4_bringMules_80 rfl (lv_at hl 1 rfl) ?_
          refine kVp ⟨hx, hb, hml, hown, hts⟩ (c_X2_isUnderWay l D Am nm (sr (sr ((brF Lm Le ne hou k1).1) 3 (rs 12 (((brF Lm Le ne hou k1).1) 3) (nI k1) ((rg 12 (((brF Lm Le ne hou k1).1) 3) (nI k1)) - 1))) 4 (rs 12 (((brF Lm Le ne hou k1).1) 4) (nI k1) ((rg 12 (((brF Lm Le ne hou k1).1) 4) (nI k1)) + 1))) (nI k1)) (cwV 1 hts gX4_bringMules_X2_isUnderWay rfl rfl rfl (by decide +kernel) ⟨Nat.le_of_ble_eq_true rfl, Nat.le_of_ble_eq_true rfl⟩) hK hN hP hD (Sb.r (Sb.r (Sb.l Sb.self))) 2 0 rfl rfl rfl hl.1 (Nat.le_of_ble_eq_true rfl) ⟨Nat.zero_le _, Nat.zero_le _⟩ dX4_bringMules_81 ?_ rfl
          refine lv_if_ne (tgt := 92) hx hb dX4_bringMules_84 (by decide) (fun c5 => ?_) (fun c5 => ?_)
          · have c5 := z2_n.mp c5
            refine lv_iinc (v := ((nI k1) + 1)) (lv' := [(2, .int ((nI k1) + 1)), (1, .int 1), (0, .ref ot)]) hx hb dX4_bringMules_92 hl (k := 1) rfl rfl (by decide) rfl (fun ls hl => ?_)
            refine lv_goto (tgt := 4) hx hb dX4_bringMules_95 (by decide) ?_
            exact ih1 (k1 + 1) (by omega) _ (nI_1 k1) _ (by (rw [brB, c4, Bool.or_true]; first | done | rfl)) _ (by (rw [brF, if_pos c4, if_pos (show uwC (brM _ _) _ = true from c5)]; first | done | rfl)) _ (by (rw [brF, if_pos c4, if_pos (show uwC (brM _ _) _ = true from c5)]; first | done | rfl)) _ _ hP hD hS ls (lv_sub hl [0, 1, 2] rfl)
          · have c5 := z2_0.mp c5
            refine lv_aload_n hx hb dX4_bringMules_87 rfl (lv_at hl 2 rfl) ?_
            refine lv_iload_n hx hb dX4_bringMules_88 rfl (lv_at hl 1 rfl) ?_
            refine kVw ⟨hx, hb, hml, hown, hts⟩ (c_X4_unload l D ot Ad Aw Am Ae xt hou cro Lw nm (sr (sr ((brF Lm Le ne hou k1).1) 3 (rs 12 (((brF Lm Le ne hou k1).1) 3) (nI k1) ((rg 12 (((brF Lm Le ne hou k1).1) 3) (nI k1)) - 1))) 4 (rs 12 (((brF Lm Le ne hou k1).1) 4) (nI k1) ((rg 12 (((brF Lm Le ne hou k1).1) 4) (nI k1)) + 1))) ne ((brF Lm Le ne hou k1).2) nsd fogd nrd Ld (nI k1) (by assumption)) (cwV 1 hts gX4_bringMules_X4_unload rfl rfl rfl (by decide +kernel) ⟨Nat.le_of_ble_eq_true rfl, Nat.le_of_ble_eq_true rfl⟩) hK hN hP hD hS (Fr.app (Fr.kp Sb.self) (Fr.app (Fr.kp Sb.self) (Fr.app (Fr.kp Sb.self) (Fr.app frsLet (Fr.kp Sb.self))))) 4 0 rfl rfl rfl hl.1 (Nat.le_of_ble_eq_true rfl) ⟨Nat.zero_le _, Nat.zero_le _⟩ dX4_bringMules_89 (fun H locs hP hD hS => ?_) rfl
            have hP : va_P D.1 vwCl ((wTob ot Ad Aw Am Ae xt hou cro) ++ ((wWays D Aw Lw) ++ ((wMul D Am nm (sr (sr ((brF Lm Le ne hou k1).1) 3 (rs 12 (((brF Lm Le ne hou k1).1) 3) (nI k1) ((rg 12 (((brF Lm Le ne hou k1).1) 3) (nI k1)) - 1))) 4 (rs 12 (((brF Lm Le ne hou k1).1) 4) (nI k1) ((rg 12 (((brF Lm Le ne hou k1).1) 4) (nI k1)) + 1)))) ++ ((wLet D Ae ne (unlF ((brF Lm Le ne hou k1).2) (sr (sr ((brF Lm Le ne hou k1).1) 3 (rs 12 (((brF Lm Le ne hou k1).1) 3) (nI k1) ((rg 12 (((brF Lm Le ne hou k1).1) 3) (nI k1)) - 1))) 4 (rs 12 (((brF Lm Le ne hou k1).1) 4) (nI k1) ((rg 12 (((brF Lm Le ne hou k1).1) 4) (nI k1)) + 1))) (nI k1) hou ne)) ++ (wLand D Ad nsd fogd nrd Ld))))) H := hP
            have hD : va_D A0 ((wTob ot Ad Aw Am Ae xt hou cro) ++ ((wWays D Aw Lw) ++ ((wMul D Am nm (sr (sr ((brF Lm Le ne hou k1).1) 3 (rs 12 (((brF Lm Le ne hou k1).1) 3) (nI k1) ((rg 12 (((brF Lm Le ne hou k1).1) 3) (nI k1)) - 1))) 4 (rs 12 (((brF Lm Le ne hou k1).1) 4) (nI k1) ((rg 12 (((brF Lm Le ne hou k1).1) 4) (nI k1)) + 1)))) ++ ((wLet D Ae ne (unlF ((brF Lm Le ne hou k1).2) (sr (sr ((brF Lm Le ne hou k1).1) 3 (rs 12 (((brF Lm Le ne hou k1).1) 3) (nI k1) ((rg 12 (((brF Lm Le ne hou k1).1) 3) (nI k1)) - 1))) 4 (rs 12 (((brF Lm Le ne hou k1).1) 4) (nI k1) ((rg 12 (((brF Lm Le ne hou k1).1) 4) (nI k1)) + 1))) (nI k1) hou ne)) ++ (wLand D Ad nsd fogd nrd Ld))))) := hD
            refine W.eq (g2 := F0 m 92 ls []) rfl ?_
            refine lv_iinc (v := ((nI k1) + 1)) (lv' := [(2, .int ((nI k1) + 1)), (1, .int 1), (0, .ref ot)]) hx hb dX4_bringMules_92 hl (k := 1) rfl rfl (by decide) rfl (fun ls hl => ?_)
            refine lv_goto (tgt := 4) hx hb dX4_bringMules_95 (by decide) ?_
            exact ih1 (k1 + 1) (by omega) _ (nI_1 k1) _ (by (rw [brB, c4, Bool.or_true]; first | done | rfl)) _ (by (rw [brF, if_pos c4, if_neg (show ¬ uwC (brM _ _) _ = true from c5)]; first | done | rfl)) _ (by (rw [brF, if_pos c4, if_neg (show ¬ uwC (brM _ _) _ = true from c5)]; first | done | rfl)) _ _ hP hD hS ls (lv_sub hl [0, 1, 2] rfl)
  exact lp1 nm 0 (by omega) _ nI_0.symm _ rfl _ rfl _ rfl _ _ hP hD hS ls (lv_sub hl [0, 1, 2] rfl)

set_option maxHeartbeats 4000000 in
set_option maxRecDepth 100000 in
theorem c_X4_spreadFires (l : Launch) (D : GG) (ot : Nat) (Ad : Nat → Nat) (Aw : Nat → Nat) (Am : Nat → Nat) (Ae : Nat → Nat) (xt : Nat) (hou : Int32) (cro : Int32) (Lw : Nat → Nat → Int32) (nm : Nat) (Lm : Nat → Nat → Int32) (ne : Nat) (Le : Nat → Nat → Int32) (nsd : Nat) (fogd : Int32) (nrd : Nat) (Ld : Nat → Nat → Int32) (he : ne < 2 ^ 31) (hns : nsd < 2 ^ 31) : Met l yX4_spreadFires wsX4_spreadFires ({ frames := 4, cells := 0, slots := 0, locals := 87 } : Room) (va_Pc [.ref ot] (wd D ((wTob ot Ad Aw Am Ae xt hou cro) ++ ((wWays D Aw Lw) ++ ((wMul D Am nm Lm) ++ ((wLet D Ae ne Le) ++ (wLand D Ad nsd fogd nrd Ld))))))) (QW D (some (.int (z2 (spB Le Ld nsd fogd hou ne)))) ((wTob ot Ad Aw Am Ae xt hou cro) ++ ((wWays D Aw Lw) ++ ((wMul D Am nm Lm) ++ ((wLet D Ae ne (spF Le Ld nsd fogd hou ne)) ++ (wLand D Ad nsd fogd nrd Ld))))) (own ((wTob ot Ad Aw Am Ae xt hou cro) ++ ((wWays D Aw Lw) ++ ((wMul D Am nm Lm) ++ ((wLet D Ae ne Le) ++ (wLand D Ad nsd fogd nrd Ld))))))) 0 0 (own ((wTob ot Ad Aw Am Ae xt hou cro) ++ ((wWays D Aw Lw) ++ ((wMul D Am nm Lm) ++ ((wLet D Ae ne Le) ++ (wLand D Ad nsd fogd nrd Ld)))))) := by
  refine Met.ofW (cc := cX4_spreadFires) (maxL := 6) (ret := (some .boolean)) (by decide) rfl ?_
  intro p e s m args below meth c s₁ B hml hv
  obtain ⟨rfl, hP, hK, hD, hN⟩ := hv
  have hx := B.exec
  have hb := B.bytes
  have hr := B.returns
  have hts := atoms_spec (ws := wsX4_spreadFires) B.pre
  have hown : s.vm.findClass RX4 = some m.cls := findClass_of_methodNamed B.named
  have hlocks := B.notSynchronized
  have hinX1 : ∀ w ∈ u_ws RX1 TX1 12, w ∈ wsX4_spreadFires := by decide +kernel
  have hinX4 : ∀ w ∈ u_ws RX4 TX4 7, w ∈ wsX4_spreadFires := by decide +kernel
  have hS : va_S (own ((wTob ot Ad Aw Am Ae xt hou cro) ++ ((wWays D Aw Lw) ++ ((wMul D Am nm Lm) ++ ((wLet D Ae ne Le) ++ (wLand D Ad nsd fogd nrd Ld)))))) s.heap s.heap [] := va_S.rf
  have hD : va_D (own ((wTob ot Ad Aw Am Ae xt hou cro) ++ ((wWays D Aw Lw) ++ ((wMul D Am nm Lm) ++ ((wLet D Ae ne Le) ++ (wLand D Ad nsd fogd nrd Ld)))))) ((wTob ot Ad Aw Am Ae xt hou cro) ++ ((wWays D Aw Lw) ++ ((wMul D Am nm Lm) ++ ((wLet D Ae ne Le) ++ (wLand D Ad nsd fogd nrd Ld))))) := toOwn hD
  generalize hAe : own ((wTob ot Ad Aw Am Ae xt hou cro) ++ ((wWays D Aw Lw) ++ ((wMul D Am nm Lm) ++ ((wLet D Ae ne Le) ++ (wLand D Ad nsd fogd nrd Ld))))) = A0 at hD hS ⊢
  have hl := lv_entry ([.ref ot]) (n := 6) (Nat.le_of_ble_eq_true rfl)
  rw [lg_entry_eq]
  generalize (lg_sl ([.ref ot]) ++ List.replicate (6 - (lg_sl ([.ref ot])).length) Slot.unset).toArray = ls at hl ⊢
  have hl : lv_has ls 6 [(0, .ref ot)] := hl
  refine lv_iconst (v := 0) hx hb dX4_spreadFires_0 (by decide) ?_
  refine lv_istore_n (lv' := [(1, .int 0), (0, .ref ot)]) hx hb dX4_spreadFires_1 rfl hl (by decide) rfl (fun ls hl => ?_)
  refine lv_iconst (v := 0) hx hb dX4_spreadFires_2 (by decide) ?_
  refine lv_istore_n (lv' := [(2, .int 0), (1, .int 0), (0, .ref ot)]) hx hb dX4_spreadFires_3 rfl hl (by decide) rfl (fun ls hl => ?_)
  have lp1 : ∀ (j1 : Nat) (k1 : Nat) (hk1 : k1 + j1 = ne) (x2_1 : Int32) (e2_1 : x2_1 = (nI k1)) (x1_1 : Int32) (e1_1 : x1_1 = z2 (spB Le Ld nsd fogd hou k1)) (yeL_1 : Nat → Nat → Int32) (eyeL_1 : yeL_1 = (spF Le Ld nsd fogd hou k1)) (H : Heap) (locs : List Loc) (hP : va_P D.1 vwCl ((wTob ot Ad Aw Am Ae xt hou cro) ++ ((wWays D Aw Lw) ++ ((wMul D Am nm Lm) ++ ((wLet D Ae ne yeL_1) ++ (wLand D Ad nsd fogd nrd Ld))))) H) (hD : va_D A0 ((wTob ot Ad Aw Am Ae xt hou cro) ++ ((wWays D Aw Lw) ++ ((wMul D Am nm Lm) ++ ((wLet D Ae ne yeL_1) ++ (wLand D Ad nsd fogd nrd Ld)))))) (hS : va_S A0 s.heap H locs) (ls : Array Slot) (hl : lv_has ls 6 [(2, .int x2_1), (1, .int x1_1), (0, .ref ot)]), W p l e (headSpec wsX4_spreadFires ({ frames := 4, cells := 0, slots := 0, locals := 87 } : Room)).room s m ([.ref ot] : List Value).toArray below meth c H locs 0 0 (MQ below (QW D (some (.int (z2 (spB Le Ld nsd fogd hou ne)))) ((wTob ot Ad Aw Am Ae xt hou cro) ++ ((wWays D Aw Lw) ++ ((wMul D Am nm Lm) ++ ((wLet D Ae ne (spF Le Ld nsd fogd hou ne)) ++ (wLand D Ad nsd fogd nrd Ld))))) A0) ([.ref ot] : List Value).toArray s 0 0 A0) (F0 m 4 ls []) := by
    intro j1
    induction j1 with
    | zero =>
      intro k1 hk1 x2_1 e2_1 x1_1 e1_1 yeL_1 eyeL_1  H locs hP hD hS ls hl
      subst e2_1 e1_1 eyeL_1
      have hkN1 : ne = k1 := (by omega)
      subst hkN1
      refine lv_iload_n hx hb dX4_spreadFires_4 rfl (lv_at hl 0 rfl) ?_
      refine lv_aload_n hx hb dX4_spreadFires_5 rfl (lv_at hl 2 rfl) ?_
      refine va_get (D := D.1) (ci := 4) (v := .ref (Ae 0)) (C := RX4) (T := TX4) (N := 7) hx hb hts hinX4 hown hK (sP (Sb.l Sb.self) hP) 0 rfl rfl 3 (by decide) (hts (.fieldLink RX4 28 "MountainPost$Traffic" "letters" "LMountainPost$Letters;") (List.mem_of_getElem? (i := 1) rfl)) (fun _ h9 => h9) rfl dX4_spreadFires_6 ?_
      refine va_getN (D := D.1) (ci := 1) (v := .int (nI ne)) (C := RX1) (T := TX1) (N := 12) hx hb hts hinX1 hown hK (sP (Sb.r (Sb.r (Sb.r (Sb.l Sb.self)))) hP) 0 rfl rfl 0 (by decide) (hN.f 32 rfl) (fun _ h9 => h9) rfl dX4_spreadFires_9 ?_
      refine lv_icmp_ge (tgt := 159) hx hb dX4_spreadFires_12 (by decide) (fun c2 => ?_) (fun c2 => ?_)
      · refine lv_iload_n hx hb dX4_spreadFires_159 rfl (lv_at hl 1 rfl) ?_
        exact eWz hx hb hr hlocks dX4_spreadFires_160 hS hP (by rfl) (by rfl)
      · exact (up0 rfl c2).elim
    | succ j1 ih1 =>
      intro k1 hk1 x2_1 e2_1 x1_1 e1_1 yeL_1 eyeL_1  H locs hP hD hS ls hl
      subst e2_1 e1_1 eyeL_1
      have hlt1 : k1 < ne := by omega
      have hlt : k1 < ne := hlt1
      refine lv_iload_n hx hb dX4_spreadFires_4 rfl (lv_at hl 0 rfl) ?_
      refine lv_aload_n hx hb dX4_spreadFires_5 rfl (lv_at hl 2 rfl) ?_
      refine va_get (D := D.1) (ci := 4) (v := .ref (Ae 0)) (C := RX4) (T := TX4) (N := 7) hx hb hts hinX4 hown hK (sP (Sb.l Sb.self) hP) 0 rfl rfl 3 (by decide) (hts (.fieldLink RX4 28 "MountainPost$Traffic" "letters" "LMountainPost$Letters;") (List.mem_of_getElem? (i := 1) rfl)) (fun _ h9 => h9) rfl dX4_spreadFires_6 ?_
      refine va_getN (D := D.1) (ci := 1) (v := .int (nI ne)) (C := RX1) (T := TX1) (N := 12) hx hb hts hinX1 hown hK (sP (Sb.r (Sb.r (Sb.r (Sb.l Sb.self)))) hP) 0 rfl rfl 0 (by decide) (hN.f 32 rfl) (fun _ h9 => h9) rfl dX4_spreadFires_9 ?_
      refine lv_icmp_ge (tgt := 159) hx hb dX4_spreadFires_12 (by decide) (fun c3 => ?_) (fun c3 => ?_)
      · exact (upS hk1 he c3).elim
      · refine lv_aload_n hx hb dX4_spreadFires_15 rfl (lv_at hl 2 rfl) ?_
        refine va_get (D := D.1) (ci := 4) (v := .ref (Ae 0)) (C := RX4) (T := TX4) (N := 7) hx hb hts hinX4 hown hK (sP (Sb.l Sb.self) hP) 0 rfl rfl 3 (by decide) (hts (.fieldLink RX4 28 "MountainPost$Traffic" "letters" "LMountainPost$Letters;") (List.mem_of_getElem? (i := 1) rfl)) (fun _ h9 => h9) rfl dX4_spreadFires_16 ?_
        refine lv_iload_n hx hb dX4_spreadFires_19 rfl (lv_at hl 0 rfl) ?_
        refine kVp ⟨hx, hb, hml, hown, hts⟩ (c_X1_isRecalled l D Ae ne (spF Le Ld nsd fogd hou k1) (nI k1)) (cwV 1 hts gX4_spreadFires_X1_isRecalled rfl rfl rfl (by decide +kernel) ⟨Nat.le_of_ble_eq_true rfl, Nat.le_of_ble_eq_true rfl⟩) hK hN hP hD (Sb.r (Sb.r (Sb.r (Sb.l Sb.self)))) 1 0 rfl rfl rfl hl.1 (Nat.le_of_ble_eq_true rfl) ⟨Nat.zero_le _, Nat.zero_le _⟩ dX4_spreadFires_20 ?_ rfl
        refine lv_if_eq (tgt := 153) hx hb dX4_spreadFires_23 (by decide) (fun c4 => ?_) (fun c4 => ?_)
        · have c4 := z2_0.mp c4
          refine lv_iinc (v := ((nI k1) + 1)) (lv' := [(2, .int ((nI k1) + 1)), (1, .int (z2 (spB Le Ld nsd fogd hou k1))), (0, .ref ot)]) hx hb dX4_spreadFires_153 hl (k := 0) rfl rfl (by decide) rfl (fun ls hl => ?_)
          refine lv_goto (tgt := 4) hx hb dX4_spreadFires_156 (by decide) ?_
          exact ih1 (k1 + 1) (by omega) _ (nI_1 k1) _ (by rw [spB, spD, if_neg c4, Bool.or_false]) _ (by (rw [spF, spS, if_neg c4]; first | done | rfl)) _ _ hP hD hS ls (lv_sub hl [0, 1, 2] rfl)
        · have c4 := z2_n.mp c4
          refine lv_aload_n hx hb dX4_spreadFires_26 rfl (lv_at hl 2 rfl) ?_
          refine va_get (D := D.1) (ci := 4) (v := .ref (Ae 0)) (C := RX4) (T := TX4) (N := 7) hx hb hts hinX4 hown hK (sP (Sb.l Sb.self) hP) 0 rfl rfl 3 (by decide) (hts (.fieldLink RX4 28 "MountainPost$Traffic" "letters" "LMountainPost$Letters;") (List.mem_of_getElem? (i := 1) rfl)) (fun _ h9 => h9) rfl dX4_spreadFires_27 ?_
          refine va_getN (D := D.1) (ci := 1) (v := .ref (Ae 7)) (C := RX1) (T := TX1) (N := 12) hx hb hts hinX1 hown hK (sP (Sb.r (Sb.r (Sb.r (Sb.l Sb.self)))) hP) 0 rfl rfl 7 (by decide) (hN.f 34 rfl) (fun _ h9 => h9) rfl dX4_spreadFires_30 ?_
          refine lv_iload_n hx hb dX4_spreadFires_33 rfl (lv_at hl 0 rfl) ?_
          refine kVp ⟨hx, hb, hml, hown, hts⟩ (c_X3_get l D (Ae 7) (Ae 18) 60 ((spF Le Ld nsd fogd hou k1) 6) (nI k1) (by decide)) (cwV 1 hts gX4_spreadFires_X3_get rfl rfl rfl (by decide +kernel) ⟨Nat.le_of_ble_eq_true rfl, Nat.le_of_ble_eq_true rfl⟩) hK hN hP hD (Sb.r (Sb.r (Sb.r (Sb.l sbLet6)))) 3 0 rfl rfl rfl hl.1 (Nat.le_of_ble_eq_true rfl) ⟨Nat.zero_le _, Nat.zero_le _⟩ dX4_spreadFires_34 ?_ rfl
          refine lv_istore_n (lv' := [(3, .int (rg 60 ((spF Le Ld nsd fogd hou k1) 6) (nI k1))), (2, .int (nI k1)), (1, .int (z2 (spB Le Ld nsd fogd hou k1))), (0, .ref ot)]) hx hb dX4_spreadFires_37 rfl hl (by decide) rfl (fun ls hl => ?_)
          refine lv_aload_n hx hb dX4_spreadFires_38 rfl (lv_at hl 3 rfl) ?_
          refine va_get (D := D.1) (ci := 4) (v := .ref (Ad 0)) (C := RX4) (T := TX4) (N := 7) hx hb hts hinX4 hown hK (sP (Sb.l Sb.self) hP) 0 rfl rfl 0 (by decide) (hts (.fieldLink RX4 41 "MountainPost$Traffic" "land" "LMountainPost$Land;") (List.mem_of_getElem? (i := 2) rfl)) (fun _ h9 => h9) rfl dX4_spreadFires_39 ?_
          refine lv_iload_n hx hb dX4_spreadFires_42 rfl (lv_at hl 0 rfl) ?_
          refine kVp ⟨hx, hb, hml, hown, hts⟩ (c_X0_litNext l D Ad nsd fogd nrd Ld (rg 60 ((spF Le Ld nsd fogd hou k1) 6) (nI k1)) (by assumption)) (cwV 1 hts gX4_spreadFires_X0_litNext rfl rfl rfl (by decide +kernel) ⟨Nat.le_of_ble_eq_true rfl, Nat.le_of_ble_eq_true rfl⟩) hK hN hP hD (Sb.r (Sb.r (Sb.r (Sb.r Sb.self)))) 0 0 rfl rfl rfl hl.1 (Nat.le_of_ble_eq_true rfl) ⟨Nat.zero_le _, Nat.zero_le _⟩ dX4_spreadFires_43 ?_ rfl
          refine lv_istore (lv' := [(4, .int (litC Ld nsd fogd (rg 60 ((spF Le Ld nsd fogd hou k1) 6) (nI k1)))), (3, .int (rg 60 ((spF Le Ld nsd fogd hou k1) 6) (nI k1))), (2, .int (nI k1)), (1, .int (z2 (spB Le Ld nsd fogd hou k1))), (0, .ref ot)]) hx hb dX4_spreadFires_46 hl (by decide) rfl (fun ls hl => ?_)
          refine lv_aload_n hx hb dX4_spreadFires_48 rfl (lv_at hl 4 rfl) ?_
          refine va_get (D := D.1) (ci := 4) (v := .ref (Ae 0)) (C := RX4) (T := TX4) (N := 7) hx hb hts hinX4 hown hK (sP (Sb.l Sb.self) hP) 0 rfl rfl 3 (by decide) (hts (.fieldLink RX4 28 "MountainPost$Traffic" "letters" "LMountainPost$Letters;") (List.mem_of_getElem? (i := 1) rfl)) (fun _ h9 => h9) rfl dX4_spreadFires_49 ?_
          refine va_getN (D := D.1) (ci := 1) (v := .ref (Ae 4)) (C := RX1) (T := TX1) (N := 12) hx hb hts hinX1 hown hK (sP (Sb.r (Sb.r (Sb.r (Sb.l Sb.self)))) hP) 0 rfl rfl 4 (by decide) (hN.f 35 rfl) (fun _ h9 => h9) rfl dX4_spreadFires_52 ?_
          refine lv_iload_n hx hb dX4_spreadFires_55 rfl (lv_at hl 2 rfl) ?_
          refine kVp ⟨hx, hb, hml, hown, hts⟩ (c_X3_get l D (Ae 4) (Ae 15) 60 ((spF Le Ld nsd fogd hou k1) 3) (nI k1) (by decide)) (cwV 1 hts gX4_spreadFires_X3_get rfl rfl rfl (by decide +kernel) ⟨Nat.le_of_ble_eq_true rfl, Nat.le_of_ble_eq_true rfl⟩) hK hN hP hD (Sb.r (Sb.r (Sb.r (Sb.l sbLet3)))) 3 0 rfl rfl rfl hl.1 (Nat.le_of_ble_eq_true rfl) ⟨Nat.zero_le _, Nat.zero_le _⟩ dX4_spreadFires_56 ?_ rfl
          refine lv_if_ne (tgt := 99) hx hb dX4_spreadFires_59 (by decide) (fun c5 => ?_) (fun c5 => ?_)
          · refine lv_iconst (v := 0) hx hb dX4_spreadFires_99 (by decide) ?_
            refine lv_istore (lv' := [(5, .int 0), (4, .int (litC Ld nsd fogd (rg 60 ((spF Le Ld nsd fogd hou k1) 6) (nI k1)))), (3, .int (rg 60 ((spF Le Ld nsd fogd hou k1) 6) (nI k1))), (2, .int (nI k1)), (1, .int (z2 (spB Le Ld nsd fogd hou k1))), (0, .ref ot)]) hx hb dX4_spreadFires_100 hl (by decide) rfl (fun ls hl => ?_)
            refine lv_aload_n hx hb dX4_spreadFires_102 rfl (lv_at hl 5 rfl) ?_
            refine va_get (D := D.1) (ci := 4) (v := .ref (Ae 0)) (C := RX4) (T := TX4) (N := 7) hx hb hts hinX4 hown hK (sP (Sb.l Sb.self) hP) 0 rfl rfl 3 (by decide) (hts (.fieldLink RX4 28 "MountainPost$Traffic" "letters" "LMountainPost$Letters;") (List.mem_of_getElem? (i := 1) rfl)) (fun _ h9 => h9) rfl dX4_spreadFires_103 ?_
            refine va_getN (D := D.1) (ci := 1) (v := .ref (Ae 7)) (C := RX1) (T := TX1) (N := 12) hx hb hts hinX1 hown hK (sP (Sb.r (Sb.r (Sb.r (Sb.l Sb.self)))) hP) 0 rfl rfl 7 (by decide) (hN.f 34 rfl) (fun _ h9 => h9) rfl dX4_spreadFires_106 ?_
            refine lv_iload_n hx hb dX4_spreadFires_109 rfl (lv_at hl 3 rfl) ?_
            refine lv_iload hx hb dX4_spreadFires_110 (lv_at hl 1 rfl) ?_
            refine kVw ⟨hx, hb, hml, hown, hts⟩ (c_X3_set l D (Ae 7) (Ae 18) 60 ((spF Le Ld nsd fogd hou k1) 6) (nI k1) (litC Ld nsd fogd (rg 60 ((spF Le Ld nsd fogd hou k1) 6) (nI k1))) (by decide)) (cwV 2 hts gX4_spreadFires_X3_set rfl rfl rfl (by decide +kernel) ⟨Nat.le_of_ble_eq_true rfl, Nat.le_of_ble_eq_true rfl⟩) hK hN hP hD hS (Fr.r (Fr.r (Fr.r (Fr.l frLet6)))) 3 0 rfl rfl rfl hl.1 (Nat.le_of_ble_eq_true rfl) ⟨Nat.zero_le _, Nat.zero_le _⟩ dX4_spreadFires_112 (fun H locs hP hD hS => ?_) rfl
            have hP : va_P D.1 vwCl ((wTob ot Ad Aw Am Ae xt hou cro) ++ ((wWays D Aw Lw) ++ ((wMul D Am nm Lm) ++ ((wLet D Ae ne (sr (spF Le Ld nsd fogd hou k1) 6 (rs 60 ((spF Le Ld nsd fogd hou k1) 6) (nI k1) (litC Ld nsd fogd (rg 60 ((spF Le Ld nsd fogd hou k1) 6) (nI k1)))))) ++ (wLand D Ad nsd fogd nrd Ld))))) H := hP
            have hD : va_D A0 ((wTob ot Ad Aw Am Ae xt hou cro) ++ ((wWays D Aw Lw) ++ ((wMul D Am nm Lm) ++ ((wLet D Ae ne (sr (spF Le Ld nsd fogd hou k1) 6 (rs 60 ((spF Le Ld nsd fogd hou k1) 6) (nI k1) (litC Ld nsd fogd (rg 60 ((spF Le Ld nsd fogd hou k1) 6) (nI k1)))))) ++ (wLand D Ad nsd fogd nrd Ld))))) := hD
            refine W.eq (g2 := F0 m 115 ls []) rfl ?_
            refine lv_iload hx hb dX4_spreadFires_115 (lv_at hl 0 rfl) ?_
            refine lv_if_eq (tgt := 132) hx hb dX4_spreadFires_117 (by decide) (fun c6 => ?_) (fun c6 => ?_)
            · refine lv_iload_n hx hb dX4_spreadFires_132 rfl (lv_at hl 4 rfl) ?_
              refine lv_if_ne (tgt := 147) hx hb dX4_spreadFires_133 (by decide) (fun c7 => ?_) (fun c7 => ?_)
              · have c7 := z2_n.mp c7
                refine lv_iconst (v := 1) hx hb dX4_spreadFires_147 (by decide) ?_
                refine lv_goto (tgt := 152) hx hb dX4_spreadFires_148 (by decide) ?_
                refine lv_istore_n (lv' := [(1, .int 1), (5, .int 0), (4, .int (litC Ld nsd fogd (rg 60 ((spF Le Ld nsd fogd hou k1) 6) (nI k1)))), (3, .int (rg 60 ((spF Le Ld nsd fogd hou k1) 6) (nI k1))), (2, .int (nI k1)), (0, .ref ot)]) hx hb dX4_spreadFires_152 rfl hl (by decide) rfl (fun ls hl => ?_)
                refine lv_iinc (v := ((nI k1) + 1)) (lv' := [(2, .int ((nI k1) + 1)), (1, .int 1), (5, .int 0), (4, .int (litC Ld nsd fogd (rg 60 ((spF Le Ld nsd fogd hou k1) 6) (nI k1)))), (3, .int (rg 60 ((spF Le Ld nsd fogd hou k1) 6) (nI k1))), (0, .ref ot)]) hx hb dX4_spreadFires_153 hl (k := 4) rfl rfl (by decide) rfl (fun ls hl => ?_)
                refine lv_goto (tgt := 4) hx hb dX4_spreadFires_156 (by decide) ?_
                exact ih1 (k1 + 1) (by omega) _ (nI_1 k1) _ (by (rw [spB, c7, Bool.true_or]; first | done | rfl)) _ (by (rw [spF, spS, if_pos c4, if_neg c5]; first | done | rfl)) _ _ hP hD hS ls (lv_sub hl [0, 1, 5] rfl)
              · have c7 := z2_0.mp c7
                refine lv_iload hx hb dX4_spreadFires_136 (lv_at hl 0 rfl) ?_
                refine lv_if_ne (tgt := 147) hx hb dX4_spreadFires_138 (by decide) (fun c8 => ?_) (fun c8 => ?_)
                · exact absurd c8 (by decide)
                · refine lv_iload hx hb dX4_spreadFires_141 (lv_at hl 1 rfl) ?_
                  refine lv_iload_n hx hb dX4_spreadFires_143 rfl (lv_at hl 2 rfl) ?_
                  refine lv_icmp_eq (tgt := 151) hx hb dX4_spreadFires_144 (by decide) (fun c9 => ?_) (fun c9 => ?_)
                  · refine lv_iconst (v := 0) hx hb dX4_spreadFires_151 (by decide) ?_
                    refine lv_istore_n (lv' := [(1, .int 0), (5, .int 0), (4, .int (litC Ld nsd fogd (rg 60 ((spF Le Ld nsd fogd hou k1) 6) (nI k1)))), (3, .int (rg 60 ((spF Le Ld nsd fogd hou k1) 6) (nI k1))), (2, .int (nI k1)), (0, .ref ot)]) hx hb dX4_spreadFires_152 rfl hl (by decide) rfl (fun ls hl => ?_)
                    refine lv_iinc (v := ((nI k1) + 1)) (lv' := [(2, .int ((nI k1) + 1)), (1, .int 0), (5, .int 0), (4, .int (litC Ld nsd fogd (rg 60 ((spF Le Ld nsd fogd hou k1) 6) (nI k1)))), (3, .int (rg 60 ((spF Le Ld nsd fogd hou k1) 6) (nI k1))), (0, .ref ot)]) hx hb dX4_spreadFires_153 hl (k := 4) rfl rfl (by decide) rfl (fun ls hl => ?_)
                    refine lv_goto (tgt := 4) hx hb dX4_spreadFires_156 (by decide) ?_
                    exact ih1 (k1 + 1) (by omega) _ (nI_1 k1) _ (by (rw [spB, Bool.eq_false_iff.mpr c7, Bool.false_or, spD, if_pos c4, if_neg c5, if_pos c9]; first | done | rfl)) _ (by (rw [spF, spS, if_pos c4, if_neg c5]; first | done | rfl)) _ _ hP hD hS ls (lv_sub hl [0, 1, 5] rfl)
                  · refine lv_iconst (v := 1) hx hb dX4_spreadFires_147 (by decide) ?_
                    refine lv_goto (tgt := 152) hx hb dX4_spreadFires_148 (by decide) ?_
                    refine lv_istore_n (lv' := [(1, .int 1), (5, .int 0), (4, .int (litC Ld nsd fogd (rg 60 ((spF Le Ld nsd fogd hou k1) 6) (nI k1)))), (3, .int (rg 60 ((spF Le Ld nsd fogd hou k1) 6) (nI k1))), (2, .int (nI k1)), (0, .ref ot)]) hx hb dX4_spreadFires_152 rfl hl (by decide) rfl (fun ls hl => ?_)
                    refine lv_iinc (v := ((nI k1) + 1)) (lv' := [(2, .int ((nI k1) + 1)), (1, .int 1), (5, .int 0), (4, .int (litC Ld nsd fogd (rg 60 ((spF Le Ld nsd fogd hou k1) 6) (nI k1)))), (3, .int (rg 60 ((spF Le Ld nsd fogd hou k1) 6) (nI k1))), (0, .ref ot)]) hx hb dX4_spreadFires_153 hl (k := 4) rfl rfl (by decide) rfl (fun ls hl => ?_)
                    refine lv_goto (tgt := 4) hx hb dX4_spreadFires_156 (by decide) ?_
                    exact ih1 (k1 + 1) (by omega) _ (nI_1 k1) _ (by (rw [spB, Bool.eq_false_iff.mpr c7, Bool.false_or, spD, if_pos c4, if_neg c5, if_neg c9]; first | done | rfl)) _ (by (rw [spF, spS, if_pos c4, if_neg c5]; first | done | rfl)) _ _ hP hD hS ls (lv_sub hl [0, 1, 5] rfl)
            · exact absurd c6 (by decide)
          · refine lv_aload_n hx hb dX4_spreadFires_62 rfl (lv_at hl 4 rfl) ?_
            refine va_get (D := D.1) (ci := 4) (v := .ref (Ae 0)) (C := RX4) (T := TX4) (N := 7) hx hb hts hinX4 hown hK (sP (Sb.l Sb.self) hP) 0 rfl rfl 3 (by decide) (hts (.fieldLink RX4 28 "MountainPost$Traffic" "letters" "LMountainPost$Letters;") (List.mem_of_getElem? (i := 1) rfl)) (fun _ h9 => h9) rfl dX4_spreadFires_63 ?_
            refine va_getN (D := D.1) (ci := 1) (v := .ref (Ae 8)) (C := RX1) (T := TX1) (N := 12) hx hb hts hinX1 hown hK (sP (Sb.r (Sb.r (Sb.r (Sb.l Sb.self)))) hP) 0 rfl rfl 8 (by decide) (hN.f 36 rfl) (fun _ h9 => h9) rfl dX4_spreadFires_66 ?_
            refine lv_iload_n hx hb dX4_spreadFires_69 rfl (lv_at hl 2 rfl) ?_
            refine kVp ⟨hx, hb, hml, hown, hts⟩ (c_X3_get l D (Ae 8) (Ae 19) 60 ((spF Le Ld nsd fogd hou k1) 7) (nI k1) (by decide)) (cwV 1 hts gX4_spreadFires_X3_get rfl rfl rfl (by decide +kernel) ⟨Nat.le_of_ble_eq_true rfl, Nat.le_of_ble_eq_true rfl⟩) hK hN hP hD (Sb.r (Sb.r (Sb.r (Sb.l sbLet7)))) 3 0 rfl rfl rfl hl.1 (Nat.le_of_ble_eq_true rfl) ⟨Nat.zero_le _, Nat.zero_le _⟩ dX4_spreadFires_70 ?_ rfl
            refine lv_if_ne (tgt := 99) hx hb dX4_spreadFires_73 (by decide) (fun c10 => ?_) (fun c10 => ?_)
            · refine lv_iconst (v := 0) hx hb dX4_spreadFires_99 (by decide) ?_
              refine lv_istore (lv' := [(5, .int 0), (4, .int (litC Ld nsd fogd (rg 60 ((spF Le Ld nsd fogd hou k1) 6) (nI k1)))), (3, .int (rg 60 ((spF Le Ld nsd fogd hou k1) 6) (nI k1))), (2, .int (nI k1)), (1, .int (z2 (spB Le Ld nsd fogd hou k1))), (0, .ref ot)]) hx hb dX4_spreadFires_100 hl (by decide) rfl (fun ls hl => ?_)
              refine lv_aload_n hx hb dX4_spreadFires_102 rfl (lv_at hl 5 rfl) ?_
              refine va_get (D := D.1) (ci := 4) (v := .ref (Ae 0)) (C := RX4) (T := TX4) (N := 7) hx hb hts hinX4 hown hK (sP (Sb.l Sb.self) hP) 0 rfl rfl 3 (by decide) (hts (.fieldLink RX4 28 "MountainPost$Traffic" "letters" "LMountainPost$Letters;") (List.mem_of_getElem? (i := 1) rfl)) (fun _ h9 => h9) rfl dX4_spreadFires_103 ?_
              refine va_getN (D := D.1) (ci := 1) (v := .ref (Ae 7)) (C := RX1) (T := TX1) (N := 12) hx hb hts hinX1 hown hK (sP (Sb.r (Sb.r (Sb.r (Sb.l Sb.self)))) hP) 0 rfl rfl 7 (by decide) (hN.f 34 rfl) (fun _ h9 => h9) rfl dX4_spreadFires_106 ?_
              refine lv_iload_n hx hb dX4_spreadFires_109 rfl (lv_at hl 3 rfl) ?_
              refine lv_iload hx hb dX4_spreadFires_110 (lv_at hl 1 rfl) ?_
              refine kVw ⟨hx, hb, hml, hown, hts⟩ (c_X3_set l D (Ae 7) (Ae 18) 60 ((spF Le Ld nsd fogd hou k1) 6) (nI k1) (litC Ld nsd fogd (rg 60 ((spF Le Ld nsd fogd hou k1) 6) (nI k1))) (by decide)) (cwV 2 hts gX4_spreadFires_X3_set rfl rfl rfl (by decide +kernel) ⟨Nat.le_of_ble_eq_true rfl, Nat.le_of_ble_eq_true rfl⟩) hK hN hP hD hS (Fr.r (Fr.r (Fr.r (Fr.l frLet6)))) 3 0 rfl rfl rfl hl.1 (Nat.le_of_ble_eq_true rfl) ⟨Nat.zero_le _, Nat.zero_le _⟩ dX4_spreadFires_112 (fun H locs hP hD hS => ?_) rfl
              have hP : va_P D.1 vwCl ((wTob ot Ad Aw Am Ae xt hou cro) ++ ((wWays D Aw Lw) ++ ((wMul D Am nm Lm) ++ ((wLet D Ae ne (sr (spF Le Ld nsd fogd hou k1) 6 (rs 60 ((spF Le Ld nsd fogd hou k1) 6) (nI k1) (litC Ld nsd fogd (rg 60 ((spF Le Ld nsd fogd hou k1) 6) (nI k1)))))) ++ (wLand D Ad nsd fogd nrd Ld))))) H := hP
              have hD : va_D A0 ((wTob ot Ad Aw Am Ae xt hou cro) ++ ((wWays D Aw Lw) ++ ((wMul D Am nm Lm) ++ ((wLet D Ae ne (sr (spF Le Ld nsd fogd hou k1) 6 (rs 60 ((spF Le Ld nsd fogd hou k1) 6) (nI k1) (litC Ld nsd fogd (rg 60 ((spF Le Ld nsd fogd hou k1) 6) (nI k1)))))) ++ (wLand D Ad nsd fogd nrd Ld))))) := hD
              refine W.eq (g2 := F0 m 115 ls []) rfl ?_
              refine lv_iload hx hb dX4_spreadFires_115 (lv_at hl 0 rfl) ?_
              refine lv_if_eq (tgt := 132) hx hb dX4_spreadFires_117 (by decide) (fun c11 => ?_) (fun c11 => ?_)
              · refine lv_iload_n hx hb dX4_spreadFires_132 rfl (lv_at hl 4 rfl) ?_
                refine lv_if_ne (tgt := 147) hx hb dX4_spreadFires_133 (by decide) (fun c12 => ?_) (fun c12 => ?_)
                · have c12 := z2_n.mp c12
                  refine lv_iconst (v := 1) hx hb dX4_spreadFires_147 (by decide) ?_
                  refine lv_goto (tgt := 152) hx hb dX4_spreadFires_148 (by decide) ?_
                  refine lv_istore_n (lv' := [(1, .int 1), (5, .int 0), (4, .int (litC Ld nsd fogd (rg 60 ((spF Le Ld nsd fogd hou k1) 6) (nI k1)))), (3, .int (rg 60 ((spF Le Ld nsd fogd hou k1) 6) (nI k1))), (2, .int (nI k1)), (0, .ref ot)]) hx hb dX4_spreadFires_152 rfl hl (by decide) rfl (fun ls hl => ?_)
                  refine lv_iinc (v := ((nI k1) + 1)) (lv' := [(2, .int ((nI k1) + 1)), (1, .int 1), (5, .int 0), (4, .int (litC Ld nsd fogd (rg 60 ((spF Le Ld nsd fogd hou k1) 6) (nI k1)))), (3, .int (rg 60 ((spF Le Ld nsd fogd hou k1) 6) (nI k1))), (0, .ref ot)]) hx hb dX4_spreadFires_153 hl (k := 4) rfl rfl (by decide) rfl (fun ls hl => ?_)
                  refine lv_goto (tgt := 4) hx hb dX4_spreadFires_156 (by decide) ?_
                  exact ih1 (k1 + 1) (by omega) _ (nI_1 k1) _ (by (rw [spB, c12, Bool.true_or]; first | done | rfl)) _ (by (rw [spF, spS, if_pos c4, if_pos c5, if_neg c10]; first | done | rfl)) _ _ hP hD hS ls (lv_sub hl [0, 1, 5] rfl)
                · have c12 := z2_0.mp c12
                  refine lv_iload hx hb dX4_spreadFires_136 (lv_at hl 0 rfl) ?_
                  refine lv_if_ne (tgt := 147) hx hb dX4_spreadFires_138 (by decide) (fun c13 => ?_) (fun c13 => ?_)
                  · exact absurd c13 (by decide)
                  · refine lv_iload hx hb dX4_spreadFires_141 (lv_at hl 1 rfl) ?_
                    refine lv_iload_n hx hb dX4_spreadFires_143 rfl (lv_at hl 2 rfl) ?_
                    refine lv_icmp_eq (tgt := 151) hx hb dX4_spreadFires_144 (by decide) (fun c14 => ?_) (fun c14 => ?_)
                    · refine lv_iconst (v := 0) hx hb dX4_spreadFires_151 (by decide) ?_
                      refine lv_istore_n (lv' := [(1, .int 0), (5, .int 0), (4, .int (litC Ld nsd fogd (rg 60 ((spF Le Ld nsd fogd hou k1) 6) (nI k1)))), (3, .int (rg 60 ((spF Le Ld nsd fogd hou k1) 6) (nI k1))), (2, .int (nI k1)), (0, .ref ot)]) hx hb dX4_spreadFires_152 rfl hl (by decide) rfl (fun ls hl => ?_)
                      refine lv_iinc (v := ((nI k1) + 1)) (lv' := [(2, .int ((nI k1) + 1)), (1, .int 0), (5, .int 0), (4, .int (litC Ld nsd fogd (rg 60 ((spF Le Ld nsd fogd hou k1) 6) (nI k1)))), (3, .int (rg 60 ((spF Le Ld nsd fogd hou k1) 6) (nI k1))), (0, .ref ot)]) hx hb dX4_spreadFires_153 hl (k := 4) rfl rfl (by decide) rfl (fun ls hl => ?_)
                      refine lv_goto (tgt := 4) hx hb dX4_spreadFires_156 (by decide) ?_
                      exact ih1 (k1 + 1) (by omega) _ (nI_1 k1) _ (by (rw [spB, Bool.eq_false_iff.mpr c12, Bool.false_or, spD, if_pos c4, if_pos c5, if_neg c10, if_pos c14]; first | done | rfl)) _ (by (rw [spF, spS, if_pos c4, if_pos c5, if_neg c10]; first | done | rfl)) _ _ hP hD hS ls (lv_sub hl [0, 1, 5] rfl)
                    · refine lv_iconst (v := 1) hx hb dX4_spreadFires_147 (by decide) ?_
                      refine lv_goto (tgt := 152) hx hb dX4_spreadFires_148 (by decide) ?_
                      refine lv_istore_n (lv' := [(1, .int 1), (5, .int 0), (4, .int (litC Ld nsd fogd (rg 60 ((spF Le Ld nsd fogd hou k1) 6) (nI k1)))), (3, .int (rg 60 ((spF Le Ld nsd fogd hou k1) 6) (nI k1))), (2, .int (nI k1)), (0, .ref ot)]) hx hb dX4_spreadFires_152 rfl hl (by decide) rfl (fun ls hl => ?_)
                      refine lv_iinc (v := ((nI k1) + 1)) (lv' := [(2, .int ((nI k1) + 1)), (1, .int 1), (5, .int 0), (4, .int (litC Ld nsd fogd (rg 60 ((spF Le Ld nsd fogd hou k1) 6) (nI k1)))), (3, .int (rg 60 ((spF Le Ld nsd fogd hou k1) 6) (nI k1))), (0, .ref ot)]) hx hb dX4_spreadFires_153 hl (k := 4) rfl rfl (by decide) rfl (fun ls hl => ?_)
                      refine lv_goto (tgt := 4) hx hb dX4_spreadFires_156 (by decide) ?_
                      exact ih1 (k1 + 1) (by omega) _ (nI_1 k1) _ (by (rw [spB, Bool.eq_false_iff.mpr c12, Bool.false_or, spD, if_pos c4, if_pos c5, if_neg c10, if_neg c14]; first | done | rfl)) _ (by (rw [spF, spS, if_pos c4, if_pos c5, if_neg c10]; first | done | rfl)) _ _ hP hD hS ls (lv_sub hl [0, 1, 5] rfl)
              · exact absurd c11 (by decide)
            · refine lv_iload hx hb dX4_spreadFires_76 (lv_at hl 0 rfl) ?_
              refine lv_aload_n hx hb dX4_spreadFires_78 rfl (lv_at hl 4 rfl) ?_
              refine va_get (D := D.1) (ci := 4) (v := .ref (Ae 0)) (C := RX4) (T := TX4) (N := 7) hx hb hts hinX4 hown hK (sP (Sb.l Sb.self) hP) 0 rfl rfl 3 (by decide) (hts (.fieldLink RX4 28 "MountainPost$Traffic" "letters" "LMountainPost$Letters;") (List.mem_of_getElem? (i := 1) rfl)) (fun _ h9 => h9) rfl dX4_spreadFires_79 ?_
              refine va_getN (D := D.1) (ci := 1) (v := .ref (Ae 5)) (C := RX1) (T := TX1) (N := 12) hx hb hts hinX1 hown hK (sP (Sb.r (Sb.r (Sb.r (Sb.l Sb.self)))) hP) 0 rfl rfl 5 (by decide) (hN.f 37 rfl) (fun _ h9 => h9) rfl dX4_spreadFires_82 ?_
              refine lv_iload_n hx hb dX4_spreadFires_85 rfl (lv_at hl 2 rfl) ?_
              refine kVp ⟨hx, hb, hml, hown, hts⟩ (c_X3_get l D (Ae 5) (Ae 16) 60 ((spF Le Ld nsd fogd hou k1) 4) (nI k1) (by decide)) (cwV 1 hts gX4_spreadFires_X3_get rfl rfl rfl (by decide +kernel) ⟨Nat.le_of_ble_eq_true rfl, Nat.le_of_ble_eq_true rfl⟩) hK hN hP hD (Sb.r (Sb.r (Sb.r (Sb.l sbLet4)))) 3 0 rfl rfl rfl hl.1 (Nat.le_of_ble_eq_true rfl) ⟨Nat.zero_le _, Nat.zero_le _⟩ dX4_spreadFires_86 ?_ rfl
              refine kNp ⟨hx, hb, hml, hown, hts⟩ (c_X6_has l D (litC Ld nsd fogd (rg 60 ((spF Le Ld nsd fogd hou k1) 6) (nI k1))) (rg 60 ((spF Le Ld nsd fogd hou k1) 4) (nI k1))) (va_cnB 2 hts ggX4_spreadFires_X6_has rfl rfl rfl (hN.m 6 rfl) (hts (.initialized RX6) (List.mem_of_getElem? (i := 26) rfl)) (by decide +kernel) ⟨Nat.le_of_ble_eq_true rfl, Nat.le_of_ble_eq_true rfl⟩) (hts (.static yX6_has) (List.mem_of_getElem? (i := 25) rfl)) hK hN hP hD Sb.nil  rfl hl.1 (Nat.le_of_ble_eq_true rfl) ⟨Nat.zero_le _, Nat.zero_le _⟩ dX4_spreadFires_89 ?_ rfl
              refine lv_if_eq (tgt := 99) hx hb dX4_spreadFires_92 (by decide) (fun c15 => ?_) (fun c15 => ?_)
              · have c15 := z2_0.mp c15
                refine lv_iconst (v := 0) hx hb dX4_spreadFires_99 (by decide) ?_
                refine lv_istore (lv' := [(5, .int 0), (4, .int (litC Ld nsd fogd (rg 60 ((spF Le Ld nsd fogd hou k1) 6) (nI k1)))), (3, .int (rg 60 ((spF Le Ld nsd fogd hou k1) 6) (nI k1))), (2, .int (nI k1)), (1, .int (z2 (spB Le Ld nsd fogd hou k1))), (0, .ref ot)]) hx hb dX4_spreadFires_100 hl (by decide) rfl (fun ls hl => ?_)
                refine lv_aload_n hx hb dX4_spreadFires_102 rfl (lv_at hl 5 rfl) ?_
                refine va_get (D := D.1) (ci := 4) (v := .ref (Ae 0)) (C := RX4) (T := TX4) (N := 7) hx hb hts hinX4 hown hK (sP (Sb.l Sb.self) hP) 0 rfl rfl 3 (by decide) (hts (.fieldLink RX4 28 "MountainPost$Traffic" "letters" "LMountainPost$Letters;") (List.mem_of_getElem? (i := 1) rfl)) (fun _ h9 => h9) rfl dX4_spreadFires_103 ?_
                refine va_getN (D := D.1) (ci := 1) (v := .ref (Ae 7)) (C := RX1) (T := TX1) (N := 12) hx hb hts hinX1 hown hK (sP (Sb.r (Sb.r (Sb.r (Sb.l Sb.self)))) hP) 0 rfl rfl 7 (by decide) (hN.f 34 rfl) (fun _ h9 => h9) rfl dX4_spreadFires_106 ?_
                refine lv_iload_n hx hb dX4_spreadFires_109 rfl (lv_at hl 3 rfl) ?_
                refine lv_iload hx hb dX4_spreadFires_110 (lv_at hl 1 rfl) ?_
                refine kVw ⟨hx, hb, hml, hown, hts⟩ (c_X3_set l D (Ae 7) (Ae 18) 60 ((spF Le Ld nsd fogd hou k1) 6) (nI k1) (litC Ld nsd fogd (rg 60 ((spF Le Ld nsd fogd hou k1) 6) (nI k1))) (by decide)) (cwV 2 hts gX4_spreadFires_X3_set rfl rfl rfl (by decide +kernel) ⟨Nat.le_of_ble_eq_true rfl, Nat.le_of_ble_eq_true rfl⟩) hK hN hP hD hS (Fr.r (Fr.r (Fr.r (Fr.l frLet6)))) 3 0 rfl rfl rfl hl.1 (Nat.le_of_ble_eq_true rfl) ⟨Nat.zero_le _, Nat.zero_le _⟩ dX4_spreadFires_112 (fun H locs hP hD hS => ?_) rfl
                have hP : va_P D.1 vwCl ((wTob ot Ad Aw Am Ae xt hou cro) ++ ((wWays D Aw Lw) ++ ((wMul D Am nm Lm) ++ ((wLet D Ae ne (sr (spF Le Ld nsd fogd hou k1) 6 (rs 60 ((spF Le Ld nsd fogd hou k1) 6) (nI k1) (litC Ld nsd fogd (rg 60 ((spF Le Ld nsd fogd hou k1) 6) (nI k1)))))) ++ (wLand D Ad nsd fogd nrd Ld))))) H := hP
                have hD : va_D A0 ((wTob ot Ad Aw Am Ae xt hou cro) ++ ((wWays D Aw Lw) ++ ((wMul D Am nm Lm) ++ ((wLet D Ae ne (sr (spF Le Ld nsd fogd hou k1) 6 (rs 60 ((spF Le Ld nsd fogd hou k1) 6) (nI k1) (litC Ld nsd fogd (rg 60 ((spF Le Ld nsd fogd hou k1) 6) (nI k1)))))) ++ (wLand D Ad nsd fogd nrd Ld))))) := hD
                refine W.eq (g2 := F0 m 115 ls []) rfl ?_
                refine lv_iload hx hb dX4_spreadFires_115 (lv_at hl 0 rfl) ?_
                refine lv_if_eq (tgt := 132) hx hb dX4_spreadFires_117 (by decide) (fun c16 => ?_) (fun c16 => ?_)
                · refine lv_iload_n hx hb dX4_spreadFires_132 rfl (lv_at hl 4 rfl) ?_
                  refine lv_if_ne (tgt := 147) hx hb dX4_spreadFires_133 (by decide) (fun c17 => ?_) (fun c17 => ?_)
                  · have c17 := z2_n.mp c17
                    refine lv_iconst (v := 1) hx hb dX4_spreadFires_147 (by decide) ?_
                    refine lv_goto (tgt := 152) hx hb dX4_spreadFires_148 (by decide) ?_
                    refine lv_istore_n (lv' := [(1, .int 1), (5, .int 0), (4, .int (litC Ld nsd fogd (rg 60 ((spF Le Ld nsd fogd hou k1) 6) (nI k1)))), (3, .int (rg 60 ((spF Le Ld nsd fogd hou k1) 6) (nI k1))), (2, .int (nI k1)), (0, .ref ot)]) hx hb dX4_spreadFires_152 rfl hl (by decide) rfl (fun ls hl => ?_)
                    refine lv_iinc (v := ((nI k1) + 1)) (lv' := [(2, .int ((nI k1) + 1)), (1, .int 1), (5, .int 0), (4, .int (litC Ld nsd fogd (rg 60 ((spF Le Ld nsd fogd hou k1) 6) (nI k1)))), (3, .int (rg 60 ((spF Le Ld nsd fogd hou k1) 6) (nI k1))), (0, .ref ot)]) hx hb dX4_spreadFires_153 hl (k := 4) rfl rfl (by decide) rfl (fun ls hl => ?_)
                    refine lv_goto (tgt := 4) hx hb dX4_spreadFires_156 (by decide) ?_
                    exact ih1 (k1 + 1) (by omega) _ (nI_1 k1) _ (by (rw [spB, c17, Bool.true_or]; first | done | rfl)) _ (by (rw [spF, spS, if_pos c4, if_pos c5, if_pos c10, if_neg c15]; first | done | rfl)) _ _ hP hD hS ls (lv_sub hl [0, 1, 5] rfl)
                  · have c17 := z2_0.mp c17
                    refine lv_iload hx hb dX4_spreadFires_136 (lv_at hl 0 rfl) ?_
                    refine lv_if_ne (tgt := 147) hx hb dX4_spreadFires_138 (by decide) (fun c18 => ?_) (fun c18 => ?_)
                    · exact absurd c18 (by decide)
                    · refine lv_iload hx hb dX4_spreadFires_141 (lv_at hl 1 rfl) ?_
                      refine lv_iload_n hx hb dX4_spreadFires_143 rfl (lv_at hl 2 rfl) ?_
                      refine lv_icmp_eq (tgt := 151) hx hb dX4_spreadFires_144 (by decide) (fun c19 => ?_) (fun c19 => ?_)
                      · refine lv_iconst (v := 0) hx hb dX4_spreadFires_151 (by decide) ?_
                        refine lv_istore_n (lv' := [(1, .int 0), (5, .int 0), (4, .int (litC Ld nsd fogd (rg 60 ((spF Le Ld nsd fogd hou k1) 6) (nI k1)))), (3, .int (rg 60 ((spF Le Ld nsd fogd hou k1) 6) (nI k1))), (2, .int (nI k1)), (0, .ref ot)]) hx hb dX4_spreadFires_152 rfl hl (by decide) rfl (fun ls hl => ?_)
                        refine lv_iinc (v := ((nI k1) + 1)) (lv' := [(2, .int ((nI k1) + 1)), (1, .int 0), (5, .int 0), (4, .int (litC Ld nsd fogd (rg 60 ((spF Le Ld nsd fogd hou k1) 6) (nI k1)))), (3, .int (rg 60 ((spF Le Ld nsd fogd hou k1) 6) (nI k1))), (0, .ref ot)]) hx hb dX4_spreadFires_153 hl (k := 4) rfl rfl (by decide) rfl (fun ls hl => ?_)
                        refine lv_goto (tgt := 4) hx hb dX4_spreadFires_156 (by decide) ?_
                        exact ih1 (k1 + 1) (by omega) _ (nI_1 k1) _ (by (rw [spB, Bool.eq_false_iff.mpr c17, Bool.false_or, spD, if_pos c4, if_pos c5, if_pos c10, if_neg c15, if_pos c19]; first | done | rfl)) _ (by (rw [spF, spS, if_pos c4, if_pos c5, if_pos c10, if_neg c15]; first | done | rfl)) _ _ hP hD hS ls (lv_sub hl [0, 1, 5] rfl)
                      · refine lv_iconst (v := 1) hx hb dX4_spreadFires_147 (by decide) ?_
                        refine lv_goto (tgt := 152) hx hb dX4_spreadFires_148 (by decide) ?_
                        refine lv_istore_n (lv' := [(1, .int 1), (5, .int 0), (4, .int (litC Ld nsd fogd (rg 60 ((spF Le Ld nsd fogd hou k1) 6) (nI k1)))), (3, .int (rg 60 ((spF Le Ld nsd fogd hou k1) 6) (nI k1))), (2, .int (nI k1)), (0, .ref ot)]) hx hb dX4_spreadFires_152 rfl hl (by decide) rfl (fun ls hl => ?_)
                        refine lv_iinc (v := ((nI k1) + 1)) (lv' := [(2, .int ((nI k1) + 1)), (1, .int 1), (5, .int 0), (4, .int (litC Ld nsd fogd (rg 60 ((spF Le Ld nsd fogd hou k1) 6) (nI k1)))), (3, .int (rg 60 ((spF Le Ld nsd fogd hou k1) 6) (nI k1))), (0, .ref ot)]) hx hb dX4_spreadFires_153 hl (k := 4) rfl rfl (by decide) rfl (fun ls hl => ?_)
                        refine lv_goto (tgt := 4) hx hb dX4_spreadFires_156 (by decide) ?_
                        exact ih1 (k1 + 1) (by omega) _ (nI_1 k1) _ (by (rw [spB, Bool.eq_false_iff.mpr c17, Bool.false_or, spD, if_pos c4, if_pos c5, if_pos c10, if_neg c15, if_neg c19]; first | done | rfl)) _ (by (rw [spF, spS, if_pos c4, if_pos c5, if_pos c10, if_neg c15]; first | done | rfl)) _ _ hP hD hS ls (lv_sub hl [0, 1, 5] rfl)
                · exact absurd c16 (by decide)
              · have c15 := z2_n.mp c15
                refine lv_iconst (v := 1) hx hb dX4_spreadFires_95 (by decide) ?_
                refine lv_goto (tgt := 100) hx hb dX4_spreadFires_96 (by decide) ?_
                refine lv_istore (lv' := [(5, .int 1), (4, .int (litC Ld nsd fogd (rg 60 ((spF Le Ld nsd fogd hou k1) 6) (nI k1)))), (3, .int (rg 60 ((spF Le Ld nsd fogd hou k1) 6) (nI k1))), (2, .int (nI k1)), (1, .int (z2 (spB Le Ld nsd fogd hou k1))), (0, .ref ot)]) hx hb dX4_spreadFires_100 hl (by decide) rfl (fun ls hl => ?_)
                refine lv_aload_n hx hb dX4_spreadFires_102 rfl (lv_at hl 5 rfl) ?_
                refine va_get (D := D.1) (ci := 4) (v := .ref (Ae 0)) (C := RX4) (T := TX4) (N := 7) hx hb hts hinX4 hown hK (sP (Sb.l Sb.self) hP) 0 rfl rfl 3 (by decide) (hts (.fieldLink RX4 28 "MountainPost$Traffic" "letters" "LMountainPost$Letters;") (List.mem_of_getElem? (i := 1) rfl)) (fun _ h9 => h9) rfl dX4_spreadFires_103 ?_
                refine va_getN (D := D.1) (ci := 1) (v := .ref (Ae 7)) (C := RX1) (T := TX1) (N := 12) hx hb hts hinX1 hown hK (sP (Sb.r (Sb.r (Sb.r (Sb.l Sb.self)))) hP) 0 rfl rfl 7 (by decide) (hN.f 34 rfl) (fun _ h9 => h9) rfl dX4_spreadFires_106 ?_
                refine lv_iload_n hx hb dX4_spreadFires_109 rfl (lv_at hl 3 rfl) ?_
                refine lv_iload hx hb dX4_spreadFires_110 (lv_at hl 1 rfl) ?_
                refine kVw ⟨hx, hb, hml, hown, hts⟩ (c_X3_set l D (Ae 7) (Ae 18) 60 ((spF Le Ld nsd fogd hou k1) 6) (nI k1) (litC Ld nsd fogd (rg 60 ((spF Le Ld nsd fogd hou k1) 6) (nI k1))) (by decide)) (cwV 2 hts gX4_spreadFires_X3_set rfl rfl rfl (by decide +kernel) ⟨Nat.le_of_ble_eq_true rfl, Nat.le_of_ble_eq_true rfl⟩) hK hN hP hD hS (Fr.r (Fr.r (Fr.r (Fr.l frLet6)))) 3 0 rfl rfl rfl hl.1 (Nat.le_of_ble_eq_true rfl) ⟨Nat.zero_le _, Nat.zero_le _⟩ dX4_spreadFires_112 (fun H locs hP hD hS => ?_) rfl
                have hP : va_P D.1 vwCl ((wTob ot Ad Aw Am Ae xt hou cro) ++ ((wWays D Aw Lw) ++ ((wMul D Am nm Lm) ++ ((wLet D Ae ne (sr (spF Le Ld nsd fogd hou k1) 6 (rs 60 ((spF Le Ld nsd fogd hou k1) 6) (nI k1) (litC Ld nsd fogd (rg 60 ((spF Le Ld nsd fogd hou k1) 6) (nI k1)))))) ++ (wLand D Ad nsd fogd nrd Ld))))) H := hP
                have hD : va_D A0 ((wTob ot Ad Aw Am Ae xt hou cro) ++ ((wWays D Aw Lw) ++ ((wMul D Am nm Lm) ++ ((wLet D Ae ne (sr (spF Le Ld nsd fogd hou k1) 6 (rs 60 ((spF Le Ld nsd fogd hou k1) 6) (nI k1) (litC Ld nsd fogd (rg 60 ((spF Le Ld nsd fogd hou k1) 6) (nI k1)))))) ++ (wLand D Ad nsd fogd nrd Ld))))) := hD
                refine W.eq (g2 := F0 m 115 ls []) rfl ?_
                refine lv_iload hx hb dX4_spreadFires_115 (lv_at hl 0 rfl) ?_
                refine lv_if_eq (tgt := 132) hx hb dX4_spreadFires_117 (by decide) (fun c20 => ?_) (fun c20 => ?_)
                · exact absurd c20 (by decide)
                · refine lv_aload_n hx hb dX4_spreadFires_120 rfl (lv_at hl 5 rfl) ?_
                  refine va_get (D := D.1) (ci := 4) (v := .ref (Ae 0)) (C := RX4) (T := TX4) (N := 7) hx hb hts hinX4 hown hK (sP (Sb.l Sb.self) hP) 0 rfl rfl 3 (by decide) (hts (.fieldLink RX4 28 "MountainPost$Traffic" "letters" "LMountainPost$Letters;") (List.mem_of_getElem? (i := 1) rfl)) (fun _ h9 => h9) rfl dX4_spreadFires_121 ?_
                  refine lv_iload_n hx hb dX4_spreadFires_124 rfl (lv_at hl 3 rfl) ?_
                  refine lv_aload_n hx hb dX4_spreadFires_125 rfl (lv_at hl 5 rfl) ?_
                  refine va_get (D := D.1) (ci := 4) (v := .int hou) (C := RX4) (T := TX4) (N := 7) hx hb hts hinX4 hown hK (sP (Sb.l Sb.self) hP) 0 rfl rfl 5 (by decide) (hts (.fieldLink RX4 70 "MountainPost$Traffic" "hour" "I") (List.mem_of_getElem? (i := 3) rfl)) (fun _ h9 => h9) rfl dX4_spreadFires_126 ?_
                  refine kVw ⟨hx, hb, hml, hown, hts⟩ (c_X1_turn l D Ae ne (sr (spF Le Ld nsd fogd hou k1) 6 (rs 60 ((spF Le Ld nsd fogd hou k1) 6) (nI k1) (litC Ld nsd fogd (rg 60 ((spF Le Ld nsd fogd hou k1) 6) (nI k1))))) (nI k1) hou) (cwV 2 hts gX4_spreadFires_X1_turn rfl rfl rfl (by decide +kernel) ⟨Nat.le_of_ble_eq_true rfl, Nat.le_of_ble_eq_true rfl⟩) hK hN hP hD hS (Fr.r (Fr.r (Fr.r (Fr.l frsLet)))) 1 0 rfl rfl rfl hl.1 (Nat.le_of_ble_eq_true rfl) ⟨Nat.zero_le _, Nat.zero_le _⟩ dX4_spreadFires_129 (fun H locs hP hD hS => ?_) rfl
                  have hP : va_P D.1 vwCl ((wTob ot Ad Aw Am Ae xt hou cro) ++ ((wWays D Aw Lw) ++ ((wMul D Am nm Lm) ++ ((wLet D Ae ne (turnC (sr (spF Le Ld nsd fogd hou k1) 6 (rs 60 ((spF Le Ld nsd fogd hou k1) 6) (nI k1) (litC Ld nsd fogd (rg 60 ((spF Le Ld nsd fogd hou k1) 6) (nI k1))))) (nI k1) hou)) ++ (wLand D Ad nsd fogd nrd Ld))))) H := hP
                  have hD : va_D A0 ((wTob ot Ad Aw Am Ae xt hou cro) ++ ((wWays D Aw Lw) ++ ((wMul D Am nm Lm) ++ ((wLet D Ae ne (turnC (sr (spF Le Ld nsd fogd hou k1) 6 (rs 60 ((spF Le Ld nsd fogd hou k1) 6) (nI k1) (litC Ld nsd fogd (rg 60 ((spF Le Ld nsd fogd hou k1) 6) (nI k1))))) (nI k1) hou)) ++ (wLand D Ad nsd fogd nrd Ld))))) := hD
                  refine W.eq (g2 := F0 m 132 ls []) rfl ?_
                  refine lv_iload_n hx hb dX4_spreadFires_132 rfl (lv_at hl 4 rfl) ?_
                  refine lv_if_ne (tgt := 147) hx hb dX4_spreadFires_133 (by decide) (fun c21 => ?_) (fun c21 => ?_)
                  · have c21 := z2_n.mp c21
                    refine lv_iconst (v := 1) hx hb dX4_spreadFires_147 (by decide) ?_
                    refine lv_goto (tgt := 152) hx hb dX4_spreadFires_148 (by decide) ?_
                    refine lv_istore_n (lv' := [(1, .int 1), (5, .int 1), (4, .int (litC Ld nsd fogd (rg 60 ((spF Le Ld nsd fogd hou k1) 6) (nI k1)))), (3, .int (rg 60 ((spF Le Ld nsd fogd hou k1) 6) (nI k1))), (2, .int (nI k1)), (0, .ref ot)]) hx hb dX4_spreadFires_152 rfl hl (by decide) rfl (fun ls hl => ?_)
                    refine lv_iinc (v := ((nI k1) + 1)) (lv' := [(2, .int ((nI k1) + 1)), (1, .int 1), (5, .int 1), (4, .int (litC Ld nsd fogd (rg 60 ((spF Le Ld nsd fogd hou k1) 6) (nI k1)))), (3, .int (rg 60 ((spF Le Ld nsd fogd hou k1) 6) (nI k1))), (0, .ref ot)]) hx hb dX4_spreadFires_153 hl (k := 4) rfl rfl (by decide) rfl (fun ls hl => ?_)
                    refine lv_goto (tgt := 4) hx hb dX4_spreadFires_156 (by decide) ?_
                    exact ih1 (k1 + 1) (by omega) _ (nI_1 k1) _ (by (rw [spB, c21, Bool.true_or]; first | done | rfl)) _ (by (rw [spF, spS, if_pos c4, if_pos c5, if_pos c10, if_pos c15]; first | done | rfl)) _ _ hP hD hS ls (lv_sub hl [0, 1, 5] rfl)
                  · have c21 := z2_0.mp c21
                    refine lv_iload hx hb dX4_spreadFires_136 (lv_at hl 0 rfl) ?_
                    refine lv_if_ne (tgt := 147) hx hb dX4_spreadFires_138 (by decide) (fun c22 => ?_) (fun c22 => ?_)
                    · refine lv_iconst (v := 1) hx hb dX4_spreadFires_147 (by decide) ?_
                      refine lv_goto (tgt := 152) hx hb dX4_spreadFires_148 (by decide) ?_
                      refine lv_istore_n (lv' := [(1, .int 1), (5, .int 1), (4, .int (litC Ld nsd fogd (rg 60 ((spF Le Ld nsd fogd hou k1) 6) (nI k1)))), (3, .int (rg 60 ((spF Le Ld nsd fogd hou k1) 6) (nI k1))), (2, .int (nI k1)), (0, .ref ot)]) hx hb dX4_spreadFires_152 rfl hl (by decide) rfl (fun ls hl => ?_)
                      refine lv_iinc (v := ((nI k1) + 1)) (lv' := [(2, .int ((nI k1) + 1)), (1, .int 1), (5, .int 1), (4, .int (litC Ld nsd fogd (rg 60 ((spF Le Ld nsd fogd hou k1) 6) (nI k1)))), (3, .int (rg 60 ((spF Le Ld nsd fogd hou k1) 6) (nI k1))), (0, .ref ot)]) hx hb dX4_spreadFires_153 hl (k := 4) rfl rfl (by decide) rfl (fun ls hl => ?_)
                      refine lv_goto (tgt := 4) hx hb dX4_spreadFires_156 (by decide) ?_
                      exact ih1 (k1 + 1) (by omega) _ (nI_1 k1) _ (by (rw [spB, Bool.eq_false_iff.mpr c21, Bool.false_or, spD, if_pos c4, if_pos c5, if_pos c10, if_pos c15]; first | done | rfl)) _ (by (rw [spF, spS, if_pos c4, if_pos c5, if_pos c10, if_pos c15]; first | done | rfl)) _ _ hP hD hS ls (lv_sub hl [0, 1, 5] rfl)
                    · exact absurd c22 (by decide)
  exact lp1 ne 0 (by omega) _ nI_0.symm _ rfl _ rfl _ _ hP hD hS ls (lv_sub hl [0, 1, 2] rfl)
