set_option maxHeartbeats 4000000 in
set_option maxRecDepth 100000 in
theorem c_X6_recall (l : Launch) (D : GG) (om : Nat) (Ad : Nat → Nat) (ot : Nat) (ou : Nat) (Aw : Nat → Nat) (Am : Nat → Nat) (Ae : Nat → Nat) (xt : Nat) (hou : Int32) (cro : Int32) (Lw : Nat → Nat → Int32) (nm : Nat) (Lm : Nat → Nat → Int32) (ne : Nat) (Le : Nat → Nat → Int32) (yt : Nat) (Nt : Nat → Int32) (nsd : Nat) (fogd : Int32) (nrd : Nat) (Ld : Nat → Nat → Int32) (p1 : Int32) (sz : Nat) (hns : nsd < 2 ^ 31) (hl9 : l.stackTraces = false) : vx_Met l yX6_recall wsX6_recall ({ frames := 6, cells := 1, slots := 6, locals := 82 } : Room) (va_Pc [.ref om, .int p1] (wdE D ((wMob om Ad ot ou) ++ ((wTob ot Ad Aw Am Ae xt hou cro) ++ ((wWays D Aw Lw) ++ ((wMul D Am nm Lm) ++ ((wLet D Ae ne Le) ++ ((wRow D xt yt 60 Nt) ++ (wLand D Ad nsd fogd nrd Ld))))))) sz)) (QE (xe ["java/lang/IndexOutOfBoundsException", "java/lang/IllegalStateException"] (kRC Le ne p1)) (QW D (some (.int (bitC (evF Ld nsd fogd (rg 60 (Le 0) p1) nsd) - 1))) ((wMob om Ad ot ou) ++ ((wTob ot Ad Aw Am Ae xt hou cro) ++ ((wWays D Aw Lw) ++ ((wMul D Am nm Lm) ++ ((wLet D Ae ne (sr Le 6 (rs 60 (Le 6) p1 (bW 0 (rg 60 (Le 0) p1))))) ++ ((wRow D xt yt 60 Nt) ++ (wLand D Ad nsd fogd nrd Ld))))))) (ownZ ((wMob om Ad ot ou) ++ ((wTob ot Ad Aw Am Ae xt hou cro) ++ ((wWays D Aw Lw) ++ ((wMul D Am nm Lm) ++ ((wLet D Ae ne Le) ++ ((wRow D xt yt 60 Nt) ++ (wLand D Ad nsd fogd nrd Ld))))))) sz))) (XK D (xe ["java/lang/IndexOutOfBoundsException", "java/lang/IllegalStateException"] (kRC Le ne p1)) ((wMob om Ad ot ou) ++ ((wTob ot Ad Aw Am Ae xt hou cro) ++ ((wWays D Aw Lw) ++ ((wMul D Am nm Lm) ++ ((wLet D Ae ne Le) ++ ((wRow D xt yt 60 Nt) ++ (wLand D Ad nsd fogd nrd Ld))))))) (ownZ ((wMob om Ad ot ou) ++ ((wTob ot Ad Aw Am Ae xt hou cro) ++ ((wWays D Aw Lw) ++ ((wMul D Am nm Lm) ++ ((wLet D Ae ne Le) ++ ((wRow D xt yt 60 Nt) ++ (wLand D Ad nsd fogd nrd Ld))))))) sz)) 1 6 (ownZ ((wMob om Ad ot ou) ++ ((wTob ot Ad Aw Am Ae xt hou cro) ++ ((wWays D Aw Lw) ++ ((wMul D Am nm Lm) ++ ((wLet D Ae ne Le) ++ ((wRow D xt yt 60 Nt) ++ (wLand D Ad nsd fogd nrd Ld))))))) sz) := by
  refine vx_ofW (cc := cX6_recall) (maxL := 3) (ret := (some .int)) (by decide) rfl ?_
  intro p e s m args below meth c s₁ B hml htab hv
  obtain ⟨rfl, hSX, hTX, hZX, hNX, hsz, hP, hK, hD, hN⟩ := hv
  have hx := B.exec
  have hb := B.bytes
  have hr := B.returns
  have hts := atoms_spec (ws := wsX6_recall) B.pre
  have hown : s.vm.findClass RX6 = some m.cls := findClass_of_methodNamed B.named
  have hlocks := B.notSynchronized
  have hinX1 : ∀ w ∈ u_ws RX1 TX1 12, w ∈ wsX6_recall := by decide +kernel
  have hinX4 : ∀ w ∈ u_ws RX4 TX4 7, w ∈ wsX6_recall := by decide +kernel
  have hinX6 : ∀ w ∈ u_ws RX6 TX6 3, w ∈ wsX6_recall := by decide +kernel
  subst hsz
  have hS : va_S (ownZ ((wMob om Ad ot ou) ++ ((wTob ot Ad Aw Am Ae xt hou cro) ++ ((wWays D Aw Lw) ++ ((wMul D Am nm Lm) ++ ((wLet D Ae ne Le) ++ ((wRow D xt yt 60 Nt) ++ (wLand D Ad nsd fogd nrd Ld))))))) s.heap.size) s.heap s.heap [] := va_S.rf
  have hD : va_D (ownZ ((wMob om Ad ot ou) ++ ((wTob ot Ad Aw Am Ae xt hou cro) ++ ((wWays D Aw Lw) ++ ((wMul D Am nm Lm) ++ ((wLet D Ae ne Le) ++ ((wRow D xt yt 60 Nt) ++ (wLand D Ad nsd fogd nrd Ld))))))) s.heap.size) ((wMob om Ad ot ou) ++ ((wTob ot Ad Aw Am Ae xt hou cro) ++ ((wWays D Aw Lw) ++ ((wMul D Am nm Lm) ++ ((wLet D Ae ne Le) ++ ((wRow D xt yt 60 Nt) ++ (wLand D Ad nsd fogd nrd Ld))))))) := toOwnZ hD
  have hA : ∀ q : Nat, s.heap.size ≤ q → ownZ ((wMob om Ad ot ou) ++ ((wTob ot Ad Aw Am Ae xt hou cro) ++ ((wWays D Aw Lw) ++ ((wMul D Am nm Lm) ++ ((wLet D Ae ne Le) ++ ((wRow D xt yt 60 Nt) ++ (wLand D Ad nsd fogd nrd Ld))))))) s.heap.size q := fun _ h => Or.inr h
  generalize hAe : ownZ ((wMob om Ad ot ou) ++ ((wTob ot Ad Aw Am Ae xt hou cro) ++ ((wWays D Aw Lw) ++ ((wMul D Am nm Lm) ++ ((wLet D Ae ne Le) ++ ((wRow D xt yt 60 Nt) ++ (wLand D Ad nsd fogd nrd Ld))))))) s.heap.size = A0 at hD hS hA hZX ⊢
  have hl := lv_entry ([.ref om, .int p1]) (n := 3) (Nat.le_of_ble_eq_true rfl)
  rw [lg_entry_eq]
  generalize (lg_sl ([.ref om, .int p1]) ++ List.replicate (3 - (lg_sl ([.ref om, .int p1])).length) Slot.unset).toArray = ls at hl ⊢
  have hl : lv_has ls 3 [(0, .ref om), (1, .int p1)] := hl
  refine lv_aload_n hx hb dX6_recall_0 rfl (lv_at hl 0 rfl) ?_
  refine lv_iload_n hx hb dX6_recall_1 rfl (lv_at hl 1 rfl) ?_
  refine kVp ⟨hx, hb, hml, hown, hts⟩ (c_X6_isLetter l D om Ad ot ou Aw Am Ae xt hou cro Lw nm Lm ne Le yt Nt nsd fogd nrd Ld p1) (cwV 1 hts gX6_recall_X6_isLetter rfl rfl rfl (by decide +kernel) ⟨Nat.le_of_ble_eq_true rfl, Nat.le_of_ble_eq_true rfl⟩) hK hN hP hD (Sb.app Sb.self (Sb.app Sb.self (Sb.app Sb.self (Sb.app Sb.self (Sb.app Sb.self (Sb.app Sb.self Sb.self)))))) 6 0 rfl rfl rfl hl.1 (Nat.le_of_ble_eq_true rfl) ⟨Nat.le_of_ble_eq_true rfl, Nat.le_of_ble_eq_true rfl⟩ dX6_recall_2 ?_ rfl
  refine lv_if_ne (tgt := 18) hx hb dX6_recall_5 (by decide) (fun c1 => ?_) (fun c1 => ?_)
  · have c1 := z2_n.mp c1
    refine lv_aload_n hx hb dX6_recall_18 rfl (lv_at hl 0 rfl) ?_
    refine va_get (D := D.1) (ci := 6) (v := .ref ot) (C := RX6) (T := TX6) (N := 3) hx hb hts hinX6 hown hK (sP (Sb.l Sb.self) hP) 0 rfl rfl 1 (by decide) (hts (.fieldLink RX6 21 "MountainPost" "traffic" "LMountainPost$Traffic;") (List.mem_of_getElem? (i := 5) rfl)) (fun _ h9 => h9) rfl dX6_recall_19 ?_
    refine va_getN (D := D.1) (ci := 4) (v := .ref (Ae 0)) (C := RX4) (T := TX4) (N := 7) hx hb hts hinX4 hown hK (sP (Sb.r (Sb.l Sb.self)) hP) 0 rfl rfl 3 (by decide) (hN.f 8 rfl) (fun _ h9 => h9) rfl dX6_recall_22 ?_
    refine lv_iload_n hx hb dX6_recall_25 rfl (lv_at hl 1 rfl) ?_
    refine kVp ⟨hx, hb, hml, hown, hts⟩ (c_X1_isRecalled l D Ae ne Le p1) (cwV 1 hts gX6_recall_X1_isRecalled rfl rfl rfl (by decide +kernel) ⟨Nat.le_of_ble_eq_true rfl, Nat.le_of_ble_eq_true rfl⟩) hK hN hP hD (Sb.r (Sb.r (Sb.r (Sb.r (Sb.l Sb.self))))) 1 0 rfl rfl rfl hl.1 (Nat.le_of_ble_eq_true rfl) ⟨Nat.le_of_ble_eq_true rfl, Nat.le_of_ble_eq_true rfl⟩ dX6_recall_26 ?_ rfl
    refine lv_if_ne (tgt := 46) hx hb dX6_recall_29 (by decide) (fun c2 => ?_) (fun c2 => ?_)
    · have c2 := z2_n.mp c2
      exact thR (E := "java/lang/IllegalStateException") (text := "the letter was recalled, has come or is back") (ik := 43) (is := 173) (ic := 47) hx hb hl9 hown (by decide +kernel) (by decide +kernel) (hts (.classLink RX6 43 "java/lang/IllegalStateException") (List.mem_of_getElem? (i := 3) rfl)) (hts (.initialized "java/lang/IllegalStateException") (List.mem_of_getElem? (i := 4) rfl)) hSX (by decide +kernel) (fun w9 h9 => hts w9 (List.mem_cons_of_mem _ (List.mem_append_right _ h9))) (by decide +kernel) hTX hZX (by decide +kernel) hP hS (hl.1.trans hml.symm) dX6_recall_46 dX6_recall_49 dX6_recall_50 dX6_recall_52 dX6_recall_55 (fun x9 h9 => (htab x9 h9).elim) (Nat.le_of_ble_eq_true rfl) (Nat.le_of_ble_eq_true rfl) (Nat.le_of_ble_eq_true rfl) (Nat.le_of_ble_eq_true rfl) hlocks (Nat.le_of_ble_eq_true rfl) (Nat.le_of_ble_eq_true rfl) (show (xe ["java/lang/IndexOutOfBoundsException", "java/lang/IllegalStateException"] (kRC Le ne p1)) = some "java/lang/IllegalStateException" from by rw [kRC, if_pos c1, if_pos c2]; rfl)
    · have c2 := z2_0.mp c2
      refine lv_aload_n hx hb dX6_recall_32 rfl (lv_at hl 0 rfl) ?_
      refine va_get (D := D.1) (ci := 6) (v := .ref ot) (C := RX6) (T := TX6) (N := 3) hx hb hts hinX6 hown hK (sP (Sb.l Sb.self) hP) 0 rfl rfl 1 (by decide) (hts (.fieldLink RX6 21 "MountainPost" "traffic" "LMountainPost$Traffic;") (List.mem_of_getElem? (i := 5) rfl)) (fun _ h9 => h9) rfl dX6_recall_33 ?_
      refine va_getN (D := D.1) (ci := 4) (v := .ref (Ae 0)) (C := RX4) (T := TX4) (N := 7) hx hb hts hinX4 hown hK (sP (Sb.r (Sb.l Sb.self)) hP) 0 rfl rfl 3 (by decide) (hN.f 8 rfl) (fun _ h9 => h9) rfl dX6_recall_36 ?_
      refine lv_iload_n hx hb dX6_recall_39 rfl (lv_at hl 1 rfl) ?_
      refine kVp ⟨hx, hb, hml, hown, hts⟩ (c_X1_hasEnded l D Ae ne Le p1) (cwV 1 hts gX6_recall_X1_hasEnded rfl rfl rfl (by decide +kernel) ⟨Nat.le_of_ble_eq_true rfl, Nat.le_of_ble_eq_true rfl⟩) hK hN hP hD (Sb.r (Sb.r (Sb.r (Sb.r (Sb.l Sb.self))))) 1 0 rfl rfl rfl hl.1 (Nat.le_of_ble_eq_true rfl) ⟨Nat.le_of_ble_eq_true rfl, Nat.le_of_ble_eq_true rfl⟩ dX6_recall_40 ?_ rfl
      refine lv_if_eq (tgt := 56) hx hb dX6_recall_43 (by decide) (fun c3 => ?_) (fun c3 => ?_)
      · have c3 := z2_0.mp c3
        refine lv_aload_n hx hb dX6_recall_56 rfl (lv_at hl 0 rfl) ?_
        refine va_get (D := D.1) (ci := 6) (v := .ref ot) (C := RX6) (T := TX6) (N := 3) hx hb hts hinX6 hown hK (sP (Sb.l Sb.self) hP) 0 rfl rfl 1 (by decide) (hts (.fieldLink RX6 21 "MountainPost" "traffic" "LMountainPost$Traffic;") (List.mem_of_getElem? (i := 5) rfl)) (fun _ h9 => h9) rfl dX6_recall_57 ?_
        refine va_getN (D := D.1) (ci := 4) (v := .ref (Ae 0)) (C := RX4) (T := TX4) (N := 7) hx hb hts hinX4 hown hK (sP (Sb.r (Sb.l Sb.self)) hP) 0 rfl rfl 3 (by decide) (hN.f 8 rfl) (fun _ h9 => h9) rfl dX6_recall_60 ?_
        refine va_getN (D := D.1) (ci := 1) (v := .ref (Ae 1)) (C := RX1) (T := TX1) (N := 12) hx hb hts hinX1 hown hK (sP (Sb.r (Sb.r (Sb.r (Sb.r (Sb.l Sb.self))))) hP) 0 rfl rfl 1 (by decide) (hN.f 11 rfl) (fun _ h9 => h9) rfl dX6_recall_63 ?_
        refine lv_iload_n hx hb dX6_recall_66 rfl (lv_at hl 1 rfl) ?_
        refine kVp ⟨hx, hb, hml, hown, hts⟩ (c_X3_get l D (Ae 1) (Ae 12) 60 (Le 0) p1 (by decide)) (cwV 1 hts gX6_recall_X3_get rfl rfl rfl (by decide +kernel) ⟨Nat.le_of_ble_eq_true rfl, Nat.le_of_ble_eq_true rfl⟩) hK hN hP hD (Sb.r (Sb.r (Sb.r (Sb.r (Sb.l sbLet0))))) 3 0 rfl rfl rfl hl.1 (Nat.le_of_ble_eq_true rfl) ⟨Nat.le_of_ble_eq_true rfl, Nat.le_of_ble_eq_true rfl⟩ dX6_recall_67 ?_ rfl
        refine lv_istore_n (lv' := [(2, .int (rg 60 (Le 0) p1)), (0, .ref om), (1, .int p1)]) hx hb dX6_recall_70 rfl hl (by decide) rfl (fun ls hl => ?_)
        refine lv_aload_n hx hb dX6_recall_71 rfl (lv_at hl 1 rfl) ?_
        refine va_get (D := D.1) (ci := 6) (v := .ref ot) (C := RX6) (T := TX6) (N := 3) hx hb hts hinX6 hown hK (sP (Sb.l Sb.self) hP) 0 rfl rfl 1 (by decide) (hts (.fieldLink RX6 21 "MountainPost" "traffic" "LMountainPost$Traffic;") (List.mem_of_getElem? (i := 5) rfl)) (fun _ h9 => h9) rfl dX6_recall_72 ?_
        refine va_getN (D := D.1) (ci := 4) (v := .ref (Ae 0)) (C := RX4) (T := TX4) (N := 7) hx hb hts hinX4 hown hK (sP (Sb.r (Sb.l Sb.self)) hP) 0 rfl rfl 3 (by decide) (hN.f 8 rfl) (fun _ h9 => h9) rfl dX6_recall_75 ?_
        refine va_getN (D := D.1) (ci := 1) (v := .ref (Ae 7)) (C := RX1) (T := TX1) (N := 12) hx hb hts hinX1 hown hK (sP (Sb.r (Sb.r (Sb.r (Sb.r (Sb.l Sb.self))))) hP) 0 rfl rfl 7 (by decide) (hN.f 12 rfl) (fun _ h9 => h9) rfl dX6_recall_78 ?_
        refine lv_iload_n hx hb dX6_recall_81 rfl (lv_at hl 2 rfl) ?_
        refine lv_iconst (v := 0) hx hb dX6_recall_82 (by decide) ?_
        refine lv_iload_n hx hb dX6_recall_83 rfl (lv_at hl 0 rfl) ?_
        refine kSp ⟨hx, hb, hml, hown, hts⟩ (c_X6_with l D 0 (rg 60 (Le 0) p1)) (va_cwS 2 hts gX6_recall_X6_with rfl rfl rfl (by decide +kernel) ⟨Nat.le_of_ble_eq_true rfl, Nat.le_of_ble_eq_true rfl⟩) hK hN hP hD Sb.nil  rfl hl.1 (Nat.le_of_ble_eq_true rfl) ⟨Nat.le_of_ble_eq_true rfl, Nat.le_of_ble_eq_true rfl⟩ dX6_recall_84 ?_ rfl
        refine kVw ⟨hx, hb, hml, hown, hts⟩ (c_X3_set l D (Ae 7) (Ae 18) 60 (Le 6) p1 (bW 0 (rg 60 (Le 0) p1)) (by decide)) (cwV 2 hts gX6_recall_X3_set rfl rfl rfl (by decide +kernel) ⟨Nat.le_of_ble_eq_true rfl, Nat.le_of_ble_eq_true rfl⟩) hK hN hP hD hS (Fr.r (Fr.r (Fr.r (Fr.r (Fr.l frLet6))))) 3 0 rfl rfl rfl hl.1 (Nat.le_of_ble_eq_true rfl) ⟨Nat.le_of_ble_eq_true rfl, Nat.le_of_ble_eq_true rfl⟩ dX6_recall_87 (fun H locs hP hD hS => ?_) rfl
        have hP : va_P D.1 vwCl ((wMob om Ad ot ou) ++ ((wTob ot Ad Aw Am Ae xt hou cro) ++ ((wWays D Aw Lw) ++ ((wMul D Am nm Lm) ++ ((wLet D Ae ne (sr Le 6 (rs 60 (Le 6) p1 (bW 0 (rg 60 (Le 0) p1))))) ++ ((wRow D xt yt 60 Nt) ++ (wLand D Ad nsd fogd nrd Ld))))))) H := hP
        have hD : va_D A0 ((wMob om Ad ot ou) ++ ((wTob ot Ad Aw Am Ae xt hou cro) ++ ((wWays D Aw Lw) ++ ((wMul D Am nm Lm) ++ ((wLet D Ae ne (sr Le 6 (rs 60 (Le 6) p1 (bW 0 (rg 60 (Le 0) p1))))) ++ ((wRow D xt yt 60 Nt) ++ (wLand D Ad nsd fogd nrd Ld))))))) := hD
        refine W.eq (g2 := F0 m 90 ls []) rfl ?_
        refine lv_aload_n hx hb dX6_recall_90 rfl (lv_at hl 1 rfl) ?_
        refine va_get (D := D.1) (ci := 6) (v := .ref (Ad 0)) (C := RX6) (T := TX6) (N := 3) hx hb hts hinX6 hown hK (sP (Sb.l Sb.self) hP) 0 rfl rfl 0 (by decide) (hts (.fieldLink RX6 10 "MountainPost" "land" "LMountainPost$Land;") (List.mem_of_getElem? (i := 6) rfl)) (fun _ h9 => h9) rfl dX6_recall_91 ?_
        refine lv_iload_n hx hb dX6_recall_94 rfl (lv_at hl 0 rfl) ?_
        refine kVp ⟨hx, hb, hml, hown, hts⟩ (c_X0_everLitFrom l D Ad nsd fogd nrd Ld (rg 60 (Le 0) p1) (by omega)) (cwV 1 hts gX6_recall_X0_everLitFrom rfl rfl rfl (by decide +kernel) ⟨Nat.le_of_ble_eq_true rfl, Nat.le_of_ble_eq_true rfl⟩) hK hN hP hD (Sb.r (Sb.r (Sb.r (Sb.r (Sb.r (Sb.r Sb.self)))))) 0 0 rfl rfl rfl hl.1 (Nat.le_of_ble_eq_true rfl) ⟨Nat.le_of_ble_eq_true rfl, Nat.le_of_ble_eq_true rfl⟩ dX6_recall_95 ?_ rfl
        refine kSp ⟨hx, hb, hml, hown, hts⟩ (c_J6_bitCount_0f7a4 l D (evF Ld nsd fogd (rg 60 (Le 0) p1) nsd)) (va_cwS 1 hts gX6_recall_J6_bitCount_0f7a4 rfl rfl rfl (by decide +kernel) ⟨Nat.le_of_ble_eq_true rfl, Nat.le_of_ble_eq_true rfl⟩) hK hN hP hD Sb.nil  rfl hl.1 (Nat.le_of_ble_eq_true rfl) ⟨Nat.le_of_ble_eq_true rfl, Nat.le_of_ble_eq_true rfl⟩ dX6_recall_98 ?_ rfl
        refine lv_iconst (v := 1) hx hb dX6_recall_101 (by decide) ?_
        refine lv_isub hx hb dX6_recall_102 ?_
        refine vx_ret (W.widen (k := 1) (n := 6) (Nat.le_of_ble_eq_true rfl) (Nat.le_of_ble_eq_true rfl) ?_)
        exact eEi hx hb hr hlocks dX6_recall_103 hS hP (show (xe ["java/lang/IndexOutOfBoundsException", "java/lang/IllegalStateException"] (kRC Le ne p1)) = none from by rw [kRC, if_pos c1, if_neg c2, if_neg c3]; rfl) (by rfl) (by rfl)
      · have c3 := z2_n.mp c3
        exact thR (E := "java/lang/IllegalStateException") (text := "the letter was recalled, has come or is back") (ik := 43) (is := 173) (ic := 47) hx hb hl9 hown (by decide +kernel) (by decide +kernel) (hts (.classLink RX6 43 "java/lang/IllegalStateException") (List.mem_of_getElem? (i := 3) rfl)) (hts (.initialized "java/lang/IllegalStateException") (List.mem_of_getElem? (i := 4) rfl)) hSX (by decide +kernel) (fun w9 h9 => hts w9 (List.mem_cons_of_mem _ (List.mem_append_right _ h9))) (by decide +kernel) hTX hZX (by decide +kernel) hP hS (hl.1.trans hml.symm) dX6_recall_46 dX6_recall_49 dX6_recall_50 dX6_recall_52 dX6_recall_55 (fun x9 h9 => (htab x9 h9).elim) (Nat.le_of_ble_eq_true rfl) (Nat.le_of_ble_eq_true rfl) (Nat.le_of_ble_eq_true rfl) (Nat.le_of_ble_eq_true rfl) hlocks (Nat.le_of_ble_eq_true rfl) (Nat.le_of_ble_eq_true rfl) (show (xe ["java/lang/IndexOutOfBoundsException", "java/lang/IllegalStateException"] (kRC Le ne p1)) = some "java/lang/IllegalStateException" from by rw [kRC, if_pos c1, if_neg c2, if_pos c3]; rfl)
  · have c1 := z2_0.mp c1
    exact thR (E := "java/lang/IndexOutOfBoundsException") (text := "no such letter") (ik := 56) (is := 165) (ic := 60) hx hb hl9 hown (by decide +kernel) (by decide +kernel) (hts (.classLink RX6 56 "java/lang/IndexOutOfBoundsException") (List.mem_of_getElem? (i := 1) rfl)) (hts (.initialized "java/lang/IndexOutOfBoundsException") (List.mem_of_getElem? (i := 2) rfl)) hSX (by decide +kernel) (fun w9 h9 => hts w9 (List.mem_cons_of_mem _ (List.mem_append_left _ (List.mem_append_right _ h9)))) (by decide +kernel) hTX hZX (by decide +kernel) hP hS (hl.1.trans hml.symm) dX6_recall_8 dX6_recall_11 dX6_recall_12 dX6_recall_14 dX6_recall_17 (fun x9 h9 => (htab x9 h9).elim) (Nat.le_of_ble_eq_true rfl) (Nat.le_of_ble_eq_true rfl) (Nat.le_of_ble_eq_true rfl) (Nat.le_of_ble_eq_true rfl) hlocks (Nat.le_of_ble_eq_true rfl) (Nat.le_of_ble_eq_true rfl) (show (xe ["java/lang/IndexOutOfBoundsException", "java/lang/IllegalStateException"] (kRC Le ne p1)) = some "java/lang/IndexOutOfBoundsException" from by rw [kRC, if_neg c1]; rfl)

set_option maxHeartbeats 4000000 in
set_option maxRecDepth 100000 in
theorem c_X6_letter (l : Launch) (D : GG) (om : Nat) (Ad : Nat → Nat) (ot : Nat) (ou : Nat) (Aw : Nat → Nat) (Am : Nat → Nat) (Ae : Nat → Nat) (xt : Nat) (hou : Int32) (cro : Int32) (Lw : Nat → Nat → Int32) (nm : Nat) (Lm : Nat → Nat → Int32) (ne : Nat) (Le : Nat → Nat → Int32) (yt : Nat) (Nt : Nat → Int32) (nsd : Nat) (fogd : Int32) (nrd : Nat) (Ld : Nat → Nat → Int32) (p1 : Int32) (p2 : Int32) (sz : Nat)  (hl9 : l.stackTraces = false) : vx_Met l yX6_letter wsX6_letter ({ frames := 6, cells := 1, slots := 6, locals := 82 } : Room) (va_Pc [.ref om, .int p1, .int p2] (wdE D ((wMob om Ad ot ou) ++ ((wTob ot Ad Aw Am Ae xt hou cro) ++ ((wWays D Aw Lw) ++ ((wMul D Am nm Lm) ++ ((wLet D Ae ne Le) ++ ((wRow D xt yt 60 Nt) ++ (wLand D Ad nsd fogd nrd Ld))))))) sz)) (QE (xe ["java/lang/IndexOutOfBoundsException"] (kTL ne 10 p1 p2)) (QW D (some (.int (tlC Le p1 p2))) ((wMob om Ad ot ou) ++ ((wTob ot Ad Aw Am Ae xt hou cro) ++ ((wWays D Aw Lw) ++ ((wMul D Am nm Lm) ++ ((wLet D Ae ne Le) ++ ((wRow D xt yt 60 Nt) ++ (wLand D Ad nsd fogd nrd Ld))))))) (ownZ ((wMob om Ad ot ou) ++ ((wTob ot Ad Aw Am Ae xt hou cro) ++ ((wWays D Aw Lw) ++ ((wMul D Am nm Lm) ++ ((wLet D Ae ne Le) ++ ((wRow D xt yt 60 Nt) ++ (wLand D Ad nsd fogd nrd Ld))))))) sz))) (XK D (xe ["java/lang/IndexOutOfBoundsException"] (kTL ne 10 p1 p2)) ((wMob om Ad ot ou) ++ ((wTob ot Ad Aw Am Ae xt hou cro) ++ ((wWays D Aw Lw) ++ ((wMul D Am nm Lm) ++ ((wLet D Ae ne Le) ++ ((wRow D xt yt 60 Nt) ++ (wLand D Ad nsd fogd nrd Ld))))))) (ownZ ((wMob om Ad ot ou) ++ ((wTob ot Ad Aw Am Ae xt hou cro) ++ ((wWays D Aw Lw) ++ ((wMul D Am nm Lm) ++ ((wLet D Ae ne Le) ++ ((wRow D xt yt 60 Nt) ++ (wLand D Ad nsd fogd nrd Ld))))))) sz)) 1 6 (ownZ ((wMob om Ad ot ou) ++ ((wTob ot Ad Aw Am Ae xt hou cro) ++ ((wWays D Aw Lw) ++ ((wMul D Am nm Lm) ++ ((wLet D Ae ne Le) ++ ((wRow D xt yt 60 Nt) ++ (wLand D Ad nsd fogd nrd Ld))))))) sz) := by
  refine vx_ofW (cc := cX6_letter) (maxL := 3) (ret := (some .int)) (by decide) rfl ?_
  intro p e s m args below meth c s₁ B hml htab hv
  obtain ⟨rfl, hSX, hTX, hZX, hNX, hsz, hP, hK, hD, hN⟩ := hv
  have hx := B.exec
  have hb := B.bytes
  have hr := B.returns
  have hts := atoms_spec (ws := wsX6_letter) B.pre
  have hown : s.vm.findClass RX6 = some m.cls := findClass_of_methodNamed B.named
  have hlocks := B.notSynchronized
  subst hsz
  have hS : va_S (ownZ ((wMob om Ad ot ou) ++ ((wTob ot Ad Aw Am Ae xt hou cro) ++ ((wWays D Aw Lw) ++ ((wMul D Am nm Lm) ++ ((wLet D Ae ne Le) ++ ((wRow D xt yt 60 Nt) ++ (wLand D Ad nsd fogd nrd Ld))))))) s.heap.size) s.heap s.heap [] := va_S.rf
  have hD : va_D (ownZ ((wMob om Ad ot ou) ++ ((wTob ot Ad Aw Am Ae xt hou cro) ++ ((wWays D Aw Lw) ++ ((wMul D Am nm Lm) ++ ((wLet D Ae ne Le) ++ ((wRow D xt yt 60 Nt) ++ (wLand D Ad nsd fogd nrd Ld))))))) s.heap.size) ((wMob om Ad ot ou) ++ ((wTob ot Ad Aw Am Ae xt hou cro) ++ ((wWays D Aw Lw) ++ ((wMul D Am nm Lm) ++ ((wLet D Ae ne Le) ++ ((wRow D xt yt 60 Nt) ++ (wLand D Ad nsd fogd nrd Ld))))))) := toOwnZ hD
  have hA : ∀ q : Nat, s.heap.size ≤ q → ownZ ((wMob om Ad ot ou) ++ ((wTob ot Ad Aw Am Ae xt hou cro) ++ ((wWays D Aw Lw) ++ ((wMul D Am nm Lm) ++ ((wLet D Ae ne Le) ++ ((wRow D xt yt 60 Nt) ++ (wLand D Ad nsd fogd nrd Ld))))))) s.heap.size q := fun _ h => Or.inr h
  generalize hAe : ownZ ((wMob om Ad ot ou) ++ ((wTob ot Ad Aw Am Ae xt hou cro) ++ ((wWays D Aw Lw) ++ ((wMul D Am nm Lm) ++ ((wLet D Ae ne Le) ++ ((wRow D xt yt 60 Nt) ++ (wLand D Ad nsd fogd nrd Ld))))))) s.heap.size = A0 at hD hS hA hZX ⊢
  have hl := lv_entry ([.ref om, .int p1, .int p2]) (n := 3) (Nat.le_of_ble_eq_true rfl)
  rw [lg_entry_eq]
  generalize (lg_sl ([.ref om, .int p1, .int p2]) ++ List.replicate (3 - (lg_sl ([.ref om, .int p1, .int p2])).length) Slot.unset).toArray = ls at hl ⊢
  have hl : lv_has ls 3 [(0, .ref om), (1, .int p1), (2, .int p2)] := hl
  refine lv_aload_n hx hb dX6_letter_0 rfl (lv_at hl 0 rfl) ?_
  refine lv_iload_n hx hb dX6_letter_1 rfl (lv_at hl 1 rfl) ?_
  refine kVp ⟨hx, hb, hml, hown, hts⟩ (c_X6_isLetter l D om Ad ot ou Aw Am Ae xt hou cro Lw nm Lm ne Le yt Nt nsd fogd nrd Ld p1) (cwV 1 hts gX6_letter_X6_isLetter rfl rfl rfl (by decide +kernel) ⟨Nat.le_of_ble_eq_true rfl, Nat.le_of_ble_eq_true rfl⟩) hK hN hP hD (Sb.app Sb.self (Sb.app Sb.self (Sb.app Sb.self (Sb.app Sb.self (Sb.app Sb.self (Sb.app Sb.self Sb.self)))))) 6 0 rfl rfl rfl hl.1 (Nat.le_of_ble_eq_true rfl) ⟨Nat.le_of_ble_eq_true rfl, Nat.le_of_ble_eq_true rfl⟩ dX6_letter_2 ?_ rfl
  refine lv_if_eq (tgt := 18) hx hb dX6_letter_5 (by decide) (fun c1 => ?_) (fun c1 => ?_)
  · have c1 := z2_0.mp c1
    exact thR (E := "java/lang/IndexOutOfBoundsException") (text := "no such letter, or no such number of it") (ik := 56) (is := 188) (ic := 60) hx hb hl9 hown (by decide +kernel) (by decide +kernel) (hts (.classLink RX6 56 "java/lang/IndexOutOfBoundsException") (List.mem_of_getElem? (i := 1) rfl)) (hts (.initialized "java/lang/IndexOutOfBoundsException") (List.mem_of_getElem? (i := 2) rfl)) hSX (by decide +kernel) (fun w9 h9 => hts w9 (List.mem_cons_of_mem _ (List.mem_append_right _ h9))) (by decide +kernel) hTX hZX (by decide +kernel) hP hS (hl.1.trans hml.symm) dX6_letter_18 dX6_letter_21 dX6_letter_22 dX6_letter_24 dX6_letter_27 (fun x9 h9 => (htab x9 h9).elim) (Nat.le_of_ble_eq_true rfl) (Nat.le_of_ble_eq_true rfl) (Nat.le_of_ble_eq_true rfl) (Nat.le_of_ble_eq_true rfl) hlocks (Nat.le_of_ble_eq_true rfl) (Nat.le_of_ble_eq_true rfl) (show (xe ["java/lang/IndexOutOfBoundsException"] (kTL ne 10 p1 p2)) = some "java/lang/IndexOutOfBoundsException" from by rw [kTL, if_neg c1]; rfl)
  · have c1 := z2_n.mp c1
    refine lv_iload_n hx hb dX6_letter_8 rfl (lv_at hl 2 rfl) ?_
    refine lv_iconst (v := 0) hx hb dX6_letter_9 (by decide) ?_
    refine lv_bipush (v := 10) hx hb dX6_letter_10 (by decide) ?_
    refine kSp ⟨hx, hb, hml, hown, hts⟩ (c_X6_isWithin l D p2 0 10) (va_cwS 3 hts gX6_letter_X6_isWithin rfl rfl rfl (by decide +kernel) ⟨Nat.le_of_ble_eq_true rfl, Nat.le_of_ble_eq_true rfl⟩) hK hN hP hD Sb.nil  rfl hl.1 (Nat.le_of_ble_eq_true rfl) ⟨Nat.le_of_ble_eq_true rfl, Nat.le_of_ble_eq_true rfl⟩ dX6_letter_12 ?_ rfl
    refine lv_if_ne (tgt := 28) hx hb dX6_letter_15 (by decide) (fun c2 => ?_) (fun c2 => ?_)
    · have c2 := z2_n.mp c2
      refine lv_aload_n hx hb dX6_letter_28 rfl (lv_at hl 0 rfl) ?_
      refine lv_iload_n hx hb dX6_letter_29 rfl (lv_at hl 1 rfl) ?_
      refine lv_iload_n hx hb dX6_letter_30 rfl (lv_at hl 2 rfl) ?_
      refine kVp ⟨hx, hb, hml, hown, hts⟩ (c_X6_tellLetter l D om Ad ot ou Aw Am Ae xt hou cro Lw nm Lm ne Le yt Nt nsd fogd nrd Ld p1 p2) (cwV 2 hts gX6_letter_X6_tellLetter rfl rfl rfl (by decide +kernel) ⟨Nat.le_of_ble_eq_true rfl, Nat.le_of_ble_eq_true rfl⟩) hK hN hP hD (Sb.app Sb.self (Sb.app Sb.self (Sb.app Sb.self (Sb.app Sb.self (Sb.app Sb.self (Sb.app Sb.self Sb.self)))))) 6 0 rfl rfl rfl hl.1 (Nat.le_of_ble_eq_true rfl) ⟨Nat.le_of_ble_eq_true rfl, Nat.le_of_ble_eq_true rfl⟩ dX6_letter_31 ?_ rfl
      refine vx_ret (W.widen (k := 1) (n := 6) (Nat.le_of_ble_eq_true rfl) (Nat.le_of_ble_eq_true rfl) ?_)
      exact eEi hx hb hr hlocks dX6_letter_34 hS hP (show (xe ["java/lang/IndexOutOfBoundsException"] (kTL ne 10 p1 p2)) = none from by rw [kTL, if_pos c1, if_pos c2]; rfl) (by rfl) (by rfl)
    · have c2 := z2_0.mp c2
      exact thR (E := "java/lang/IndexOutOfBoundsException") (text := "no such letter, or no such number of it") (ik := 56) (is := 188) (ic := 60) hx hb hl9 hown (by decide +kernel) (by decide +kernel) (hts (.classLink RX6 56 "java/lang/IndexOutOfBoundsException") (List.mem_of_getElem? (i := 1) rfl)) (hts (.initialized "java/lang/IndexOutOfBoundsException") (List.mem_of_getElem? (i := 2) rfl)) hSX (by decide +kernel) (fun w9 h9 => hts w9 (List.mem_cons_of_mem _ (List.mem_append_right _ h9))) (by decide +kernel) hTX hZX (by decide +kernel) hP hS (hl.1.trans hml.symm) dX6_letter_18 dX6_letter_21 dX6_letter_22 dX6_letter_24 dX6_letter_27 (fun x9 h9 => (htab x9 h9).elim) (Nat.le_of_ble_eq_true rfl) (Nat.le_of_ble_eq_true rfl) (Nat.le_of_ble_eq_true rfl) (Nat.le_of_ble_eq_true rfl) hlocks (Nat.le_of_ble_eq_true rfl) (Nat.le_of_ble_eq_true rfl) (show (xe ["java/lang/IndexOutOfBoundsException"] (kTL ne 10 p1 p2)) = some "java/lang/IndexOutOfBoundsException" from by rw [kTL, if_pos c1, if_neg c2]; rfl)

set_option maxHeartbeats 4000000 in
set_option maxRecDepth 100000 in
theorem c_X6_pass (l : Launch) (D : GG) (om : Nat) (Ad : Nat → Nat) (ot : Nat) (ou : Nat) (Aw : Nat → Nat) (Am : Nat → Nat) (Ae : Nat → Nat) (xt : Nat) (hou : Int32) (cro : Int32) (Lw : Nat → Nat → Int32) (nm : Nat) (Lm : Nat → Nat → Int32) (ne : Nat) (Le : Nat → Nat → Int32) (yt : Nat) (Nt : Nat → Int32) (nsd : Nat) (fogd : Int32) (nrd : Nat) (Ld : Nat → Nat → Int32) (p1 : Int32) (sz : Nat) (he : ne < 2 ^ 31) (hm : nm < 2 ^ 31) (hns : nsd < 2 ^ 31) (hl9 : l.stackTraces = false) : vx_Met l yX6_pass wsX6_pass ({ frames := 6, cells := 1, slots := 6, locals := 141 } : Room) (va_Pc [.ref om, .int p1] (wdE D ((wMob om Ad ot ou) ++ ((wTob ot Ad Aw Am Ae xt hou cro) ++ ((wWays D Aw Lw) ++ ((wMul D Am nm Lm) ++ ((wLet D Ae ne Le) ++ ((wRow D xt yt 60 Nt) ++ (wLand D Ad nsd fogd nrd Ld))))))) sz)) (QE (xe ["java/lang/IllegalArgumentException"] (kPS p1)) (QW D (some (.int (cmN Lw Ld nsd fogd nm ne Lm Le hou cro Nt p1.toNatClampNeg))) ((wMob om Ad ot ou) ++ ((wTob ot Ad Aw Am Ae xt ((hgF Lw Ld nsd fogd nm ne (Lm, Le, hou, cro, Nt, true) p1.toNatClampNeg).2.2.1) ((hgF Lw Ld nsd fogd nm ne (Lm, Le, hou, cro, Nt, true) p1.toNatClampNeg).2.2.2.1)) ++ ((wWays D Aw Lw) ++ ((wMul D Am nm ((hgF Lw Ld nsd fogd nm ne (Lm, Le, hou, cro, Nt, true) p1.toNatClampNeg).1)) ++ ((wLet D Ae ne ((hgF Lw Ld nsd fogd nm ne (Lm, Le, hou, cro, Nt, true) p1.toNatClampNeg).2.1)) ++ ((wRow D xt yt 60 ((hgF Lw Ld nsd fogd nm ne (Lm, Le, hou, cro, Nt, true) p1.toNatClampNeg).2.2.2.2.1)) ++ (wLand D Ad nsd fogd nrd Ld))))))) (ownZ ((wMob om Ad ot ou) ++ ((wTob ot Ad Aw Am Ae xt hou cro) ++ ((wWays D Aw Lw) ++ ((wMul D Am nm Lm) ++ ((wLet D Ae ne Le) ++ ((wRow D xt yt 60 Nt) ++ (wLand D Ad nsd fogd nrd Ld))))))) sz))) (XK D (xe ["java/lang/IllegalArgumentException"] (kPS p1)) ((wMob om Ad ot ou) ++ ((wTob ot Ad Aw Am Ae xt hou cro) ++ ((wWays D Aw Lw) ++ ((wMul D Am nm Lm) ++ ((wLet D Ae ne Le) ++ ((wRow D xt yt 60 Nt) ++ (wLand D Ad nsd fogd nrd Ld))))))) (ownZ ((wMob om Ad ot ou) ++ ((wTob ot Ad Aw Am Ae xt hou cro) ++ ((wWays D Aw Lw) ++ ((wMul D Am nm Lm) ++ ((wLet D Ae ne Le) ++ ((wRow D xt yt 60 Nt) ++ (wLand D Ad nsd fogd nrd Ld))))))) sz)) 1 6 (ownZ ((wMob om Ad ot ou) ++ ((wTob ot Ad Aw Am Ae xt hou cro) ++ ((wWays D Aw Lw) ++ ((wMul D Am nm Lm) ++ ((wLet D Ae ne Le) ++ ((wRow D xt yt 60 Nt) ++ (wLand D Ad nsd fogd nrd Ld))))))) sz) := by
  refine vx_ofW (cc := cX6_pass) (maxL := 2) (ret := (some .int)) (by decide) rfl ?_
  intro p e s m args below meth c s₁ B hml htab hv
  obtain ⟨rfl, hSX, hTX, hZX, hNX, hsz, hP, hK, hD, hN⟩ := hv
  have hx := B.exec
  have hb := B.bytes
  have hr := B.returns
  have hts := atoms_spec (ws := wsX6_pass) B.pre
  have hown : s.vm.findClass RX6 = some m.cls := findClass_of_methodNamed B.named
  have hlocks := B.notSynchronized
  have hinX6 : ∀ w ∈ u_ws RX6 TX6 3, w ∈ wsX6_pass := by decide +kernel
  subst hsz
  have hS : va_S (ownZ ((wMob om Ad ot ou) ++ ((wTob ot Ad Aw Am Ae xt hou cro) ++ ((wWays D Aw Lw) ++ ((wMul D Am nm Lm) ++ ((wLet D Ae ne Le) ++ ((wRow D xt yt 60 Nt) ++ (wLand D Ad nsd fogd nrd Ld))))))) s.heap.size) s.heap s.heap [] := va_S.rf
  have hD : va_D (ownZ ((wMob om Ad ot ou) ++ ((wTob ot Ad Aw Am Ae xt hou cro) ++ ((wWays D Aw Lw) ++ ((wMul D Am nm Lm) ++ ((wLet D Ae ne Le) ++ ((wRow D xt yt 60 Nt) ++ (wLand D Ad nsd fogd nrd Ld))))))) s.heap.size) ((wMob om Ad ot ou) ++ ((wTob ot Ad Aw Am Ae xt hou cro) ++ ((wWays D Aw Lw) ++ ((wMul D Am nm Lm) ++ ((wLet D Ae ne Le) ++ ((wRow D xt yt 60 Nt) ++ (wLand D Ad nsd fogd nrd Ld))))))) := toOwnZ hD
  have hA : ∀ q : Nat, s.heap.size ≤ q → ownZ ((wMob om Ad ot ou) ++ ((wTob ot Ad Aw Am Ae xt hou cro) ++ ((wWays D Aw Lw) ++ ((wMul D Am nm Lm) ++ ((wLet D Ae ne Le) ++ ((wRow D xt yt 60 Nt) ++ (wLand D Ad nsd fogd nrd Ld))))))) s.heap.size q := fun _ h => Or.inr h
  generalize hAe : ownZ ((wMob om Ad ot ou) ++ ((wTob ot Ad Aw Am Ae xt hou cro) ++ ((wWays D Aw Lw) ++ ((wMul D Am nm Lm) ++ ((wLet D Ae ne Le) ++ ((wRow D xt yt 60 Nt) ++ (wLand D Ad nsd fogd nrd Ld))))))) s.heap.size = A0 at hD hS hA hZX ⊢
  have hl := lv_entry ([.ref om, .int p1]) (n := 2) (Nat.le_of_ble_eq_true rfl)
  rw [lg_entry_eq]
  generalize (lg_sl ([.ref om, .int p1]) ++ List.replicate (2 - (lg_sl ([.ref om, .int p1])).length) Slot.unset).toArray = ls at hl ⊢
  have hl : lv_has ls 2 [(0, .ref om), (1, .int p1)] := hl
  refine lv_iload_n hx hb dX6_pass_0 rfl (lv_at hl 1 rfl) ?_
  refine lv_iconst (v := 1) hx hb dX6_pass_1 (by decide) ?_
  refine lv_bipush (v := 100) hx hb dX6_pass_2 (by decide) ?_
  refine kSp ⟨hx, hb, hml, hown, hts⟩ (c_X6_isWithin l D p1 1 100) (va_cwS 3 hts gX6_pass_X6_isWithin rfl rfl rfl (by decide +kernel) ⟨Nat.le_of_ble_eq_true rfl, Nat.le_of_ble_eq_true rfl⟩) hK hN hP hD Sb.nil  rfl hl.1 (Nat.le_of_ble_eq_true rfl) ⟨Nat.le_of_ble_eq_true rfl, Nat.le_of_ble_eq_true rfl⟩ dX6_pass_4 ?_ rfl
  refine lv_if_ne (tgt := 20) hx hb dX6_pass_7 (by decide) (fun c1 => ?_) (fun c1 => ?_)
  · have c1 := z2_n.mp c1
    refine lv_aload_n hx hb dX6_pass_20 rfl (lv_at hl 0 rfl) ?_
    refine va_get (D := D.1) (ci := 6) (v := .ref ot) (C := RX6) (T := TX6) (N := 3) hx hb hts hinX6 hown hK (sP (Sb.l Sb.self) hP) 0 rfl rfl 1 (by decide) (hts (.fieldLink RX6 21 "MountainPost" "traffic" "LMountainPost$Traffic;") (List.mem_of_getElem? (i := 3) rfl)) (fun _ h9 => h9) rfl dX6_pass_21 ?_
    refine lv_iload_n hx hb dX6_pass_24 rfl (lv_at hl 1 rfl) ?_
    refine W.eq (g2 := F0 m 25 ls [.int (nI p1.toNatClampNeg), .ref ot]) (congrArg (fun zz : Int32 => F0 m 25 ls [.int zz, .ref ot]) (show p1 = (nI p1.toNatClampNeg) from (inB_cl1 (b := 100) (by decide) c1).2)) ?_
    refine kVw ⟨hx, hb, hml, hown, hts⟩ (c_X4_letHoursGoBy l D ot Ad Aw Am Ae xt hou cro Lw nm Lm ne Le yt Nt nsd fogd nrd Ld p1.toNatClampNeg (by omega) (by omega) (by omega) (Nat.lt_of_le_of_lt (inB_cl1 (b := 100) (by decide) c1).1 (by decide))) (cwV 1 hts gX6_pass_X4_letHoursGoBy rfl rfl rfl (by decide +kernel) ⟨Nat.le_of_ble_eq_true rfl, Nat.le_of_ble_eq_true rfl⟩) hK hN hP hD hS (Fr.r (Fr.app frsTob (Fr.app (Fr.kp Sb.self) (Fr.app frsMul (Fr.app frsLet (Fr.app frsRow (Fr.kp Sb.self))))))) 4 0 rfl rfl rfl hl.1 (Nat.le_of_ble_eq_true rfl) ⟨Nat.le_of_ble_eq_true rfl, Nat.le_of_ble_eq_true rfl⟩ dX6_pass_25 (fun H locs hP hD hS => ?_) rfl
    have hP : va_P D.1 vwCl ((wMob om Ad ot ou) ++ ((wTob ot Ad Aw Am Ae xt ((hgF Lw Ld nsd fogd nm ne (Lm, Le, hou, cro, Nt, true) p1.toNatClampNeg).2.2.1) ((hgF Lw Ld nsd fogd nm ne (Lm, Le, hou, cro, Nt, true) p1.toNatClampNeg).2.2.2.1)) ++ ((wWays D Aw Lw) ++ ((wMul D Am nm ((hgF Lw Ld nsd fogd nm ne (Lm, Le, hou, cro, Nt, true) p1.toNatClampNeg).1)) ++ ((wLet D Ae ne ((hgF Lw Ld nsd fogd nm ne (Lm, Le, hou, cro, Nt, true) p1.toNatClampNeg).2.1)) ++ ((wRow D xt yt 60 ((hgF Lw Ld nsd fogd nm ne (Lm, Le, hou, cro, Nt, true) p1.toNatClampNeg).2.2.2.2.1)) ++ (wLand D Ad nsd fogd nrd Ld))))))) H := hP
    have hD : va_D A0 ((wMob om Ad ot ou) ++ ((wTob ot Ad Aw Am Ae xt ((hgF Lw Ld nsd fogd nm ne (Lm, Le, hou, cro, Nt, true) p1.toNatClampNeg).2.2.1) ((hgF Lw Ld nsd fogd nm ne (Lm, Le, hou, cro, Nt, true) p1.toNatClampNeg).2.2.2.1)) ++ ((wWays D Aw Lw) ++ ((wMul D Am nm ((hgF Lw Ld nsd fogd nm ne (Lm, Le, hou, cro, Nt, true) p1.toNatClampNeg).1)) ++ ((wLet D Ae ne ((hgF Lw Ld nsd fogd nm ne (Lm, Le, hou, cro, Nt, true) p1.toNatClampNeg).2.1)) ++ ((wRow D xt yt 60 ((hgF Lw Ld nsd fogd nm ne (Lm, Le, hou, cro, Nt, true) p1.toNatClampNeg).2.2.2.2.1)) ++ (wLand D Ad nsd fogd nrd Ld))))))) := hD
    refine W.eq (g2 := F0 m 28 ls [.int (inStC ((hgF Lw Ld nsd fogd nm ne (Lm, Le, hou, cro, Nt, true) p1.toNatClampNeg)).2.1 ne 2 - inStC Le ne 2)]) rfl ?_
    refine vx_ret (W.widen (k := 1) (n := 6) (Nat.le_of_ble_eq_true rfl) (Nat.le_of_ble_eq_true rfl) ?_)
    exact eEi hx hb hr hlocks dX6_pass_28 hS hP (show (xe ["java/lang/IllegalArgumentException"] (kPS p1)) = none from by rw [kPS, if_pos c1]; rfl) (by rfl) (by rfl)
  · have c1 := z2_0.mp c1
    exact thR (E := "java/lang/IllegalArgumentException") (text := "hours are 1 to 100") (ik := 32) (is := 193) (ic := 36) hx hb hl9 hown (by decide +kernel) (by decide +kernel) (hts (.classLink RX6 32 "java/lang/IllegalArgumentException") (List.mem_of_getElem? (i := 1) rfl)) (hts (.initialized "java/lang/IllegalArgumentException") (List.mem_of_getElem? (i := 2) rfl)) hSX (by decide +kernel) (fun w9 h9 => hts w9 (List.mem_cons_of_mem _ (List.mem_append_right _ h9))) (by decide +kernel) hTX hZX (by decide +kernel) hP hS (hl.1.trans hml.symm) dX6_pass_10 dX6_pass_13 dX6_pass_14 dX6_pass_16 dX6_pass_19 (fun x9 h9 => (htab x9 h9).elim) (Nat.le_of_ble_eq_true rfl) (Nat.le_of_ble_eq_true rfl) (Nat.le_of_ble_eq_true rfl) (Nat.le_of_ble_eq_true rfl) hlocks (Nat.le_of_ble_eq_true rfl) (Nat.le_of_ble_eq_true rfl) (show (xe ["java/lang/IllegalArgumentException"] (kPS p1)) = some "java/lang/IllegalArgumentException" from by rw [kPS, if_neg c1]; rfl)

set_option maxHeartbeats 4000000 in
set_option maxRecDepth 100000 in
theorem c_X6_count (l : Launch) (D : GG) (om : Nat) (Ad : Nat → Nat) (ot : Nat) (ou : Nat) (Aw : Nat → Nat) (Am : Nat → Nat) (Ae : Nat → Nat) (xt : Nat) (hou : Int32) (cro : Int32) (Lw : Nat → Nat → Int32) (nm : Nat) (Lm : Nat → Nat → Int32) (ne : Nat) (Le : Nat → Nat → Int32) (yt : Nat) (Nt : Nat → Int32) (nsd : Nat) (fogd : Int32) (nrd : Nat) (Ld : Nat → Nat → Int32) (p1 : Int32) (sz : Nat) (he : ne < 2 ^ 31) (hl9 : l.stackTraces = false) : vx_Met l yX6_count wsX6_count ({ frames := 6, cells := 1, slots := 6, locals := 82 } : Room) (va_Pc [.ref om, .int p1] (wdE D ((wMob om Ad ot ou) ++ ((wTob ot Ad Aw Am Ae xt hou cro) ++ ((wWays D Aw Lw) ++ ((wMul D Am nm Lm) ++ ((wLet D Ae ne Le) ++ ((wRow D xt yt 60 Nt) ++ (wLand D Ad nsd fogd nrd Ld))))))) sz)) (QE (xe ["java/lang/IndexOutOfBoundsException"] (kCT p1)) (QW D (some (.int (tcC Le hou cro nsd nrd nm ne p1))) ((wMob om Ad ot ou) ++ ((wTob ot Ad Aw Am Ae xt hou cro) ++ ((wWays D Aw Lw) ++ ((wMul D Am nm Lm) ++ ((wLet D Ae ne Le) ++ ((wRow D xt yt 60 Nt) ++ (wLand D Ad nsd fogd nrd Ld))))))) (ownZ ((wMob om Ad ot ou) ++ ((wTob ot Ad Aw Am Ae xt hou cro) ++ ((wWays D Aw Lw) ++ ((wMul D Am nm Lm) ++ ((wLet D Ae ne Le) ++ ((wRow D xt yt 60 Nt) ++ (wLand D Ad nsd fogd nrd Ld))))))) sz))) (XK D (xe ["java/lang/IndexOutOfBoundsException"] (kCT p1)) ((wMob om Ad ot ou) ++ ((wTob ot Ad Aw Am Ae xt hou cro) ++ ((wWays D Aw Lw) ++ ((wMul D Am nm Lm) ++ ((wLet D Ae ne Le) ++ ((wRow D xt yt 60 Nt) ++ (wLand D Ad nsd fogd nrd Ld))))))) (ownZ ((wMob om Ad ot ou) ++ ((wTob ot Ad Aw Am Ae xt hou cro) ++ ((wWays D Aw Lw) ++ ((wMul D Am nm Lm) ++ ((wLet D Ae ne Le) ++ ((wRow D xt yt 60 Nt) ++ (wLand D Ad nsd fogd nrd Ld))))))) sz)) 1 6 (ownZ ((wMob om Ad ot ou) ++ ((wTob ot Ad Aw Am Ae xt hou cro) ++ ((wWays D Aw Lw) ++ ((wMul D Am nm Lm) ++ ((wLet D Ae ne Le) ++ ((wRow D xt yt 60 Nt) ++ (wLand D Ad nsd fogd nrd Ld))))))) sz) := by
  refine vx_ofW (cc := cX6_count) (maxL := 2) (ret := (some .int)) (by decide) rfl ?_
  intro p e s m args below meth c s₁ B hml htab hv
  obtain ⟨rfl, hSX, hTX, hZX, hNX, hsz, hP, hK, hD, hN⟩ := hv
  have hx := B.exec
  have hb := B.bytes
  have hr := B.returns
  have hts := atoms_spec (ws := wsX6_count) B.pre
  have hown : s.vm.findClass RX6 = some m.cls := findClass_of_methodNamed B.named
  have hlocks := B.notSynchronized
  subst hsz
  have hS : va_S (ownZ ((wMob om Ad ot ou) ++ ((wTob ot Ad Aw Am Ae xt hou cro) ++ ((wWays D Aw Lw) ++ ((wMul D Am nm Lm) ++ ((wLet D Ae ne Le) ++ ((wRow D xt yt 60 Nt) ++ (wLand D Ad nsd fogd nrd Ld))))))) s.heap.size) s.heap s.heap [] := va_S.rf
  have hD : va_D (ownZ ((wMob om Ad ot ou) ++ ((wTob ot Ad Aw Am Ae xt hou cro) ++ ((wWays D Aw Lw) ++ ((wMul D Am nm Lm) ++ ((wLet D Ae ne Le) ++ ((wRow D xt yt 60 Nt) ++ (wLand D Ad nsd fogd nrd Ld))))))) s.heap.size) ((wMob om Ad ot ou) ++ ((wTob ot Ad Aw Am Ae xt hou cro) ++ ((wWays D Aw Lw) ++ ((wMul D Am nm Lm) ++ ((wLet D Ae ne Le) ++ ((wRow D xt yt 60 Nt) ++ (wLand D Ad nsd fogd nrd Ld))))))) := toOwnZ hD
  have hA : ∀ q : Nat, s.heap.size ≤ q → ownZ ((wMob om Ad ot ou) ++ ((wTob ot Ad Aw Am Ae xt hou cro) ++ ((wWays D Aw Lw) ++ ((wMul D Am nm Lm) ++ ((wLet D Ae ne Le) ++ ((wRow D xt yt 60 Nt) ++ (wLand D Ad nsd fogd nrd Ld))))))) s.heap.size q := fun _ h => Or.inr h
  generalize hAe : ownZ ((wMob om Ad ot ou) ++ ((wTob ot Ad Aw Am Ae xt hou cro) ++ ((wWays D Aw Lw) ++ ((wMul D Am nm Lm) ++ ((wLet D Ae ne Le) ++ ((wRow D xt yt 60 Nt) ++ (wLand D Ad nsd fogd nrd Ld))))))) s.heap.size = A0 at hD hS hA hZX ⊢
  have hl := lv_entry ([.ref om, .int p1]) (n := 2) (Nat.le_of_ble_eq_true rfl)
  rw [lg_entry_eq]
  generalize (lg_sl ([.ref om, .int p1]) ++ List.replicate (2 - (lg_sl ([.ref om, .int p1])).length) Slot.unset).toArray = ls at hl ⊢
  have hl : lv_has ls 2 [(0, .ref om), (1, .int p1)] := hl
  refine lv_iload_n hx hb dX6_count_0 rfl (lv_at hl 1 rfl) ?_
  refine lv_iconst (v := 0) hx hb dX6_count_1 (by decide) ?_
  refine lv_bipush (v := 9) hx hb dX6_count_2 (by decide) ?_
  refine kSp ⟨hx, hb, hml, hown, hts⟩ (c_X6_isWithin l D p1 0 9) (va_cwS 3 hts gX6_count_X6_isWithin rfl rfl rfl (by decide +kernel) ⟨Nat.le_of_ble_eq_true rfl, Nat.le_of_ble_eq_true rfl⟩) hK hN hP hD Sb.nil  rfl hl.1 (Nat.le_of_ble_eq_true rfl) ⟨Nat.le_of_ble_eq_true rfl, Nat.le_of_ble_eq_true rfl⟩ dX6_count_4 ?_ rfl
  refine lv_if_ne (tgt := 20) hx hb dX6_count_7 (by decide) (fun c1 => ?_) (fun c1 => ?_)
  · have c1 := z2_n.mp c1
    refine lv_aload_n hx hb dX6_count_20 rfl (lv_at hl 0 rfl) ?_
    refine lv_iload_n hx hb dX6_count_21 rfl (lv_at hl 1 rfl) ?_
    refine kVp ⟨hx, hb, hml, hown, hts⟩ (c_X6_tellCount l D om Ad ot ou Aw Am Ae xt hou cro Lw nm Lm ne Le yt Nt nsd fogd nrd Ld p1 (by omega)) (cwV 1 hts gX6_count_X6_tellCount rfl rfl rfl (by decide +kernel) ⟨Nat.le_of_ble_eq_true rfl, Nat.le_of_ble_eq_true rfl⟩) hK hN hP hD (Sb.app Sb.self (Sb.app Sb.self (Sb.app Sb.self (Sb.app Sb.self (Sb.app Sb.self (Sb.app Sb.self Sb.self)))))) 6 0 rfl rfl rfl hl.1 (Nat.le_of_ble_eq_true rfl) ⟨Nat.le_of_ble_eq_true rfl, Nat.le_of_ble_eq_true rfl⟩ dX6_count_22 ?_ rfl
    refine vx_ret (W.widen (k := 1) (n := 6) (Nat.le_of_ble_eq_true rfl) (Nat.le_of_ble_eq_true rfl) ?_)
    exact eEi hx hb hr hlocks dX6_count_25 hS hP (show (xe ["java/lang/IndexOutOfBoundsException"] (kCT p1)) = none from by rw [kCT, if_pos c1]; rfl) (by rfl) (by rfl)
  · have c1 := z2_0.mp c1
    exact thR (E := "java/lang/IndexOutOfBoundsException") (text := "no such count") (ik := 56) (is := 198) (ic := 60) hx hb hl9 hown (by decide +kernel) (by decide +kernel) (hts (.classLink RX6 56 "java/lang/IndexOutOfBoundsException") (List.mem_of_getElem? (i := 1) rfl)) (hts (.initialized "java/lang/IndexOutOfBoundsException") (List.mem_of_getElem? (i := 2) rfl)) hSX (by decide +kernel) (fun w9 h9 => hts w9 (List.mem_cons_of_mem _ (List.mem_append_right _ h9))) (by decide +kernel) hTX hZX (by decide +kernel) hP hS (hl.1.trans hml.symm) dX6_count_10 dX6_count_13 dX6_count_14 dX6_count_16 dX6_count_19 (fun x9 h9 => (htab x9 h9).elim) (Nat.le_of_ble_eq_true rfl) (Nat.le_of_ble_eq_true rfl) (Nat.le_of_ble_eq_true rfl) (Nat.le_of_ble_eq_true rfl) hlocks (Nat.le_of_ble_eq_true rfl) (Nat.le_of_ble_eq_true rfl) (show (xe ["java/lang/IndexOutOfBoundsException"] (kCT p1)) = some "java/lang/IndexOutOfBoundsException" from by rw [kCT, if_neg c1]; rfl)

set_option maxHeartbeats 4000000 in
set_option maxRecDepth 100000 in
theorem c_X6_way (l : Launch) (D : GG) (om : Nat) (Ad : Nat → Nat) (ot : Nat) (ou : Nat) (Aw : Nat → Nat) (Am : Nat → Nat) (Ae : Nat → Nat) (xt : Nat) (hou : Int32) (cro : Int32) (Lw : Nat → Nat → Int32) (nm : Nat) (Lm : Nat → Nat → Int32) (ne : Nat) (Le : Nat → Nat → Int32) (yt : Nat) (Nt : Nat → Int32) (nsd : Nat) (fogd : Int32) (nrd : Nat) (Ld : Nat → Nat → Int32) (p1 : Int32) (p2 : Int32) (p3 : Int32) (sz : Nat)  (hl9 : l.stackTraces = false) : vx_Met l yX6_way wsX6_way ({ frames := 6, cells := 1, slots := 6, locals := 82 } : Room) (va_Pc [.ref om, .int p1, .int p2, .int p3] (wdE D ((wMob om Ad ot ou) ++ ((wTob ot Ad Aw Am Ae xt hou cro) ++ ((wWays D Aw Lw) ++ ((wMul D Am nm Lm) ++ ((wLet D Ae ne Le) ++ ((wRow D xt yt 60 Nt) ++ (wLand D Ad nsd fogd nrd Ld))))))) sz)) (QE (xe ["java/lang/IndexOutOfBoundsException"] (kWY nsd p1 p2 p3)) (QW D (some (.int (wyC Lw p1 p2 p3))) ((wMob om Ad ot ou) ++ ((wTob ot Ad Aw Am Ae xt hou cro) ++ ((wWays D Aw Lw) ++ ((wMul D Am nm Lm) ++ ((wLet D Ae ne Le) ++ ((wRow D xt yt 60 Nt) ++ (wLand D Ad nsd fogd nrd Ld))))))) (ownZ ((wMob om Ad ot ou) ++ ((wTob ot Ad Aw Am Ae xt hou cro) ++ ((wWays D Aw Lw) ++ ((wMul D Am nm Lm) ++ ((wLet D Ae ne Le) ++ ((wRow D xt yt 60 Nt) ++ (wLand D Ad nsd fogd nrd Ld))))))) sz))) (XK D (xe ["java/lang/IndexOutOfBoundsException"] (kWY nsd p1 p2 p3)) ((wMob om Ad ot ou) ++ ((wTob ot Ad Aw Am Ae xt hou cro) ++ ((wWays D Aw Lw) ++ ((wMul D Am nm Lm) ++ ((wLet D Ae ne Le) ++ ((wRow D xt yt 60 Nt) ++ (wLand D Ad nsd fogd nrd Ld))))))) (ownZ ((wMob om Ad ot ou) ++ ((wTob ot Ad Aw Am Ae xt hou cro) ++ ((wWays D Aw Lw) ++ ((wMul D Am nm Lm) ++ ((wLet D Ae ne Le) ++ ((wRow D xt yt 60 Nt) ++ (wLand D Ad nsd fogd nrd Ld))))))) sz)) 1 6 (ownZ ((wMob om Ad ot ou) ++ ((wTob ot Ad Aw Am Ae xt hou cro) ++ ((wWays D Aw Lw) ++ ((wMul D Am nm Lm) ++ ((wLet D Ae ne Le) ++ ((wRow D xt yt 60 Nt) ++ (wLand D Ad nsd fogd nrd Ld))))))) sz) := by
  refine vx_ofW (cc := cX6_way) (maxL := 5) (ret := (some .int)) (by decide) rfl ?_
  intro p e s m args below meth c s₁ B hml htab hv
  obtain ⟨rfl, hSX, hTX, hZX, hNX, hsz, hP, hK, hD, hN⟩ := hv
  have hx := B.exec
  have hb := B.bytes
  have hr := B.returns
  have hts := atoms_spec (ws := wsX6_way) B.pre
  have hown : s.vm.findClass RX6 = some m.cls := findClass_of_methodNamed B.named
  have hlocks := B.notSynchronized
  have hinX4 : ∀ w ∈ u_ws RX4 TX4 7, w ∈ wsX6_way := by decide +kernel
  have hinX6 : ∀ w ∈ u_ws RX6 TX6 3, w ∈ wsX6_way := by decide +kernel
  subst hsz
  have hS : va_S (ownZ ((wMob om Ad ot ou) ++ ((wTob ot Ad Aw Am Ae xt hou cro) ++ ((wWays D Aw Lw) ++ ((wMul D Am nm Lm) ++ ((wLet D Ae ne Le) ++ ((wRow D xt yt 60 Nt) ++ (wLand D Ad nsd fogd nrd Ld))))))) s.heap.size) s.heap s.heap [] := va_S.rf
  have hD : va_D (ownZ ((wMob om Ad ot ou) ++ ((wTob ot Ad Aw Am Ae xt hou cro) ++ ((wWays D Aw Lw) ++ ((wMul D Am nm Lm) ++ ((wLet D Ae ne Le) ++ ((wRow D xt yt 60 Nt) ++ (wLand D Ad nsd fogd nrd Ld))))))) s.heap.size) ((wMob om Ad ot ou) ++ ((wTob ot Ad Aw Am Ae xt hou cro) ++ ((wWays D Aw Lw) ++ ((wMul D Am nm Lm) ++ ((wLet D Ae ne Le) ++ ((wRow D xt yt 60 Nt) ++ (wLand D Ad nsd fogd nrd Ld))))))) := toOwnZ hD
  have hA : ∀ q : Nat, s.heap.size ≤ q → ownZ ((wMob om Ad ot ou) ++ ((wTob ot Ad Aw Am Ae xt hou cro) ++ ((wWays D Aw Lw) ++ ((wMul D Am nm Lm) ++ ((wLet D Ae ne Le) ++ ((wRow D xt yt 60 Nt) ++ (wLand D Ad nsd fogd nrd Ld))))))) s.heap.size q := fun _ h => Or.inr h
  generalize hAe : ownZ ((wMob om Ad ot ou) ++ ((wTob ot Ad Aw Am Ae xt hou cro) ++ ((wWays D Aw Lw) ++ ((wMul D Am nm Lm) ++ ((wLet D Ae ne Le) ++ ((wRow D xt yt 60 Nt) ++ (wLand D Ad nsd fogd nrd Ld))))))) s.heap.size = A0 at hD hS hA hZX ⊢
  have hl := lv_entry ([.ref om, .int p1, .int p2, .int p3]) (n := 5) (Nat.le_of_ble_eq_true rfl)
  rw [lg_entry_eq]
  generalize (lg_sl ([.ref om, .int p1, .int p2, .int p3]) ++ List.replicate (5 - (lg_sl ([.ref om, .int p1, .int p2, .int p3])).length) Slot.unset).toArray = ls at hl ⊢
  have hl : lv_has ls 5 [(0, .ref om), (1, .int p1), (2, .int p2), (3, .int p3)] := hl
  refine lv_aload_n hx hb dX6_way_0 rfl (lv_at hl 0 rfl) ?_
  refine lv_iload_n hx hb dX6_way_1 rfl (lv_at hl 1 rfl) ?_
  refine kVp ⟨hx, hb, hml, hown, hts⟩ (c_X6_isStation l D om Ad ot ou Aw Am Ae xt hou cro Lw nm Lm ne Le yt Nt nsd fogd nrd Ld p1) (cwV 1 hts gX6_way_X6_isStation rfl rfl rfl (by decide +kernel) ⟨Nat.le_of_ble_eq_true rfl, Nat.le_of_ble_eq_true rfl⟩) hK hN hP hD (Sb.app Sb.self (Sb.app Sb.self (Sb.app Sb.self (Sb.app Sb.self (Sb.app Sb.self (Sb.app Sb.self Sb.self)))))) 6 0 rfl rfl rfl hl.1 (Nat.le_of_ble_eq_true rfl) ⟨Nat.le_of_ble_eq_true rfl, Nat.le_of_ble_eq_true rfl⟩ dX6_way_2 ?_ rfl
  refine lv_if_eq (tgt := 25) hx hb dX6_way_5 (by decide) (fun c1 => ?_) (fun c1 => ?_)
  · have c1 := z2_0.mp c1
    exact thR (E := "java/lang/IndexOutOfBoundsException") (text := "no such station, or no such number of a way") (ik := 56) (is := 203) (ic := 60) hx hb hl9 hown (by decide +kernel) (by decide +kernel) (hts (.classLink RX6 56 "java/lang/IndexOutOfBoundsException") (List.mem_of_getElem? (i := 1) rfl)) (hts (.initialized "java/lang/IndexOutOfBoundsException") (List.mem_of_getElem? (i := 2) rfl)) hSX (by decide +kernel) (fun w9 h9 => hts w9 (List.mem_cons_of_mem _ (List.mem_append_right _ h9))) (by decide +kernel) hTX hZX (by decide +kernel) hP hS (hl.1.trans hml.symm) dX6_way_25 dX6_way_28 dX6_way_29 dX6_way_31 dX6_way_34 (fun x9 h9 => (htab x9 h9).elim) (Nat.le_of_ble_eq_true rfl) (Nat.le_of_ble_eq_true rfl) (Nat.le_of_ble_eq_true rfl) (Nat.le_of_ble_eq_true rfl) hlocks (Nat.le_of_ble_eq_true rfl) (Nat.le_of_ble_eq_true rfl) (show (xe ["java/lang/IndexOutOfBoundsException"] (kWY nsd p1 p2 p3)) = some "java/lang/IndexOutOfBoundsException" from by rw [kWY, if_neg c1]; rfl)
  · have c1 := z2_n.mp c1
    refine lv_aload_n hx hb dX6_way_8 rfl (lv_at hl 0 rfl) ?_
    refine lv_iload_n hx hb dX6_way_9 rfl (lv_at hl 2 rfl) ?_
    refine kVp ⟨hx, hb, hml, hown, hts⟩ (c_X6_isStation l D om Ad ot ou Aw Am Ae xt hou cro Lw nm Lm ne Le yt Nt nsd fogd nrd Ld p2) (cwV 1 hts gX6_way_X6_isStation rfl rfl rfl (by decide +kernel) ⟨Nat.le_of_ble_eq_true rfl, Nat.le_of_ble_eq_true rfl⟩) hK hN hP hD (Sb.app Sb.self (Sb.app Sb.self (Sb.app Sb.self (Sb.app Sb.self (Sb.app Sb.self (Sb.app Sb.self Sb.self)))))) 6 0 rfl rfl rfl hl.1 (Nat.le_of_ble_eq_true rfl) ⟨Nat.le_of_ble_eq_true rfl, Nat.le_of_ble_eq_true rfl⟩ dX6_way_10 ?_ rfl
    refine lv_if_eq (tgt := 25) hx hb dX6_way_13 (by decide) (fun c2 => ?_) (fun c2 => ?_)
    · have c2 := z2_0.mp c2
      exact thR (E := "java/lang/IndexOutOfBoundsException") (text := "no such station, or no such number of a way") (ik := 56) (is := 203) (ic := 60) hx hb hl9 hown (by decide +kernel) (by decide +kernel) (hts (.classLink RX6 56 "java/lang/IndexOutOfBoundsException") (List.mem_of_getElem? (i := 1) rfl)) (hts (.initialized "java/lang/IndexOutOfBoundsException") (List.mem_of_getElem? (i := 2) rfl)) hSX (by decide +kernel) (fun w9 h9 => hts w9 (List.mem_cons_of_mem _ (List.mem_append_right _ h9))) (by decide +kernel) hTX hZX (by decide +kernel) hP hS (hl.1.trans hml.symm) dX6_way_25 dX6_way_28 dX6_way_29 dX6_way_31 dX6_way_34 (fun x9 h9 => (htab x9 h9).elim) (Nat.le_of_ble_eq_true rfl) (Nat.le_of_ble_eq_true rfl) (Nat.le_of_ble_eq_true rfl) (Nat.le_of_ble_eq_true rfl) hlocks (Nat.le_of_ble_eq_true rfl) (Nat.le_of_ble_eq_true rfl) (show (xe ["java/lang/IndexOutOfBoundsException"] (kWY nsd p1 p2 p3)) = some "java/lang/IndexOutOfBoundsException" from by rw [kWY, if_pos c1, if_neg c2]; rfl)
    · have c2 := z2_n.mp c2
      refine lv_iload_n hx hb dX6_way_16 rfl (lv_at hl 3 rfl) ?_
      refine lv_iconst (v := 0) hx hb dX6_way_17 (by decide) ?_
      refine lv_iconst (v := 1) hx hb dX6_way_18 (by decide) ?_
      refine kSp ⟨hx, hb, hml, hown, hts⟩ (c_X6_isWithin l D p3 0 1) (va_cwS 3 hts gX6_way_X6_isWithin rfl rfl rfl (by decide +kernel) ⟨Nat.le_of_ble_eq_true rfl, Nat.le_of_ble_eq_true rfl⟩) hK hN hP hD Sb.nil  rfl hl.1 (Nat.le_of_ble_eq_true rfl) ⟨Nat.le_of_ble_eq_true rfl, Nat.le_of_ble_eq_true rfl⟩ dX6_way_19 ?_ rfl
      refine lv_if_ne (tgt := 35) hx hb dX6_way_22 (by decide) (fun c3 => ?_) (fun c3 => ?_)
      · have c3 := z2_n.mp c3
        refine lv_iload_n hx hb dX6_way_35 rfl (lv_at hl 3 rfl) ?_
        refine lv_iconst (v := 1) hx hb dX6_way_36 (by decide) ?_
        refine lv_icmp_ne (tgt := 53) hx hb dX6_way_37 (by decide) (fun c4 => ?_) (fun c4 => ?_)
        · refine lv_aload_n hx hb dX6_way_53 rfl (lv_at hl 0 rfl) ?_
          refine va_get (D := D.1) (ci := 6) (v := .ref ot) (C := RX6) (T := TX6) (N := 3) hx hb hts hinX6 hown hK (sP (Sb.l Sb.self) hP) 0 rfl rfl 1 (by decide) (hts (.fieldLink RX6 21 "MountainPost" "traffic" "LMountainPost$Traffic;") (List.mem_of_getElem? (i := 3) rfl)) (fun _ h9 => h9) rfl dX6_way_54 ?_
          refine va_getN (D := D.1) (ci := 4) (v := .ref (Aw 0)) (C := RX4) (T := TX4) (N := 7) hx hb hts hinX4 hown hK (sP (Sb.r (Sb.l Sb.self)) hP) 0 rfl rfl 1 (by decide) (hN.f 13 rfl) (fun _ h9 => h9) rfl dX6_way_57 ?_
          refine lv_iload_n hx hb dX6_way_60 rfl (lv_at hl 1 rfl) ?_
          refine lv_iload_n hx hb dX6_way_61 rfl (lv_at hl 2 rfl) ?_
          refine kVp ⟨hx, hb, hml, hown, hts⟩ (c_X5_hoursOf l D Aw Lw p1 p2) (cwV 2 hts gX6_way_X5_hoursOf rfl rfl rfl (by decide +kernel) ⟨Nat.le_of_ble_eq_true rfl, Nat.le_of_ble_eq_true rfl⟩) hK hN hP hD (Sb.r (Sb.r (Sb.l Sb.self))) 5 0 rfl rfl rfl hl.1 (Nat.le_of_ble_eq_true rfl) ⟨Nat.le_of_ble_eq_true rfl, Nat.le_of_ble_eq_true rfl⟩ dX6_way_62 ?_ rfl
          refine lv_istore (lv' := [(4, .int (hoC Lw p1 p2)), (0, .ref om), (1, .int p1), (2, .int p2), (3, .int p3)]) hx hb dX6_way_65 hl (by decide) rfl (fun ls hl => ?_)
          refine lv_iload hx hb dX6_way_67 (lv_at hl 0 rfl) ?_
          refine lv_ldc hx hb hown (hts (.constant RX6 217 (1000000)) (List.mem_of_getElem? (i := 4) rfl)) dX6_way_69 ?_
          refine lv_icmp_ge (tgt := 79) hx hb dX6_way_71 (by decide) (fun c5 => ?_) (fun c5 => ?_)
          · refine lv_iconst (v := (-1)) hx hb dX6_way_79 (by decide) ?_
            refine vx_ret (W.widen (k := 1) (n := 6) (Nat.le_of_ble_eq_true rfl) (Nat.le_of_ble_eq_true rfl) ?_)
            exact eEi hx hb hr hlocks dX6_way_80 hS hP (show (xe ["java/lang/IndexOutOfBoundsException"] (kWY nsd p1 p2 p3)) = none from by rw [kWY, if_pos c1, if_pos c2, if_pos c3]; rfl) (by (rw [wyC, if_neg c4, if_pos c5])) (by rfl)
          · refine lv_iload hx hb dX6_way_74 (lv_at hl 0 rfl) ?_
            refine lv_goto (tgt := 80) hx hb dX6_way_76 (by decide) ?_
            refine vx_ret (W.widen (k := 1) (n := 6) (Nat.le_of_ble_eq_true rfl) (Nat.le_of_ble_eq_true rfl) ?_)
            exact eEi hx hb hr hlocks dX6_way_80 hS hP (show (xe ["java/lang/IndexOutOfBoundsException"] (kWY nsd p1 p2 p3)) = none from by rw [kWY, if_pos c1, if_pos c2, if_pos c3]; rfl) (by (rw [wyC, if_neg c4, if_neg c5])) (by rfl)
        · refine lv_aload_n hx hb dX6_way_40 rfl (lv_at hl 0 rfl) ?_
          refine va_get (D := D.1) (ci := 6) (v := .ref ot) (C := RX6) (T := TX6) (N := 3) hx hb hts hinX6 hown hK (sP (Sb.l Sb.self) hP) 0 rfl rfl 1 (by decide) (hts (.fieldLink RX6 21 "MountainPost" "traffic" "LMountainPost$Traffic;") (List.mem_of_getElem? (i := 3) rfl)) (fun _ h9 => h9) rfl dX6_way_41 ?_
          refine va_getN (D := D.1) (ci := 4) (v := .ref (Aw 0)) (C := RX4) (T := TX4) (N := 7) hx hb hts hinX4 hown hK (sP (Sb.r (Sb.l Sb.self)) hP) 0 rfl rfl 1 (by decide) (hN.f 13 rfl) (fun _ h9 => h9) rfl dX6_way_44 ?_
          refine lv_iload_n hx hb dX6_way_47 rfl (lv_at hl 1 rfl) ?_
          refine lv_iload_n hx hb dX6_way_48 rfl (lv_at hl 2 rfl) ?_
          refine kVp ⟨hx, hb, hml, hown, hts⟩ (c_X5_firstRoad l D Aw Lw p1 p2) (cwV 2 hts gX6_way_X5_firstRoad rfl rfl rfl (by decide +kernel) ⟨Nat.le_of_ble_eq_true rfl, Nat.le_of_ble_eq_true rfl⟩) hK hN hP hD (Sb.r (Sb.r (Sb.l Sb.self))) 5 0 rfl rfl rfl hl.1 (Nat.le_of_ble_eq_true rfl) ⟨Nat.le_of_ble_eq_true rfl, Nat.le_of_ble_eq_true rfl⟩ dX6_way_49 ?_ rfl
          refine vx_ret (W.widen (k := 1) (n := 6) (Nat.le_of_ble_eq_true rfl) (Nat.le_of_ble_eq_true rfl) ?_)
          exact eEi hx hb hr hlocks dX6_way_52 hS hP (show (xe ["java/lang/IndexOutOfBoundsException"] (kWY nsd p1 p2 p3)) = none from by rw [kWY, if_pos c1, if_pos c2, if_pos c3]; rfl) (by (rw [wyC, if_pos c4])) (by rfl)
      · have c3 := z2_0.mp c3
        exact thR (E := "java/lang/IndexOutOfBoundsException") (text := "no such station, or no such number of a way") (ik := 56) (is := 203) (ic := 60) hx hb hl9 hown (by decide +kernel) (by decide +kernel) (hts (.classLink RX6 56 "java/lang/IndexOutOfBoundsException") (List.mem_of_getElem? (i := 1) rfl)) (hts (.initialized "java/lang/IndexOutOfBoundsException") (List.mem_of_getElem? (i := 2) rfl)) hSX (by decide +kernel) (fun w9 h9 => hts w9 (List.mem_cons_of_mem _ (List.mem_append_right _ h9))) (by decide +kernel) hTX hZX (by decide +kernel) hP hS (hl.1.trans hml.symm) dX6_way_25 dX6_way_28 dX6_way_29 dX6_way_31 dX6_way_34 (fun x9 h9 => (htab x9 h9).elim) (Nat.le_of_ble_eq_true rfl) (Nat.le_of_ble_eq_true rfl) (Nat.le_of_ble_eq_true rfl) (Nat.le_of_ble_eq_true rfl) hlocks (Nat.le_of_ble_eq_true rfl) (Nat.le_of_ble_eq_true rfl) (show (xe ["java/lang/IndexOutOfBoundsException"] (kWY nsd p1 p2 p3)) = some "java/lang/IndexOutOfBoundsException" from by rw [kWY, if_pos c1, if_pos c2, if_neg c3]; rfl)

set_option maxHeartbeats 4000000 in
set_option maxRecDepth 100000 in
theorem c_X6_fire (l : Launch) (D : GG) (om : Nat) (Ad : Nat → Nat) (ot : Nat) (ou : Nat) (Aw : Nat → Nat) (Am : Nat → Nat) (Ae : Nat → Nat) (xt : Nat) (hou : Int32) (cro : Int32) (Lw : Nat → Nat → Int32) (nm : Nat) (Lm : Nat → Nat → Int32) (ne : Nat) (Le : Nat → Nat → Int32) (yt : Nat) (Nt : Nat → Int32) (nsd : Nat) (fogd : Int32) (nrd : Nat) (Ld : Nat → Nat → Int32) (p1 : Int32) (p2 : Int32) (sz : Nat) (hns : nsd < 2 ^ 31) (hl9 : l.stackTraces = false) : vx_Met l yX6_fire wsX6_fire ({ frames := 6, cells := 1, slots := 6, locals := 82 } : Room) (va_Pc [.ref om, .int p1, .int p2] (wdE D ((wMob om Ad ot ou) ++ ((wTob ot Ad Aw Am Ae xt hou cro) ++ ((wWays D Aw Lw) ++ ((wMul D Am nm Lm) ++ ((wLet D Ae ne Le) ++ ((wRow D xt yt 60 Nt) ++ (wLand D Ad nsd fogd nrd Ld))))))) sz)) (QE (xe ["java/lang/IndexOutOfBoundsException"] (kFI nsd p1 p2)) (QW D (some (.int (fireL Ld nsd fogd p2 nsd 0 (bW 0 p1)))) ((wMob om Ad ot ou) ++ ((wTob ot Ad Aw Am Ae xt hou cro) ++ ((wWays D Aw Lw) ++ ((wMul D Am nm Lm) ++ ((wLet D Ae ne Le) ++ ((wRow D xt yt 60 Nt) ++ (wLand D Ad nsd fogd nrd Ld))))))) (ownZ ((wMob om Ad ot ou) ++ ((wTob ot Ad Aw Am Ae xt hou cro) ++ ((wWays D Aw Lw) ++ ((wMul D Am nm Lm) ++ ((wLet D Ae ne Le) ++ ((wRow D xt yt 60 Nt) ++ (wLand D Ad nsd fogd nrd Ld))))))) sz))) (XK D (xe ["java/lang/IndexOutOfBoundsException"] (kFI nsd p1 p2)) ((wMob om Ad ot ou) ++ ((wTob ot Ad Aw Am Ae xt hou cro) ++ ((wWays D Aw Lw) ++ ((wMul D Am nm Lm) ++ ((wLet D Ae ne Le) ++ ((wRow D xt yt 60 Nt) ++ (wLand D Ad nsd fogd nrd Ld))))))) (ownZ ((wMob om Ad ot ou) ++ ((wTob ot Ad Aw Am Ae xt hou cro) ++ ((wWays D Aw Lw) ++ ((wMul D Am nm Lm) ++ ((wLet D Ae ne Le) ++ ((wRow D xt yt 60 Nt) ++ (wLand D Ad nsd fogd nrd Ld))))))) sz)) 1 6 (ownZ ((wMob om Ad ot ou) ++ ((wTob ot Ad Aw Am Ae xt hou cro) ++ ((wWays D Aw Lw) ++ ((wMul D Am nm Lm) ++ ((wLet D Ae ne Le) ++ ((wRow D xt yt 60 Nt) ++ (wLand D Ad nsd fogd nrd Ld))))))) sz) := by
  refine vx_ofW (cc := cX6_fire) (maxL := 3) (ret := (some .int)) (by decide) rfl ?_
  intro p e s m args below meth c s₁ B hml htab hv
  obtain ⟨rfl, hSX, hTX, hZX, hNX, hsz, hP, hK, hD, hN⟩ := hv
  have hx := B.exec
  have hb := B.bytes
  have hr := B.returns
  have hts := atoms_spec (ws := wsX6_fire) B.pre
  have hown : s.vm.findClass RX6 = some m.cls := findClass_of_methodNamed B.named
  have hlocks := B.notSynchronized
  have hinX6 : ∀ w ∈ u_ws RX6 TX6 3, w ∈ wsX6_fire := by decide +kernel
  subst hsz
  have hS : va_S (ownZ ((wMob om Ad ot ou) ++ ((wTob ot Ad Aw Am Ae xt hou cro) ++ ((wWays D Aw Lw) ++ ((wMul D Am nm Lm) ++ ((wLet D Ae ne Le) ++ ((wRow D xt yt 60 Nt) ++ (wLand D Ad nsd fogd nrd Ld))))))) s.heap.size) s.heap s.heap [] := va_S.rf
  have hD : va_D (ownZ ((wMob om Ad ot ou) ++ ((wTob ot Ad Aw Am Ae xt hou cro) ++ ((wWays D Aw Lw) ++ ((wMul D Am nm Lm) ++ ((wLet D Ae ne Le) ++ ((wRow D xt yt 60 Nt) ++ (wLand D Ad nsd fogd nrd Ld))))))) s.heap.size) ((wMob om Ad ot ou) ++ ((wTob ot Ad Aw Am Ae xt hou cro) ++ ((wWays D Aw Lw) ++ ((wMul D Am nm Lm) ++ ((wLet D Ae ne Le) ++ ((wRow D xt yt 60 Nt) ++ (wLand D Ad nsd fogd nrd Ld))))))) := toOwnZ hD
  have hA : ∀ q : Nat, s.heap.size ≤ q → ownZ ((wMob om Ad ot ou) ++ ((wTob ot Ad Aw Am Ae xt hou cro) ++ ((wWays D Aw Lw) ++ ((wMul D Am nm Lm) ++ ((wLet D Ae ne Le) ++ ((wRow D xt yt 60 Nt) ++ (wLand D Ad nsd fogd nrd Ld))))))) s.heap.size q := fun _ h => Or.inr h
  generalize hAe : ownZ ((wMob om Ad ot ou) ++ ((wTob ot Ad Aw Am Ae xt hou cro) ++ ((wWays D Aw Lw) ++ ((wMul D Am nm Lm) ++ ((wLet D Ae ne Le) ++ ((wRow D xt yt 60 Nt) ++ (wLand D Ad nsd fogd nrd Ld))))))) s.heap.size = A0 at hD hS hA hZX ⊢
  have hl := lv_entry ([.ref om, .int p1, .int p2]) (n := 3) (Nat.le_of_ble_eq_true rfl)
  rw [lg_entry_eq]
  generalize (lg_sl ([.ref om, .int p1, .int p2]) ++ List.replicate (3 - (lg_sl ([.ref om, .int p1, .int p2])).length) Slot.unset).toArray = ls at hl ⊢
  have hl : lv_has ls 3 [(0, .ref om), (1, .int p1), (2, .int p2)] := hl
  refine lv_aload_n hx hb dX6_fire_0 rfl (lv_at hl 0 rfl) ?_
  refine lv_iload_n hx hb dX6_fire_1 rfl (lv_at hl 1 rfl) ?_
  refine kVp ⟨hx, hb, hml, hown, hts⟩ (c_X6_isStation l D om Ad ot ou Aw Am Ae xt hou cro Lw nm Lm ne Le yt Nt nsd fogd nrd Ld p1) (cwV 1 hts gX6_fire_X6_isStation rfl rfl rfl (by decide +kernel) ⟨Nat.le_of_ble_eq_true rfl, Nat.le_of_ble_eq_true rfl⟩) hK hN hP hD (Sb.app Sb.self (Sb.app Sb.self (Sb.app Sb.self (Sb.app Sb.self (Sb.app Sb.self (Sb.app Sb.self Sb.self)))))) 6 0 rfl rfl rfl hl.1 (Nat.le_of_ble_eq_true rfl) ⟨Nat.le_of_ble_eq_true rfl, Nat.le_of_ble_eq_true rfl⟩ dX6_fire_2 ?_ rfl
  refine lv_if_eq (tgt := 16) hx hb dX6_fire_5 (by decide) (fun c1 => ?_) (fun c1 => ?_)
  · have c1 := z2_0.mp c1
    exact thR (E := "java/lang/IndexOutOfBoundsException") (text := "no such station") (ik := 56) (is := 58) (ic := 60) hx hb hl9 hown (by decide +kernel) (by decide +kernel) (hts (.classLink RX6 56 "java/lang/IndexOutOfBoundsException") (List.mem_of_getElem? (i := 1) rfl)) (hts (.initialized "java/lang/IndexOutOfBoundsException") (List.mem_of_getElem? (i := 2) rfl)) hSX (by decide +kernel) (fun w9 h9 => hts w9 (List.mem_cons_of_mem _ (List.mem_append_right _ h9))) (by decide +kernel) hTX hZX (by decide +kernel) hP hS (hl.1.trans hml.symm) dX6_fire_16 dX6_fire_19 dX6_fire_20 dX6_fire_22 dX6_fire_25 (fun x9 h9 => (htab x9 h9).elim) (Nat.le_of_ble_eq_true rfl) (Nat.le_of_ble_eq_true rfl) (Nat.le_of_ble_eq_true rfl) (Nat.le_of_ble_eq_true rfl) hlocks (Nat.le_of_ble_eq_true rfl) (Nat.le_of_ble_eq_true rfl) (show (xe ["java/lang/IndexOutOfBoundsException"] (kFI nsd p1 p2)) = some "java/lang/IndexOutOfBoundsException" from by rw [kFI, if_neg c1]; rfl)
  · have c1 := z2_n.mp c1
    refine lv_aload_n hx hb dX6_fire_8 rfl (lv_at hl 0 rfl) ?_
    refine lv_iload_n hx hb dX6_fire_9 rfl (lv_at hl 2 rfl) ?_
    refine kVp ⟨hx, hb, hml, hown, hts⟩ (c_X6_isStation l D om Ad ot ou Aw Am Ae xt hou cro Lw nm Lm ne Le yt Nt nsd fogd nrd Ld p2) (cwV 1 hts gX6_fire_X6_isStation rfl rfl rfl (by decide +kernel) ⟨Nat.le_of_ble_eq_true rfl, Nat.le_of_ble_eq_true rfl⟩) hK hN hP hD (Sb.app Sb.self (Sb.app Sb.self (Sb.app Sb.self (Sb.app Sb.self (Sb.app Sb.self (Sb.app Sb.self Sb.self)))))) 6 0 rfl rfl rfl hl.1 (Nat.le_of_ble_eq_true rfl) ⟨Nat.le_of_ble_eq_true rfl, Nat.le_of_ble_eq_true rfl⟩ dX6_fire_10 ?_ rfl
    refine lv_if_ne (tgt := 26) hx hb dX6_fire_13 (by decide) (fun c2 => ?_) (fun c2 => ?_)
    · have c2 := z2_n.mp c2
      refine lv_aload_n hx hb dX6_fire_26 rfl (lv_at hl 0 rfl) ?_
      refine va_get (D := D.1) (ci := 6) (v := .ref (Ad 0)) (C := RX6) (T := TX6) (N := 3) hx hb hts hinX6 hown hK (sP (Sb.l Sb.self) hP) 0 rfl rfl 0 (by decide) (hts (.fieldLink RX6 10 "MountainPost" "land" "LMountainPost$Land;") (List.mem_of_getElem? (i := 3) rfl)) (fun _ h9 => h9) rfl dX6_fire_27 ?_
      refine lv_iload_n hx hb dX6_fire_30 rfl (lv_at hl 1 rfl) ?_
      refine lv_iload_n hx hb dX6_fire_31 rfl (lv_at hl 2 rfl) ?_
      refine kVp ⟨hx, hb, hml, hown, hts⟩ (c_X0_hoursOfFire l D Ad nsd fogd nrd Ld p1 p2 (by omega)) (cwV 2 hts gX6_fire_X0_hoursOfFire rfl rfl rfl (by decide +kernel) ⟨Nat.le_of_ble_eq_true rfl, Nat.le_of_ble_eq_true rfl⟩) hK hN hP hD (Sb.r (Sb.r (Sb.r (Sb.r (Sb.r (Sb.r Sb.self)))))) 0 0 rfl rfl rfl hl.1 (Nat.le_of_ble_eq_true rfl) ⟨Nat.le_of_ble_eq_true rfl, Nat.le_of_ble_eq_true rfl⟩ dX6_fire_32 ?_ rfl
      refine vx_ret (W.widen (k := 1) (n := 6) (Nat.le_of_ble_eq_true rfl) (Nat.le_of_ble_eq_true rfl) ?_)
      exact eEi hx hb hr hlocks dX6_fire_35 hS hP (show (xe ["java/lang/IndexOutOfBoundsException"] (kFI nsd p1 p2)) = none from by rw [kFI, if_pos c1, if_pos c2]; rfl) (by rfl) (by rfl)
    · have c2 := z2_0.mp c2
      exact thR (E := "java/lang/IndexOutOfBoundsException") (text := "no such station") (ik := 56) (is := 58) (ic := 60) hx hb hl9 hown (by decide +kernel) (by decide +kernel) (hts (.classLink RX6 56 "java/lang/IndexOutOfBoundsException") (List.mem_of_getElem? (i := 1) rfl)) (hts (.initialized "java/lang/IndexOutOfBoundsException") (List.mem_of_getElem? (i := 2) rfl)) hSX (by decide +kernel) (fun w9 h9 => hts w9 (List.mem_cons_of_mem _ (List.mem_append_right _ h9))) (by decide +kernel) hTX hZX (by decide +kernel) hP hS (hl.1.trans hml.symm) dX6_fire_16 dX6_fire_19 dX6_fire_20 dX6_fire_22 dX6_fire_25 (fun x9 h9 => (htab x9 h9).elim) (Nat.le_of_ble_eq_true rfl) (Nat.le_of_ble_eq_true rfl) (Nat.le_of_ble_eq_true rfl) (Nat.le_of_ble_eq_true rfl) hlocks (Nat.le_of_ble_eq_true rfl) (Nat.le_of_ble_eq_true rfl) (show (xe ["java/lang/IndexOutOfBoundsException"] (kFI nsd p1 p2)) = some "java/lang/IndexOutOfBoundsException" from by rw [kFI, if_pos c1, if_neg c2]; rfl)
