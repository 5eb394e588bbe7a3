set_option maxHeartbeats 4000000 in
set_option maxRecDepth 100000 in
theorem c_X7_lettersAt (l : Launch) (D : GG) (Ax : Nat → Nat) (th : Int32) (ns : Nat) (fog : Int32) (nr : Nat) (nm : Nat) (nl : Nat) (Lx : Nat → Nat → Int32) (p1 : Int32) (p2 : Int32) (p3 : Int32) (b60 : nl ≤ 60) (hw : p2 = -1 ∨ vd 11 p2) : Met l yX7_lettersAt wsX7_lettersAt ({ frames := 1, cells := 0, slots := 0, locals := 22 } : Room) (va_Pc [.ref (Ax 0), .int p1, .int p2, .int p3] (wd D (wMod D Ax th ns fog nr nm nl Lx))) (RP (.int (latM Lx nl p1 p2 p3))) 0 0 (fun _ => False) := by
  refine Met.ofW (cc := cX7_lettersAt) (maxL := 6) (ret := (some .int)) (by decide) rfl ?_
  intro p e s m args below meth c s₁ B hml hv
  obtain ⟨rfl, hP, hK, hD, hN⟩ := hv
  have hx := B.exec
  have hb := B.bytes
  have hr := B.returns
  have hts := atoms_spec (ws := wsX7_lettersAt) B.pre
  have hown : s.vm.findClass RX7 = some m.cls := findClass_of_methodNamed B.named
  have hlocks := B.notSynchronized
  have hinX7 : ∀ w ∈ u_ws RX7 TX7 14, w ∈ wsX7_lettersAt := by decide +kernel
  have hl := lv_entry ([.ref (Ax 0), .int p1, .int p2, .int p3]) (n := 6) (Nat.le_of_ble_eq_true rfl)
  rw [lg_entry_eq]
  generalize (lg_sl ([.ref (Ax 0), .int p1, .int p2, .int p3]) ++ List.replicate (6 - (lg_sl ([.ref (Ax 0), .int p1, .int p2, .int p3])).length) Slot.unset).toArray = ls at hl ⊢
  have hl : lv_has ls 6 [(0, .ref (Ax 0)), (1, .int p1), (2, .int p2), (3, .int p3)] := hl
  refine lv_iconst (v := 0) hx hb dX7_lettersAt_0 (by decide) ?_
  refine lv_istore (lv' := [(4, .int 0), (0, .ref (Ax 0)), (1, .int p1), (2, .int p2), (3, .int p3)]) hx hb dX7_lettersAt_1 hl (by decide) rfl (fun ls hl => ?_)
  refine lv_iconst (v := 0) hx hb dX7_lettersAt_3 (by decide) ?_
  refine lv_istore (lv' := [(5, .int 0), (4, .int 0), (0, .ref (Ax 0)), (1, .int p1), (2, .int p2), (3, .int p3)]) hx hb dX7_lettersAt_4 hl (by decide) rfl (fun ls hl => ?_)
  have lp1 : ∀ (j1 : Nat) (k1 : Nat) (hk1 : k1 + j1 = nl) (x5_1 : Int32) (e5_1 : x5_1 = (nI k1)) (x4_1 : Int32) (e4_1 : x4_1 = (cI (fun k => leM Lx (nI k) 3 == p1 && (p2 == -1 || leM Lx (nI k) p2 == p3)) k1)) (ls : Array Slot) (hl : lv_has ls 6 [(5, .int x5_1), (4, .int x4_1), (0, .ref (Ax 0)), (1, .int p1), (2, .int p2), (3, .int p3)]), W p l e (headSpec wsX7_lettersAt ({ frames := 1, cells := 0, slots := 0, locals := 22 } : Room)).room s m ([.ref (Ax 0), .int p1, .int p2, .int p3] : List Value).toArray below meth c s.heap [] 0 0 (MQ below (RP (.int (latM Lx nl p1 p2 p3))) ([.ref (Ax 0), .int p1, .int p2, .int p3] : List Value).toArray s 0 0 (fun _ => False)) (F0 m 6 ls []) := by
    intro j1
    induction j1 with
    | zero =>
      intro k1 hk1 x5_1 e5_1 x4_1 e4_1   ls hl
      subst e5_1 e4_1
      have hkN1 : nl = k1 := (by omega)
      subst hkN1
      refine lv_iload hx hb dX7_lettersAt_6 (lv_at hl 0 rfl) ?_
      refine lv_aload_n hx hb dX7_lettersAt_8 rfl (lv_at hl 2 rfl) ?_
      refine va_get (D := D.1) (ci := 7) (v := .int (nI nl)) (C := RX7) (T := TX7) (N := 14) hx hb hts hinX7 hown hK hP 0 rfl rfl 8 (by decide) (hts (.fieldLink RX7 48 "MountainPostModel" "letters" "I") (List.mem_of_getElem? (i := 1) rfl)) (fun _ h9 => h9) rfl dX7_lettersAt_9 ?_
      refine lv_icmp_ge (tgt := 58) hx hb dX7_lettersAt_12 (by decide) (fun c2 => ?_) (fun c2 => ?_)
      · refine lv_iload hx hb dX7_lettersAt_58 (lv_at hl 1 rfl) ?_
        exact eI hx hb hr hlocks dX7_lettersAt_60 (by rfl)
      · exact (up0 rfl c2).elim
    | succ j1 ih =>
      intro k1 hk1 x5_1 e5_1 x4_1 e4_1   ls hl
      subst e5_1 e4_1
      have hlt1 : k1 < nl := by omega
      have hlt : k1 < nl := hlt1
      refine lv_iload hx hb dX7_lettersAt_6 (lv_at hl 0 rfl) ?_
      refine lv_aload_n hx hb dX7_lettersAt_8 rfl (lv_at hl 2 rfl) ?_
      refine va_get (D := D.1) (ci := 7) (v := .int (nI nl)) (C := RX7) (T := TX7) (N := 14) hx hb hts hinX7 hown hK hP 0 rfl rfl 8 (by decide) (hts (.fieldLink RX7 48 "MountainPostModel" "letters" "I") (List.mem_of_getElem? (i := 1) rfl)) (fun _ h9 => h9) rfl dX7_lettersAt_9 ?_
      refine lv_icmp_ge (tgt := 58) hx hb dX7_lettersAt_12 (by decide) (fun c3 => ?_) (fun c3 => ?_)
      · exact (upS hk1 (by omega) c3).elim
      · refine lv_iload hx hb dX7_lettersAt_15 (lv_at hl 1 rfl) ?_
        refine lv_aload_n hx hb dX7_lettersAt_17 rfl (lv_at hl 2 rfl) ?_
        refine lv_iload hx hb dX7_lettersAt_18 (lv_at hl 0 rfl) ?_
        refine lv_iconst (v := 3) hx hb dX7_lettersAt_20 (by decide) ?_
        refine kVp ⟨hx, hb, hml, hown, hts⟩ (c_X7_le l D Ax th ns fog nr nm nl Lx (nI k1) 3 (ixl (vd_k (by omega)) b60 3 (by decide))) (cwV 2 hts gX7_lettersAt_X7_le rfl rfl rfl (by decide +kernel) ⟨Nat.le_of_ble_eq_true rfl, Nat.le_of_ble_eq_true rfl⟩) hK hN hP hD Sb.self 7 0 rfl rfl rfl hl.1 (Nat.le_of_ble_eq_true rfl) ⟨Nat.zero_le _, Nat.zero_le _⟩ dX7_lettersAt_21 ?_ rfl
        refine lv_iload_n hx hb dX7_lettersAt_24 rfl (lv_at hl 3 rfl) ?_
        refine lv_icmp_ne (tgt := 48) hx hb dX7_lettersAt_25 (by decide) (fun c4 => ?_) (fun c4 => ?_)
        · refine lv_iconst (v := 0) hx hb dX7_lettersAt_48 (by decide) ?_
          refine lv_iadd hx hb dX7_lettersAt_49 ?_
          refine lv_istore (lv' := [(4, .int ((cI (fun k => leM Lx (nI k) 3 == p1 && (p2 == -1 || leM Lx (nI k) p2 == p3)) k1) + 0)), (5, .int (nI k1)), (0, .ref (Ax 0)), (1, .int p1), (2, .int p2), (3, .int p3)]) hx hb dX7_lettersAt_50 hl (by decide) rfl (fun ls hl => ?_)
          refine lv_iinc (v := ((nI k1) + 1)) (lv' := [(5, .int ((nI k1) + 1)), (4, .int ((cI (fun k => leM Lx (nI k) 3 == p1 && (p2 == -1 || leM Lx (nI k) p2 == p3)) k1) + 0)), (0, .ref (Ax 0)), (1, .int p1), (2, .int p2), (3, .int p3)]) hx hb dX7_lettersAt_52 hl (k := 1) rfl rfl (by decide) rfl (fun ls hl => ?_)
          refine lv_goto (tgt := 6) hx hb dX7_lettersAt_55 (by decide) ?_
          exact ih (k1 + 1) (by omega) _ (nI_1 k1) _ (by simp [cI, c3, c4]) ls (lv_sub hl [0, 1, 2, 3, 4, 5] rfl)
        · refine lv_iload_n hx hb dX7_lettersAt_28 rfl (lv_at hl 4 rfl) ?_
          refine lv_iconst (v := (-1)) hx hb dX7_lettersAt_29 (by decide) ?_
          refine lv_icmp_eq (tgt := 44) hx hb dX7_lettersAt_30 (by decide) (fun c5 => ?_) (fun c5 => ?_)
          · refine lv_iconst (v := 1) hx hb dX7_lettersAt_44 (by decide) ?_
            refine lv_goto (tgt := 49) hx hb dX7_lettersAt_45 (by decide) ?_
            refine lv_iadd hx hb dX7_lettersAt_49 ?_
            refine lv_istore (lv' := [(4, .int ((cI (fun k => leM Lx (nI k) 3 == p1 && (p2 == -1 || leM Lx (nI k) p2 == p3)) k1) + 1)), (5, .int (nI k1)), (0, .ref (Ax 0)), (1, .int p1), (2, .int p2), (3, .int p3)]) hx hb dX7_lettersAt_50 hl (by decide) rfl (fun ls hl => ?_)
            refine lv_iinc (v := ((nI k1) + 1)) (lv' := [(5, .int ((nI k1) + 1)), (4, .int ((cI (fun k => leM Lx (nI k) 3 == p1 && (p2 == -1 || leM Lx (nI k) p2 == p3)) k1) + 1)), (0, .ref (Ax 0)), (1, .int p1), (2, .int p2), (3, .int p3)]) hx hb dX7_lettersAt_52 hl (k := 1) rfl rfl (by decide) rfl (fun ls hl => ?_)
            refine lv_goto (tgt := 6) hx hb dX7_lettersAt_55 (by decide) ?_
            exact ih (k1 + 1) (by omega) _ (nI_1 k1) _ (by simp [cI, c3, c4, c5]) ls (lv_sub hl [0, 1, 2, 3, 4, 5] rfl)
          · refine lv_aload_n hx hb dX7_lettersAt_33 rfl (lv_at hl 2 rfl) ?_
            refine lv_iload hx hb dX7_lettersAt_34 (lv_at hl 0 rfl) ?_
            refine lv_iload_n hx hb dX7_lettersAt_36 rfl (lv_at hl 4 rfl) ?_
            refine kVp ⟨hx, hb, hml, hown, hts⟩ (c_X7_le l D Ax th ns fog nr nm nl Lx (nI k1) p2 (ixv (vd_k (by omega)) b60 hw c5)) (cwV 2 hts gX7_lettersAt_X7_le rfl rfl rfl (by decide +kernel) ⟨Nat.le_of_ble_eq_true rfl, Nat.le_of_ble_eq_true rfl⟩) hK hN hP hD Sb.self 7 0 rfl rfl rfl hl.1 (Nat.le_of_ble_eq_true rfl) ⟨Nat.zero_le _, Nat.zero_le _⟩ dX7_lettersAt_37 ?_ rfl
            refine lv_iload_n hx hb dX7_lettersAt_40 rfl (lv_at hl 5 rfl) ?_
            refine lv_icmp_ne (tgt := 48) hx hb dX7_lettersAt_41 (by decide) (fun c6 => ?_) (fun c6 => ?_)
            · refine lv_iconst (v := 0) hx hb dX7_lettersAt_48 (by decide) ?_
              refine lv_iadd hx hb dX7_lettersAt_49 ?_
              refine lv_istore (lv' := [(4, .int ((cI (fun k => leM Lx (nI k) 3 == p1 && (p2 == -1 || leM Lx (nI k) p2 == p3)) k1) + 0)), (5, .int (nI k1)), (0, .ref (Ax 0)), (1, .int p1), (2, .int p2), (3, .int p3)]) hx hb dX7_lettersAt_50 hl (by decide) rfl (fun ls hl => ?_)
              refine lv_iinc (v := ((nI k1) + 1)) (lv' := [(5, .int ((nI k1) + 1)), (4, .int ((cI (fun k => leM Lx (nI k) 3 == p1 && (p2 == -1 || leM Lx (nI k) p2 == p3)) k1) + 0)), (0, .ref (Ax 0)), (1, .int p1), (2, .int p2), (3, .int p3)]) hx hb dX7_lettersAt_52 hl (k := 1) rfl rfl (by decide) rfl (fun ls hl => ?_)
              refine lv_goto (tgt := 6) hx hb dX7_lettersAt_55 (by decide) ?_
              exact ih (k1 + 1) (by omega) _ (nI_1 k1) _ (by simp [cI, c3, c4, c5, c6]) ls (lv_sub hl [0, 1, 2, 3, 4, 5] rfl)
            · refine lv_iconst (v := 1) hx hb dX7_lettersAt_44 (by decide) ?_
              refine lv_goto (tgt := 49) hx hb dX7_lettersAt_45 (by decide) ?_
              refine lv_iadd hx hb dX7_lettersAt_49 ?_
              refine lv_istore (lv' := [(4, .int ((cI (fun k => leM Lx (nI k) 3 == p1 && (p2 == -1 || leM Lx (nI k) p2 == p3)) k1) + 1)), (5, .int (nI k1)), (0, .ref (Ax 0)), (1, .int p1), (2, .int p2), (3, .int p3)]) hx hb dX7_lettersAt_50 hl (by decide) rfl (fun ls hl => ?_)
              refine lv_iinc (v := ((nI k1) + 1)) (lv' := [(5, .int ((nI k1) + 1)), (4, .int ((cI (fun k => leM Lx (nI k) 3 == p1 && (p2 == -1 || leM Lx (nI k) p2 == p3)) k1) + 1)), (0, .ref (Ax 0)), (1, .int p1), (2, .int p2), (3, .int p3)]) hx hb dX7_lettersAt_52 hl (k := 1) rfl rfl (by decide) rfl (fun ls hl => ?_)
              refine lv_goto (tgt := 6) hx hb dX7_lettersAt_55 (by decide) ?_
              exact ih (k1 + 1) (by omega) _ (nI_1 k1) _ (by simp [cI, c3, c4, c5, c6]) ls (lv_sub hl [0, 1, 2, 3, 4, 5] rfl)
  exact lp1 nl 0 (by omega) _ nI_0.symm _ rfl ls (lv_sub hl [0, 1, 2, 3, 4, 5] rfl)

set_option maxHeartbeats 4000000 in
set_option maxRecDepth 100000 in
theorem c_X7_stationTold (l : Launch) (D : GG) (Ax : Nat → Nat) (th : Int32) (ns : Nat) (fog : Int32) (nr : Nat) (nm : Nat) (nl : Nat) (Lx : Nat → Nat → Int32) (p1 : Int32) (p2 : Int32) (b10 : ns ≤ 10) (b12 : nm ≤ 12) (b60 : nl ≤ 60) (hs : vd ns p1) : Met l yX7_stationTold wsX7_stationTold ({ frames := 2, cells := 0, slots := 0, locals := 47 } : Room) (va_Pc [.ref (Ax 0), .int p1, .int p2] (wd D (wMod D Ax th ns fog nr nm nl Lx))) (RP (.int (stM Lx fog nm nl p1 p2))) 0 0 (fun _ => False) := by
  refine Met.ofW (cc := cX7_stationTold) (maxL := 5) (ret := (some .int)) (by decide) rfl ?_
  intro p e s m args below meth c s₁ B hml hv
  obtain ⟨rfl, hP, hK, hD, hN⟩ := hv
  have hx := B.exec
  have hb := B.bytes
  have hr := B.returns
  have hts := atoms_spec (ws := wsX7_stationTold) B.pre
  have hown : s.vm.findClass RX7 = some m.cls := findClass_of_methodNamed B.named
  have hlocks := B.notSynchronized
  have hinX7 : ∀ w ∈ u_ws RX7 TX7 14, w ∈ wsX7_stationTold := by decide +kernel
  have hl := lv_entry ([.ref (Ax 0), .int p1, .int p2]) (n := 5) (Nat.le_of_ble_eq_true rfl)
  rw [lg_entry_eq]
  generalize (lg_sl ([.ref (Ax 0), .int p1, .int p2]) ++ List.replicate (5 - (lg_sl ([.ref (Ax 0), .int p1, .int p2])).length) Slot.unset).toArray = ls at hl ⊢
  have hl : lv_has ls 5 [(0, .ref (Ax 0)), (1, .int p1), (2, .int p2)] := hl
  refine lv_iconst (v := 0) hx hb dX7_stationTold_0 (by decide) ?_
  refine lv_istore_n (lv' := [(3, .int 0), (0, .ref (Ax 0)), (1, .int p1), (2, .int p2)]) hx hb dX7_stationTold_1 rfl hl (by decide) rfl (fun ls hl => ?_)
  refine lv_iconst (v := 0) hx hb dX7_stationTold_2 (by decide) ?_
  refine lv_istore (lv' := [(4, .int 0), (3, .int 0), (0, .ref (Ax 0)), (1, .int p1), (2, .int p2)]) hx hb dX7_stationTold_3 hl (by decide) rfl (fun ls hl => ?_)
  have lp1 : ∀ (j1 : Nat) (k1 : Nat) (hk1 : k1 + j1 = nm) (x4_1 : Int32) (e4_1 : x4_1 = (nI k1)) (x3_1 : Int32) (e3_1 : x3_1 = (cI (fun k => muM Lx (nI k) 2 == p1 && muM Lx (nI k) 3 == 0) k1)) (ls : Array Slot) (hl : lv_has ls 5 [(4, .int x4_1), (3, .int x3_1), (0, .ref (Ax 0)), (1, .int p1), (2, .int p2)]), W p l e (headSpec wsX7_stationTold ({ frames := 2, cells := 0, slots := 0, locals := 47 } : Room)).room s m ([.ref (Ax 0), .int p1, .int p2] : List Value).toArray below meth c s.heap [] 0 0 (MQ below (RP (.int (stM Lx fog nm nl p1 p2))) ([.ref (Ax 0), .int p1, .int p2] : List Value).toArray s 0 0 (fun _ => False)) (F0 m 5 ls []) := by
    intro j1
    induction j1 with
    | zero =>
      intro k1 hk1 x4_1 e4_1 x3_1 e3_1   ls hl
      subst e4_1 e3_1
      have hkN1 : nm = k1 := (by omega)
      subst hkN1
      refine lv_iload hx hb dX7_stationTold_5 (lv_at hl 0 rfl) ?_
      refine lv_aload_n hx hb dX7_stationTold_7 rfl (lv_at hl 2 rfl) ?_
      refine va_get (D := D.1) (ci := 7) (v := .int (nI nm)) (C := RX7) (T := TX7) (N := 14) hx hb hts hinX7 hown hK hP 0 rfl rfl 7 (by decide) (hts (.fieldLink RX7 73 "MountainPostModel" "mules" "I") (List.mem_of_getElem? (i := 1) rfl)) (fun _ h9 => h9) rfl dX7_stationTold_8 ?_
      refine lv_icmp_ge (tgt := 49) hx hb dX7_stationTold_11 (by decide) (fun c2 => ?_) (fun c2 => ?_)
      · refine lv_iload_n hx hb dX7_stationTold_49 rfl (lv_at hl 4 rfl) ?_
        by_cases h3_0 : p2 = 0
        · refine lv_tableIn (tgt := 80) (off := 30) hx hb dX7_stationTold_50 (by rw [h3_0]; decide) (by rw [h3_0]; decide) (by rw [h3_0]; decide) (by decide) ?_
          refine lv_aload_n hx hb dX7_stationTold_80 rfl (lv_at hl 2 rfl) ?_
          refine va_get (D := D.1) (ci := 7) (v := .ref (Ax 1)) (C := RX7) (T := TX7) (N := 14) hx hb hts hinX7 hown hK hP 0 rfl rfl 2 (by decide) (hts (.fieldLink RX7 9 "MountainPostModel" "heights" "[I") (List.mem_of_getElem? (i := 2) rfl)) (fun _ h9 => h9) rfl dX7_stationTold_81 ?_
          refine lv_iload_n hx hb dX7_stationTold_84 rfl (lv_at hl 3 rfl) ?_
          refine va_iald (D := D.1) hx hb hK hP 1 0 rfl rfl (vd_in hs b10 (by decide)) dX7_stationTold_85 ?_
          rw [show ((Lx 0) p1.toNatClampNeg) = (rg 10 (Lx 0) p1) from (rg_vp (vd_in hs b10 (by decide))).symm]
          exact eI hx hb hr hlocks dX7_stationTold_86 (by (rw [stM, if_pos h3_0]; first | done | rw [z2, if_pos (by assumption)] | rw [z2, if_neg (by assumption)] | rfl))
        by_cases h3_1 : p2 = 1
        · refine lv_tableIn (tgt := 87) (off := 37) hx hb dX7_stationTold_50 (by rw [h3_1]; decide) (by rw [h3_1]; decide) (by rw [h3_1]; decide) (by decide) ?_
          refine lv_aload_n hx hb dX7_stationTold_87 rfl (lv_at hl 2 rfl) ?_
          refine lv_iconst (v := 0) hx hb dX7_stationTold_88 (by decide) ?_
          refine lv_iconst (v := 4) hx hb dX7_stationTold_89 (by decide) ?_
          refine lv_iload_n hx hb dX7_stationTold_90 rfl (lv_at hl 3 rfl) ?_
          refine kVp ⟨hx, hb, hml, hown, hts⟩ (c_X7_lettersAt l D Ax th ns fog nr nm nl Lx 0 4 p1 (by assumption) (Or.inr ⟨4, by decide, rfl⟩)) (cwV 3 hts gX7_stationTold_X7_lettersAt rfl rfl rfl (by decide +kernel) ⟨Nat.le_of_ble_eq_true rfl, Nat.le_of_ble_eq_true rfl⟩) hK hN hP hD Sb.self 7 0 rfl rfl rfl hl.1 (Nat.le_of_ble_eq_true rfl) ⟨Nat.zero_le _, Nat.zero_le _⟩ dX7_stationTold_91 ?_ rfl
          exact eI hx hb hr hlocks dX7_stationTold_94 (by (rw [stM, if_neg h3_0, if_pos h3_1]; first | done | rw [z2, if_pos (by assumption)] | rw [z2, if_neg (by assumption)] | rfl))
        by_cases h3_2 : p2 = 2
        · refine lv_tableIn (tgt := 95) (off := 45) hx hb dX7_stationTold_50 (by rw [h3_2]; decide) (by rw [h3_2]; decide) (by rw [h3_2]; decide) (by decide) ?_
          refine lv_iload_n hx hb dX7_stationTold_95 rfl (lv_at hl 1 rfl) ?_
          exact eI hx hb hr hlocks dX7_stationTold_96 (by (rw [stM, if_neg h3_0, if_neg h3_1, if_pos h3_2]; first | done | rw [z2, if_pos (by assumption)] | rw [z2, if_neg (by assumption)] | rfl))
        by_cases h3_3 : p2 = 3
        · refine lv_tableIn (tgt := 97) (off := 47) hx hb dX7_stationTold_50 (by rw [h3_3]; decide) (by rw [h3_3]; decide) (by rw [h3_3]; decide) (by decide) ?_
          refine lv_aload_n hx hb dX7_stationTold_97 rfl (lv_at hl 2 rfl) ?_
          refine va_get (D := D.1) (ci := 7) (v := .ref (Ax 2)) (C := RX7) (T := TX7) (N := 14) hx hb hts hinX7 hown hK hP 0 rfl rfl 3 (by decide) (hts (.fieldLink RX7 13 "MountainPostModel" "sight" "[I") (List.mem_of_getElem? (i := 3) rfl)) (fun _ h9 => h9) rfl dX7_stationTold_98 ?_
          refine lv_iload_n hx hb dX7_stationTold_101 rfl (lv_at hl 3 rfl) ?_
          refine va_iald (D := D.1) hx hb hK hP 2 0 rfl rfl (vd_in hs b10 (by decide)) dX7_stationTold_102 ?_
          rw [show ((Lx 1) p1.toNatClampNeg) = (rg 10 (Lx 1) p1) from (rg_vp (vd_in hs b10 (by decide))).symm]
          refine kSp ⟨hx, hb, hml, hown, hts⟩ (c_J6_bitCount_0f7a4 l D (rg 10 (Lx 1) p1)) (va_cwS 1 hts gX7_stationTold_J6_bitCount_0f7a4 rfl rfl rfl (by decide +kernel) ⟨Nat.le_of_ble_eq_true rfl, Nat.le_of_ble_eq_true rfl⟩) hK hN hP hD Sb.nil  rfl hl.1 (Nat.le_of_ble_eq_true rfl) ⟨Nat.zero_le _, Nat.zero_le _⟩ dX7_stationTold_103 ?_ rfl
          exact eI hx hb hr hlocks dX7_stationTold_106 (by (rw [stM, if_neg h3_0, if_neg h3_1, if_neg h3_2, if_pos h3_3]; first | done | rw [z2, if_pos (by assumption)] | rw [z2, if_neg (by assumption)] | rfl))
        refine lv_tableOut (tgt := 107) hx hb dX7_stationTold_50 (sw_out 3 (by decide) (fun i hi => by rcases (show i = 0 ∨ i = 1 ∨ i = 2 ∨ i = 3 by omega) with rfl | rfl | rfl | rfl <;> assumption)) (by decide) ?_
        refine lv_aload_n hx hb dX7_stationTold_107 rfl (lv_at hl 2 rfl) ?_
        refine va_get (D := D.1) (ci := 7) (v := .int fog) (C := RX7) (T := TX7) (N := 14) hx hb hts hinX7 hown hK hP 0 rfl rfl 4 (by decide) (hts (.fieldLink RX7 64 "MountainPostModel" "fog" "I") (List.mem_of_getElem? (i := 4) rfl)) (fun _ h9 => h9) rfl dX7_stationTold_108 ?_
        refine lv_iload_n hx hb dX7_stationTold_111 rfl (lv_at hl 3 rfl) ?_
        refine lv_ishr hx hb dX7_stationTold_112 ?_
        refine lv_iconst (v := 1) hx hb dX7_stationTold_113 (by decide) ?_
        refine lv_iand hx hb dX7_stationTold_114 ?_
        exact eI hx hb hr hlocks dX7_stationTold_115 (by (rw [stM, if_neg h3_0, if_neg h3_1, if_neg h3_2, if_neg h3_3]; first | done | rw [z2, if_pos (by assumption)] | rw [z2, if_neg (by assumption)] | rfl))
      · exact (up0 rfl c2).elim
    | succ j1 ih =>
      intro k1 hk1 x4_1 e4_1 x3_1 e3_1   ls hl
      subst e4_1 e3_1
      have hlt1 : k1 < nm := by omega
      have hlt : k1 < nm := hlt1
      refine lv_iload hx hb dX7_stationTold_5 (lv_at hl 0 rfl) ?_
      refine lv_aload_n hx hb dX7_stationTold_7 rfl (lv_at hl 2 rfl) ?_
      refine va_get (D := D.1) (ci := 7) (v := .int (nI nm)) (C := RX7) (T := TX7) (N := 14) hx hb hts hinX7 hown hK hP 0 rfl rfl 7 (by decide) (hts (.fieldLink RX7 73 "MountainPostModel" "mules" "I") (List.mem_of_getElem? (i := 1) rfl)) (fun _ h9 => h9) rfl dX7_stationTold_8 ?_
      refine lv_icmp_ge (tgt := 49) hx hb dX7_stationTold_11 (by decide) (fun c4 => ?_) (fun c4 => ?_)
      · exact (upS hk1 (by omega) c4).elim
      · refine lv_iload_n hx hb dX7_stationTold_14 rfl (lv_at hl 1 rfl) ?_
        refine lv_aload_n hx hb dX7_stationTold_15 rfl (lv_at hl 2 rfl) ?_
        refine lv_iload hx hb dX7_stationTold_16 (lv_at hl 0 rfl) ?_
        refine lv_iconst (v := 2) hx hb dX7_stationTold_18 (by decide) ?_
        refine kVp ⟨hx, hb, hml, hown, hts⟩ (c_X7_mu l D Ax th ns fog nr nm nl Lx (nI k1) 2 (ixm (vd_k (by omega)) b12 2 (by decide))) (cwV 2 hts gX7_stationTold_X7_mu rfl rfl rfl (by decide +kernel) ⟨Nat.le_of_ble_eq_true rfl, Nat.le_of_ble_eq_true rfl⟩) hK hN hP hD Sb.self 7 0 rfl rfl rfl hl.1 (Nat.le_of_ble_eq_true rfl) ⟨Nat.zero_le _, Nat.zero_le _⟩ dX7_stationTold_19 ?_ rfl
        refine lv_iload_n hx hb dX7_stationTold_22 rfl (lv_at hl 3 rfl) ?_
        refine lv_icmp_ne (tgt := 40) hx hb dX7_stationTold_23 (by decide) (fun c5 => ?_) (fun c5 => ?_)
        · refine lv_iconst (v := 0) hx hb dX7_stationTold_40 (by decide) ?_
          refine lv_iadd hx hb dX7_stationTold_41 ?_
          refine lv_istore_n (lv' := [(3, .int ((cI (fun k => muM Lx (nI k) 2 == p1 && muM Lx (nI k) 3 == 0) k1) + 0)), (4, .int (nI k1)), (0, .ref (Ax 0)), (1, .int p1), (2, .int p2)]) hx hb dX7_stationTold_42 rfl hl (by decide) rfl (fun ls hl => ?_)
          refine lv_iinc (v := ((nI k1) + 1)) (lv' := [(4, .int ((nI k1) + 1)), (3, .int ((cI (fun k => muM Lx (nI k) 2 == p1 && muM Lx (nI k) 3 == 0) k1) + 0)), (0, .ref (Ax 0)), (1, .int p1), (2, .int p2)]) hx hb dX7_stationTold_43 hl (k := 1) rfl rfl (by decide) rfl (fun ls hl => ?_)
          refine lv_goto (tgt := 5) hx hb dX7_stationTold_46 (by decide) ?_
          exact ih (k1 + 1) (by omega) _ (nI_1 k1) _ (by simp [cI, c4, c5]) ls (lv_sub hl [0, 1, 2, 3, 4] rfl)
        · refine lv_aload_n hx hb dX7_stationTold_26 rfl (lv_at hl 2 rfl) ?_
          refine lv_iload hx hb dX7_stationTold_27 (lv_at hl 0 rfl) ?_
          refine lv_iconst (v := 3) hx hb dX7_stationTold_29 (by decide) ?_
          refine kVp ⟨hx, hb, hml, hown, hts⟩ (c_X7_mu l D Ax th ns fog nr nm nl Lx (nI k1) 3 (ixm (vd_k (by omega)) b12 3 (by decide))) (cwV 2 hts gX7_stationTold_X7_mu rfl rfl rfl (by decide +kernel) ⟨Nat.le_of_ble_eq_true rfl, Nat.le_of_ble_eq_true rfl⟩) hK hN hP hD Sb.self 7 0 rfl rfl rfl hl.1 (Nat.le_of_ble_eq_true rfl) ⟨Nat.zero_le _, Nat.zero_le _⟩ dX7_stationTold_30 ?_ rfl
          refine lv_if_ne (tgt := 40) hx hb dX7_stationTold_33 (by decide) (fun c6 => ?_) (fun c6 => ?_)
          · refine lv_iconst (v := 0) hx hb dX7_stationTold_40 (by decide) ?_
            refine lv_iadd hx hb dX7_stationTold_41 ?_
            refine lv_istore_n (lv' := [(3, .int ((cI (fun k => muM Lx (nI k) 2 == p1 && muM Lx (nI k) 3 == 0) k1) + 0)), (4, .int (nI k1)), (0, .ref (Ax 0)), (1, .int p1), (2, .int p2)]) hx hb dX7_stationTold_42 rfl hl (by decide) rfl (fun ls hl => ?_)
            refine lv_iinc (v := ((nI k1) + 1)) (lv' := [(4, .int ((nI k1) + 1)), (3, .int ((cI (fun k => muM Lx (nI k) 2 == p1 && muM Lx (nI k) 3 == 0) k1) + 0)), (0, .ref (Ax 0)), (1, .int p1), (2, .int p2)]) hx hb dX7_stationTold_43 hl (k := 1) rfl rfl (by decide) rfl (fun ls hl => ?_)
            refine lv_goto (tgt := 5) hx hb dX7_stationTold_46 (by decide) ?_
            exact ih (k1 + 1) (by omega) _ (nI_1 k1) _ (by simp [cI, c4, c5, c6]) ls (lv_sub hl [0, 1, 2, 3, 4] rfl)
          · refine lv_iconst (v := 1) hx hb dX7_stationTold_36 (by decide) ?_
            refine lv_goto (tgt := 41) hx hb dX7_stationTold_37 (by decide) ?_
            refine lv_iadd hx hb dX7_stationTold_41 ?_
            refine lv_istore_n (lv' := [(3, .int ((cI (fun k => muM Lx (nI k) 2 == p1 && muM Lx (nI k) 3 == 0) k1) + 1)), (4, .int (nI k1)), (0, .ref (Ax 0)), (1, .int p1), (2, .int p2)]) hx hb dX7_stationTold_42 rfl hl (by decide) rfl (fun ls hl => ?_)
            refine lv_iinc (v := ((nI k1) + 1)) (lv' := [(4, .int ((nI k1) + 1)), (3, .int ((cI (fun k => muM Lx (nI k) 2 == p1 && muM Lx (nI k) 3 == 0) k1) + 1)), (0, .ref (Ax 0)), (1, .int p1), (2, .int p2)]) hx hb dX7_stationTold_43 hl (k := 1) rfl rfl (by decide) rfl (fun ls hl => ?_)
            refine lv_goto (tgt := 5) hx hb dX7_stationTold_46 (by decide) ?_
            exact ih (k1 + 1) (by omega) _ (nI_1 k1) _ (by simp [cI, c4, c5, c6]) ls (lv_sub hl [0, 1, 2, 3, 4] rfl)
  exact lp1 nm 0 (by omega) _ nI_0.symm _ rfl ls (lv_sub hl [0, 1, 2, 3, 4] rfl)

set_option maxHeartbeats 4000000 in
set_option maxRecDepth 100000 in
theorem c_X7_otherEnd (l : Launch) (D : GG) (Ax : Nat → Nat) (th : Int32) (ns : Nat) (fog : Int32) (nr : Nat) (nm : Nat) (nl : Nat) (Lx : Nat → Nat → Int32) (p1 : Int32) (p2 : Int32) (b15 : nr ≤ 15) (hvr : vd nr p1) : Met l yX7_otherEnd wsX7_otherEnd ({ frames := 1, cells := 0, slots := 0, locals := 22 } : Room) (va_Pc [.ref (Ax 0), .int p1, .int p2] (wd D (wMod D Ax th ns fog nr nm nl Lx))) (RP (.int (othM Lx p1 p2))) 0 0 (fun _ => False) := by
  refine Met.ofW (cc := cX7_otherEnd) (maxL := 3) (ret := (some .int)) (by decide) rfl ?_
  intro p e s m args below meth c s₁ B hml hv
  obtain ⟨rfl, hP, hK, hD, hN⟩ := hv
  have hx := B.exec
  have hb := B.bytes
  have hr := B.returns
  have hts := atoms_spec (ws := wsX7_otherEnd) B.pre
  have hown : s.vm.findClass RX7 = some m.cls := findClass_of_methodNamed B.named
  have hlocks := B.notSynchronized
  have hl := lv_entry ([.ref (Ax 0), .int p1, .int p2]) (n := 3) (Nat.le_of_ble_eq_true rfl)
  rw [lg_entry_eq]
  generalize (lg_sl ([.ref (Ax 0), .int p1, .int p2]) ++ List.replicate (3 - (lg_sl ([.ref (Ax 0), .int p1, .int p2])).length) Slot.unset).toArray = ls at hl ⊢
  have hl : lv_has ls 3 [(0, .ref (Ax 0)), (1, .int p1), (2, .int p2)] := hl
  refine lv_aload_n hx hb dX7_otherEnd_0 rfl (lv_at hl 0 rfl) ?_
  refine lv_iload_n hx hb dX7_otherEnd_1 rfl (lv_at hl 1 rfl) ?_
  refine lv_iconst (v := 0) hx hb dX7_otherEnd_2 (by decide) ?_
  refine kVp ⟨hx, hb, hml, hown, hts⟩ (c_X7_ro l D Ax th ns fog nr nm nl Lx p1 0 (ixr (by assumption) b15 0 (by decide))) (cwV 2 hts gX7_otherEnd_X7_ro rfl rfl rfl (by decide +kernel) ⟨Nat.le_of_ble_eq_true rfl, Nat.le_of_ble_eq_true rfl⟩) hK hN hP hD Sb.self 7 0 rfl rfl rfl hl.1 (Nat.le_of_ble_eq_true rfl) ⟨Nat.zero_le _, Nat.zero_le _⟩ dX7_otherEnd_3 ?_ rfl
  refine lv_iload_n hx hb dX7_otherEnd_6 rfl (lv_at hl 2 rfl) ?_
  refine lv_icmp_ne (tgt := 19) hx hb dX7_otherEnd_7 (by decide) (fun c1 => ?_) (fun c1 => ?_)
  · refine lv_aload_n hx hb dX7_otherEnd_19 rfl (lv_at hl 0 rfl) ?_
    refine lv_iload_n hx hb dX7_otherEnd_20 rfl (lv_at hl 1 rfl) ?_
    refine lv_iconst (v := 0) hx hb dX7_otherEnd_21 (by decide) ?_
    refine kVp ⟨hx, hb, hml, hown, hts⟩ (c_X7_ro l D Ax th ns fog nr nm nl Lx p1 0 (ixr (by assumption) b15 0 (by decide))) (cwV 2 hts gX7_otherEnd_X7_ro rfl rfl rfl (by decide +kernel) ⟨Nat.le_of_ble_eq_true rfl, Nat.le_of_ble_eq_true rfl⟩) hK hN hP hD Sb.self 7 0 rfl rfl rfl hl.1 (Nat.le_of_ble_eq_true rfl) ⟨Nat.zero_le _, Nat.zero_le _⟩ dX7_otherEnd_22 ?_ rfl
    exact eI hx hb hr hlocks dX7_otherEnd_25 (by simp [othM, c1])
  · refine lv_aload_n hx hb dX7_otherEnd_10 rfl (lv_at hl 0 rfl) ?_
    refine lv_iload_n hx hb dX7_otherEnd_11 rfl (lv_at hl 1 rfl) ?_
    refine lv_iconst (v := 1) hx hb dX7_otherEnd_12 (by decide) ?_
    refine kVp ⟨hx, hb, hml, hown, hts⟩ (c_X7_ro l D Ax th ns fog nr nm nl Lx p1 1 (ixr (by assumption) b15 1 (by decide))) (cwV 2 hts gX7_otherEnd_X7_ro rfl rfl rfl (by decide +kernel) ⟨Nat.le_of_ble_eq_true rfl, Nat.le_of_ble_eq_true rfl⟩) hK hN hP hD Sb.self 7 0 rfl rfl rfl hl.1 (Nat.le_of_ble_eq_true rfl) ⟨Nat.zero_le _, Nat.zero_le _⟩ dX7_otherEnd_13 ?_ rfl
    refine lv_goto (tgt := 25) hx hb dX7_otherEnd_16 (by decide) ?_
    exact eI hx hb hr hlocks dX7_otherEnd_25 (by simp [othM, c1])

set_option maxHeartbeats 4000000 in
set_option maxRecDepth 100000 in
theorem c_X7_hoursFrom (l : Launch) (D : GG) (Ax : Nat → Nat) (th : Int32) (ns : Nat) (fog : Int32) (nr : Nat) (nm : Nat) (nl : Nat) (Lx : Nat → Nat → Int32) (p1 : Int32) (p2 : Int32) (b10 : ns ≤ 10) (b15 : nr ≤ 15) (hvr : vd nr p1) (hs : vd ns p2) (hk : okR Lx nr ns) : Met l yX7_hoursFrom wsX7_hoursFrom ({ frames := 2, cells := 0, slots := 0, locals := 44 } : Room) (va_Pc [.ref (Ax 0), .int p1, .int p2] (wd D (wMod D Ax th ns fog nr nm nl Lx))) (RP (.int (hrsM Lx p1 p2))) 0 0 (fun _ => False) := by
  refine Met.ofW (cc := cX7_hoursFrom) (maxL := 3) (ret := (some .int)) (by decide) rfl ?_
  intro p e s m args below meth c s₁ B hml hv
  obtain ⟨rfl, hP, hK, hD, hN⟩ := hv
  have hx := B.exec
  have hb := B.bytes
  have hr := B.returns
  have hts := atoms_spec (ws := wsX7_hoursFrom) B.pre
  have hown : s.vm.findClass RX7 = some m.cls := findClass_of_methodNamed B.named
  have hlocks := B.notSynchronized
  have hinX7 : ∀ w ∈ u_ws RX7 TX7 14, w ∈ wsX7_hoursFrom := by decide +kernel
  have hl := lv_entry ([.ref (Ax 0), .int p1, .int p2]) (n := 3) (Nat.le_of_ble_eq_true rfl)
  rw [lg_entry_eq]
  generalize (lg_sl ([.ref (Ax 0), .int p1, .int p2]) ++ List.replicate (3 - (lg_sl ([.ref (Ax 0), .int p1, .int p2])).length) Slot.unset).toArray = ls at hl ⊢
  have hl : lv_has ls 3 [(0, .ref (Ax 0)), (1, .int p1), (2, .int p2)] := hl
  refine lv_aload_n hx hb dX7_hoursFrom_0 rfl (lv_at hl 0 rfl) ?_
  refine lv_iload_n hx hb dX7_hoursFrom_1 rfl (lv_at hl 1 rfl) ?_
  refine lv_iconst (v := 2) hx hb dX7_hoursFrom_2 (by decide) ?_
  refine kVp ⟨hx, hb, hml, hown, hts⟩ (c_X7_ro l D Ax th ns fog nr nm nl Lx p1 2 (ixr (by assumption) b15 2 (by decide))) (cwV 2 hts gX7_hoursFrom_X7_ro rfl rfl rfl (by decide +kernel) ⟨Nat.le_of_ble_eq_true rfl, Nat.le_of_ble_eq_true rfl⟩) hK hN hP hD Sb.self 7 0 rfl rfl rfl hl.1 (Nat.le_of_ble_eq_true rfl) ⟨Nat.zero_le _, Nat.zero_le _⟩ dX7_hoursFrom_3 ?_ rfl
  refine lv_iconst (v := 0) hx hb dX7_hoursFrom_6 (by decide) ?_
  refine lv_aload_n hx hb dX7_hoursFrom_7 rfl (lv_at hl 0 rfl) ?_
  refine va_get (D := D.1) (ci := 7) (v := .ref (Ax 1)) (C := RX7) (T := TX7) (N := 14) hx hb hts hinX7 hown hK hP 0 rfl rfl 2 (by decide) (hts (.fieldLink RX7 9 "MountainPostModel" "heights" "[I") (List.mem_of_getElem? (i := 1) rfl)) (fun _ h9 => h9) rfl dX7_hoursFrom_8 ?_
  refine lv_aload_n hx hb dX7_hoursFrom_11 rfl (lv_at hl 0 rfl) ?_
  refine lv_iload_n hx hb dX7_hoursFrom_12 rfl (lv_at hl 1 rfl) ?_
  refine lv_iload_n hx hb dX7_hoursFrom_13 rfl (lv_at hl 2 rfl) ?_
  refine kVp ⟨hx, hb, hml, hown, hts⟩ (c_X7_otherEnd l D Ax th ns fog nr nm nl Lx p1 p2 (by assumption) (by assumption)) (cwV 2 hts gX7_hoursFrom_X7_otherEnd rfl rfl rfl (by decide +kernel) ⟨Nat.le_of_ble_eq_true rfl, Nat.le_of_ble_eq_true rfl⟩) hK hN hP hD Sb.self 7 0 rfl rfl rfl hl.1 (Nat.le_of_ble_eq_true rfl) ⟨Nat.zero_le _, Nat.zero_le _⟩ dX7_hoursFrom_14 ?_ rfl
  refine va_iald (D := D.1) hx hb hK hP 1 0 rfl rfl (vd_in (othM_vd hk hvr) b10 (by decide)) dX7_hoursFrom_17 ?_
  rw [show ((Lx 0) (othM Lx p1 p2).toNatClampNeg) = (rg 10 (Lx 0) (othM Lx p1 p2)) from (rg_vp (vd_in (othM_vd hk hvr) b10 (by decide))).symm]
  refine lv_aload_n hx hb dX7_hoursFrom_18 rfl (lv_at hl 0 rfl) ?_
  refine va_get (D := D.1) (ci := 7) (v := .ref (Ax 1)) (C := RX7) (T := TX7) (N := 14) hx hb hts hinX7 hown hK hP 0 rfl rfl 2 (by decide) (hts (.fieldLink RX7 9 "MountainPostModel" "heights" "[I") (List.mem_of_getElem? (i := 1) rfl)) (fun _ h9 => h9) rfl dX7_hoursFrom_19 ?_
  refine lv_iload_n hx hb dX7_hoursFrom_22 rfl (lv_at hl 2 rfl) ?_
  refine va_iald (D := D.1) hx hb hK hP 1 0 rfl rfl (vd_in hs b10 (by decide)) dX7_hoursFrom_23 ?_
  rw [show ((Lx 0) p2.toNatClampNeg) = (rg 10 (Lx 0) p2) from (rg_vp (vd_in hs b10 (by decide))).symm]
  refine lv_isub hx hb dX7_hoursFrom_24 ?_
  refine va_mmax hx hb (hml.trans hl.1.symm) hown (hts (.methodLink RX7 103 Lib.Math.max.name) (List.mem_of_getElem? (i := 2) rfl)) (hts (.static Lib.Math.max.name) (List.mem_of_getElem? (i := 3) rfl)) (hts (.initialized "java/lang/Math") (List.mem_of_getElem? (i := 4) rfl)) (hts (.code Lib.Math.max.name Lib.Math.max.code 2 (some .int)) (List.mem_of_getElem? (i := 5) rfl)) (Nat.le_of_ble_eq_true rfl) (Nat.le_of_ble_eq_true rfl) (Nat.zero_le _) (Nat.zero_le _) dX7_hoursFrom_25 ?_
  refine lv_sipush (v := 200) hx hb dX7_hoursFrom_28 (by decide) ?_
  refine lv_idiv hx hb dX7_hoursFrom_31 (by decide) ?_
  refine lv_iadd hx hb dX7_hoursFrom_32 ?_
  exact eI hx hb hr hlocks dX7_hoursFrom_33 (by rfl)

set_option maxHeartbeats 4000000 in
set_option maxRecDepth 100000 in
theorem c_X7_mulesOn (l : Launch) (D : GG) (Ax : Nat → Nat) (th : Int32) (ns : Nat) (fog : Int32) (nr : Nat) (nm : Nat) (nl : Nat) (Lx : Nat → Nat → Int32) (p1 : Int32) (p2 : Int32) (b12 : nm ≤ 12) : Met l yX7_mulesOn wsX7_mulesOn ({ frames := 1, cells := 0, slots := 0, locals := 22 } : Room) (va_Pc [.ref (Ax 0), .int p1, .int p2] (wd D (wMod D Ax th ns fog nr nm nl Lx))) (RP (.int (onM Lx nm p1 p2))) 0 0 (fun _ => False) := by
  refine Met.ofW (cc := cX7_mulesOn) (maxL := 5) (ret := (some .int)) (by decide) rfl ?_
  intro p e s m args below meth c s₁ B hml hv
  obtain ⟨rfl, hP, hK, hD, hN⟩ := hv
  have hx := B.exec
  have hb := B.bytes
  have hr := B.returns
  have hts := atoms_spec (ws := wsX7_mulesOn) B.pre
  have hown : s.vm.findClass RX7 = some m.cls := findClass_of_methodNamed B.named
  have hlocks := B.notSynchronized
  have hinX7 : ∀ w ∈ u_ws RX7 TX7 14, w ∈ wsX7_mulesOn := by decide +kernel
  have hl := lv_entry ([.ref (Ax 0), .int p1, .int p2]) (n := 5) (Nat.le_of_ble_eq_true rfl)
  rw [lg_entry_eq]
  generalize (lg_sl ([.ref (Ax 0), .int p1, .int p2]) ++ List.replicate (5 - (lg_sl ([.ref (Ax 0), .int p1, .int p2])).length) Slot.unset).toArray = ls at hl ⊢
  have hl : lv_has ls 5 [(0, .ref (Ax 0)), (1, .int p1), (2, .int p2)] := hl
  refine lv_iconst (v := 0) hx hb dX7_mulesOn_0 (by decide) ?_
  refine lv_istore_n (lv' := [(3, .int 0), (0, .ref (Ax 0)), (1, .int p1), (2, .int p2)]) hx hb dX7_mulesOn_1 rfl hl (by decide) rfl (fun ls hl => ?_)
  refine lv_iconst (v := 0) hx hb dX7_mulesOn_2 (by decide) ?_
  refine lv_istore (lv' := [(4, .int 0), (3, .int 0), (0, .ref (Ax 0)), (1, .int p1), (2, .int p2)]) hx hb dX7_mulesOn_3 hl (by decide) rfl (fun ls hl => ?_)
  have lp1 : ∀ (j1 : Nat) (k1 : Nat) (hk1 : k1 + j1 = nm) (x4_1 : Int32) (e4_1 : x4_1 = (nI k1)) (x3_1 : Int32) (e3_1 : x3_1 = (cI (fun k => muM Lx (nI k) 0 == p1 && (p2 == 0 || !(decide (muM Lx (nI k) 3 ≤ 0)))) k1)) (ls : Array Slot) (hl : lv_has ls 5 [(4, .int x4_1), (3, .int x3_1), (0, .ref (Ax 0)), (1, .int p1), (2, .int p2)]), W p l e (headSpec wsX7_mulesOn ({ frames := 1, cells := 0, slots := 0, locals := 22 } : Room)).room s m ([.ref (Ax 0), .int p1, .int p2] : List Value).toArray below meth c s.heap [] 0 0 (MQ below (RP (.int (onM Lx nm p1 p2))) ([.ref (Ax 0), .int p1, .int p2] : List Value).toArray s 0 0 (fun _ => False)) (F0 m 5 ls []) := by
    intro j1
    induction j1 with
    | zero =>
      intro k1 hk1 x4_1 e4_1 x3_1 e3_1   ls hl
      subst e4_1 e3_1
      have hkN1 : nm = k1 := (by omega)
      subst hkN1
      refine lv_iload hx hb dX7_mulesOn_5 (lv_at hl 0 rfl) ?_
      refine lv_aload_n hx hb dX7_mulesOn_7 rfl (lv_at hl 2 rfl) ?_
      refine va_get (D := D.1) (ci := 7) (v := .int (nI nm)) (C := RX7) (T := TX7) (N := 14) hx hb hts hinX7 hown hK hP 0 rfl rfl 7 (by decide) (hts (.fieldLink RX7 73 "MountainPostModel" "mules" "I") (List.mem_of_getElem? (i := 1) rfl)) (fun _ h9 => h9) rfl dX7_mulesOn_8 ?_
      refine lv_icmp_ge (tgt := 53) hx hb dX7_mulesOn_11 (by decide) (fun c2 => ?_) (fun c2 => ?_)
      · refine lv_iload_n hx hb dX7_mulesOn_53 rfl (lv_at hl 1 rfl) ?_
        exact eI hx hb hr hlocks dX7_mulesOn_54 (by rfl)
      · exact (up0 rfl c2).elim
    | succ j1 ih =>
      intro k1 hk1 x4_1 e4_1 x3_1 e3_1   ls hl
      subst e4_1 e3_1
      have hlt1 : k1 < nm := by omega
      have hlt : k1 < nm := hlt1
      refine lv_iload hx hb dX7_mulesOn_5 (lv_at hl 0 rfl) ?_
      refine lv_aload_n hx hb dX7_mulesOn_7 rfl (lv_at hl 2 rfl) ?_
      refine va_get (D := D.1) (ci := 7) (v := .int (nI nm)) (C := RX7) (T := TX7) (N := 14) hx hb hts hinX7 hown hK hP 0 rfl rfl 7 (by decide) (hts (.fieldLink RX7 73 "MountainPostModel" "mules" "I") (List.mem_of_getElem? (i := 1) rfl)) (fun _ h9 => h9) rfl dX7_mulesOn_8 ?_
      refine lv_icmp_ge (tgt := 53) hx hb dX7_mulesOn_11 (by decide) (fun c3 => ?_) (fun c3 => ?_)
      · exact (upS hk1 (by omega) c3).elim
      · refine lv_iload_n hx hb dX7_mulesOn_14 rfl (lv_at hl 1 rfl) ?_
        refine lv_aload_n hx hb dX7_mulesOn_15 rfl (lv_at hl 2 rfl) ?_
        refine lv_iload hx hb dX7_mulesOn_16 (lv_at hl 0 rfl) ?_
        refine lv_iconst (v := 0) hx hb dX7_mulesOn_18 (by decide) ?_
        refine kVp ⟨hx, hb, hml, hown, hts⟩ (c_X7_mu l D Ax th ns fog nr nm nl Lx (nI k1) 0 (ixm (vd_k (by omega)) b12 0 (by decide))) (cwV 2 hts gX7_mulesOn_X7_mu rfl rfl rfl (by decide +kernel) ⟨Nat.le_of_ble_eq_true rfl, Nat.le_of_ble_eq_true rfl⟩) hK hN hP hD Sb.self 7 0 rfl rfl rfl hl.1 (Nat.le_of_ble_eq_true rfl) ⟨Nat.zero_le _, Nat.zero_le _⟩ dX7_mulesOn_19 ?_ rfl
        refine lv_iload_n hx hb dX7_mulesOn_22 rfl (lv_at hl 3 rfl) ?_
        refine lv_icmp_ne (tgt := 44) hx hb dX7_mulesOn_23 (by decide) (fun c4 => ?_) (fun c4 => ?_)
        · refine lv_iconst (v := 0) hx hb dX7_mulesOn_44 (by decide) ?_
          refine lv_iadd hx hb dX7_mulesOn_45 ?_
          refine lv_istore_n (lv' := [(3, .int ((cI (fun k => muM Lx (nI k) 0 == p1 && (p2 == 0 || !(decide (muM Lx (nI k) 3 ≤ 0)))) k1) + 0)), (4, .int (nI k1)), (0, .ref (Ax 0)), (1, .int p1), (2, .int p2)]) hx hb dX7_mulesOn_46 rfl hl (by decide) rfl (fun ls hl => ?_)
          refine lv_iinc (v := ((nI k1) + 1)) (lv' := [(4, .int ((nI k1) + 1)), (3, .int ((cI (fun k => muM Lx (nI k) 0 == p1 && (p2 == 0 || !(decide (muM Lx (nI k) 3 ≤ 0)))) k1) + 0)), (0, .ref (Ax 0)), (1, .int p1), (2, .int p2)]) hx hb dX7_mulesOn_47 hl (k := 1) rfl rfl (by decide) rfl (fun ls hl => ?_)
          refine lv_goto (tgt := 5) hx hb dX7_mulesOn_50 (by decide) ?_
          exact ih (k1 + 1) (by omega) _ (nI_1 k1) _ (by simp [cI, c3, c4]) ls (lv_sub hl [0, 1, 2, 3, 4] rfl)
        · refine lv_iload_n hx hb dX7_mulesOn_26 rfl (lv_at hl 4 rfl) ?_
          refine lv_if_eq (tgt := 40) hx hb dX7_mulesOn_27 (by decide) (fun c5 => ?_) (fun c5 => ?_)
          · refine lv_iconst (v := 1) hx hb dX7_mulesOn_40 (by decide) ?_
            refine lv_goto (tgt := 45) hx hb dX7_mulesOn_41 (by decide) ?_
            refine lv_iadd hx hb dX7_mulesOn_45 ?_
            refine lv_istore_n (lv' := [(3, .int ((cI (fun k => muM Lx (nI k) 0 == p1 && (p2 == 0 || !(decide (muM Lx (nI k) 3 ≤ 0)))) k1) + 1)), (4, .int (nI k1)), (0, .ref (Ax 0)), (1, .int p1), (2, .int p2)]) hx hb dX7_mulesOn_46 rfl hl (by decide) rfl (fun ls hl => ?_)
            refine lv_iinc (v := ((nI k1) + 1)) (lv' := [(4, .int ((nI k1) + 1)), (3, .int ((cI (fun k => muM Lx (nI k) 0 == p1 && (p2 == 0 || !(decide (muM Lx (nI k) 3 ≤ 0)))) k1) + 1)), (0, .ref (Ax 0)), (1, .int p1), (2, .int p2)]) hx hb dX7_mulesOn_47 hl (k := 1) rfl rfl (by decide) rfl (fun ls hl => ?_)
            refine lv_goto (tgt := 5) hx hb dX7_mulesOn_50 (by decide) ?_
            exact ih (k1 + 1) (by omega) _ (nI_1 k1) _ (by simp [cI, c3, c4, c5]) ls (lv_sub hl [0, 1, 2, 3, 4] rfl)
          · refine lv_aload_n hx hb dX7_mulesOn_30 rfl (lv_at hl 2 rfl) ?_
            refine lv_iload hx hb dX7_mulesOn_31 (lv_at hl 0 rfl) ?_
            refine lv_iconst (v := 3) hx hb dX7_mulesOn_33 (by decide) ?_
            refine kVp ⟨hx, hb, hml, hown, hts⟩ (c_X7_mu l D Ax th ns fog nr nm nl Lx (nI k1) 3 (ixm (vd_k (by omega)) b12 3 (by decide))) (cwV 2 hts gX7_mulesOn_X7_mu rfl rfl rfl (by decide +kernel) ⟨Nat.le_of_ble_eq_true rfl, Nat.le_of_ble_eq_true rfl⟩) hK hN hP hD Sb.self 7 0 rfl rfl rfl hl.1 (Nat.le_of_ble_eq_true rfl) ⟨Nat.zero_le _, Nat.zero_le _⟩ dX7_mulesOn_34 ?_ rfl
            refine lv_if_le (tgt := 44) hx hb dX7_mulesOn_37 (by decide) (fun c6 => ?_) (fun c6 => ?_)
            · refine lv_iconst (v := 0) hx hb dX7_mulesOn_44 (by decide) ?_
              refine lv_iadd hx hb dX7_mulesOn_45 ?_
              refine lv_istore_n (lv' := [(3, .int ((cI (fun k => muM Lx (nI k) 0 == p1 && (p2 == 0 || !(decide (muM Lx (nI k) 3 ≤ 0)))) k1) + 0)), (4, .int (nI k1)), (0, .ref (Ax 0)), (1, .int p1), (2, .int p2)]) hx hb dX7_mulesOn_46 rfl hl (by decide) rfl (fun ls hl => ?_)
              refine lv_iinc (v := ((nI k1) + 1)) (lv' := [(4, .int ((nI k1) + 1)), (3, .int ((cI (fun k => muM Lx (nI k) 0 == p1 && (p2 == 0 || !(decide (muM Lx (nI k) 3 ≤ 0)))) k1) + 0)), (0, .ref (Ax 0)), (1, .int p1), (2, .int p2)]) hx hb dX7_mulesOn_47 hl (k := 1) rfl rfl (by decide) rfl (fun ls hl => ?_)
              refine lv_goto (tgt := 5) hx hb dX7_mulesOn_50 (by decide) ?_
              exact ih (k1 + 1) (by omega) _ (nI_1 k1) _ (by simp [cI, c3, c4, c5, c6]) ls (lv_sub hl [0, 1, 2, 3, 4] rfl)
            · refine lv_iconst (v := 1) hx hb dX7_mulesOn_40 (by decide) ?_
              refine lv_goto (tgt := 45) hx hb dX7_mulesOn_41 (by decide) ?_
              refine lv_iadd hx hb dX7_mulesOn_45 ?_
              refine lv_istore_n (lv' := [(3, .int ((cI (fun k => muM Lx (nI k) 0 == p1 && (p2 == 0 || !(decide (muM Lx (nI k) 3 ≤ 0)))) k1) + 1)), (4, .int (nI k1)), (0, .ref (Ax 0)), (1, .int p1), (2, .int p2)]) hx hb dX7_mulesOn_46 rfl hl (by decide) rfl (fun ls hl => ?_)
              refine lv_iinc (v := ((nI k1) + 1)) (lv' := [(4, .int ((nI k1) + 1)), (3, .int ((cI (fun k => muM Lx (nI k) 0 == p1 && (p2 == 0 || !(decide (muM Lx (nI k) 3 ≤ 0)))) k1) + 1)), (0, .ref (Ax 0)), (1, .int p1), (2, .int p2)]) hx hb dX7_mulesOn_47 hl (k := 1) rfl rfl (by decide) rfl (fun ls hl => ?_)
              refine lv_goto (tgt := 5) hx hb dX7_mulesOn_50 (by decide) ?_
              exact ih (k1 + 1) (by omega) _ (nI_1 k1) _ (by simp [cI, c3, c4, c5, c6]) ls (lv_sub hl [0, 1, 2, 3, 4] rfl)
  exact lp1 nm 0 (by omega) _ nI_0.symm _ rfl ls (lv_sub hl [0, 1, 2, 3, 4] rfl)

set_option maxHeartbeats 4000000 in
set_option maxRecDepth 100000 in
theorem c_X7_handOn (l : Launch) (D : GG) (Ax : Nat → Nat) (th : Int32) (ns : Nat) (fog : Int32) (nr : Nat) (nm : Nat) (nl : Nat) (Lx : Nat → Nat → Int32) (p1 : Int32) (b10 : ns ≤ 10) : Met l yX7_handOn wsX7_handOn ({ frames := 1, cells := 0, slots := 0, locals := 21 } : Room) (va_Pc [.ref (Ax 0), .int p1] (wd D (wMod D Ax th ns fog nr nm nl Lx))) (RP (.int (litM Lx ns fog p1))) 0 0 (fun _ => False) := by
  refine Met.ofW (cc := cX7_handOn) (maxL := 4) (ret := (some .int)) (by decide) rfl ?_
  intro p e s m args below meth c s₁ B hml hv
  obtain ⟨rfl, hP, hK, hD, hN⟩ := hv
  have hx := B.exec
  have hb := B.bytes
  have hr := B.returns
  have hts := atoms_spec (ws := wsX7_handOn) B.pre
  have hown : s.vm.findClass RX7 = some m.cls := findClass_of_methodNamed B.named
  have hlocks := B.notSynchronized
  have hinX7 : ∀ w ∈ u_ws RX7 TX7 14, w ∈ wsX7_handOn := by decide +kernel
  have hl := lv_entry ([.ref (Ax 0), .int p1]) (n := 4) (Nat.le_of_ble_eq_true rfl)
  rw [lg_entry_eq]
  generalize (lg_sl ([.ref (Ax 0), .int p1]) ++ List.replicate (4 - (lg_sl ([.ref (Ax 0), .int p1])).length) Slot.unset).toArray = ls at hl ⊢
  have hl : lv_has ls 4 [(0, .ref (Ax 0)), (1, .int p1)] := hl
  refine lv_iload_n hx hb dX7_handOn_0 rfl (lv_at hl 1 rfl) ?_
  refine lv_istore_n (lv' := [(2, .int p1), (0, .ref (Ax 0)), (1, .int p1)]) hx hb dX7_handOn_1 rfl hl (by decide) rfl (fun ls hl => ?_)
  refine lv_iconst (v := 0) hx hb dX7_handOn_2 (by decide) ?_
  refine lv_istore_n (lv' := [(3, .int 0), (2, .int p1), (0, .ref (Ax 0)), (1, .int p1)]) hx hb dX7_handOn_3 rfl hl (by decide) rfl (fun ls hl => ?_)
  have lp1 : ∀ (j1 : Nat) (k1 : Nat) (hk1 : k1 + j1 = ns) (x3_1 : Int32) (e3_1 : x3_1 = (nI k1)) (x2_1 : Int32) (e2_1 : x2_1 = (litFM Lx fog p1 k1)) (ls : Array Slot) (hl : lv_has ls 4 [(3, .int x3_1), (2, .int x2_1), (0, .ref (Ax 0)), (1, .int p1)]), W p l e (headSpec wsX7_handOn ({ frames := 1, cells := 0, slots := 0, locals := 21 } : Room)).room s m ([.ref (Ax 0), .int p1] : List Value).toArray below meth c s.heap [] 0 0 (MQ below (RP (.int (litM Lx ns fog p1))) ([.ref (Ax 0), .int p1] : List Value).toArray s 0 0 (fun _ => False)) (F0 m 4 ls []) := by
    intro j1
    induction j1 with
    | zero =>
      intro k1 hk1 x3_1 e3_1 x2_1 e2_1   ls hl
      subst e3_1 e2_1
      have hkN1 : ns = k1 := (by omega)
      subst hkN1
      refine lv_iload_n hx hb dX7_handOn_4 rfl (lv_at hl 0 rfl) ?_
      refine lv_aload_n hx hb dX7_handOn_5 rfl (lv_at hl 2 rfl) ?_
      refine va_get (D := D.1) (ci := 7) (v := .int (nI ns)) (C := RX7) (T := TX7) (N := 14) hx hb hts hinX7 hown hK hP 0 rfl rfl 1 (by decide) (hts (.fieldLink RX7 38 "MountainPostModel" "stations" "I") (List.mem_of_getElem? (i := 1) rfl)) (fun _ h9 => h9) rfl dX7_handOn_6 ?_
      refine lv_icmp_ge (tgt := 53) hx hb dX7_handOn_9 (by decide) (fun c2 => ?_) (fun c2 => ?_)
      · refine lv_iload_n hx hb dX7_handOn_53 rfl (lv_at hl 1 rfl) ?_
        exact eI hx hb hr hlocks dX7_handOn_54 (by rfl)
      · exact (up0 rfl c2).elim
    | succ j1 ih =>
      intro k1 hk1 x3_1 e3_1 x2_1 e2_1   ls hl
      subst e3_1 e2_1
      have hlt1 : k1 < ns := by omega
      have hlt : k1 < ns := hlt1
      refine lv_iload_n hx hb dX7_handOn_4 rfl (lv_at hl 0 rfl) ?_
      refine lv_aload_n hx hb dX7_handOn_5 rfl (lv_at hl 2 rfl) ?_
      refine va_get (D := D.1) (ci := 7) (v := .int (nI ns)) (C := RX7) (T := TX7) (N := 14) hx hb hts hinX7 hown hK hP 0 rfl rfl 1 (by decide) (hts (.fieldLink RX7 38 "MountainPostModel" "stations" "I") (List.mem_of_getElem? (i := 1) rfl)) (fun _ h9 => h9) rfl dX7_handOn_6 ?_
      refine lv_icmp_ge (tgt := 53) hx hb dX7_handOn_9 (by decide) (fun c3 => ?_) (fun c3 => ?_)
      · exact (upS hk1 (by omega) c3).elim
      · refine lv_iload_n hx hb dX7_handOn_12 rfl (lv_at hl 3 rfl) ?_
        refine lv_iload_n hx hb dX7_handOn_13 rfl (lv_at hl 0 rfl) ?_
        refine kSp ⟨hx, hb, hml, hown, hts⟩ (c_X7_has l D p1 (nI k1)) (va_cwS 2 hts gX7_handOn_X7_has rfl rfl rfl (by decide +kernel) ⟨Nat.le_of_ble_eq_true rfl, Nat.le_of_ble_eq_true rfl⟩) hK hN hP hD Sb.nil  rfl hl.1 (Nat.le_of_ble_eq_true rfl) ⟨Nat.zero_le _, Nat.zero_le _⟩ dX7_handOn_14 ?_ rfl
        refine lv_if_eq (tgt := 47) hx hb dX7_handOn_17 (by decide) (fun c4 => ?_) (fun c4 => ?_)
        · have c4 := z2_0.mp c4
          refine lv_iinc (v := ((nI k1) + 1)) (lv' := [(3, .int ((nI k1) + 1)), (2, .int (litFM Lx fog p1 k1)), (0, .ref (Ax 0)), (1, .int p1)]) hx hb dX7_handOn_47 hl (k := 0) rfl rfl (by decide) rfl (fun ls hl => ?_)
          refine lv_goto (tgt := 4) hx hb dX7_handOn_50 (by decide) ?_
          exact ih (k1 + 1) (by omega) _ (nI_1 k1) _ (by simp [litFM, c3, c4]) ls (lv_sub hl [0, 1, 2, 3] rfl)
        · have c4 := z2_n.mp c4
          refine lv_aload_n hx hb dX7_handOn_20 rfl (lv_at hl 2 rfl) ?_
          refine va_get (D := D.1) (ci := 7) (v := .int fog) (C := RX7) (T := TX7) (N := 14) hx hb hts hinX7 hown hK hP 0 rfl rfl 4 (by decide) (hts (.fieldLink RX7 64 "MountainPostModel" "fog" "I") (List.mem_of_getElem? (i := 2) rfl)) (fun _ h9 => h9) rfl dX7_handOn_21 ?_
          refine lv_iload_n hx hb dX7_handOn_24 rfl (lv_at hl 0 rfl) ?_
          refine kSp ⟨hx, hb, hml, hown, hts⟩ (c_X7_has l D fog (nI k1)) (va_cwS 2 hts gX7_handOn_X7_has rfl rfl rfl (by decide +kernel) ⟨Nat.le_of_ble_eq_true rfl, Nat.le_of_ble_eq_true rfl⟩) hK hN hP hD Sb.nil  rfl hl.1 (Nat.le_of_ble_eq_true rfl) ⟨Nat.zero_le _, Nat.zero_le _⟩ dX7_handOn_25 ?_ rfl
          refine lv_if_ne (tgt := 47) hx hb dX7_handOn_28 (by decide) (fun c5 => ?_) (fun c5 => ?_)
          · have c5 := z2_n.mp c5
            refine lv_iinc (v := ((nI k1) + 1)) (lv' := [(3, .int ((nI k1) + 1)), (2, .int (litFM Lx fog p1 k1)), (0, .ref (Ax 0)), (1, .int p1)]) hx hb dX7_handOn_47 hl (k := 0) rfl rfl (by decide) rfl (fun ls hl => ?_)
            refine lv_goto (tgt := 4) hx hb dX7_handOn_50 (by decide) ?_
            exact ih (k1 + 1) (by omega) _ (nI_1 k1) _ (by simp [litFM, c3, c4, c5]) ls (lv_sub hl [0, 1, 2, 3] rfl)
          · have c5 := z2_0.mp c5
            refine lv_iload_n hx hb dX7_handOn_31 rfl (lv_at hl 1 rfl) ?_
            refine lv_aload_n hx hb dX7_handOn_32 rfl (lv_at hl 2 rfl) ?_
            refine va_get (D := D.1) (ci := 7) (v := .ref (Ax 2)) (C := RX7) (T := TX7) (N := 14) hx hb hts hinX7 hown hK hP 0 rfl rfl 3 (by decide) (hts (.fieldLink RX7 13 "MountainPostModel" "sight" "[I") (List.mem_of_getElem? (i := 3) rfl)) (fun _ h9 => h9) rfl dX7_handOn_33 ?_
            refine lv_iload_n hx hb dX7_handOn_36 rfl (lv_at hl 0 rfl) ?_
            refine va_iald (D := D.1) hx hb hK hP 2 0 rfl rfl (vd_in (vd_k hlt) b10 (by decide)) dX7_handOn_37 ?_
            rw [show ((Lx 1) (nI k1).toNatClampNeg) = (rg 10 (Lx 1) (nI k1)) from (rg_vp (vd_in (vd_k hlt) b10 (by decide))).symm]
            refine lv_aload_n hx hb dX7_handOn_38 rfl (lv_at hl 2 rfl) ?_
            refine va_get (D := D.1) (ci := 7) (v := .int fog) (C := RX7) (T := TX7) (N := 14) hx hb hts hinX7 hown hK hP 0 rfl rfl 4 (by decide) (hts (.fieldLink RX7 64 "MountainPostModel" "fog" "I") (List.mem_of_getElem? (i := 2) rfl)) (fun _ h9 => h9) rfl dX7_handOn_39 ?_
            refine lv_iconst (v := (-1)) hx hb dX7_handOn_42 (by decide) ?_
            refine lv_ixor hx hb dX7_handOn_43 ?_
            refine lv_iand hx hb dX7_handOn_44 ?_
            refine lv_ior hx hb dX7_handOn_45 ?_
            refine lv_istore_n (lv' := [(2, .int ((litFM Lx fog p1 k1) ||| ((rg 10 (Lx 1) (nI k1)) &&& (fog ^^^ (-1))))), (3, .int (nI k1)), (0, .ref (Ax 0)), (1, .int p1)]) hx hb dX7_handOn_46 rfl hl (by decide) rfl (fun ls hl => ?_)
            refine lv_iinc (v := ((nI k1) + 1)) (lv' := [(3, .int ((nI k1) + 1)), (2, .int ((litFM Lx fog p1 k1) ||| ((rg 10 (Lx 1) (nI k1)) &&& (fog ^^^ (-1))))), (0, .ref (Ax 0)), (1, .int p1)]) hx hb dX7_handOn_47 hl (k := 1) rfl rfl (by decide) rfl (fun ls hl => ?_)
            refine lv_goto (tgt := 4) hx hb dX7_handOn_50 (by decide) ?_
            exact ih (k1 + 1) (by omega) _ (nI_1 k1) _ (by simp [litFM, c3, c4, c5]) ls (lv_sub hl [0, 1, 2, 3] rfl)
  exact lp1 ns 0 (by omega) _ nI_0.symm _ rfl ls (lv_sub hl [0, 1, 2, 3] rfl)
