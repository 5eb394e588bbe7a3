set_option maxHeartbeats 4000000 in
set_option maxRecDepth 100000 in
theorem c_X7_goal (l : Launch) (D : GG) (Ax : Nat → Nat) (th : Int32) (ns : Nat) (fog : Int32) (nr : Nat) (nm : Nat) (nl : Nat) (Lx : Nat → Nat → Int32) (p1 : Int32) (b60 : nl ≤ 60) (hl1 : vd nl p1) : Met l yX7_goal wsX7_goal ({ frames := 1, cells := 0, slots := 0, locals := 22 } : Room) (va_Pc [.ref (Ax 0), .int p1] (wd D (wMod D Ax th ns fog nr nm nl Lx))) (RP (.int (goM Lx p1))) 0 0 (fun _ => False) := by
  refine Met.ofW (cc := cX7_goal) (maxL := 2) (ret := (some .int)) (by decide) rfl ?_
  intro p e s m args below meth c s₁ B hml hv
  obtain ⟨rfl, hP, hK, hD, hN⟩ := hv
  have hx := B.exec
  have hb := B.bytes
  have hr := B.returns
  have hts := atoms_spec (ws := wsX7_goal) B.pre
  have hown : s.vm.findClass RX7 = some m.cls := findClass_of_methodNamed B.named
  have hlocks := B.notSynchronized
  have hl := lv_entry ([.ref (Ax 0), .int p1]) (n := 2) (Nat.le_of_ble_eq_true rfl)
  rw [lg_entry_eq]
  generalize (lg_sl ([.ref (Ax 0), .int p1]) ++ List.replicate (2 - (lg_sl ([.ref (Ax 0), .int p1])).length) Slot.unset).toArray = ls at hl ⊢
  have hl : lv_has ls 2 [(0, .ref (Ax 0)), (1, .int p1)] := hl
  refine lv_aload_n hx hb dX7_goal_0 rfl (lv_at hl 0 rfl) ?_
  refine lv_iload_n hx hb dX7_goal_1 rfl (lv_at hl 1 rfl) ?_
  refine lv_aload_n hx hb dX7_goal_2 rfl (lv_at hl 0 rfl) ?_
  refine lv_iload_n hx hb dX7_goal_3 rfl (lv_at hl 1 rfl) ?_
  refine lv_bipush (v := 7) hx hb dX7_goal_4 (by decide) ?_
  refine kVp ⟨hx, hb, hml, hown, hts⟩ (c_X7_le l D Ax th ns fog nr nm nl Lx p1 7 (ixl (by assumption) b60 7 (by decide))) (cwV 2 hts gX7_goal_X7_le rfl rfl rfl (by decide +kernel) ⟨Nat.le_of_ble_eq_true rfl, Nat.le_of_ble_eq_true rfl⟩) hK hN hP hD Sb.self 7 0 rfl rfl rfl hl.1 (Nat.le_of_ble_eq_true rfl) ⟨Nat.zero_le _, Nat.zero_le _⟩ dX7_goal_6 ?_ rfl
  refine lv_iconst (v := 1) hx hb dX7_goal_9 (by decide) ?_
  refine lv_icmp_ne (tgt := 17) hx hb dX7_goal_10 (by decide) (fun c1 => ?_) (fun c1 => ?_)
  · refine lv_iconst (v := 1) hx hb dX7_goal_17 (by decide) ?_
    refine kVp ⟨hx, hb, hml, hown, hts⟩ (c_X7_le l D Ax th ns fog nr nm nl Lx p1 1 (ixl (by assumption) b60 1 (by decide))) (cwV 2 hts gX7_goal_X7_le rfl rfl rfl (by decide +kernel) ⟨Nat.le_of_ble_eq_true rfl, Nat.le_of_ble_eq_true rfl⟩) hK hN hP hD Sb.self 7 0 rfl rfl rfl hl.1 (Nat.le_of_ble_eq_true rfl) ⟨Nat.zero_le _, Nat.zero_le _⟩ dX7_goal_18 ?_ rfl
    exact eI hx hb hr hlocks dX7_goal_21 (by simp [goM, c1])
  · refine lv_iconst (v := 0) hx hb dX7_goal_13 (by decide) ?_
    refine lv_goto (tgt := 18) hx hb dX7_goal_14 (by decide) ?_
    refine kVp ⟨hx, hb, hml, hown, hts⟩ (c_X7_le l D Ax th ns fog nr nm nl Lx p1 0 (ixl (by assumption) b60 0 (by decide))) (cwV 2 hts gX7_goal_X7_le rfl rfl rfl (by decide +kernel) ⟨Nat.le_of_ble_eq_true rfl, Nat.le_of_ble_eq_true rfl⟩) hK hN hP hD Sb.self 7 0 rfl rfl rfl hl.1 (Nat.le_of_ble_eq_true rfl) ⟨Nat.zero_le _, Nat.zero_le _⟩ dX7_goal_18 ?_ rfl
    exact eI hx hb hr hlocks dX7_goal_21 (by simp [goM, c1])

set_option maxHeartbeats 4000000 in
set_option maxRecDepth 100000 in
theorem c_X7_end (l : Launch) (D : GG) (Ax : Nat → Nat) (th : Int32) (ns : Nat) (fog : Int32) (nr : Nat) (nm : Nat) (nl : Nat) (Lx : Nat → Nat → Int32) (p1 : Int32) (p2 : Int32) (b60 : nl ≤ 60) (hl1 : vd nl p1) : Met l yX7_end wsX7_end ({ frames := 1, cells := 0, slots := 0, locals := 23 } : Room) (va_Pc [.ref (Ax 0), .int p1, .int p2] (wd D (wMod D Ax th ns fog nr nm nl Lx))) (QW D none (wMod D Ax th ns fog nr nm nl (endM Lx p1 p2)) (own (wMod D Ax th ns fog nr nm nl Lx))) 0 0 (own (wMod D Ax th ns fog nr nm nl Lx)) := by
  refine Met.ofW (cc := cX7_end) (maxL := 3) (ret := none) (by decide) rfl ?_
  intro p e s m args below meth c s₁ B hml hv
  obtain ⟨rfl, hP, hK, hD, hN⟩ := hv
  have hx := B.exec
  have hb := B.bytes
  have hr := B.returns
  have hts := atoms_spec (ws := wsX7_end) B.pre
  have hown : s.vm.findClass RX7 = some m.cls := findClass_of_methodNamed B.named
  have hlocks := B.notSynchronized
  have hinX7 : ∀ w ∈ u_ws RX7 TX7 14, w ∈ wsX7_end := by decide +kernel
  have hS : va_S (own (wMod D Ax th ns fog nr nm nl Lx)) s.heap s.heap [] := va_S.rf
  have hD : va_D (own (wMod D Ax th ns fog nr nm nl Lx)) (wMod D Ax th ns fog nr nm nl Lx) := toOwn hD
  generalize hAe : own (wMod D Ax th ns fog nr nm nl Lx) = A0 at hD hS ⊢
  have hl := lv_entry ([.ref (Ax 0), .int p1, .int p2]) (n := 3) (Nat.le_of_ble_eq_true rfl)
  rw [lg_entry_eq]
  generalize (lg_sl ([.ref (Ax 0), .int p1, .int p2]) ++ List.replicate (3 - (lg_sl ([.ref (Ax 0), .int p1, .int p2])).length) Slot.unset).toArray = ls at hl ⊢
  have hl : lv_has ls 3 [(0, .ref (Ax 0)), (1, .int p1), (2, .int p2)] := hl
  refine lv_aload_n hx hb dX7_end_0 rfl (lv_at hl 0 rfl) ?_
  refine lv_iload_n hx hb dX7_end_1 rfl (lv_at hl 1 rfl) ?_
  refine lv_iconst (v := 3) hx hb dX7_end_2 (by decide) ?_
  refine lv_iload_n hx hb dX7_end_3 rfl (lv_at hl 2 rfl) ?_
  refine kVw ⟨hx, hb, hml, hown, hts⟩ (c_X7_setLe l D Ax th ns fog nr nm nl Lx p1 3 p2 (ixl (by assumption) b60 3 (by decide))) (cwV 3 hts gX7_end_X7_setLe rfl rfl rfl (by decide +kernel) ⟨Nat.le_of_ble_eq_true rfl, Nat.le_of_ble_eq_true rfl⟩) hK hN hP hD hS frsMod 7 0 rfl rfl rfl hl.1 (Nat.le_of_ble_eq_true rfl) ⟨Nat.zero_le _, Nat.zero_le _⟩ dX7_end_4 (fun H locs hP hD hS => ?_) rfl
  have hP : va_P D.1 vwCl (wMod D Ax th ns fog nr nm nl (seM Lx p1 3 p2)) H := hP
  have hD : va_D A0 (wMod D Ax th ns fog nr nm nl (seM Lx p1 3 p2)) := hD
  refine W.eq (g2 := F0 m 7 ls []) rfl ?_
  refine lv_aload_n hx hb dX7_end_7 rfl (lv_at hl 0 rfl) ?_
  refine lv_iload_n hx hb dX7_end_8 rfl (lv_at hl 1 rfl) ?_
  refine lv_bipush (v := 9) hx hb dX7_end_9 (by decide) ?_
  refine lv_aload_n hx hb dX7_end_11 rfl (lv_at hl 0 rfl) ?_
  refine va_get (D := D.1) (ci := 7) (v := .ref (Ax 6)) (C := RX7) (T := TX7) (N := 14) hx hb hts hinX7 hown hK hP 0 rfl rfl 11 (by decide) (hts (.fieldLink RX7 25 "MountainPostModel" "numbers" "[I") (List.mem_of_getElem? (i := 1) rfl)) (fun _ h9 => h9) rfl dX7_end_12 ?_
  refine lv_iconst (v := 0) hx hb dX7_end_15 (by decide) ?_
  refine va_iald (D := D.1) hx hb hK hP 6 0 rfl rfl (show vp_in (nI 0) 2 from vp_in_nI (by decide) (by decide)) dX7_end_16 ?_
  rw [show (((seM Lx p1 3 p2) 5) (0 : Int32).toNatClampNeg) = (rg 2 ((seM Lx p1 3 p2) 5) (0 : Int32)) from (rg_vp (show vp_in (nI 0) 2 from vp_in_nI (by decide) (by decide))).symm]
  refine kVw ⟨hx, hb, hml, hown, hts⟩ (c_X7_setLe l D Ax th ns fog nr nm nl (seM Lx p1 3 p2) p1 9 (rg 2 ((seM Lx p1 3 p2) 5) (0 : Int32)) (ixl (by assumption) b60 9 (by decide))) (cwV 3 hts gX7_end_X7_setLe rfl rfl rfl (by decide +kernel) ⟨Nat.le_of_ble_eq_true rfl, Nat.le_of_ble_eq_true rfl⟩) hK hN hP hD hS frsMod 7 0 rfl rfl rfl hl.1 (Nat.le_of_ble_eq_true rfl) ⟨Nat.zero_le _, Nat.zero_le _⟩ dX7_end_17 (fun H locs hP hD hS => ?_) rfl
  have hP : va_P D.1 vwCl (wMod D Ax th ns fog nr nm nl (seM (seM Lx p1 3 p2) p1 9 (rg 2 ((seM Lx p1 3 p2) 5) (0 : Int32)))) H := hP
  have hD : va_D A0 (wMod D Ax th ns fog nr nm nl (seM (seM Lx p1 3 p2) p1 9 (rg 2 ((seM Lx p1 3 p2) 5) (0 : Int32)))) := hD
  refine W.eq (g2 := F0 m 20 ls []) rfl ?_
  exact eWv hx hb hr hlocks dX7_end_20 hS hP (by rfl)

set_option maxHeartbeats 4000000 in
set_option maxRecDepth 100000 in
theorem c_X7_unload (l : Launch) (D : GG) (Ax : Nat → Nat) (th : Int32) (ns : Nat) (fog : Int32) (nr : Nat) (nm : Nat) (nl : Nat) (Lx : Nat → Nat → Int32) (p1 : Int32) (p2 : Int32) (b60 : nl ≤ 60) (hl1 : vd nl p1) : Met l yX7_unload wsX7_unload ({ frames := 2, cells := 0, slots := 0, locals := 45 } : Room) (va_Pc [.ref (Ax 0), .int p1, .int p2] (wd D (wMod D Ax th ns fog nr nm nl Lx))) (QW D (some (.int (z2 ((unM Lx p1 p2).2)))) (wMod D Ax th ns fog nr nm nl ((unM Lx p1 p2).1)) (own (wMod D Ax th ns fog nr nm nl Lx))) 0 0 (own (wMod D Ax th ns fog nr nm nl Lx)) := by
  refine Met.ofW (cc := cX7_unload) (maxL := 4) (ret := (some .boolean)) (by decide) rfl ?_
  intro p e s m args below meth c s₁ B hml hv
  obtain ⟨rfl, hP, hK, hD, hN⟩ := hv
  have hx := B.exec
  have hb := B.bytes
  have hr := B.returns
  have hts := atoms_spec (ws := wsX7_unload) B.pre
  have hown : s.vm.findClass RX7 = some m.cls := findClass_of_methodNamed B.named
  have hlocks := B.notSynchronized
  have hS : va_S (own (wMod D Ax th ns fog nr nm nl Lx)) s.heap s.heap [] := va_S.rf
  have hD : va_D (own (wMod D Ax th ns fog nr nm nl Lx)) (wMod D Ax th ns fog nr nm nl Lx) := toOwn hD
  generalize hAe : own (wMod D Ax th ns fog nr nm nl Lx) = A0 at hD hS ⊢
  have hl := lv_entry ([.ref (Ax 0), .int p1, .int p2]) (n := 4) (Nat.le_of_ble_eq_true rfl)
  rw [lg_entry_eq]
  generalize (lg_sl ([.ref (Ax 0), .int p1, .int p2]) ++ List.replicate (4 - (lg_sl ([.ref (Ax 0), .int p1, .int p2])).length) Slot.unset).toArray = ls at hl ⊢
  have hl : lv_has ls 4 [(0, .ref (Ax 0)), (1, .int p1), (2, .int p2)] := hl
  refine lv_aload_n hx hb dX7_unload_0 rfl (lv_at hl 0 rfl) ?_
  refine lv_iload_n hx hb dX7_unload_1 rfl (lv_at hl 1 rfl) ?_
  refine lv_iconst (v := 3) hx hb dX7_unload_2 (by decide) ?_
  refine lv_iconst (v := 0) hx hb dX7_unload_3 (by decide) ?_
  refine kVw ⟨hx, hb, hml, hown, hts⟩ (c_X7_setLe l D Ax th ns fog nr nm nl Lx p1 3 0 (ixl (by assumption) b60 3 (by decide))) (cwV 3 hts gX7_unload_X7_setLe rfl rfl rfl (by decide +kernel) ⟨Nat.le_of_ble_eq_true rfl, Nat.le_of_ble_eq_true rfl⟩) hK hN hP hD hS frsMod 7 0 rfl rfl rfl hl.1 (Nat.le_of_ble_eq_true rfl) ⟨Nat.zero_le _, Nat.zero_le _⟩ dX7_unload_4 (fun H locs hP hD hS => ?_) rfl
  have hP : va_P D.1 vwCl (wMod D Ax th ns fog nr nm nl (seM Lx p1 3 0)) H := hP
  have hD : va_D A0 (wMod D Ax th ns fog nr nm nl (seM Lx p1 3 0)) := hD
  refine W.eq (g2 := F0 m 7 ls []) rfl ?_
  refine lv_aload_n hx hb dX7_unload_7 rfl (lv_at hl 0 rfl) ?_
  refine lv_iload_n hx hb dX7_unload_8 rfl (lv_at hl 1 rfl) ?_
  refine lv_iconst (v := 5) hx hb dX7_unload_9 (by decide) ?_
  refine lv_iconst (v := (-1)) hx hb dX7_unload_10 (by decide) ?_
  refine kVw ⟨hx, hb, hml, hown, hts⟩ (c_X7_setLe l D Ax th ns fog nr nm nl (seM Lx p1 3 0) p1 5 (-1) (ixl (by assumption) b60 5 (by decide))) (cwV 3 hts gX7_unload_X7_setLe rfl rfl rfl (by decide +kernel) ⟨Nat.le_of_ble_eq_true rfl, Nat.le_of_ble_eq_true rfl⟩) hK hN hP hD hS frsMod 7 0 rfl rfl rfl hl.1 (Nat.le_of_ble_eq_true rfl) ⟨Nat.zero_le _, Nat.zero_le _⟩ dX7_unload_11 (fun H locs hP hD hS => ?_) rfl
  have hP : va_P D.1 vwCl (wMod D Ax th ns fog nr nm nl (seM (seM Lx p1 3 0) p1 5 (-1))) H := hP
  have hD : va_D A0 (wMod D Ax th ns fog nr nm nl (seM (seM Lx p1 3 0) p1 5 (-1))) := hD
  refine W.eq (g2 := F0 m 14 ls []) rfl ?_
  refine lv_aload_n hx hb dX7_unload_14 rfl (lv_at hl 0 rfl) ?_
  refine lv_iload_n hx hb dX7_unload_15 rfl (lv_at hl 1 rfl) ?_
  refine lv_iconst (v := 4) hx hb dX7_unload_16 (by decide) ?_
  refine lv_iload_n hx hb dX7_unload_17 rfl (lv_at hl 2 rfl) ?_
  refine kVw ⟨hx, hb, hml, hown, hts⟩ (c_X7_setLe l D Ax th ns fog nr nm nl (seM (seM Lx p1 3 0) p1 5 (-1)) p1 4 p2 (ixl (by assumption) b60 4 (by decide))) (cwV 3 hts gX7_unload_X7_setLe rfl rfl rfl (by decide +kernel) ⟨Nat.le_of_ble_eq_true rfl, Nat.le_of_ble_eq_true rfl⟩) hK hN hP hD hS frsMod 7 0 rfl rfl rfl hl.1 (Nat.le_of_ble_eq_true rfl) ⟨Nat.zero_le _, Nat.zero_le _⟩ dX7_unload_18 (fun H locs hP hD hS => ?_) rfl
  have hP : va_P D.1 vwCl (wMod D Ax th ns fog nr nm nl (seM (seM (seM Lx p1 3 0) p1 5 (-1)) p1 4 p2)) H := hP
  have hD : va_D A0 (wMod D Ax th ns fog nr nm nl (seM (seM (seM Lx p1 3 0) p1 5 (-1)) p1 4 p2)) := hD
  refine W.eq (g2 := F0 m 21 ls []) rfl ?_
  refine lv_aload_n hx hb dX7_unload_21 rfl (lv_at hl 0 rfl) ?_
  refine lv_iload_n hx hb dX7_unload_22 rfl (lv_at hl 1 rfl) ?_
  refine kVp ⟨hx, hb, hml, hown, hts⟩ (c_X7_goal l D Ax th ns fog nr nm nl (seM (seM (seM Lx p1 3 0) p1 5 (-1)) p1 4 p2) p1 (by assumption) (by assumption)) (cwV 1 hts gX7_unload_X7_goal rfl rfl rfl (by decide +kernel) ⟨Nat.le_of_ble_eq_true rfl, Nat.le_of_ble_eq_true rfl⟩) hK hN hP hD Sb.self 7 0 rfl rfl rfl hl.1 (Nat.le_of_ble_eq_true rfl) ⟨Nat.zero_le _, Nat.zero_le _⟩ dX7_unload_23 ?_ rfl
  refine lv_iload_n hx hb dX7_unload_26 rfl (lv_at hl 2 rfl) ?_
  refine lv_icmp_eq (tgt := 32) hx hb dX7_unload_27 (by decide) (fun c1 => ?_) (fun c1 => ?_)
  · refine lv_aload_n hx hb dX7_unload_32 rfl (lv_at hl 0 rfl) ?_
    refine lv_iload_n hx hb dX7_unload_33 rfl (lv_at hl 1 rfl) ?_
    refine lv_bipush (v := 7) hx hb dX7_unload_34 (by decide) ?_
    refine kVp ⟨hx, hb, hml, hown, hts⟩ (c_X7_le l D Ax th ns fog nr nm nl (seM (seM (seM Lx p1 3 0) p1 5 (-1)) p1 4 p2) p1 7 (ixl (by assumption) b60 7 (by decide))) (cwV 2 hts gX7_unload_X7_le rfl rfl rfl (by decide +kernel) ⟨Nat.le_of_ble_eq_true rfl, Nat.le_of_ble_eq_true rfl⟩) hK hN hP hD Sb.self 7 0 rfl rfl rfl hl.1 (Nat.le_of_ble_eq_true rfl) ⟨Nat.zero_le _, Nat.zero_le _⟩ dX7_unload_36 ?_ rfl
    refine lv_iconst (v := 1) hx hb dX7_unload_39 (by decide) ?_
    refine lv_icmp_ne (tgt := 47) hx hb dX7_unload_40 (by decide) (fun c2 => ?_) (fun c2 => ?_)
    · refine lv_iconst (v := 0) hx hb dX7_unload_47 (by decide) ?_
      refine lv_istore_n (lv' := [(3, .int 0), (0, .ref (Ax 0)), (1, .int p1), (2, .int p2)]) hx hb dX7_unload_48 rfl hl (by decide) rfl (fun ls hl => ?_)
      refine lv_aload_n hx hb dX7_unload_49 rfl (lv_at hl 1 rfl) ?_
      refine lv_iload_n hx hb dX7_unload_50 rfl (lv_at hl 2 rfl) ?_
      refine lv_iload_n hx hb dX7_unload_51 rfl (lv_at hl 0 rfl) ?_
      refine lv_if_eq (tgt := 59) hx hb dX7_unload_52 (by decide) (fun c3 => ?_) (fun c3 => ?_)
      · refine lv_iconst (v := 2) hx hb dX7_unload_59 (by decide) ?_
        refine kVw ⟨hx, hb, hml, hown, hts⟩ (c_X7_end l D Ax th ns fog nr nm nl (seM (seM (seM Lx p1 3 0) p1 5 (-1)) p1 4 p2) p1 2 (by assumption) (by assumption)) (cwV 2 hts gX7_unload_X7_end rfl rfl rfl (by decide +kernel) ⟨Nat.le_of_ble_eq_true rfl, Nat.le_of_ble_eq_true rfl⟩) hK hN hP hD hS frsMod 7 0 rfl rfl rfl hl.1 (Nat.le_of_ble_eq_true rfl) ⟨Nat.zero_le _, Nat.zero_le _⟩ dX7_unload_60 (fun H locs hP hD hS => ?_) rfl
        have hP : va_P D.1 vwCl (wMod D Ax th ns fog nr nm nl (endM (seM (seM (seM Lx p1 3 0) p1 5 (-1)) p1 4 p2) p1 2)) H := hP
        have hD : va_D A0 (wMod D Ax th ns fog nr nm nl (endM (seM (seM (seM Lx p1 3 0) p1 5 (-1)) p1 4 p2) p1 2)) := hD
        refine W.eq (g2 := F0 m 63 ls []) rfl ?_
        refine lv_iload_n hx hb dX7_unload_63 rfl (lv_at hl 0 rfl) ?_
        refine lv_if_ne (tgt := 71) hx hb dX7_unload_64 (by decide) (fun c4 => ?_) (fun c4 => ?_)
        · exact absurd c4 (by decide)
        · refine lv_iconst (v := 1) hx hb dX7_unload_67 (by decide) ?_
          refine lv_goto (tgt := 72) hx hb dX7_unload_68 (by decide) ?_
          exact eWz hx hb hr hlocks dX7_unload_72 hS hP (by (rw [unM, if_pos (show goM (layM Lx p1 p2) p1 = p2 from c1), if_neg (show ¬ leM (layM Lx p1 p2) p1 7 = 1 from c2)]; first | done | rfl)) (by (rw [unM, if_pos (show goM (layM Lx p1 p2) p1 = p2 from c1), if_neg (show ¬ leM (layM Lx p1 p2) p1 7 = 1 from c2)]; first | done | rfl))
      · exact absurd c3 (by decide)
    · refine lv_iconst (v := 1) hx hb dX7_unload_43 (by decide) ?_
      refine lv_goto (tgt := 48) hx hb dX7_unload_44 (by decide) ?_
      refine lv_istore_n (lv' := [(3, .int 1), (0, .ref (Ax 0)), (1, .int p1), (2, .int p2)]) hx hb dX7_unload_48 rfl hl (by decide) rfl (fun ls hl => ?_)
      refine lv_aload_n hx hb dX7_unload_49 rfl (lv_at hl 1 rfl) ?_
      refine lv_iload_n hx hb dX7_unload_50 rfl (lv_at hl 2 rfl) ?_
      refine lv_iload_n hx hb dX7_unload_51 rfl (lv_at hl 0 rfl) ?_
      refine lv_if_eq (tgt := 59) hx hb dX7_unload_52 (by decide) (fun c5 => ?_) (fun c5 => ?_)
      · exact absurd c5 (by decide)
      · refine lv_iconst (v := 3) hx hb dX7_unload_55 (by decide) ?_
        refine lv_goto (tgt := 60) hx hb dX7_unload_56 (by decide) ?_
        refine kVw ⟨hx, hb, hml, hown, hts⟩ (c_X7_end l D Ax th ns fog nr nm nl (seM (seM (seM Lx p1 3 0) p1 5 (-1)) p1 4 p2) p1 3 (by assumption) (by assumption)) (cwV 2 hts gX7_unload_X7_end rfl rfl rfl (by decide +kernel) ⟨Nat.le_of_ble_eq_true rfl, Nat.le_of_ble_eq_true rfl⟩) hK hN hP hD hS frsMod 7 0 rfl rfl rfl hl.1 (Nat.le_of_ble_eq_true rfl) ⟨Nat.zero_le _, Nat.zero_le _⟩ dX7_unload_60 (fun H locs hP hD hS => ?_) rfl
        have hP : va_P D.1 vwCl (wMod D Ax th ns fog nr nm nl (endM (seM (seM (seM Lx p1 3 0) p1 5 (-1)) p1 4 p2) p1 3)) H := hP
        have hD : va_D A0 (wMod D Ax th ns fog nr nm nl (endM (seM (seM (seM Lx p1 3 0) p1 5 (-1)) p1 4 p2) p1 3)) := hD
        refine W.eq (g2 := F0 m 63 ls []) rfl ?_
        refine lv_iload_n hx hb dX7_unload_63 rfl (lv_at hl 0 rfl) ?_
        refine lv_if_ne (tgt := 71) hx hb dX7_unload_64 (by decide) (fun c6 => ?_) (fun c6 => ?_)
        · refine lv_iconst (v := 0) hx hb dX7_unload_71 (by decide) ?_
          exact eWz hx hb hr hlocks dX7_unload_72 hS hP (by (rw [unM, if_pos (show goM (layM Lx p1 p2) p1 = p2 from c1), if_pos (show leM (layM Lx p1 p2) p1 7 = 1 from c2)]; first | done | rfl)) (by (rw [unM, if_pos (show goM (layM Lx p1 p2) p1 = p2 from c1), if_pos (show leM (layM Lx p1 p2) p1 7 = 1 from c2)]; first | done | rfl))
        · exact absurd c6 (by decide)
  · refine lv_iconst (v := 0) hx hb dX7_unload_30 (by decide) ?_
    exact eWz hx hb hr hlocks dX7_unload_31 hS hP (by (rw [unM, if_neg (show ¬ goM (layM Lx p1 p2) p1 = p2 from c1)]; first | done | rfl)) (by (rw [unM, if_neg (show ¬ goM (layM Lx p1 p2) p1 = p2 from c1)]; first | done | rfl))

set_option maxHeartbeats 4000000 in
set_option maxRecDepth 100000 in
theorem c_X7_firstRoad (l : Launch) (D : GG) (Ax : Nat → Nat) (th : Int32) (ns : Nat) (fog : Int32) (nr : Nat) (nm : Nat) (nl : Nat) (Lx : Nat → Nat → Int32) (p1 : Int32) (p2 : Int32) (b10 : ns ≤ 10) (h1 : vd ns p1) (h2 : vd ns p2) : Met l yX7_firstRoad wsX7_firstRoad ({ frames := 0, cells := 0, slots := 0, locals := 0 } : Room) (va_Pc [.ref (Ax 0), .int p1, .int p2] (wd D (wMod D Ax th ns fog nr nm nl Lx))) (RP (.int (fiM Lx p1 p2))) 0 0 (fun _ => False) := by
  refine Met.ofW (cc := cX7_firstRoad) (maxL := 3) (ret := (some .int)) (by decide) rfl ?_
  intro p e s m args below meth c s₁ B hml hv
  obtain ⟨rfl, hP, hK, hD, hN⟩ := hv
  have hx := B.exec
  have hb := B.bytes
  have hr := B.returns
  have hts := atoms_spec (ws := wsX7_firstRoad) B.pre
  have hown : s.vm.findClass RX7 = some m.cls := findClass_of_methodNamed B.named
  have hlocks := B.notSynchronized
  have hinX7 : ∀ w ∈ u_ws RX7 TX7 14, w ∈ wsX7_firstRoad := by decide +kernel
  have hl := lv_entry ([.ref (Ax 0), .int p1, .int p2]) (n := 3) (Nat.le_of_ble_eq_true rfl)
  rw [lg_entry_eq]
  generalize (lg_sl ([.ref (Ax 0), .int p1, .int p2]) ++ List.replicate (3 - (lg_sl ([.ref (Ax 0), .int p1, .int p2])).length) Slot.unset).toArray = ls at hl ⊢
  have hl : lv_has ls 3 [(0, .ref (Ax 0)), (1, .int p1), (2, .int p2)] := hl
  refine lv_aload_n hx hb dX7_firstRoad_0 rfl (lv_at hl 0 rfl) ?_
  refine va_get (D := D.1) (ci := 7) (v := .ref (Ax 8)) (C := RX7) (T := TX7) (N := 14) hx hb hts hinX7 hown hK hP 0 rfl rfl 13 (by decide) (hts (.fieldLink RX7 31 "MountainPostModel" "first" "[I") (List.mem_of_getElem? (i := 1) rfl)) (fun _ h9 => h9) rfl dX7_firstRoad_1 ?_
  refine lv_bipush (v := 10) hx hb dX7_firstRoad_4 (by decide) ?_
  refine lv_iload_n hx hb dX7_firstRoad_6 rfl (lv_at hl 1 rfl) ?_
  refine lv_imul hx hb dX7_firstRoad_7 ?_
  refine lv_iload_n hx hb dX7_firstRoad_8 rfl (lv_at hl 2 rfl) ?_
  refine lv_iadd hx hb dX7_firstRoad_9 ?_
  refine va_iald (D := D.1) hx hb hK hP 8 0 rfl rfl (ixs h1 h2 b10) dX7_firstRoad_10 ?_
  rw [show ((Lx 7) ((10 * p1) + p2).toNatClampNeg) = (rg 100 (Lx 7) ((10 * p1) + p2)) from (rg_vp (ixs h1 h2 b10)).symm]
  exact eI hx hb hr hlocks dX7_firstRoad_11 (by rfl)

set_option maxHeartbeats 4000000 in
set_option maxRecDepth 100000 in
theorem c_X7_waitsFor (l : Launch) (D : GG) (Ax : Nat → Nat) (th : Int32) (ns : Nat) (fog : Int32) (nr : Nat) (nm : Nat) (nl : Nat) (Lx : Nat → Nat → Int32) (p1 : Int32) (p2 : Int32) (p3 : Int32) (b10 : ns ≤ 10) (b60 : nl ≤ 60) (hl1 : vd nl p1) (h2 : vd ns p2) (hg : okG Lx nl ns) : Met l yX7_waitsFor wsX7_waitsFor ({ frames := 2, cells := 0, slots := 0, locals := 43 } : Room) (va_Pc [.ref (Ax 0), .int p1, .int p2, .int p3] (wd D (wMod D Ax th ns fog nr nm nl Lx))) (RP (.int (z2 (wfM Lx p1 p2 p3)))) 0 0 (fun _ => False) := by
  refine Met.ofW (cc := cX7_waitsFor) (maxL := 4) (ret := (some .boolean)) (by decide) rfl ?_
  intro p e s m args below meth c s₁ B hml hv
  obtain ⟨rfl, hP, hK, hD, hN⟩ := hv
  have hx := B.exec
  have hb := B.bytes
  have hr := B.returns
  have hts := atoms_spec (ws := wsX7_waitsFor) B.pre
  have hown : s.vm.findClass RX7 = some m.cls := findClass_of_methodNamed B.named
  have hlocks := B.notSynchronized
  have hl := lv_entry ([.ref (Ax 0), .int p1, .int p2, .int p3]) (n := 4) (Nat.le_of_ble_eq_true rfl)
  rw [lg_entry_eq]
  generalize (lg_sl ([.ref (Ax 0), .int p1, .int p2, .int p3]) ++ List.replicate (4 - (lg_sl ([.ref (Ax 0), .int p1, .int p2, .int p3])).length) Slot.unset).toArray = ls at hl ⊢
  have hl : lv_has ls 4 [(0, .ref (Ax 0)), (1, .int p1), (2, .int p2), (3, .int p3)] := hl
  refine lv_aload_n hx hb dX7_waitsFor_0 rfl (lv_at hl 0 rfl) ?_
  refine lv_iload_n hx hb dX7_waitsFor_1 rfl (lv_at hl 1 rfl) ?_
  refine lv_iconst (v := 3) hx hb dX7_waitsFor_2 (by decide) ?_
  refine kVp ⟨hx, hb, hml, hown, hts⟩ (c_X7_le l D Ax th ns fog nr nm nl Lx p1 3 (ixl (by assumption) b60 3 (by decide))) (cwV 2 hts gX7_waitsFor_X7_le rfl rfl rfl (by decide +kernel) ⟨Nat.le_of_ble_eq_true rfl, Nat.le_of_ble_eq_true rfl⟩) hK hN hP hD Sb.self 7 0 rfl rfl rfl hl.1 (Nat.le_of_ble_eq_true rfl) ⟨Nat.zero_le _, Nat.zero_le _⟩ dX7_waitsFor_3 ?_ rfl
  refine lv_if_ne (tgt := 37) hx hb dX7_waitsFor_6 (by decide) (fun c1 => ?_) (fun c1 => ?_)
  · refine lv_iconst (v := 0) hx hb dX7_waitsFor_37 (by decide) ?_
    exact eZ hx hb hr hlocks dX7_waitsFor_38 (by simp [wfM, z2, c1])
  · refine lv_aload_n hx hb dX7_waitsFor_9 rfl (lv_at hl 0 rfl) ?_
    refine lv_iload_n hx hb dX7_waitsFor_10 rfl (lv_at hl 1 rfl) ?_
    refine lv_iconst (v := 4) hx hb dX7_waitsFor_11 (by decide) ?_
    refine kVp ⟨hx, hb, hml, hown, hts⟩ (c_X7_le l D Ax th ns fog nr nm nl Lx p1 4 (ixl (by assumption) b60 4 (by decide))) (cwV 2 hts gX7_waitsFor_X7_le rfl rfl rfl (by decide +kernel) ⟨Nat.le_of_ble_eq_true rfl, Nat.le_of_ble_eq_true rfl⟩) hK hN hP hD Sb.self 7 0 rfl rfl rfl hl.1 (Nat.le_of_ble_eq_true rfl) ⟨Nat.zero_le _, Nat.zero_le _⟩ dX7_waitsFor_12 ?_ rfl
    refine lv_iload_n hx hb dX7_waitsFor_15 rfl (lv_at hl 2 rfl) ?_
    refine lv_icmp_ne (tgt := 37) hx hb dX7_waitsFor_16 (by decide) (fun c2 => ?_) (fun c2 => ?_)
    · refine lv_iconst (v := 0) hx hb dX7_waitsFor_37 (by decide) ?_
      exact eZ hx hb hr hlocks dX7_waitsFor_38 (by simp [wfM, z2, c1, c2])
    · refine lv_aload_n hx hb dX7_waitsFor_19 rfl (lv_at hl 0 rfl) ?_
      refine lv_iload_n hx hb dX7_waitsFor_20 rfl (lv_at hl 2 rfl) ?_
      refine lv_aload_n hx hb dX7_waitsFor_21 rfl (lv_at hl 0 rfl) ?_
      refine lv_iload_n hx hb dX7_waitsFor_22 rfl (lv_at hl 1 rfl) ?_
      refine kVp ⟨hx, hb, hml, hown, hts⟩ (c_X7_goal l D Ax th ns fog nr nm nl Lx p1 (by assumption) (by assumption)) (cwV 1 hts gX7_waitsFor_X7_goal rfl rfl rfl (by decide +kernel) ⟨Nat.le_of_ble_eq_true rfl, Nat.le_of_ble_eq_true rfl⟩) hK hN hP hD Sb.self 7 0 rfl rfl rfl hl.1 (Nat.le_of_ble_eq_true rfl) ⟨Nat.zero_le _, Nat.zero_le _⟩ dX7_waitsFor_23 ?_ rfl
      refine kVp ⟨hx, hb, hml, hown, hts⟩ (c_X7_firstRoad l D Ax th ns fog nr nm nl Lx p2 (goM Lx p1) (by assumption) h2 (hg _ hl1)) (cwV 2 hts gX7_waitsFor_X7_firstRoad rfl rfl rfl (by decide +kernel) ⟨Nat.le_of_ble_eq_true rfl, Nat.le_of_ble_eq_true rfl⟩) hK hN hP hD Sb.self 7 0 rfl rfl rfl hl.1 (Nat.le_of_ble_eq_true rfl) ⟨Nat.zero_le _, Nat.zero_le _⟩ dX7_waitsFor_26 ?_ rfl
      refine lv_iload_n hx hb dX7_waitsFor_29 rfl (lv_at hl 3 rfl) ?_
      refine lv_icmp_ne (tgt := 37) hx hb dX7_waitsFor_30 (by decide) (fun c3 => ?_) (fun c3 => ?_)
      · refine lv_iconst (v := 0) hx hb dX7_waitsFor_37 (by decide) ?_
        exact eZ hx hb hr hlocks dX7_waitsFor_38 (by simp [wfM, z2, c1, c2, c3])
      · refine lv_iconst (v := 1) hx hb dX7_waitsFor_33 (by decide) ?_
        refine lv_goto (tgt := 38) hx hb dX7_waitsFor_34 (by decide) ?_
        exact eZ hx hb hr hlocks dX7_waitsFor_38 (by simp [wfM, z2, c1, c2, c3])

set_option maxHeartbeats 4000000 in
set_option maxRecDepth 100000 in
theorem c_X7_next (l : Launch) (D : GG) (Ax : Nat → Nat) (th : Int32) (ns : Nat) (fog : Int32) (nr : Nat) (nm : Nat) (nl : Nat) (Lx : Nat → Nat → Int32) (p1 : Int32) (p2 : Int32) (b10 : ns ≤ 10) (b60 : nl ≤ 60) (h1 : vd ns p1) (hg : okG Lx nl ns) : Met l yX7_next wsX7_next ({ frames := 3, cells := 0, slots := 0, locals := 66 } : Room) (va_Pc [.ref (Ax 0), .int p1, .int p2] (wd D (wMod D Ax th ns fog nr nm nl Lx))) (RP (.int (nxF Lx p1 p2 nl))) 0 0 (fun _ => False) := by
  refine Met.ofW (cc := cX7_next) (maxL := 5) (ret := (some .int)) (by decide) rfl ?_
  intro p e s m args below meth c s₁ B hml hv
  obtain ⟨rfl, hP, hK, hD, hN⟩ := hv
  have hx := B.exec
  have hb := B.bytes
  have hr := B.returns
  have hts := atoms_spec (ws := wsX7_next) B.pre
  have hown : s.vm.findClass RX7 = some m.cls := findClass_of_methodNamed B.named
  have hlocks := B.notSynchronized
  have hinX7 : ∀ w ∈ u_ws RX7 TX7 14, w ∈ wsX7_next := by decide +kernel
  have hl := lv_entry ([.ref (Ax 0), .int p1, .int p2]) (n := 5) (Nat.le_of_ble_eq_true rfl)
  rw [lg_entry_eq]
  generalize (lg_sl ([.ref (Ax 0), .int p1, .int p2]) ++ List.replicate (5 - (lg_sl ([.ref (Ax 0), .int p1, .int p2])).length) Slot.unset).toArray = ls at hl ⊢
  have hl : lv_has ls 5 [(0, .ref (Ax 0)), (1, .int p1), (2, .int p2)] := hl
  refine lv_iconst (v := (-1)) hx hb dX7_next_0 (by decide) ?_
  refine lv_istore_n (lv' := [(3, .int (-1)), (0, .ref (Ax 0)), (1, .int p1), (2, .int p2)]) hx hb dX7_next_1 rfl hl (by decide) rfl (fun ls hl => ?_)
  refine lv_iconst (v := 0) hx hb dX7_next_2 (by decide) ?_
  refine lv_istore (lv' := [(4, .int 0), (3, .int (-1)), (0, .ref (Ax 0)), (1, .int p1), (2, .int p2)]) hx hb dX7_next_3 hl (by decide) rfl (fun ls hl => ?_)
  have lp1 : ∀ (j1 : Nat) (k1 : Nat) (hk1 : k1 + j1 = nl) (x4_1 : Int32) (e4_1 : x4_1 = (nI k1)) (x3_1 : Int32) (e3_1 : x3_1 = (nxF Lx p1 p2 k1)) (ls : Array Slot) (hl : lv_has ls 5 [(4, .int x4_1), (3, .int x3_1), (0, .ref (Ax 0)), (1, .int p1), (2, .int p2)]), W p l e (headSpec wsX7_next ({ frames := 3, cells := 0, slots := 0, locals := 66 } : Room)).room s m ([.ref (Ax 0), .int p1, .int p2] : List Value).toArray below meth c s.heap [] 0 0 (MQ below (RP (.int (nxF Lx p1 p2 nl))) ([.ref (Ax 0), .int p1, .int p2] : List Value).toArray s 0 0 (fun _ => False)) (F0 m 5 ls []) := by
    intro j1
    induction j1 with
    | zero =>
      intro k1 hk1 x4_1 e4_1 x3_1 e3_1   ls hl
      subst e4_1 e3_1
      have hkN1 : nl = k1 := (by omega)
      subst hkN1
      refine lv_iload hx hb dX7_next_5 (lv_at hl 0 rfl) ?_
      refine lv_aload_n hx hb dX7_next_7 rfl (lv_at hl 2 rfl) ?_
      refine va_get (D := D.1) (ci := 7) (v := .int (nI nl)) (C := RX7) (T := TX7) (N := 14) hx hb hts hinX7 hown hK hP 0 rfl rfl 8 (by decide) (hts (.fieldLink RX7 48 "MountainPostModel" "letters" "I") (List.mem_of_getElem? (i := 1) rfl)) (fun _ h9 => h9) rfl dX7_next_8 ?_
      refine lv_icmp_ge (tgt := 55) hx hb dX7_next_11 (by decide) (fun c2 => ?_) (fun c2 => ?_)
      · refine lv_iload_n hx hb dX7_next_55 rfl (lv_at hl 1 rfl) ?_
        exact eI hx hb hr hlocks dX7_next_56 (by rfl)
      · exact (up0 rfl c2).elim
    | succ j1 ih =>
      intro k1 hk1 x4_1 e4_1 x3_1 e3_1   ls hl
      subst e4_1 e3_1
      have hlt1 : k1 < nl := by omega
      have hlt : k1 < nl := hlt1
      refine lv_iload hx hb dX7_next_5 (lv_at hl 0 rfl) ?_
      refine lv_aload_n hx hb dX7_next_7 rfl (lv_at hl 2 rfl) ?_
      refine va_get (D := D.1) (ci := 7) (v := .int (nI nl)) (C := RX7) (T := TX7) (N := 14) hx hb hts hinX7 hown hK hP 0 rfl rfl 8 (by decide) (hts (.fieldLink RX7 48 "MountainPostModel" "letters" "I") (List.mem_of_getElem? (i := 1) rfl)) (fun _ h9 => h9) rfl dX7_next_8 ?_
      refine lv_icmp_ge (tgt := 55) hx hb dX7_next_11 (by decide) (fun c3 => ?_) (fun c3 => ?_)
      · exact (upS hk1 (by omega) c3).elim
      · refine lv_aload_n hx hb dX7_next_14 rfl (lv_at hl 2 rfl) ?_
        refine lv_iload hx hb dX7_next_15 (lv_at hl 0 rfl) ?_
        refine lv_iload_n hx hb dX7_next_17 rfl (lv_at hl 3 rfl) ?_
        refine lv_iload_n hx hb dX7_next_18 rfl (lv_at hl 4 rfl) ?_
        refine kVp ⟨hx, hb, hml, hown, hts⟩ (c_X7_waitsFor l D Ax th ns fog nr nm nl Lx (nI k1) p1 p2 (by assumption) (by assumption) (vd_k hlt) h1 (by assumption)) (cwV 3 hts gX7_next_X7_waitsFor rfl rfl rfl (by decide +kernel) ⟨Nat.le_of_ble_eq_true rfl, Nat.le_of_ble_eq_true rfl⟩) hK hN hP hD Sb.self 7 0 rfl rfl rfl hl.1 (Nat.le_of_ble_eq_true rfl) ⟨Nat.zero_le _, Nat.zero_le _⟩ dX7_next_19 ?_ rfl
        refine lv_if_eq (tgt := 49) hx hb dX7_next_22 (by decide) (fun c4 => ?_) (fun c4 => ?_)
        · have c4 := z2_0.mp c4
          refine lv_iinc (v := ((nI k1) + 1)) (lv' := [(4, .int ((nI k1) + 1)), (3, .int (nxF Lx p1 p2 k1)), (0, .ref (Ax 0)), (1, .int p1), (2, .int p2)]) hx hb dX7_next_49 hl (k := 0) rfl rfl (by decide) rfl (fun ls hl => ?_)
          refine lv_goto (tgt := 5) hx hb dX7_next_52 (by decide) ?_
          exact ih (k1 + 1) (by omega) _ (nI_1 k1) _ (by (rw [nxF, if_neg c4]; first | done | rfl)) ls (lv_sub hl [0, 1, 2, 3, 4] rfl)
        · have c4 := z2_n.mp c4
          refine lv_iload_n hx hb dX7_next_25 rfl (lv_at hl 1 rfl) ?_
          refine lv_iconst (v := (-1)) hx hb dX7_next_26 (by decide) ?_
          refine lv_icmp_eq (tgt := 46) hx hb dX7_next_27 (by decide) (fun c5 => ?_) (fun c5 => ?_)
          · refine lv_iload hx hb dX7_next_46 (lv_at hl 0 rfl) ?_
            refine lv_istore_n (lv' := [(3, .int (nI k1)), (4, .int (nI k1)), (0, .ref (Ax 0)), (1, .int p1), (2, .int p2)]) hx hb dX7_next_48 rfl hl (by decide) rfl (fun ls hl => ?_)
            refine lv_iinc (v := ((nI k1) + 1)) (lv' := [(4, .int ((nI k1) + 1)), (3, .int (nI k1)), (0, .ref (Ax 0)), (1, .int p1), (2, .int p2)]) hx hb dX7_next_49 hl (k := 1) rfl rfl (by decide) rfl (fun ls hl => ?_)
            refine lv_goto (tgt := 5) hx hb dX7_next_52 (by decide) ?_
            exact ih (k1 + 1) (by omega) _ (nI_1 k1) _ (by (rw [nxF, if_pos c4, if_pos c5]; first | done | rfl)) ls (lv_sub hl [0, 1, 2, 3, 4] rfl)
          · refine lv_aload_n hx hb dX7_next_30 rfl (lv_at hl 2 rfl) ?_
            refine lv_iload hx hb dX7_next_31 (lv_at hl 0 rfl) ?_
            refine lv_iconst (v := 2) hx hb dX7_next_33 (by decide) ?_
            refine kVp ⟨hx, hb, hml, hown, hts⟩ (c_X7_le l D Ax th ns fog nr nm nl Lx (nI k1) 2 (ixl (vd_k (by omega)) b60 2 (by decide))) (cwV 2 hts gX7_next_X7_le rfl rfl rfl (by decide +kernel) ⟨Nat.le_of_ble_eq_true rfl, Nat.le_of_ble_eq_true rfl⟩) hK hN hP hD Sb.self 7 0 rfl rfl rfl hl.1 (Nat.le_of_ble_eq_true rfl) ⟨Nat.zero_le _, Nat.zero_le _⟩ dX7_next_34 ?_ rfl
            refine lv_aload_n hx hb dX7_next_37 rfl (lv_at hl 2 rfl) ?_
            refine lv_iload_n hx hb dX7_next_38 rfl (lv_at hl 1 rfl) ?_
            refine lv_iconst (v := 2) hx hb dX7_next_39 (by decide) ?_
            refine kVp ⟨hx, hb, hml, hown, hts⟩ (c_X7_le l D Ax th ns fog nr nm nl Lx (nxF Lx p1 p2 k1) 2 (ixl (nxF_in c5 (Nat.le_of_lt hlt)) b60 2 (by decide))) (cwV 2 hts gX7_next_X7_le rfl rfl rfl (by decide +kernel) ⟨Nat.le_of_ble_eq_true rfl, Nat.le_of_ble_eq_true rfl⟩) hK hN hP hD Sb.self 7 0 rfl rfl rfl hl.1 (Nat.le_of_ble_eq_true rfl) ⟨Nat.zero_le _, Nat.zero_le _⟩ dX7_next_40 ?_ rfl
            refine lv_icmp_le (tgt := 49) hx hb dX7_next_43 (by decide) (fun c6 => ?_) (fun c6 => ?_)
            · refine lv_iinc (v := ((nI k1) + 1)) (lv' := [(4, .int ((nI k1) + 1)), (3, .int (nxF Lx p1 p2 k1)), (0, .ref (Ax 0)), (1, .int p1), (2, .int p2)]) hx hb dX7_next_49 hl (k := 0) rfl rfl (by decide) rfl (fun ls hl => ?_)
              refine lv_goto (tgt := 5) hx hb dX7_next_52 (by decide) ?_
              exact ih (k1 + 1) (by omega) _ (nI_1 k1) _ (by (rw [nxF, if_pos c4, if_neg c5, if_pos c6]; first | done | rfl)) ls (lv_sub hl [0, 1, 2, 3, 4] rfl)
            · refine lv_iload hx hb dX7_next_46 (lv_at hl 0 rfl) ?_
              refine lv_istore_n (lv' := [(3, .int (nI k1)), (4, .int (nI k1)), (0, .ref (Ax 0)), (1, .int p1), (2, .int p2)]) hx hb dX7_next_48 rfl hl (by decide) rfl (fun ls hl => ?_)
              refine lv_iinc (v := ((nI k1) + 1)) (lv' := [(4, .int ((nI k1) + 1)), (3, .int (nI k1)), (0, .ref (Ax 0)), (1, .int p1), (2, .int p2)]) hx hb dX7_next_49 hl (k := 1) rfl rfl (by decide) rfl (fun ls hl => ?_)
              refine lv_goto (tgt := 5) hx hb dX7_next_52 (by decide) ?_
              exact ih (k1 + 1) (by omega) _ (nI_1 k1) _ (by (rw [nxF, if_pos c4, if_neg c5, if_neg c6]; first | done | rfl)) ls (lv_sub hl [0, 1, 2, 3, 4] rfl)
  exact lp1 nl 0 (by omega) _ nI_0.symm _ rfl ls (lv_sub hl [0, 1, 2, 3, 4] rfl)
