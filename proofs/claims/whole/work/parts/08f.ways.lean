set_option maxHeartbeats 4000000 in
set_option maxRecDepth 100000 in
theorem c_X5_hoursOf (l : Launch) (D : GG) (Aw : Nat → Nat) (Lw : Nat → Nat → Int32) (p1 : Int32) (p2 : Int32)  : Met l yX5_hoursOf wsX5_hoursOf ({ frames := 1, cells := 0, slots := 0, locals := 21 } : Room) (va_Pc [.ref (Aw 0), .int p1, .int p2] (wd D (wWays D Aw Lw))) (RP (.int (hoC Lw p1 p2))) 0 0 (fun _ => False) := by
  refine Met.ofW (cc := cX5_hoursOf) (maxL := 3) (ret := (some .int)) (by decide) rfl ?_
  intro p e s m args below meth c s₁ B hml hv
  obtain ⟨rfl, hP, hK, hD, hN⟩ := hv
  have hx := B.exec
  have hb := B.bytes
  have hr := B.returns
  have hts := atoms_spec (ws := wsX5_hoursOf) B.pre
  have hown : s.vm.findClass RX5 = some m.cls := findClass_of_methodNamed B.named
  have hlocks := B.notSynchronized
  have hinX5 : ∀ w ∈ u_ws RX5 TX5 2, w ∈ wsX5_hoursOf := by decide +kernel
  have hl := lv_entry ([.ref (Aw 0), .int p1, .int p2]) (n := 3) (Nat.le_of_ble_eq_true rfl)
  rw [lg_entry_eq]
  generalize (lg_sl ([.ref (Aw 0), .int p1, .int p2]) ++ List.replicate (3 - (lg_sl ([.ref (Aw 0), .int p1, .int p2])).length) Slot.unset).toArray = ls at hl ⊢
  have hl : lv_has ls 3 [(0, .ref (Aw 0)), (1, .int p1), (2, .int p2)] := hl
  refine lv_aload_n hx hb dX5_hoursOf_0 rfl (lv_at hl 0 rfl) ?_
  refine va_get (D := D.1) (ci := 5) (v := .ref (Aw 1)) (C := RX5) (T := TX5) (N := 2) hx hb hts hinX5 hown hK hP 0 rfl rfl 0 (by decide) (hts (.fieldLink RX5 14 "MountainPost$Ways" "hours" "LMountainPost$Row;") (List.mem_of_getElem? (i := 1) rfl)) (fun _ h9 => h9) rfl dX5_hoursOf_1 ?_
  refine lv_iload_n hx hb dX5_hoursOf_4 rfl (lv_at hl 1 rfl) ?_
  refine lv_bipush (v := 10) hx hb dX5_hoursOf_5 (by decide) ?_
  refine lv_imul hx hb dX5_hoursOf_7 ?_
  refine lv_iload_n hx hb dX5_hoursOf_8 rfl (lv_at hl 2 rfl) ?_
  refine lv_iadd hx hb dX5_hoursOf_9 ?_
  refine kVp ⟨hx, hb, hml, hown, hts⟩ (c_X3_get l D (Aw 1) (Aw 3) 100 (Lw 0) ((p1 * 10) + p2) (by decide)) (cwV 1 hts gX5_hoursOf_X3_get rfl rfl rfl (by decide +kernel) ⟨Nat.le_of_ble_eq_true rfl, Nat.le_of_ble_eq_true rfl⟩) hK hN hP hD sbWays0 3 0 rfl rfl rfl hl.1 (Nat.le_of_ble_eq_true rfl) ⟨Nat.zero_le _, Nat.zero_le _⟩ dX5_hoursOf_10 ?_ rfl
  exact eI hx hb hr hlocks dX5_hoursOf_13 (by rfl)

set_option maxHeartbeats 4000000 in
set_option maxRecDepth 100000 in
theorem c_X5_firstRoad (l : Launch) (D : GG) (Aw : Nat → Nat) (Lw : Nat → Nat → Int32) (p1 : Int32) (p2 : Int32)  : Met l yX5_firstRoad wsX5_firstRoad ({ frames := 1, cells := 0, slots := 0, locals := 21 } : Room) (va_Pc [.ref (Aw 0), .int p1, .int p2] (wd D (wWays D Aw Lw))) (RP (.int (fiC Lw p1 p2))) 0 0 (fun _ => False) := by
  refine Met.ofW (cc := cX5_firstRoad) (maxL := 3) (ret := (some .int)) (by decide) rfl ?_
  intro p e s m args below meth c s₁ B hml hv
  obtain ⟨rfl, hP, hK, hD, hN⟩ := hv
  have hx := B.exec
  have hb := B.bytes
  have hr := B.returns
  have hts := atoms_spec (ws := wsX5_firstRoad) B.pre
  have hown : s.vm.findClass RX5 = some m.cls := findClass_of_methodNamed B.named
  have hlocks := B.notSynchronized
  have hinX5 : ∀ w ∈ u_ws RX5 TX5 2, w ∈ wsX5_firstRoad := by decide +kernel
  have hl := lv_entry ([.ref (Aw 0), .int p1, .int p2]) (n := 3) (Nat.le_of_ble_eq_true rfl)
  rw [lg_entry_eq]
  generalize (lg_sl ([.ref (Aw 0), .int p1, .int p2]) ++ List.replicate (3 - (lg_sl ([.ref (Aw 0), .int p1, .int p2])).length) Slot.unset).toArray = ls at hl ⊢
  have hl : lv_has ls 3 [(0, .ref (Aw 0)), (1, .int p1), (2, .int p2)] := hl
  refine lv_aload_n hx hb dX5_firstRoad_0 rfl (lv_at hl 0 rfl) ?_
  refine va_get (D := D.1) (ci := 5) (v := .ref (Aw 2)) (C := RX5) (T := TX5) (N := 2) hx hb hts hinX5 hown hK hP 0 rfl rfl 1 (by decide) (hts (.fieldLink RX5 20 "MountainPost$Ways" "firsts" "LMountainPost$Row;") (List.mem_of_getElem? (i := 1) rfl)) (fun _ h9 => h9) rfl dX5_firstRoad_1 ?_
  refine lv_iload_n hx hb dX5_firstRoad_4 rfl (lv_at hl 1 rfl) ?_
  refine lv_bipush (v := 10) hx hb dX5_firstRoad_5 (by decide) ?_
  refine lv_imul hx hb dX5_firstRoad_7 ?_
  refine lv_iload_n hx hb dX5_firstRoad_8 rfl (lv_at hl 2 rfl) ?_
  refine lv_iadd hx hb dX5_firstRoad_9 ?_
  refine kVp ⟨hx, hb, hml, hown, hts⟩ (c_X3_get l D (Aw 2) (Aw 4) 100 (Lw 1) ((p1 * 10) + p2) (by decide)) (cwV 1 hts gX5_firstRoad_X3_get rfl rfl rfl (by decide +kernel) ⟨Nat.le_of_ble_eq_true rfl, Nat.le_of_ble_eq_true rfl⟩) hK hN hP hD sbWays1 3 0 rfl rfl rfl hl.1 (Nat.le_of_ble_eq_true rfl) ⟨Nat.zero_le _, Nat.zero_le _⟩ dX5_firstRoad_10 ?_ rfl
  exact eI hx hb hr hlocks dX5_firstRoad_13 (by rfl)

set_option maxHeartbeats 4000000 in
set_option maxRecDepth 100000 in
theorem c_X5_shorten (l : Launch) (D : GG) (Aw : Nat → Nat) (Lw : Nat → Nat → Int32) (p1 : Int32) (p2 : Int32) (p3 : Int32)  : Met l yX5_shorten wsX5_shorten ({ frames := 2, cells := 0, slots := 0, locals := 43 } : Room) (va_Pc [.ref (Aw 0), .int p1, .int p2, .int p3] (wd D (wWays D Aw Lw))) (QW D none (wWays D Aw (shoC Lw p1 p2 p3)) (own (wWays D Aw Lw))) 0 0 (own (wWays D Aw Lw)) := by
  refine Met.ofW (cc := cX5_shorten) (maxL := 4) (ret := none) (by decide) rfl ?_
  intro p e s m args below meth c s₁ B hml hv
  obtain ⟨rfl, hP, hK, hD, hN⟩ := hv
  have hx := B.exec
  have hb := B.bytes
  have hr := B.returns
  have hts := atoms_spec (ws := wsX5_shorten) B.pre
  have hown : s.vm.findClass RX5 = some m.cls := findClass_of_methodNamed B.named
  have hlocks := B.notSynchronized
  have hinX5 : ∀ w ∈ u_ws RX5 TX5 2, w ∈ wsX5_shorten := by decide +kernel
  have hS : va_S (own (wWays D Aw Lw)) s.heap s.heap [] := va_S.rf
  have hD : va_D (own (wWays D Aw Lw)) (wWays D Aw Lw) := toOwn hD
  generalize hAe : own (wWays D Aw Lw) = A0 at hD hS ⊢
  have hl := lv_entry ([.ref (Aw 0), .int p1, .int p2, .int p3]) (n := 4) (Nat.le_of_ble_eq_true rfl)
  rw [lg_entry_eq]
  generalize (lg_sl ([.ref (Aw 0), .int p1, .int p2, .int p3]) ++ List.replicate (4 - (lg_sl ([.ref (Aw 0), .int p1, .int p2, .int p3])).length) Slot.unset).toArray = ls at hl ⊢
  have hl : lv_has ls 4 [(0, .ref (Aw 0)), (1, .int p1), (2, .int p2), (3, .int p3)] := hl
  refine lv_iload_n hx hb dX5_shorten_0 rfl (lv_at hl 3 rfl) ?_
  refine lv_aload_n hx hb dX5_shorten_1 rfl (lv_at hl 0 rfl) ?_
  refine lv_iload_n hx hb dX5_shorten_2 rfl (lv_at hl 1 rfl) ?_
  refine lv_iload_n hx hb dX5_shorten_3 rfl (lv_at hl 2 rfl) ?_
  refine kVp ⟨hx, hb, hml, hown, hts⟩ (c_X5_hoursOf l D Aw Lw p1 p2) (cwV 2 hts gX5_shorten_X5_hoursOf rfl rfl rfl (by decide +kernel) ⟨Nat.le_of_ble_eq_true rfl, Nat.le_of_ble_eq_true rfl⟩) hK hN hP hD Sb.self 5 0 rfl rfl rfl hl.1 (Nat.le_of_ble_eq_true rfl) ⟨Nat.zero_le _, Nat.zero_le _⟩ dX5_shorten_4 ?_ rfl
  refine lv_icmp_ge (tgt := 24) hx hb dX5_shorten_7 (by decide) (fun c1 => ?_) (fun c1 => ?_)
  · exact eWv hx hb hr hlocks dX5_shorten_24 hS hP (by first | (rw [shoC, if_pos (by assumption)]; first | done | rfl) | (rw [shoC, if_neg (by assumption)]; first | done | rfl))
  · refine lv_aload_n hx hb dX5_shorten_10 rfl (lv_at hl 0 rfl) ?_
    refine va_get (D := D.1) (ci := 5) (v := .ref (Aw 1)) (C := RX5) (T := TX5) (N := 2) hx hb hts hinX5 hown hK hP 0 rfl rfl 0 (by decide) (hts (.fieldLink RX5 14 "MountainPost$Ways" "hours" "LMountainPost$Row;") (List.mem_of_getElem? (i := 1) rfl)) (fun _ h9 => h9) rfl dX5_shorten_11 ?_
    refine lv_iload_n hx hb dX5_shorten_14 rfl (lv_at hl 1 rfl) ?_
    refine lv_bipush (v := 10) hx hb dX5_shorten_15 (by decide) ?_
    refine lv_imul hx hb dX5_shorten_17 ?_
    refine lv_iload_n hx hb dX5_shorten_18 rfl (lv_at hl 2 rfl) ?_
    refine lv_iadd hx hb dX5_shorten_19 ?_
    refine lv_iload_n hx hb dX5_shorten_20 rfl (lv_at hl 3 rfl) ?_
    refine kVw ⟨hx, hb, hml, hown, hts⟩ (c_X3_set l D (Aw 1) (Aw 3) 100 (Lw 0) ((p1 * 10) + p2) p3 (by decide)) (cwV 2 hts gX5_shorten_X3_set rfl rfl rfl (by decide +kernel) ⟨Nat.le_of_ble_eq_true rfl, Nat.le_of_ble_eq_true rfl⟩) hK hN hP hD hS frWays0 3 0 rfl rfl rfl hl.1 (Nat.le_of_ble_eq_true rfl) ⟨Nat.zero_le _, Nat.zero_le _⟩ dX5_shorten_21 (fun H locs hP hD hS => ?_) rfl
    have hP : va_P D.1 vwCl (wWays D Aw (sr Lw 0 (rs 100 (Lw 0) ((p1 * 10) + p2) p3))) H := hP
    have hD : va_D A0 (wWays D Aw (sr Lw 0 (rs 100 (Lw 0) ((p1 * 10) + p2) p3))) := hD
    refine W.eq (g2 := F0 m 24 ls []) rfl ?_
    exact eWv hx hb hr hlocks dX5_shorten_24 hS hP (by first | (rw [shoC, if_pos (by assumption)]; first | done | rfl) | (rw [shoC, if_neg (by assumption)]; first | done | rfl))
