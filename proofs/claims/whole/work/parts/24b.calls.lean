set_option maxHeartbeats 4000000 in
set_option maxRecDepth 100000 in
theorem c_X7_count (l : Launch) (D : GG) (Ax : Nat → Nat) (th : Int32) (ns : Nat) (fog : Int32) (nr : Nat) (nm : Nat) (nl : Nat) (Lx : Nat → Nat → Int32) (p1 : Int32) (b10 : ns ≤ 10) (b15 : nr ≤ 15) (b12 : nm ≤ 12) (b60 : nl ≤ 60) : Met l yX7_count wsX7_count ({ frames := 3, cells := 0, slots := 0, locals := 68 } : Room) (va_Pc [.ref (Ax 0), .int p1] (wd D (wMod D Ax th ns fog nr nm nl Lx))) (QW D (some (.int ((ctM Lx ns nr nm nl p1).1))) (wMod D Ax ((ctM Lx ns nr nm nl p1).2) ns fog nr nm nl Lx) (own (wMod D Ax th ns fog nr nm nl Lx))) 0 0 (own (wMod D Ax th ns fog nr nm nl Lx)) := by
  refine Met.ofW (cc := cX7_count) (maxL := 2) (ret := (some .int)) (by decide) rfl ?_
  intro p e s m args below meth c s₁ B hml hv
  obtain ⟨rfl, hP, hK, hD, hN⟩ := hv
  have hx := B.exec
  have hb := B.bytes
  have hr := B.returns
  have hts := atoms_spec (ws := wsX7_count) B.pre
  have hown : s.vm.findClass RX7 = some m.cls := findClass_of_methodNamed B.named
  have hlocks := B.notSynchronized
  have hinX7 : ∀ w ∈ u_ws RX7 TX7 14, w ∈ wsX7_count := by decide +kernel
  have hS : va_S (own (wMod D Ax th ns fog nr nm nl Lx)) s.heap s.heap [] := va_S.rf
  have hD : va_D (own (wMod D Ax th ns fog nr nm nl Lx)) (wMod D Ax th ns fog nr nm nl Lx) := toOwn hD
  generalize hAe : own (wMod D Ax th ns fog nr nm nl Lx) = A0 at hD hS ⊢
  have hl := lv_entry ([.ref (Ax 0), .int p1]) (n := 2) (Nat.le_of_ble_eq_true rfl)
  rw [lg_entry_eq]
  generalize (lg_sl ([.ref (Ax 0), .int p1]) ++ List.replicate (2 - (lg_sl ([.ref (Ax 0), .int p1])).length) Slot.unset).toArray = ls at hl ⊢
  have hl : lv_has ls 2 [(0, .ref (Ax 0)), (1, .int p1)] := hl
  refine lv_aload_n hx hb dX7_count_0 rfl (lv_at hl 0 rfl) ?_
  refine lv_iconst (v := 0) hx hb dX7_count_1 (by decide) ?_
  refine va_put (D := D.1) (ci := 7) (v := .int 0) (ty := .int) (C := RX7) (T := TX7) (N := 14) hx hb hts hinX7 tyX7 tyX7_ok nmX7 hown hK hP hD hS 0 rfl rfl 0 (by decide) (hts (.fieldLink RX7 34 "MountainPostModel" "thrown" "I") (List.mem_of_getElem? (i := 1) rfl)) (fun _ h9 => h9) rfl (by decide +kernel) rfl rfl (Nat.le_of_ble_eq_true rfl) dX7_count_2 (fun H locs hP hD hS => ?_)
  have hP : va_P D.1 vwCl (wMod D Ax 0 ns fog nr nm nl Lx) H := hP
  have hD : va_D A0 (wMod D Ax 0 ns fog nr nm nl Lx) := hD
  refine lv_iload_n hx hb dX7_count_5 rfl (lv_at hl 1 rfl) ?_
  refine lv_iconst (v := 0) hx hb dX7_count_6 (by decide) ?_
  refine lv_bipush (v := 9) hx hb dX7_count_7 (by decide) ?_
  refine kSp ⟨hx, hb, hml, hown, hts⟩ (c_X7_isIn l D p1 0 9) (va_cwS 3 hts gX7_count_X7_isIn rfl rfl rfl (by decide +kernel) ⟨Nat.le_of_ble_eq_true rfl, Nat.le_of_ble_eq_true rfl⟩) hK hN hP hD Sb.nil  rfl hl.1 (Nat.le_of_ble_eq_true rfl) ⟨Nat.zero_le _, Nat.zero_le _⟩ dX7_count_9 ?_ rfl
  refine lv_if_eq (tgt := 23) hx hb dX7_count_12 (by decide) (fun c1 => ?_) (fun c1 => ?_)
  · have c1 := z2_0.mp c1
    refine lv_aload_n hx hb dX7_count_23 rfl (lv_at hl 0 rfl) ?_
    refine lv_iconst (v := 1) hx hb dX7_count_24 (by decide) ?_
    refine kVw ⟨hx, hb, hml, hown, hts⟩ (c_X7_fail l D Ax 0 ns fog nr nm nl Lx 1) (cwV 1 hts gX7_count_X7_fail rfl rfl rfl (by decide +kernel) ⟨Nat.le_of_ble_eq_true rfl, Nat.le_of_ble_eq_true rfl⟩) hK hN hP hD hS frsMod 7 0 rfl rfl rfl hl.1 (Nat.le_of_ble_eq_true rfl) ⟨Nat.zero_le _, Nat.zero_le _⟩ dX7_count_25 (fun H locs hP hD hS => ?_) rfl
    have hP : va_P D.1 vwCl (wMod D Ax 1 ns fog nr nm nl Lx) H := hP
    have hD : va_D A0 (wMod D Ax 1 ns fog nr nm nl Lx) := hD
    refine W.eq (g2 := F0 m 28 ls [.int 0]) rfl ?_
    exact eWi hx hb hr hlocks dX7_count_28 hS hP (by (rw [ctM, if_neg c1]; first | done | rw [z2, if_pos (by assumption)] | rw [z2, if_neg (by assumption)] | rfl)) (by (rw [ctM, if_neg c1]; first | done | rw [z2, if_pos (by assumption)] | rw [z2, if_neg (by assumption)] | rfl))
  · have c1 := z2_n.mp c1
    refine lv_aload_n hx hb dX7_count_15 rfl (lv_at hl 0 rfl) ?_
    refine lv_iload_n hx hb dX7_count_16 rfl (lv_at hl 1 rfl) ?_
    refine kVp ⟨hx, hb, hml, hown, hts⟩ (c_X7_counted l D Ax 0 ns fog nr nm nl Lx p1 (by assumption)) (cwV 1 hts gX7_count_X7_counted rfl rfl rfl (by decide +kernel) ⟨Nat.le_of_ble_eq_true rfl, Nat.le_of_ble_eq_true rfl⟩) hK hN hP hD Sb.self 7 0 rfl rfl rfl hl.1 (Nat.le_of_ble_eq_true rfl) ⟨Nat.zero_le _, Nat.zero_le _⟩ dX7_count_17 ?_ rfl
    refine lv_goto (tgt := 28) hx hb dX7_count_20 (by decide) ?_
    exact eWi hx hb hr hlocks dX7_count_28 hS hP (by (rw [ctM, if_pos c1]; first | done | rw [z2, if_pos (by assumption)] | rw [z2, if_neg (by assumption)] | rfl)) (by (rw [ctM, if_pos c1]; first | done | rw [z2, if_pos (by assumption)] | rw [z2, if_neg (by assumption)] | rfl))

set_option maxHeartbeats 4000000 in
set_option maxRecDepth 100000 in
theorem c_X7_station (l : Launch) (D : GG) (Ax : Nat → Nat) (th : Int32) (ns : Nat) (fog : Int32) (nr : Nat) (nm : Nat) (nl : Nat) (Lx : Nat → Nat → Int32) (p1 : Int32) (p2 : Int32) (b10 : ns ≤ 10) (b15 : nr ≤ 15) (b12 : nm ≤ 12) (b60 : nl ≤ 60) : Met l yX7_station wsX7_station ({ frames := 3, cells := 0, slots := 0, locals := 71 } : Room) (va_Pc [.ref (Ax 0), .int p1, .int p2] (wd D (wMod D Ax th ns fog nr nm nl Lx))) (QW D (some (.int ((pst Lx fog ns nm nl p1 p2).1))) (wMod D Ax ((pst Lx fog ns nm nl p1 p2).2) ns fog nr nm nl Lx) (own (wMod D Ax th ns fog nr nm nl Lx))) 0 0 (own (wMod D Ax th ns fog nr nm nl Lx)) := by
  refine Met.ofW (cc := cX7_station) (maxL := 3) (ret := (some .int)) (by decide) rfl ?_
  intro p e s m args below meth c s₁ B hml hv
  obtain ⟨rfl, hP, hK, hD, hN⟩ := hv
  have hx := B.exec
  have hb := B.bytes
  have hr := B.returns
  have hts := atoms_spec (ws := wsX7_station) B.pre
  have hown : s.vm.findClass RX7 = some m.cls := findClass_of_methodNamed B.named
  have hlocks := B.notSynchronized
  have hinX7 : ∀ w ∈ u_ws RX7 TX7 14, w ∈ wsX7_station := by decide +kernel
  have hS : va_S (own (wMod D Ax th ns fog nr nm nl Lx)) s.heap s.heap [] := va_S.rf
  have hD : va_D (own (wMod D Ax th ns fog nr nm nl Lx)) (wMod D Ax th ns fog nr nm nl Lx) := toOwn hD
  generalize hAe : own (wMod D Ax th ns fog nr nm nl Lx) = A0 at hD hS ⊢
  have hl := lv_entry ([.ref (Ax 0), .int p1, .int p2]) (n := 3) (Nat.le_of_ble_eq_true rfl)
  rw [lg_entry_eq]
  generalize (lg_sl ([.ref (Ax 0), .int p1, .int p2]) ++ List.replicate (3 - (lg_sl ([.ref (Ax 0), .int p1, .int p2])).length) Slot.unset).toArray = ls at hl ⊢
  have hl : lv_has ls 3 [(0, .ref (Ax 0)), (1, .int p1), (2, .int p2)] := hl
  refine lv_aload_n hx hb dX7_station_0 rfl (lv_at hl 0 rfl) ?_
  refine lv_iconst (v := 0) hx hb dX7_station_1 (by decide) ?_
  refine va_put (D := D.1) (ci := 7) (v := .int 0) (ty := .int) (C := RX7) (T := TX7) (N := 14) hx hb hts hinX7 tyX7 tyX7_ok nmX7 hown hK hP hD hS 0 rfl rfl 0 (by decide) (hts (.fieldLink RX7 34 "MountainPostModel" "thrown" "I") (List.mem_of_getElem? (i := 1) rfl)) (fun _ h9 => h9) rfl (by decide +kernel) rfl rfl (Nat.le_of_ble_eq_true rfl) dX7_station_2 (fun H locs hP hD hS => ?_)
  have hP : va_P D.1 vwCl (wMod D Ax 0 ns fog nr nm nl Lx) H := hP
  have hD : va_D A0 (wMod D Ax 0 ns fog nr nm nl Lx) := hD
  refine lv_aload_n hx hb dX7_station_5 rfl (lv_at hl 0 rfl) ?_
  refine lv_iload_n hx hb dX7_station_6 rfl (lv_at hl 1 rfl) ?_
  refine kVp ⟨hx, hb, hml, hown, hts⟩ (c_X7_isStation l D Ax 0 ns fog nr nm nl Lx p1) (cwV 1 hts gX7_station_X7_isStation rfl rfl rfl (by decide +kernel) ⟨Nat.le_of_ble_eq_true rfl, Nat.le_of_ble_eq_true rfl⟩) hK hN hP hD Sb.self 7 0 rfl rfl rfl hl.1 (Nat.le_of_ble_eq_true rfl) ⟨Nat.zero_le _, Nat.zero_le _⟩ dX7_station_7 ?_ rfl
  refine lv_if_eq (tgt := 31) hx hb dX7_station_10 (by decide) (fun c1 => ?_) (fun c1 => ?_)
  · have c1 := z2_0.mp c1
    refine lv_aload_n hx hb dX7_station_31 rfl (lv_at hl 0 rfl) ?_
    refine lv_iconst (v := 1) hx hb dX7_station_32 (by decide) ?_
    refine kVw ⟨hx, hb, hml, hown, hts⟩ (c_X7_fail l D Ax 0 ns fog nr nm nl Lx 1) (cwV 1 hts gX7_station_X7_fail rfl rfl rfl (by decide +kernel) ⟨Nat.le_of_ble_eq_true rfl, Nat.le_of_ble_eq_true rfl⟩) hK hN hP hD hS frsMod 7 0 rfl rfl rfl hl.1 (Nat.le_of_ble_eq_true rfl) ⟨Nat.zero_le _, Nat.zero_le _⟩ dX7_station_33 (fun H locs hP hD hS => ?_) rfl
    have hP : va_P D.1 vwCl (wMod D Ax 1 ns fog nr nm nl Lx) H := hP
    have hD : va_D A0 (wMod D Ax 1 ns fog nr nm nl Lx) := hD
    refine W.eq (g2 := F0 m 36 ls [.int 0]) rfl ?_
    exact eWi hx hb hr hlocks dX7_station_36 hS hP (by (rw [pst, if_neg c1]; first | done | rw [z2, if_pos (by assumption)] | rw [z2, if_neg (by assumption)] | rfl)) (by (rw [pst, if_neg c1]; first | done | rw [z2, if_pos (by assumption)] | rw [z2, if_neg (by assumption)] | rfl))
  · have c1 := z2_n.mp c1
    refine lv_iload_n hx hb dX7_station_13 rfl (lv_at hl 2 rfl) ?_
    refine lv_iconst (v := 0) hx hb dX7_station_14 (by decide) ?_
    refine lv_iconst (v := 4) hx hb dX7_station_15 (by decide) ?_
    refine kSp ⟨hx, hb, hml, hown, hts⟩ (c_X7_isIn l D p2 0 4) (va_cwS 3 hts gX7_station_X7_isIn rfl rfl rfl (by decide +kernel) ⟨Nat.le_of_ble_eq_true rfl, Nat.le_of_ble_eq_true rfl⟩) hK hN hP hD Sb.nil  rfl hl.1 (Nat.le_of_ble_eq_true rfl) ⟨Nat.zero_le _, Nat.zero_le _⟩ dX7_station_16 ?_ rfl
    refine lv_if_eq (tgt := 31) hx hb dX7_station_19 (by decide) (fun c2 => ?_) (fun c2 => ?_)
    · have c2 := z2_0.mp c2
      refine lv_aload_n hx hb dX7_station_31 rfl (lv_at hl 0 rfl) ?_
      refine lv_iconst (v := 1) hx hb dX7_station_32 (by decide) ?_
      refine kVw ⟨hx, hb, hml, hown, hts⟩ (c_X7_fail l D Ax 0 ns fog nr nm nl Lx 1) (cwV 1 hts gX7_station_X7_fail rfl rfl rfl (by decide +kernel) ⟨Nat.le_of_ble_eq_true rfl, Nat.le_of_ble_eq_true rfl⟩) hK hN hP hD hS frsMod 7 0 rfl rfl rfl hl.1 (Nat.le_of_ble_eq_true rfl) ⟨Nat.zero_le _, Nat.zero_le _⟩ dX7_station_33 (fun H locs hP hD hS => ?_) rfl
      have hP : va_P D.1 vwCl (wMod D Ax 1 ns fog nr nm nl Lx) H := hP
      have hD : va_D A0 (wMod D Ax 1 ns fog nr nm nl Lx) := hD
      refine W.eq (g2 := F0 m 36 ls [.int 0]) rfl ?_
      exact eWi hx hb hr hlocks dX7_station_36 hS hP (by (rw [pst, if_pos c1, if_neg c2]; first | done | rw [z2, if_pos (by assumption)] | rw [z2, if_neg (by assumption)] | rfl)) (by (rw [pst, if_pos c1, if_neg c2]; first | done | rw [z2, if_pos (by assumption)] | rw [z2, if_neg (by assumption)] | rfl))
    · have c2 := z2_n.mp c2
      refine lv_aload_n hx hb dX7_station_22 rfl (lv_at hl 0 rfl) ?_
      refine lv_iload_n hx hb dX7_station_23 rfl (lv_at hl 1 rfl) ?_
      refine lv_iload_n hx hb dX7_station_24 rfl (lv_at hl 2 rfl) ?_
      refine kVp ⟨hx, hb, hml, hown, hts⟩ (c_X7_stationTold l D Ax 0 ns fog nr nm nl Lx p1 p2 (by assumption) (by assumption) (by assumption) (inB_vd (by omega) c1)) (cwV 2 hts gX7_station_X7_stationTold rfl rfl rfl (by decide +kernel) ⟨Nat.le_of_ble_eq_true rfl, Nat.le_of_ble_eq_true rfl⟩) hK hN hP hD Sb.self 7 0 rfl rfl rfl hl.1 (Nat.le_of_ble_eq_true rfl) ⟨Nat.zero_le _, Nat.zero_le _⟩ dX7_station_25 ?_ rfl
      refine lv_goto (tgt := 36) hx hb dX7_station_28 (by decide) ?_
      exact eWi hx hb hr hlocks dX7_station_36 hS hP (by (rw [pst, if_pos c1, if_pos c2]; first | done | rw [z2, if_pos (by assumption)] | rw [z2, if_neg (by assumption)] | rfl)) (by (rw [pst, if_pos c1, if_pos c2]; first | done | rw [z2, if_pos (by assumption)] | rw [z2, if_neg (by assumption)] | rfl))

set_option maxHeartbeats 4000000 in
set_option maxRecDepth 100000 in
theorem c_X7_road (l : Launch) (D : GG) (Ax : Nat → Nat) (th : Int32) (ns : Nat) (fog : Int32) (nr : Nat) (nm : Nat) (nl : Nat) (Lx : Nat → Nat → Int32) (p1 : Int32) (p2 : Int32) (b10 : ns ≤ 10) (b15 : nr ≤ 15) (b12 : nm ≤ 12) (b60 : nl ≤ 60) (hk : okR Lx nr ns) : Met l yX7_road wsX7_road ({ frames := 4, cells := 0, slots := 0, locals := 88 } : Room) (va_Pc [.ref (Ax 0), .int p1, .int p2] (wd D (wMod D Ax th ns fog nr nm nl Lx))) (QW D (some (.int ((prd Lx nr nm p1 p2).1))) (wMod D Ax ((prd Lx nr nm p1 p2).2) ns fog nr nm nl Lx) (own (wMod D Ax th ns fog nr nm nl Lx))) 0 0 (own (wMod D Ax th ns fog nr nm nl Lx)) := by
  refine Met.ofW (cc := cX7_road) (maxL := 3) (ret := (some .int)) (by decide) rfl ?_
  intro p e s m args below meth c s₁ B hml hv
  obtain ⟨rfl, hP, hK, hD, hN⟩ := hv
  have hx := B.exec
  have hb := B.bytes
  have hr := B.returns
  have hts := atoms_spec (ws := wsX7_road) B.pre
  have hown : s.vm.findClass RX7 = some m.cls := findClass_of_methodNamed B.named
  have hlocks := B.notSynchronized
  have hinX7 : ∀ w ∈ u_ws RX7 TX7 14, w ∈ wsX7_road := by decide +kernel
  have hS : va_S (own (wMod D Ax th ns fog nr nm nl Lx)) s.heap s.heap [] := va_S.rf
  have hD : va_D (own (wMod D Ax th ns fog nr nm nl Lx)) (wMod D Ax th ns fog nr nm nl Lx) := toOwn hD
  generalize hAe : own (wMod D Ax th ns fog nr nm nl Lx) = A0 at hD hS ⊢
  have hl := lv_entry ([.ref (Ax 0), .int p1, .int p2]) (n := 3) (Nat.le_of_ble_eq_true rfl)
  rw [lg_entry_eq]
  generalize (lg_sl ([.ref (Ax 0), .int p1, .int p2]) ++ List.replicate (3 - (lg_sl ([.ref (Ax 0), .int p1, .int p2])).length) Slot.unset).toArray = ls at hl ⊢
  have hl : lv_has ls 3 [(0, .ref (Ax 0)), (1, .int p1), (2, .int p2)] := hl
  refine lv_aload_n hx hb dX7_road_0 rfl (lv_at hl 0 rfl) ?_
  refine lv_iconst (v := 0) hx hb dX7_road_1 (by decide) ?_
  refine va_put (D := D.1) (ci := 7) (v := .int 0) (ty := .int) (C := RX7) (T := TX7) (N := 14) hx hb hts hinX7 tyX7 tyX7_ok nmX7 hown hK hP hD hS 0 rfl rfl 0 (by decide) (hts (.fieldLink RX7 34 "MountainPostModel" "thrown" "I") (List.mem_of_getElem? (i := 1) rfl)) (fun _ h9 => h9) rfl (by decide +kernel) rfl rfl (Nat.le_of_ble_eq_true rfl) dX7_road_2 (fun H locs hP hD hS => ?_)
  have hP : va_P D.1 vwCl (wMod D Ax 0 ns fog nr nm nl Lx) H := hP
  have hD : va_D A0 (wMod D Ax 0 ns fog nr nm nl Lx) := hD
  refine lv_aload_n hx hb dX7_road_5 rfl (lv_at hl 0 rfl) ?_
  refine lv_iload_n hx hb dX7_road_6 rfl (lv_at hl 1 rfl) ?_
  refine kVp ⟨hx, hb, hml, hown, hts⟩ (c_X7_isRoad l D Ax 0 ns fog nr nm nl Lx p1) (cwV 1 hts gX7_road_X7_isRoad rfl rfl rfl (by decide +kernel) ⟨Nat.le_of_ble_eq_true rfl, Nat.le_of_ble_eq_true rfl⟩) hK hN hP hD Sb.self 7 0 rfl rfl rfl hl.1 (Nat.le_of_ble_eq_true rfl) ⟨Nat.zero_le _, Nat.zero_le _⟩ dX7_road_7 ?_ rfl
  refine lv_if_eq (tgt := 31) hx hb dX7_road_10 (by decide) (fun c1 => ?_) (fun c1 => ?_)
  · have c1 := z2_0.mp c1
    refine lv_aload_n hx hb dX7_road_31 rfl (lv_at hl 0 rfl) ?_
    refine lv_iconst (v := 1) hx hb dX7_road_32 (by decide) ?_
    refine kVw ⟨hx, hb, hml, hown, hts⟩ (c_X7_fail l D Ax 0 ns fog nr nm nl Lx 1) (cwV 1 hts gX7_road_X7_fail rfl rfl rfl (by decide +kernel) ⟨Nat.le_of_ble_eq_true rfl, Nat.le_of_ble_eq_true rfl⟩) hK hN hP hD hS frsMod 7 0 rfl rfl rfl hl.1 (Nat.le_of_ble_eq_true rfl) ⟨Nat.zero_le _, Nat.zero_le _⟩ dX7_road_33 (fun H locs hP hD hS => ?_) rfl
    have hP : va_P D.1 vwCl (wMod D Ax 1 ns fog nr nm nl Lx) H := hP
    have hD : va_D A0 (wMod D Ax 1 ns fog nr nm nl Lx) := hD
    refine W.eq (g2 := F0 m 36 ls [.int 0]) rfl ?_
    exact eWi hx hb hr hlocks dX7_road_36 hS hP (by (rw [prd, if_neg c1]; first | done | rw [z2, if_pos (by assumption)] | rw [z2, if_neg (by assumption)] | rfl)) (by (rw [prd, if_neg c1]; first | done | rw [z2, if_pos (by assumption)] | rw [z2, if_neg (by assumption)] | rfl))
  · have c1 := z2_n.mp c1
    refine lv_iload_n hx hb dX7_road_13 rfl (lv_at hl 2 rfl) ?_
    refine lv_iconst (v := 0) hx hb dX7_road_14 (by decide) ?_
    refine lv_iconst (v := 5) hx hb dX7_road_15 (by decide) ?_
    refine kSp ⟨hx, hb, hml, hown, hts⟩ (c_X7_isIn l D p2 0 5) (va_cwS 3 hts gX7_road_X7_isIn rfl rfl rfl (by decide +kernel) ⟨Nat.le_of_ble_eq_true rfl, Nat.le_of_ble_eq_true rfl⟩) hK hN hP hD Sb.nil  rfl hl.1 (Nat.le_of_ble_eq_true rfl) ⟨Nat.zero_le _, Nat.zero_le _⟩ dX7_road_16 ?_ rfl
    refine lv_if_eq (tgt := 31) hx hb dX7_road_19 (by decide) (fun c2 => ?_) (fun c2 => ?_)
    · have c2 := z2_0.mp c2
      refine lv_aload_n hx hb dX7_road_31 rfl (lv_at hl 0 rfl) ?_
      refine lv_iconst (v := 1) hx hb dX7_road_32 (by decide) ?_
      refine kVw ⟨hx, hb, hml, hown, hts⟩ (c_X7_fail l D Ax 0 ns fog nr nm nl Lx 1) (cwV 1 hts gX7_road_X7_fail rfl rfl rfl (by decide +kernel) ⟨Nat.le_of_ble_eq_true rfl, Nat.le_of_ble_eq_true rfl⟩) hK hN hP hD hS frsMod 7 0 rfl rfl rfl hl.1 (Nat.le_of_ble_eq_true rfl) ⟨Nat.zero_le _, Nat.zero_le _⟩ dX7_road_33 (fun H locs hP hD hS => ?_) rfl
      have hP : va_P D.1 vwCl (wMod D Ax 1 ns fog nr nm nl Lx) H := hP
      have hD : va_D A0 (wMod D Ax 1 ns fog nr nm nl Lx) := hD
      refine W.eq (g2 := F0 m 36 ls [.int 0]) rfl ?_
      exact eWi hx hb hr hlocks dX7_road_36 hS hP (by (rw [prd, if_pos c1, if_neg c2]; first | done | rw [z2, if_pos (by assumption)] | rw [z2, if_neg (by assumption)] | rfl)) (by (rw [prd, if_pos c1, if_neg c2]; first | done | rw [z2, if_pos (by assumption)] | rw [z2, if_neg (by assumption)] | rfl))
    · have c2 := z2_n.mp c2
      refine lv_aload_n hx hb dX7_road_22 rfl (lv_at hl 0 rfl) ?_
      refine lv_iload_n hx hb dX7_road_23 rfl (lv_at hl 1 rfl) ?_
      refine lv_iload_n hx hb dX7_road_24 rfl (lv_at hl 2 rfl) ?_
      refine kVp ⟨hx, hb, hml, hown, hts⟩ (c_X7_roadTold l D Ax 0 ns fog nr nm nl Lx p1 p2 (by assumption) (by assumption) (by assumption) (by assumption) (inB_vd (by omega) c1) (inB_v (b := 5) (by decide) c2) (by assumption)) (cwV 2 hts gX7_road_X7_roadTold rfl rfl rfl (by decide +kernel) ⟨Nat.le_of_ble_eq_true rfl, Nat.le_of_ble_eq_true rfl⟩) hK hN hP hD Sb.self 7 0 rfl rfl rfl hl.1 (Nat.le_of_ble_eq_true rfl) ⟨Nat.zero_le _, Nat.zero_le _⟩ dX7_road_25 ?_ rfl
      refine lv_goto (tgt := 36) hx hb dX7_road_28 (by decide) ?_
      exact eWi hx hb hr hlocks dX7_road_36 hS hP (by (rw [prd, if_pos c1, if_pos c2]; first | done | rw [z2, if_pos (by assumption)] | rw [z2, if_neg (by assumption)] | rfl)) (by (rw [prd, if_pos c1, if_pos c2]; first | done | rw [z2, if_pos (by assumption)] | rw [z2, if_neg (by assumption)] | rfl))

set_option maxHeartbeats 4000000 in
set_option maxRecDepth 100000 in
theorem c_X7_mule (l : Launch) (D : GG) (Ax : Nat → Nat) (th : Int32) (ns : Nat) (fog : Int32) (nr : Nat) (nm : Nat) (nl : Nat) (Lx : Nat → Nat → Int32) (p1 : Int32) (p2 : Int32) (b10 : ns ≤ 10) (b15 : nr ≤ 15) (b12 : nm ≤ 12) (b60 : nl ≤ 60) : Met l yX7_mule wsX7_mule ({ frames := 3, cells := 0, slots := 0, locals := 69 } : Room) (va_Pc [.ref (Ax 0), .int p1, .int p2] (wd D (wMod D Ax th ns fog nr nm nl Lx))) (QW D (some (.int ((pmu Lx nm nl p1 p2).1))) (wMod D Ax ((pmu Lx nm nl p1 p2).2) ns fog nr nm nl Lx) (own (wMod D Ax th ns fog nr nm nl Lx))) 0 0 (own (wMod D Ax th ns fog nr nm nl Lx)) := by
  refine Met.ofW (cc := cX7_mule) (maxL := 3) (ret := (some .int)) (by decide) rfl ?_
  intro p e s m args below meth c s₁ B hml hv
  obtain ⟨rfl, hP, hK, hD, hN⟩ := hv
  have hx := B.exec
  have hb := B.bytes
  have hr := B.returns
  have hts := atoms_spec (ws := wsX7_mule) B.pre
  have hown : s.vm.findClass RX7 = some m.cls := findClass_of_methodNamed B.named
  have hlocks := B.notSynchronized
  have hinX7 : ∀ w ∈ u_ws RX7 TX7 14, w ∈ wsX7_mule := by decide +kernel
  have hS : va_S (own (wMod D Ax th ns fog nr nm nl Lx)) s.heap s.heap [] := va_S.rf
  have hD : va_D (own (wMod D Ax th ns fog nr nm nl Lx)) (wMod D Ax th ns fog nr nm nl Lx) := toOwn hD
  generalize hAe : own (wMod D Ax th ns fog nr nm nl Lx) = A0 at hD hS ⊢
  have hl := lv_entry ([.ref (Ax 0), .int p1, .int p2]) (n := 3) (Nat.le_of_ble_eq_true rfl)
  rw [lg_entry_eq]
  generalize (lg_sl ([.ref (Ax 0), .int p1, .int p2]) ++ List.replicate (3 - (lg_sl ([.ref (Ax 0), .int p1, .int p2])).length) Slot.unset).toArray = ls at hl ⊢
  have hl : lv_has ls 3 [(0, .ref (Ax 0)), (1, .int p1), (2, .int p2)] := hl
  refine lv_aload_n hx hb dX7_mule_0 rfl (lv_at hl 0 rfl) ?_
  refine lv_iconst (v := 0) hx hb dX7_mule_1 (by decide) ?_
  refine va_put (D := D.1) (ci := 7) (v := .int 0) (ty := .int) (C := RX7) (T := TX7) (N := 14) hx hb hts hinX7 tyX7 tyX7_ok nmX7 hown hK hP hD hS 0 rfl rfl 0 (by decide) (hts (.fieldLink RX7 34 "MountainPostModel" "thrown" "I") (List.mem_of_getElem? (i := 1) rfl)) (fun _ h9 => h9) rfl (by decide +kernel) rfl rfl (Nat.le_of_ble_eq_true rfl) dX7_mule_2 (fun H locs hP hD hS => ?_)
  have hP : va_P D.1 vwCl (wMod D Ax 0 ns fog nr nm nl Lx) H := hP
  have hD : va_D A0 (wMod D Ax 0 ns fog nr nm nl Lx) := hD
  refine lv_iload_n hx hb dX7_mule_5 rfl (lv_at hl 1 rfl) ?_
  refine lv_iconst (v := 0) hx hb dX7_mule_6 (by decide) ?_
  refine lv_aload_n hx hb dX7_mule_7 rfl (lv_at hl 0 rfl) ?_
  refine va_get (D := D.1) (ci := 7) (v := .int (nI nm)) (C := RX7) (T := TX7) (N := 14) hx hb hts hinX7 hown hK hP 0 rfl rfl 7 (by decide) (hts (.fieldLink RX7 73 "MountainPostModel" "mules" "I") (List.mem_of_getElem? (i := 2) rfl)) (fun _ h9 => h9) rfl dX7_mule_8 ?_
  refine lv_iconst (v := 1) hx hb dX7_mule_11 (by decide) ?_
  refine lv_isub hx hb dX7_mule_12 ?_
  refine kSp ⟨hx, hb, hml, hown, hts⟩ (c_X7_isIn l D p1 0 ((nI nm) - 1)) (va_cwS 3 hts gX7_mule_X7_isIn rfl rfl rfl (by decide +kernel) ⟨Nat.le_of_ble_eq_true rfl, Nat.le_of_ble_eq_true rfl⟩) hK hN hP hD Sb.nil  rfl hl.1 (Nat.le_of_ble_eq_true rfl) ⟨Nat.zero_le _, Nat.zero_le _⟩ dX7_mule_13 ?_ rfl
  refine lv_if_eq (tgt := 37) hx hb dX7_mule_16 (by decide) (fun c1 => ?_) (fun c1 => ?_)
  · have c1 := z2_0.mp c1
    refine lv_aload_n hx hb dX7_mule_37 rfl (lv_at hl 0 rfl) ?_
    refine lv_iconst (v := 1) hx hb dX7_mule_38 (by decide) ?_
    refine kVw ⟨hx, hb, hml, hown, hts⟩ (c_X7_fail l D Ax 0 ns fog nr nm nl Lx 1) (cwV 1 hts gX7_mule_X7_fail rfl rfl rfl (by decide +kernel) ⟨Nat.le_of_ble_eq_true rfl, Nat.le_of_ble_eq_true rfl⟩) hK hN hP hD hS frsMod 7 0 rfl rfl rfl hl.1 (Nat.le_of_ble_eq_true rfl) ⟨Nat.zero_le _, Nat.zero_le _⟩ dX7_mule_39 (fun H locs hP hD hS => ?_) rfl
    have hP : va_P D.1 vwCl (wMod D Ax 1 ns fog nr nm nl Lx) H := hP
    have hD : va_D A0 (wMod D Ax 1 ns fog nr nm nl Lx) := hD
    refine W.eq (g2 := F0 m 42 ls [.int 0]) rfl ?_
    exact eWi hx hb hr hlocks dX7_mule_42 hS hP (by (rw [pmu, if_neg c1]; first | done | rw [z2, if_pos (by assumption)] | rw [z2, if_neg (by assumption)] | rfl)) (by (rw [pmu, if_neg c1]; first | done | rw [z2, if_pos (by assumption)] | rw [z2, if_neg (by assumption)] | rfl))
  · have c1 := z2_n.mp c1
    refine lv_iload_n hx hb dX7_mule_19 rfl (lv_at hl 2 rfl) ?_
    refine lv_iconst (v := 0) hx hb dX7_mule_20 (by decide) ?_
    refine lv_iconst (v := 5) hx hb dX7_mule_21 (by decide) ?_
    refine kSp ⟨hx, hb, hml, hown, hts⟩ (c_X7_isIn l D p2 0 5) (va_cwS 3 hts gX7_mule_X7_isIn rfl rfl rfl (by decide +kernel) ⟨Nat.le_of_ble_eq_true rfl, Nat.le_of_ble_eq_true rfl⟩) hK hN hP hD Sb.nil  rfl hl.1 (Nat.le_of_ble_eq_true rfl) ⟨Nat.zero_le _, Nat.zero_le _⟩ dX7_mule_22 ?_ rfl
    refine lv_if_eq (tgt := 37) hx hb dX7_mule_25 (by decide) (fun c2 => ?_) (fun c2 => ?_)
    · have c2 := z2_0.mp c2
      refine lv_aload_n hx hb dX7_mule_37 rfl (lv_at hl 0 rfl) ?_
      refine lv_iconst (v := 1) hx hb dX7_mule_38 (by decide) ?_
      refine kVw ⟨hx, hb, hml, hown, hts⟩ (c_X7_fail l D Ax 0 ns fog nr nm nl Lx 1) (cwV 1 hts gX7_mule_X7_fail rfl rfl rfl (by decide +kernel) ⟨Nat.le_of_ble_eq_true rfl, Nat.le_of_ble_eq_true rfl⟩) hK hN hP hD hS frsMod 7 0 rfl rfl rfl hl.1 (Nat.le_of_ble_eq_true rfl) ⟨Nat.zero_le _, Nat.zero_le _⟩ dX7_mule_39 (fun H locs hP hD hS => ?_) rfl
      have hP : va_P D.1 vwCl (wMod D Ax 1 ns fog nr nm nl Lx) H := hP
      have hD : va_D A0 (wMod D Ax 1 ns fog nr nm nl Lx) := hD
      refine W.eq (g2 := F0 m 42 ls [.int 0]) rfl ?_
      exact eWi hx hb hr hlocks dX7_mule_42 hS hP (by (rw [pmu, if_pos c1, if_neg c2]; first | done | rw [z2, if_pos (by assumption)] | rw [z2, if_neg (by assumption)] | rfl)) (by (rw [pmu, if_pos c1, if_neg c2]; first | done | rw [z2, if_pos (by assumption)] | rw [z2, if_neg (by assumption)] | rfl))
    · have c2 := z2_n.mp c2
      refine lv_aload_n hx hb dX7_mule_28 rfl (lv_at hl 0 rfl) ?_
      refine lv_iload_n hx hb dX7_mule_29 rfl (lv_at hl 1 rfl) ?_
      refine lv_iload_n hx hb dX7_mule_30 rfl (lv_at hl 2 rfl) ?_
      refine kVp ⟨hx, hb, hml, hown, hts⟩ (c_X7_muleTold l D Ax 0 ns fog nr nm nl Lx p1 p2 (by assumption) (by assumption) (by assumption) (by assumption) (inB_vd (by omega) c1) (inB_v (b := 5) (by decide) c2)) (cwV 2 hts gX7_mule_X7_muleTold rfl rfl rfl (by decide +kernel) ⟨Nat.le_of_ble_eq_true rfl, Nat.le_of_ble_eq_true rfl⟩) hK hN hP hD Sb.self 7 0 rfl rfl rfl hl.1 (Nat.le_of_ble_eq_true rfl) ⟨Nat.zero_le _, Nat.zero_le _⟩ dX7_mule_31 ?_ rfl
      refine lv_goto (tgt := 42) hx hb dX7_mule_34 (by decide) ?_
      exact eWi hx hb hr hlocks dX7_mule_42 hS hP (by (rw [pmu, if_pos c1, if_pos c2]; first | done | rw [z2, if_pos (by assumption)] | rw [z2, if_neg (by assumption)] | rfl)) (by (rw [pmu, if_pos c1, if_pos c2]; first | done | rw [z2, if_pos (by assumption)] | rw [z2, if_neg (by assumption)] | rfl))

set_option maxHeartbeats 4000000 in
set_option maxRecDepth 100000 in
theorem c_X7_letter (l : Launch) (D : GG) (Ax : Nat → Nat) (th : Int32) (ns : Nat) (fog : Int32) (nr : Nat) (nm : Nat) (nl : Nat) (Lx : Nat → Nat → Int32) (p1 : Int32) (p2 : Int32) (b10 : ns ≤ 10) (b15 : nr ≤ 15) (b12 : nm ≤ 12) (b60 : nl ≤ 60) : Met l yX7_letter wsX7_letter ({ frames := 2, cells := 0, slots := 0, locals := 44 } : Room) (va_Pc [.ref (Ax 0), .int p1, .int p2] (wd D (wMod D Ax th ns fog nr nm nl Lx))) (QW D (some (.int ((ple Lx nl p1 p2).1))) (wMod D Ax ((ple Lx nl p1 p2).2) ns fog nr nm nl Lx) (own (wMod D Ax th ns fog nr nm nl Lx))) 0 0 (own (wMod D Ax th ns fog nr nm nl Lx)) := by
  refine Met.ofW (cc := cX7_letter) (maxL := 3) (ret := (some .int)) (by decide) rfl ?_
  intro p e s m args below meth c s₁ B hml hv
  obtain ⟨rfl, hP, hK, hD, hN⟩ := hv
  have hx := B.exec
  have hb := B.bytes
  have hr := B.returns
  have hts := atoms_spec (ws := wsX7_letter) B.pre
  have hown : s.vm.findClass RX7 = some m.cls := findClass_of_methodNamed B.named
  have hlocks := B.notSynchronized
  have hinX7 : ∀ w ∈ u_ws RX7 TX7 14, w ∈ wsX7_letter := by decide +kernel
  have hS : va_S (own (wMod D Ax th ns fog nr nm nl Lx)) s.heap s.heap [] := va_S.rf
  have hD : va_D (own (wMod D Ax th ns fog nr nm nl Lx)) (wMod D Ax th ns fog nr nm nl Lx) := toOwn hD
  generalize hAe : own (wMod D Ax th ns fog nr nm nl Lx) = A0 at hD hS ⊢
  have hl := lv_entry ([.ref (Ax 0), .int p1, .int p2]) (n := 3) (Nat.le_of_ble_eq_true rfl)
  rw [lg_entry_eq]
  generalize (lg_sl ([.ref (Ax 0), .int p1, .int p2]) ++ List.replicate (3 - (lg_sl ([.ref (Ax 0), .int p1, .int p2])).length) Slot.unset).toArray = ls at hl ⊢
  have hl : lv_has ls 3 [(0, .ref (Ax 0)), (1, .int p1), (2, .int p2)] := hl
  refine lv_aload_n hx hb dX7_letter_0 rfl (lv_at hl 0 rfl) ?_
  refine lv_iconst (v := 0) hx hb dX7_letter_1 (by decide) ?_
  refine va_put (D := D.1) (ci := 7) (v := .int 0) (ty := .int) (C := RX7) (T := TX7) (N := 14) hx hb hts hinX7 tyX7 tyX7_ok nmX7 hown hK hP hD hS 0 rfl rfl 0 (by decide) (hts (.fieldLink RX7 34 "MountainPostModel" "thrown" "I") (List.mem_of_getElem? (i := 1) rfl)) (fun _ h9 => h9) rfl (by decide +kernel) rfl rfl (Nat.le_of_ble_eq_true rfl) dX7_letter_2 (fun H locs hP hD hS => ?_)
  have hP : va_P D.1 vwCl (wMod D Ax 0 ns fog nr nm nl Lx) H := hP
  have hD : va_D A0 (wMod D Ax 0 ns fog nr nm nl Lx) := hD
  refine lv_aload_n hx hb dX7_letter_5 rfl (lv_at hl 0 rfl) ?_
  refine lv_iload_n hx hb dX7_letter_6 rfl (lv_at hl 1 rfl) ?_
  refine kVp ⟨hx, hb, hml, hown, hts⟩ (c_X7_isLetter l D Ax 0 ns fog nr nm nl Lx p1) (cwV 1 hts gX7_letter_X7_isLetter rfl rfl rfl (by decide +kernel) ⟨Nat.le_of_ble_eq_true rfl, Nat.le_of_ble_eq_true rfl⟩) hK hN hP hD Sb.self 7 0 rfl rfl rfl hl.1 (Nat.le_of_ble_eq_true rfl) ⟨Nat.zero_le _, Nat.zero_le _⟩ dX7_letter_7 ?_ rfl
  refine lv_if_eq (tgt := 32) hx hb dX7_letter_10 (by decide) (fun c1 => ?_) (fun c1 => ?_)
  · have c1 := z2_0.mp c1
    refine lv_aload_n hx hb dX7_letter_32 rfl (lv_at hl 0 rfl) ?_
    refine lv_iconst (v := 1) hx hb dX7_letter_33 (by decide) ?_
    refine kVw ⟨hx, hb, hml, hown, hts⟩ (c_X7_fail l D Ax 0 ns fog nr nm nl Lx 1) (cwV 1 hts gX7_letter_X7_fail rfl rfl rfl (by decide +kernel) ⟨Nat.le_of_ble_eq_true rfl, Nat.le_of_ble_eq_true rfl⟩) hK hN hP hD hS frsMod 7 0 rfl rfl rfl hl.1 (Nat.le_of_ble_eq_true rfl) ⟨Nat.zero_le _, Nat.zero_le _⟩ dX7_letter_34 (fun H locs hP hD hS => ?_) rfl
    have hP : va_P D.1 vwCl (wMod D Ax 1 ns fog nr nm nl Lx) H := hP
    have hD : va_D A0 (wMod D Ax 1 ns fog nr nm nl Lx) := hD
    refine W.eq (g2 := F0 m 37 ls [.int 0]) rfl ?_
    exact eWi hx hb hr hlocks dX7_letter_37 hS hP (by (rw [ple, if_neg c1]; first | done | rw [z2, if_pos (by assumption)] | rw [z2, if_neg (by assumption)] | rfl)) (by (rw [ple, if_neg c1]; first | done | rw [z2, if_pos (by assumption)] | rw [z2, if_neg (by assumption)] | rfl))
  · have c1 := z2_n.mp c1
    refine lv_iload_n hx hb dX7_letter_13 rfl (lv_at hl 2 rfl) ?_
    refine lv_iconst (v := 0) hx hb dX7_letter_14 (by decide) ?_
    refine lv_bipush (v := 10) hx hb dX7_letter_15 (by decide) ?_
    refine kSp ⟨hx, hb, hml, hown, hts⟩ (c_X7_isIn l D p2 0 10) (va_cwS 3 hts gX7_letter_X7_isIn rfl rfl rfl (by decide +kernel) ⟨Nat.le_of_ble_eq_true rfl, Nat.le_of_ble_eq_true rfl⟩) hK hN hP hD Sb.nil  rfl hl.1 (Nat.le_of_ble_eq_true rfl) ⟨Nat.zero_le _, Nat.zero_le _⟩ dX7_letter_17 ?_ rfl
    refine lv_if_eq (tgt := 32) hx hb dX7_letter_20 (by decide) (fun c2 => ?_) (fun c2 => ?_)
    · have c2 := z2_0.mp c2
      refine lv_aload_n hx hb dX7_letter_32 rfl (lv_at hl 0 rfl) ?_
      refine lv_iconst (v := 1) hx hb dX7_letter_33 (by decide) ?_
      refine kVw ⟨hx, hb, hml, hown, hts⟩ (c_X7_fail l D Ax 0 ns fog nr nm nl Lx 1) (cwV 1 hts gX7_letter_X7_fail rfl rfl rfl (by decide +kernel) ⟨Nat.le_of_ble_eq_true rfl, Nat.le_of_ble_eq_true rfl⟩) hK hN hP hD hS frsMod 7 0 rfl rfl rfl hl.1 (Nat.le_of_ble_eq_true rfl) ⟨Nat.zero_le _, Nat.zero_le _⟩ dX7_letter_34 (fun H locs hP hD hS => ?_) rfl
      have hP : va_P D.1 vwCl (wMod D Ax 1 ns fog nr nm nl Lx) H := hP
      have hD : va_D A0 (wMod D Ax 1 ns fog nr nm nl Lx) := hD
      refine W.eq (g2 := F0 m 37 ls [.int 0]) rfl ?_
      exact eWi hx hb hr hlocks dX7_letter_37 hS hP (by (rw [ple, if_pos c1, if_neg c2]; first | done | rw [z2, if_pos (by assumption)] | rw [z2, if_neg (by assumption)] | rfl)) (by (rw [ple, if_pos c1, if_neg c2]; first | done | rw [z2, if_pos (by assumption)] | rw [z2, if_neg (by assumption)] | rfl))
    · have c2 := z2_n.mp c2
      refine lv_aload_n hx hb dX7_letter_23 rfl (lv_at hl 0 rfl) ?_
      refine lv_iload_n hx hb dX7_letter_24 rfl (lv_at hl 1 rfl) ?_
      refine lv_iload_n hx hb dX7_letter_25 rfl (lv_at hl 2 rfl) ?_
      refine kVp ⟨hx, hb, hml, hown, hts⟩ (c_X7_letterTold l D Ax 0 ns fog nr nm nl Lx p1 p2 (by assumption) (by assumption) (by assumption) (by assumption) (inB_vd (by omega) c1) (inB_v (b := 10) (by decide) c2)) (cwV 2 hts gX7_letter_X7_letterTold rfl rfl rfl (by decide +kernel) ⟨Nat.le_of_ble_eq_true rfl, Nat.le_of_ble_eq_true rfl⟩) hK hN hP hD Sb.self 7 0 rfl rfl rfl hl.1 (Nat.le_of_ble_eq_true rfl) ⟨Nat.zero_le _, Nat.zero_le _⟩ dX7_letter_26 ?_ rfl
      refine lv_goto (tgt := 37) hx hb dX7_letter_29 (by decide) ?_
      exact eWi hx hb hr hlocks dX7_letter_37 hS hP (by (rw [ple, if_pos c1, if_pos c2]; first | done | rw [z2, if_pos (by assumption)] | rw [z2, if_neg (by assumption)] | rfl)) (by (rw [ple, if_pos c1, if_pos c2]; first | done | rw [z2, if_pos (by assumption)] | rw [z2, if_neg (by assumption)] | rfl))
