set_option maxHeartbeats 4000000 in
set_option maxRecDepth 100000 in
theorem c_X5_hoursOf (l : Launch) (D : GG) (Aw : Nat → Nat) (Lw : Nat → Nat → Int32) (p1 : Int32) (p2 : Int32)  : Met l yX5_hoursOf wsX5_hoursOf ({ frames := 1, cells := 0, slots := 0, locals := 21 } : Room) (va_Pc [.ref (Aw 0), .int p1, .int p2] (wd D (wWays D Aw Lw))) (RP (.int (hoC Lw p1 p2))) 0 0 (fun _ => False) := by
  refine Met.ofW (cc := cX5_hoursOf) (maxL := 3) (ret := (some .int)) (by decide) rfl ?_
  intro p e s m args below meth c s₁ B hml hv
  obtain ⟨rfl, hP, hK, hD, hN⟩ := hv
  have hx := B.exec
  have hb := B.bytes
  have hr := B.returns
  have hts := atoms_spec (ws := wsX5_hoursOf) B.pre
  have hown : s.vm.findClass RX5 = some m.cls := findClass_of_methodNamed B.named
  have hlocks := B.notSynchronized
  have hinX5 : ∀ w ∈ u_ws RX5 TX5 2, w ∈ wsX5_hoursOf := by decide +kernel
  have hl := lv_entry ([.ref (Aw 0), .int p1, .int p2]) (n := 3) (Nat.le_of_ble_eq_true rfl)
  rw [lg_entry_eq]
  generalize (lg_sl ([.ref (Aw 0), .int p1, .int p2]) ++ List.replicate (3 - (lg_sl ([.ref (Aw 0), .int p1, .int p2])).length) Slot.unset).toArray = ls at hl ⊢
  have hl : lv_has ls 3 [(0, .ref (Aw 0)), (1, .int p1), (2, .int p2)] := hl
  refine lv_aload_n hx hb dX5_hoursOf_0 rfl (lv_at hl 0 rfl) ?_
  refine va_get (D := D.1) (ci := 5) (v := .ref (Aw 1)) (C := RX5) (T := TX5) (N := 2) hx hb hts hinX5 hown hK hP 0 rfl rfl 0 (by decide) (hts (.fieldLink RX5 14 "MountainPost$Ways" "hours" "LMountainPost$Row;") (List.mem_of_getElem? (i := 1) rfl)) (fun _ h9 => h9) rfl dX5_hoursOf_1 ?_
  refine lv_iload_n hx hb dX5_hoursOf_4 rfl (lv_at hl 1 rfl) ?_
  refine lv_bipush (v := 10) hx hb dX5_hoursOf_5 (by decide) ?_
  refine lv_imul hx hb dX5_hoursOf_7 ?_
  refine lv_iload_n hx hb dX5_hoursOf_8 rfl (lv_at hl 2 rfl) ?_
  refine lv_iadd hx hb dX5_hoursOf_9 ?_
  refine kVp ⟨hx, hb, hml, hown, hts⟩ (c_X3_get l D (Aw 1) (Aw 3) 100 (Lw 0) ((p1 * 10) + p2) (by decide)) (cwV 1 hts gX5_hoursOf_X3_get rfl rfl rfl (by decide +kernel) ⟨Nat.le_of_ble_eq_true rfl, Nat.le_of_ble_eq_true rfl⟩) hK hN hP hD sbWays0 3 0 rfl rfl rfl hl.1 (Nat.le_of_ble_eq_true rfl) ⟨Nat.zero_le _, Nat.zero_le _⟩ dX5_hoursOf_10 ?_ rfl
  exact eI hx hb hr hlocks dX5_hoursOf_13 (by rfl)

set_option maxHeartbeats 4000000 in
set_option maxRecDepth 100000 in
theorem c_X5_firstRoad (l : Launch) (D : GG) (Aw : Nat → Nat) (Lw : Nat → Nat → Int32) (p1 : Int32) (p2 : Int32)  : Met l yX5_firstRoad wsX5_firstRoad ({ frames := 1, cells := 0, slots := 0, locals := 21 } : Room) (va_Pc [.ref (Aw 0), .int p1, .int p2] (wd D (wWays D Aw Lw))) (RP (.int (fiC Lw p1 p2))) 0 0 (fun _ => False) := by
  refine Met.ofW (cc := cX5_firstRoad) (maxL := 3) (ret := (some .int)) (by decide) rfl ?_
  intro p e s m args below meth c s₁ B hml hv
  obtain ⟨rfl, hP, hK, hD, hN⟩ := hv
  have hx := B.exec
  have hb := B.bytes
  have hr := B.returns
  have hts := atoms_spec (ws := wsX5_firstRoad) B.pre
  have hown : s.vm.findClass RX5 = some m.cls := findClass_of_methodNamed B.named
  have hlocks := B.notSynchronized
  have hinX5 : ∀ w ∈ u_ws RX5 TX5 2, w ∈ wsX5_firstRoad := by decide +kernel
  have hl := lv_entry ([.ref (Aw 0), .int p1, .int p2]) (n := 3) (Nat.le_of_ble_eq_true rfl)
  rw [lg_entry_eq]
  generalize (lg_sl ([.ref (Aw 0), .int p1, .int p2]) ++ List.replicate (3 - (lg_sl ([.ref (Aw 0), .int p1, .int p2])).length) Slot.unset).toArray = ls at hl ⊢
  have hl : lv_has ls 3 [(0, .ref (Aw 0)), (1, .int p1), (2, .int p2)] := hl
  refine lv_aload_n hx hb dX5_firstRoad_0 rfl (lv_at hl 0 rfl) ?_
  refine va_get (D := D.1) (ci := 5) (v := .ref (Aw 2)) (C := RX5) (T := TX5) (N := 2) hx hb hts hinX5 hown hK hP 0 rfl rfl 1 (by decide) (hts (.fieldLink RX5 20 "MountainPost$Ways" "firsts" "LMountainPost$Row;") (List.mem_of_getElem? (i := 1) rfl)) (fun _ h9 => h9) rfl dX5_firstRoad_1 ?_
  refine lv_iload_n hx hb dX5_firstRoad_4 rfl (lv_at hl 1 rfl) ?_
  refine lv_bipush (v := 10) hx hb dX5_firstRoad_5 (by decide) ?_
  refine lv_imul hx hb dX5_firstRoad_7 ?_
  refine lv_iload_n hx hb dX5_firstRoad_8 rfl (lv_at hl 2 rfl) ?_
  refine lv_iadd hx hb dX5_firstRoad_9 ?_
  refine kVp ⟨hx, hb, hml, hown, hts⟩ (c_X3_get l D (Aw 2) (Aw 4) 100 (Lw 1) ((p1 * 10) + p2) (by decide)) (cwV 1 hts gX5_firstRoad_X3_get rfl rfl rfl (by decide +kernel) ⟨Nat.le_of_ble_eq_true rfl, Nat.le_of_ble_eq_true rfl⟩) hK hN hP hD sbWays1 3 0 rfl rfl rfl hl.1 (Nat.le_of_ble_eq_true rfl) ⟨Nat.zero_le _, Nat.zero_le _⟩ dX5_firstRoad_10 ?_ rfl
  exact eI hx hb hr hlocks dX5_firstRoad_13 (by rfl)

set_option maxHeartbeats 4000000 in
set_option maxRecDepth 100000 in
theorem c_X5_shorten (l : Launch) (D : GG) (Aw : Nat → Nat) (Lw : Nat → Nat → Int32) (p1 : Int32) (p2 : Int32) (p3 : Int32)  : Met l yX5_shorten wsX5_shorten ({ frames := 2, cells := 0, slots := 0, locals := 43 } : Room) (va_Pc [.ref (Aw 0), .int p1, .int p2, .int p3] (wd D (wWays D Aw Lw))) (QW D none (wWays D Aw (shoC Lw p1 p2 p3)) (own (wWays D Aw Lw))) 0 0 (own (wWays D Aw Lw)) := by
  refine Met.ofW (cc := cX5_shorten) (maxL := 4) (ret := none) (by decide) rfl ?_
  intro p e s m args below meth c s₁ B hml hv
  obtain ⟨rfl, hP, hK, hD, hN⟩ := hv
  have hx := B.exec
  have hb := B.bytes
  have hr := B.returns
  have hts := atoms_spec (ws := wsX5_shorten) B.pre
  have hown : s.vm.findClass RX5 = some m.cls := findClass_of_methodNamed B.named
  have hlocks := B.notSynchronized
  have hinX5 : ∀ w ∈ u_ws RX5 TX5 2, w ∈ wsX5_shorten := by decide +kernel
  have hS : va_S (own (wWays D Aw Lw)) s.heap s.heap [] := va_S.rf
  have hD : va_D (own (wWays D Aw Lw)) (wWays D Aw Lw) := toOwn hD
  generalize hAe : own (wWays D Aw Lw) = A0 at hD hS ⊢
  have hl := lv_entry ([.ref (Aw 0), .int p1, .int p2, .int p3]) (n := 4) (Nat.le_of_ble_eq_true rfl)
  rw [lg_entry_eq]
  generalize (lg_sl ([.ref (Aw 0), .int p1, .int p2, .int p3]) ++ List.replicate (4 - (lg_sl ([.ref (Aw 0), .int p1, .int p2, .int p3])).length) Slot.unset).toArray = ls at hl ⊢
  have hl : lv_has ls 4 [(0, .ref (Aw 0)), (1, .int p1), (2, .int p2), (3, .int p3)] := hl
  refine lv_iload_n hx hb dX5_shorten_0 rfl (lv_at hl 3 rfl) ?_
  refine lv_aload_n hx hb dX5_shorten_1 rfl (lv_at hl 0 rfl) ?_
  refine lv_iload_n hx hb dX5_shorten_2 rfl (lv_at hl 1 rfl) ?_
  refine lv_iload_n hx hb dX5_shorten_3 rfl (lv_at hl 2 rfl) ?_
  refine kVp ⟨hx, hb, hml, hown, hts⟩ (c_X5_hoursOf l D Aw Lw p1 p2) (cwV 2 hts gX5_shorten_X5_hoursOf rfl rfl rfl (by decide +kernel) ⟨Nat.le_of_ble_eq_true rfl, Nat.le_of_ble_eq_true rfl⟩) hK hN hP hD Sb.self 5 0 rfl rfl rfl hl.1 (Nat.le_of_ble_eq_true rfl) ⟨Nat.zero_le _, Nat.zero_le _⟩ dX5_shorten_4 ?_ rfl
  refine lv_icmp_ge (tgt := 24) hx hb dX5_shorten_7 (by decide) (fun c1 => ?_) (fun c1 => ?_)
  · exact eWv hx hb hr hlocks dX5_shorten_24 hS hP (by first | (rw [shoC, if_pos (by assumption)]; first | done | rfl) | (rw [shoC, if_neg (by assumption)]; first | done | rfl))
  · refine lv_aload_n hx hb dX5_shorten_10 rfl (lv_at hl 0 rfl) ?_
    refine va_get (D := D.1) (ci := 5) (v := .ref (Aw 1)) (C := RX5) (T := TX5) (N := 2) hx hb hts hinX5 hown hK hP 0 rfl rfl 0 (by decide) (hts (.fieldLink RX5 14 "MountainPost$Ways" "hours" "LMountainPost$Row;") (List.mem_of_getElem? (i := 1) rfl)) (fun _ h9 => h9) rfl dX5_shorten_11 ?_
    refine lv_iload_n hx hb dX5_shorten_14 rfl (lv_at hl 1 rfl) ?_
    refine lv_bipush (v := 10) hx hb dX5_shorten_15 (by decide) ?_
    refine lv_imul hx hb dX5_shorten_17 ?_
    refine lv_iload_n hx hb dX5_shorten_18 rfl (lv_at hl 2 rfl) ?_
    refine lv_iadd hx hb dX5_shorten_19 ?_
    refine lv_iload_n hx hb dX5_shorten_20 rfl (lv_at hl 3 rfl) ?_
    refine kVw ⟨hx, hb, hml, hown, hts⟩ (c_X3_set l D (Aw 1) (Aw 3) 100 (Lw 0) ((p1 * 10) + p2) p3 (by decide)) (cwV 2 hts gX5_shorten_X3_set rfl rfl rfl (by decide +kernel) ⟨Nat.le_of_ble_eq_true rfl, Nat.le_of_ble_eq_true rfl⟩) hK hN hP hD hS frWays0 3 0 rfl rfl rfl hl.1 (Nat.le_of_ble_eq_true rfl) ⟨Nat.zero_le _, Nat.zero_le _⟩ dX5_shorten_21 (fun H locs hP hD hS => ?_) rfl
    have hP : va_P D.1 vwCl (wWays D Aw (sr Lw 0 (rs 100 (Lw 0) ((p1 * 10) + p2) p3))) H := hP
    have hD : va_D A0 (wWays D Aw (sr Lw 0 (rs 100 (Lw 0) ((p1 * 10) + p2) p3))) := hD
    refine W.eq (g2 := F0 m 24 ls []) rfl ?_
    exact eWv hx hb hr hlocks dX5_shorten_24 hS hP (by first | (rw [shoC, if_pos (by assumption)]; first | done | rfl) | (rw [shoC, if_neg (by assumption)]; first | done | rfl))

set_option maxHeartbeats 4000000 in
set_option maxRecDepth 100000 in
theorem c_X5_joinWays (l : Launch) (D : GG) (Aw : Nat → Nat) (Lw : Nat → Nat → Int32) (n : Nat) (hn9 : n < 2 ^ 31) : Met l yX5_joinWays wsX5_joinWays ({ frames := 3, cells := 0, slots := 0, locals := 66 } : Room) (va_Pc [.ref (Aw 0), .int (nI n)] (wd D (wWays D Aw Lw))) (QW D none (wWays D Aw (jw1 Lw n n)) (own (wWays D Aw Lw))) 0 0 (own (wWays D Aw Lw)) := by
  refine Met.ofW (cc := cX5_joinWays) (maxL := 5) (ret := none) (by decide) rfl ?_
  intro p e s m args below meth c s₁ B hml hv
  obtain ⟨rfl, hP, hK, hD, hN⟩ := hv
  have hx := B.exec
  have hb := B.bytes
  have hr := B.returns
  have hts := atoms_spec (ws := wsX5_joinWays) B.pre
  have hown : s.vm.findClass RX5 = some m.cls := findClass_of_methodNamed B.named
  have hlocks := B.notSynchronized
  have hS : va_S (own (wWays D Aw Lw)) s.heap s.heap [] := va_S.rf
  have hD : va_D (own (wWays D Aw Lw)) (wWays D Aw Lw) := toOwn hD
  generalize hAe : own (wWays D Aw Lw) = A0 at hD hS ⊢
  have hl := lv_entry ([.ref (Aw 0), .int (nI n)]) (n := 5) (Nat.le_of_ble_eq_true rfl)
  rw [lg_entry_eq]
  generalize (lg_sl ([.ref (Aw 0), .int (nI n)]) ++ List.replicate (5 - (lg_sl ([.ref (Aw 0), .int (nI n)])).length) Slot.unset).toArray = ls at hl ⊢
  have hl : lv_has ls 5 [(0, .ref (Aw 0)), (1, .int (nI n))] := hl
  refine lv_iconst (v := 0) hx hb dX5_joinWays_0 (by decide) ?_
  refine lv_istore_n (lv' := [(2, .int 0), (0, .ref (Aw 0)), (1, .int (nI n))]) hx hb dX5_joinWays_1 rfl hl (by decide) rfl (fun ls hl => ?_)
  have lp1 : ∀ (j1 : Nat) (k1 : Nat) (hk1 : k1 + j1 = n) (x2_1 : Int32) (e2_1 : x2_1 = (nI k1)) (ywL_1 : Nat → Nat → Int32) (eywL_1 : ywL_1 = (jw1 Lw n k1)) (H : Heap) (locs : List Loc) (hP : va_P D.1 vwCl (wWays D Aw ywL_1) H) (hD : va_D A0 (wWays D Aw ywL_1)) (hS : va_S A0 s.heap H locs) (ls : Array Slot) (hl : lv_has ls 5 [(2, .int x2_1), (0, .ref (Aw 0)), (1, .int (nI n))]), W p l e (headSpec wsX5_joinWays ({ frames := 3, cells := 0, slots := 0, locals := 66 } : Room)).room s m ([.ref (Aw 0), .int (nI n)] : List Value).toArray below meth c H locs 0 0 (MQ below (QW D none (wWays D Aw (jw1 Lw n n)) A0) ([.ref (Aw 0), .int (nI n)] : List Value).toArray s 0 0 A0) (F0 m 2 ls []) := by
    intro j1
    induction j1 with
    | zero =>
      intro k1 hk1 x2_1 e2_1 ywL_1 eywL_1  H locs hP hD hS ls hl
      subst e2_1 eywL_1
      have hkN1 : n = k1 := (by omega)
      subst hkN1
      refine lv_iload_n hx hb dX5_joinWays_2 rfl (lv_at hl 0 rfl) ?_
      refine lv_iload_n hx hb dX5_joinWays_3 rfl (lv_at hl 2 rfl) ?_
      refine lv_icmp_ge (tgt := 62) hx hb dX5_joinWays_4 (by decide) (fun c2 => ?_) (fun c2 => ?_)
      · exact eWv hx hb hr hlocks dX5_joinWays_62 hS hP (by rfl)
      · exact (up0 rfl c2).elim
    | succ j1 ih =>
      intro k1 hk1 x2_1 e2_1 ywL_1 eywL_1  H locs hP hD hS ls hl
      subst e2_1 eywL_1
      have hlt1 : k1 < n := by omega
      have hlt : k1 < n := hlt1
      refine lv_iload_n hx hb dX5_joinWays_2 rfl (lv_at hl 0 rfl) ?_
      refine lv_iload_n hx hb dX5_joinWays_3 rfl (lv_at hl 2 rfl) ?_
      refine lv_icmp_ge (tgt := 62) hx hb dX5_joinWays_4 (by decide) (fun c3 => ?_) (fun c3 => ?_)
      · exact (upS hk1 hn9 c3).elim
      · refine lv_iconst (v := 0) hx hb dX5_joinWays_7 (by decide) ?_
        refine lv_istore_n (lv' := [(3, .int 0), (2, .int (nI k1)), (0, .ref (Aw 0)), (1, .int (nI n))]) hx hb dX5_joinWays_8 rfl hl (by decide) rfl (fun ls hl => ?_)
        have lp4 : ∀ (j4 : Nat) (k4 : Nat) (hk4 : k4 + j4 = n) (x3_4 : Int32) (e3_4 : x3_4 = (nI k4)) (ywL_4 : Nat → Nat → Int32) (eywL_4 : ywL_4 = (jw2 (jw1 Lw n k1) n k1 k4)) (H : Heap) (locs : List Loc) (hP : va_P D.1 vwCl (wWays D Aw ywL_4) H) (hD : va_D A0 (wWays D Aw ywL_4)) (hS : va_S A0 s.heap H locs) (ls : Array Slot) (hl : lv_has ls 5 [(3, .int x3_4), (2, .int (nI k1)), (0, .ref (Aw 0)), (1, .int (nI n))]), W p l e (headSpec wsX5_joinWays ({ frames := 3, cells := 0, slots := 0, locals := 66 } : Room)).room s m ([.ref (Aw 0), .int (nI n)] : List Value).toArray below meth c H locs 0 0 (MQ below (QW D none (wWays D Aw (jw1 Lw n n)) A0) ([.ref (Aw 0), .int (nI n)] : List Value).toArray s 0 0 A0) (F0 m 9 ls []) := by
          intro j4
          induction j4 with
          | zero =>
            intro k4 hk4 x3_4 e3_4 ywL_4 eywL_4  H locs hP hD hS ls hl
            subst e3_4 eywL_4
            have hkN4 : n = k4 := (by omega)
            subst hkN4
            refine lv_iload_n hx hb dX5_joinWays_9 rfl (lv_at hl 0 rfl) ?_
            refine lv_iload_n hx hb dX5_joinWays_10 rfl (lv_at hl 3 rfl) ?_
            refine lv_icmp_ge (tgt := 56) hx hb dX5_joinWays_11 (by decide) (fun c5 => ?_) (fun c5 => ?_)
            · refine lv_iinc (v := ((nI k1) + 1)) (lv' := [(2, .int ((nI k1) + 1)), (3, .int (nI n)), (0, .ref (Aw 0)), (1, .int (nI n))]) hx hb dX5_joinWays_56 hl (k := 1) rfl rfl (by decide) rfl (fun ls hl => ?_)
              refine lv_goto (tgt := 2) hx hb dX5_joinWays_59 (by decide) ?_
              exact ih (k1 + 1) (by omega) _ (nI_1 k1) _ rfl _ _ hP hD hS ls (lv_sub hl [0, 2, 3] rfl)
            · exact (up0 rfl c5).elim
          | succ j4 ih =>
            intro k4 hk4 x3_4 e3_4 ywL_4 eywL_4  H locs hP hD hS ls hl
            subst e3_4 eywL_4
            have hlt4 : k4 < n := by omega
            have hlt : k4 < n := hlt4
            refine lv_iload_n hx hb dX5_joinWays_9 rfl (lv_at hl 0 rfl) ?_
            refine lv_iload_n hx hb dX5_joinWays_10 rfl (lv_at hl 3 rfl) ?_
            refine lv_icmp_ge (tgt := 56) hx hb dX5_joinWays_11 (by decide) (fun c6 => ?_) (fun c6 => ?_)
            · exact (upS hk4 hn9 c6).elim
            · refine lv_iconst (v := 0) hx hb dX5_joinWays_14 (by decide) ?_
              refine lv_istore (lv' := [(4, .int 0), (3, .int (nI k4)), (2, .int (nI k1)), (0, .ref (Aw 0)), (1, .int (nI n))]) hx hb dX5_joinWays_15 hl (by decide) rfl (fun ls hl => ?_)
              have lp7 : ∀ (j7 : Nat) (k7 : Nat) (hk7 : k7 + j7 = n) (x4_7 : Int32) (e4_7 : x4_7 = (nI k7)) (ywL_7 : Nat → Nat → Int32) (eywL_7 : ywL_7 = (jw3 (jw2 (jw1 Lw n k1) n k1 k4) k1 k4 k7)) (H : Heap) (locs : List Loc) (hP : va_P D.1 vwCl (wWays D Aw ywL_7) H) (hD : va_D A0 (wWays D Aw ywL_7)) (hS : va_S A0 s.heap H locs) (ls : Array Slot) (hl : lv_has ls 5 [(4, .int x4_7), (3, .int (nI k4)), (2, .int (nI k1)), (0, .ref (Aw 0)), (1, .int (nI n))]), W p l e (headSpec wsX5_joinWays ({ frames := 3, cells := 0, slots := 0, locals := 66 } : Room)).room s m ([.ref (Aw 0), .int (nI n)] : List Value).toArray below meth c H locs 0 0 (MQ below (QW D none (wWays D Aw (jw1 Lw n n)) A0) ([.ref (Aw 0), .int (nI n)] : List Value).toArray s 0 0 A0) (F0 m 17 ls []) := by
                intro j7
                induction j7 with
                | zero =>
                  intro k7 hk7 x4_7 e4_7 ywL_7 eywL_7  H locs hP hD hS ls hl
                  subst e4_7 eywL_7
                  have hkN7 : n = k7 := (by omega)
                  subst hkN7
                  refine lv_iload hx hb dX5_joinWays_17 (lv_at hl 0 rfl) ?_
                  refine lv_iload_n hx hb dX5_joinWays_19 rfl (lv_at hl 4 rfl) ?_
                  refine lv_icmp_ge (tgt := 50) hx hb dX5_joinWays_20 (by decide) (fun c8 => ?_) (fun c8 => ?_)
                  · refine lv_iinc (v := ((nI k4) + 1)) (lv' := [(3, .int ((nI k4) + 1)), (4, .int (nI n)), (2, .int (nI k1)), (0, .ref (Aw 0)), (1, .int (nI n))]) hx hb dX5_joinWays_50 hl (k := 1) rfl rfl (by decide) rfl (fun ls hl => ?_)
                    refine lv_goto (tgt := 9) hx hb dX5_joinWays_53 (by decide) ?_
                    exact ih (k4 + 1) (by omega) _ (nI_1 k4) _ rfl _ _ hP hD hS ls (lv_sub hl [0, 2, 3, 4] rfl)
                  · exact (up0 rfl c8).elim
                | succ j7 ih =>
                  intro k7 hk7 x4_7 e4_7 ywL_7 eywL_7  H locs hP hD hS ls hl
                  subst e4_7 eywL_7
                  have hlt7 : k7 < n := by omega
                  have hlt : k7 < n := hlt7
                  refine lv_iload hx hb dX5_joinWays_17 (lv_at hl 0 rfl) ?_
                  refine lv_iload_n hx hb dX5_joinWays_19 rfl (lv_at hl 4 rfl) ?_
                  refine lv_icmp_ge (tgt := 50) hx hb dX5_joinWays_20 (by decide) (fun c9 => ?_) (fun c9 => ?_)
                  · exact (upS hk7 hn9 c9).elim
                  · refine lv_aload_n hx hb dX5_joinWays_23 rfl (lv_at hl 3 rfl) ?_
                    refine lv_iload_n hx hb dX5_joinWays_24 rfl (lv_at hl 1 rfl) ?_
                    refine lv_iload hx hb dX5_joinWays_25 (lv_at hl 0 rfl) ?_
                    refine lv_aload_n hx hb dX5_joinWays_27 rfl (lv_at hl 3 rfl) ?_
                    refine lv_iload_n hx hb dX5_joinWays_28 rfl (lv_at hl 1 rfl) ?_
                    refine lv_iload_n hx hb dX5_joinWays_29 rfl (lv_at hl 2 rfl) ?_
                    refine kVp ⟨hx, hb, hml, hown, hts⟩ (c_X5_hoursOf l D Aw (jw3 (jw2 (jw1 Lw n k1) n k1 k4) k1 k4 k7) (nI k4) (nI k1)) (cwV 2 hts gX5_joinWays_X5_hoursOf rfl rfl rfl (by decide +kernel) ⟨Nat.le_of_ble_eq_true rfl, Nat.le_of_ble_eq_true rfl⟩) hK hN hP hD Sb.self 5 0 rfl rfl rfl hl.1 (Nat.le_of_ble_eq_true rfl) ⟨Nat.zero_le _, Nat.zero_le _⟩ dX5_joinWays_30 ?_ rfl
                    refine lv_aload_n hx hb dX5_joinWays_33 rfl (lv_at hl 3 rfl) ?_
                    refine lv_iload_n hx hb dX5_joinWays_34 rfl (lv_at hl 2 rfl) ?_
                    refine lv_iload hx hb dX5_joinWays_35 (lv_at hl 0 rfl) ?_
                    refine kVp ⟨hx, hb, hml, hown, hts⟩ (c_X5_hoursOf l D Aw (jw3 (jw2 (jw1 Lw n k1) n k1 k4) k1 k4 k7) (nI k1) (nI k7)) (cwV 2 hts gX5_joinWays_X5_hoursOf rfl rfl rfl (by decide +kernel) ⟨Nat.le_of_ble_eq_true rfl, Nat.le_of_ble_eq_true rfl⟩) hK hN hP hD Sb.self 5 0 rfl rfl rfl hl.1 (Nat.le_of_ble_eq_true rfl) ⟨Nat.zero_le _, Nat.zero_le _⟩ dX5_joinWays_37 ?_ rfl
                    refine lv_iadd hx hb dX5_joinWays_40 ?_
                    refine kVw ⟨hx, hb, hml, hown, hts⟩ (c_X5_shorten l D Aw (jw3 (jw2 (jw1 Lw n k1) n k1 k4) k1 k4 k7) (nI k4) (nI k7) ((hoC (jw3 (jw2 (jw1 Lw n k1) n k1 k4) k1 k4 k7) (nI k4) (nI k1)) + (hoC (jw3 (jw2 (jw1 Lw n k1) n k1 k4) k1 k4 k7) (nI k1) (nI k7)))) (cwV 3 hts gX5_joinWays_X5_shorten rfl rfl rfl (by decide +kernel) ⟨Nat.le_of_ble_eq_true rfl, Nat.le_of_ble_eq_true rfl⟩) hK hN hP hD hS (Fr.self rfl) 5 0 rfl rfl rfl hl.1 (Nat.le_of_ble_eq_true rfl) ⟨Nat.zero_le _, Nat.zero_le _⟩ dX5_joinWays_41 (fun H locs hP hD hS => ?_) rfl
                    have hP : va_P D.1 vwCl (wWays D Aw (shoC (jw3 (jw2 (jw1 Lw n k1) n k1 k4) k1 k4 k7) (nI k4) (nI k7) ((hoC (jw3 (jw2 (jw1 Lw n k1) n k1 k4) k1 k4 k7) (nI k4) (nI k1)) + (hoC (jw3 (jw2 (jw1 Lw n k1) n k1 k4) k1 k4 k7) (nI k1) (nI k7))))) H := hP
                    have hD : va_D A0 (wWays D Aw (shoC (jw3 (jw2 (jw1 Lw n k1) n k1 k4) k1 k4 k7) (nI k4) (nI k7) ((hoC (jw3 (jw2 (jw1 Lw n k1) n k1 k4) k1 k4 k7) (nI k4) (nI k1)) + (hoC (jw3 (jw2 (jw1 Lw n k1) n k1 k4) k1 k4 k7) (nI k1) (nI k7))))) := hD
                    refine W.eq (g2 := F0 m 44 ls []) rfl ?_
                    refine lv_iinc (v := ((nI k7) + 1)) (lv' := [(4, .int ((nI k7) + 1)), (3, .int (nI k4)), (2, .int (nI k1)), (0, .ref (Aw 0)), (1, .int (nI n))]) hx hb dX5_joinWays_44 hl (k := 0) rfl rfl (by decide) rfl (fun ls hl => ?_)
                    refine lv_goto (tgt := 17) hx hb dX5_joinWays_47 (by decide) ?_
                    exact ih (k7 + 1) (by omega) _ (nI_1 k7) _ rfl _ _ hP hD hS ls (lv_sub hl [0, 1, 2, 3, 4] rfl)
              exact lp7 n 0 (by omega) _ nI_0.symm _ rfl _ _ hP hD hS ls (lv_sub hl [0, 1, 2, 3, 4] rfl)
        exact lp4 n 0 (by omega) _ nI_0.symm _ rfl _ _ hP hD hS ls (lv_sub hl [0, 1, 2, 3] rfl)
  exact lp1 n 0 (by omega) _ nI_0.symm _ rfl _ _ hP hD hS ls (lv_sub hl [0, 1, 2] rfl)

set_option maxHeartbeats 4000000 in
set_option maxRecDepth 100000 in
theorem c_X5_beginWith (l : Launch) (D : GG) (Aw : Nat → Nat) (Lw : Nat → Nat → Int32) (Ad : Nat → Nat) (nsd : Nat) (fogd : Int32) (nrd : Nat) (Ld : Nat → Nat → Int32) (p2 : Int32) (p3 : Int32) (hns : nsd < 2 ^ 31) : Met l yX5_beginWith wsX5_beginWith ({ frames := 2, cells := 0, slots := 0, locals := 45 } : Room) (va_Pc [.ref (Aw 0), .ref (Ad 0), .int p2, .int p3] (wd D ((wWays D Aw Lw) ++ (wLand D Ad nsd fogd nrd Ld)))) (QW D none ((wWays D Aw (bgF Lw Ld p2 p3 nsd)) ++ (wLand D Ad nsd fogd nrd Ld)) (own ((wWays D Aw Lw) ++ (wLand D Ad nsd fogd nrd Ld)))) 0 0 (own ((wWays D Aw Lw) ++ (wLand D Ad nsd fogd nrd Ld))) := by
  refine Met.ofW (cc := cX5_beginWith) (maxL := 7) (ret := none) (by decide) rfl ?_
  intro p e s m args below meth c s₁ B hml hv
  obtain ⟨rfl, hP, hK, hD, hN⟩ := hv
  have hx := B.exec
  have hb := B.bytes
  have hr := B.returns
  have hts := atoms_spec (ws := wsX5_beginWith) B.pre
  have hown : s.vm.findClass RX5 = some m.cls := findClass_of_methodNamed B.named
  have hlocks := B.notSynchronized
  have hinX0 : ∀ w ∈ u_ws RX0 TX0 8, w ∈ wsX5_beginWith := by decide +kernel
  have hinX5 : ∀ w ∈ u_ws RX5 TX5 2, w ∈ wsX5_beginWith := by decide +kernel
  have hS : va_S (own ((wWays D Aw Lw) ++ (wLand D Ad nsd fogd nrd Ld))) s.heap s.heap [] := va_S.rf
  have hD : va_D (own ((wWays D Aw Lw) ++ (wLand D Ad nsd fogd nrd Ld))) ((wWays D Aw Lw) ++ (wLand D Ad nsd fogd nrd Ld)) := toOwn hD
  generalize hAe : own ((wWays D Aw Lw) ++ (wLand D Ad nsd fogd nrd Ld)) = A0 at hD hS ⊢
  have hl := lv_entry ([.ref (Aw 0), .ref (Ad 0), .int p2, .int p3]) (n := 7) (Nat.le_of_ble_eq_true rfl)
  rw [lg_entry_eq]
  generalize (lg_sl ([.ref (Aw 0), .ref (Ad 0), .int p2, .int p3]) ++ List.replicate (7 - (lg_sl ([.ref (Aw 0), .ref (Ad 0), .int p2, .int p3])).length) Slot.unset).toArray = ls at hl ⊢
  have hl : lv_has ls 7 [(0, .ref (Aw 0)), (1, .ref (Ad 0)), (2, .int p2), (3, .int p3)] := hl
  refine lv_aload_n hx hb dX5_beginWith_0 rfl (lv_at hl 1 rfl) ?_
  refine lv_iload_n hx hb dX5_beginWith_1 rfl (lv_at hl 2 rfl) ?_
  refine lv_iload_n hx hb dX5_beginWith_2 rfl (lv_at hl 3 rfl) ?_
  refine kVp ⟨hx, hb, hml, hown, hts⟩ (c_X0_otherEnd l D Ad nsd fogd nrd Ld p2 p3) (cwV 2 hts gX5_beginWith_X0_otherEnd rfl rfl rfl (by decide +kernel) ⟨Nat.le_of_ble_eq_true rfl, Nat.le_of_ble_eq_true rfl⟩) hK hN hP hD (Sb.r Sb.self) 0 0 rfl rfl rfl hl.1 (Nat.le_of_ble_eq_true rfl) ⟨Nat.zero_le _, Nat.zero_le _⟩ dX5_beginWith_3 ?_ rfl
  refine lv_istore (lv' := [(4, .int (othC Ld p2 p3)), (0, .ref (Aw 0)), (1, .ref (Ad 0)), (2, .int p2), (3, .int p3)]) hx hb dX5_beginWith_6 hl (by decide) rfl (fun ls hl => ?_)
  refine lv_aload_n hx hb dX5_beginWith_8 rfl (lv_at hl 2 rfl) ?_
  refine lv_iload_n hx hb dX5_beginWith_9 rfl (lv_at hl 3 rfl) ?_
  refine lv_iload_n hx hb dX5_beginWith_10 rfl (lv_at hl 4 rfl) ?_
  refine lv_iload hx hb dX5_beginWith_11 (lv_at hl 0 rfl) ?_
  refine kVp ⟨hx, hb, hml, hown, hts⟩ (c_X0_hoursBetween l D Ad nsd fogd nrd Ld p2 p3 (othC Ld p2 p3)) (cwV 3 hts gX5_beginWith_X0_hoursBetween rfl rfl rfl (by decide +kernel) ⟨Nat.le_of_ble_eq_true rfl, Nat.le_of_ble_eq_true rfl⟩) hK hN hP hD (Sb.r Sb.self) 0 0 rfl rfl rfl hl.1 (Nat.le_of_ble_eq_true rfl) ⟨Nat.zero_le _, Nat.zero_le _⟩ dX5_beginWith_13 ?_ rfl
  refine lv_istore (lv' := [(5, .int (hrsC Ld p2 p3 (othC Ld p2 p3))), (4, .int (othC Ld p2 p3)), (0, .ref (Aw 0)), (1, .ref (Ad 0)), (2, .int p2), (3, .int p3)]) hx hb dX5_beginWith_16 hl (by decide) rfl (fun ls hl => ?_)
  refine lv_iconst (v := 0) hx hb dX5_beginWith_18 (by decide) ?_
  refine lv_istore (lv' := [(6, .int 0), (5, .int (hrsC Ld p2 p3 (othC Ld p2 p3))), (4, .int (othC Ld p2 p3)), (0, .ref (Aw 0)), (1, .ref (Ad 0)), (2, .int p2), (3, .int p3)]) hx hb dX5_beginWith_19 hl (by decide) rfl (fun ls hl => ?_)
  have lp1 : ∀ (j1 : Nat) (k1 : Nat) (hk1 : k1 + j1 = nsd) (x6_1 : Int32) (e6_1 : x6_1 = (nI k1)) (ywL_1 : Nat → Nat → Int32) (eywL_1 : ywL_1 = (bgF Lw Ld p2 p3 k1)) (H : Heap) (locs : List Loc) (hP : va_P D.1 vwCl ((wWays D Aw ywL_1) ++ (wLand D Ad nsd fogd nrd Ld)) H) (hD : va_D A0 ((wWays D Aw ywL_1) ++ (wLand D Ad nsd fogd nrd Ld))) (hS : va_S A0 s.heap H locs) (ls : Array Slot) (hl : lv_has ls 7 [(6, .int x6_1), (5, .int (hrsC Ld p2 p3 (othC Ld p2 p3))), (4, .int (othC Ld p2 p3)), (0, .ref (Aw 0)), (1, .ref (Ad 0)), (2, .int p2), (3, .int p3)]), W p l e (headSpec wsX5_beginWith ({ frames := 2, cells := 0, slots := 0, locals := 45 } : Room)).room s m ([.ref (Aw 0), .ref (Ad 0), .int p2, .int p3] : List Value).toArray below meth c H locs 0 0 (MQ below (QW D none ((wWays D Aw (bgF Lw Ld p2 p3 nsd)) ++ (wLand D Ad nsd fogd nrd Ld)) A0) ([.ref (Aw 0), .ref (Ad 0), .int p2, .int p3] : List Value).toArray s 0 0 A0) (F0 m 21 ls []) := by
    intro j1
    induction j1 with
    | zero =>
      intro k1 hk1 x6_1 e6_1 ywL_1 eywL_1  H locs hP hD hS ls hl
      subst e6_1 eywL_1
      have hkN1 : nsd = k1 := (by omega)
      subst hkN1
      refine lv_iload hx hb dX5_beginWith_21 (lv_at hl 0 rfl) ?_
      refine lv_aload_n hx hb dX5_beginWith_23 rfl (lv_at hl 4 rfl) ?_
      refine va_getN (D := D.1) (ci := 0) (v := .int (nI nsd)) (C := RX0) (T := TX0) (N := 8) hx hb hts hinX0 hown hK (sP (Sb.r Sb.self) hP) 0 rfl rfl 0 (by decide) (hN.f 45 rfl) (fun _ h9 => h9) rfl dX5_beginWith_24 ?_
      refine lv_icmp_ge (tgt := 72) hx hb dX5_beginWith_27 (by decide) (fun c2 => ?_) (fun c2 => ?_)
      · exact eWv hx hb hr hlocks dX5_beginWith_72 hS hP (by rfl)
      · exact (up0 rfl c2).elim
    | succ j1 ih =>
      intro k1 hk1 x6_1 e6_1 ywL_1 eywL_1  H locs hP hD hS ls hl
      subst e6_1 eywL_1
      have hlt1 : k1 < nsd := by omega
      have hlt : k1 < nsd := hlt1
      refine lv_iload hx hb dX5_beginWith_21 (lv_at hl 0 rfl) ?_
      refine lv_aload_n hx hb dX5_beginWith_23 rfl (lv_at hl 4 rfl) ?_
      refine va_getN (D := D.1) (ci := 0) (v := .int (nI nsd)) (C := RX0) (T := TX0) (N := 8) hx hb hts hinX0 hown hK (sP (Sb.r Sb.self) hP) 0 rfl rfl 0 (by decide) (hN.f 45 rfl) (fun _ h9 => h9) rfl dX5_beginWith_24 ?_
      refine lv_icmp_ge (tgt := 72) hx hb dX5_beginWith_27 (by decide) (fun c3 => ?_) (fun c3 => ?_)
      · exact (upS hk1 hns c3).elim
      · refine lv_iload hx hb dX5_beginWith_30 (lv_at hl 1 rfl) ?_
        refine lv_aload_n hx hb dX5_beginWith_32 rfl (lv_at hl 3 rfl) ?_
        refine lv_iload hx hb dX5_beginWith_33 (lv_at hl 2 rfl) ?_
        refine lv_iload hx hb dX5_beginWith_35 (lv_at hl 0 rfl) ?_
        refine kVp ⟨hx, hb, hml, hown, hts⟩ (c_X5_hoursOf l D Aw (bgF Lw Ld p2 p3 k1) (othC Ld p2 p3) (nI k1)) (cwV 2 hts gX5_beginWith_X5_hoursOf rfl rfl rfl (by decide +kernel) ⟨Nat.le_of_ble_eq_true rfl, Nat.le_of_ble_eq_true rfl⟩) hK hN hP hD (Sb.l Sb.self) 5 0 rfl rfl rfl hl.1 (Nat.le_of_ble_eq_true rfl) ⟨Nat.zero_le _, Nat.zero_le _⟩ dX5_beginWith_37 ?_ rfl
        refine lv_iadd hx hb dX5_beginWith_40 ?_
        refine lv_aload_n hx hb dX5_beginWith_41 rfl (lv_at hl 3 rfl) ?_
        refine lv_iload_n hx hb dX5_beginWith_42 rfl (lv_at hl 6 rfl) ?_
        refine lv_iload hx hb dX5_beginWith_43 (lv_at hl 0 rfl) ?_
        refine kVp ⟨hx, hb, hml, hown, hts⟩ (c_X5_hoursOf l D Aw (bgF Lw Ld p2 p3 k1) p3 (nI k1)) (cwV 2 hts gX5_beginWith_X5_hoursOf rfl rfl rfl (by decide +kernel) ⟨Nat.le_of_ble_eq_true rfl, Nat.le_of_ble_eq_true rfl⟩) hK hN hP hD (Sb.l Sb.self) 5 0 rfl rfl rfl hl.1 (Nat.le_of_ble_eq_true rfl) ⟨Nat.zero_le _, Nat.zero_le _⟩ dX5_beginWith_45 ?_ rfl
        refine lv_icmp_ne (tgt := 66) hx hb dX5_beginWith_48 (by decide) (fun c4 => ?_) (fun c4 => ?_)
        · refine lv_iinc (v := ((nI k1) + 1)) (lv' := [(6, .int ((nI k1) + 1)), (5, .int (hrsC Ld p2 p3 (othC Ld p2 p3))), (4, .int (othC Ld p2 p3)), (0, .ref (Aw 0)), (1, .ref (Ad 0)), (2, .int p2), (3, .int p3)]) hx hb dX5_beginWith_66 hl (k := 0) rfl rfl (by decide) rfl (fun ls hl => ?_)
          refine lv_goto (tgt := 21) hx hb dX5_beginWith_69 (by decide) ?_
          exact ih (k1 + 1) (by omega) _ (nI_1 k1) _ (by first | (rw [bgF, if_neg (by assumption)]; first | done | rfl) | (rw [bgF, if_pos (by assumption)]; first | done | rfl)) _ _ hP hD hS ls (lv_sub hl [0, 1, 2, 3, 4, 5, 6] rfl)
        · refine lv_aload_n hx hb dX5_beginWith_51 rfl (lv_at hl 3 rfl) ?_
          refine va_get (D := D.1) (ci := 5) (v := .ref (Aw 2)) (C := RX5) (T := TX5) (N := 2) hx hb hts hinX5 hown hK (sP (Sb.l Sb.self) hP) 0 rfl rfl 1 (by decide) (hts (.fieldLink RX5 20 "MountainPost$Ways" "firsts" "LMountainPost$Row;") (List.mem_of_getElem? (i := 1) rfl)) (fun _ h9 => h9) rfl dX5_beginWith_52 ?_
          refine lv_iload_n hx hb dX5_beginWith_55 rfl (lv_at hl 6 rfl) ?_
          refine lv_bipush (v := 10) hx hb dX5_beginWith_56 (by decide) ?_
          refine lv_imul hx hb dX5_beginWith_58 ?_
          refine lv_iload hx hb dX5_beginWith_59 (lv_at hl 0 rfl) ?_
          refine lv_iadd hx hb dX5_beginWith_61 ?_
          refine lv_iload_n hx hb dX5_beginWith_62 rfl (lv_at hl 5 rfl) ?_
          refine kVw ⟨hx, hb, hml, hown, hts⟩ (c_X3_set l D (Aw 2) (Aw 4) 100 ((bgF Lw Ld p2 p3 k1) 1) ((p3 * 10) + (nI k1)) p2 (by decide)) (cwV 2 hts gX5_beginWith_X3_set rfl rfl rfl (by decide +kernel) ⟨Nat.le_of_ble_eq_true rfl, Nat.le_of_ble_eq_true rfl⟩) hK hN hP hD hS (Fr.l frWays1) 3 0 rfl rfl rfl hl.1 (Nat.le_of_ble_eq_true rfl) ⟨Nat.zero_le _, Nat.zero_le _⟩ dX5_beginWith_63 (fun H locs hP hD hS => ?_) rfl
          have hP : va_P D.1 vwCl ((wWays D Aw (sr (bgF Lw Ld p2 p3 k1) 1 (rs 100 ((bgF Lw Ld p2 p3 k1) 1) ((p3 * 10) + (nI k1)) p2))) ++ (wLand D Ad nsd fogd nrd Ld)) H := hP
          have hD : va_D A0 ((wWays D Aw (sr (bgF Lw Ld p2 p3 k1) 1 (rs 100 ((bgF Lw Ld p2 p3 k1) 1) ((p3 * 10) + (nI k1)) p2))) ++ (wLand D Ad nsd fogd nrd Ld)) := hD
          refine W.eq (g2 := F0 m 66 ls []) rfl ?_
          refine lv_iinc (v := ((nI k1) + 1)) (lv' := [(6, .int ((nI k1) + 1)), (5, .int (hrsC Ld p2 p3 (othC Ld p2 p3))), (4, .int (othC Ld p2 p3)), (0, .ref (Aw 0)), (1, .ref (Ad 0)), (2, .int p2), (3, .int p3)]) hx hb dX5_beginWith_66 hl (k := 0) rfl rfl (by decide) rfl (fun ls hl => ?_)
          refine lv_goto (tgt := 21) hx hb dX5_beginWith_69 (by decide) ?_
          exact ih (k1 + 1) (by omega) _ (nI_1 k1) _ (by first | (rw [bgF, if_neg (by assumption)]; first | done | rfl) | (rw [bgF, if_pos (by assumption)]; first | done | rfl)) _ _ hP hD hS ls (lv_sub hl [0, 1, 2, 3, 4, 5, 6] rfl)
  exact lp1 nsd 0 (by omega) _ nI_0.symm _ rfl _ _ hP hD hS ls (lv_sub hl [0, 1, 2, 3, 4, 5, 6] rfl)

set_option maxHeartbeats 4000000 in
set_option maxRecDepth 100000 in
theorem c_X5_find (l : Launch) (D : GG) (Aw : Nat → Nat) (Lw : Nat → Nat → Int32) (Am : Nat → Nat) (nm : Nat) (Lm : Nat → Nat → Int32) (Ad : Nat → Nat) (nsd : Nat) (fogd : Int32) (nrd : Nat) (Ld : Nat → Nat → Int32) (hns : nsd < 2 ^ 31) (hnr : nrd < 2 ^ 31) (hm : nm < 2 ^ 31) : Met l yX5_find wsX5_find ({ frames := 4, cells := 0, slots := 0, locals := 90 } : Room) (va_Pc [.ref (Aw 0), .ref (Ad 0), .ref (Am 0)] (wd D ((wWays D Aw Lw) ++ ((wMul D Am nm Lm) ++ (wLand D Ad nsd fogd nrd Ld))))) (QW D none ((wWays D Aw (findC Lw Ld Lm nsd nrd nm)) ++ ((wMul D Am nm Lm) ++ (wLand D Ad nsd fogd nrd Ld))) (own ((wWays D Aw Lw) ++ ((wMul D Am nm Lm) ++ (wLand D Ad nsd fogd nrd Ld))))) 0 0 (own ((wWays D Aw Lw) ++ ((wMul D Am nm Lm) ++ (wLand D Ad nsd fogd nrd Ld)))) := by
  refine Met.ofW (cc := cX5_find) (maxL := 6) (ret := none) (by decide) rfl ?_
  intro p e s m args below meth c s₁ B hml hv
  obtain ⟨rfl, hP, hK, hD, hN⟩ := hv
  have hx := B.exec
  have hb := B.bytes
  have hr := B.returns
  have hts := atoms_spec (ws := wsX5_find) B.pre
  have hown : s.vm.findClass RX5 = some m.cls := findClass_of_methodNamed B.named
  have hlocks := B.notSynchronized
  have hinX0 : ∀ w ∈ u_ws RX0 TX0 8, w ∈ wsX5_find := by decide +kernel
  have hS : va_S (own ((wWays D Aw Lw) ++ ((wMul D Am nm Lm) ++ (wLand D Ad nsd fogd nrd Ld)))) s.heap s.heap [] := va_S.rf
  have hD : va_D (own ((wWays D Aw Lw) ++ ((wMul D Am nm Lm) ++ (wLand D Ad nsd fogd nrd Ld)))) ((wWays D Aw Lw) ++ ((wMul D Am nm Lm) ++ (wLand D Ad nsd fogd nrd Ld))) := toOwn hD
  generalize hAe : own ((wWays D Aw Lw) ++ ((wMul D Am nm Lm) ++ (wLand D Ad nsd fogd nrd Ld))) = A0 at hD hS ⊢
  have hl := lv_entry ([.ref (Aw 0), .ref (Ad 0), .ref (Am 0)]) (n := 6) (Nat.le_of_ble_eq_true rfl)
  rw [lg_entry_eq]
  generalize (lg_sl ([.ref (Aw 0), .ref (Ad 0), .ref (Am 0)]) ++ List.replicate (6 - (lg_sl ([.ref (Aw 0), .ref (Ad 0), .ref (Am 0)])).length) Slot.unset).toArray = ls at hl ⊢
  have hl : lv_has ls 6 [(0, .ref (Aw 0)), (1, .ref (Ad 0)), (2, .ref (Am 0))] := hl
  refine lv_iconst (v := 0) hx hb dX5_find_0 (by decide) ?_
  refine lv_istore_n (lv' := [(3, .int 0), (0, .ref (Aw 0)), (1, .ref (Ad 0)), (2, .ref (Am 0))]) hx hb dX5_find_1 rfl hl (by decide) rfl (fun ls hl => ?_)
  have lp1 : ∀ (j1 : Nat) (k1 : Nat) (hk1 : k1 + j1 = nrd) (x3_1 : Int32) (e3_1 : x3_1 = (nI k1)) (ywL_1 : Nat → Nat → Int32) (eywL_1 : ywL_1 = (fnd1 Lw Ld Lm nm k1)) (H : Heap) (locs : List Loc) (hP : va_P D.1 vwCl ((wWays D Aw ywL_1) ++ ((wMul D Am nm Lm) ++ (wLand D Ad nsd fogd nrd Ld))) H) (hD : va_D A0 ((wWays D Aw ywL_1) ++ ((wMul D Am nm Lm) ++ (wLand D Ad nsd fogd nrd Ld)))) (hS : va_S A0 s.heap H locs) (ls : Array Slot) (hl : lv_has ls 6 [(3, .int x3_1), (0, .ref (Aw 0)), (1, .ref (Ad 0)), (2, .ref (Am 0))]), W p l e (headSpec wsX5_find ({ frames := 4, cells := 0, slots := 0, locals := 90 } : Room)).room s m ([.ref (Aw 0), .ref (Ad 0), .ref (Am 0)] : List Value).toArray below meth c H locs 0 0 (MQ below (QW D none ((wWays D Aw (findC Lw Ld Lm nsd nrd nm)) ++ ((wMul D Am nm Lm) ++ (wLand D Ad nsd fogd nrd Ld))) A0) ([.ref (Aw 0), .ref (Ad 0), .ref (Am 0)] : List Value).toArray s 0 0 A0) (F0 m 2 ls []) := by
    intro j1
    induction j1 with
    | zero =>
      intro k1 hk1 x3_1 e3_1 ywL_1 eywL_1  H locs hP hD hS ls hl
      subst e3_1 eywL_1
      have hkN1 : nrd = k1 := (by omega)
      subst hkN1
      refine lv_iload_n hx hb dX5_find_2 rfl (lv_at hl 0 rfl) ?_
      refine lv_aload_n hx hb dX5_find_3 rfl (lv_at hl 2 rfl) ?_
      refine va_getN (D := D.1) (ci := 0) (v := .int (nI nrd)) (C := RX0) (T := TX0) (N := 8) hx hb hts hinX0 hown hK (sP (Sb.r (Sb.r Sb.self)) hP) 0 rfl rfl 4 (by decide) (hN.f 42 rfl) (fun _ h9 => h9) rfl dX5_find_4 ?_
      refine lv_icmp_ge (tgt := 78) hx hb dX5_find_7 (by decide) (fun c2 => ?_) (fun c2 => ?_)
      · refine lv_aload_n hx hb dX5_find_78 rfl (lv_at hl 1 rfl) ?_
        refine lv_aload_n hx hb dX5_find_79 rfl (lv_at hl 2 rfl) ?_
        refine va_getN (D := D.1) (ci := 0) (v := .int (nI nsd)) (C := RX0) (T := TX0) (N := 8) hx hb hts hinX0 hown hK (sP (Sb.r (Sb.r Sb.self)) hP) 0 rfl rfl 0 (by decide) (hN.f 45 rfl) (fun _ h9 => h9) rfl dX5_find_80 ?_
        refine kVw ⟨hx, hb, hml, hown, hts⟩ (c_X5_joinWays l D Aw (fnd1 Lw Ld Lm nm nrd) nsd hns) (cwV 1 hts gX5_find_X5_joinWays rfl rfl rfl (by decide +kernel) ⟨Nat.le_of_ble_eq_true rfl, Nat.le_of_ble_eq_true rfl⟩) hK hN hP hD hS (Fr.l (Fr.self rfl)) 5 0 rfl rfl rfl hl.1 (Nat.le_of_ble_eq_true rfl) ⟨Nat.zero_le _, Nat.zero_le _⟩ dX5_find_83 (fun H locs hP hD hS => ?_) rfl
        have hP : va_P D.1 vwCl ((wWays D Aw (jw1 (fnd1 Lw Ld Lm nm nrd) nsd nsd)) ++ ((wMul D Am nm Lm) ++ (wLand D Ad nsd fogd nrd Ld))) H := hP
        have hD : va_D A0 ((wWays D Aw (jw1 (fnd1 Lw Ld Lm nm nrd) nsd nsd)) ++ ((wMul D Am nm Lm) ++ (wLand D Ad nsd fogd nrd Ld))) := hD
        refine W.eq (g2 := F0 m 86 ls []) rfl ?_
        refine lv_aload_n hx hb dX5_find_86 rfl (lv_at hl 2 rfl) ?_
        refine va_getN (D := D.1) (ci := 0) (v := .int (nI nrd)) (C := RX0) (T := TX0) (N := 8) hx hb hts hinX0 hown hK (sP (Sb.r (Sb.r Sb.self)) hP) 0 rfl rfl 4 (by decide) (hN.f 42 rfl) (fun _ h9 => h9) rfl dX5_find_87 ?_
        refine lv_iconst (v := 1) hx hb dX5_find_90 (by decide) ?_
        refine lv_isub hx hb dX5_find_91 ?_
        refine lv_istore_n (lv' := [(3, .int ((nI nrd) - 1)), (0, .ref (Aw 0)), (1, .ref (Ad 0)), (2, .ref (Am 0))]) hx hb dX5_find_92 rfl hl (by decide) rfl (fun ls hl => ?_)
        have lp3 : ∀ (j3 : Nat) (Wx : Nat → Nat → Int32) (hj : j3 ≤ nrd) (hw : fnd2 Ld Lm nsd nm j3 Wx = findC Lw Ld Lm nsd nrd nm) (x3_3 : Int32) (e3_3 : x3_3 = (nI j3 - 1)) (H : Heap) (locs : List Loc) (hP : va_P D.1 vwCl ((wWays D Aw Wx) ++ ((wMul D Am nm Lm) ++ (wLand D Ad nsd fogd nrd Ld))) H) (hD : va_D A0 ((wWays D Aw Wx) ++ ((wMul D Am nm Lm) ++ (wLand D Ad nsd fogd nrd Ld)))) (hS : va_S A0 s.heap H locs) (ls : Array Slot) (hl : lv_has ls 6 [(3, .int x3_3), (0, .ref (Aw 0)), (1, .ref (Ad 0)), (2, .ref (Am 0))]), W p l e (headSpec wsX5_find ({ frames := 4, cells := 0, slots := 0, locals := 90 } : Room)).room s m ([.ref (Aw 0), .ref (Ad 0), .ref (Am 0)] : List Value).toArray below meth c H locs 0 0 (MQ below (QW D none ((wWays D Aw (findC Lw Ld Lm nsd nrd nm)) ++ ((wMul D Am nm Lm) ++ (wLand D Ad nsd fogd nrd Ld))) A0) ([.ref (Aw 0), .ref (Ad 0), .ref (Am 0)] : List Value).toArray s 0 0 A0) (F0 m 93 ls []) := by
          intro j3
          induction j3 with
          | zero =>
            intro Wx hj hw x3_3 e3_3 H locs hP hD hS ls hl
            subst e3_3
            refine lv_iload_n hx hb dX5_find_93 rfl (lv_at hl 0 rfl) ?_
            refine lv_if_lt (tgt := 139) hx hb dX5_find_94 (by decide) (fun c4 => ?_) (fun c4 => ?_)
            · exact eWv hx hb hr hlocks dX5_find_139 hS hP (by rw [← hw]; rfl)
            · exact absurd (show nI 0 - 1 < 0 by decide) c4
          | succ j3 ih =>
            intro Wx hj hw x3_3 e3_3 H locs hP hD hS ls hl
            rw [nI_pred] at e3_3
            subst e3_3
            refine lv_iload_n hx hb dX5_find_93 rfl (lv_at hl 0 rfl) ?_
            refine lv_if_lt (tgt := 139) hx hb dX5_find_94 (by decide) (fun c5 => ?_) (fun c5 => ?_)
            · exact absurd c5 (nI_pos (by omega))
            · refine lv_aload_n hx hb dX5_find_97 rfl (lv_at hl 3 rfl) ?_
              refine lv_iload_n hx hb dX5_find_98 rfl (lv_at hl 0 rfl) ?_
              refine kVp ⟨hx, hb, hml, hown, hts⟩ (c_X2_ofRoad l D Am nm Lm (nI j3) hm) (cwV 1 hts gX5_find_X2_ofRoad rfl rfl rfl (by decide +kernel) ⟨Nat.le_of_ble_eq_true rfl, Nat.le_of_ble_eq_true rfl⟩) hK hN hP hD (Sb.r (Sb.l Sb.self)) 2 0 rfl rfl rfl hl.1 (Nat.le_of_ble_eq_true rfl) ⟨Nat.zero_le _, Nat.zero_le _⟩ dX5_find_99 ?_ rfl
              refine lv_if_le (tgt := 133) hx hb dX5_find_102 (by decide) (fun c6 => ?_) (fun c6 => ?_)
              · refine lv_iinc (v := ((nI j3) + (-1))) (lv' := [(3, .int ((nI j3) + (-1))), (0, .ref (Aw 0)), (1, .ref (Ad 0)), (2, .ref (Am 0))]) hx hb dX5_find_133 hl (k := 0) rfl rfl (by decide) rfl (fun ls hl => ?_)
                refine lv_goto (tgt := 93) hx hb dX5_find_136 (by decide) ?_
                exact ih _ (by omega) (by first | (rw [← hw, fnd2, if_pos (by assumption)]; first | done | rfl) | (rw [← hw, fnd2, if_neg (by assumption)]; first | done | rfl)) _ (by rw [show nI j3 - 1 = nI j3 + (-1) from rfl]) _ _ hP hD hS ls (lv_sub hl [0, 1, 2, 3] rfl)
              · refine lv_aload_n hx hb dX5_find_105 rfl (lv_at hl 1 rfl) ?_
                refine lv_aload_n hx hb dX5_find_106 rfl (lv_at hl 2 rfl) ?_
                refine lv_iload_n hx hb dX5_find_107 rfl (lv_at hl 0 rfl) ?_
                refine lv_aload_n hx hb dX5_find_108 rfl (lv_at hl 2 rfl) ?_
                refine va_getN (D := D.1) (ci := 0) (v := .ref (Ad 3)) (C := RX0) (T := TX0) (N := 8) hx hb hts hinX0 hown hK (sP (Sb.r (Sb.r Sb.self)) hP) 0 rfl rfl 5 (by decide) (hN.f 43 rfl) (fun _ h9 => h9) rfl dX5_find_109 ?_
                refine lv_iload_n hx hb dX5_find_112 rfl (lv_at hl 0 rfl) ?_
                refine kVp ⟨hx, hb, hml, hown, hts⟩ (c_X3_get l D (Ad 3) (Ad 8) 15 (Ld 2) (nI j3) (by decide)) (cwV 1 hts gX5_find_X3_get rfl rfl rfl (by decide +kernel) ⟨Nat.le_of_ble_eq_true rfl, Nat.le_of_ble_eq_true rfl⟩) hK hN hP hD (Sb.r (Sb.r sbLand2)) 3 0 rfl rfl rfl hl.1 (Nat.le_of_ble_eq_true rfl) ⟨Nat.zero_le _, Nat.zero_le _⟩ dX5_find_113 ?_ rfl
                refine kVw ⟨hx, hb, hml, hown, hts⟩ (c_X5_beginWith l D Aw Wx Ad nsd fogd nrd Ld (nI j3) (rg 15 (Ld 2) (nI j3)) hns) (cwV 3 hts gX5_find_X5_beginWith rfl rfl rfl (by decide +kernel) ⟨Nat.le_of_ble_eq_true rfl, Nat.le_of_ble_eq_true rfl⟩) hK hN hP hD hS (Fr.app (Fr.self rfl) (Fr.r (Fr.kp Sb.self))) 5 0 rfl rfl rfl hl.1 (Nat.le_of_ble_eq_true rfl) ⟨Nat.zero_le _, Nat.zero_le _⟩ dX5_find_116 (fun H locs hP hD hS => ?_) rfl
                have hP : va_P D.1 vwCl ((wWays D Aw (bgF Wx Ld (nI j3) (rg 15 (Ld 2) (nI j3)) nsd)) ++ ((wMul D Am nm Lm) ++ (wLand D Ad nsd fogd nrd Ld))) H := hP
                have hD : va_D A0 ((wWays D Aw (bgF Wx Ld (nI j3) (rg 15 (Ld 2) (nI j3)) nsd)) ++ ((wMul D Am nm Lm) ++ (wLand D Ad nsd fogd nrd Ld))) := hD
                refine W.eq (g2 := F0 m 119 ls []) rfl ?_
                refine lv_aload_n hx hb dX5_find_119 rfl (lv_at hl 1 rfl) ?_
                refine lv_aload_n hx hb dX5_find_120 rfl (lv_at hl 2 rfl) ?_
                refine lv_iload_n hx hb dX5_find_121 rfl (lv_at hl 0 rfl) ?_
                refine lv_aload_n hx hb dX5_find_122 rfl (lv_at hl 2 rfl) ?_
                refine va_getN (D := D.1) (ci := 0) (v := .ref (Ad 4)) (C := RX0) (T := TX0) (N := 8) hx hb hts hinX0 hown hK (sP (Sb.r (Sb.r Sb.self)) hP) 0 rfl rfl 6 (by decide) (hN.f 44 rfl) (fun _ h9 => h9) rfl dX5_find_123 ?_
                refine lv_iload_n hx hb dX5_find_126 rfl (lv_at hl 0 rfl) ?_
                refine kVp ⟨hx, hb, hml, hown, hts⟩ (c_X3_get l D (Ad 4) (Ad 9) 15 (Ld 3) (nI j3) (by decide)) (cwV 1 hts gX5_find_X3_get rfl rfl rfl (by decide +kernel) ⟨Nat.le_of_ble_eq_true rfl, Nat.le_of_ble_eq_true rfl⟩) hK hN hP hD (Sb.r (Sb.r sbLand3)) 3 0 rfl rfl rfl hl.1 (Nat.le_of_ble_eq_true rfl) ⟨Nat.zero_le _, Nat.zero_le _⟩ dX5_find_127 ?_ rfl
                refine kVw ⟨hx, hb, hml, hown, hts⟩ (c_X5_beginWith l D Aw (bgF Wx Ld (nI j3) (rg 15 (Ld 2) (nI j3)) nsd) Ad nsd fogd nrd Ld (nI j3) (rg 15 (Ld 3) (nI j3)) hns) (cwV 3 hts gX5_find_X5_beginWith rfl rfl rfl (by decide +kernel) ⟨Nat.le_of_ble_eq_true rfl, Nat.le_of_ble_eq_true rfl⟩) hK hN hP hD hS (Fr.app (Fr.self rfl) (Fr.r (Fr.kp Sb.self))) 5 0 rfl rfl rfl hl.1 (Nat.le_of_ble_eq_true rfl) ⟨Nat.zero_le _, Nat.zero_le _⟩ dX5_find_130 (fun H locs hP hD hS => ?_) rfl
                have hP : va_P D.1 vwCl ((wWays D Aw (bgF (bgF Wx Ld (nI j3) (rg 15 (Ld 2) (nI j3)) nsd) Ld (nI j3) (rg 15 (Ld 3) (nI j3)) nsd)) ++ ((wMul D Am nm Lm) ++ (wLand D Ad nsd fogd nrd Ld))) H := hP
                have hD : va_D A0 ((wWays D Aw (bgF (bgF Wx Ld (nI j3) (rg 15 (Ld 2) (nI j3)) nsd) Ld (nI j3) (rg 15 (Ld 3) (nI j3)) nsd)) ++ ((wMul D Am nm Lm) ++ (wLand D Ad nsd fogd nrd Ld))) := hD
                refine W.eq (g2 := F0 m 133 ls []) rfl ?_
                refine lv_iinc (v := ((nI j3) + (-1))) (lv' := [(3, .int ((nI j3) + (-1))), (0, .ref (Aw 0)), (1, .ref (Ad 0)), (2, .ref (Am 0))]) hx hb dX5_find_133 hl (k := 0) rfl rfl (by decide) rfl (fun ls hl => ?_)
                refine lv_goto (tgt := 93) hx hb dX5_find_136 (by decide) ?_
                exact ih _ (by omega) (by first | (rw [← hw, fnd2, if_pos (by assumption)]; first | done | rfl) | (rw [← hw, fnd2, if_neg (by assumption)]; first | done | rfl)) _ (by rw [show nI j3 - 1 = nI j3 + (-1) from rfl]) _ _ hP hD hS ls (lv_sub hl [0, 1, 2, 3] rfl)
        exact lp3 nrd (jw1 (fnd1 Lw Ld Lm nm nrd) nsd nsd) (Nat.le_refl _) rfl _ rfl _ _ hP hD hS ls (lv_sub hl [0, 1, 2, 3] rfl)
      · exact (up0 rfl c2).elim
    | succ j1 ih =>
      intro k1 hk1 x3_1 e3_1 ywL_1 eywL_1  H locs hP hD hS ls hl
      subst e3_1 eywL_1
      have hlt1 : k1 < nrd := by omega
      have hlt : k1 < nrd := hlt1
      refine lv_iload_n hx hb dX5_find_2 rfl (lv_at hl 0 rfl) ?_
      refine lv_aload_n hx hb dX5_find_3 rfl (lv_at hl 2 rfl) ?_
      refine va_getN (D := D.1) (ci := 0) (v := .int (nI nrd)) (C := RX0) (T := TX0) (N := 8) hx hb hts hinX0 hown hK (sP (Sb.r (Sb.r Sb.self)) hP) 0 rfl rfl 4 (by decide) (hN.f 42 rfl) (fun _ h9 => h9) rfl dX5_find_4 ?_
      refine lv_icmp_ge (tgt := 78) hx hb dX5_find_7 (by decide) (fun c7 => ?_) (fun c7 => ?_)
      · exact (upS hk1 hnr c7).elim
      · refine lv_aload_n hx hb dX5_find_10 rfl (lv_at hl 3 rfl) ?_
        refine lv_iload_n hx hb dX5_find_11 rfl (lv_at hl 0 rfl) ?_
        refine kVp ⟨hx, hb, hml, hown, hts⟩ (c_X2_ofRoad l D Am nm Lm (nI k1) hm) (cwV 1 hts gX5_find_X2_ofRoad rfl rfl rfl (by decide +kernel) ⟨Nat.le_of_ble_eq_true rfl, Nat.le_of_ble_eq_true rfl⟩) hK hN hP hD (Sb.r (Sb.l Sb.self)) 2 0 rfl rfl rfl hl.1 (Nat.le_of_ble_eq_true rfl) ⟨Nat.zero_le _, Nat.zero_le _⟩ dX5_find_12 ?_ rfl
        refine lv_if_le (tgt := 72) hx hb dX5_find_15 (by decide) (fun c8 => ?_) (fun c8 => ?_)
        · refine lv_iinc (v := ((nI k1) + 1)) (lv' := [(3, .int ((nI k1) + 1)), (0, .ref (Aw 0)), (1, .ref (Ad 0)), (2, .ref (Am 0))]) hx hb dX5_find_72 hl (k := 0) rfl rfl (by decide) rfl (fun ls hl => ?_)
          refine lv_goto (tgt := 2) hx hb dX5_find_75 (by decide) ?_
          exact ih (k1 + 1) (by omega) _ (nI_1 k1) _ (by first | (rw [fnd1, if_pos (by assumption)]; first | done | rfl) | (rw [fnd1, if_neg (by assumption)]; first | done | rfl)) _ _ hP hD hS ls (lv_sub hl [0, 1, 2, 3] rfl)
        · refine lv_aload_n hx hb dX5_find_18 rfl (lv_at hl 2 rfl) ?_
          refine va_getN (D := D.1) (ci := 0) (v := .ref (Ad 3)) (C := RX0) (T := TX0) (N := 8) hx hb hts hinX0 hown hK (sP (Sb.r (Sb.r Sb.self)) hP) 0 rfl rfl 5 (by decide) (hN.f 43 rfl) (fun _ h9 => h9) rfl dX5_find_19 ?_
          refine lv_iload_n hx hb dX5_find_22 rfl (lv_at hl 0 rfl) ?_
          refine kVp ⟨hx, hb, hml, hown, hts⟩ (c_X3_get l D (Ad 3) (Ad 8) 15 (Ld 2) (nI k1) (by decide)) (cwV 1 hts gX5_find_X3_get rfl rfl rfl (by decide +kernel) ⟨Nat.le_of_ble_eq_true rfl, Nat.le_of_ble_eq_true rfl⟩) hK hN hP hD (Sb.r (Sb.r sbLand2)) 3 0 rfl rfl rfl hl.1 (Nat.le_of_ble_eq_true rfl) ⟨Nat.zero_le _, Nat.zero_le _⟩ dX5_find_23 ?_ rfl
          refine lv_istore (lv' := [(4, .int (rg 15 (Ld 2) (nI k1))), (3, .int (nI k1)), (0, .ref (Aw 0)), (1, .ref (Ad 0)), (2, .ref (Am 0))]) hx hb dX5_find_26 hl (by decide) rfl (fun ls hl => ?_)
          refine lv_aload_n hx hb dX5_find_28 rfl (lv_at hl 3 rfl) ?_
          refine va_getN (D := D.1) (ci := 0) (v := .ref (Ad 4)) (C := RX0) (T := TX0) (N := 8) hx hb hts hinX0 hown hK (sP (Sb.r (Sb.r Sb.self)) hP) 0 rfl rfl 6 (by decide) (hN.f 44 rfl) (fun _ h9 => h9) rfl dX5_find_29 ?_
          refine lv_iload_n hx hb dX5_find_32 rfl (lv_at hl 1 rfl) ?_
          refine kVp ⟨hx, hb, hml, hown, hts⟩ (c_X3_get l D (Ad 4) (Ad 9) 15 (Ld 3) (nI k1) (by decide)) (cwV 1 hts gX5_find_X3_get rfl rfl rfl (by decide +kernel) ⟨Nat.le_of_ble_eq_true rfl, Nat.le_of_ble_eq_true rfl⟩) hK hN hP hD (Sb.r (Sb.r sbLand3)) 3 0 rfl rfl rfl hl.1 (Nat.le_of_ble_eq_true rfl) ⟨Nat.zero_le _, Nat.zero_le _⟩ dX5_find_33 ?_ rfl
          refine lv_istore (lv' := [(5, .int (rg 15 (Ld 3) (nI k1))), (4, .int (rg 15 (Ld 2) (nI k1))), (3, .int (nI k1)), (0, .ref (Aw 0)), (1, .ref (Ad 0)), (2, .ref (Am 0))]) hx hb dX5_find_36 hl (by decide) rfl (fun ls hl => ?_)
          refine lv_aload_n hx hb dX5_find_38 rfl (lv_at hl 3 rfl) ?_
          refine lv_iload hx hb dX5_find_39 (lv_at hl 1 rfl) ?_
          refine lv_iload hx hb dX5_find_41 (lv_at hl 0 rfl) ?_
          refine lv_aload_n hx hb dX5_find_43 rfl (lv_at hl 4 rfl) ?_
          refine lv_iload_n hx hb dX5_find_44 rfl (lv_at hl 2 rfl) ?_
          refine lv_iload hx hb dX5_find_45 (lv_at hl 1 rfl) ?_
          refine lv_iload hx hb dX5_find_47 (lv_at hl 0 rfl) ?_
          refine kVp ⟨hx, hb, hml, hown, hts⟩ (c_X0_hoursBetween l D Ad nsd fogd nrd Ld (nI k1) (rg 15 (Ld 2) (nI k1)) (rg 15 (Ld 3) (nI k1))) (cwV 3 hts gX5_find_X0_hoursBetween rfl rfl rfl (by decide +kernel) ⟨Nat.le_of_ble_eq_true rfl, Nat.le_of_ble_eq_true rfl⟩) hK hN hP hD (Sb.r (Sb.r Sb.self)) 0 0 rfl rfl rfl hl.1 (Nat.le_of_ble_eq_true rfl) ⟨Nat.zero_le _, Nat.zero_le _⟩ dX5_find_49 ?_ rfl
          refine kVw ⟨hx, hb, hml, hown, hts⟩ (c_X5_shorten l D Aw (fnd1 Lw Ld Lm nm k1) (rg 15 (Ld 2) (nI k1)) (rg 15 (Ld 3) (nI k1)) (hrsC Ld (nI k1) (rg 15 (Ld 2) (nI k1)) (rg 15 (Ld 3) (nI k1)))) (cwV 3 hts gX5_find_X5_shorten rfl rfl rfl (by decide +kernel) ⟨Nat.le_of_ble_eq_true rfl, Nat.le_of_ble_eq_true rfl⟩) hK hN hP hD hS (Fr.l (Fr.self rfl)) 5 0 rfl rfl rfl hl.1 (Nat.le_of_ble_eq_true rfl) ⟨Nat.zero_le _, Nat.zero_le _⟩ dX5_find_52 (fun H locs hP hD hS => ?_) rfl
          have hP : va_P D.1 vwCl ((wWays D Aw (shoC (fnd1 Lw Ld Lm nm k1) (rg 15 (Ld 2) (nI k1)) (rg 15 (Ld 3) (nI k1)) (hrsC Ld (nI k1) (rg 15 (Ld 2) (nI k1)) (rg 15 (Ld 3) (nI k1))))) ++ ((wMul D Am nm Lm) ++ (wLand D Ad nsd fogd nrd Ld))) H := hP
          have hD : va_D A0 ((wWays D Aw (shoC (fnd1 Lw Ld Lm nm k1) (rg 15 (Ld 2) (nI k1)) (rg 15 (Ld 3) (nI k1)) (hrsC Ld (nI k1) (rg 15 (Ld 2) (nI k1)) (rg 15 (Ld 3) (nI k1))))) ++ ((wMul D Am nm Lm) ++ (wLand D Ad nsd fogd nrd Ld))) := hD
          refine W.eq (g2 := F0 m 55 ls []) rfl ?_
          refine lv_aload_n hx hb dX5_find_55 rfl (lv_at hl 3 rfl) ?_
          refine lv_iload hx hb dX5_find_56 (lv_at hl 0 rfl) ?_
          refine lv_iload hx hb dX5_find_58 (lv_at hl 1 rfl) ?_
          refine lv_aload_n hx hb dX5_find_60 rfl (lv_at hl 4 rfl) ?_
          refine lv_iload_n hx hb dX5_find_61 rfl (lv_at hl 2 rfl) ?_
          refine lv_iload hx hb dX5_find_62 (lv_at hl 0 rfl) ?_
          refine lv_iload hx hb dX5_find_64 (lv_at hl 1 rfl) ?_
          refine kVp ⟨hx, hb, hml, hown, hts⟩ (c_X0_hoursBetween l D Ad nsd fogd nrd Ld (nI k1) (rg 15 (Ld 3) (nI k1)) (rg 15 (Ld 2) (nI k1))) (cwV 3 hts gX5_find_X0_hoursBetween rfl rfl rfl (by decide +kernel) ⟨Nat.le_of_ble_eq_true rfl, Nat.le_of_ble_eq_true rfl⟩) hK hN hP hD (Sb.r (Sb.r Sb.self)) 0 0 rfl rfl rfl hl.1 (Nat.le_of_ble_eq_true rfl) ⟨Nat.zero_le _, Nat.zero_le _⟩ dX5_find_66 ?_ rfl
          refine kVw ⟨hx, hb, hml, hown, hts⟩ (c_X5_shorten l D Aw (shoC (fnd1 Lw Ld Lm nm k1) (rg 15 (Ld 2) (nI k1)) (rg 15 (Ld 3) (nI k1)) (hrsC Ld (nI k1) (rg 15 (Ld 2) (nI k1)) (rg 15 (Ld 3) (nI k1)))) (rg 15 (Ld 3) (nI k1)) (rg 15 (Ld 2) (nI k1)) (hrsC Ld (nI k1) (rg 15 (Ld 3) (nI k1)) (rg 15 (Ld 2) (nI k1)))) (cwV 3 hts gX5_find_X5_shorten rfl rfl rfl (by decide +kernel) ⟨Nat.le_of_ble_eq_true rfl, Nat.le_of_ble_eq_true rfl⟩) hK hN hP hD hS (Fr.l (Fr.self rfl)) 5 0 rfl rfl rfl hl.1 (Nat.le_of_ble_eq_true rfl) ⟨Nat.zero_le _, Nat.zero_le _⟩ dX5_find_69 (fun H locs hP hD hS => ?_) rfl
          have hP : va_P D.1 vwCl ((wWays D Aw (shoC (shoC (fnd1 Lw Ld Lm nm k1) (rg 15 (Ld 2) (nI k1)) (rg 15 (Ld 3) (nI k1)) (hrsC Ld (nI k1) (rg 15 (Ld 2) (nI k1)) (rg 15 (Ld 3) (nI k1)))) (rg 15 (Ld 3) (nI k1)) (rg 15 (Ld 2) (nI k1)) (hrsC Ld (nI k1) (rg 15 (Ld 3) (nI k1)) (rg 15 (Ld 2) (nI k1))))) ++ ((wMul D Am nm Lm) ++ (wLand D Ad nsd fogd nrd Ld))) H := hP
          have hD : va_D A0 ((wWays D Aw (shoC (shoC (fnd1 Lw Ld Lm nm k1) (rg 15 (Ld 2) (nI k1)) (rg 15 (Ld 3) (nI k1)) (hrsC Ld (nI k1) (rg 15 (Ld 2) (nI k1)) (rg 15 (Ld 3) (nI k1)))) (rg 15 (Ld 3) (nI k1)) (rg 15 (Ld 2) (nI k1)) (hrsC Ld (nI k1) (rg 15 (Ld 3) (nI k1)) (rg 15 (Ld 2) (nI k1))))) ++ ((wMul D Am nm Lm) ++ (wLand D Ad nsd fogd nrd Ld))) := hD
          refine W.eq (g2 := F0 m 72 ls []) rfl ?_
          refine lv_iinc (v := ((nI k1) + 1)) (lv' := [(3, .int ((nI k1) + 1)), (5, .int (rg 15 (Ld 3) (nI k1))), (4, .int (rg 15 (Ld 2) (nI k1))), (0, .ref (Aw 0)), (1, .ref (Ad 0)), (2, .ref (Am 0))]) hx hb dX5_find_72 hl (k := 2) rfl rfl (by decide) rfl (fun ls hl => ?_)
          refine lv_goto (tgt := 2) hx hb dX5_find_75 (by decide) ?_
          exact ih (k1 + 1) (by omega) _ (nI_1 k1) _ (by first | (rw [fnd1, if_pos (by assumption)]; first | done | rfl) | (rw [fnd1, if_neg (by assumption)]; first | done | rfl)) _ _ hP hD hS ls (lv_sub hl [0, 3, 4, 5] rfl)
  exact lp1 nrd 0 (by omega) _ nI_0.symm _ rfl _ _ hP hD hS ls (lv_sub hl [0, 1, 2, 3] rfl)
