set_option maxHeartbeats 4000000 in
set_option maxRecDepth 100000 in
theorem c_X2_isUnderWay (l : Launch) (D : GG) (Am : Nat → Nat) (nm : Nat) (Lm : Nat → Nat → Int32) (p1 : Int32)  : Met l yX2_isUnderWay wsX2_isUnderWay ({ frames := 1, cells := 0, slots := 0, locals := 21 } : Room) (va_Pc [.ref (Am 0), .int p1] (wd D (wMul D Am nm Lm))) (RP (.int (z2 (uwC Lm p1)))) 0 0 (fun _ => False) := by
  refine Met.ofW (cc := cX2_isUnderWay) (maxL := 2) (ret := (some .boolean)) (by decide) rfl ?_
  intro p e s m args below meth c s₁ B hml hv
  obtain ⟨rfl, hP, hK, hD, hN⟩ := hv
  have hx := B.exec
  have hb := B.bytes
  have hr := B.returns
  have hts := atoms_spec (ws := wsX2_isUnderWay) B.pre
  have hown : s.vm.findClass RX2 = some m.cls := findClass_of_methodNamed B.named
  have hlocks := B.notSynchronized
  have hinX2 : ∀ w ∈ u_ws RX2 TX2 6, w ∈ wsX2_isUnderWay := by decide +kernel
  have hl := lv_entry ([.ref (Am 0), .int p1]) (n := 2) (Nat.le_of_ble_eq_true rfl)
  rw [lg_entry_eq]
  generalize (lg_sl ([.ref (Am 0), .int p1]) ++ List.replicate (2 - (lg_sl ([.ref (Am 0), .int p1])).length) Slot.unset).toArray = ls at hl ⊢
  have hl : lv_has ls 2 [(0, .ref (Am 0)), (1, .int p1)] := hl
  refine lv_aload_n hx hb dX2_isUnderWay_0 rfl (lv_at hl 0 rfl) ?_
  refine va_get (D := D.1) (ci := 2) (v := .ref (Am 4)) (C := RX2) (T := TX2) (N := 6) hx hb hts hinX2 hown hK hP 0 rfl rfl 4 (by decide) (hts (.fieldLink RX2 26 "MountainPost$Mules" "hoursLeft" "LMountainPost$Row;") (List.mem_of_getElem? (i := 1) rfl)) (fun _ h9 => h9) rfl dX2_isUnderWay_1 ?_
  refine lv_iload_n hx hb dX2_isUnderWay_4 rfl (lv_at hl 1 rfl) ?_
  refine kVp ⟨hx, hb, hml, hown, hts⟩ (c_X3_get l D (Am 4) (Am 9) 12 (Lm 3) p1 (by decide)) (cwV 1 hts gX2_isUnderWay_X3_get rfl rfl rfl (by decide +kernel) ⟨Nat.le_of_ble_eq_true rfl, Nat.le_of_ble_eq_true rfl⟩) hK hN hP hD sbMul3 3 0 rfl rfl rfl hl.1 (Nat.le_of_ble_eq_true rfl) ⟨Nat.zero_le _, Nat.zero_le _⟩ dX2_isUnderWay_5 ?_ rfl
  refine lv_if_le (tgt := 15) hx hb dX2_isUnderWay_8 (by decide) (fun c1 => ?_) (fun c1 => ?_)
  · refine lv_iconst (v := 0) hx hb dX2_isUnderWay_15 (by decide) ?_
    exact eZ hx hb hr hlocks dX2_isUnderWay_16 (by simp [uwC, z2, c1])
  · refine lv_iconst (v := 1) hx hb dX2_isUnderWay_11 (by decide) ?_
    refine lv_goto (tgt := 16) hx hb dX2_isUnderWay_12 (by decide) ?_
    exact eZ hx hb hr hlocks dX2_isUnderWay_16 (by simp [uwC, z2, c1])

set_option maxHeartbeats 4000000 in
set_option maxRecDepth 100000 in
theorem c_X2_areOpposed (l : Launch) (D : GG) (Am : Nat → Nat) (nm : Nat) (Lm : Nat → Nat → Int32) (p1 : Int32) (p2 : Int32)  : Met l yX2_areOpposed wsX2_areOpposed ({ frames := 1, cells := 0, slots := 0, locals := 21 } : Room) (va_Pc [.ref (Am 0), .int p1, .int p2] (wd D (wMul D Am nm Lm))) (RP (.int (z2 (oppC Lm p1 p2)))) 0 0 (fun _ => False) := by
  refine Met.ofW (cc := cX2_areOpposed) (maxL := 3) (ret := (some .boolean)) (by decide) rfl ?_
  intro p e s m args below meth c s₁ B hml hv
  obtain ⟨rfl, hP, hK, hD, hN⟩ := hv
  have hx := B.exec
  have hb := B.bytes
  have hr := B.returns
  have hts := atoms_spec (ws := wsX2_areOpposed) B.pre
  have hown : s.vm.findClass RX2 = some m.cls := findClass_of_methodNamed B.named
  have hlocks := B.notSynchronized
  have hinX2 : ∀ w ∈ u_ws RX2 TX2 6, w ∈ wsX2_areOpposed := by decide +kernel
  have hl := lv_entry ([.ref (Am 0), .int p1, .int p2]) (n := 3) (Nat.le_of_ble_eq_true rfl)
  rw [lg_entry_eq]
  generalize (lg_sl ([.ref (Am 0), .int p1, .int p2]) ++ List.replicate (3 - (lg_sl ([.ref (Am 0), .int p1, .int p2])).length) Slot.unset).toArray = ls at hl ⊢
  have hl : lv_has ls 3 [(0, .ref (Am 0)), (1, .int p1), (2, .int p2)] := hl
  refine lv_aload_n hx hb dX2_areOpposed_0 rfl (lv_at hl 0 rfl) ?_
  refine va_get (D := D.1) (ci := 2) (v := .ref (Am 1)) (C := RX2) (T := TX2) (N := 6) hx hb hts hinX2 hown hK hP 0 rfl rfl 1 (by decide) (hts (.fieldLink RX2 14 "MountainPost$Mules" "roads" "LMountainPost$Row;") (List.mem_of_getElem? (i := 1) rfl)) (fun _ h9 => h9) rfl dX2_areOpposed_1 ?_
  refine lv_iload_n hx hb dX2_areOpposed_4 rfl (lv_at hl 1 rfl) ?_
  refine kVp ⟨hx, hb, hml, hown, hts⟩ (c_X3_get l D (Am 1) (Am 6) 12 (Lm 0) p1 (by decide)) (cwV 1 hts gX2_areOpposed_X3_get rfl rfl rfl (by decide +kernel) ⟨Nat.le_of_ble_eq_true rfl, Nat.le_of_ble_eq_true rfl⟩) hK hN hP hD sbMul0 3 0 rfl rfl rfl hl.1 (Nat.le_of_ble_eq_true rfl) ⟨Nat.zero_le _, Nat.zero_le _⟩ dX2_areOpposed_5 ?_ rfl
  refine lv_aload_n hx hb dX2_areOpposed_8 rfl (lv_at hl 0 rfl) ?_
  refine va_get (D := D.1) (ci := 2) (v := .ref (Am 1)) (C := RX2) (T := TX2) (N := 6) hx hb hts hinX2 hown hK hP 0 rfl rfl 1 (by decide) (hts (.fieldLink RX2 14 "MountainPost$Mules" "roads" "LMountainPost$Row;") (List.mem_of_getElem? (i := 1) rfl)) (fun _ h9 => h9) rfl dX2_areOpposed_9 ?_
  refine lv_iload_n hx hb dX2_areOpposed_12 rfl (lv_at hl 2 rfl) ?_
  refine kVp ⟨hx, hb, hml, hown, hts⟩ (c_X3_get l D (Am 1) (Am 6) 12 (Lm 0) p2 (by decide)) (cwV 1 hts gX2_areOpposed_X3_get rfl rfl rfl (by decide +kernel) ⟨Nat.le_of_ble_eq_true rfl, Nat.le_of_ble_eq_true rfl⟩) hK hN hP hD sbMul0 3 0 rfl rfl rfl hl.1 (Nat.le_of_ble_eq_true rfl) ⟨Nat.zero_le _, Nat.zero_le _⟩ dX2_areOpposed_13 ?_ rfl
  refine lv_icmp_ne (tgt := 42) hx hb dX2_areOpposed_16 (by decide) (fun c1 => ?_) (fun c1 => ?_)
  · refine lv_iconst (v := 0) hx hb dX2_areOpposed_42 (by decide) ?_
    exact eZ hx hb hr hlocks dX2_areOpposed_43 (by simp [oppC, z2, c1])
  · refine lv_aload_n hx hb dX2_areOpposed_19 rfl (lv_at hl 0 rfl) ?_
    refine va_get (D := D.1) (ci := 2) (v := .ref (Am 3)) (C := RX2) (T := TX2) (N := 6) hx hb hts hinX2 hown hK hP 0 rfl rfl 3 (by decide) (hts (.fieldLink RX2 23 "MountainPost$Mules" "places" "LMountainPost$Row;") (List.mem_of_getElem? (i := 2) rfl)) (fun _ h9 => h9) rfl dX2_areOpposed_20 ?_
    refine lv_iload_n hx hb dX2_areOpposed_23 rfl (lv_at hl 1 rfl) ?_
    refine kVp ⟨hx, hb, hml, hown, hts⟩ (c_X3_get l D (Am 3) (Am 8) 12 (Lm 2) p1 (by decide)) (cwV 1 hts gX2_areOpposed_X3_get rfl rfl rfl (by decide +kernel) ⟨Nat.le_of_ble_eq_true rfl, Nat.le_of_ble_eq_true rfl⟩) hK hN hP hD sbMul2 3 0 rfl rfl rfl hl.1 (Nat.le_of_ble_eq_true rfl) ⟨Nat.zero_le _, Nat.zero_le _⟩ dX2_areOpposed_24 ?_ rfl
    refine lv_aload_n hx hb dX2_areOpposed_27 rfl (lv_at hl 0 rfl) ?_
    refine va_get (D := D.1) (ci := 2) (v := .ref (Am 3)) (C := RX2) (T := TX2) (N := 6) hx hb hts hinX2 hown hK hP 0 rfl rfl 3 (by decide) (hts (.fieldLink RX2 23 "MountainPost$Mules" "places" "LMountainPost$Row;") (List.mem_of_getElem? (i := 2) rfl)) (fun _ h9 => h9) rfl dX2_areOpposed_28 ?_
    refine lv_iload_n hx hb dX2_areOpposed_31 rfl (lv_at hl 2 rfl) ?_
    refine kVp ⟨hx, hb, hml, hown, hts⟩ (c_X3_get l D (Am 3) (Am 8) 12 (Lm 2) p2 (by decide)) (cwV 1 hts gX2_areOpposed_X3_get rfl rfl rfl (by decide +kernel) ⟨Nat.le_of_ble_eq_true rfl, Nat.le_of_ble_eq_true rfl⟩) hK hN hP hD sbMul2 3 0 rfl rfl rfl hl.1 (Nat.le_of_ble_eq_true rfl) ⟨Nat.zero_le _, Nat.zero_le _⟩ dX2_areOpposed_32 ?_ rfl
    refine lv_icmp_eq (tgt := 42) hx hb dX2_areOpposed_35 (by decide) (fun c2 => ?_) (fun c2 => ?_)
    · refine lv_iconst (v := 0) hx hb dX2_areOpposed_42 (by decide) ?_
      exact eZ hx hb hr hlocks dX2_areOpposed_43 (by simp [oppC, z2, c1, c2])
    · refine lv_iconst (v := 1) hx hb dX2_areOpposed_38 (by decide) ?_
      refine lv_goto (tgt := 43) hx hb dX2_areOpposed_39 (by decide) ?_
      exact eZ hx hb hr hlocks dX2_areOpposed_43 (by simp [oppC, z2, c1, c2])

set_option maxHeartbeats 4000000 in
set_option maxRecDepth 100000 in
theorem c_X2_standingAt (l : Launch) (D : GG) (Am : Nat → Nat) (nm : Nat) (Lm : Nat → Nat → Int32) (p1 : Int32) (hm : nm < 2 ^ 31) : Met l yX2_standingAt wsX2_standingAt ({ frames := 2, cells := 0, slots := 0, locals := 42 } : Room) (va_Pc [.ref (Am 0), .int p1] (wd D (wMul D Am nm Lm))) (RP (.int (stndC Lm nm p1))) 0 0 (fun _ => False) := by
  refine Met.ofW (cc := cX2_standingAt) (maxL := 4) (ret := (some .int)) (by decide) rfl ?_
  intro p e s m args below meth c s₁ B hml hv
  obtain ⟨rfl, hP, hK, hD, hN⟩ := hv
  have hx := B.exec
  have hb := B.bytes
  have hr := B.returns
  have hts := atoms_spec (ws := wsX2_standingAt) B.pre
  have hown : s.vm.findClass RX2 = some m.cls := findClass_of_methodNamed B.named
  have hlocks := B.notSynchronized
  have hinX2 : ∀ w ∈ u_ws RX2 TX2 6, w ∈ wsX2_standingAt := by decide +kernel
  have hl := lv_entry ([.ref (Am 0), .int p1]) (n := 4) (Nat.le_of_ble_eq_true rfl)
  rw [lg_entry_eq]
  generalize (lg_sl ([.ref (Am 0), .int p1]) ++ List.replicate (4 - (lg_sl ([.ref (Am 0), .int p1])).length) Slot.unset).toArray = ls at hl ⊢
  have hl : lv_has ls 4 [(0, .ref (Am 0)), (1, .int p1)] := hl
  refine lv_iconst (v := 0) hx hb dX2_standingAt_0 (by decide) ?_
  refine lv_istore_n (lv' := [(2, .int 0), (0, .ref (Am 0)), (1, .int p1)]) hx hb dX2_standingAt_1 rfl hl (by decide) rfl (fun ls hl => ?_)
  refine lv_iconst (v := 0) hx hb dX2_standingAt_2 (by decide) ?_
  refine lv_istore_n (lv' := [(3, .int 0), (2, .int 0), (0, .ref (Am 0)), (1, .int p1)]) hx hb dX2_standingAt_3 rfl hl (by decide) rfl (fun ls hl => ?_)
  have lp1 : ∀ (j1 : Nat) (k1 : Nat) (hk1 : k1 + j1 = nm) (x3_1 : Int32) (e3_1 : x3_1 = (nI k1)) (x2_1 : Int32) (e2_1 : x2_1 = (cI (fun k => rg 12 (Lm 2) (nI k) == p1 && !(uwC Lm (nI k))) k1)) (ls : Array Slot) (hl : lv_has ls 4 [(3, .int x3_1), (2, .int x2_1), (0, .ref (Am 0)), (1, .int p1)]), W p l e (headSpec wsX2_standingAt ({ frames := 2, cells := 0, slots := 0, locals := 42 } : Room)).room s m ([.ref (Am 0), .int p1] : List Value).toArray below meth c s.heap [] 0 0 (MQ below (RP (.int (stndC Lm nm p1))) ([.ref (Am 0), .int p1] : List Value).toArray s 0 0 (fun _ => False)) (F0 m 4 ls []) := by
    intro j1
    induction j1 with
    | zero =>
      intro k1 hk1 x3_1 e3_1 x2_1 e2_1   ls hl
      subst e3_1 e2_1
      have hkN1 : nm = k1 := (by omega)
      subst hkN1
      refine lv_iload_n hx hb dX2_standingAt_4 rfl (lv_at hl 0 rfl) ?_
      refine lv_aload_n hx hb dX2_standingAt_5 rfl (lv_at hl 2 rfl) ?_
      refine va_get (D := D.1) (ci := 2) (v := .int (nI nm)) (C := RX2) (T := TX2) (N := 6) hx hb hts hinX2 hown hK hP 0 rfl rfl 0 (by decide) (hts (.fieldLink RX2 32 "MountainPost$Mules" "number" "I") (List.mem_of_getElem? (i := 1) rfl)) (fun _ h9 => h9) rfl dX2_standingAt_6 ?_
      refine lv_icmp_ge (tgt := 41) hx hb dX2_standingAt_9 (by decide) (fun c2 => ?_) (fun c2 => ?_)
      · refine lv_iload_n hx hb dX2_standingAt_41 rfl (lv_at hl 1 rfl) ?_
        exact eI hx hb hr hlocks dX2_standingAt_42 (by rfl)
      · exact (up0 rfl c2).elim
    | succ j1 ih1 =>
      intro k1 hk1 x3_1 e3_1 x2_1 e2_1   ls hl
      subst e3_1 e2_1
      have hlt1 : k1 < nm := by omega
      have hlt : k1 < nm := hlt1
      refine lv_iload_n hx hb dX2_standingAt_4 rfl (lv_at hl 0 rfl) ?_
      refine lv_aload_n hx hb dX2_standingAt_5 rfl (lv_at hl 2 rfl) ?_
      refine va_get (D := D.1) (ci := 2) (v := .int (nI nm)) (C := RX2) (T := TX2) (N := 6) hx hb hts hinX2 hown hK hP 0 rfl rfl 0 (by decide) (hts (.fieldLink RX2 32 "MountainPost$Mules" "number" "I") (List.mem_of_getElem? (i := 1) rfl)) (fun _ h9 => h9) rfl dX2_standingAt_6 ?_
      refine lv_icmp_ge (tgt := 41) hx hb dX2_standingAt_9 (by decide) (fun c3 => ?_) (fun c3 => ?_)
      · exact (upS hk1 hm c3).elim
      · refine lv_aload_n hx hb dX2_standingAt_12 rfl (lv_at hl 2 rfl) ?_
        refine va_get (D := D.1) (ci := 2) (v := .ref (Am 3)) (C := RX2) (T := TX2) (N := 6) hx hb hts hinX2 hown hK hP 0 rfl rfl 3 (by decide) (hts (.fieldLink RX2 23 "MountainPost$Mules" "places" "LMountainPost$Row;") (List.mem_of_getElem? (i := 2) rfl)) (fun _ h9 => h9) rfl dX2_standingAt_13 ?_
        refine lv_iload_n hx hb dX2_standingAt_16 rfl (lv_at hl 0 rfl) ?_
        refine kVp ⟨hx, hb, hml, hown, hts⟩ (c_X3_get l D (Am 3) (Am 8) 12 (Lm 2) (nI k1) (by decide)) (cwV 1 hts gX2_standingAt_X3_get rfl rfl rfl (by decide +kernel) ⟨Nat.le_of_ble_eq_true rfl, Nat.le_of_ble_eq_true rfl⟩) hK hN hP hD sbMul2 3 0 rfl rfl rfl hl.1 (Nat.le_of_ble_eq_true rfl) ⟨Nat.zero_le _, Nat.zero_le _⟩ dX2_standingAt_17 ?_ rfl
        refine lv_iload_n hx hb dX2_standingAt_20 rfl (lv_at hl 3 rfl) ?_
        refine lv_icmp_ne (tgt := 35) hx hb dX2_standingAt_21 (by decide) (fun c4 => ?_) (fun c4 => ?_)
        · refine lv_iinc (v := ((nI k1) + 1)) (lv' := [(3, .int ((nI k1) + 1)), (2, .int (cI (fun k => rg 12 (Lm 2) (nI k) == p1 && !(uwC Lm (nI k))) k1)), (0, .ref (Am 0)), (1, .int p1)]) hx hb dX2_standingAt_35 hl (k := 0) rfl rfl (by decide) rfl (fun ls hl => ?_)
          refine lv_goto (tgt := 4) hx hb dX2_standingAt_38 (by decide) ?_
          exact ih1 (k1 + 1) (by omega) _ (nI_1 k1) _ (by simp [cI, c3, c4]) ls (lv_sub hl [0, 1, 2, 3] rfl)
        · refine lv_aload_n hx hb dX2_standingAt_24 rfl (lv_at hl 2 rfl) ?_
          refine lv_iload_n hx hb dX2_standingAt_25 rfl (lv_at hl 0 rfl) ?_
          refine kVp ⟨hx, hb, hml, hown, hts⟩ (c_X2_isUnderWay l D Am nm Lm (nI k1)) (cwV 1 hts gX2_standingAt_X2_isUnderWay rfl rfl rfl (by decide +kernel) ⟨Nat.le_of_ble_eq_true rfl, Nat.le_of_ble_eq_true rfl⟩) hK hN hP hD Sb.self 2 0 rfl rfl rfl hl.1 (Nat.le_of_ble_eq_true rfl) ⟨Nat.zero_le _, Nat.zero_le _⟩ dX2_standingAt_26 ?_ rfl
          refine lv_if_ne (tgt := 35) hx hb dX2_standingAt_29 (by decide) (fun c5 => ?_) (fun c5 => ?_)
          · have c5 := z2_n.mp c5
            refine lv_iinc (v := ((nI k1) + 1)) (lv' := [(3, .int ((nI k1) + 1)), (2, .int (cI (fun k => rg 12 (Lm 2) (nI k) == p1 && !(uwC Lm (nI k))) k1)), (0, .ref (Am 0)), (1, .int p1)]) hx hb dX2_standingAt_35 hl (k := 0) rfl rfl (by decide) rfl (fun ls hl => ?_)
            refine lv_goto (tgt := 4) hx hb dX2_standingAt_38 (by decide) ?_
            exact ih1 (k1 + 1) (by omega) _ (nI_1 k1) _ (by simp [cI, c3, c4, c5]) ls (lv_sub hl [0, 1, 2, 3] rfl)
          · have c5 := z2_0.mp c5
            refine lv_iinc (v := ((cI (fun k => rg 12 (Lm 2) (nI k) == p1 && !(uwC Lm (nI k))) k1) + 1)) (lv' := [(2, .int ((cI (fun k => rg 12 (Lm 2) (nI k) == p1 && !(uwC Lm (nI k))) k1) + 1)), (3, .int (nI k1)), (0, .ref (Am 0)), (1, .int p1)]) hx hb dX2_standingAt_32 hl (k := 1) rfl rfl (by decide) rfl (fun ls hl => ?_)
            refine lv_iinc (v := ((nI k1) + 1)) (lv' := [(3, .int ((nI k1) + 1)), (2, .int ((cI (fun k => rg 12 (Lm 2) (nI k) == p1 && !(uwC Lm (nI k))) k1) + 1)), (0, .ref (Am 0)), (1, .int p1)]) hx hb dX2_standingAt_35 hl (k := 1) rfl rfl (by decide) rfl (fun ls hl => ?_)
            refine lv_goto (tgt := 4) hx hb dX2_standingAt_38 (by decide) ?_
            exact ih1 (k1 + 1) (by omega) _ (nI_1 k1) _ (by simp [cI, c3, c4, c5]) ls (lv_sub hl [0, 1, 2, 3] rfl)
  exact lp1 nm 0 (by omega) _ nI_0.symm _ rfl ls (lv_sub hl [0, 1, 2, 3] rfl)

set_option maxHeartbeats 4000000 in
set_option maxRecDepth 100000 in
theorem c_X2_ofRoad (l : Launch) (D : GG) (Am : Nat → Nat) (nm : Nat) (Lm : Nat → Nat → Int32) (p1 : Int32) (hm : nm < 2 ^ 31) : Met l yX2_ofRoad wsX2_ofRoad ({ frames := 1, cells := 0, slots := 0, locals := 21 } : Room) (va_Pc [.ref (Am 0), .int p1] (wd D (wMul D Am nm Lm))) (RP (.int (ofRC Lm nm p1))) 0 0 (fun _ => False) := by
  refine Met.ofW (cc := cX2_ofRoad) (maxL := 4) (ret := (some .int)) (by decide) rfl ?_
  intro p e s m args below meth c s₁ B hml hv
  obtain ⟨rfl, hP, hK, hD, hN⟩ := hv
  have hx := B.exec
  have hb := B.bytes
  have hr := B.returns
  have hts := atoms_spec (ws := wsX2_ofRoad) B.pre
  have hown : s.vm.findClass RX2 = some m.cls := findClass_of_methodNamed B.named
  have hlocks := B.notSynchronized
  have hinX2 : ∀ w ∈ u_ws RX2 TX2 6, w ∈ wsX2_ofRoad := by decide +kernel
  have hl := lv_entry ([.ref (Am 0), .int p1]) (n := 4) (Nat.le_of_ble_eq_true rfl)
  rw [lg_entry_eq]
  generalize (lg_sl ([.ref (Am 0), .int p1]) ++ List.replicate (4 - (lg_sl ([.ref (Am 0), .int p1])).length) Slot.unset).toArray = ls at hl ⊢
  have hl : lv_has ls 4 [(0, .ref (Am 0)), (1, .int p1)] := hl
  refine lv_iconst (v := 0) hx hb dX2_ofRoad_0 (by decide) ?_
  refine lv_istore_n (lv' := [(2, .int 0), (0, .ref (Am 0)), (1, .int p1)]) hx hb dX2_ofRoad_1 rfl hl (by decide) rfl (fun ls hl => ?_)
  refine lv_iconst (v := 0) hx hb dX2_ofRoad_2 (by decide) ?_
  refine lv_istore_n (lv' := [(3, .int 0), (2, .int 0), (0, .ref (Am 0)), (1, .int p1)]) hx hb dX2_ofRoad_3 rfl hl (by decide) rfl (fun ls hl => ?_)
  have lp1 : ∀ (j1 : Nat) (k1 : Nat) (hk1 : k1 + j1 = nm) (x3_1 : Int32) (e3_1 : x3_1 = (nI k1)) (x2_1 : Int32) (e2_1 : x2_1 = (cI (fun k => rg 12 (Lm 0) (nI k) == p1) k1)) (ls : Array Slot) (hl : lv_has ls 4 [(3, .int x3_1), (2, .int x2_1), (0, .ref (Am 0)), (1, .int p1)]), W p l e (headSpec wsX2_ofRoad ({ frames := 1, cells := 0, slots := 0, locals := 21 } : Room)).room s m ([.ref (Am 0), .int p1] : List Value).toArray below meth c s.heap [] 0 0 (MQ below (RP (.int (ofRC Lm nm p1))) ([.ref (Am 0), .int p1] : List Value).toArray s 0 0 (fun _ => False)) (F0 m 4 ls []) := by
    intro j1
    induction j1 with
    | zero =>
      intro k1 hk1 x3_1 e3_1 x2_1 e2_1   ls hl
      subst e3_1 e2_1
      have hkN1 : nm = k1 := (by omega)
      subst hkN1
      refine lv_iload_n hx hb dX2_ofRoad_4 rfl (lv_at hl 0 rfl) ?_
      refine lv_aload_n hx hb dX2_ofRoad_5 rfl (lv_at hl 2 rfl) ?_
      refine va_get (D := D.1) (ci := 2) (v := .int (nI nm)) (C := RX2) (T := TX2) (N := 6) hx hb hts hinX2 hown hK hP 0 rfl rfl 0 (by decide) (hts (.fieldLink RX2 32 "MountainPost$Mules" "number" "I") (List.mem_of_getElem? (i := 1) rfl)) (fun _ h9 => h9) rfl dX2_ofRoad_6 ?_
      refine lv_icmp_ge (tgt := 33) hx hb dX2_ofRoad_9 (by decide) (fun c2 => ?_) (fun c2 => ?_)
      · refine lv_iload_n hx hb dX2_ofRoad_33 rfl (lv_at hl 1 rfl) ?_
        exact eI hx hb hr hlocks dX2_ofRoad_34 (by rfl)
      · exact (up0 rfl c2).elim
    | succ j1 ih1 =>
      intro k1 hk1 x3_1 e3_1 x2_1 e2_1   ls hl
      subst e3_1 e2_1
      have hlt1 : k1 < nm := by omega
      have hlt : k1 < nm := hlt1
      refine lv_iload_n hx hb dX2_ofRoad_4 rfl (lv_at hl 0 rfl) ?_
      refine lv_aload_n hx hb dX2_ofRoad_5 rfl (lv_at hl 2 rfl) ?_
      refine va_get (D := D.1) (ci := 2) (v := .int (nI nm)) (C := RX2) (T := TX2) (N := 6) hx hb hts hinX2 hown hK hP 0 rfl rfl 0 (by decide) (hts (.fieldLink RX2 32 "MountainPost$Mules" "number" "I") (List.mem_of_getElem? (i := 1) rfl)) (fun _ h9 => h9) rfl dX2_ofRoad_6 ?_
      refine lv_icmp_ge (tgt := 33) hx hb dX2_ofRoad_9 (by decide) (fun c3 => ?_) (fun c3 => ?_)
      · exact (upS hk1 hm c3).elim
      · refine lv_aload_n hx hb dX2_ofRoad_12 rfl (lv_at hl 2 rfl) ?_
        refine va_get (D := D.1) (ci := 2) (v := .ref (Am 1)) (C := RX2) (T := TX2) (N := 6) hx hb hts hinX2 hown hK hP 0 rfl rfl 1 (by decide) (hts (.fieldLink RX2 14 "MountainPost$Mules" "roads" "LMountainPost$Row;") (List.mem_of_getElem? (i := 2) rfl)) (fun _ h9 => h9) rfl dX2_ofRoad_13 ?_
        refine lv_iload_n hx hb dX2_ofRoad_16 rfl (lv_at hl 0 rfl) ?_
        refine kVp ⟨hx, hb, hml, hown, hts⟩ (c_X3_get l D (Am 1) (Am 6) 12 (Lm 0) (nI k1) (by decide)) (cwV 1 hts gX2_ofRoad_X3_get rfl rfl rfl (by decide +kernel) ⟨Nat.le_of_ble_eq_true rfl, Nat.le_of_ble_eq_true rfl⟩) hK hN hP hD sbMul0 3 0 rfl rfl rfl hl.1 (Nat.le_of_ble_eq_true rfl) ⟨Nat.zero_le _, Nat.zero_le _⟩ dX2_ofRoad_17 ?_ rfl
        refine lv_iload_n hx hb dX2_ofRoad_20 rfl (lv_at hl 3 rfl) ?_
        refine lv_icmp_ne (tgt := 27) hx hb dX2_ofRoad_21 (by decide) (fun c4 => ?_) (fun c4 => ?_)
        · refine lv_iinc (v := ((nI k1) + 1)) (lv' := [(3, .int ((nI k1) + 1)), (2, .int (cI (fun k => rg 12 (Lm 0) (nI k) == p1) k1)), (0, .ref (Am 0)), (1, .int p1)]) hx hb dX2_ofRoad_27 hl (k := 0) rfl rfl (by decide) rfl (fun ls hl => ?_)
          refine lv_goto (tgt := 4) hx hb dX2_ofRoad_30 (by decide) ?_
          exact ih1 (k1 + 1) (by omega) _ (nI_1 k1) _ (by simp [cI, c3, c4]) ls (lv_sub hl [0, 1, 2, 3] rfl)
        · refine lv_iinc (v := ((cI (fun k => rg 12 (Lm 0) (nI k) == p1) k1) + 1)) (lv' := [(2, .int ((cI (fun k => rg 12 (Lm 0) (nI k) == p1) k1) + 1)), (3, .int (nI k1)), (0, .ref (Am 0)), (1, .int p1)]) hx hb dX2_ofRoad_24 hl (k := 1) rfl rfl (by decide) rfl (fun ls hl => ?_)
          refine lv_iinc (v := ((nI k1) + 1)) (lv' := [(3, .int ((nI k1) + 1)), (2, .int ((cI (fun k => rg 12 (Lm 0) (nI k) == p1) k1) + 1)), (0, .ref (Am 0)), (1, .int p1)]) hx hb dX2_ofRoad_27 hl (k := 1) rfl rfl (by decide) rfl (fun ls hl => ?_)
          refine lv_goto (tgt := 4) hx hb dX2_ofRoad_30 (by decide) ?_
          exact ih1 (k1 + 1) (by omega) _ (nI_1 k1) _ (by simp [cI, c3, c4]) ls (lv_sub hl [0, 1, 2, 3] rfl)
  exact lp1 nm 0 (by omega) _ nI_0.symm _ rfl ls (lv_sub hl [0, 1, 2, 3] rfl)

set_option maxHeartbeats 4000000 in
set_option maxRecDepth 100000 in
theorem c_X2_underWayOn (l : Launch) (D : GG) (Am : Nat → Nat) (nm : Nat) (Lm : Nat → Nat → Int32) (p1 : Int32) (hm : nm < 2 ^ 31) : Met l yX2_underWayOn wsX2_underWayOn ({ frames := 2, cells := 0, slots := 0, locals := 42 } : Room) (va_Pc [.ref (Am 0), .int p1] (wd D (wMul D Am nm Lm))) (RP (.int (onWC Lm nm p1))) 0 0 (fun _ => False) := by
  refine Met.ofW (cc := cX2_underWayOn) (maxL := 4) (ret := (some .int)) (by decide) rfl ?_
  intro p e s m args below meth c s₁ B hml hv
  obtain ⟨rfl, hP, hK, hD, hN⟩ := hv
  have hx := B.exec
  have hb := B.bytes
  have hr := B.returns
  have hts := atoms_spec (ws := wsX2_underWayOn) B.pre
  have hown : s.vm.findClass RX2 = some m.cls := findClass_of_methodNamed B.named
  have hlocks := B.notSynchronized
  have hinX2 : ∀ w ∈ u_ws RX2 TX2 6, w ∈ wsX2_underWayOn := by decide +kernel
  have hl := lv_entry ([.ref (Am 0), .int p1]) (n := 4) (Nat.le_of_ble_eq_true rfl)
  rw [lg_entry_eq]
  generalize (lg_sl ([.ref (Am 0), .int p1]) ++ List.replicate (4 - (lg_sl ([.ref (Am 0), .int p1])).length) Slot.unset).toArray = ls at hl ⊢
  have hl : lv_has ls 4 [(0, .ref (Am 0)), (1, .int p1)] := hl
  refine lv_iconst (v := 0) hx hb dX2_underWayOn_0 (by decide) ?_
  refine lv_istore_n (lv' := [(2, .int 0), (0, .ref (Am 0)), (1, .int p1)]) hx hb dX2_underWayOn_1 rfl hl (by decide) rfl (fun ls hl => ?_)
  refine lv_iconst (v := 0) hx hb dX2_underWayOn_2 (by decide) ?_
  refine lv_istore_n (lv' := [(3, .int 0), (2, .int 0), (0, .ref (Am 0)), (1, .int p1)]) hx hb dX2_underWayOn_3 rfl hl (by decide) rfl (fun ls hl => ?_)
  have lp1 : ∀ (j1 : Nat) (k1 : Nat) (hk1 : k1 + j1 = nm) (x3_1 : Int32) (e3_1 : x3_1 = (nI k1)) (x2_1 : Int32) (e2_1 : x2_1 = (cI (fun k => rg 12 (Lm 0) (nI k) == p1 && uwC Lm (nI k)) k1)) (ls : Array Slot) (hl : lv_has ls 4 [(3, .int x3_1), (2, .int x2_1), (0, .ref (Am 0)), (1, .int p1)]), W p l e (headSpec wsX2_underWayOn ({ frames := 2, cells := 0, slots := 0, locals := 42 } : Room)).room s m ([.ref (Am 0), .int p1] : List Value).toArray below meth c s.heap [] 0 0 (MQ below (RP (.int (onWC Lm nm p1))) ([.ref (Am 0), .int p1] : List Value).toArray s 0 0 (fun _ => False)) (F0 m 4 ls []) := by
    intro j1
    induction j1 with
    | zero =>
      intro k1 hk1 x3_1 e3_1 x2_1 e2_1   ls hl
      subst e3_1 e2_1
      have hkN1 : nm = k1 := (by omega)
      subst hkN1
      refine lv_iload_n hx hb dX2_underWayOn_4 rfl (lv_at hl 0 rfl) ?_
      refine lv_aload_n hx hb dX2_underWayOn_5 rfl (lv_at hl 2 rfl) ?_
      refine va_get (D := D.1) (ci := 2) (v := .int (nI nm)) (C := RX2) (T := TX2) (N := 6) hx hb hts hinX2 hown hK hP 0 rfl rfl 0 (by decide) (hts (.fieldLink RX2 32 "MountainPost$Mules" "number" "I") (List.mem_of_getElem? (i := 1) rfl)) (fun _ h9 => h9) rfl dX2_underWayOn_6 ?_
      refine lv_icmp_ge (tgt := 41) hx hb dX2_underWayOn_9 (by decide) (fun c2 => ?_) (fun c2 => ?_)
      · refine lv_iload_n hx hb dX2_underWayOn_41 rfl (lv_at hl 1 rfl) ?_
        exact eI hx hb hr hlocks dX2_underWayOn_42 (by rfl)
      · exact (up0 rfl c2).elim
    | succ j1 ih1 =>
      intro k1 hk1 x3_1 e3_1 x2_1 e2_1   ls hl
      subst e3_1 e2_1
      have hlt1 : k1 < nm := by omega
      have hlt : k1 < nm := hlt1
      refine lv_iload_n hx hb dX2_underWayOn_4 rfl (lv_at hl 0 rfl) ?_
      refine lv_aload_n hx hb dX2_underWayOn_5 rfl (lv_at hl 2 rfl) ?_
      refine va_get (D := D.1) (ci := 2) (v := .int (nI nm)) (C := RX2) (T := TX2) (N := 6) hx hb hts hinX2 hown hK hP 0 rfl rfl 0 (by decide) (hts (.fieldLink RX2 32 "MountainPost$Mules" "number" "I") (List.mem_of_getElem? (i := 1) rfl)) (fun _ h9 => h9) rfl dX2_underWayOn_6 ?_
      refine lv_icmp_ge (tgt := 41) hx hb dX2_underWayOn_9 (by decide) (fun c3 => ?_) (fun c3 => ?_)
      · exact (upS hk1 hm c3).elim
      · refine lv_aload_n hx hb dX2_underWayOn_12 rfl (lv_at hl 2 rfl) ?_
        refine va_get (D := D.1) (ci := 2) (v := .ref (Am 1)) (C := RX2) (T := TX2) (N := 6) hx hb hts hinX2 hown hK hP 0 rfl rfl 1 (by decide) (hts (.fieldLink RX2 14 "MountainPost$Mules" "roads" "LMountainPost$Row;") (List.mem_of_getElem? (i := 2) rfl)) (fun _ h9 => h9) rfl dX2_underWayOn_13 ?_
        refine lv_iload_n hx hb dX2_underWayOn_16 rfl (lv_at hl 0 rfl) ?_
        refine kVp ⟨hx, hb, hml, hown, hts⟩ (c_X3_get l D (Am 1) (Am 6) 12 (Lm 0) (nI k1) (by decide)) (cwV 1 hts gX2_underWayOn_X3_get rfl rfl rfl (by decide +kernel) ⟨Nat.le_of_ble_eq_true rfl, Nat.le_of_ble_eq_true rfl⟩) hK hN hP hD sbMul0 3 0 rfl rfl rfl hl.1 (Nat.le_of_ble_eq_true rfl) ⟨Nat.zero_le _, Nat.zero_le _⟩ dX2_underWayOn_17 ?_ rfl
        refine lv_iload_n hx hb dX2_underWayOn_20 rfl (lv_at hl 3 rfl) ?_
        refine lv_icmp_ne (tgt := 35) hx hb dX2_underWayOn_21 (by decide) (fun c4 => ?_) (fun c4 => ?_)
        · refine lv_iinc (v := ((nI k1) + 1)) (lv' := [(3, .int ((nI k1) + 1)), (2, .int (cI (fun k => rg 12 (Lm 0) (nI k) == p1 && uwC Lm (nI k)) k1)), (0, .ref (Am 0)), (1, .int p1)]) hx hb dX2_underWayOn_35 hl (k := 0) rfl rfl (by decide) rfl (fun ls hl => ?_)
          refine lv_goto (tgt := 4) hx hb dX2_underWayOn_38 (by decide) ?_
          exact ih1 (k1 + 1) (by omega) _ (nI_1 k1) _ (by simp [cI, c3, c4]) ls (lv_sub hl [0, 1, 2, 3] rfl)
        · refine lv_aload_n hx hb dX2_underWayOn_24 rfl (lv_at hl 2 rfl) ?_
          refine lv_iload_n hx hb dX2_underWayOn_25 rfl (lv_at hl 0 rfl) ?_
          refine kVp ⟨hx, hb, hml, hown, hts⟩ (c_X2_isUnderWay l D Am nm Lm (nI k1)) (cwV 1 hts gX2_underWayOn_X2_isUnderWay rfl rfl rfl (by decide +kernel) ⟨Nat.le_of_ble_eq_true rfl, Nat.le_of_ble_eq_true rfl⟩) hK hN hP hD Sb.self 2 0 rfl rfl rfl hl.1 (Nat.le_of_ble_eq_true rfl) ⟨Nat.zero_le _, Nat.zero_le _⟩ dX2_underWayOn_26 ?_ rfl
          refine lv_if_eq (tgt := 35) hx hb dX2_underWayOn_29 (by decide) (fun c5 => ?_) (fun c5 => ?_)
          · have c5 := z2_0.mp c5
            refine lv_iinc (v := ((nI k1) + 1)) (lv' := [(3, .int ((nI k1) + 1)), (2, .int (cI (fun k => rg 12 (Lm 0) (nI k) == p1 && uwC Lm (nI k)) k1)), (0, .ref (Am 0)), (1, .int p1)]) hx hb dX2_underWayOn_35 hl (k := 0) rfl rfl (by decide) rfl (fun ls hl => ?_)
            refine lv_goto (tgt := 4) hx hb dX2_underWayOn_38 (by decide) ?_
            exact ih1 (k1 + 1) (by omega) _ (nI_1 k1) _ (by simp [cI, c3, c4, c5]) ls (lv_sub hl [0, 1, 2, 3] rfl)
          · have c5 := z2_n.mp c5
            refine lv_iinc (v := ((cI (fun k => rg 12 (Lm 0) (nI k) == p1 && uwC Lm (nI k)) k1) + 1)) (lv' := [(2, .int ((cI (fun k => rg 12 (Lm 0) (nI k) == p1 && uwC Lm (nI k)) k1) + 1)), (3, .int (nI k1)), (0, .ref (Am 0)), (1, .int p1)]) hx hb dX2_underWayOn_32 hl (k := 1) rfl rfl (by decide) rfl (fun ls hl => ?_)
            refine lv_iinc (v := ((nI k1) + 1)) (lv' := [(3, .int ((nI k1) + 1)), (2, .int ((cI (fun k => rg 12 (Lm 0) (nI k) == p1 && uwC Lm (nI k)) k1) + 1)), (0, .ref (Am 0)), (1, .int p1)]) hx hb dX2_underWayOn_35 hl (k := 1) rfl rfl (by decide) rfl (fun ls hl => ?_)
            refine lv_goto (tgt := 4) hx hb dX2_underWayOn_38 (by decide) ?_
            exact ih1 (k1 + 1) (by omega) _ (nI_1 k1) _ (by simp [cI, c3, c4, c5]) ls (lv_sub hl [0, 1, 2, 3] rfl)
  exact lp1 nm 0 (by omega) _ nI_0.symm _ rfl ls (lv_sub hl [0, 1, 2, 3] rfl)

set_option maxHeartbeats 4000000 in
set_option maxRecDepth 100000 in
theorem c_X2_put (l : Launch) (D : GG) (Am : Nat → Nat) (nm : Nat) (Lm : Nat → Nat → Int32) (p1 : Int32) (p2 : Int32) (p3 : Int32)  : Met l yX2_put wsX2_put ({ frames := 1, cells := 0, slots := 0, locals := 22 } : Room) (va_Pc [.ref (Am 0), .int p1, .int p2, .int p3] (wd D (wMul D Am nm Lm))) (QW D (some (.int (nI nm))) (wMul D Am (nm + 1) (sr (sr (sr (sr (sr Lm 0 (rs 12 (Lm 0) (nI nm) p1)) 1 (rs 12 (Lm 1) (nI nm) p2)) 2 (rs 12 (Lm 2) (nI nm) p3)) 3 (rs 12 (Lm 3) (nI nm) 0)) 4 (rs 12 (Lm 4) (nI nm) 0))) (own (wMul D Am nm Lm))) 0 0 (own (wMul D Am nm Lm)) := by
  refine Met.ofW (cc := cX2_put) (maxL := 4) (ret := (some .int)) (by decide) rfl ?_
  intro p e s m args below meth c s₁ B hml hv
  obtain ⟨rfl, hP, hK, hD, hN⟩ := hv
  have hx := B.exec
  have hb := B.bytes
  have hr := B.returns
  have hts := atoms_spec (ws := wsX2_put) B.pre
  have hown : s.vm.findClass RX2 = some m.cls := findClass_of_methodNamed B.named
  have hlocks := B.notSynchronized
  have hinX2 : ∀ w ∈ u_ws RX2 TX2 6, w ∈ wsX2_put := by decide +kernel
  have hS : va_S (own (wMul D Am nm Lm)) s.heap s.heap [] := va_S.rf
  have hD : va_D (own (wMul D Am nm Lm)) (wMul D Am nm Lm) := toOwn hD
  generalize hAe : own (wMul D Am nm Lm) = A0 at hD hS ⊢
  have hl := lv_entry ([.ref (Am 0), .int p1, .int p2, .int p3]) (n := 4) (Nat.le_of_ble_eq_true rfl)
  rw [lg_entry_eq]
  generalize (lg_sl ([.ref (Am 0), .int p1, .int p2, .int p3]) ++ List.replicate (4 - (lg_sl ([.ref (Am 0), .int p1, .int p2, .int p3])).length) Slot.unset).toArray = ls at hl ⊢
  have hl : lv_has ls 4 [(0, .ref (Am 0)), (1, .int p1), (2, .int p2), (3, .int p3)] := hl
  refine lv_aload_n hx hb dX2_put_0 rfl (lv_at hl 0 rfl) ?_
  refine va_get (D := D.1) (ci := 2) (v := .ref (Am 1)) (C := RX2) (T := TX2) (N := 6) hx hb hts hinX2 hown hK hP 0 rfl rfl 1 (by decide) (hts (.fieldLink RX2 14 "MountainPost$Mules" "roads" "LMountainPost$Row;") (List.mem_of_getElem? (i := 1) rfl)) (fun _ h9 => h9) rfl dX2_put_1 ?_
  refine lv_aload_n hx hb dX2_put_4 rfl (lv_at hl 0 rfl) ?_
  refine va_get (D := D.1) (ci := 2) (v := .int (nI nm)) (C := RX2) (T := TX2) (N := 6) hx hb hts hinX2 hown hK hP 0 rfl rfl 0 (by decide) (hts (.fieldLink RX2 32 "MountainPost$Mules" "number" "I") (List.mem_of_getElem? (i := 2) rfl)) (fun _ h9 => h9) rfl dX2_put_5 ?_
  refine lv_iload_n hx hb dX2_put_8 rfl (lv_at hl 1 rfl) ?_
  refine kVw ⟨hx, hb, hml, hown, hts⟩ (c_X3_set l D (Am 1) (Am 6) 12 (Lm 0) (nI nm) p1 (by decide)) (cwV 2 hts gX2_put_X3_set rfl rfl rfl (by decide +kernel) ⟨Nat.le_of_ble_eq_true rfl, Nat.le_of_ble_eq_true rfl⟩) hK hN hP hD hS frMul0 3 0 rfl rfl rfl hl.1 (Nat.le_of_ble_eq_true rfl) ⟨Nat.zero_le _, Nat.zero_le _⟩ dX2_put_9 (fun H locs hP hD hS => ?_) rfl
  have hP : va_P D.1 vwCl (wMul D Am nm (sr Lm 0 (rs 12 (Lm 0) (nI nm) p1))) H := hP
  have hD : va_D A0 (wMul D Am nm (sr Lm 0 (rs 12 (Lm 0) (nI nm) p1))) := hD
  refine W.eq (g2 := F0 m 12 ls []) rfl ?_
  refine lv_aload_n hx hb dX2_put_12 rfl (lv_at hl 0 rfl) ?_
  refine va_get (D := D.1) (ci := 2) (v := .ref (Am 2)) (C := RX2) (T := TX2) (N := 6) hx hb hts hinX2 hown hK hP 0 rfl rfl 2 (by decide) (hts (.fieldLink RX2 20 "MountainPost$Mules" "loads" "LMountainPost$Row;") (List.mem_of_getElem? (i := 3) rfl)) (fun _ h9 => h9) rfl dX2_put_13 ?_
  refine lv_aload_n hx hb dX2_put_16 rfl (lv_at hl 0 rfl) ?_
  refine va_get (D := D.1) (ci := 2) (v := .int (nI nm)) (C := RX2) (T := TX2) (N := 6) hx hb hts hinX2 hown hK hP 0 rfl rfl 0 (by decide) (hts (.fieldLink RX2 32 "MountainPost$Mules" "number" "I") (List.mem_of_getElem? (i := 2) rfl)) (fun _ h9 => h9) rfl dX2_put_17 ?_
  refine lv_iload_n hx hb dX2_put_20 rfl (lv_at hl 2 rfl) ?_
  refine kVw ⟨hx, hb, hml, hown, hts⟩ (c_X3_set l D (Am 2) (Am 7) 12 (Lm 1) (nI nm) p2 (by decide)) (cwV 2 hts gX2_put_X3_set rfl rfl rfl (by decide +kernel) ⟨Nat.le_of_ble_eq_true rfl, Nat.le_of_ble_eq_true rfl⟩) hK hN hP hD hS frMul1 3 0 rfl rfl rfl hl.1 (Nat.le_of_ble_eq_true rfl) ⟨Nat.zero_le _, Nat.zero_le _⟩ dX2_put_21 (fun H locs hP hD hS => ?_) rfl
  have hP : va_P D.1 vwCl (wMul D Am nm (sr (sr Lm 0 (rs 12 (Lm 0) (nI nm) p1)) 1 (rs 12 (Lm 1) (nI nm) p2))) H := hP
  have hD : va_D A0 (wMul D Am nm (sr (sr Lm 0 (rs 12 (Lm 0) (nI nm) p1)) 1 (rs 12 (Lm 1) (nI nm) p2))) := hD
  refine W.eq (g2 := F0 m 24 ls []) rfl ?_
  refine lv_aload_n hx hb dX2_put_24 rfl (lv_at hl 0 rfl) ?_
  refine va_get (D := D.1) (ci := 2) (v := .ref (Am 3)) (C := RX2) (T := TX2) (N := 6) hx hb hts hinX2 hown hK hP 0 rfl rfl 3 (by decide) (hts (.fieldLink RX2 23 "MountainPost$Mules" "places" "LMountainPost$Row;") (List.mem_of_getElem? (i := 4) rfl)) (fun _ h9 => h9) rfl dX2_put_25 ?_
  refine lv_aload_n hx hb dX2_put_28 rfl (lv_at hl 0 rfl) ?_
  refine va_get (D := D.1) (ci := 2) (v := .int (nI nm)) (C := RX2) (T := TX2) (N := 6) hx hb hts hinX2 hown hK hP 0 rfl rfl 0 (by decide) (hts (.fieldLink RX2 32 "MountainPost$Mules" "number" "I") (List.mem_of_getElem? (i := 2) rfl)) (fun _ h9 => h9) rfl dX2_put_29 ?_
  refine lv_iload_n hx hb dX2_put_32 rfl (lv_at hl 3 rfl) ?_
  refine kVw ⟨hx, hb, hml, hown, hts⟩ (c_X3_set l D (Am 3) (Am 8) 12 (Lm 2) (nI nm) p3 (by decide)) (cwV 2 hts gX2_put_X3_set rfl rfl rfl (by decide +kernel) ⟨Nat.le_of_ble_eq_true rfl, Nat.le_of_ble_eq_true rfl⟩) hK hN hP hD hS frMul2 3 0 rfl rfl rfl hl.1 (Nat.le_of_ble_eq_true rfl) ⟨Nat.zero_le _, Nat.zero_le _⟩ dX2_put_33 (fun H locs hP hD hS => ?_) rfl
  have hP : va_P D.1 vwCl (wMul D Am nm (sr (sr (sr Lm 0 (rs 12 (Lm 0) (nI nm) p1)) 1 (rs 12 (Lm 1) (nI nm) p2)) 2 (rs 12 (Lm 2) (nI nm) p3))) H := hP
  have hD : va_D A0 (wMul D Am nm (sr (sr (sr Lm 0 (rs 12 (Lm 0) (nI nm) p1)) 1 (rs 12 (Lm 1) (nI nm) p2)) 2 (rs 12 (Lm 2) (nI nm) p3))) := hD
  refine W.eq (g2 := F0 m 36 ls []) rfl ?_
  refine lv_aload_n hx hb dX2_put_36 rfl (lv_at hl 0 rfl) ?_
  refine va_get (D := D.1) (ci := 2) (v := .ref (Am 4)) (C := RX2) (T := TX2) (N := 6) hx hb hts hinX2 hown hK hP 0 rfl rfl 4 (by decide) (hts (.fieldLink RX2 26 "MountainPost$Mules" "hoursLeft" "LMountainPost$Row;") (List.mem_of_getElem? (i := 5) rfl)) (fun _ h9 => h9) rfl dX2_put_37 ?_
  refine lv_aload_n hx hb dX2_put_40 rfl (lv_at hl 0 rfl) ?_
  refine va_get (D := D.1) (ci := 2) (v := .int (nI nm)) (C := RX2) (T := TX2) (N := 6) hx hb hts hinX2 hown hK hP 0 rfl rfl 0 (by decide) (hts (.fieldLink RX2 32 "MountainPost$Mules" "number" "I") (List.mem_of_getElem? (i := 2) rfl)) (fun _ h9 => h9) rfl dX2_put_41 ?_
  refine lv_iconst (v := 0) hx hb dX2_put_44 (by decide) ?_
  refine kVw ⟨hx, hb, hml, hown, hts⟩ (c_X3_set l D (Am 4) (Am 9) 12 (Lm 3) (nI nm) 0 (by decide)) (cwV 2 hts gX2_put_X3_set rfl rfl rfl (by decide +kernel) ⟨Nat.le_of_ble_eq_true rfl, Nat.le_of_ble_eq_true rfl⟩) hK hN hP hD hS frMul3 3 0 rfl rfl rfl hl.1 (Nat.le_of_ble_eq_true rfl) ⟨Nat.zero_le _, Nat.zero_le _⟩ dX2_put_45 (fun H locs hP hD hS => ?_) rfl
  have hP : va_P D.1 vwCl (wMul D Am nm (sr (sr (sr (sr Lm 0 (rs 12 (Lm 0) (nI nm) p1)) 1 (rs 12 (Lm 1) (nI nm) p2)) 2 (rs 12 (Lm 2) (nI nm) p3)) 3 (rs 12 (Lm 3) (nI nm) 0))) H := hP
  have hD : va_D A0 (wMul D Am nm (sr (sr (sr (sr Lm 0 (rs 12 (Lm 0) (nI nm) p1)) 1 (rs 12 (Lm 1) (nI nm) p2)) 2 (rs 12 (Lm 2) (nI nm) p3)) 3 (rs 12 (Lm 3) (nI nm) 0))) := hD
  refine W.eq (g2 := F0 m 48 ls []) rfl ?_
  refine lv_aload_n hx hb dX2_put_48 rfl (lv_at hl 0 rfl) ?_
  refine va_get (D := D.1) (ci := 2) (v := .ref (Am 5)) (C := RX2) (T := TX2) (N := 6) hx hb hts hinX2 hown hK hP 0 rfl rfl 5 (by decide) (hts (.fieldLink RX2 29 "MountainPost$Mules" "hoursWalked" "LMountainPost$Row;") (List.mem_of_getElem? (i := 6) rfl)) (fun _ h9 => h9) rfl dX2_put_49 ?_
  refine lv_aload_n hx hb dX2_put_52 rfl (lv_at hl 0 rfl) ?_
  refine va_get (D := D.1) (ci := 2) (v := .int (nI nm)) (C := RX2) (T := TX2) (N := 6) hx hb hts hinX2 hown hK hP 0 rfl rfl 0 (by decide) (hts (.fieldLink RX2 32 "MountainPost$Mules" "number" "I") (List.mem_of_getElem? (i := 2) rfl)) (fun _ h9 => h9) rfl dX2_put_53 ?_
  refine lv_iconst (v := 0) hx hb dX2_put_56 (by decide) ?_
  refine kVw ⟨hx, hb, hml, hown, hts⟩ (c_X3_set l D (Am 5) (Am 10) 12 (Lm 4) (nI nm) 0 (by decide)) (cwV 2 hts gX2_put_X3_set rfl rfl rfl (by decide +kernel) ⟨Nat.le_of_ble_eq_true rfl, Nat.le_of_ble_eq_true rfl⟩) hK hN hP hD hS frMul4 3 0 rfl rfl rfl hl.1 (Nat.le_of_ble_eq_true rfl) ⟨Nat.zero_le _, Nat.zero_le _⟩ dX2_put_57 (fun H locs hP hD hS => ?_) rfl
  have hP : va_P D.1 vwCl (wMul D Am nm (sr (sr (sr (sr (sr Lm 0 (rs 12 (Lm 0) (nI nm) p1)) 1 (rs 12 (Lm 1) (nI nm) p2)) 2 (rs 12 (Lm 2) (nI nm) p3)) 3 (rs 12 (Lm 3) (nI nm) 0)) 4 (rs 12 (Lm 4) (nI nm) 0))) H := hP
  have hD : va_D A0 (wMul D Am nm (sr (sr (sr (sr (sr Lm 0 (rs 12 (Lm 0) (nI nm) p1)) 1 (rs 12 (Lm 1) (nI nm) p2)) 2 (rs 12 (Lm 2) (nI nm) p3)) 3 (rs 12 (Lm 3) (nI nm) 0)) 4 (rs 12 (Lm 4) (nI nm) 0))) := hD
  refine W.eq (g2 := F0 m 60 ls []) rfl ?_
  refine lv_aload_n hx hb dX2_put_60 rfl (lv_at hl 0 rfl) ?_
  refine lv_dup hx hb dX2_put_61 rfl ?_
  refine va_get (D := D.1) (ci := 2) (v := .int (nI nm)) (C := RX2) (T := TX2) (N := 6) hx hb hts hinX2 hown hK hP 0 rfl rfl 0 (by decide) (hts (.fieldLink RX2 32 "MountainPost$Mules" "number" "I") (List.mem_of_getElem? (i := 2) rfl)) (fun _ h9 => h9) rfl dX2_put_62 ?_
  refine lv_iconst (v := 1) hx hb dX2_put_65 (by decide) ?_
  refine lv_iadd hx hb dX2_put_66 ?_
  refine W.eq (g2 := F0 m 67 ls [.int (nI (nm + 1)), .ref (Am 0)]) (by rw [show ((nI nm) + 1) = nI (nm + 1) from nI_1 nm]) ?_
  refine va_put (D := D.1) (ci := 2) (v := .int (nI (nm + 1))) (ty := .int) (C := RX2) (T := TX2) (N := 6) hx hb hts hinX2 tyX2 tyX2_ok nmX2 hown hK hP hD hS 0 rfl rfl 0 (by decide) (hts (.fieldLink RX2 32 "MountainPost$Mules" "number" "I") (List.mem_of_getElem? (i := 2) rfl)) (fun _ h9 => h9) rfl (by decide +kernel) rfl rfl (Nat.le_of_ble_eq_true rfl) dX2_put_67 (fun H locs hP hD hS => ?_)
  have hP : va_P D.1 vwCl (wMul D Am (nm + 1) (sr (sr (sr (sr (sr Lm 0 (rs 12 (Lm 0) (nI nm) p1)) 1 (rs 12 (Lm 1) (nI nm) p2)) 2 (rs 12 (Lm 2) (nI nm) p3)) 3 (rs 12 (Lm 3) (nI nm) 0)) 4 (rs 12 (Lm 4) (nI nm) 0))) H := hP
  have hD : va_D A0 (wMul D Am (nm + 1) (sr (sr (sr (sr (sr Lm 0 (rs 12 (Lm 0) (nI nm) p1)) 1 (rs 12 (Lm 1) (nI nm) p2)) 2 (rs 12 (Lm 2) (nI nm) p3)) 3 (rs 12 (Lm 3) (nI nm) 0)) 4 (rs 12 (Lm 4) (nI nm) 0))) := hD
  refine lv_aload_n hx hb dX2_put_70 rfl (lv_at hl 0 rfl) ?_
  refine va_get (D := D.1) (ci := 2) (v := .int (nI (nm + 1))) (C := RX2) (T := TX2) (N := 6) hx hb hts hinX2 hown hK hP 0 rfl rfl 0 (by decide) (hts (.fieldLink RX2 32 "MountainPost$Mules" "number" "I") (List.mem_of_getElem? (i := 2) rfl)) (fun _ h9 => h9) rfl dX2_put_71 ?_
  refine lv_iconst (v := 1) hx hb dX2_put_74 (by decide) ?_
  refine lv_isub hx hb dX2_put_75 ?_
  exact eWi hx hb hr hlocks dX2_put_76 hS hP (by exact nI_pred nm) (by rfl)
