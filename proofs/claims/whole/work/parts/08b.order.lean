set_option maxHeartbeats 4000000 in
set_option maxRecDepth 100000 in
theorem c_X1_putInOrder (l : Launch) (D : GG) (Ae : Nat → Nat) (ne : Nat) (Le : Nat → Nat → Int32) (p2 : Int32) (r : Nat) (hr9 : r < 2 ^ 31) : Met l yX1_putInOrder wsX1_putInOrder ({ frames := 1, cells := 0, slots := 0, locals := 22 } : Room) (va_Pc [.ref (Ae 0), .int (nI r), .int p2] (wd D (wLet D Ae ne Le))) (QW D none (wLet D Ae ne (sr Le 10 (pio (Le 2) p2 (nI r) r (Le 10)))) (own (wLet D Ae ne Le))) 0 0 (own (wLet D Ae ne Le)) := by
  refine Met.ofW (cc := cX1_putInOrder) (maxL := 4) (ret := none) (by decide) rfl ?_
  intro p e s m args below meth c s₁ B hml hv
  obtain ⟨rfl, hP, hK, hD, hN⟩ := hv
  have hx := B.exec
  have hb := B.bytes
  have hr := B.returns
  have hts := atoms_spec (ws := wsX1_putInOrder) B.pre
  have hown : s.vm.findClass RX1 = some m.cls := findClass_of_methodNamed B.named
  have hlocks := B.notSynchronized
  have hinX1 : ∀ w ∈ u_ws RX1 TX1 12, w ∈ wsX1_putInOrder := by decide +kernel
  have hS : va_S (own (wLet D Ae ne Le)) s.heap s.heap [] := va_S.rf
  have hD : va_D (own (wLet D Ae ne Le)) (wLet D Ae ne Le) := toOwn hD
  generalize hAe : own (wLet D Ae ne Le) = A0 at hD hS ⊢
  have hl := lv_entry ([.ref (Ae 0), .int (nI r), .int p2]) (n := 4) (Nat.le_of_ble_eq_true rfl)
  rw [lg_entry_eq]
  generalize (lg_sl ([.ref (Ae 0), .int (nI r), .int p2]) ++ List.replicate (4 - (lg_sl ([.ref (Ae 0), .int (nI r), .int p2])).length) Slot.unset).toArray = ls at hl ⊢
  have hl : lv_has ls 4 [(0, .ref (Ae 0)), (1, .int (nI r)), (2, .int p2)] := hl
  refine lv_iload_n hx hb dX1_putInOrder_0 rfl (lv_at hl 1 rfl) ?_
  refine lv_istore_n (lv' := [(3, .int (nI r)), (0, .ref (Ae 0)), (1, .int (nI r)), (2, .int p2)]) hx hb dX1_putInOrder_1 rfl hl (by decide) rfl (fun ls hl => ?_)
  have lp1 : ∀ (j1 : Nat) (ox : Nat → Int32) (hj : j1 ≤ r) (ho : pio (Le 2) p2 (nI r) j1 ox = pio (Le 2) p2 (nI r) r (Le 10)) (x3_1 : Int32) (e3_1 : x3_1 = (nI j1)) (H : Heap) (locs : List Loc) (hP : va_P D.1 vwCl (wLet D Ae ne (sr Le 10 ox)) H) (hD : va_D A0 (wLet D Ae ne (sr Le 10 ox))) (hS : va_S A0 s.heap H locs) (ls : Array Slot) (hl : lv_has ls 4 [(3, .int x3_1), (0, .ref (Ae 0)), (1, .int (nI r)), (2, .int p2)]), W p l e (headSpec wsX1_putInOrder ({ frames := 1, cells := 0, slots := 0, locals := 22 } : Room)).room s m ([.ref (Ae 0), .int (nI r), .int p2] : List Value).toArray below meth c H locs 0 0 (MQ below (QW D none (wLet D Ae ne (sr Le 10 (pio (Le 2) p2 (nI r) r (Le 10)))) A0) ([.ref (Ae 0), .int (nI r), .int p2] : List Value).toArray s 0 0 A0) (F0 m 2 ls []) := by
    intro j1
    induction j1 with
    | zero =>
      intro ox hj ho x3_1 e3_1 H locs hP hD hS ls hl
      subst e3_1
      refine lv_iload_n hx hb dX1_putInOrder_2 rfl (lv_at hl 0 rfl) ?_
      refine lv_if_le (tgt := 51) hx hb dX1_putInOrder_3 (by decide) (fun c2 => ?_) (fun c2 => ?_)
      · refine lv_aload_n hx hb dX1_putInOrder_51 rfl (lv_at hl 1 rfl) ?_
        refine va_get (D := D.1) (ci := 1) (v := .ref (Ae 11)) (C := RX1) (T := TX1) (N := 12) hx hb hts hinX1 hown hK hP 0 rfl rfl 11 (by decide) (hts (.fieldLink RX1 47 "MountainPost$Letters" "order" "LMountainPost$Row;") (List.mem_of_getElem? (i := 2) rfl)) (fun _ h9 => h9) rfl dX1_putInOrder_52 ?_
        refine lv_iload_n hx hb dX1_putInOrder_55 rfl (lv_at hl 0 rfl) ?_
        refine lv_iload_n hx hb dX1_putInOrder_56 rfl (lv_at hl 2 rfl) ?_
        refine kVw ⟨hx, hb, hml, hown, hts⟩ (c_X3_set l D (Ae 11) (Ae 22) 60 ox (nI 0) (nI r) (by decide)) (cwV 2 hts gX1_putInOrder_X3_set rfl rfl rfl (by decide +kernel) ⟨Nat.le_of_ble_eq_true rfl, Nat.le_of_ble_eq_true rfl⟩) hK hN hP hD hS frLet10 3 0 rfl rfl rfl hl.1 (Nat.le_of_ble_eq_true rfl) ⟨Nat.zero_le _, Nat.zero_le _⟩ dX1_putInOrder_57 (fun H locs hP hD hS => ?_) rfl
        have hP : va_P D.1 vwCl (wLet D Ae ne (sr (sr Le 10 ox) 10 (rs 60 ox (nI 0) (nI r)))) H := hP
        have hD : va_D A0 (wLet D Ae ne (sr (sr Le 10 ox) 10 (rs 60 ox (nI 0) (nI r)))) := hD
        refine W.eq (g2 := F0 m 60 ls []) rfl ?_
        exact eWv hx hb hr hlocks dX1_putInOrder_60 hS hP (by first | (rw [← ho, pio]; first | done | rfl) | (rw [← ho, pio, if_pos (by assumption)]; first | done | rfl))
      · exact absurd (Int32.le_refl 0) c2
    | succ j1 ih1 =>
      intro ox hj ho x3_1 e3_1 H locs hP hD hS ls hl
      subst e3_1
      refine lv_iload_n hx hb dX1_putInOrder_2 rfl (lv_at hl 0 rfl) ?_
      refine lv_if_le (tgt := 51) hx hb dX1_putInOrder_3 (by decide) (fun c3 => ?_) (fun c3 => ?_)
      · exact absurd c3 (nI_nle (by omega) (by omega))
      · refine lv_aload_n hx hb dX1_putInOrder_6 rfl (lv_at hl 1 rfl) ?_
        refine va_get (D := D.1) (ci := 1) (v := .ref (Ae 3)) (C := RX1) (T := TX1) (N := 12) hx hb hts hinX1 hown hK hP 0 rfl rfl 3 (by decide) (hts (.fieldLink RX1 23 "MountainPost$Letters" "urgencies" "LMountainPost$Row;") (List.mem_of_getElem? (i := 1) rfl)) (fun _ h9 => h9) rfl dX1_putInOrder_7 ?_
        refine lv_aload_n hx hb dX1_putInOrder_10 rfl (lv_at hl 1 rfl) ?_
        refine va_get (D := D.1) (ci := 1) (v := .ref (Ae 11)) (C := RX1) (T := TX1) (N := 12) hx hb hts hinX1 hown hK hP 0 rfl rfl 11 (by decide) (hts (.fieldLink RX1 47 "MountainPost$Letters" "order" "LMountainPost$Row;") (List.mem_of_getElem? (i := 2) rfl)) (fun _ h9 => h9) rfl dX1_putInOrder_11 ?_
        refine lv_iload_n hx hb dX1_putInOrder_14 rfl (lv_at hl 0 rfl) ?_
        refine lv_iconst (v := 1) hx hb dX1_putInOrder_15 (by decide) ?_
        refine lv_isub hx hb dX1_putInOrder_16 ?_
        refine kVp ⟨hx, hb, hml, hown, hts⟩ (c_X3_get l D (Ae 11) (Ae 22) 60 ox ((nI (j1 + 1)) - 1) (by decide)) (cwV 1 hts gX1_putInOrder_X3_get rfl rfl rfl (by decide +kernel) ⟨Nat.le_of_ble_eq_true rfl, Nat.le_of_ble_eq_true rfl⟩) hK hN hP hD sbLet10 3 0 rfl rfl rfl hl.1 (Nat.le_of_ble_eq_true rfl) ⟨Nat.zero_le _, Nat.zero_le _⟩ dX1_putInOrder_17 ?_ rfl
        refine kVp ⟨hx, hb, hml, hown, hts⟩ (c_X3_get l D (Ae 3) (Ae 14) 60 (Le 2) (rg 60 ox ((nI (j1 + 1)) - 1)) (by decide)) (cwV 1 hts gX1_putInOrder_X3_get rfl rfl rfl (by decide +kernel) ⟨Nat.le_of_ble_eq_true rfl, Nat.le_of_ble_eq_true rfl⟩) hK hN hP hD sbLet2 3 0 rfl rfl rfl hl.1 (Nat.le_of_ble_eq_true rfl) ⟨Nat.zero_le _, Nat.zero_le _⟩ dX1_putInOrder_20 ?_ rfl
        refine lv_iload_n hx hb dX1_putInOrder_23 rfl (lv_at hl 3 rfl) ?_
        refine lv_icmp_ge (tgt := 51) hx hb dX1_putInOrder_24 (by decide) (fun c4 => ?_) (fun c4 => ?_)
        · refine lv_aload_n hx hb dX1_putInOrder_51 rfl (lv_at hl 1 rfl) ?_
          refine va_get (D := D.1) (ci := 1) (v := .ref (Ae 11)) (C := RX1) (T := TX1) (N := 12) hx hb hts hinX1 hown hK hP 0 rfl rfl 11 (by decide) (hts (.fieldLink RX1 47 "MountainPost$Letters" "order" "LMountainPost$Row;") (List.mem_of_getElem? (i := 2) rfl)) (fun _ h9 => h9) rfl dX1_putInOrder_52 ?_
          refine lv_iload_n hx hb dX1_putInOrder_55 rfl (lv_at hl 0 rfl) ?_
          refine lv_iload_n hx hb dX1_putInOrder_56 rfl (lv_at hl 2 rfl) ?_
          refine kVw ⟨hx, hb, hml, hown, hts⟩ (c_X3_set l D (Ae 11) (Ae 22) 60 ox (nI (j1 + 1)) (nI r) (by decide)) (cwV 2 hts gX1_putInOrder_X3_set rfl rfl rfl (by decide +kernel) ⟨Nat.le_of_ble_eq_true rfl, Nat.le_of_ble_eq_true rfl⟩) hK hN hP hD hS frLet10 3 0 rfl rfl rfl hl.1 (Nat.le_of_ble_eq_true rfl) ⟨Nat.zero_le _, Nat.zero_le _⟩ dX1_putInOrder_57 (fun H locs hP hD hS => ?_) rfl
          have hP : va_P D.1 vwCl (wLet D Ae ne (sr (sr Le 10 ox) 10 (rs 60 ox (nI (j1 + 1)) (nI r)))) H := hP
          have hD : va_D A0 (wLet D Ae ne (sr (sr Le 10 ox) 10 (rs 60 ox (nI (j1 + 1)) (nI r)))) := hD
          refine W.eq (g2 := F0 m 60 ls []) rfl ?_
          exact eWv hx hb hr hlocks dX1_putInOrder_60 hS hP (by first | (rw [← ho, pio]; first | done | rfl) | (rw [← ho, pio, if_pos (by assumption)]; first | done | rfl))
        · refine lv_aload_n hx hb dX1_putInOrder_27 rfl (lv_at hl 1 rfl) ?_
          refine va_get (D := D.1) (ci := 1) (v := .ref (Ae 11)) (C := RX1) (T := TX1) (N := 12) hx hb hts hinX1 hown hK hP 0 rfl rfl 11 (by decide) (hts (.fieldLink RX1 47 "MountainPost$Letters" "order" "LMountainPost$Row;") (List.mem_of_getElem? (i := 2) rfl)) (fun _ h9 => h9) rfl dX1_putInOrder_28 ?_
          refine lv_iload_n hx hb dX1_putInOrder_31 rfl (lv_at hl 0 rfl) ?_
          refine lv_aload_n hx hb dX1_putInOrder_32 rfl (lv_at hl 1 rfl) ?_
          refine va_get (D := D.1) (ci := 1) (v := .ref (Ae 11)) (C := RX1) (T := TX1) (N := 12) hx hb hts hinX1 hown hK hP 0 rfl rfl 11 (by decide) (hts (.fieldLink RX1 47 "MountainPost$Letters" "order" "LMountainPost$Row;") (List.mem_of_getElem? (i := 2) rfl)) (fun _ h9 => h9) rfl dX1_putInOrder_33 ?_
          refine lv_iload_n hx hb dX1_putInOrder_36 rfl (lv_at hl 0 rfl) ?_
          refine lv_iconst (v := 1) hx hb dX1_putInOrder_37 (by decide) ?_
          refine lv_isub hx hb dX1_putInOrder_38 ?_
          refine kVp ⟨hx, hb, hml, hown, hts⟩ (c_X3_get l D (Ae 11) (Ae 22) 60 ox ((nI (j1 + 1)) - 1) (by decide)) (cwV 1 hts gX1_putInOrder_X3_get rfl rfl rfl (by decide +kernel) ⟨Nat.le_of_ble_eq_true rfl, Nat.le_of_ble_eq_true rfl⟩) hK hN hP hD sbLet10 3 0 rfl rfl rfl hl.1 (Nat.le_of_ble_eq_true rfl) ⟨Nat.zero_le _, Nat.zero_le _⟩ dX1_putInOrder_39 ?_ rfl
          refine kVw ⟨hx, hb, hml, hown, hts⟩ (c_X3_set l D (Ae 11) (Ae 22) 60 ox (nI (j1 + 1)) (rg 60 ox ((nI (j1 + 1)) - 1)) (by decide)) (cwV 2 hts gX1_putInOrder_X3_set rfl rfl rfl (by decide +kernel) ⟨Nat.le_of_ble_eq_true rfl, Nat.le_of_ble_eq_true rfl⟩) hK hN hP hD hS frLet10 3 0 rfl rfl rfl hl.1 (Nat.le_of_ble_eq_true rfl) ⟨Nat.zero_le _, Nat.zero_le _⟩ dX1_putInOrder_42 (fun H locs hP hD hS => ?_) rfl
          have hP : va_P D.1 vwCl (wLet D Ae ne (sr (sr Le 10 ox) 10 (rs 60 ox (nI (j1 + 1)) (rg 60 ox ((nI (j1 + 1)) - 1))))) H := hP
          have hD : va_D A0 (wLet D Ae ne (sr (sr Le 10 ox) 10 (rs 60 ox (nI (j1 + 1)) (rg 60 ox ((nI (j1 + 1)) - 1))))) := hD
          refine W.eq (g2 := F0 m 45 ls []) rfl ?_
          refine lv_iinc (v := ((nI (j1 + 1)) + (-1))) (lv' := [(3, .int ((nI (j1 + 1)) + (-1))), (0, .ref (Ae 0)), (1, .int (nI r)), (2, .int p2)]) hx hb dX1_putInOrder_45 hl (k := 0) rfl rfl (by decide) rfl (fun ls hl => ?_)
          refine lv_goto (tgt := 2) hx hb dX1_putInOrder_48 (by decide) ?_
          exact ih1 _ (by omega) (by rw [← ho, pio, if_neg (by assumption)]) _ (pk_m1 j1) _ _ hP hD hS ls (lv_sub hl [0, 1, 2, 3] rfl)
  exact lp1 r (Le 10) (Nat.le_refl r) rfl _ rfl _ _ hP hD hS ls (lv_sub hl [0, 1, 2, 3] rfl)
