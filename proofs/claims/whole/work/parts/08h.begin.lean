set_option maxHeartbeats 4000000 in
set_option maxRecDepth 100000 in
theorem c_X5_beginWith (l : Launch) (D : GG) (Aw : Nat → Nat) (Lw : Nat → Nat → Int32) (Ad : Nat → Nat) (nsd : Nat) (fogd : Int32) (nrd : Nat) (Ld : Nat → Nat → Int32) (p2 : Int32) (p3 : Int32) (hns : nsd < 2 ^ 31) : Met l yX5_beginWith wsX5_beginWith ({ frames := 2, cells := 0, slots := 0, locals := 45 } : Room) (va_Pc [.ref (Aw 0), .ref (Ad 0), .int p2, .int p3] (wd D ((wWays D Aw Lw) ++ (wLand D Ad nsd fogd nrd Ld)))) (QW D none ((wWays D Aw (bgF Lw Ld p2 p3 nsd)) ++ (wLand D Ad nsd fogd nrd Ld)) (own ((wWays D Aw Lw) ++ (wLand D Ad nsd fogd nrd Ld)))) 0 0 (own ((wWays D Aw Lw) ++ (wLand D Ad nsd fogd nrd Ld))) := by
  refine Met.ofW (cc := cX5_beginWith) (maxL := 7) (ret := none) (by decide) rfl ?_
  intro p e s m args below meth c s₁ B hml hv
  obtain ⟨rfl, hP, hK, hD, hN⟩ := hv
  have hx := B.exec
  have hb := B.bytes
  have hr := B.returns
  have hts := atoms_spec (ws := wsX5_beginWith) B.pre
  have hown : s.vm.findClass RX5 = some m.cls := findClass_of_methodNamed B.named
  have hlocks := B.notSynchronized
  have hinX0 : ∀ w ∈ u_ws RX0 TX0 8, w ∈ wsX5_beginWith := by decide +kernel
  have hinX5 : ∀ w ∈ u_ws RX5 TX5 2, w ∈ wsX5_beginWith := by decide +kernel
  have hS : va_S (own ((wWays D Aw Lw) ++ (wLand D Ad nsd fogd nrd Ld))) s.heap s.heap [] := va_S.rf
  have hD : va_D (own ((wWays D Aw Lw) ++ (wLand D Ad nsd fogd nrd Ld))) ((wWays D Aw Lw) ++ (wLand D Ad nsd fogd nrd Ld)) := toOwn hD
  generalize hAe : own ((wWays D Aw Lw) ++ (wLand D Ad nsd fogd nrd Ld)) = A0 at hD hS ⊢
  have hl := lv_entry ([.ref (Aw 0), .ref (Ad 0), .int p2, .int p3]) (n := 7) (Nat.le_of_ble_eq_true rfl)
  rw [lg_entry_eq]
  generalize (lg_sl ([.ref (Aw 0), .ref (Ad 0), .int p2, .int p3]) ++ List.replicate (7 - (lg_sl ([.ref (Aw 0), .ref (Ad 0), .int p2, .int p3])).length) Slot.unset).toArray = ls at hl ⊢
  have hl : lv_has ls 7 [(0, .ref (Aw 0)), (1, .ref (Ad 0)), (2, .int p2), (3, .int p3)] := hl
  refine lv_aload_n hx hb dX5_beginWith_0 rfl (lv_at hl 1 rfl) ?_
  refine lv_iload_n hx hb dX5_beginWith_1 rfl (lv_at hl 2 rfl) ?_
  refine lv_iload_n hx hb dX5_beginWith_2 rfl (lv_at hl 3 rfl) ?_
  refine kVp ⟨hx, hb, hml, hown, hts⟩ (c_X0_otherEnd l D Ad nsd fogd nrd Ld p2 p3) (cwV 2 hts gX5_beginWith_X0_otherEnd rfl rfl rfl (by decide +kernel) ⟨Nat.le_of_ble_eq_true rfl, Nat.le_of_ble_eq_true rfl⟩) hK hN hP hD (Sb.r Sb.self) 0 0 rfl rfl rfl hl.1 (Nat.le_of_ble_eq_true rfl) ⟨Nat.zero_le _, Nat.zero_le _⟩ dX5_beginWith_3 ?_ rfl
  refine lv_istore (lv' := [(4, .int (othC Ld p2 p3)), (0, .ref (Aw 0)), (1, .ref (Ad 0)), (2, .int p2), (3, .int p3)]) hx hb dX5_beginWith_6 hl (by decide) rfl (fun ls hl => ?_)
  refine lv_aload_n hx hb dX5_beginWith_8 rfl (lv_at hl 2 rfl) ?_
  refine lv_iload_n hx hb dX5_beginWith_9 rfl (lv_at hl 3 rfl) ?_
  refine lv_iload_n hx hb dX5_beginWith_10 rfl (lv_at hl 4 rfl) ?_
  refine lv_iload hx hb dX5_beginWith_11 (lv_at hl 0 rfl) ?_
  refine kVp ⟨hx, hb, hml, hown, hts⟩ (c_X0_hoursBetween l D Ad nsd fogd nrd Ld p2 p3 (othC Ld p2 p3)) (cwV 3 hts gX5_beginWith_X0_hoursBetween rfl rfl rfl (by decide +kernel) ⟨Nat.le_of_ble_eq_true rfl, Nat.le_of_ble_eq_true rfl⟩) hK hN hP hD (Sb.r Sb.self) 0 0 rfl rfl rfl hl.1 (Nat.le_of_ble_eq_true rfl) ⟨Nat.zero_le _, Nat.zero_le _⟩ dX5_beginWith_13 ?_ rfl
  refine lv_istore (lv' := [(5, .int (hrsC Ld p2 p3 (othC Ld p2 p3))), (4, .int (othC Ld p2 p3)), (0, .ref (Aw 0)), (1, .ref (Ad 0)), (2, .int p2), (3, .int p3)]) hx hb dX5_beginWith_16 hl (by decide) rfl (fun ls hl => ?_)
  refine lv_iconst (v := 0) hx hb dX5_beginWith_18 (by decide) ?_
  refine lv_istore (lv' := [(6, .int 0), (5, .int (hrsC Ld p2 p3 (othC Ld p2 p3))), (4, .int (othC Ld p2 p3)), (0, .ref (Aw 0)), (1, .ref (Ad 0)), (2, .int p2), (3, .int p3)]) hx hb dX5_beginWith_19 hl (by decide) rfl (fun ls hl => ?_)
  have lp1 : ∀ (j1 : Nat) (k1 : Nat) (hk1 : k1 + j1 = nsd) (x6_1 : Int32) (e6_1 : x6_1 = (nI k1)) (ywL_1 : Nat → Nat → Int32) (eywL_1 : ywL_1 = (bgF Lw Ld p2 p3 k1)) (H : Heap) (locs : List Loc) (hP : va_P D.1 vwCl ((wWays D Aw ywL_1) ++ (wLand D Ad nsd fogd nrd Ld)) H) (hD : va_D A0 ((wWays D Aw ywL_1) ++ (wLand D Ad nsd fogd nrd Ld))) (hS : va_S A0 s.heap H locs) (ls : Array Slot) (hl : lv_has ls 7 [(6, .int x6_1), (5, .int (hrsC Ld p2 p3 (othC Ld p2 p3))), (4, .int (othC Ld p2 p3)), (0, .ref (Aw 0)), (1, .ref (Ad 0)), (2, .int p2), (3, .int p3)]), W p l e (headSpec wsX5_beginWith ({ frames := 2, cells := 0, slots := 0, locals := 45 } : Room)).room s m ([.ref (Aw 0), .ref (Ad 0), .int p2, .int p3] : List Value).toArray below meth c H locs 0 0 (MQ below (QW D none ((wWays D Aw (bgF Lw Ld p2 p3 nsd)) ++ (wLand D Ad nsd fogd nrd Ld)) A0) ([.ref (Aw 0), .ref (Ad 0), .int p2, .int p3] : List Value).toArray s 0 0 A0) (F0 m 21 ls []) := by
    intro j1
    induction j1 with
    | zero =>
      intro k1 hk1 x6_1 e6_1 ywL_1 eywL_1  H locs hP hD hS ls hl
      subst e6_1 eywL_1
      have hkN1 : nsd = k1 := (by omega)
      subst hkN1
      refine lv_iload hx hb dX5_beginWith_21 (lv_at hl 0 rfl) ?_
      refine lv_aload_n hx hb dX5_beginWith_23 rfl (lv_at hl 4 rfl) ?_
      refine va_getN (D := D.1) (ci := 0) (v := .int (nI nsd)) (C := RX0) (T := TX0) (N := 8) hx hb hts hinX0 hown hK (sP (Sb.r Sb.self) hP) 0 rfl rfl 0 (by decide) (hN.f 45 rfl) (fun _ h9 => h9) rfl dX5_beginWith_24 ?_
      refine lv_icmp_ge (tgt := 72) hx hb dX5_beginWith_27 (by decide) (fun c2 => ?_) (fun c2 => ?_)
      · exact eWv hx hb hr hlocks dX5_beginWith_72 hS hP (by rfl)
      · exact (up0 rfl c2).elim
    | succ j1 ih1 =>
      intro k1 hk1 x6_1 e6_1 ywL_1 eywL_1  H locs hP hD hS ls hl
      subst e6_1 eywL_1
      have hlt1 : k1 < nsd := by omega
      have hlt : k1 < nsd := hlt1
      refine lv_iload hx hb dX5_beginWith_21 (lv_at hl 0 rfl) ?_
      refine lv_aload_n hx hb dX5_beginWith_23 rfl (lv_at hl 4 rfl) ?_
      refine va_getN (D := D.1) (ci := 0) (v := .int (nI nsd)) (C := RX0) (T := TX0) (N := 8) hx hb hts hinX0 hown hK (sP (Sb.r Sb.self) hP) 0 rfl rfl 0 (by decide) (hN.f 45 rfl) (fun _ h9 => h9) rfl dX5_beginWith_24 ?_
      refine lv_icmp_ge (tgt := 72) hx hb dX5_beginWith_27 (by decide) (fun c3 => ?_) (fun c3 => ?_)
      · exact (upS hk1 hns c3).elim
      · refine lv_iload hx hb dX5_beginWith_30 (lv_at hl 1 rfl) ?_
        refine lv_aload_n hx hb dX5_beginWith_32 rfl (lv_at hl 3 rfl) ?_
        refine lv_iload hx hb dX5_beginWith_33 (lv_at hl 2 rfl) ?_
        refine lv_iload hx hb dX5_beginWith_35 (lv_at hl 0 rfl) ?_
        refine kVp ⟨hx, hb, hml, hown, hts⟩ (c_X5_hoursOf l D Aw (bgF Lw Ld p2 p3 k1) (othC Ld p2 p3) (nI k1)) (cwV 2 hts gX5_beginWith_X5_hoursOf rfl rfl rfl (by decide +kernel) ⟨Nat.le_of_ble_eq_true rfl, Nat.le_of_ble_eq_true rfl⟩) hK hN hP hD (Sb.l Sb.self) 5 0 rfl rfl rfl hl.1 (Nat.le_of_ble_eq_true rfl) ⟨Nat.zero_le _, Nat.zero_le _⟩ dX5_beginWith_37 ?_ rfl
        refine lv_iadd hx hb dX5_beginWith_40 ?_
        refine lv_aload_n hx hb dX5_beginWith_41 rfl (lv_at hl 3 rfl) ?_
        refine lv_iload_n hx hb dX5_beginWith_42 rfl (lv_at hl 6 rfl) ?_
        refine lv_iload hx hb dX5_beginWith_43 (lv_at hl 0 rfl) ?_
        refine kVp ⟨hx, hb, hml, hown, hts⟩ (c_X5_hoursOf l D Aw (bgF Lw Ld p2 p3 k1) p3 (nI k1)) (cwV 2 hts gX5_beginWith_X5_hoursOf rfl rfl rfl (by decide +kernel) ⟨Nat.le_of_ble_eq_true rfl, Nat.le_of_ble_eq_true rfl⟩) hK hN hP hD (Sb.l Sb.self) 5 0 rfl rfl rfl hl.1 (Nat.le_of_ble_eq_true rfl) ⟨Nat.zero_le _, Nat.zero_le _⟩ dX5_beginWith_45 ?_ rfl
        refine lv_icmp_ne (tgt := 66) hx hb dX5_beginWith_48 (by decide) (fun c4 => ?_) (fun c4 => ?_)
        · refine lv_iinc (v := ((nI k1) + 1)) (lv' := [(6, .int ((nI k1) + 1)), (5, .int (hrsC Ld p2 p3 (othC Ld p2 p3))), (4, .int (othC Ld p2 p3)), (0, .ref (Aw 0)), (1, .ref (Ad 0)), (2, .int p2), (3, .int p3)]) hx hb dX5_beginWith_66 hl (k := 0) rfl rfl (by decide) rfl (fun ls hl => ?_)
          refine lv_goto (tgt := 21) hx hb dX5_beginWith_69 (by decide) ?_
          exact ih1 (k1 + 1) (by omega) _ (nI_1 k1) _ (by first | (rw [bgF, if_neg (by assumption)]; first | done | rfl) | (rw [bgF, if_pos (by assumption)]; first | done | rfl)) _ _ hP hD hS ls (lv_sub hl [0, 1, 2, 3, 4, 5, 6] rfl)
        · refine lv_aload_n hx hb dX5_beginWith_51 rfl (lv_at hl 3 rfl) ?_
          refine va_get (D := D.1) (ci := 5) (v := .ref (Aw 2)) (C := RX5) (T := TX5) (N := 2) hx hb hts hinX5 hown hK (sP (Sb.l Sb.self) hP) 0 rfl rfl 1 (by decide) (hts (.fieldLink RX5 20 "MountainPost$Ways" "firsts" "LMountainPost$Row;") (List.mem_of_getElem? (i := 1) rfl)) (fun _ h9 => h9) rfl dX5_beginWith_52 ?_
          refine lv_iload_n hx hb dX5_beginWith_55 rfl (lv_at hl 6 rfl) ?_
          refine lv_bipush (v := 10) hx hb dX5_beginWith_56 (by decide) ?_
          refine lv_imul hx hb dX5_beginWith_58 ?_
          refine lv_iload hx hb dX5_beginWith_59 (lv_at hl 0 rfl) ?_
          refine lv_iadd hx hb dX5_beginWith_61 ?_
          refine lv_iload_n hx hb dX5_beginWith_62 rfl (lv_at hl 5 rfl) ?_
          refine kVw ⟨hx, hb, hml, hown, hts⟩ (c_X3_set l D (Aw 2) (Aw 4) 100 ((bgF Lw Ld p2 p3 k1) 1) ((p3 * 10) + (nI k1)) p2 (by decide)) (cwV 2 hts gX5_beginWith_X3_set rfl rfl rfl (by decide +kernel) ⟨Nat.le_of_ble_eq_true rfl, Nat.le_of_ble_eq_true rfl⟩) hK hN hP hD hS (Fr.l frWays1) 3 0 rfl rfl rfl hl.1 (Nat.le_of_ble_eq_true rfl) ⟨Nat.zero_le _, Nat.zero_le _⟩ dX5_beginWith_63 (fun H locs hP hD hS => ?_) rfl
          have hP : va_P D.1 vwCl ((wWays D Aw (sr (bgF Lw Ld p2 p3 k1) 1 (rs 100 ((bgF Lw Ld p2 p3 k1) 1) ((p3 * 10) + (nI k1)) p2))) ++ (wLand D Ad nsd fogd nrd Ld)) H := hP
          have hD : va_D A0 ((wWays D Aw (sr (bgF Lw Ld p2 p3 k1) 1 (rs 100 ((bgF Lw Ld p2 p3 k1) 1) ((p3 * 10) + (nI k1)) p2))) ++ (wLand D Ad nsd fogd nrd Ld)) := hD
          refine W.eq (g2 := F0 m 66 ls []) rfl ?_
          refine lv_iinc (v := ((nI k1) + 1)) (lv' := [(6, .int ((nI k1) + 1)), (5, .int (hrsC Ld p2 p3 (othC Ld p2 p3))), (4, .int (othC Ld p2 p3)), (0, .ref (Aw 0)), (1, .ref (Ad 0)), (2, .int p2), (3, .int p3)]) hx hb dX5_beginWith_66 hl (k := 0) rfl rfl (by decide) rfl (fun ls hl => ?_)
          refine lv_goto (tgt := 21) hx hb dX5_beginWith_69 (by decide) ?_
          exact ih1 (k1 + 1) (by omega) _ (nI_1 k1) _ (by first | (rw [bgF, if_neg (by assumption)]; first | done | rfl) | (rw [bgF, if_pos (by assumption)]; first | done | rfl)) _ _ hP hD hS ls (lv_sub hl [0, 1, 2, 3, 4, 5, 6] rfl)
  exact lp1 nsd 0 (by omega) _ nI_0.symm _ rfl _ _ hP hD hS ls (lv_sub hl [0, 1, 2, 3, 4, 5, 6] rfl)
