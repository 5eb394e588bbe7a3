set_option maxHeartbeats 4000000 in
set_option maxRecDepth 100000 in
theorem c_X7_foresee (l : Launch) (D : GG) (Ax : Nat → Nat) (th : Int32) (ns : Nat) (fog : Int32) (nr : Nat) (nm : Nat) (nl : Nat) (Lx : Nat → Nat → Int32) (p1 : Int32) (p2 : Int32) (sz : Nat) (b10 : ns ≤ 10) (b15 : nr ≤ 15) (b12 : nm ≤ 12) (b60 : nl ≤ 60) (hS9 : okS Lx ns nr nm nl) : Met l yX7_foresee wsX7_foresee ({ frames := 6, cells := 4, slots := 725, locals := 141 } : Room) (va_Pc [.ref (Ax 0), .int p1, .int p2] (wdX D (wMod D Ax th ns fog nr nm nl Lx) sz)) (QX D (fun _ => some (.int ((pfo Lx ns fog nr nm nl p1 p2).1))) (fun g => (wMod D (bA Ax (g 0) (g 1) (g 2)) ((pfo Lx ns fog nr nm nl p1 p2).2.1) ns fog nr nm nl ((pfo Lx ns fog nr nm nl p1 p2).2.2))) (ownZ (wMod D Ax th ns fog nr nm nl Lx) sz)) 4 725 (ownZ (wMod D Ax th ns fog nr nm nl Lx) sz) := by
  refine Met.ofW (cc := cX7_foresee) (maxL := 5) (ret := (some .int)) (by decide) rfl ?_
  intro p e s m args below meth c s₁ B hml hv
  obtain ⟨rfl, hNX, hsz, hP, hK, hD, hN⟩ := hv
  have hx := B.exec
  have hb := B.bytes
  have hr := B.returns
  have hts := atoms_spec (ws := wsX7_foresee) B.pre
  have hown : s.vm.findClass RX7 = some m.cls := findClass_of_methodNamed B.named
  have hlocks := B.notSynchronized
  have hinX7 : ∀ w ∈ u_ws RX7 TX7 14, w ∈ wsX7_foresee := by decide +kernel
  subst hsz
  have hS : va_S (ownZ (wMod D Ax th ns fog nr nm nl Lx) s.heap.size) s.heap s.heap [] := va_S.rf
  have hD : va_D (ownZ (wMod D Ax th ns fog nr nm nl Lx) s.heap.size) (wMod D Ax th ns fog nr nm nl Lx) := toOwnZ hD
  have hA : ∀ q : Nat, s.heap.size ≤ q → ownZ (wMod D Ax th ns fog nr nm nl Lx) s.heap.size q := fun _ h => Or.inr h
  generalize hAe : ownZ (wMod D Ax th ns fog nr nm nl Lx) s.heap.size = A0 at hD hS hA ⊢
  have hl := lv_entry ([.ref (Ax 0), .int p1, .int p2]) (n := 5) (Nat.le_of_ble_eq_true rfl)
  rw [lg_entry_eq]
  generalize (lg_sl ([.ref (Ax 0), .int p1, .int p2]) ++ List.replicate (5 - (lg_sl ([.ref (Ax 0), .int p1, .int p2])).length) Slot.unset).toArray = ls at hl ⊢
  have hl : lv_has ls 5 [(0, .ref (Ax 0)), (1, .int p1), (2, .int p2)] := hl
  refine lv_aload_n hx hb dX7_foresee_0 rfl (lv_at hl 0 rfl) ?_
  refine lv_iconst (v := 0) hx hb dX7_foresee_1 (by decide) ?_
  refine va_put (D := D.1) (ci := 7) (v := .int 0) (ty := .int) (C := RX7) (T := TX7) (N := 14) hx hb hts hinX7 tyX7 tyX7_ok nmX7 hown hK hP hD hS 0 rfl rfl 0 (by decide) (hts (.fieldLink RX7 34 "MountainPostModel" "thrown" "I") (List.mem_of_getElem? (i := 1) rfl)) (fun _ h9 => h9) rfl (by decide +kernel) rfl rfl (Nat.le_of_ble_eq_true rfl) dX7_foresee_2 (fun H locs hP hD hS => ?_)
  have hP : va_P D.1 vwCl (wMod D Ax 0 ns fog nr nm nl Lx) H := hP
  have hD : va_D A0 (wMod D Ax 0 ns fog nr nm nl Lx) := hD
  refine lv_aload_n hx hb dX7_foresee_5 rfl (lv_at hl 0 rfl) ?_
  refine lv_iload_n hx hb dX7_foresee_6 rfl (lv_at hl 1 rfl) ?_
  refine kVp ⟨hx, hb, hml, hown, hts⟩ (c_X7_isLetter l D Ax 0 ns fog nr nm nl Lx p1) (cwV 1 hts gX7_foresee_X7_isLetter rfl rfl rfl (by decide +kernel) ⟨Nat.le_of_ble_eq_true rfl, Nat.le_of_ble_eq_true rfl⟩) hK hN hP hD Sb.self 7 0 rfl rfl rfl hl.1 (Nat.le_of_ble_eq_true rfl) ⟨Nat.le_of_ble_eq_true rfl, Nat.le_of_ble_eq_true rfl⟩ dX7_foresee_7 ?_ rfl
  refine lv_if_ne (tgt := 19) hx hb dX7_foresee_10 (by decide) (fun c1 => ?_) (fun c1 => ?_)
  · have c1 := z2_n.mp c1
    refine lv_iload_n hx hb dX7_foresee_19 rfl (lv_at hl 2 rfl) ?_
    refine lv_iconst (v := 0) hx hb dX7_foresee_20 (by decide) ?_
    refine lv_sipush (v := 300) hx hb dX7_foresee_21 (by decide) ?_
    refine kSp ⟨hx, hb, hml, hown, hts⟩ (c_X7_isIn l D p2 0 300) (va_cwS 3 hts gX7_foresee_X7_isIn rfl rfl rfl (by decide +kernel) ⟨Nat.le_of_ble_eq_true rfl, Nat.le_of_ble_eq_true rfl⟩) hK hN hP hD Sb.nil  rfl hl.1 (Nat.le_of_ble_eq_true rfl) ⟨Nat.le_of_ble_eq_true rfl, Nat.le_of_ble_eq_true rfl⟩ dX7_foresee_24 ?_ rfl
    refine lv_if_ne (tgt := 36) hx hb dX7_foresee_27 (by decide) (fun c2 => ?_) (fun c2 => ?_)
    · have c2 := z2_n.mp c2
      refine lv_aload_n hx hb dX7_foresee_36 rfl (lv_at hl 0 rfl) ?_
      refine kVx ⟨hx, hb, hml, hown, hts⟩ (c_X7_kept l D Ax 0 ns fog nr nm nl Lx _) (cwV 0 hts gX7_foresee_X7_kept rfl rfl rfl (by decide +kernel) ⟨Nat.le_of_ble_eq_true rfl, Nat.le_of_ble_eq_true rfl⟩) (preVX hNX hK hN hP hD Sb.self 7 0 rfl rfl) hP hD hS hA (wr := []) (fun _ h => h) rfl rfl hl.1 (Nat.le_of_ble_eq_true rfl) ⟨Nat.le_of_ble_eq_true rfl, Nat.le_of_ble_eq_true rfl⟩ dX7_foresee_37 (fun g3 H locs hP hD hS => ?_) rfl
      have hP : va_P D.1 vwCl ((wMod D Ax 0 ns fog nr nm nl Lx) ++ (wKep D (g3 0) (g3 1) (g3 2) (g3 3) (Lx 3) (Lx 4) (Lx 5))) H := hP
      have hD : va_D A0 ((wMod D Ax 0 ns fog nr nm nl Lx) ++ (wKep D (g3 0) (g3 1) (g3 2) (g3 3) (Lx 3) (Lx 4) (Lx 5))) := hD
      refine W.eq (g2 := F0 m 40 ls [.ref (g3 0)]) rfl ?_
      refine lv_astore_n (lv' := [(3, .ref (g3 0)), (0, .ref (Ax 0)), (1, .int p1), (2, .int p2)]) hx hb dX7_foresee_40 rfl hl (by decide) rfl (fun ls hl => ?_)
      refine lv_iconst (v := 0) hx hb dX7_foresee_41 (by decide) ?_
      refine lv_istore (lv' := [(4, .int 0), (3, .ref (g3 0)), (0, .ref (Ax 0)), (1, .int p1), (2, .int p2)]) hx hb dX7_foresee_42 hl (by decide) rfl (fun ls hl => ?_)
      have lp4 : ∀ (j4 : Nat) (k4 : Nat) (hk4 : k4 + j4 = p2.toNatClampNeg) (x4_4 : Int32) (e4_4 : x4_4 = (nI k4)) (yxL_4 : Nat → Nat → Int32) (eyxL_4 : yxL_4 = (paF Lx ns fog nr nm nl k4).1) (H : Heap) (locs : List Loc) (hP : va_P D.1 vwCl ((wMod D Ax 0 ns fog nr nm nl yxL_4) ++ (wKep D (g3 0) (g3 1) (g3 2) (g3 3) (Lx 3) (Lx 4) (Lx 5))) H) (hD : va_D A0 ((wMod D Ax 0 ns fog nr nm nl yxL_4) ++ (wKep D (g3 0) (g3 1) (g3 2) (g3 3) (Lx 3) (Lx 4) (Lx 5)))) (hS : va_S A0 s.heap H locs) (ls : Array Slot) (hl : lv_has ls 5 [(4, .int x4_4), (3, .ref (g3 0)), (0, .ref (Ax 0)), (1, .int p1), (2, .int p2)]), W p l e (headSpec wsX7_foresee ({ frames := 6, cells := 4, slots := 725, locals := 141 } : Room)).room s m ([.ref (Ax 0), .int p1, .int p2] : List Value).toArray below meth c H locs 4 725 (MQ below (QX D (fun _ => some (.int ((pfo Lx ns fog nr nm nl p1 p2).1))) (fun g => (wMod D (bA Ax (g 0) (g 1) (g 2)) ((pfo Lx ns fog nr nm nl p1 p2).2.1) ns fog nr nm nl ((pfo Lx ns fog nr nm nl p1 p2).2.2))) A0) ([.ref (Ax 0), .int p1, .int p2] : List Value).toArray s 4 725 A0) (F0 m 44 ls []) := by
        intro j4
        induction j4 with
        | zero =>
          intro k4 hk4 x4_4 e4_4 yxL_4 eyxL_4  H locs hP hD hS ls hl
          subst e4_4 eyxL_4
          have hkN4 : p2.toNatClampNeg = k4 := (by omega)
          subst hkN4
          refine lv_iload hx hb dX7_foresee_44 (lv_at hl 0 rfl) ?_
          refine lv_iload_n hx hb dX7_foresee_46 rfl (lv_at hl 4 rfl) ?_
          refine W.eq (g2 := F0 m 47 ls [.int (nI p2.toNatClampNeg), .int (nI p2.toNatClampNeg)]) (congrArg (fun zz : Int32 => F0 m 47 ls [.int zz, .int (nI p2.toNatClampNeg)]) (show p2 = (nI p2.toNatClampNeg) from (inB_cl (b := 300) (by decide) c2).2)) ?_
          refine lv_icmp_ge (tgt := 61) hx hb dX7_foresee_47 (by decide) (fun c5 => ?_) (fun c5 => ?_)
          · refine lv_aload_n hx hb dX7_foresee_61 rfl (lv_at hl 2 rfl) ?_
            refine lv_iload_n hx hb dX7_foresee_62 rfl (lv_at hl 3 rfl) ?_
            refine lv_iconst (v := 3) hx hb dX7_foresee_63 (by decide) ?_
            refine kVp ⟨hx, hb, hml, hown, hts⟩ (c_X7_le l D Ax 0 ns fog nr nm nl ((paF Lx ns fog nr nm nl p2.toNatClampNeg).1) p1 3 (ixl (inB_vd (by omega) c1) b60 3 (by decide))) (cwV 2 hts gX7_foresee_X7_le rfl rfl rfl (by decide +kernel) ⟨Nat.le_of_ble_eq_true rfl, Nat.le_of_ble_eq_true rfl⟩) hK hN hP hD (Sb.l Sb.self) 7 0 rfl rfl rfl hl.1 (Nat.le_of_ble_eq_true rfl) ⟨Nat.le_of_ble_eq_true rfl, Nat.le_of_ble_eq_true rfl⟩ dX7_foresee_64 ?_ rfl
            refine lv_istore (lv' := [(4, .int (leM ((paF Lx ns fog nr nm nl p2.toNatClampNeg).1) p1 3)), (3, .ref (g3 0)), (0, .ref (Ax 0)), (1, .int p1), (2, .int p2)]) hx hb dX7_foresee_67 hl (by decide) rfl (fun ls hl => ?_)
            refine lv_aload_n hx hb dX7_foresee_69 rfl (lv_at hl 2 rfl) ?_
            refine lv_aload_n hx hb dX7_foresee_70 rfl (lv_at hl 1 rfl) ?_
            refine kVx ⟨hx, hb, hml, hown, hts⟩ (c_X7_bringBack l D Ax 0 ns fog nr nm nl ((paF Lx ns fog nr nm nl p2.toNatClampNeg).1) (g3 0) (g3 1) (g3 2) (g3 3) (Lx 3) (Lx 4) (Lx 5)) (cwV 1 hts gX7_foresee_X7_bringBack rfl rfl rfl (by decide +kernel) ⟨Nat.le_of_ble_eq_true rfl, Nat.le_of_ble_eq_true rfl⟩) (preV hK hN hP hD (Sb.app Sb.self Sb.self) 7 0 rfl rfl) hP hD hS hA (wr := []) (fun _ h => Or.inl h) rfl rfl hl.1 (Nat.le_of_ble_eq_true rfl) ⟨Nat.le_of_ble_eq_true rfl, Nat.le_of_ble_eq_true rfl⟩ dX7_foresee_71 (fun g6 H locs hP hD hS => ?_) rfl
            have hP : va_P D.1 vwCl (wMod D (bA Ax (g3 1) (g3 2) (g3 3)) 0 ns fog nr nm nl (sr (sr (sr ((paF Lx ns fog nr nm nl p2.toNatClampNeg).1) 3 (Lx 3)) 4 (Lx 4)) 5 (Lx 5))) H := hP
            have hD : va_D A0 (wMod D (bA Ax (g3 1) (g3 2) (g3 3)) 0 ns fog nr nm nl (sr (sr (sr ((paF Lx ns fog nr nm nl p2.toNatClampNeg).1) 3 (Lx 3)) 4 (Lx 4)) 5 (Lx 5))) := hD
            refine W.eq (g2 := F0 m 74 ls []) rfl ?_
            refine lv_iload hx hb dX7_foresee_74 (lv_at hl 0 rfl) ?_
            refine W.widen (k := 4) (n := 725) (Nat.le_of_ble_eq_true rfl) (Nat.le_of_ble_eq_true rfl) ?_
            exact eXi (g := gl [(g3 1), (g3 2), (g3 3)]) (ws' := (wMod D (bA Ax (g3 1) (g3 2) (g3 3)) 0 ns fog nr nm nl (sr (sr (sr ((paF Lx ns fog nr nm nl p2.toNatClampNeg).1) 3 (Lx 3)) 4 (Lx 4)) 5 (Lx 5)))) hx hb hr hlocks dX7_foresee_76 hS hP hD (by (rw [pfo, if_pos c1, if_pos c2]; first | done | rw [z2, if_pos (by assumption)] | rw [z2, if_neg (by assumption)] | rfl)) (show (wMod D (bA Ax (g3 1) (g3 2) (g3 3)) 0 ns fog nr nm nl (sr (sr (sr ((paF Lx ns fog nr nm nl p2.toNatClampNeg).1) 3 (Lx 3)) 4 (Lx 4)) 5 (Lx 5))) = (wMod D (bA Ax (g3 1) (g3 2) (g3 3)) ((pfo Lx ns fog nr nm nl p1 p2).2.1) ns fog nr nm nl ((pfo Lx ns fog nr nm nl p1 p2).2.2)) by (rw [pfo, if_pos c1, if_pos c2]; first | done | rw [z2, if_pos (by assumption)] | rw [z2, if_neg (by assumption)] | rfl))
          · exact (up0 rfl c5).elim
        | succ j4 ih4 =>
          intro k4 hk4 x4_4 e4_4 yxL_4 eyxL_4  H locs hP hD hS ls hl
          subst e4_4 eyxL_4
          have hlt4 : k4 < p2.toNatClampNeg := by omega
          have hlt : k4 < p2.toNatClampNeg := hlt4
          refine lv_iload hx hb dX7_foresee_44 (lv_at hl 0 rfl) ?_
          refine lv_iload_n hx hb dX7_foresee_46 rfl (lv_at hl 4 rfl) ?_
          refine W.eq (g2 := F0 m 47 ls [.int (nI p2.toNatClampNeg), .int (nI k4)]) (congrArg (fun zz : Int32 => F0 m 47 ls [.int zz, .int (nI k4)]) (show p2 = (nI p2.toNatClampNeg) from (inB_cl (b := 300) (by decide) c2).2)) ?_
          refine lv_icmp_ge (tgt := 61) hx hb dX7_foresee_47 (by decide) (fun c7 => ?_) (fun c7 => ?_)
          · exact (upS hk4 (Nat.lt_of_le_of_lt (inB_cl (b := 300) (by decide) c2).1 (by decide)) c7).elim
          · refine lv_aload_n hx hb dX7_foresee_50 rfl (lv_at hl 2 rfl) ?_
            refine kVw ⟨hx, hb, hml, hown, hts⟩ (c_X7_hourOn l D Ax 0 ns fog nr nm nl ((paF Lx ns fog nr nm nl k4).1) (by assumption) (by assumption) (by assumption) (by assumption) (okS_pa b12 b60 hS9 _)) (cwV 0 hts gX7_foresee_X7_hourOn rfl rfl rfl (by decide +kernel) ⟨Nat.le_of_ble_eq_true rfl, Nat.le_of_ble_eq_true rfl⟩) hK hN hP hD hS (Fr.l frsMod) 7 0 rfl rfl rfl hl.1 (Nat.le_of_ble_eq_true rfl) ⟨Nat.le_of_ble_eq_true rfl, Nat.le_of_ble_eq_true rfl⟩ dX7_foresee_51 (fun H locs hP hD hS => ?_) rfl
            have hP : va_P D.1 vwCl ((wMod D Ax 0 ns fog nr nm nl (hoM ((paF Lx ns fog nr nm nl k4).1) ns fog nr nm nl)) ++ (wKep D (g3 0) (g3 1) (g3 2) (g3 3) (Lx 3) (Lx 4) (Lx 5))) H := hP
            have hD : va_D A0 ((wMod D Ax 0 ns fog nr nm nl (hoM ((paF Lx ns fog nr nm nl k4).1) ns fog nr nm nl)) ++ (wKep D (g3 0) (g3 1) (g3 2) (g3 3) (Lx 3) (Lx 4) (Lx 5))) := hD
            refine W.eq (g2 := F0 m 54 ls [.int ((hr1 ((paF Lx ns fog nr nm nl k4).1) ns nr nm nl).2)]) rfl ?_
            refine lv_pop hx hb dX7_foresee_54 rfl ?_
            refine lv_iinc (v := ((nI k4) + 1)) (lv' := [(4, .int ((nI k4) + 1)), (3, .ref (g3 0)), (0, .ref (Ax 0)), (1, .int p1), (2, .int p2)]) hx hb dX7_foresee_55 hl (k := 0) rfl rfl (by decide) rfl (fun ls hl => ?_)
            refine lv_goto (tgt := 44) hx hb dX7_foresee_58 (by decide) ?_
            exact ih4 (k4 + 1) (by omega) _ (nI_1 k4) _ rfl _ _ hP hD hS ls (lv_sub hl [0, 1, 2, 3, 4] rfl)
      exact lp4 p2.toNatClampNeg 0 (by omega) _ nI_0.symm _ rfl _ _ hP hD hS ls (lv_sub hl [0, 1, 2, 3, 4] rfl)
    · have c2 := z2_0.mp c2
      refine lv_aload_n hx hb dX7_foresee_30 rfl (lv_at hl 0 rfl) ?_
      refine lv_iconst (v := 2) hx hb dX7_foresee_31 (by decide) ?_
      refine kVw ⟨hx, hb, hml, hown, hts⟩ (c_X7_fail l D Ax 0 ns fog nr nm nl Lx 2) (cwV 1 hts gX7_foresee_X7_fail rfl rfl rfl (by decide +kernel) ⟨Nat.le_of_ble_eq_true rfl, Nat.le_of_ble_eq_true rfl⟩) hK hN hP hD hS frsMod 7 0 rfl rfl rfl hl.1 (Nat.le_of_ble_eq_true rfl) ⟨Nat.le_of_ble_eq_true rfl, Nat.le_of_ble_eq_true rfl⟩ dX7_foresee_32 (fun H locs hP hD hS => ?_) rfl
      have hP : va_P D.1 vwCl (wMod D Ax 2 ns fog nr nm nl Lx) H := hP
      have hD : va_D A0 (wMod D Ax 2 ns fog nr nm nl Lx) := hD
      refine W.eq (g2 := F0 m 35 ls [.int 0]) rfl ?_
      refine W.widen (k := 4) (n := 725) (Nat.le_of_ble_eq_true rfl) (Nat.le_of_ble_eq_true rfl) ?_
      exact eXi (g := gl [Ax 4, Ax 5, Ax 6]) (ws' := (wMod D (bA Ax (Ax 4) (Ax 5) (Ax 6)) 2 ns fog nr nm nl Lx)) hx hb hr hlocks dX7_foresee_35 hS hP hD (by (rw [pfo, if_pos c1, if_neg c2]; first | done | rw [z2, if_pos (by assumption)] | rw [z2, if_neg (by assumption)] | rfl)) (show (wMod D (bA Ax (Ax 4) (Ax 5) (Ax 6)) 2 ns fog nr nm nl Lx) = (wMod D (bA Ax (Ax 4) (Ax 5) (Ax 6)) ((pfo Lx ns fog nr nm nl p1 p2).2.1) ns fog nr nm nl ((pfo Lx ns fog nr nm nl p1 p2).2.2)) by (rw [pfo, if_pos c1, if_neg c2]; first | done | rw [z2, if_pos (by assumption)] | rw [z2, if_neg (by assumption)] | rfl))
  · have c1 := z2_0.mp c1
    refine lv_aload_n hx hb dX7_foresee_13 rfl (lv_at hl 0 rfl) ?_
    refine lv_iconst (v := 1) hx hb dX7_foresee_14 (by decide) ?_
    refine kVw ⟨hx, hb, hml, hown, hts⟩ (c_X7_fail l D Ax 0 ns fog nr nm nl Lx 1) (cwV 1 hts gX7_foresee_X7_fail rfl rfl rfl (by decide +kernel) ⟨Nat.le_of_ble_eq_true rfl, Nat.le_of_ble_eq_true rfl⟩) hK hN hP hD hS frsMod 7 0 rfl rfl rfl hl.1 (Nat.le_of_ble_eq_true rfl) ⟨Nat.le_of_ble_eq_true rfl, Nat.le_of_ble_eq_true rfl⟩ dX7_foresee_15 (fun H locs hP hD hS => ?_) rfl
    have hP : va_P D.1 vwCl (wMod D Ax 1 ns fog nr nm nl Lx) H := hP
    have hD : va_D A0 (wMod D Ax 1 ns fog nr nm nl Lx) := hD
    refine W.eq (g2 := F0 m 18 ls [.int 0]) rfl ?_
    refine W.widen (k := 4) (n := 725) (Nat.le_of_ble_eq_true rfl) (Nat.le_of_ble_eq_true rfl) ?_
    exact eXi (g := gl [Ax 4, Ax 5, Ax 6]) (ws' := (wMod D (bA Ax (Ax 4) (Ax 5) (Ax 6)) 1 ns fog nr nm nl Lx)) hx hb hr hlocks dX7_foresee_18 hS hP hD (by (rw [pfo, if_neg c1]; first | done | rw [z2, if_pos (by assumption)] | rw [z2, if_neg (by assumption)] | rfl)) (show (wMod D (bA Ax (Ax 4) (Ax 5) (Ax 6)) 1 ns fog nr nm nl Lx) = (wMod D (bA Ax (Ax 4) (Ax 5) (Ax 6)) ((pfo Lx ns fog nr nm nl p1 p2).2.1) ns fog nr nm nl ((pfo Lx ns fog nr nm nl p1 p2).2.2)) by (rw [pfo, if_neg c1]; first | done | rw [z2, if_pos (by assumption)] | rw [z2, if_neg (by assumption)] | rfl))

set_option maxHeartbeats 4000000 in
set_option maxRecDepth 100000 in
theorem c_X7_comeBy (l : Launch) (D : GG) (Ax : Nat → Nat) (th : Int32) (ns : Nat) (fog : Int32) (nr : Nat) (nm : Nat) (nl : Nat) (Lx : Nat → Nat → Int32) (p1 : Int32) (sz : Nat) (b10 : ns ≤ 10) (b15 : nr ≤ 15) (b12 : nm ≤ 12) (b60 : nl ≤ 60) (hS9 : okS Lx ns nr nm nl) (h0 : ¬ p1 < 0) : Met l yX7_comeBy wsX7_comeBy ({ frames := 6, cells := 4, slots := 725, locals := 141 } : Room) (va_Pc [.ref (Ax 0), .int p1] (wdX D (wMod D Ax th ns fog nr nm nl Lx) sz)) (QX D (fun _ => some (.int ((cbM Lx ns fog nr nm nl p1).1))) (fun g => (wMod D (bA Ax (g 0) (g 1) (g 2)) th ns fog nr nm nl ((cbM Lx ns fog nr nm nl p1).2))) (ownZ (wMod D Ax th ns fog nr nm nl Lx) sz)) 4 725 (ownZ (wMod D Ax th ns fog nr nm nl Lx) sz) := by
  refine Met.ofW (cc := cX7_comeBy) (maxL := 5) (ret := (some .int)) (by decide) rfl ?_
  intro p e s m args below meth c s₁ B hml hv
  obtain ⟨rfl, hNX, hsz, hP, hK, hD, hN⟩ := hv
  have hx := B.exec
  have hb := B.bytes
  have hr := B.returns
  have hts := atoms_spec (ws := wsX7_comeBy) B.pre
  have hown : s.vm.findClass RX7 = some m.cls := findClass_of_methodNamed B.named
  have hlocks := B.notSynchronized
  subst hsz
  have hS : va_S (ownZ (wMod D Ax th ns fog nr nm nl Lx) s.heap.size) s.heap s.heap [] := va_S.rf
  have hD : va_D (ownZ (wMod D Ax th ns fog nr nm nl Lx) s.heap.size) (wMod D Ax th ns fog nr nm nl Lx) := toOwnZ hD
  have hA : ∀ q : Nat, s.heap.size ≤ q → ownZ (wMod D Ax th ns fog nr nm nl Lx) s.heap.size q := fun _ h => Or.inr h
  generalize hAe : ownZ (wMod D Ax th ns fog nr nm nl Lx) s.heap.size = A0 at hD hS hA ⊢
  have hl := lv_entry ([.ref (Ax 0), .int p1]) (n := 5) (Nat.le_of_ble_eq_true rfl)
  rw [lg_entry_eq]
  generalize (lg_sl ([.ref (Ax 0), .int p1]) ++ List.replicate (5 - (lg_sl ([.ref (Ax 0), .int p1])).length) Slot.unset).toArray = ls at hl ⊢
  have hl : lv_has ls 5 [(0, .ref (Ax 0)), (1, .int p1)] := hl
  refine lv_aload_n hx hb dX7_comeBy_0 rfl (lv_at hl 0 rfl) ?_
  refine kVx ⟨hx, hb, hml, hown, hts⟩ (c_X7_kept l D Ax th ns fog nr nm nl Lx _) (cwV 0 hts gX7_comeBy_X7_kept rfl rfl rfl (by decide +kernel) ⟨Nat.le_of_ble_eq_true rfl, Nat.le_of_ble_eq_true rfl⟩) (preVX hNX hK hN hP hD Sb.self 7 0 rfl rfl) hP hD hS hA (wr := []) (fun _ h => h) rfl rfl hl.1 (Nat.le_of_ble_eq_true rfl) ⟨Nat.le_of_ble_eq_true rfl, Nat.le_of_ble_eq_true rfl⟩ dX7_comeBy_1 (fun g1 H locs hP hD hS => ?_) rfl
  have hP : va_P D.1 vwCl ((wMod D Ax th ns fog nr nm nl Lx) ++ (wKep D (g1 0) (g1 1) (g1 2) (g1 3) (Lx 3) (Lx 4) (Lx 5))) H := hP
  have hD : va_D A0 ((wMod D Ax th ns fog nr nm nl Lx) ++ (wKep D (g1 0) (g1 1) (g1 2) (g1 3) (Lx 3) (Lx 4) (Lx 5))) := hD
  refine W.eq (g2 := F0 m 4 ls [.ref (g1 0)]) rfl ?_
  refine lv_astore_n (lv' := [(2, .ref (g1 0)), (0, .ref (Ax 0)), (1, .int p1)]) hx hb dX7_comeBy_4 rfl hl (by decide) rfl (fun ls hl => ?_)
  refine lv_iconst (v := 0) hx hb dX7_comeBy_5 (by decide) ?_
  refine lv_istore_n (lv' := [(3, .int 0), (2, .ref (g1 0)), (0, .ref (Ax 0)), (1, .int p1)]) hx hb dX7_comeBy_6 rfl hl (by decide) rfl (fun ls hl => ?_)
  refine lv_iconst (v := 0) hx hb dX7_comeBy_7 (by decide) ?_
  refine lv_istore (lv' := [(4, .int 0), (3, .int 0), (2, .ref (g1 0)), (0, .ref (Ax 0)), (1, .int p1)]) hx hb dX7_comeBy_8 hl (by decide) rfl (fun ls hl => ?_)
  have lp2 : ∀ (j2 : Nat) (k2 : Nat) (hk2 : k2 + j2 = p1.toNatClampNeg) (x4_2 : Int32) (e4_2 : x4_2 = (nI k2)) (x3_2 : Int32) (e3_2 : x3_2 = (paF Lx ns fog nr nm nl k2).2) (yxL_2 : Nat → Nat → Int32) (eyxL_2 : yxL_2 = (paF Lx ns fog nr nm nl k2).1) (H : Heap) (locs : List Loc) (hP : va_P D.1 vwCl ((wMod D Ax th ns fog nr nm nl yxL_2) ++ (wKep D (g1 0) (g1 1) (g1 2) (g1 3) (Lx 3) (Lx 4) (Lx 5))) H) (hD : va_D A0 ((wMod D Ax th ns fog nr nm nl yxL_2) ++ (wKep D (g1 0) (g1 1) (g1 2) (g1 3) (Lx 3) (Lx 4) (Lx 5)))) (hS : va_S A0 s.heap H locs) (ls : Array Slot) (hl : lv_has ls 5 [(4, .int x4_2), (3, .int x3_2), (2, .ref (g1 0)), (0, .ref (Ax 0)), (1, .int p1)]), W p l e (headSpec wsX7_comeBy ({ frames := 6, cells := 4, slots := 725, locals := 141 } : Room)).room s m ([.ref (Ax 0), .int p1] : List Value).toArray below meth c H locs 4 725 (MQ below (QX D (fun _ => some (.int ((cbM Lx ns fog nr nm nl p1).1))) (fun g => (wMod D (bA Ax (g 0) (g 1) (g 2)) th ns fog nr nm nl ((cbM Lx ns fog nr nm nl p1).2))) A0) ([.ref (Ax 0), .int p1] : List Value).toArray s 4 725 A0) (F0 m 10 ls []) := by
    intro j2
    induction j2 with
    | zero =>
      intro k2 hk2 x4_2 e4_2 x3_2 e3_2 yxL_2 eyxL_2  H locs hP hD hS ls hl
      subst e4_2 e3_2 eyxL_2
      have hkN2 : p1.toNatClampNeg = k2 := (by omega)
      subst hkN2
      refine lv_iload hx hb dX7_comeBy_10 (lv_at hl 0 rfl) ?_
      refine lv_iload_n hx hb dX7_comeBy_12 rfl (lv_at hl 4 rfl) ?_
      refine W.eq (g2 := F0 m 13 ls [.int (nI p1.toNatClampNeg), .int (nI p1.toNatClampNeg)]) (congrArg (fun zz : Int32 => F0 m 13 ls [.int zz, .int (nI p1.toNatClampNeg)]) (show p1 = (nI p1.toNatClampNeg) from nI_cl h0)) ?_
      refine lv_icmp_ge (tgt := 29) hx hb dX7_comeBy_13 (by decide) (fun c3 => ?_) (fun c3 => ?_)
      · refine lv_aload_n hx hb dX7_comeBy_29 rfl (lv_at hl 3 rfl) ?_
        refine lv_aload_n hx hb dX7_comeBy_30 rfl (lv_at hl 2 rfl) ?_
        refine kVx ⟨hx, hb, hml, hown, hts⟩ (c_X7_bringBack l D Ax th ns fog nr nm nl ((paF Lx ns fog nr nm nl p1.toNatClampNeg).1) (g1 0) (g1 1) (g1 2) (g1 3) (Lx 3) (Lx 4) (Lx 5)) (cwV 1 hts gX7_comeBy_X7_bringBack rfl rfl rfl (by decide +kernel) ⟨Nat.le_of_ble_eq_true rfl, Nat.le_of_ble_eq_true rfl⟩) (preV hK hN hP hD (Sb.app Sb.self Sb.self) 7 0 rfl rfl) hP hD hS hA (wr := []) (fun _ h => Or.inl h) rfl rfl hl.1 (Nat.le_of_ble_eq_true rfl) ⟨Nat.le_of_ble_eq_true rfl, Nat.le_of_ble_eq_true rfl⟩ dX7_comeBy_31 (fun g4 H locs hP hD hS => ?_) rfl
        have hP : va_P D.1 vwCl (wMod D (bA Ax (g1 1) (g1 2) (g1 3)) th ns fog nr nm nl (sr (sr (sr ((paF Lx ns fog nr nm nl p1.toNatClampNeg).1) 3 (Lx 3)) 4 (Lx 4)) 5 (Lx 5))) H := hP
        have hD : va_D A0 (wMod D (bA Ax (g1 1) (g1 2) (g1 3)) th ns fog nr nm nl (sr (sr (sr ((paF Lx ns fog nr nm nl p1.toNatClampNeg).1) 3 (Lx 3)) 4 (Lx 4)) 5 (Lx 5))) := hD
        refine W.eq (g2 := F0 m 34 ls []) rfl ?_
        refine lv_iload_n hx hb dX7_comeBy_34 rfl (lv_at hl 1 rfl) ?_
        refine W.widen (k := 4) (n := 725) (Nat.le_of_ble_eq_true rfl) (Nat.le_of_ble_eq_true rfl) ?_
        exact eXi (g := gl [(g1 1), (g1 2), (g1 3)]) (ws' := (wMod D (bA Ax (g1 1) (g1 2) (g1 3)) th ns fog nr nm nl (sr (sr (sr ((paF Lx ns fog nr nm nl p1.toNatClampNeg).1) 3 (Lx 3)) 4 (Lx 4)) 5 (Lx 5)))) hx hb hr hlocks dX7_comeBy_35 hS hP hD (by rfl) (show (wMod D (bA Ax (g1 1) (g1 2) (g1 3)) th ns fog nr nm nl (sr (sr (sr ((paF Lx ns fog nr nm nl p1.toNatClampNeg).1) 3 (Lx 3)) 4 (Lx 4)) 5 (Lx 5))) = (wMod D (bA Ax (g1 1) (g1 2) (g1 3)) th ns fog nr nm nl ((cbM Lx ns fog nr nm nl p1).2)) by rfl)
      · exact (up0 rfl c3).elim
    | succ j2 ih2 =>
      intro k2 hk2 x4_2 e4_2 x3_2 e3_2 yxL_2 eyxL_2  H locs hP hD hS ls hl
      subst e4_2 e3_2 eyxL_2
      have hlt2 : k2 < p1.toNatClampNeg := by omega
      have hlt : k2 < p1.toNatClampNeg := hlt2
      refine lv_iload hx hb dX7_comeBy_10 (lv_at hl 0 rfl) ?_
      refine lv_iload_n hx hb dX7_comeBy_12 rfl (lv_at hl 4 rfl) ?_
      refine W.eq (g2 := F0 m 13 ls [.int (nI p1.toNatClampNeg), .int (nI k2)]) (congrArg (fun zz : Int32 => F0 m 13 ls [.int zz, .int (nI k2)]) (show p1 = (nI p1.toNatClampNeg) from nI_cl h0)) ?_
      refine lv_icmp_ge (tgt := 29) hx hb dX7_comeBy_13 (by decide) (fun c5 => ?_) (fun c5 => ?_)
      · exact (upS hk2 (Int32.toNatClampNeg_lt _) c5).elim
      · refine lv_iload_n hx hb dX7_comeBy_16 rfl (lv_at hl 1 rfl) ?_
        refine lv_aload_n hx hb dX7_comeBy_17 rfl (lv_at hl 3 rfl) ?_
        refine kVw ⟨hx, hb, hml, hown, hts⟩ (c_X7_hourOn l D Ax th ns fog nr nm nl ((paF Lx ns fog nr nm nl k2).1) (by assumption) (by assumption) (by assumption) (by assumption) (okS_pa b12 b60 hS9 _)) (cwV 0 hts gX7_comeBy_X7_hourOn rfl rfl rfl (by decide +kernel) ⟨Nat.le_of_ble_eq_true rfl, Nat.le_of_ble_eq_true rfl⟩) hK hN hP hD hS (Fr.l frsMod) 7 0 rfl rfl rfl hl.1 (Nat.le_of_ble_eq_true rfl) ⟨Nat.le_of_ble_eq_true rfl, Nat.le_of_ble_eq_true rfl⟩ dX7_comeBy_18 (fun H locs hP hD hS => ?_) rfl
        have hP : va_P D.1 vwCl ((wMod D Ax th ns fog nr nm nl (hoM ((paF Lx ns fog nr nm nl k2).1) ns fog nr nm nl)) ++ (wKep D (g1 0) (g1 1) (g1 2) (g1 3) (Lx 3) (Lx 4) (Lx 5))) H := hP
        have hD : va_D A0 ((wMod D Ax th ns fog nr nm nl (hoM ((paF Lx ns fog nr nm nl k2).1) ns fog nr nm nl)) ++ (wKep D (g1 0) (g1 1) (g1 2) (g1 3) (Lx 3) (Lx 4) (Lx 5))) := hD
        refine W.eq (g2 := F0 m 21 ls [.int ((hr1 ((paF Lx ns fog nr nm nl k2).1) ns nr nm nl).2), .int ((paF Lx ns fog nr nm nl k2).2)]) rfl ?_
        refine lv_iadd hx hb dX7_comeBy_21 ?_
        refine lv_istore_n (lv' := [(3, .int (((paF Lx ns fog nr nm nl k2).2) + ((hr1 ((paF Lx ns fog nr nm nl k2).1) ns nr nm nl).2))), (4, .int (nI k2)), (2, .ref (g1 0)), (0, .ref (Ax 0)), (1, .int p1)]) hx hb dX7_comeBy_22 rfl hl (by decide) rfl (fun ls hl => ?_)
        refine lv_iinc (v := ((nI k2) + 1)) (lv' := [(4, .int ((nI k2) + 1)), (3, .int (((paF Lx ns fog nr nm nl k2).2) + ((hr1 ((paF Lx ns fog nr nm nl k2).1) ns nr nm nl).2))), (2, .ref (g1 0)), (0, .ref (Ax 0)), (1, .int p1)]) hx hb dX7_comeBy_23 hl (k := 1) rfl rfl (by decide) rfl (fun ls hl => ?_)
        refine lv_goto (tgt := 10) hx hb dX7_comeBy_26 (by decide) ?_
        exact ih2 (k2 + 1) (by omega) _ (nI_1 k2) _ rfl _ rfl _ _ hP hD hS ls (lv_sub hl [0, 1, 2, 3, 4] rfl)
  exact lp2 p1.toNatClampNeg 0 (by omega) _ nI_0.symm _ rfl _ rfl _ _ hP hD hS ls (lv_sub hl [0, 1, 2, 3, 4] rfl)
