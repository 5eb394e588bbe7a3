set_option maxHeartbeats 4000000 in
set_option maxRecDepth 100000 in
theorem c_X7_arrives (l : Launch) (D : GG) (Ax : Nat → Nat) (th : Int32) (ns : Nat) (fog : Int32) (nr : Nat) (nm : Nat) (nl : Nat) (Lx : Nat → Nat → Int32) (p1 : Int32) (sz : Nat) (b10 : ns ≤ 10) (b15 : nr ≤ 15) (b12 : nm ≤ 12) (b60 : nl ≤ 60) (hS9 : okS Lx ns nr nm nl) : Met l yX7_arrives wsX7_arrives ({ frames := 6, cells := 4, slots := 725, locals := 141 } : Room) (va_Pc [.ref (Ax 0), .int p1] (wdX D (wMod D Ax th ns fog nr nm nl Lx) sz)) (QX D (fun _ => some (.int ((par1 Lx ns fog nr nm nl p1).1))) (fun g => (wMod D (bA Ax (g 0) (g 1) (g 2)) ((par1 Lx ns fog nr nm nl p1).2.1) ns fog nr nm nl ((par1 Lx ns fog nr nm nl p1).2.2))) (ownZ (wMod D Ax th ns fog nr nm nl Lx) sz)) 4 725 (ownZ (wMod D Ax th ns fog nr nm nl Lx) sz) := by
  refine Met.ofW (cc := cX7_arrives) (maxL := 4) (ret := (some .int)) (by decide) rfl ?_
  intro p e s m args below meth c s₁ B hml hv
  obtain ⟨rfl, hNX, hsz, hP, hK, hD, hN⟩ := hv
  have hx := B.exec
  have hb := B.bytes
  have hr := B.returns
  have hts := atoms_spec (ws := wsX7_arrives) B.pre
  have hown : s.vm.findClass RX7 = some m.cls := findClass_of_methodNamed B.named
  have hlocks := B.notSynchronized
  have hinX7 : ∀ w ∈ u_ws RX7 TX7 14, w ∈ wsX7_arrives := by decide +kernel
  subst hsz
  have hS : va_S (ownZ (wMod D Ax th ns fog nr nm nl Lx) s.heap.size) s.heap s.heap [] := va_S.rf
  have hD : va_D (ownZ (wMod D Ax th ns fog nr nm nl Lx) s.heap.size) (wMod D Ax th ns fog nr nm nl Lx) := toOwnZ hD
  have hA : ∀ q : Nat, s.heap.size ≤ q → ownZ (wMod D Ax th ns fog nr nm nl Lx) s.heap.size q := fun _ h => Or.inr h
  generalize hAe : ownZ (wMod D Ax th ns fog nr nm nl Lx) s.heap.size = A0 at hD hS hA ⊢
  have hl := lv_entry ([.ref (Ax 0), .int p1]) (n := 4) (Nat.le_of_ble_eq_true rfl)
  rw [lg_entry_eq]
  generalize (lg_sl ([.ref (Ax 0), .int p1]) ++ List.replicate (4 - (lg_sl ([.ref (Ax 0), .int p1])).length) Slot.unset).toArray = ls at hl ⊢
  have hl : lv_has ls 4 [(0, .ref (Ax 0)), (1, .int p1)] := hl
  refine lv_aload_n hx hb dX7_arrives_0 rfl (lv_at hl 0 rfl) ?_
  refine lv_iconst (v := 0) hx hb dX7_arrives_1 (by decide) ?_
  refine va_put (D := D.1) (ci := 7) (v := .int 0) (ty := .int) (C := RX7) (T := TX7) (N := 14) hx hb hts hinX7 tyX7 tyX7_ok nmX7 hown hK hP hD hS 0 rfl rfl 0 (by decide) (hts (.fieldLink RX7 34 "MountainPostModel" "thrown" "I") (List.mem_of_getElem? (i := 1) rfl)) (fun _ h9 => h9) rfl (by decide +kernel) rfl rfl (Nat.le_of_ble_eq_true rfl) dX7_arrives_2 (fun H locs hP hD hS => ?_)
  have hP : va_P D.1 vwCl (wMod D Ax 0 ns fog nr nm nl Lx) H := hP
  have hD : va_D A0 (wMod D Ax 0 ns fog nr nm nl Lx) := hD
  refine lv_aload_n hx hb dX7_arrives_5 rfl (lv_at hl 0 rfl) ?_
  refine lv_iload_n hx hb dX7_arrives_6 rfl (lv_at hl 1 rfl) ?_
  refine kVp ⟨hx, hb, hml, hown, hts⟩ (c_X7_isLetter l D Ax 0 ns fog nr nm nl Lx p1) (cwV 1 hts gX7_arrives_X7_isLetter rfl rfl rfl (by decide +kernel) ⟨Nat.le_of_ble_eq_true rfl, Nat.le_of_ble_eq_true rfl⟩) hK hN hP hD Sb.self 7 0 rfl rfl rfl hl.1 (Nat.le_of_ble_eq_true rfl) ⟨Nat.le_of_ble_eq_true rfl, Nat.le_of_ble_eq_true rfl⟩ dX7_arrives_7 ?_ rfl
  refine lv_if_ne (tgt := 19) hx hb dX7_arrives_10 (by decide) (fun c1 => ?_) (fun c1 => ?_)
  · have c1 := z2_n.mp c1
    refine lv_aload_n hx hb dX7_arrives_19 rfl (lv_at hl 0 rfl) ?_
    refine kVx ⟨hx, hb, hml, hown, hts⟩ (c_X7_kept l D Ax 0 ns fog nr nm nl Lx _) (cwV 0 hts gX7_arrives_X7_kept rfl rfl rfl (by decide +kernel) ⟨Nat.le_of_ble_eq_true rfl, Nat.le_of_ble_eq_true rfl⟩) (preVX hNX hK hN hP hD Sb.self 7 0 rfl rfl) hP hD hS hA (wr := []) (fun _ h => h) rfl rfl hl.1 (Nat.le_of_ble_eq_true rfl) ⟨Nat.le_of_ble_eq_true rfl, Nat.le_of_ble_eq_true rfl⟩ dX7_arrives_20 (fun g2 H locs hP hD hS => ?_) rfl
    have hP : va_P D.1 vwCl ((wMod D Ax 0 ns fog nr nm nl Lx) ++ (wKep D (g2 0) (g2 1) (g2 2) (g2 3) (Lx 3) (Lx 4) (Lx 5))) H := hP
    have hD : va_D A0 ((wMod D Ax 0 ns fog nr nm nl Lx) ++ (wKep D (g2 0) (g2 1) (g2 2) (g2 3) (Lx 3) (Lx 4) (Lx 5))) := hD
    refine W.eq (g2 := F0 m 23 ls [.ref (g2 0)]) rfl ?_
    refine lv_astore_n (lv' := [(2, .ref (g2 0)), (0, .ref (Ax 0)), (1, .int p1)]) hx hb dX7_arrives_23 rfl hl (by decide) rfl (fun ls hl => ?_)
    refine lv_iconst (v := 0) hx hb dX7_arrives_24 (by decide) ?_
    refine lv_istore_n (lv' := [(3, .int 0), (2, .ref (g2 0)), (0, .ref (Ax 0)), (1, .int p1)]) hx hb dX7_arrives_25 rfl hl (by decide) rfl (fun ls hl => ?_)
    have lp3 : ∀ (j3 : Nat) (kz : Nat) (hk : kz + j3 = 300) (hf : arN Lx ns fog nr nm nl p1 j3 kz = arN Lx ns fog nr nm nl p1 300 0) (x3_3 : Int32) (e3_3 : x3_3 = (nI kz)) (H : Heap) (locs : List Loc) (hP : va_P D.1 vwCl ((wMod D Ax 0 ns fog nr nm nl ((paF Lx ns fog nr nm nl kz).1)) ++ (wKep D (g2 0) (g2 1) (g2 2) (g2 3) (Lx 3) (Lx 4) (Lx 5))) H) (hD : va_D A0 ((wMod D Ax 0 ns fog nr nm nl ((paF Lx ns fog nr nm nl kz).1)) ++ (wKep D (g2 0) (g2 1) (g2 2) (g2 3) (Lx 3) (Lx 4) (Lx 5)))) (hS : va_S A0 s.heap H locs) (ls : Array Slot) (hl : lv_has ls 4 [(3, .int x3_3), (2, .ref (g2 0)), (0, .ref (Ax 0)), (1, .int p1)]), W p l e (headSpec wsX7_arrives ({ frames := 6, cells := 4, slots := 725, locals := 141 } : Room)).room s m ([.ref (Ax 0), .int p1] : List Value).toArray below meth c H locs 4 725 (MQ below (QX D (fun _ => some (.int ((par1 Lx ns fog nr nm nl p1).1))) (fun g => (wMod D (bA Ax (g 0) (g 1) (g 2)) ((par1 Lx ns fog nr nm nl p1).2.1) ns fog nr nm nl ((par1 Lx ns fog nr nm nl p1).2.2))) A0) ([.ref (Ax 0), .int p1] : List Value).toArray s 4 725 A0) (F0 m 26 ls []) := by
      intro j3
      induction j3 with
      | zero =>
        intro kz hk hf x3_3 e3_3 H locs hP hD hS ls hl
        subst e3_3
        refine lv_iload_n hx hb dX7_arrives_26 rfl (lv_at hl 0 rfl) ?_
        refine lv_sipush (v := 300) hx hb dX7_arrives_27 (by decide) ?_
        refine lv_icmp_ge (tgt := 55) hx hb dX7_arrives_30 (by decide) (fun c4 => ?_) (fun c4 => ?_)
        · refine lv_aload_n hx hb dX7_arrives_55 rfl (lv_at hl 2 rfl) ?_
          refine lv_iload_n hx hb dX7_arrives_56 rfl (lv_at hl 3 rfl) ?_
          refine lv_bipush (v := 9) hx hb dX7_arrives_57 (by decide) ?_
          refine kVp ⟨hx, hb, hml, hown, hts⟩ (c_X7_le l D Ax 0 ns fog nr nm nl ((paF Lx ns fog nr nm nl kz).1) p1 9 (ixl (inB_vd (by omega) c1) b60 9 (by decide))) (cwV 2 hts gX7_arrives_X7_le rfl rfl rfl (by decide +kernel) ⟨Nat.le_of_ble_eq_true rfl, Nat.le_of_ble_eq_true rfl⟩) hK hN hP hD (Sb.l Sb.self) 7 0 rfl rfl rfl hl.1 (Nat.le_of_ble_eq_true rfl) ⟨Nat.le_of_ble_eq_true rfl, Nat.le_of_ble_eq_true rfl⟩ dX7_arrives_59 ?_ rfl
          refine lv_istore_n (lv' := [(3, .int (leM ((paF Lx ns fog nr nm nl kz).1) p1 9)), (2, .ref (g2 0)), (0, .ref (Ax 0)), (1, .int p1)]) hx hb dX7_arrives_62 rfl hl (by decide) rfl (fun ls hl => ?_)
          refine lv_aload_n hx hb dX7_arrives_63 rfl (lv_at hl 2 rfl) ?_
          refine lv_aload_n hx hb dX7_arrives_64 rfl (lv_at hl 1 rfl) ?_
          refine kVx ⟨hx, hb, hml, hown, hts⟩ (c_X7_bringBack l D Ax 0 ns fog nr nm nl ((paF Lx ns fog nr nm nl kz).1) (g2 0) (g2 1) (g2 2) (g2 3) (Lx 3) (Lx 4) (Lx 5)) (cwV 1 hts gX7_arrives_X7_bringBack rfl rfl rfl (by decide +kernel) ⟨Nat.le_of_ble_eq_true rfl, Nat.le_of_ble_eq_true rfl⟩) (preV hK hN hP hD (Sb.app Sb.self Sb.self) 7 0 rfl rfl) hP hD hS hA (wr := []) (fun _ h => Or.inl h) rfl rfl hl.1 (Nat.le_of_ble_eq_true rfl) ⟨Nat.le_of_ble_eq_true rfl, Nat.le_of_ble_eq_true rfl⟩ dX7_arrives_65 (fun g5 H locs hP hD hS => ?_) rfl
          have hP : va_P D.1 vwCl (wMod D (bA Ax (g2 1) (g2 2) (g2 3)) 0 ns fog nr nm nl (sr (sr (sr ((paF Lx ns fog nr nm nl kz).1) 3 (Lx 3)) 4 (Lx 4)) 5 (Lx 5))) H := hP
          have hD : va_D A0 (wMod D (bA Ax (g2 1) (g2 2) (g2 3)) 0 ns fog nr nm nl (sr (sr (sr ((paF Lx ns fog nr nm nl kz).1) 3 (Lx 3)) 4 (Lx 4)) 5 (Lx 5))) := hD
          refine W.eq (g2 := F0 m 68 ls []) rfl ?_
          refine lv_iload_n hx hb dX7_arrives_68 rfl (lv_at hl 0 rfl) ?_
          refine W.widen (k := 4) (n := 725) (Nat.le_of_ble_eq_true rfl) (Nat.le_of_ble_eq_true rfl) ?_
          exact eXi (g := gl [(g2 1), (g2 2), (g2 3)]) (ws' := (wMod D (bA Ax (g2 1) (g2 2) (g2 3)) 0 ns fog nr nm nl (sr (sr (sr ((paF Lx ns fog nr nm nl kz).1) 3 (Lx 3)) 4 (Lx 4)) 5 (Lx 5)))) hx hb hr hlocks dX7_arrives_69 hS hP hD (by (rw [par1, if_pos c1, ← hf, arN]; first | done | rfl)) (show (wMod D (bA Ax (g2 1) (g2 2) (g2 3)) 0 ns fog nr nm nl (sr (sr (sr ((paF Lx ns fog nr nm nl kz).1) 3 (Lx 3)) 4 (Lx 4)) 5 (Lx 5))) = (wMod D (bA Ax (g2 1) (g2 2) (g2 3)) ((par1 Lx ns fog nr nm nl p1).2.1) ns fog nr nm nl ((par1 Lx ns fog nr nm nl p1).2.2)) by (rw [par1, if_pos c1, ← hf, arN]; first | done | rfl))
        · exact absurd (show (300 : Int32) ≤ nI kz by have e9 : kz = 300 := hk; rw [e9]; decide) c4
      | succ j3 ih3 =>
        intro kz hk hf x3_3 e3_3 H locs hP hD hS ls hl
        subst e3_3
        refine lv_iload_n hx hb dX7_arrives_26 rfl (lv_at hl 0 rfl) ?_
        refine lv_sipush (v := 300) hx hb dX7_arrives_27 (by decide) ?_
        refine lv_icmp_ge (tgt := 55) hx hb dX7_arrives_30 (by decide) (fun c6 => ?_) (fun c6 => ?_)
        · exact (upS (N := 300) hk (by decide) c6).elim
        · refine lv_aload_n hx hb dX7_arrives_33 rfl (lv_at hl 2 rfl) ?_
          refine lv_iload_n hx hb dX7_arrives_34 rfl (lv_at hl 3 rfl) ?_
          refine lv_bipush (v := 9) hx hb dX7_arrives_35 (by decide) ?_
          refine kVp ⟨hx, hb, hml, hown, hts⟩ (c_X7_le l D Ax 0 ns fog nr nm nl ((paF Lx ns fog nr nm nl kz).1) p1 9 (ixl (inB_vd (by omega) c1) b60 9 (by decide))) (cwV 2 hts gX7_arrives_X7_le rfl rfl rfl (by decide +kernel) ⟨Nat.le_of_ble_eq_true rfl, Nat.le_of_ble_eq_true rfl⟩) hK hN hP hD (Sb.l Sb.self) 7 0 rfl rfl rfl hl.1 (Nat.le_of_ble_eq_true rfl) ⟨Nat.le_of_ble_eq_true rfl, Nat.le_of_ble_eq_true rfl⟩ dX7_arrives_37 ?_ rfl
          refine lv_iconst (v := (-1)) hx hb dX7_arrives_40 (by decide) ?_
          refine lv_icmp_ne (tgt := 55) hx hb dX7_arrives_41 (by decide) (fun c7 => ?_) (fun c7 => ?_)
          · refine lv_aload_n hx hb dX7_arrives_55 rfl (lv_at hl 2 rfl) ?_
            refine lv_iload_n hx hb dX7_arrives_56 rfl (lv_at hl 3 rfl) ?_
            refine lv_bipush (v := 9) hx hb dX7_arrives_57 (by decide) ?_
            refine kVp ⟨hx, hb, hml, hown, hts⟩ (c_X7_le l D Ax 0 ns fog nr nm nl ((paF Lx ns fog nr nm nl kz).1) p1 9 (ixl (inB_vd (by omega) c1) b60 9 (by decide))) (cwV 2 hts gX7_arrives_X7_le rfl rfl rfl (by decide +kernel) ⟨Nat.le_of_ble_eq_true rfl, Nat.le_of_ble_eq_true rfl⟩) hK hN hP hD (Sb.l Sb.self) 7 0 rfl rfl rfl hl.1 (Nat.le_of_ble_eq_true rfl) ⟨Nat.le_of_ble_eq_true rfl, Nat.le_of_ble_eq_true rfl⟩ dX7_arrives_59 ?_ rfl
            refine lv_istore_n (lv' := [(3, .int (leM ((paF Lx ns fog nr nm nl kz).1) p1 9)), (2, .ref (g2 0)), (0, .ref (Ax 0)), (1, .int p1)]) hx hb dX7_arrives_62 rfl hl (by decide) rfl (fun ls hl => ?_)
            refine lv_aload_n hx hb dX7_arrives_63 rfl (lv_at hl 2 rfl) ?_
            refine lv_aload_n hx hb dX7_arrives_64 rfl (lv_at hl 1 rfl) ?_
            refine kVx ⟨hx, hb, hml, hown, hts⟩ (c_X7_bringBack l D Ax 0 ns fog nr nm nl ((paF Lx ns fog nr nm nl kz).1) (g2 0) (g2 1) (g2 2) (g2 3) (Lx 3) (Lx 4) (Lx 5)) (cwV 1 hts gX7_arrives_X7_bringBack rfl rfl rfl (by decide +kernel) ⟨Nat.le_of_ble_eq_true rfl, Nat.le_of_ble_eq_true rfl⟩) (preV hK hN hP hD (Sb.app Sb.self Sb.self) 7 0 rfl rfl) hP hD hS hA (wr := []) (fun _ h => Or.inl h) rfl rfl hl.1 (Nat.le_of_ble_eq_true rfl) ⟨Nat.le_of_ble_eq_true rfl, Nat.le_of_ble_eq_true rfl⟩ dX7_arrives_65 (fun g8 H locs hP hD hS => ?_) rfl
            have hP : va_P D.1 vwCl (wMod D (bA Ax (g2 1) (g2 2) (g2 3)) 0 ns fog nr nm nl (sr (sr (sr ((paF Lx ns fog nr nm nl kz).1) 3 (Lx 3)) 4 (Lx 4)) 5 (Lx 5))) H := hP
            have hD : va_D A0 (wMod D (bA Ax (g2 1) (g2 2) (g2 3)) 0 ns fog nr nm nl (sr (sr (sr ((paF Lx ns fog nr nm nl kz).1) 3 (Lx 3)) 4 (Lx 4)) 5 (Lx 5))) := hD
            refine W.eq (g2 := F0 m 68 ls []) rfl ?_
            refine lv_iload_n hx hb dX7_arrives_68 rfl (lv_at hl 0 rfl) ?_
            refine W.widen (k := 4) (n := 725) (Nat.le_of_ble_eq_true rfl) (Nat.le_of_ble_eq_true rfl) ?_
            exact eXi (g := gl [(g2 1), (g2 2), (g2 3)]) (ws' := (wMod D (bA Ax (g2 1) (g2 2) (g2 3)) 0 ns fog nr nm nl (sr (sr (sr ((paF Lx ns fog nr nm nl kz).1) 3 (Lx 3)) 4 (Lx 4)) 5 (Lx 5)))) hx hb hr hlocks dX7_arrives_69 hS hP hD (by (rw [par1, if_pos c1, ← hf, arN, if_neg c7]; first | done | rfl)) (show (wMod D (bA Ax (g2 1) (g2 2) (g2 3)) 0 ns fog nr nm nl (sr (sr (sr ((paF Lx ns fog nr nm nl kz).1) 3 (Lx 3)) 4 (Lx 4)) 5 (Lx 5))) = (wMod D (bA Ax (g2 1) (g2 2) (g2 3)) ((par1 Lx ns fog nr nm nl p1).2.1) ns fog nr nm nl ((par1 Lx ns fog nr nm nl p1).2.2)) by (rw [par1, if_pos c1, ← hf, arN, if_neg c7]; first | done | rfl))
          · refine lv_aload_n hx hb dX7_arrives_44 rfl (lv_at hl 2 rfl) ?_
            refine kVw ⟨hx, hb, hml, hown, hts⟩ (c_X7_hourOn l D Ax 0 ns fog nr nm nl ((paF Lx ns fog nr nm nl kz).1) (by assumption) (by assumption) (by assumption) (by assumption) (okS_pa b12 b60 hS9 _)) (cwV 0 hts gX7_arrives_X7_hourOn rfl rfl rfl (by decide +kernel) ⟨Nat.le_of_ble_eq_true rfl, Nat.le_of_ble_eq_true rfl⟩) hK hN hP hD hS (Fr.l frsMod) 7 0 rfl rfl rfl hl.1 (Nat.le_of_ble_eq_true rfl) ⟨Nat.le_of_ble_eq_true rfl, Nat.le_of_ble_eq_true rfl⟩ dX7_arrives_45 (fun H locs hP hD hS => ?_) rfl
            have hP : va_P D.1 vwCl ((wMod D Ax 0 ns fog nr nm nl (hoM ((paF Lx ns fog nr nm nl kz).1) ns fog nr nm nl)) ++ (wKep D (g2 0) (g2 1) (g2 2) (g2 3) (Lx 3) (Lx 4) (Lx 5))) H := hP
            have hD : va_D A0 ((wMod D Ax 0 ns fog nr nm nl (hoM ((paF Lx ns fog nr nm nl kz).1) ns fog nr nm nl)) ++ (wKep D (g2 0) (g2 1) (g2 2) (g2 3) (Lx 3) (Lx 4) (Lx 5))) := hD
            refine W.eq (g2 := F0 m 48 ls [.int ((hr1 ((paF Lx ns fog nr nm nl kz).1) ns nr nm nl).2)]) rfl ?_
            refine lv_pop hx hb dX7_arrives_48 rfl ?_
            refine lv_iinc (v := ((nI kz) + 1)) (lv' := [(3, .int ((nI kz) + 1)), (2, .ref (g2 0)), (0, .ref (Ax 0)), (1, .int p1)]) hx hb dX7_arrives_49 hl (k := 0) rfl rfl (by decide) rfl (fun ls hl => ?_)
            refine lv_goto (tgt := 26) hx hb dX7_arrives_52 (by decide) ?_
            exact ih3 (kz + 1) (by omega) (by rw [← hf, arN, if_pos c7]) _ (nI_1 kz) _ _ hP hD hS ls (lv_sub hl [0, 1, 2, 3] rfl)
    exact lp3 300 0 rfl rfl _ nI_0.symm _ _ hP hD hS ls (lv_sub hl [0, 1, 2, 3] rfl)
  · have c1 := z2_0.mp c1
    refine lv_aload_n hx hb dX7_arrives_13 rfl (lv_at hl 0 rfl) ?_
    refine lv_iconst (v := 1) hx hb dX7_arrives_14 (by decide) ?_
    refine kVw ⟨hx, hb, hml, hown, hts⟩ (c_X7_fail l D Ax 0 ns fog nr nm nl Lx 1) (cwV 1 hts gX7_arrives_X7_fail rfl rfl rfl (by decide +kernel) ⟨Nat.le_of_ble_eq_true rfl, Nat.le_of_ble_eq_true rfl⟩) hK hN hP hD hS frsMod 7 0 rfl rfl rfl hl.1 (Nat.le_of_ble_eq_true rfl) ⟨Nat.le_of_ble_eq_true rfl, Nat.le_of_ble_eq_true rfl⟩ dX7_arrives_15 (fun H locs hP hD hS => ?_) rfl
    have hP : va_P D.1 vwCl (wMod D Ax 1 ns fog nr nm nl Lx) H := hP
    have hD : va_D A0 (wMod D Ax 1 ns fog nr nm nl Lx) := hD
    refine W.eq (g2 := F0 m 18 ls [.int 0]) rfl ?_
    refine W.widen (k := 4) (n := 725) (Nat.le_of_ble_eq_true rfl) (Nat.le_of_ble_eq_true rfl) ?_
    exact eXi (g := gl [Ax 4, Ax 5, Ax 6]) (ws' := (wMod D (bA Ax (Ax 4) (Ax 5) (Ax 6)) 1 ns fog nr nm nl Lx)) hx hb hr hlocks dX7_arrives_18 hS hP hD (by (rw [par1, if_neg c1]; first | done | rfl)) (show (wMod D (bA Ax (Ax 4) (Ax 5) (Ax 6)) 1 ns fog nr nm nl Lx) = (wMod D (bA Ax (Ax 4) (Ax 5) (Ax 6)) ((par1 Lx ns fog nr nm nl p1).2.1) ns fog nr nm nl ((par1 Lx ns fog nr nm nl p1).2.2)) by (rw [par1, if_neg c1]; first | done | rfl))
