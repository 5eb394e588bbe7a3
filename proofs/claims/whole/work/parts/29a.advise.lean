set_option maxHeartbeats 4000000 in
set_option maxRecDepth 100000 in
theorem c_X7_advise (l : Launch) (D : GG) (Ax : Nat → Nat) (th : Int32) (ns : Nat) (fog : Int32) (nr : Nat) (nm : Nat) (nl : Nat) (Lx : Nat → Nat → Int32) (p1 : Int32) (sz : Nat) (b10 : ns ≤ 10) (b15 : nr ≤ 15) (b12 : nm ≤ 12) (b60 : nl ≤ 60) (hS9 : okS Lx ns nr nm nl) : Met l yX7_advise wsX7_advise ({ frames := 7, cells := 79, slots := 11675, locals := 165 } : Room) (va_Pc [.ref (Ax 0), .int p1] (wdX D (wMod D Ax th ns fog nr nm nl Lx) sz)) (QX D (fun _ => some (.int ((pad Lx ns fog nr nm nl p1).1))) (fun g => (wMod D (bA Ax (g 0) (g 1) (g 2)) ((pad Lx ns fog nr nm nl p1).2.1) ns fog nr nm nl ((pad Lx ns fog nr nm nl p1).2.2))) (ownZ (wMod D Ax th ns fog nr nm nl Lx) sz)) 79 11675 (ownZ (wMod D Ax th ns fog nr nm nl Lx) sz) := by
  refine Met.ofW (cc := cX7_advise) (maxL := 6) (ret := (some .int)) (by decide) rfl ?_
  intro p e s m args below meth c s₁ B hml hv
  obtain ⟨rfl, hNX, hsz, hP, hK, hD, hN⟩ := hv
  have hx := B.exec
  have hb := B.bytes
  have hr := B.returns
  have hts := atoms_spec (ws := wsX7_advise) B.pre
  have hown : s.vm.findClass RX7 = some m.cls := findClass_of_methodNamed B.named
  have hlocks := B.notSynchronized
  have hinX7 : ∀ w ∈ u_ws RX7 TX7 14, w ∈ wsX7_advise := by decide +kernel
  subst hsz
  have hS : va_S (ownZ (wMod D Ax th ns fog nr nm nl Lx) s.heap.size) s.heap s.heap [] := va_S.rf
  have hD : va_D (ownZ (wMod D Ax th ns fog nr nm nl Lx) s.heap.size) (wMod D Ax th ns fog nr nm nl Lx) := toOwnZ hD
  have hA : ∀ q : Nat, s.heap.size ≤ q → ownZ (wMod D Ax th ns fog nr nm nl Lx) s.heap.size q := fun _ h => Or.inr h
  generalize hAe : ownZ (wMod D Ax th ns fog nr nm nl Lx) s.heap.size = A0 at hD hS hA ⊢
  have hl := lv_entry ([.ref (Ax 0), .int p1]) (n := 6) (Nat.le_of_ble_eq_true rfl)
  rw [lg_entry_eq]
  generalize (lg_sl ([.ref (Ax 0), .int p1]) ++ List.replicate (6 - (lg_sl ([.ref (Ax 0), .int p1])).length) Slot.unset).toArray = ls at hl ⊢
  have hl : lv_has ls 6 [(0, .ref (Ax 0)), (1, .int p1)] := hl
  refine lv_aload_n hx hb dX7_advise_0 rfl (lv_at hl 0 rfl) ?_
  refine lv_iconst (v := 0) hx hb dX7_advise_1 (by decide) ?_
  refine va_put (D := D.1) (ci := 7) (v := .int 0) (ty := .int) (C := RX7) (T := TX7) (N := 14) hx hb hts hinX7 tyX7 tyX7_ok nmX7 hown hK hP hD hS 0 rfl rfl 0 (by decide) (hts (.fieldLink RX7 34 "MountainPostModel" "thrown" "I") (List.mem_of_getElem? (i := 1) rfl)) (fun _ h9 => h9) rfl (by decide +kernel) rfl rfl (Nat.le_of_ble_eq_true rfl) dX7_advise_2 (fun H locs hP hD hS => ?_)
  have hP : va_P D.1 vwCl (wMod D Ax 0 ns fog nr nm nl Lx) H := hP
  have hD : va_D A0 (wMod D Ax 0 ns fog nr nm nl Lx) := hD
  refine lv_iload_n hx hb dX7_advise_5 rfl (lv_at hl 1 rfl) ?_
  refine lv_iconst (v := 1) hx hb dX7_advise_6 (by decide) ?_
  refine lv_bipush (v := 50) hx hb dX7_advise_7 (by decide) ?_
  refine kSp ⟨hx, hb, hml, hown, hts⟩ (c_X7_isIn l D p1 1 50) (va_cwS 3 hts gX7_advise_X7_isIn rfl rfl rfl (by decide +kernel) ⟨Nat.le_of_ble_eq_true rfl, Nat.le_of_ble_eq_true rfl⟩) hK hN hP hD Sb.nil  rfl hl.1 (Nat.le_of_ble_eq_true rfl) ⟨Nat.le_of_ble_eq_true rfl, Nat.le_of_ble_eq_true rfl⟩ dX7_advise_9 ?_ rfl
  refine lv_if_ne (tgt := 21) hx hb dX7_advise_12 (by decide) (fun c1 => ?_) (fun c1 => ?_)
  · have c1 := z2_n.mp c1
    refine lv_aload_n hx hb dX7_advise_21 rfl (lv_at hl 0 rfl) ?_
    refine va_get (D := D.1) (ci := 7) (v := .int (nI nm)) (C := RX7) (T := TX7) (N := 14) hx hb hts hinX7 hown hK hP 0 rfl rfl 7 (by decide) (hts (.fieldLink RX7 73 "MountainPostModel" "mules" "I") (List.mem_of_getElem? (i := 2) rfl)) (fun _ h9 => h9) rfl dX7_advise_22 ?_
    refine lv_bipush (v := 12) hx hb dX7_advise_25 (by decide) ?_
    refine lv_icmp_ne (tgt := 36) hx hb dX7_advise_27 (by decide) (fun c2 => ?_) (fun c2 => ?_)
    · refine lv_iconst (v := (-1)) hx hb dX7_advise_36 (by decide) ?_
      refine lv_istore_n (lv' := [(2, .int (-1)), (0, .ref (Ax 0)), (1, .int p1)]) hx hb dX7_advise_37 rfl hl (by decide) rfl (fun ls hl => ?_)
      refine lv_aload_n hx hb dX7_advise_38 rfl (lv_at hl 1 rfl) ?_
      refine lv_iload_n hx hb dX7_advise_39 rfl (lv_at hl 2 rfl) ?_
      refine kVx ⟨hx, hb, hml, hown, hts⟩ (c_X7_comeBy l D Ax 0 ns fog nr nm nl Lx p1 _ (by assumption) (by assumption) (by assumption) (by assumption) (by assumption) (in_pos c1)) (cwV 1 hts gX7_advise_X7_comeBy rfl rfl rfl (by decide +kernel) ⟨Nat.le_of_ble_eq_true rfl, Nat.le_of_ble_eq_true rfl⟩) (preVX hNX hK hN hP hD Sb.self 7 0 rfl rfl) hP hD hS hA (wr := []) (fun _ h => h) rfl rfl hl.1 (Nat.le_of_ble_eq_true rfl) ⟨Nat.le_of_ble_eq_true rfl, Nat.le_of_ble_eq_true rfl⟩ dX7_advise_40 (fun g3 H locs hP hD hS => ?_) rfl
      have hP : va_P D.1 vwCl (wMod D (bA Ax (g3 0) (g3 1) (g3 2)) 0 ns fog nr nm nl ((cbM Lx ns fog nr nm nl p1).2)) H := hP
      have hD : va_D A0 (wMod D (bA Ax (g3 0) (g3 1) (g3 2)) 0 ns fog nr nm nl ((cbM Lx ns fog nr nm nl p1).2)) := hD
      refine W.eq (g2 := F0 m 43 ls [.int ((cbM Lx ns fog nr nm nl p1).1)]) rfl ?_
      refine lv_istore_n (lv' := [(3, .int ((cbM Lx ns fog nr nm nl p1).1)), (2, .int (-1)), (0, .ref (Ax 0)), (1, .int p1)]) hx hb dX7_advise_43 rfl hl (by decide) rfl (fun ls hl => ?_)
      refine lv_iconst (v := 0) hx hb dX7_advise_44 (by decide) ?_
      refine lv_istore (lv' := [(4, .int 0), (3, .int ((cbM Lx ns fog nr nm nl p1).1)), (2, .int (-1)), (0, .ref (Ax 0)), (1, .int p1)]) hx hb dX7_advise_45 hl (by decide) rfl (fun ls hl => ?_)
      have lp4 : ∀ (j4 : Nat) (kz : Nat) (aa : Nat) (ab : Nat) (ac : Nat) (hk : kz + j4 = nr) (x4_4 : Int32) (e4_4 : x4_4 = (nI kz)) (x3_4 : Int32) (e3_4 : x3_4 = (adS Lx ns fog nr nm nl p1 kz).2.1) (x2_4 : Int32) (e2_4 : x2_4 = (adS Lx ns fog nr nm nl p1 kz).1) (H : Heap) (locs : List Loc) (hP : va_P D.1 vwCl (wMod D (bA Ax aa ab ac) 0 ns fog nr nm nl ((adS Lx ns fog nr nm nl p1 kz).2.2)) H) (hD : va_D A0 (wMod D (bA Ax aa ab ac) 0 ns fog nr nm nl ((adS Lx ns fog nr nm nl p1 kz).2.2))) (hS : va_S A0 s.heap H locs) (ls : Array Slot) (hl : lv_has ls 6 [(4, .int x4_4), (3, .int x3_4), (2, .int x2_4), (0, .ref (Ax 0)), (1, .int p1)]), W p l e (headSpec wsX7_advise ({ frames := 7, cells := 79, slots := 11675, locals := 165 } : Room)).room s m ([.ref (Ax 0), .int p1] : List Value).toArray below meth c H locs (4 + 5 * kz) (725 + 730 * kz) (MQ below (QX D (fun _ => some (.int ((pad Lx ns fog nr nm nl p1).1))) (fun g => (wMod D (bA Ax (g 0) (g 1) (g 2)) ((pad Lx ns fog nr nm nl p1).2.1) ns fog nr nm nl ((pad Lx ns fog nr nm nl p1).2.2))) A0) ([.ref (Ax 0), .int p1] : List Value).toArray s 79 11675 A0) (F0 m 47 ls []) := by
        intro j4
        induction j4 with
        | zero =>
          intro kz aa ab ac hk x4_4 e4_4 x3_4 e3_4 x2_4 e2_4 H locs hP hD hS ls hl
          subst e4_4 e3_4 e2_4
          refine lv_iload hx hb dX7_advise_47 (lv_at hl 0 rfl) ?_
          refine lv_aload_n hx hb dX7_advise_49 rfl (lv_at hl 3 rfl) ?_
          refine va_get (D := D.1) (ci := 7) (v := .int (nI nr)) (C := RX7) (T := TX7) (N := 14) hx hb hts hinX7 hown hK hP 0 rfl rfl 5 (by decide) (hts (.fieldLink RX7 45 "MountainPostModel" "roads" "I") (List.mem_of_getElem? (i := 3) rfl)) (fun _ h9 => h9) rfl dX7_advise_50 ?_
          refine lv_icmp_ge (tgt := 109) hx hb dX7_advise_53 (by decide) (fun c5 => ?_) (fun c5 => ?_)
          · refine lv_iload_n hx hb dX7_advise_109 rfl (lv_at hl 2 rfl) ?_
            refine W.widen (k := 79) (n := 11675) (by omega) (by omega) ?_
            exact eXi (g := gl [aa, ab, ac]) (ws' := (wMod D (bA Ax aa ab ac) 0 ns fog nr nm nl ((adS Lx ns fog nr nm nl p1 kz).2.2))) hx hb hr hlocks dX7_advise_110 hS hP hD (by (rw [pad, if_pos c1, if_neg c2, ← (show kz = nr from hk)]; first | done | rfl)) (show (wMod D (bA Ax aa ab ac) 0 ns fog nr nm nl ((adS Lx ns fog nr nm nl p1 kz).2.2)) = (wMod D (bA Ax aa ab ac) ((pad Lx ns fog nr nm nl p1).2.1) ns fog nr nm nl ((pad Lx ns fog nr nm nl p1).2.2)) by (rw [pad, if_pos c1, if_neg c2, ← (show kz = nr from hk)]; first | done | rfl))
          · exact (up0 hk c5).elim
        | succ j4 ih4 =>
          intro kz aa ab ac hk x4_4 e4_4 x3_4 e3_4 x2_4 e2_4 H locs hP hD hS ls hl
          subst e4_4 e3_4 e2_4
          refine lv_iload hx hb dX7_advise_47 (lv_at hl 0 rfl) ?_
          refine lv_aload_n hx hb dX7_advise_49 rfl (lv_at hl 3 rfl) ?_
          refine va_get (D := D.1) (ci := 7) (v := .int (nI nr)) (C := RX7) (T := TX7) (N := 14) hx hb hts hinX7 hown hK hP 0 rfl rfl 5 (by decide) (hts (.fieldLink RX7 45 "MountainPostModel" "roads" "I") (List.mem_of_getElem? (i := 3) rfl)) (fun _ h9 => h9) rfl dX7_advise_50 ?_
          refine lv_icmp_ge (tgt := 109) hx hb dX7_advise_53 (by decide) (fun c6 => ?_) (fun c6 => ?_)
          · exact (upS hk (by omega) c6).elim
          · refine lv_aload_n hx hb dX7_advise_56 rfl (lv_at hl 3 rfl) ?_
            refine lv_iload hx hb dX7_advise_57 (lv_at hl 0 rfl) ?_
            refine lv_bipush (v := 6) hx hb dX7_advise_59 (by decide) ?_
            refine lv_aload_n hx hb dX7_advise_61 rfl (lv_at hl 3 rfl) ?_
            refine lv_iload hx hb dX7_advise_62 (lv_at hl 0 rfl) ?_
            refine lv_iconst (v := 0) hx hb dX7_advise_64 (by decide) ?_
            refine kVp ⟨hx, hb, hml, hown, hts⟩ (c_X7_ro l D (bA Ax aa ab ac) 0 ns fog nr nm nl ((adS Lx ns fog nr nm nl p1 kz).2.2) (nI kz) 0 (ixr ⟨kz, (by omega), rfl⟩ b15 0 (by decide))) (cwV 2 hts gX7_advise_X7_ro rfl rfl rfl (by decide +kernel) ⟨Nat.le_of_ble_eq_true rfl, Nat.le_of_ble_eq_true rfl⟩) hK hN hP hD Sb.self 7 0 rfl rfl rfl hl.1 (Nat.le_of_ble_eq_true rfl) ⟨by show _ ≤ 79; omega, by show _ ≤ 11675; omega⟩ dX7_advise_65 ?_ rfl
            refine kVa ⟨hx, hb, hml, hown, hts⟩ (c_X7_putMule l D (bA Ax aa ab ac) 0 ns fog nr nm nl ((adS Lx ns fog nr nm nl p1 kz).2.2) (nI kz) 6 (roM ((adS Lx ns fog nr nm nl p1 kz).2.2) (nI kz) 0) _ (not12 b12 c2)) (cwV 3 hts gX7_advise_X7_putMule rfl rfl rfl (by decide +kernel) ⟨Nat.le_of_ble_eq_true rfl, Nat.le_of_ble_eq_true rfl⟩) hK hN hP hD hS hA frsMod 7 0 rfl rfl rfl hl.1 (Nat.le_of_ble_eq_true rfl) ⟨by show _ ≤ 79; omega, by show _ ≤ 11675; omega⟩ dX7_advise_68 (fun H locs hP hD hS => ?_) rfl
            have hP : va_P D.1 vwCl (wMod D (bA Ax aa ab ac) 0 ns fog nr (nm + 1) nl (pmT ((adS Lx ns fog nr nm nl p1 kz).2.2) nm (nI kz) 6 (roM ((adS Lx ns fog nr nm nl p1 kz).2.2) (nI kz) 0))) H := hP
            have hD : va_D A0 (wMod D (bA Ax aa ab ac) 0 ns fog nr (nm + 1) nl (pmT ((adS Lx ns fog nr nm nl p1 kz).2.2) nm (nI kz) 6 (roM ((adS Lx ns fog nr nm nl p1 kz).2.2) (nI kz) 0))) := hD
            refine W.eq (g2 := F0 m 71 ls []) rfl ?_
            refine lv_aload_n hx hb dX7_advise_71 rfl (lv_at hl 3 rfl) ?_
            refine lv_iload_n hx hb dX7_advise_72 rfl (lv_at hl 4 rfl) ?_
            refine kVx ⟨hx, hb, hml, hown, hts⟩ (c_X7_comeBy l D (bA Ax aa ab ac) 0 ns fog nr (nm + 1) nl (pmT ((adS Lx ns fog nr nm nl p1 kz).2.2) nm (nI kz) 6 (roM ((adS Lx ns fog nr nm nl p1 kz).2.2) (nI kz) 0)) p1 _ (by assumption) (by assumption) (not12 b12 c2) (by assumption) (okS_adP (not12 b12 c2) (by omega) (okS_ad (fog := fog) (h := p1) (not12 b12 c2) b60 hS9 kz (by omega))) (in_pos c1)) (cwV 1 hts gX7_advise_X7_comeBy rfl rfl rfl (by decide +kernel) ⟨Nat.le_of_ble_eq_true rfl, Nat.le_of_ble_eq_true rfl⟩) (preVX hNX hK hN hP hD Sb.self 7 0 rfl rfl) hP hD hS hA (wr := []) (fun _ h => h) rfl rfl hl.1 (Nat.le_of_ble_eq_true rfl) ⟨by show _ ≤ 79; omega, by show _ ≤ 11675; omega⟩ dX7_advise_73 (fun g7 H locs hP hD hS => ?_) rfl
            have hP : va_P D.1 vwCl (wMod D (bA Ax (g7 0) (g7 1) (g7 2)) 0 ns fog nr (nm + 1) nl ((cbM (pmT ((adS Lx ns fog nr nm nl p1 kz).2.2) nm (nI kz) 6 (roM ((adS Lx ns fog nr nm nl p1 kz).2.2) (nI kz) 0)) ns fog nr (nm + 1) nl p1).2)) H := hP
            have hD : va_D A0 (wMod D (bA Ax (g7 0) (g7 1) (g7 2)) 0 ns fog nr (nm + 1) nl ((cbM (pmT ((adS Lx ns fog nr nm nl p1 kz).2.2) nm (nI kz) 6 (roM ((adS Lx ns fog nr nm nl p1 kz).2.2) (nI kz) 0)) ns fog nr (nm + 1) nl p1).2)) := hD
            refine W.eq (g2 := F0 m 76 ls [.int ((cbM (pmT ((adS Lx ns fog nr nm nl p1 kz).2.2) nm (nI kz) 6 (roM ((adS Lx ns fog nr nm nl p1 kz).2.2) (nI kz) 0)) ns fog nr (nm + 1) nl p1).1)]) rfl ?_
            refine lv_istore (lv' := [(5, .int ((cbM (pmT ((adS Lx ns fog nr nm nl p1 kz).2.2) nm (nI kz) 6 (roM ((adS Lx ns fog nr nm nl p1 kz).2.2) (nI kz) 0)) ns fog nr (nm + 1) nl p1).1)), (4, .int (nI kz)), (3, .int ((adS Lx ns fog nr nm nl p1 kz).2.1)), (2, .int ((adS Lx ns fog nr nm nl p1 kz).1)), (0, .ref (Ax 0)), (1, .int p1)]) hx hb dX7_advise_76 hl (by decide) rfl (fun ls hl => ?_)
            refine lv_aload_n hx hb dX7_advise_78 rfl (lv_at hl 4 rfl) ?_
            refine lv_dup hx hb dX7_advise_79 rfl ?_
            refine va_get (D := D.1) (ci := 7) (v := .int (nI (nm + 1))) (C := RX7) (T := TX7) (N := 14) hx hb hts hinX7 hown hK hP 0 rfl rfl 7 (by decide) (hts (.fieldLink RX7 73 "MountainPostModel" "mules" "I") (List.mem_of_getElem? (i := 2) rfl)) (fun _ h9 => h9) rfl dX7_advise_80 ?_
            refine lv_iconst (v := 1) hx hb dX7_advise_83 (by decide) ?_
            refine lv_isub hx hb dX7_advise_84 ?_
            refine W.eq (g2 := F0 m 85 ls [.int (nI nm), .ref (Ax 0)]) (by rw [show ((nI (nm + 1)) - 1) = nI nm from nI_pred nm]) ?_
            refine va_put (D := D.1) (ci := 7) (v := .int (nI nm)) (ty := .int) (C := RX7) (T := TX7) (N := 14) hx hb hts hinX7 tyX7 tyX7_ok nmX7 hown hK hP hD hS 0 rfl rfl 7 (by decide) (hts (.fieldLink RX7 73 "MountainPostModel" "mules" "I") (List.mem_of_getElem? (i := 2) rfl)) (fun _ h9 => h9) rfl (by decide +kernel) rfl rfl (Nat.le_of_ble_eq_true rfl) dX7_advise_85 (fun H locs hP hD hS => ?_)
            have hP : va_P D.1 vwCl (wMod D (bA Ax (g7 0) (g7 1) (g7 2)) 0 ns fog nr nm nl ((cbM (pmT ((adS Lx ns fog nr nm nl p1 kz).2.2) nm (nI kz) 6 (roM ((adS Lx ns fog nr nm nl p1 kz).2.2) (nI kz) 0)) ns fog nr (nm + 1) nl p1).2)) H := hP
            have hD : va_D A0 (wMod D (bA Ax (g7 0) (g7 1) (g7 2)) 0 ns fog nr nm nl ((cbM (pmT ((adS Lx ns fog nr nm nl p1 kz).2.2) nm (nI kz) 6 (roM ((adS Lx ns fog nr nm nl p1 kz).2.2) (nI kz) 0)) ns fog nr (nm + 1) nl p1).2)) := hD
            refine lv_iload hx hb dX7_advise_88 (lv_at hl 0 rfl) ?_
            refine lv_iload_n hx hb dX7_advise_90 rfl (lv_at hl 2 rfl) ?_
            refine lv_icmp_gt (tgt := 97) hx hb dX7_advise_91 (by decide) (fun c8 => ?_) (fun c8 => ?_)
            · refine lv_iload hx hb dX7_advise_97 (lv_at hl 1 rfl) ?_
              refine lv_istore_n (lv' := [(2, .int (nI kz)), (5, .int ((cbM (pmT ((adS Lx ns fog nr nm nl p1 kz).2.2) nm (nI kz) 6 (roM ((adS Lx ns fog nr nm nl p1 kz).2.2) (nI kz) 0)) ns fog nr (nm + 1) nl p1).1)), (4, .int (nI kz)), (3, .int ((adS Lx ns fog nr nm nl p1 kz).2.1)), (0, .ref (Ax 0)), (1, .int p1)]) hx hb dX7_advise_99 rfl hl (by decide) rfl (fun ls hl => ?_)
              refine lv_iload hx hb dX7_advise_100 (lv_at hl 1 rfl) ?_
              refine lv_istore_n (lv' := [(3, .int ((cbM (pmT ((adS Lx ns fog nr nm nl p1 kz).2.2) nm (nI kz) 6 (roM ((adS Lx ns fog nr nm nl p1 kz).2.2) (nI kz) 0)) ns fog nr (nm + 1) nl p1).1)), (2, .int (nI kz)), (5, .int ((cbM (pmT ((adS Lx ns fog nr nm nl p1 kz).2.2) nm (nI kz) 6 (roM ((adS Lx ns fog nr nm nl p1 kz).2.2) (nI kz) 0)) ns fog nr (nm + 1) nl p1).1)), (4, .int (nI kz)), (0, .ref (Ax 0)), (1, .int p1)]) hx hb dX7_advise_102 rfl hl (by decide) rfl (fun ls hl => ?_)
              refine lv_iinc (v := ((nI kz) + 1)) (lv' := [(4, .int ((nI kz) + 1)), (3, .int ((cbM (pmT ((adS Lx ns fog nr nm nl p1 kz).2.2) nm (nI kz) 6 (roM ((adS Lx ns fog nr nm nl p1 kz).2.2) (nI kz) 0)) ns fog nr (nm + 1) nl p1).1)), (2, .int (nI kz)), (5, .int ((cbM (pmT ((adS Lx ns fog nr nm nl p1 kz).2.2) nm (nI kz) 6 (roM ((adS Lx ns fog nr nm nl p1 kz).2.2) (nI kz) 0)) ns fog nr (nm + 1) nl p1).1)), (0, .ref (Ax 0)), (1, .int p1)]) hx hb dX7_advise_103 hl (k := 3) rfl rfl (by decide) rfl (fun ls hl => ?_)
              refine lv_goto (tgt := 47) hx hb dX7_advise_106 (by decide) ?_
              refine W.widen (k := 4 + 5 * (kz + 1)) (n := 725 + 730 * (kz + 1)) (by omega) (by omega) ?_
              exact ih4 (kz + 1) (g7 0) (g7 1) (g7 2) (by omega) _ (nI_1 kz) _ ((if_pos c8).symm) _ ((if_pos c8).symm) _ _ hP hD hS ls (lv_sub hl [0, 1, 2, 4, 5] rfl)
            · refine lv_goto (tgt := 103) hx hb dX7_advise_94 (by decide) ?_
              refine lv_iinc (v := ((nI kz) + 1)) (lv' := [(4, .int ((nI kz) + 1)), (5, .int ((cbM (pmT ((adS Lx ns fog nr nm nl p1 kz).2.2) nm (nI kz) 6 (roM ((adS Lx ns fog nr nm nl p1 kz).2.2) (nI kz) 0)) ns fog nr (nm + 1) nl p1).1)), (3, .int ((adS Lx ns fog nr nm nl p1 kz).2.1)), (2, .int ((adS Lx ns fog nr nm nl p1 kz).1)), (0, .ref (Ax 0)), (1, .int p1)]) hx hb dX7_advise_103 hl (k := 1) rfl rfl (by decide) rfl (fun ls hl => ?_)
              refine lv_goto (tgt := 47) hx hb dX7_advise_106 (by decide) ?_
              refine W.widen (k := 4 + 5 * (kz + 1)) (n := 725 + 730 * (kz + 1)) (by omega) (by omega) ?_
              exact ih4 (kz + 1) (g7 0) (g7 1) (g7 2) (by omega) _ (nI_1 kz) _ ((if_neg c8).symm) _ ((if_neg c8).symm) _ _ hP hD hS ls (lv_sub hl [0, 2, 3, 4, 5] rfl)
      exact lp4 nr 0 (g3 0) (g3 1) (g3 2) (Nat.zero_add nr) _ nI_0.symm _ rfl _ rfl _ _ hP hD hS ls (lv_sub hl [0, 1, 2, 3, 4] rfl)
    · refine lv_aload_n hx hb dX7_advise_30 rfl (lv_at hl 0 rfl) ?_
      refine lv_iconst (v := 2) hx hb dX7_advise_31 (by decide) ?_
      refine kVw ⟨hx, hb, hml, hown, hts⟩ (c_X7_fail l D Ax 0 ns fog nr nm nl Lx 2) (cwV 1 hts gX7_advise_X7_fail rfl rfl rfl (by decide +kernel) ⟨Nat.le_of_ble_eq_true rfl, Nat.le_of_ble_eq_true rfl⟩) hK hN hP hD hS frsMod 7 0 rfl rfl rfl hl.1 (Nat.le_of_ble_eq_true rfl) ⟨Nat.le_of_ble_eq_true rfl, Nat.le_of_ble_eq_true rfl⟩ dX7_advise_32 (fun H locs hP hD hS => ?_) rfl
      have hP : va_P D.1 vwCl (wMod D Ax 2 ns fog nr nm nl Lx) H := hP
      have hD : va_D A0 (wMod D Ax 2 ns fog nr nm nl Lx) := hD
      refine W.eq (g2 := F0 m 35 ls [.int 0]) rfl ?_
      refine W.widen (k := 79) (n := 11675) (Nat.le_of_ble_eq_true rfl) (Nat.le_of_ble_eq_true rfl) ?_
      exact eXi (g := gl [Ax 4, Ax 5, Ax 6]) (ws' := (wMod D (bA Ax (Ax 4) (Ax 5) (Ax 6)) 2 ns fog nr nm nl Lx)) hx hb hr hlocks dX7_advise_35 hS hP hD (by (rw [pad, if_pos c1, if_pos c2]; first | done | rfl)) (show (wMod D (bA Ax (Ax 4) (Ax 5) (Ax 6)) 2 ns fog nr nm nl Lx) = (wMod D (bA Ax (Ax 4) (Ax 5) (Ax 6)) ((pad Lx ns fog nr nm nl p1).2.1) ns fog nr nm nl ((pad Lx ns fog nr nm nl p1).2.2)) by (rw [pad, if_pos c1, if_pos c2]; first | done | rfl))
  · have c1 := z2_0.mp c1
    refine lv_aload_n hx hb dX7_advise_15 rfl (lv_at hl 0 rfl) ?_
    refine lv_iconst (v := 1) hx hb dX7_advise_16 (by decide) ?_
    refine kVw ⟨hx, hb, hml, hown, hts⟩ (c_X7_fail l D Ax 0 ns fog nr nm nl Lx 1) (cwV 1 hts gX7_advise_X7_fail rfl rfl rfl (by decide +kernel) ⟨Nat.le_of_ble_eq_true rfl, Nat.le_of_ble_eq_true rfl⟩) hK hN hP hD hS frsMod 7 0 rfl rfl rfl hl.1 (Nat.le_of_ble_eq_true rfl) ⟨Nat.le_of_ble_eq_true rfl, Nat.le_of_ble_eq_true rfl⟩ dX7_advise_17 (fun H locs hP hD hS => ?_) rfl
    have hP : va_P D.1 vwCl (wMod D Ax 1 ns fog nr nm nl Lx) H := hP
    have hD : va_D A0 (wMod D Ax 1 ns fog nr nm nl Lx) := hD
    refine W.eq (g2 := F0 m 20 ls [.int 0]) rfl ?_
    refine W.widen (k := 79) (n := 11675) (Nat.le_of_ble_eq_true rfl) (Nat.le_of_ble_eq_true rfl) ?_
    exact eXi (g := gl [Ax 4, Ax 5, Ax 6]) (ws' := (wMod D (bA Ax (Ax 4) (Ax 5) (Ax 6)) 1 ns fog nr nm nl Lx)) hx hb hr hlocks dX7_advise_20 hS hP hD (by (rw [pad, if_neg c1]; first | done | rfl)) (show (wMod D (bA Ax (Ax 4) (Ax 5) (Ax 6)) 1 ns fog nr nm nl Lx) = (wMod D (bA Ax (Ax 4) (Ax 5) (Ax 6)) ((pad Lx ns fog nr nm nl p1).2.1) ns fog nr nm nl ((pad Lx ns fog nr nm nl p1).2.2)) by (rw [pad, if_neg c1]; first | done | rfl))
