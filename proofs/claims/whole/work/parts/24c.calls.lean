set_option maxHeartbeats 4000000 in
set_option maxRecDepth 100000 in
theorem c_X7_pass (l : Launch) (D : GG) (Ax : Nat → Nat) (th : Int32) (ns : Nat) (fog : Int32) (nr : Nat) (nm : Nat) (nl : Nat) (Lx : Nat → Nat → Int32) (p1 : Int32) (b10 : ns ≤ 10) (b15 : nr ≤ 15) (b12 : nm ≤ 12) (b60 : nl ≤ 60) (hS9 : okS Lx ns nr nm nl) : Met l yX7_pass wsX7_pass ({ frames := 6, cells := 0, slots := 0, locals := 141 } : Room) (va_Pc [.ref (Ax 0), .int p1] (wd D (wMod D Ax th ns fog nr nm nl Lx))) (QW D (some (.int ((pps Lx ns fog nr nm nl p1).1))) (wMod D Ax ((pps Lx ns fog nr nm nl p1).2.1) ns fog nr nm nl ((pps Lx ns fog nr nm nl p1).2.2)) (own (wMod D Ax th ns fog nr nm nl Lx))) 0 0 (own (wMod D Ax th ns fog nr nm nl Lx)) := by
  refine Met.ofW (cc := cX7_pass) (maxL := 4) (ret := (some .int)) (by decide) rfl ?_
  intro p e s m args below meth c s₁ B hml hv
  obtain ⟨rfl, hP, hK, hD, hN⟩ := hv
  have hx := B.exec
  have hb := B.bytes
  have hr := B.returns
  have hts := atoms_spec (ws := wsX7_pass) B.pre
  have hown : s.vm.findClass RX7 = some m.cls := findClass_of_methodNamed B.named
  have hlocks := B.notSynchronized
  have hinX7 : ∀ w ∈ u_ws RX7 TX7 14, w ∈ wsX7_pass := by decide +kernel
  have hS : va_S (own (wMod D Ax th ns fog nr nm nl Lx)) s.heap s.heap [] := va_S.rf
  have hD : va_D (own (wMod D Ax th ns fog nr nm nl Lx)) (wMod D Ax th ns fog nr nm nl Lx) := toOwn hD
  generalize hAe : own (wMod D Ax th ns fog nr nm nl Lx) = A0 at hD hS ⊢
  have hl := lv_entry ([.ref (Ax 0), .int p1]) (n := 4) (Nat.le_of_ble_eq_true rfl)
  rw [lg_entry_eq]
  generalize (lg_sl ([.ref (Ax 0), .int p1]) ++ List.replicate (4 - (lg_sl ([.ref (Ax 0), .int p1])).length) Slot.unset).toArray = ls at hl ⊢
  have hl : lv_has ls 4 [(0, .ref (Ax 0)), (1, .int p1)] := hl
  refine lv_aload_n hx hb dX7_pass_0 rfl (lv_at hl 0 rfl) ?_
  refine lv_iconst (v := 0) hx hb dX7_pass_1 (by decide) ?_
  refine va_put (D := D.1) (ci := 7) (v := .int 0) (ty := .int) (C := RX7) (T := TX7) (N := 14) hx hb hts hinX7 tyX7 tyX7_ok nmX7 hown hK hP hD hS 0 rfl rfl 0 (by decide) (hts (.fieldLink RX7 34 "MountainPostModel" "thrown" "I") (List.mem_of_getElem? (i := 1) rfl)) (fun _ h9 => h9) rfl (by decide +kernel) rfl rfl (Nat.le_of_ble_eq_true rfl) dX7_pass_2 (fun H locs hP hD hS => ?_)
  have hP : va_P D.1 vwCl (wMod D Ax 0 ns fog nr nm nl Lx) H := hP
  have hD : va_D A0 (wMod D Ax 0 ns fog nr nm nl Lx) := hD
  refine lv_iload_n hx hb dX7_pass_5 rfl (lv_at hl 1 rfl) ?_
  refine lv_iconst (v := 1) hx hb dX7_pass_6 (by decide) ?_
  refine lv_bipush (v := 100) hx hb dX7_pass_7 (by decide) ?_
  refine kSp ⟨hx, hb, hml, hown, hts⟩ (c_X7_isIn l D p1 1 100) (va_cwS 3 hts gX7_pass_X7_isIn rfl rfl rfl (by decide +kernel) ⟨Nat.le_of_ble_eq_true rfl, Nat.le_of_ble_eq_true rfl⟩) hK hN hP hD Sb.nil  rfl hl.1 (Nat.le_of_ble_eq_true rfl) ⟨Nat.zero_le _, Nat.zero_le _⟩ dX7_pass_9 ?_ rfl
  refine lv_if_ne (tgt := 21) hx hb dX7_pass_12 (by decide) (fun c1 => ?_) (fun c1 => ?_)
  · have c1 := z2_n.mp c1
    refine lv_iconst (v := 0) hx hb dX7_pass_21 (by decide) ?_
    refine lv_istore_n (lv' := [(2, .int 0), (0, .ref (Ax 0)), (1, .int p1)]) hx hb dX7_pass_22 rfl hl (by decide) rfl (fun ls hl => ?_)
    refine lv_iconst (v := 0) hx hb dX7_pass_23 (by decide) ?_
    refine lv_istore_n (lv' := [(3, .int 0), (2, .int 0), (0, .ref (Ax 0)), (1, .int p1)]) hx hb dX7_pass_24 rfl hl (by decide) rfl (fun ls hl => ?_)
    have lp2 : ∀ (j2 : Nat) (k2 : Nat) (hk2 : k2 + j2 = p1.toNatClampNeg) (x3_2 : Int32) (e3_2 : x3_2 = (nI k2)) (x2_2 : Int32) (e2_2 : x2_2 = (paF Lx ns fog nr nm nl k2).2) (yxL_2 : Nat → Nat → Int32) (eyxL_2 : yxL_2 = (paF Lx ns fog nr nm nl k2).1) (H : Heap) (locs : List Loc) (hP : va_P D.1 vwCl (wMod D Ax 0 ns fog nr nm nl yxL_2) H) (hD : va_D A0 (wMod D Ax 0 ns fog nr nm nl yxL_2)) (hS : va_S A0 s.heap H locs) (ls : Array Slot) (hl : lv_has ls 4 [(3, .int x3_2), (2, .int x2_2), (0, .ref (Ax 0)), (1, .int p1)]), W p l e (headSpec wsX7_pass ({ frames := 6, cells := 0, slots := 0, locals := 141 } : Room)).room s m ([.ref (Ax 0), .int p1] : List Value).toArray below meth c H locs 0 0 (MQ below (QW D (some (.int ((pps Lx ns fog nr nm nl p1).1))) (wMod D Ax ((pps Lx ns fog nr nm nl p1).2.1) ns fog nr nm nl ((pps Lx ns fog nr nm nl p1).2.2)) A0) ([.ref (Ax 0), .int p1] : List Value).toArray s 0 0 A0) (F0 m 25 ls []) := by
      intro j2
      induction j2 with
      | zero =>
        intro k2 hk2 x3_2 e3_2 x2_2 e2_2 yxL_2 eyxL_2  H locs hP hD hS ls hl
        subst e3_2 e2_2 eyxL_2
        have hkN2 : p1.toNatClampNeg = k2 := (by omega)
        subst hkN2
        refine lv_iload_n hx hb dX7_pass_25 rfl (lv_at hl 0 rfl) ?_
        refine lv_iload_n hx hb dX7_pass_26 rfl (lv_at hl 3 rfl) ?_
        refine W.eq (g2 := F0 m 27 ls [.int (nI p1.toNatClampNeg), .int (nI p1.toNatClampNeg)]) (congrArg (fun zz : Int32 => F0 m 27 ls [.int zz, .int (nI p1.toNatClampNeg)]) (show p1 = (nI p1.toNatClampNeg) from (inB_cl1 (b := 100) (by decide) c1).2)) ?_
        refine lv_icmp_ge (tgt := 43) hx hb dX7_pass_27 (by decide) (fun c3 => ?_) (fun c3 => ?_)
        · refine lv_iload_n hx hb dX7_pass_43 rfl (lv_at hl 1 rfl) ?_
          exact eWi hx hb hr hlocks dX7_pass_44 hS hP (by (rw [pps, if_pos c1]; first | done | rw [z2, if_pos (by assumption)] | rw [z2, if_neg (by assumption)] | rfl)) (by (rw [pps, if_pos c1]; first | done | rw [z2, if_pos (by assumption)] | rw [z2, if_neg (by assumption)] | rfl))
        · exact (up0 rfl c3).elim
      | succ j2 ih2 =>
        intro k2 hk2 x3_2 e3_2 x2_2 e2_2 yxL_2 eyxL_2  H locs hP hD hS ls hl
        subst e3_2 e2_2 eyxL_2
        have hlt2 : k2 < p1.toNatClampNeg := by omega
        have hlt : k2 < p1.toNatClampNeg := hlt2
        refine lv_iload_n hx hb dX7_pass_25 rfl (lv_at hl 0 rfl) ?_
        refine lv_iload_n hx hb dX7_pass_26 rfl (lv_at hl 3 rfl) ?_
        refine W.eq (g2 := F0 m 27 ls [.int (nI p1.toNatClampNeg), .int (nI k2)]) (congrArg (fun zz : Int32 => F0 m 27 ls [.int zz, .int (nI k2)]) (show p1 = (nI p1.toNatClampNeg) from (inB_cl1 (b := 100) (by decide) c1).2)) ?_
        refine lv_icmp_ge (tgt := 43) hx hb dX7_pass_27 (by decide) (fun c4 => ?_) (fun c4 => ?_)
        · exact (upS hk2 (Nat.lt_of_le_of_lt (inB_cl1 (b := 100) (by decide) c1).1 (by decide)) c4).elim
        · refine lv_iload_n hx hb dX7_pass_30 rfl (lv_at hl 1 rfl) ?_
          refine lv_aload_n hx hb dX7_pass_31 rfl (lv_at hl 2 rfl) ?_
          refine kVw ⟨hx, hb, hml, hown, hts⟩ (c_X7_hourOn l D Ax 0 ns fog nr nm nl ((paF Lx ns fog nr nm nl k2).1) (by assumption) (by assumption) (by assumption) (by assumption) (okS_pa b12 b60 hS9 _)) (cwV 0 hts gX7_pass_X7_hourOn rfl rfl rfl (by decide +kernel) ⟨Nat.le_of_ble_eq_true rfl, Nat.le_of_ble_eq_true rfl⟩) hK hN hP hD hS frsMod 7 0 rfl rfl rfl hl.1 (Nat.le_of_ble_eq_true rfl) ⟨Nat.zero_le _, Nat.zero_le _⟩ dX7_pass_32 (fun H locs hP hD hS => ?_) rfl
          have hP : va_P D.1 vwCl (wMod D Ax 0 ns fog nr nm nl (hoM ((paF Lx ns fog nr nm nl k2).1) ns fog nr nm nl)) H := hP
          have hD : va_D A0 (wMod D Ax 0 ns fog nr nm nl (hoM ((paF Lx ns fog nr nm nl k2).1) ns fog nr nm nl)) := hD
          refine W.eq (g2 := F0 m 35 ls [.int ((hr1 ((paF Lx ns fog nr nm nl k2).1) ns nr nm nl).2), .int ((paF Lx ns fog nr nm nl k2).2)]) rfl ?_
          refine lv_iadd hx hb dX7_pass_35 ?_
          refine lv_istore_n (lv' := [(2, .int (((paF Lx ns fog nr nm nl k2).2) + ((hr1 ((paF Lx ns fog nr nm nl k2).1) ns nr nm nl).2))), (3, .int (nI k2)), (0, .ref (Ax 0)), (1, .int p1)]) hx hb dX7_pass_36 rfl hl (by decide) rfl (fun ls hl => ?_)
          refine lv_iinc (v := ((nI k2) + 1)) (lv' := [(3, .int ((nI k2) + 1)), (2, .int (((paF Lx ns fog nr nm nl k2).2) + ((hr1 ((paF Lx ns fog nr nm nl k2).1) ns nr nm nl).2))), (0, .ref (Ax 0)), (1, .int p1)]) hx hb dX7_pass_37 hl (k := 1) rfl rfl (by decide) rfl (fun ls hl => ?_)
          refine lv_goto (tgt := 25) hx hb dX7_pass_40 (by decide) ?_
          exact ih2 (k2 + 1) (by omega) _ (nI_1 k2) _ rfl _ rfl _ _ hP hD hS ls (lv_sub hl [0, 1, 2, 3] rfl)
    exact lp2 p1.toNatClampNeg 0 (by omega) _ nI_0.symm _ rfl _ rfl _ _ hP hD hS ls (lv_sub hl [0, 1, 2, 3] rfl)
  · have c1 := z2_0.mp c1
    refine lv_aload_n hx hb dX7_pass_15 rfl (lv_at hl 0 rfl) ?_
    refine lv_iconst (v := 1) hx hb dX7_pass_16 (by decide) ?_
    refine kVw ⟨hx, hb, hml, hown, hts⟩ (c_X7_fail l D Ax 0 ns fog nr nm nl Lx 1) (cwV 1 hts gX7_pass_X7_fail rfl rfl rfl (by decide +kernel) ⟨Nat.le_of_ble_eq_true rfl, Nat.le_of_ble_eq_true rfl⟩) hK hN hP hD hS frsMod 7 0 rfl rfl rfl hl.1 (Nat.le_of_ble_eq_true rfl) ⟨Nat.zero_le _, Nat.zero_le _⟩ dX7_pass_17 (fun H locs hP hD hS => ?_) rfl
    have hP : va_P D.1 vwCl (wMod D Ax 1 ns fog nr nm nl Lx) H := hP
    have hD : va_D A0 (wMod D Ax 1 ns fog nr nm nl Lx) := hD
    refine W.eq (g2 := F0 m 20 ls [.int 0]) rfl ?_
    exact eWi hx hb hr hlocks dX7_pass_20 hS hP (by (rw [pps, if_neg c1]; first | done | rw [z2, if_pos (by assumption)] | rw [z2, if_neg (by assumption)] | rfl)) (by (rw [pps, if_neg c1]; first | done | rw [z2, if_pos (by assumption)] | rw [z2, if_neg (by assumption)] | rfl))

set_option maxHeartbeats 4000000 in
set_option maxRecDepth 100000 in
theorem c_X7_way (l : Launch) (D : GG) (Ax : Nat → Nat) (th : Int32) (ns : Nat) (fog : Int32) (nr : Nat) (nm : Nat) (nl : Nat) (Lx : Nat → Nat → Int32) (p1 : Int32) (p2 : Int32) (p3 : Int32) (b10 : ns ≤ 10) (b15 : nr ≤ 15) (b12 : nm ≤ 12) (b60 : nl ≤ 60) (hk : okR Lx nr ns) : Met l yX7_way wsX7_way ({ frames := 4, cells := 0, slots := 0, locals := 91 } : Room) (va_Pc [.ref (Ax 0), .int p1, .int p2, .int p3] (wd D (wMod D Ax th ns fog nr nm nl Lx))) (QW D (some (.int ((pwy Lx ns nr nm p1 p2 p3).1))) (wMod D Ax ((pwy Lx ns nr nm p1 p2 p3).2.1) ns fog nr nm nl ((pwy Lx ns nr nm p1 p2 p3).2.2)) (own (wMod D Ax th ns fog nr nm nl Lx))) 0 0 (own (wMod D Ax th ns fog nr nm nl Lx)) := by
  refine Met.ofW (cc := cX7_way) (maxL := 5) (ret := (some .int)) (by decide) rfl ?_
  intro p e s m args below meth c s₁ B hml hv
  obtain ⟨rfl, hP, hK, hD, hN⟩ := hv
  have hx := B.exec
  have hb := B.bytes
  have hr := B.returns
  have hts := atoms_spec (ws := wsX7_way) B.pre
  have hown : s.vm.findClass RX7 = some m.cls := findClass_of_methodNamed B.named
  have hlocks := B.notSynchronized
  have hinX7 : ∀ w ∈ u_ws RX7 TX7 14, w ∈ wsX7_way := by decide +kernel
  have hS : va_S (own (wMod D Ax th ns fog nr nm nl Lx)) s.heap s.heap [] := va_S.rf
  have hD : va_D (own (wMod D Ax th ns fog nr nm nl Lx)) (wMod D Ax th ns fog nr nm nl Lx) := toOwn hD
  generalize hAe : own (wMod D Ax th ns fog nr nm nl Lx) = A0 at hD hS ⊢
  have hl := lv_entry ([.ref (Ax 0), .int p1, .int p2, .int p3]) (n := 5) (Nat.le_of_ble_eq_true rfl)
  rw [lg_entry_eq]
  generalize (lg_sl ([.ref (Ax 0), .int p1, .int p2, .int p3]) ++ List.replicate (5 - (lg_sl ([.ref (Ax 0), .int p1, .int p2, .int p3])).length) Slot.unset).toArray = ls at hl ⊢
  have hl : lv_has ls 5 [(0, .ref (Ax 0)), (1, .int p1), (2, .int p2), (3, .int p3)] := hl
  refine lv_aload_n hx hb dX7_way_0 rfl (lv_at hl 0 rfl) ?_
  refine lv_iconst (v := 0) hx hb dX7_way_1 (by decide) ?_
  refine va_put (D := D.1) (ci := 7) (v := .int 0) (ty := .int) (C := RX7) (T := TX7) (N := 14) hx hb hts hinX7 tyX7 tyX7_ok nmX7 hown hK hP hD hS 0 rfl rfl 0 (by decide) (hts (.fieldLink RX7 34 "MountainPostModel" "thrown" "I") (List.mem_of_getElem? (i := 1) rfl)) (fun _ h9 => h9) rfl (by decide +kernel) rfl rfl (Nat.le_of_ble_eq_true rfl) dX7_way_2 (fun H locs hP hD hS => ?_)
  have hP : va_P D.1 vwCl (wMod D Ax 0 ns fog nr nm nl Lx) H := hP
  have hD : va_D A0 (wMod D Ax 0 ns fog nr nm nl Lx) := hD
  refine lv_aload_n hx hb dX7_way_5 rfl (lv_at hl 0 rfl) ?_
  refine lv_iload_n hx hb dX7_way_6 rfl (lv_at hl 1 rfl) ?_
  refine kVp ⟨hx, hb, hml, hown, hts⟩ (c_X7_isStation l D Ax 0 ns fog nr nm nl Lx p1) (cwV 1 hts gX7_way_X7_isStation rfl rfl rfl (by decide +kernel) ⟨Nat.le_of_ble_eq_true rfl, Nat.le_of_ble_eq_true rfl⟩) hK hN hP hD Sb.self 7 0 rfl rfl rfl hl.1 (Nat.le_of_ble_eq_true rfl) ⟨Nat.zero_le _, Nat.zero_le _⟩ dX7_way_7 ?_ rfl
  refine lv_if_eq (tgt := 30) hx hb dX7_way_10 (by decide) (fun c1 => ?_) (fun c1 => ?_)
  · have c1 := z2_0.mp c1
    refine lv_aload_n hx hb dX7_way_30 rfl (lv_at hl 0 rfl) ?_
    refine lv_iconst (v := 1) hx hb dX7_way_31 (by decide) ?_
    refine kVw ⟨hx, hb, hml, hown, hts⟩ (c_X7_fail l D Ax 0 ns fog nr nm nl Lx 1) (cwV 1 hts gX7_way_X7_fail rfl rfl rfl (by decide +kernel) ⟨Nat.le_of_ble_eq_true rfl, Nat.le_of_ble_eq_true rfl⟩) hK hN hP hD hS frsMod 7 0 rfl rfl rfl hl.1 (Nat.le_of_ble_eq_true rfl) ⟨Nat.zero_le _, Nat.zero_le _⟩ dX7_way_32 (fun H locs hP hD hS => ?_) rfl
    have hP : va_P D.1 vwCl (wMod D Ax 1 ns fog nr nm nl Lx) H := hP
    have hD : va_D A0 (wMod D Ax 1 ns fog nr nm nl Lx) := hD
    refine W.eq (g2 := F0 m 35 ls [.int 0]) rfl ?_
    exact eWi hx hb hr hlocks dX7_way_35 hS hP (by (rw [pwy, if_neg c1]; first | done | rw [z2, if_pos (by assumption)] | rw [z2, if_neg (by assumption)] | rfl)) (by (rw [pwy, if_neg c1]; first | done | rw [z2, if_pos (by assumption)] | rw [z2, if_neg (by assumption)] | rfl))
  · have c1 := z2_n.mp c1
    refine lv_aload_n hx hb dX7_way_13 rfl (lv_at hl 0 rfl) ?_
    refine lv_iload_n hx hb dX7_way_14 rfl (lv_at hl 2 rfl) ?_
    refine kVp ⟨hx, hb, hml, hown, hts⟩ (c_X7_isStation l D Ax 0 ns fog nr nm nl Lx p2) (cwV 1 hts gX7_way_X7_isStation rfl rfl rfl (by decide +kernel) ⟨Nat.le_of_ble_eq_true rfl, Nat.le_of_ble_eq_true rfl⟩) hK hN hP hD Sb.self 7 0 rfl rfl rfl hl.1 (Nat.le_of_ble_eq_true rfl) ⟨Nat.zero_le _, Nat.zero_le _⟩ dX7_way_15 ?_ rfl
    refine lv_if_eq (tgt := 30) hx hb dX7_way_18 (by decide) (fun c2 => ?_) (fun c2 => ?_)
    · have c2 := z2_0.mp c2
      refine lv_aload_n hx hb dX7_way_30 rfl (lv_at hl 0 rfl) ?_
      refine lv_iconst (v := 1) hx hb dX7_way_31 (by decide) ?_
      refine kVw ⟨hx, hb, hml, hown, hts⟩ (c_X7_fail l D Ax 0 ns fog nr nm nl Lx 1) (cwV 1 hts gX7_way_X7_fail rfl rfl rfl (by decide +kernel) ⟨Nat.le_of_ble_eq_true rfl, Nat.le_of_ble_eq_true rfl⟩) hK hN hP hD hS frsMod 7 0 rfl rfl rfl hl.1 (Nat.le_of_ble_eq_true rfl) ⟨Nat.zero_le _, Nat.zero_le _⟩ dX7_way_32 (fun H locs hP hD hS => ?_) rfl
      have hP : va_P D.1 vwCl (wMod D Ax 1 ns fog nr nm nl Lx) H := hP
      have hD : va_D A0 (wMod D Ax 1 ns fog nr nm nl Lx) := hD
      refine W.eq (g2 := F0 m 35 ls [.int 0]) rfl ?_
      exact eWi hx hb hr hlocks dX7_way_35 hS hP (by (rw [pwy, if_pos c1, if_neg c2]; first | done | rw [z2, if_pos (by assumption)] | rw [z2, if_neg (by assumption)] | rfl)) (by (rw [pwy, if_pos c1, if_neg c2]; first | done | rw [z2, if_pos (by assumption)] | rw [z2, if_neg (by assumption)] | rfl))
    · have c2 := z2_n.mp c2
      refine lv_iload_n hx hb dX7_way_21 rfl (lv_at hl 3 rfl) ?_
      refine lv_iconst (v := 0) hx hb dX7_way_22 (by decide) ?_
      refine lv_iconst (v := 1) hx hb dX7_way_23 (by decide) ?_
      refine kSp ⟨hx, hb, hml, hown, hts⟩ (c_X7_isIn l D p3 0 1) (va_cwS 3 hts gX7_way_X7_isIn rfl rfl rfl (by decide +kernel) ⟨Nat.le_of_ble_eq_true rfl, Nat.le_of_ble_eq_true rfl⟩) hK hN hP hD Sb.nil  rfl hl.1 (Nat.le_of_ble_eq_true rfl) ⟨Nat.zero_le _, Nat.zero_le _⟩ dX7_way_24 ?_ rfl
      refine lv_if_ne (tgt := 36) hx hb dX7_way_27 (by decide) (fun c3 => ?_) (fun c3 => ?_)
      · have c3 := z2_n.mp c3
        refine lv_aload_n hx hb dX7_way_36 rfl (lv_at hl 0 rfl) ?_
        refine kVw ⟨hx, hb, hml, hown, hts⟩ (c_X7_reckon l D Ax 0 ns fog nr nm nl Lx (by assumption) (by assumption) (by assumption) (by assumption) (by assumption)) (cwV 0 hts gX7_way_X7_reckon rfl rfl rfl (by decide +kernel) ⟨Nat.le_of_ble_eq_true rfl, Nat.le_of_ble_eq_true rfl⟩) hK hN hP hD hS frsMod 7 0 rfl rfl rfl hl.1 (Nat.le_of_ble_eq_true rfl) ⟨Nat.zero_le _, Nat.zero_le _⟩ dX7_way_37 (fun H locs hP hD hS => ?_) rfl
        have hP : va_P D.1 vwCl (wMod D Ax 0 ns fog nr nm nl (rkM Lx ns nr nm)) H := hP
        have hD : va_D A0 (wMod D Ax 0 ns fog nr nm nl (rkM Lx ns nr nm)) := hD
        refine W.eq (g2 := F0 m 40 ls []) rfl ?_
        refine lv_aload_n hx hb dX7_way_40 rfl (lv_at hl 0 rfl) ?_
        refine va_get (D := D.1) (ci := 7) (v := .ref (Ax 7)) (C := RX7) (T := TX7) (N := 14) hx hb hts hinX7 hown hK hP 0 rfl rfl 12 (by decide) (hts (.fieldLink RX7 28 "MountainPostModel" "far" "[I") (List.mem_of_getElem? (i := 2) rfl)) (fun _ h9 => h9) rfl dX7_way_41 ?_
        refine lv_bipush (v := 10) hx hb dX7_way_44 (by decide) ?_
        refine lv_iload_n hx hb dX7_way_46 rfl (lv_at hl 1 rfl) ?_
        refine lv_imul hx hb dX7_way_47 ?_
        refine lv_iload_n hx hb dX7_way_48 rfl (lv_at hl 2 rfl) ?_
        refine lv_iadd hx hb dX7_way_49 ?_
        refine va_iald (D := D.1) hx hb hK hP 7 0 rfl rfl (ixs (inB_vd (by omega) c1) (inB_vd (by omega) c2) b10) dX7_way_50 ?_
        refine W.eq (g2 := F0 m 51 ls [.int (rg 100 ((rkM Lx ns nr nm) 6) ((10 * p1) + p2))]) (congrArg (fun zz : Int32 => F0 m 51 ls [.int zz]) (show (((rkM Lx ns nr nm) 6) ((10 * p1) + p2).toNatClampNeg) = (rg 100 ((rkM Lx ns nr nm) 6) ((10 * p1) + p2)) from (rg_vp (ixs (inB_vd (by omega) c1) (inB_vd (by omega) c2) b10)).symm)) ?_
        refine lv_istore (lv' := [(4, .int (rg 100 ((rkM Lx ns nr nm) 6) ((10 * p1) + p2))), (0, .ref (Ax 0)), (1, .int p1), (2, .int p2), (3, .int p3)]) hx hb dX7_way_51 hl (by decide) rfl (fun ls hl => ?_)
        refine lv_iload_n hx hb dX7_way_53 rfl (lv_at hl 4 rfl) ?_
        refine lv_iconst (v := 1) hx hb dX7_way_54 (by decide) ?_
        refine lv_icmp_ne (tgt := 67) hx hb dX7_way_55 (by decide) (fun c4 => ?_) (fun c4 => ?_)
        · refine lv_iload hx hb dX7_way_67 (lv_at hl 0 rfl) ?_
          refine lv_ldc hx hb hown (hts (.constant RX7 137 (99999)) (List.mem_of_getElem? (i := 3) rfl)) dX7_way_69 ?_
          refine lv_icmp_lt (tgt := 78) hx hb dX7_way_71 (by decide) (fun c5 => ?_) (fun c5 => ?_)
          · refine lv_iload hx hb dX7_way_78 (lv_at hl 0 rfl) ?_
            exact eWi hx hb hr hlocks dX7_way_80 hS hP (by (rw [pwy, if_pos c1, if_pos c2, if_pos c3, if_neg c4, if_pos c5]; first | done | rw [z2, if_pos (by assumption)] | rw [z2, if_neg (by assumption)] | rfl)) (by (rw [pwy, if_pos c1, if_pos c2, if_pos c3]; first | done | rw [z2, if_pos (by assumption)] | rw [z2, if_neg (by assumption)] | rfl))
          · refine lv_iconst (v := (-1)) hx hb dX7_way_74 (by decide) ?_
            refine lv_goto (tgt := 80) hx hb dX7_way_75 (by decide) ?_
            exact eWi hx hb hr hlocks dX7_way_80 hS hP (by (rw [pwy, if_pos c1, if_pos c2, if_pos c3, if_neg c4, if_neg c5]; first | done | rw [z2, if_pos (by assumption)] | rw [z2, if_neg (by assumption)] | rfl)) (by (rw [pwy, if_pos c1, if_pos c2, if_pos c3]; first | done | rw [z2, if_pos (by assumption)] | rw [z2, if_neg (by assumption)] | rfl))
        · refine lv_aload_n hx hb dX7_way_58 rfl (lv_at hl 1 rfl) ?_
          refine lv_iload_n hx hb dX7_way_59 rfl (lv_at hl 2 rfl) ?_
          refine lv_iload_n hx hb dX7_way_60 rfl (lv_at hl 3 rfl) ?_
          refine kVp ⟨hx, hb, hml, hown, hts⟩ (c_X7_firstRoad l D Ax 0 ns fog nr nm nl (rkM Lx ns nr nm) p1 p2 (by assumption) (inB_vd (by omega) c1) (inB_vd (by omega) c2)) (cwV 2 hts gX7_way_X7_firstRoad rfl rfl rfl (by decide +kernel) ⟨Nat.le_of_ble_eq_true rfl, Nat.le_of_ble_eq_true rfl⟩) hK hN hP hD Sb.self 7 0 rfl rfl rfl hl.1 (Nat.le_of_ble_eq_true rfl) ⟨Nat.zero_le _, Nat.zero_le _⟩ dX7_way_61 ?_ rfl
          refine lv_goto (tgt := 80) hx hb dX7_way_64 (by decide) ?_
          exact eWi hx hb hr hlocks dX7_way_80 hS hP (by (rw [pwy, if_pos c1, if_pos c2, if_pos c3, if_pos c4]; first | done | rw [z2, if_pos (by assumption)] | rw [z2, if_neg (by assumption)] | rfl)) (by (rw [pwy, if_pos c1, if_pos c2, if_pos c3]; first | done | rw [z2, if_pos (by assumption)] | rw [z2, if_neg (by assumption)] | rfl))
      · have c3 := z2_0.mp c3
        refine lv_aload_n hx hb dX7_way_30 rfl (lv_at hl 0 rfl) ?_
        refine lv_iconst (v := 1) hx hb dX7_way_31 (by decide) ?_
        refine kVw ⟨hx, hb, hml, hown, hts⟩ (c_X7_fail l D Ax 0 ns fog nr nm nl Lx 1) (cwV 1 hts gX7_way_X7_fail rfl rfl rfl (by decide +kernel) ⟨Nat.le_of_ble_eq_true rfl, Nat.le_of_ble_eq_true rfl⟩) hK hN hP hD hS frsMod 7 0 rfl rfl rfl hl.1 (Nat.le_of_ble_eq_true rfl) ⟨Nat.zero_le _, Nat.zero_le _⟩ dX7_way_32 (fun H locs hP hD hS => ?_) rfl
        have hP : va_P D.1 vwCl (wMod D Ax 1 ns fog nr nm nl Lx) H := hP
        have hD : va_D A0 (wMod D Ax 1 ns fog nr nm nl Lx) := hD
        refine W.eq (g2 := F0 m 35 ls [.int 0]) rfl ?_
        exact eWi hx hb hr hlocks dX7_way_35 hS hP (by (rw [pwy, if_pos c1, if_pos c2, if_neg c3]; first | done | rw [z2, if_pos (by assumption)] | rw [z2, if_neg (by assumption)] | rfl)) (by (rw [pwy, if_pos c1, if_pos c2, if_neg c3]; first | done | rw [z2, if_pos (by assumption)] | rw [z2, if_neg (by assumption)] | rfl))

set_option maxHeartbeats 4000000 in
set_option maxRecDepth 100000 in
theorem c_X7_fire (l : Launch) (D : GG) (Ax : Nat → Nat) (th : Int32) (ns : Nat) (fog : Int32) (nr : Nat) (nm : Nat) (nl : Nat) (Lx : Nat → Nat → Int32) (p1 : Int32) (p2 : Int32) (b10 : ns ≤ 10) (b15 : nr ≤ 15) (b12 : nm ≤ 12) (b60 : nl ≤ 60) : Met l yX7_fire wsX7_fire ({ frames := 2, cells := 0, slots := 0, locals := 44 } : Room) (va_Pc [.ref (Ax 0), .int p1, .int p2] (wd D (wMod D Ax th ns fog nr nm nl Lx))) (QW D (some (.int ((pfi Lx ns fog p1 p2).1))) (wMod D Ax ((pfi Lx ns fog p1 p2).2) ns fog nr nm nl Lx) (own (wMod D Ax th ns fog nr nm nl Lx))) 0 0 (own (wMod D Ax th ns fog nr nm nl Lx)) := by
  refine Met.ofW (cc := cX7_fire) (maxL := 5) (ret := (some .int)) (by decide) rfl ?_
  intro p e s m args below meth c s₁ B hml hv
  obtain ⟨rfl, hP, hK, hD, hN⟩ := hv
  have hx := B.exec
  have hb := B.bytes
  have hr := B.returns
  have hts := atoms_spec (ws := wsX7_fire) B.pre
  have hown : s.vm.findClass RX7 = some m.cls := findClass_of_methodNamed B.named
  have hlocks := B.notSynchronized
  have hinX7 : ∀ w ∈ u_ws RX7 TX7 14, w ∈ wsX7_fire := by decide +kernel
  have hS : va_S (own (wMod D Ax th ns fog nr nm nl Lx)) s.heap s.heap [] := va_S.rf
  have hD : va_D (own (wMod D Ax th ns fog nr nm nl Lx)) (wMod D Ax th ns fog nr nm nl Lx) := toOwn hD
  generalize hAe : own (wMod D Ax th ns fog nr nm nl Lx) = A0 at hD hS ⊢
  have hl := lv_entry ([.ref (Ax 0), .int p1, .int p2]) (n := 5) (Nat.le_of_ble_eq_true rfl)
  rw [lg_entry_eq]
  generalize (lg_sl ([.ref (Ax 0), .int p1, .int p2]) ++ List.replicate (5 - (lg_sl ([.ref (Ax 0), .int p1, .int p2])).length) Slot.unset).toArray = ls at hl ⊢
  have hl : lv_has ls 5 [(0, .ref (Ax 0)), (1, .int p1), (2, .int p2)] := hl
  refine lv_aload_n hx hb dX7_fire_0 rfl (lv_at hl 0 rfl) ?_
  refine lv_iconst (v := 0) hx hb dX7_fire_1 (by decide) ?_
  refine va_put (D := D.1) (ci := 7) (v := .int 0) (ty := .int) (C := RX7) (T := TX7) (N := 14) hx hb hts hinX7 tyX7 tyX7_ok nmX7 hown hK hP hD hS 0 rfl rfl 0 (by decide) (hts (.fieldLink RX7 34 "MountainPostModel" "thrown" "I") (List.mem_of_getElem? (i := 1) rfl)) (fun _ h9 => h9) rfl (by decide +kernel) rfl rfl (Nat.le_of_ble_eq_true rfl) dX7_fire_2 (fun H locs hP hD hS => ?_)
  have hP : va_P D.1 vwCl (wMod D Ax 0 ns fog nr nm nl Lx) H := hP
  have hD : va_D A0 (wMod D Ax 0 ns fog nr nm nl Lx) := hD
  refine lv_aload_n hx hb dX7_fire_5 rfl (lv_at hl 0 rfl) ?_
  refine lv_iload_n hx hb dX7_fire_6 rfl (lv_at hl 1 rfl) ?_
  refine kVp ⟨hx, hb, hml, hown, hts⟩ (c_X7_isStation l D Ax 0 ns fog nr nm nl Lx p1) (cwV 1 hts gX7_fire_X7_isStation rfl rfl rfl (by decide +kernel) ⟨Nat.le_of_ble_eq_true rfl, Nat.le_of_ble_eq_true rfl⟩) hK hN hP hD Sb.self 7 0 rfl rfl rfl hl.1 (Nat.le_of_ble_eq_true rfl) ⟨Nat.zero_le _, Nat.zero_le _⟩ dX7_fire_7 ?_ rfl
  refine lv_if_eq (tgt := 21) hx hb dX7_fire_10 (by decide) (fun c1 => ?_) (fun c1 => ?_)
  · have c1 := z2_0.mp c1
    refine lv_aload_n hx hb dX7_fire_21 rfl (lv_at hl 0 rfl) ?_
    refine lv_iconst (v := 1) hx hb dX7_fire_22 (by decide) ?_
    refine kVw ⟨hx, hb, hml, hown, hts⟩ (c_X7_fail l D Ax 0 ns fog nr nm nl Lx 1) (cwV 1 hts gX7_fire_X7_fail rfl rfl rfl (by decide +kernel) ⟨Nat.le_of_ble_eq_true rfl, Nat.le_of_ble_eq_true rfl⟩) hK hN hP hD hS frsMod 7 0 rfl rfl rfl hl.1 (Nat.le_of_ble_eq_true rfl) ⟨Nat.zero_le _, Nat.zero_le _⟩ dX7_fire_23 (fun H locs hP hD hS => ?_) rfl
    have hP : va_P D.1 vwCl (wMod D Ax 1 ns fog nr nm nl Lx) H := hP
    have hD : va_D A0 (wMod D Ax 1 ns fog nr nm nl Lx) := hD
    refine W.eq (g2 := F0 m 26 ls [.int 0]) rfl ?_
    exact eWi hx hb hr hlocks dX7_fire_26 hS hP (by (rw [pfi, if_neg c1]; first | done | rfl)) (by (rw [pfi, if_neg c1]; first | done | rfl))
  · have c1 := z2_n.mp c1
    refine lv_aload_n hx hb dX7_fire_13 rfl (lv_at hl 0 rfl) ?_
    refine lv_iload_n hx hb dX7_fire_14 rfl (lv_at hl 2 rfl) ?_
    refine kVp ⟨hx, hb, hml, hown, hts⟩ (c_X7_isStation l D Ax 0 ns fog nr nm nl Lx p2) (cwV 1 hts gX7_fire_X7_isStation rfl rfl rfl (by decide +kernel) ⟨Nat.le_of_ble_eq_true rfl, Nat.le_of_ble_eq_true rfl⟩) hK hN hP hD Sb.self 7 0 rfl rfl rfl hl.1 (Nat.le_of_ble_eq_true rfl) ⟨Nat.zero_le _, Nat.zero_le _⟩ dX7_fire_15 ?_ rfl
    refine lv_if_ne (tgt := 27) hx hb dX7_fire_18 (by decide) (fun c2 => ?_) (fun c2 => ?_)
    · have c2 := z2_n.mp c2
      refine lv_iconst (v := 1) hx hb dX7_fire_27 (by decide) ?_
      refine lv_iload_n hx hb dX7_fire_28 rfl (lv_at hl 1 rfl) ?_
      refine lv_ishl hx hb dX7_fire_29 ?_
      refine lv_istore_n (lv' := [(3, .int ((1 : Int32) <<< (p1 &&& 31))), (0, .ref (Ax 0)), (1, .int p1), (2, .int p2)]) hx hb dX7_fire_30 rfl hl (by decide) rfl (fun ls hl => ?_)
      refine lv_iconst (v := 0) hx hb dX7_fire_31 (by decide) ?_
      refine lv_istore (lv' := [(4, .int 0), (3, .int ((1 : Int32) <<< (p1 &&& 31))), (0, .ref (Ax 0)), (1, .int p1), (2, .int p2)]) hx hb dX7_fire_32 hl (by decide) rfl (fun ls hl => ?_)
      have lp3 : ∀ (j3 : Nat) (k : Nat) (li : Int32) (hk : k + j3 = ns) (hf : fiR Lx ns fog p2 j3 k li = fiR Lx ns fog p2 ns 0 (1 <<< (p1 &&& 31))) (x4_3 : Int32) (e4_3 : x4_3 = (nI k)) (H : Heap) (locs : List Loc) (hP : va_P D.1 vwCl (wMod D Ax 0 ns fog nr nm nl Lx) H) (hD : va_D A0 (wMod D Ax 0 ns fog nr nm nl Lx)) (hS : va_S A0 s.heap H locs) (ls : Array Slot) (hl : lv_has ls 5 [(4, .int x4_3), (3, .int li), (0, .ref (Ax 0)), (1, .int p1), (2, .int p2)]), W p l e (headSpec wsX7_fire ({ frames := 2, cells := 0, slots := 0, locals := 44 } : Room)).room s m ([.ref (Ax 0), .int p1, .int p2] : List Value).toArray below meth c H locs 0 0 (MQ below (QW D (some (.int ((pfi Lx ns fog p1 p2).1))) (wMod D Ax ((pfi Lx ns fog p1 p2).2) ns fog nr nm nl Lx) A0) ([.ref (Ax 0), .int p1, .int p2] : List Value).toArray s 0 0 A0) (F0 m 34 ls []) := by
        intro j3
        induction j3 with
        | zero =>
          intro k li hk hf x4_3 e4_3 H locs hP hD hS ls hl
          subst e4_3
          refine lv_iload hx hb dX7_fire_34 (lv_at hl 0 rfl) ?_
          refine lv_aload_n hx hb dX7_fire_36 rfl (lv_at hl 2 rfl) ?_
          refine va_get (D := D.1) (ci := 7) (v := .int (nI ns)) (C := RX7) (T := TX7) (N := 14) hx hb hts hinX7 hown hK hP 0 rfl rfl 1 (by decide) (hts (.fieldLink RX7 38 "MountainPostModel" "stations" "I") (List.mem_of_getElem? (i := 2) rfl)) (fun _ h9 => h9) rfl dX7_fire_37 ?_
          refine lv_icmp_ge (tgt := 66) hx hb dX7_fire_40 (by decide) (fun c4 => ?_) (fun c4 => ?_)
          · refine lv_iload_n hx hb dX7_fire_66 rfl (lv_at hl 1 rfl) ?_
            refine lv_iload_n hx hb dX7_fire_67 rfl (lv_at hl 4 rfl) ?_
            refine kSp ⟨hx, hb, hml, hown, hts⟩ (c_X7_has l D li p2) (va_cwS 2 hts gX7_fire_X7_has rfl rfl rfl (by decide +kernel) ⟨Nat.le_of_ble_eq_true rfl, Nat.le_of_ble_eq_true rfl⟩) hK hN hP hD Sb.nil  rfl hl.1 (Nat.le_of_ble_eq_true rfl) ⟨Nat.zero_le _, Nat.zero_le _⟩ dX7_fire_68 ?_ rfl
            refine lv_if_eq (tgt := 81) hx hb dX7_fire_71 (by decide) (fun c5 => ?_) (fun c5 => ?_)
            · have c5 := z2_0.mp c5
              refine lv_iconst (v := (-1)) hx hb dX7_fire_81 (by decide) ?_
              exact eWi hx hb hr hlocks dX7_fire_82 hS hP (by (rw [pfi, if_pos c1, if_pos c2, ← hf, fiR, if_neg c5]; first | done | rfl)) (by (rw [pfi, if_pos c1, if_pos c2]; first | done | rfl))
            · have c5 := z2_n.mp c5
              refine lv_aload_n hx hb dX7_fire_74 rfl (lv_at hl 2 rfl) ?_
              refine va_get (D := D.1) (ci := 7) (v := .int (nI ns)) (C := RX7) (T := TX7) (N := 14) hx hb hts hinX7 hown hK hP 0 rfl rfl 1 (by decide) (hts (.fieldLink RX7 38 "MountainPostModel" "stations" "I") (List.mem_of_getElem? (i := 2) rfl)) (fun _ h9 => h9) rfl dX7_fire_75 ?_
              refine lv_goto (tgt := 82) hx hb dX7_fire_78 (by decide) ?_
              exact eWi hx hb hr hlocks dX7_fire_82 hS hP (by (rw [pfi, if_pos c1, if_pos c2, ← hf, fiR, if_pos c5]; first | done | rfl)) (by (rw [pfi, if_pos c1, if_pos c2]; first | done | rfl))
          · exact (up0 hk c4).elim
        | succ j3 ih3 =>
          intro k li hk hf x4_3 e4_3 H locs hP hD hS ls hl
          subst e4_3
          refine lv_iload hx hb dX7_fire_34 (lv_at hl 0 rfl) ?_
          refine lv_aload_n hx hb dX7_fire_36 rfl (lv_at hl 2 rfl) ?_
          refine va_get (D := D.1) (ci := 7) (v := .int (nI ns)) (C := RX7) (T := TX7) (N := 14) hx hb hts hinX7 hown hK hP 0 rfl rfl 1 (by decide) (hts (.fieldLink RX7 38 "MountainPostModel" "stations" "I") (List.mem_of_getElem? (i := 2) rfl)) (fun _ h9 => h9) rfl dX7_fire_37 ?_
          refine lv_icmp_ge (tgt := 66) hx hb dX7_fire_40 (by decide) (fun c6 => ?_) (fun c6 => ?_)
          · exact (upS hk (by omega) c6).elim
          · refine lv_iload_n hx hb dX7_fire_43 rfl (lv_at hl 1 rfl) ?_
            refine lv_iload_n hx hb dX7_fire_44 rfl (lv_at hl 4 rfl) ?_
            refine kSp ⟨hx, hb, hml, hown, hts⟩ (c_X7_has l D li p2) (va_cwS 2 hts gX7_fire_X7_has rfl rfl rfl (by decide +kernel) ⟨Nat.le_of_ble_eq_true rfl, Nat.le_of_ble_eq_true rfl⟩) hK hN hP hD Sb.nil  rfl hl.1 (Nat.le_of_ble_eq_true rfl) ⟨Nat.zero_le _, Nat.zero_le _⟩ dX7_fire_45 ?_ rfl
            refine lv_if_eq (tgt := 54) hx hb dX7_fire_48 (by decide) (fun c7 => ?_) (fun c7 => ?_)
            · have c7 := z2_0.mp c7
              refine lv_aload_n hx hb dX7_fire_54 rfl (lv_at hl 2 rfl) ?_
              refine lv_iload_n hx hb dX7_fire_55 rfl (lv_at hl 1 rfl) ?_
              refine kVp ⟨hx, hb, hml, hown, hts⟩ (c_X7_handOn l D Ax 0 ns fog nr nm nl Lx li (by assumption)) (cwV 1 hts gX7_fire_X7_handOn rfl rfl rfl (by decide +kernel) ⟨Nat.le_of_ble_eq_true rfl, Nat.le_of_ble_eq_true rfl⟩) hK hN hP hD Sb.self 7 0 rfl rfl rfl hl.1 (Nat.le_of_ble_eq_true rfl) ⟨Nat.zero_le _, Nat.zero_le _⟩ dX7_fire_56 ?_ rfl
              refine lv_istore_n (lv' := [(3, .int (litM Lx ns fog li)), (4, .int (nI k)), (0, .ref (Ax 0)), (1, .int p1), (2, .int p2)]) hx hb dX7_fire_59 rfl hl (by decide) rfl (fun ls hl => ?_)
              refine lv_iinc (v := ((nI k) + 1)) (lv' := [(4, .int ((nI k) + 1)), (3, .int (litM Lx ns fog li)), (0, .ref (Ax 0)), (1, .int p1), (2, .int p2)]) hx hb dX7_fire_60 hl (k := 1) rfl rfl (by decide) rfl (fun ls hl => ?_)
              refine lv_goto (tgt := 34) hx hb dX7_fire_63 (by decide) ?_
              exact ih3 (k + 1) (litM Lx ns fog li) (by omega) (by rw [← hf, fiR, if_neg c7]) _ (nI_1 k) _ _ hP hD hS ls (lv_sub hl [0, 1, 2, 3, 4] rfl)
            · have c7 := z2_n.mp c7
              refine lv_iload hx hb dX7_fire_51 (lv_at hl 0 rfl) ?_
              exact eWi hx hb hr hlocks dX7_fire_53 hS hP (by (rw [pfi, if_pos c1, if_pos c2, ← hf, fiR, if_pos c7]; first | done | rfl)) (by (rw [pfi, if_pos c1, if_pos c2]; first | done | rfl))
      exact lp3 ns 0 (1 <<< (p1 &&& 31)) (by omega) rfl _ nI_0.symm _ _ hP hD hS ls (lv_sub hl [0, 1, 2, 3, 4] rfl)
    · have c2 := z2_0.mp c2
      refine lv_aload_n hx hb dX7_fire_21 rfl (lv_at hl 0 rfl) ?_
      refine lv_iconst (v := 1) hx hb dX7_fire_22 (by decide) ?_
      refine kVw ⟨hx, hb, hml, hown, hts⟩ (c_X7_fail l D Ax 0 ns fog nr nm nl Lx 1) (cwV 1 hts gX7_fire_X7_fail rfl rfl rfl (by decide +kernel) ⟨Nat.le_of_ble_eq_true rfl, Nat.le_of_ble_eq_true rfl⟩) hK hN hP hD hS frsMod 7 0 rfl rfl rfl hl.1 (Nat.le_of_ble_eq_true rfl) ⟨Nat.zero_le _, Nat.zero_le _⟩ dX7_fire_23 (fun H locs hP hD hS => ?_) rfl
      have hP : va_P D.1 vwCl (wMod D Ax 1 ns fog nr nm nl Lx) H := hP
      have hD : va_D A0 (wMod D Ax 1 ns fog nr nm nl Lx) := hD
      refine W.eq (g2 := F0 m 26 ls [.int 0]) rfl ?_
      exact eWi hx hb hr hlocks dX7_fire_26 hS hP (by (rw [pfi, if_pos c1, if_neg c2]; first | done | rfl)) (by (rw [pfi, if_pos c1, if_neg c2]; first | done | rfl))
