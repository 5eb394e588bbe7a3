set_option maxHeartbeats 4000000 in
set_option maxRecDepth 100000 in
theorem c_X7_addStation (l : Launch) (D : GG) (Ax : Nat → Nat) (th : Int32) (ns : Nat) (fog : Int32) (nr : Nat) (nm : Nat) (nl : Nat) (Lx : Nat → Nat → Int32) (p1 : Int32) (b10 : ns ≤ 10) (b15 : nr ≤ 15) (b12 : nm ≤ 12) (b60 : nl ≤ 60) : Met l yX7_addStation wsX7_addStation ({ frames := 1, cells := 0, slots := 0, locals := 22 } : Room) (va_Pc [.ref (Ax 0), .int p1] (wd D (wMod D Ax th ns fog nr nm nl Lx))) (QW D (some (.int ((pas Lx ns p1).1))) (wMod D Ax ((pas Lx ns p1).2.1) ((pas Lx ns p1).2.2.1) fog nr nm nl ((pas Lx ns p1).2.2.2)) (own (wMod D Ax th ns fog nr nm nl Lx))) 0 0 (own (wMod D Ax th ns fog nr nm nl Lx)) := by
  refine Met.ofW (cc := cX7_addStation) (maxL := 2) (ret := (some .int)) (by decide) rfl ?_
  intro p e s m args below meth c s₁ B hml hv
  obtain ⟨rfl, hP, hK, hD, hN⟩ := hv
  have hx := B.exec
  have hb := B.bytes
  have hr := B.returns
  have hts := atoms_spec (ws := wsX7_addStation) B.pre
  have hown : s.vm.findClass RX7 = some m.cls := findClass_of_methodNamed B.named
  have hlocks := B.notSynchronized
  have hinX7 : ∀ w ∈ u_ws RX7 TX7 14, w ∈ wsX7_addStation := by decide +kernel
  have hS : va_S (own (wMod D Ax th ns fog nr nm nl Lx)) s.heap s.heap [] := va_S.rf
  have hD : va_D (own (wMod D Ax th ns fog nr nm nl Lx)) (wMod D Ax th ns fog nr nm nl Lx) := toOwn hD
  generalize hAe : own (wMod D Ax th ns fog nr nm nl Lx) = A0 at hD hS ⊢
  have hl := lv_entry ([.ref (Ax 0), .int p1]) (n := 2) (Nat.le_of_ble_eq_true rfl)
  rw [lg_entry_eq]
  generalize (lg_sl ([.ref (Ax 0), .int p1]) ++ List.replicate (2 - (lg_sl ([.ref (Ax 0), .int p1])).length) Slot.unset).toArray = ls at hl ⊢
  have hl : lv_has ls 2 [(0, .ref (Ax 0)), (1, .int p1)] := hl
  refine lv_aload_n hx hb dX7_addStation_0 rfl (lv_at hl 0 rfl) ?_
  refine lv_iconst (v := 0) hx hb dX7_addStation_1 (by decide) ?_
  refine va_put (D := D.1) (ci := 7) (v := .int 0) (ty := .int) (C := RX7) (T := TX7) (N := 14) hx hb hts hinX7 tyX7 tyX7_ok nmX7 hown hK hP hD hS 0 rfl rfl 0 (by decide) (hts (.fieldLink RX7 34 "MountainPostModel" "thrown" "I") (List.mem_of_getElem? (i := 1) rfl)) (fun _ h9 => h9) rfl (by decide +kernel) rfl rfl (Nat.le_of_ble_eq_true rfl) dX7_addStation_2 (fun H locs hP hD hS => ?_)
  have hP : va_P D.1 vwCl (wMod D Ax 0 ns fog nr nm nl Lx) H := hP
  have hD : va_D A0 (wMod D Ax 0 ns fog nr nm nl Lx) := hD
  refine lv_iload_n hx hb dX7_addStation_5 rfl (lv_at hl 1 rfl) ?_
  refine lv_iconst (v := 0) hx hb dX7_addStation_6 (by decide) ?_
  refine lv_sipush (v := 4000) hx hb dX7_addStation_7 (by decide) ?_
  refine kSp ⟨hx, hb, hml, hown, hts⟩ (c_X7_isIn l D p1 0 4000) (va_cwS 3 hts gX7_addStation_X7_isIn rfl rfl rfl (by decide +kernel) ⟨Nat.le_of_ble_eq_true rfl, Nat.le_of_ble_eq_true rfl⟩) hK hN hP hD Sb.nil  rfl hl.1 (Nat.le_of_ble_eq_true rfl) ⟨Nat.zero_le _, Nat.zero_le _⟩ dX7_addStation_10 ?_ rfl
  refine lv_if_ne (tgt := 22) hx hb dX7_addStation_13 (by decide) (fun c1 => ?_) (fun c1 => ?_)
  · have c1 := z2_n.mp c1
    refine lv_aload_n hx hb dX7_addStation_22 rfl (lv_at hl 0 rfl) ?_
    refine va_get (D := D.1) (ci := 7) (v := .int (nI ns)) (C := RX7) (T := TX7) (N := 14) hx hb hts hinX7 hown hK hP 0 rfl rfl 1 (by decide) (hts (.fieldLink RX7 38 "MountainPostModel" "stations" "I") (List.mem_of_getElem? (i := 2) rfl)) (fun _ h9 => h9) rfl dX7_addStation_23 ?_
    refine lv_bipush (v := 10) hx hb dX7_addStation_26 (by decide) ?_
    refine lv_icmp_ne (tgt := 37) hx hb dX7_addStation_28 (by decide) (fun c2 => ?_) (fun c2 => ?_)
    · refine lv_aload_n hx hb dX7_addStation_37 rfl (lv_at hl 0 rfl) ?_
      refine va_get (D := D.1) (ci := 7) (v := .ref (Ax 1)) (C := RX7) (T := TX7) (N := 14) hx hb hts hinX7 hown hK hP 0 rfl rfl 2 (by decide) (hts (.fieldLink RX7 9 "MountainPostModel" "heights" "[I") (List.mem_of_getElem? (i := 3) rfl)) (fun _ h9 => h9) rfl dX7_addStation_38 ?_
      refine lv_aload_n hx hb dX7_addStation_41 rfl (lv_at hl 0 rfl) ?_
      refine va_get (D := D.1) (ci := 7) (v := .int (nI ns)) (C := RX7) (T := TX7) (N := 14) hx hb hts hinX7 hown hK hP 0 rfl rfl 1 (by decide) (hts (.fieldLink RX7 38 "MountainPostModel" "stations" "I") (List.mem_of_getElem? (i := 2) rfl)) (fun _ h9 => h9) rfl dX7_addStation_42 ?_
      refine lv_iload_n hx hb dX7_addStation_45 rfl (lv_at hl 1 rfl) ?_
      refine va_iast (D := D.1) hx hb hK hP hD hS 1 0 rfl rfl (vp_in_nI (by have : ns ≠ 10 := fun q => c2 (by rw [q]; rfl); omega) (by decide)) dX7_addStation_46 (fun H locs hP hD hS => ?_)
      have hP : va_P D.1 vwCl (wMod D Ax 0 ns fog nr nm nl (sr Lx 0 (upd (Lx 0) (nI ns).toNatClampNeg p1))) H := hP
      have hD : va_D A0 (wMod D Ax 0 ns fog nr nm nl (sr Lx 0 (upd (Lx 0) (nI ns).toNatClampNeg p1))) := hD
      rw [← rs_vp (n := 10) (f := (Lx 0)) (x := (nI ns)) (v := p1) (vp_in_nI (by have : ns ≠ 10 := fun q => c2 (by rw [q]; rfl); omega) (by decide))] at hP hD
      refine lv_aload_n hx hb dX7_addStation_47 rfl (lv_at hl 0 rfl) ?_
      refine lv_dup hx hb dX7_addStation_48 rfl ?_
      refine va_get (D := D.1) (ci := 7) (v := .int (nI ns)) (C := RX7) (T := TX7) (N := 14) hx hb hts hinX7 hown hK hP 0 rfl rfl 1 (by decide) (hts (.fieldLink RX7 38 "MountainPostModel" "stations" "I") (List.mem_of_getElem? (i := 2) rfl)) (fun _ h9 => h9) rfl dX7_addStation_49 ?_
      refine lv_iconst (v := 1) hx hb dX7_addStation_52 (by decide) ?_
      refine lv_iadd hx hb dX7_addStation_53 ?_
      refine W.eq (g2 := F0 m 54 ls [.int (nI (ns + 1)), .ref (Ax 0)]) (by rw [show ((nI ns) + 1) = nI (ns + 1) from nI_1 ns]) ?_
      refine va_put (D := D.1) (ci := 7) (v := .int (nI (ns + 1))) (ty := .int) (C := RX7) (T := TX7) (N := 14) hx hb hts hinX7 tyX7 tyX7_ok nmX7 hown hK hP hD hS 0 rfl rfl 1 (by decide) (hts (.fieldLink RX7 38 "MountainPostModel" "stations" "I") (List.mem_of_getElem? (i := 2) rfl)) (fun _ h9 => h9) rfl (by decide +kernel) rfl rfl (Nat.le_of_ble_eq_true rfl) dX7_addStation_54 (fun H locs hP hD hS => ?_)
      have hP : va_P D.1 vwCl (wMod D Ax 0 (ns + 1) fog nr nm nl (sr Lx 0 (rs 10 (Lx 0) (nI ns) p1))) H := hP
      have hD : va_D A0 (wMod D Ax 0 (ns + 1) fog nr nm nl (sr Lx 0 (rs 10 (Lx 0) (nI ns) p1))) := hD
      refine lv_aload_n hx hb dX7_addStation_57 rfl (lv_at hl 0 rfl) ?_
      refine va_get (D := D.1) (ci := 7) (v := .int (nI (ns + 1))) (C := RX7) (T := TX7) (N := 14) hx hb hts hinX7 hown hK hP 0 rfl rfl 1 (by decide) (hts (.fieldLink RX7 38 "MountainPostModel" "stations" "I") (List.mem_of_getElem? (i := 2) rfl)) (fun _ h9 => h9) rfl dX7_addStation_58 ?_
      refine lv_iconst (v := 1) hx hb dX7_addStation_61 (by decide) ?_
      refine lv_isub hx hb dX7_addStation_62 ?_
      rw [show ((nI (ns + 1)) - 1) = (nI ns) from nI_pred ns]
      exact eWi hx hb hr hlocks dX7_addStation_63 hS hP (by (rw [pas, if_pos c1, if_neg c2]; first | done | rw [z2, if_pos (by assumption)] | rw [z2, if_neg (by assumption)] | rfl)) (by (rw [pas, if_pos c1, if_neg c2]; first | done | rw [z2, if_pos (by assumption)] | rw [z2, if_neg (by assumption)] | rfl))
    · refine lv_aload_n hx hb dX7_addStation_31 rfl (lv_at hl 0 rfl) ?_
      refine lv_iconst (v := 2) hx hb dX7_addStation_32 (by decide) ?_
      refine kVw ⟨hx, hb, hml, hown, hts⟩ (c_X7_fail l D Ax 0 ns fog nr nm nl Lx 2) (cwV 1 hts gX7_addStation_X7_fail rfl rfl rfl (by decide +kernel) ⟨Nat.le_of_ble_eq_true rfl, Nat.le_of_ble_eq_true rfl⟩) hK hN hP hD hS frsMod 7 0 rfl rfl rfl hl.1 (Nat.le_of_ble_eq_true rfl) ⟨Nat.zero_le _, Nat.zero_le _⟩ dX7_addStation_33 (fun H locs hP hD hS => ?_) rfl
      have hP : va_P D.1 vwCl (wMod D Ax 2 ns fog nr nm nl Lx) H := hP
      have hD : va_D A0 (wMod D Ax 2 ns fog nr nm nl Lx) := hD
      refine W.eq (g2 := F0 m 36 ls [.int 0]) rfl ?_
      exact eWi hx hb hr hlocks dX7_addStation_36 hS hP (by (rw [pas, if_pos c1, if_pos c2]; first | done | rw [z2, if_pos (by assumption)] | rw [z2, if_neg (by assumption)] | rfl)) (by (rw [pas, if_pos c1, if_pos c2]; first | done | rw [z2, if_pos (by assumption)] | rw [z2, if_neg (by assumption)] | rfl))
  · have c1 := z2_0.mp c1
    refine lv_aload_n hx hb dX7_addStation_16 rfl (lv_at hl 0 rfl) ?_
    refine lv_iconst (v := 1) hx hb dX7_addStation_17 (by decide) ?_
    refine kVw ⟨hx, hb, hml, hown, hts⟩ (c_X7_fail l D Ax 0 ns fog nr nm nl Lx 1) (cwV 1 hts gX7_addStation_X7_fail rfl rfl rfl (by decide +kernel) ⟨Nat.le_of_ble_eq_true rfl, Nat.le_of_ble_eq_true rfl⟩) hK hN hP hD hS frsMod 7 0 rfl rfl rfl hl.1 (Nat.le_of_ble_eq_true rfl) ⟨Nat.zero_le _, Nat.zero_le _⟩ dX7_addStation_18 (fun H locs hP hD hS => ?_) rfl
    have hP : va_P D.1 vwCl (wMod D Ax 1 ns fog nr nm nl Lx) H := hP
    have hD : va_D A0 (wMod D Ax 1 ns fog nr nm nl Lx) := hD
    refine W.eq (g2 := F0 m 21 ls [.int 0]) rfl ?_
    exact eWi hx hb hr hlocks dX7_addStation_21 hS hP (by (rw [pas, if_neg c1]; first | done | rw [z2, if_pos (by assumption)] | rw [z2, if_neg (by assumption)] | rfl)) (by (rw [pas, if_neg c1]; first | done | rw [z2, if_pos (by assumption)] | rw [z2, if_neg (by assumption)] | rfl))

set_option maxHeartbeats 4000000 in
set_option maxRecDepth 100000 in
theorem c_X7_setSight (l : Launch) (D : GG) (Ax : Nat → Nat) (th : Int32) (ns : Nat) (fog : Int32) (nr : Nat) (nm : Nat) (nl : Nat) (Lx : Nat → Nat → Int32) (p1 : Int32) (p2 : Int32) (p3 : Int32) (b10 : ns ≤ 10) (b15 : nr ≤ 15) (b12 : nm ≤ 12) (b60 : nl ≤ 60) : Met l yX7_setSight wsX7_setSight ({ frames := 2, cells := 0, slots := 0, locals := 43 } : Room) (va_Pc [.ref (Ax 0), .int p1, .int p2, .int p3] (wd D (wMod D Ax th ns fog nr nm nl Lx))) (QW D (some (.int ((pss Lx ns p1 p2 p3).1))) (wMod D Ax ((pss Lx ns p1 p2 p3).2.1) ns fog nr nm nl ((pss Lx ns p1 p2 p3).2.2)) (own (wMod D Ax th ns fog nr nm nl Lx))) 0 0 (own (wMod D Ax th ns fog nr nm nl Lx)) := by
  refine Met.ofW (cc := cX7_setSight) (maxL := 4) (ret := (some .int)) (by decide) rfl ?_
  intro p e s m args below meth c s₁ B hml hv
  obtain ⟨rfl, hP, hK, hD, hN⟩ := hv
  have hx := B.exec
  have hb := B.bytes
  have hr := B.returns
  have hts := atoms_spec (ws := wsX7_setSight) B.pre
  have hown : s.vm.findClass RX7 = some m.cls := findClass_of_methodNamed B.named
  have hlocks := B.notSynchronized
  have hinX7 : ∀ w ∈ u_ws RX7 TX7 14, w ∈ wsX7_setSight := by decide +kernel
  have hS : va_S (own (wMod D Ax th ns fog nr nm nl Lx)) s.heap s.heap [] := va_S.rf
  have hD : va_D (own (wMod D Ax th ns fog nr nm nl Lx)) (wMod D Ax th ns fog nr nm nl Lx) := toOwn hD
  generalize hAe : own (wMod D Ax th ns fog nr nm nl Lx) = A0 at hD hS ⊢
  have hl := lv_entry ([.ref (Ax 0), .int p1, .int p2, .int p3]) (n := 4) (Nat.le_of_ble_eq_true rfl)
  rw [lg_entry_eq]
  generalize (lg_sl ([.ref (Ax 0), .int p1, .int p2, .int p3]) ++ List.replicate (4 - (lg_sl ([.ref (Ax 0), .int p1, .int p2, .int p3])).length) Slot.unset).toArray = ls at hl ⊢
  have hl : lv_has ls 4 [(0, .ref (Ax 0)), (1, .int p1), (2, .int p2), (3, .int p3)] := hl
  refine lv_aload_n hx hb dX7_setSight_0 rfl (lv_at hl 0 rfl) ?_
  refine lv_iconst (v := 0) hx hb dX7_setSight_1 (by decide) ?_
  refine va_put (D := D.1) (ci := 7) (v := .int 0) (ty := .int) (C := RX7) (T := TX7) (N := 14) hx hb hts hinX7 tyX7 tyX7_ok nmX7 hown hK hP hD hS 0 rfl rfl 0 (by decide) (hts (.fieldLink RX7 34 "MountainPostModel" "thrown" "I") (List.mem_of_getElem? (i := 1) rfl)) (fun _ h9 => h9) rfl (by decide +kernel) rfl rfl (Nat.le_of_ble_eq_true rfl) dX7_setSight_2 (fun H locs hP hD hS => ?_)
  have hP : va_P D.1 vwCl (wMod D Ax 0 ns fog nr nm nl Lx) H := hP
  have hD : va_D A0 (wMod D Ax 0 ns fog nr nm nl Lx) := hD
  refine lv_aload_n hx hb dX7_setSight_5 rfl (lv_at hl 0 rfl) ?_
  refine lv_iload_n hx hb dX7_setSight_6 rfl (lv_at hl 1 rfl) ?_
  refine kVp ⟨hx, hb, hml, hown, hts⟩ (c_X7_isStation l D Ax 0 ns fog nr nm nl Lx p1) (cwV 1 hts gX7_setSight_X7_isStation rfl rfl rfl (by decide +kernel) ⟨Nat.le_of_ble_eq_true rfl, Nat.le_of_ble_eq_true rfl⟩) hK hN hP hD Sb.self 7 0 rfl rfl rfl hl.1 (Nat.le_of_ble_eq_true rfl) ⟨Nat.zero_le _, Nat.zero_le _⟩ dX7_setSight_7 ?_ rfl
  refine lv_if_eq (tgt := 21) hx hb dX7_setSight_10 (by decide) (fun c1 => ?_) (fun c1 => ?_)
  · have c1 := z2_0.mp c1
    refine lv_aload_n hx hb dX7_setSight_21 rfl (lv_at hl 0 rfl) ?_
    refine lv_iconst (v := 1) hx hb dX7_setSight_22 (by decide) ?_
    refine kVw ⟨hx, hb, hml, hown, hts⟩ (c_X7_fail l D Ax 0 ns fog nr nm nl Lx 1) (cwV 1 hts gX7_setSight_X7_fail rfl rfl rfl (by decide +kernel) ⟨Nat.le_of_ble_eq_true rfl, Nat.le_of_ble_eq_true rfl⟩) hK hN hP hD hS frsMod 7 0 rfl rfl rfl hl.1 (Nat.le_of_ble_eq_true rfl) ⟨Nat.zero_le _, Nat.zero_le _⟩ dX7_setSight_23 (fun H locs hP hD hS => ?_) rfl
    have hP : va_P D.1 vwCl (wMod D Ax 1 ns fog nr nm nl Lx) H := hP
    have hD : va_D A0 (wMod D Ax 1 ns fog nr nm nl Lx) := hD
    refine W.eq (g2 := F0 m 26 ls [.int 0]) rfl ?_
    exact eWi hx hb hr hlocks dX7_setSight_26 hS hP (by (rw [pss, if_neg c1]; first | done | rfl)) (by (rw [pss, if_neg c1]; first | done | rfl))
  · have c1 := z2_n.mp c1
    refine lv_aload_n hx hb dX7_setSight_13 rfl (lv_at hl 0 rfl) ?_
    refine lv_iload_n hx hb dX7_setSight_14 rfl (lv_at hl 2 rfl) ?_
    refine kVp ⟨hx, hb, hml, hown, hts⟩ (c_X7_isStation l D Ax 0 ns fog nr nm nl Lx p2) (cwV 1 hts gX7_setSight_X7_isStation rfl rfl rfl (by decide +kernel) ⟨Nat.le_of_ble_eq_true rfl, Nat.le_of_ble_eq_true rfl⟩) hK hN hP hD Sb.self 7 0 rfl rfl rfl hl.1 (Nat.le_of_ble_eq_true rfl) ⟨Nat.zero_le _, Nat.zero_le _⟩ dX7_setSight_15 ?_ rfl
    refine lv_if_ne (tgt := 27) hx hb dX7_setSight_18 (by decide) (fun c2 => ?_) (fun c2 => ?_)
    · have c2 := z2_n.mp c2
      refine lv_iload_n hx hb dX7_setSight_27 rfl (lv_at hl 1 rfl) ?_
      refine lv_iload_n hx hb dX7_setSight_28 rfl (lv_at hl 2 rfl) ?_
      refine lv_icmp_ne (tgt := 38) hx hb dX7_setSight_29 (by decide) (fun c3 => ?_) (fun c3 => ?_)
      · refine lv_aload_n hx hb dX7_setSight_38 rfl (lv_at hl 0 rfl) ?_
        refine va_get (D := D.1) (ci := 7) (v := .ref (Ax 2)) (C := RX7) (T := TX7) (N := 14) hx hb hts hinX7 hown hK hP 0 rfl rfl 3 (by decide) (hts (.fieldLink RX7 13 "MountainPostModel" "sight" "[I") (List.mem_of_getElem? (i := 2) rfl)) (fun _ h9 => h9) rfl dX7_setSight_39 ?_
        refine lv_iload_n hx hb dX7_setSight_42 rfl (lv_at hl 1 rfl) ?_
        refine lv_aload_n hx hb dX7_setSight_43 rfl (lv_at hl 0 rfl) ?_
        refine va_get (D := D.1) (ci := 7) (v := .ref (Ax 2)) (C := RX7) (T := TX7) (N := 14) hx hb hts hinX7 hown hK hP 0 rfl rfl 3 (by decide) (hts (.fieldLink RX7 13 "MountainPostModel" "sight" "[I") (List.mem_of_getElem? (i := 2) rfl)) (fun _ h9 => h9) rfl dX7_setSight_44 ?_
        refine lv_iload_n hx hb dX7_setSight_47 rfl (lv_at hl 1 rfl) ?_
        refine va_iald (D := D.1) hx hb hK hP 2 0 rfl rfl (vd_in (inB_vd (by omega) c1) b10 (by decide)) dX7_setSight_48 ?_
        refine W.eq (g2 := F0 m 49 ls [.int (rg 10 (Lx 1) p1), .int p1, .ref (Ax 2)]) (congrArg (fun zz : Int32 => F0 m 49 ls [.int zz, .int p1, .ref (Ax 2)]) (show ((Lx 1) p1.toNatClampNeg) = (rg 10 (Lx 1) p1) from (rg_vp (vd_in (inB_vd (by omega) c1) b10 (by decide))).symm)) ?_
        refine lv_iconst (v := 1) hx hb dX7_setSight_49 (by decide) ?_
        refine lv_iload_n hx hb dX7_setSight_50 rfl (lv_at hl 2 rfl) ?_
        refine lv_ishl hx hb dX7_setSight_51 ?_
        refine lv_iconst (v := (-1)) hx hb dX7_setSight_52 (by decide) ?_
        refine lv_ixor hx hb dX7_setSight_53 ?_
        refine lv_iand hx hb dX7_setSight_54 ?_
        refine lv_iload_n hx hb dX7_setSight_55 rfl (lv_at hl 3 rfl) ?_
        refine lv_if_eq (tgt := 65) hx hb dX7_setSight_56 (by decide) (fun c4 => ?_) (fun c4 => ?_)
        · refine lv_iconst (v := 0) hx hb dX7_setSight_65 (by decide) ?_
          refine lv_ior hx hb dX7_setSight_66 ?_
          refine va_iast (D := D.1) hx hb hK hP hD hS 2 0 rfl rfl (vd_in (inB_vd (by omega) c1) b10 (by decide)) dX7_setSight_67 (fun H locs hP hD hS => ?_)
          have hP : va_P D.1 vwCl (wMod D Ax 0 ns fog nr nm nl (sr Lx 1 (upd (Lx 1) p1.toNatClampNeg (((rg 10 (Lx 1) p1) &&& (((1 : Int32) <<< (p2 &&& 31)) ^^^ (-1))) ||| 0)))) H := hP
          have hD : va_D A0 (wMod D Ax 0 ns fog nr nm nl (sr Lx 1 (upd (Lx 1) p1.toNatClampNeg (((rg 10 (Lx 1) p1) &&& (((1 : Int32) <<< (p2 &&& 31)) ^^^ (-1))) ||| 0)))) := hD
          rw [← rs_vp (n := 10) (f := (Lx 1)) (x := p1) (v := (((rg 10 (Lx 1) p1) &&& (((1 : Int32) <<< (p2 &&& 31)) ^^^ (-1))) ||| 0)) (vd_in (inB_vd (by omega) c1) b10 (by decide))] at hP hD
          refine lv_aload_n hx hb dX7_setSight_68 rfl (lv_at hl 0 rfl) ?_
          refine va_get (D := D.1) (ci := 7) (v := .ref (Ax 2)) (C := RX7) (T := TX7) (N := 14) hx hb hts hinX7 hown hK hP 0 rfl rfl 3 (by decide) (hts (.fieldLink RX7 13 "MountainPostModel" "sight" "[I") (List.mem_of_getElem? (i := 2) rfl)) (fun _ h9 => h9) rfl dX7_setSight_69 ?_
          refine lv_iload_n hx hb dX7_setSight_72 rfl (lv_at hl 2 rfl) ?_
          refine lv_aload_n hx hb dX7_setSight_73 rfl (lv_at hl 0 rfl) ?_
          refine va_get (D := D.1) (ci := 7) (v := .ref (Ax 2)) (C := RX7) (T := TX7) (N := 14) hx hb hts hinX7 hown hK hP 0 rfl rfl 3 (by decide) (hts (.fieldLink RX7 13 "MountainPostModel" "sight" "[I") (List.mem_of_getElem? (i := 2) rfl)) (fun _ h9 => h9) rfl dX7_setSight_74 ?_
          refine lv_iload_n hx hb dX7_setSight_77 rfl (lv_at hl 2 rfl) ?_
          refine va_iald (D := D.1) hx hb hK hP 2 0 rfl rfl (vd_in (inB_vd (by omega) c2) b10 (by decide)) dX7_setSight_78 ?_
          refine W.eq (g2 := F0 m 79 ls [.int (rg 10 (rs 10 (Lx 1) p1 (((rg 10 (Lx 1) p1) &&& (((1 : Int32) <<< (p2 &&& 31)) ^^^ (-1))) ||| 0)) p2), .int p2, .ref (Ax 2)]) (congrArg (fun zz : Int32 => F0 m 79 ls [.int zz, .int p2, .ref (Ax 2)]) (show ((rs 10 (Lx 1) p1 (((rg 10 (Lx 1) p1) &&& (((1 : Int32) <<< (p2 &&& 31)) ^^^ (-1))) ||| 0)) p2.toNatClampNeg) = (rg 10 (rs 10 (Lx 1) p1 (((rg 10 (Lx 1) p1) &&& (((1 : Int32) <<< (p2 &&& 31)) ^^^ (-1))) ||| 0)) p2) from (rg_vp (vd_in (inB_vd (by omega) c2) b10 (by decide))).symm)) ?_
          refine lv_iconst (v := 1) hx hb dX7_setSight_79 (by decide) ?_
          refine lv_iload_n hx hb dX7_setSight_80 rfl (lv_at hl 1 rfl) ?_
          refine lv_ishl hx hb dX7_setSight_81 ?_
          refine lv_iconst (v := (-1)) hx hb dX7_setSight_82 (by decide) ?_
          refine lv_ixor hx hb dX7_setSight_83 ?_
          refine lv_iand hx hb dX7_setSight_84 ?_
          refine lv_iload_n hx hb dX7_setSight_85 rfl (lv_at hl 3 rfl) ?_
          refine lv_if_eq (tgt := 95) hx hb dX7_setSight_86 (by decide) (fun c5 => ?_) (fun c5 => ?_)
          · refine lv_iconst (v := 0) hx hb dX7_setSight_95 (by decide) ?_
            refine lv_ior hx hb dX7_setSight_96 ?_
            refine va_iast (D := D.1) hx hb hK hP hD hS 2 0 rfl rfl (vd_in (inB_vd (by omega) c2) b10 (by decide)) dX7_setSight_97 (fun H locs hP hD hS => ?_)
            have hP : va_P D.1 vwCl (wMod D Ax 0 ns fog nr nm nl (sr (sr Lx 1 (rs 10 (Lx 1) p1 (((rg 10 (Lx 1) p1) &&& (((1 : Int32) <<< (p2 &&& 31)) ^^^ (-1))) ||| 0))) 1 (upd (rs 10 (Lx 1) p1 (((rg 10 (Lx 1) p1) &&& (((1 : Int32) <<< (p2 &&& 31)) ^^^ (-1))) ||| 0)) p2.toNatClampNeg (((rg 10 (rs 10 (Lx 1) p1 (((rg 10 (Lx 1) p1) &&& (((1 : Int32) <<< (p2 &&& 31)) ^^^ (-1))) ||| 0)) p2) &&& (((1 : Int32) <<< (p1 &&& 31)) ^^^ (-1))) ||| 0)))) H := hP
            have hD : va_D A0 (wMod D Ax 0 ns fog nr nm nl (sr (sr Lx 1 (rs 10 (Lx 1) p1 (((rg 10 (Lx 1) p1) &&& (((1 : Int32) <<< (p2 &&& 31)) ^^^ (-1))) ||| 0))) 1 (upd (rs 10 (Lx 1) p1 (((rg 10 (Lx 1) p1) &&& (((1 : Int32) <<< (p2 &&& 31)) ^^^ (-1))) ||| 0)) p2.toNatClampNeg (((rg 10 (rs 10 (Lx 1) p1 (((rg 10 (Lx 1) p1) &&& (((1 : Int32) <<< (p2 &&& 31)) ^^^ (-1))) ||| 0)) p2) &&& (((1 : Int32) <<< (p1 &&& 31)) ^^^ (-1))) ||| 0)))) := hD
            rw [← rs_vp (n := 10) (f := (rs 10 (Lx 1) p1 (((rg 10 (Lx 1) p1) &&& (((1 : Int32) <<< (p2 &&& 31)) ^^^ (-1))) ||| 0))) (x := p2) (v := (((rg 10 (rs 10 (Lx 1) p1 (((rg 10 (Lx 1) p1) &&& (((1 : Int32) <<< (p2 &&& 31)) ^^^ (-1))) ||| 0)) p2) &&& (((1 : Int32) <<< (p1 &&& 31)) ^^^ (-1))) ||| 0)) (vd_in (inB_vd (by omega) c2) b10 (by decide))] at hP hD
            refine lv_aload_n hx hb dX7_setSight_98 rfl (lv_at hl 0 rfl) ?_
            refine va_get (D := D.1) (ci := 7) (v := .ref (Ax 2)) (C := RX7) (T := TX7) (N := 14) hx hb hts hinX7 hown hK hP 0 rfl rfl 3 (by decide) (hts (.fieldLink RX7 13 "MountainPostModel" "sight" "[I") (List.mem_of_getElem? (i := 2) rfl)) (fun _ h9 => h9) rfl dX7_setSight_99 ?_
            refine lv_iload_n hx hb dX7_setSight_102 rfl (lv_at hl 1 rfl) ?_
            refine va_iald (D := D.1) hx hb hK hP 2 0 rfl rfl (vd_in (inB_vd (by omega) c1) b10 (by decide)) dX7_setSight_103 ?_
            refine W.eq (g2 := F0 m 104 ls [.int (rg 10 (rs 10 (rs 10 (Lx 1) p1 (((rg 10 (Lx 1) p1) &&& (((1 : Int32) <<< (p2 &&& 31)) ^^^ (-1))) ||| 0)) p2 (((rg 10 (rs 10 (Lx 1) p1 (((rg 10 (Lx 1) p1) &&& (((1 : Int32) <<< (p2 &&& 31)) ^^^ (-1))) ||| 0)) p2) &&& (((1 : Int32) <<< (p1 &&& 31)) ^^^ (-1))) ||| 0)) p1)]) (congrArg (fun zz : Int32 => F0 m 104 ls [.int zz]) (show ((rs 10 (rs 10 (Lx 1) p1 (((rg 10 (Lx 1) p1) &&& (((1 : Int32) <<< (p2 &&& 31)) ^^^ (-1))) ||| 0)) p2 (((rg 10 (rs 10 (Lx 1) p1 (((rg 10 (Lx 1) p1) &&& (((1 : Int32) <<< (p2 &&& 31)) ^^^ (-1))) ||| 0)) p2) &&& (((1 : Int32) <<< (p1 &&& 31)) ^^^ (-1))) ||| 0)) p1.toNatClampNeg) = (rg 10 (rs 10 (rs 10 (Lx 1) p1 (((rg 10 (Lx 1) p1) &&& (((1 : Int32) <<< (p2 &&& 31)) ^^^ (-1))) ||| 0)) p2 (((rg 10 (rs 10 (Lx 1) p1 (((rg 10 (Lx 1) p1) &&& (((1 : Int32) <<< (p2 &&& 31)) ^^^ (-1))) ||| 0)) p2) &&& (((1 : Int32) <<< (p1 &&& 31)) ^^^ (-1))) ||| 0)) p1) from (rg_vp (vd_in (inB_vd (by omega) c1) b10 (by decide))).symm)) ?_
            refine kSp ⟨hx, hb, hml, hown, hts⟩ (c_J6_bitCount_0f7a4 l D (rg 10 (rs 10 (rs 10 (Lx 1) p1 (((rg 10 (Lx 1) p1) &&& (((1 : Int32) <<< (p2 &&& 31)) ^^^ (-1))) ||| 0)) p2 (((rg 10 (rs 10 (Lx 1) p1 (((rg 10 (Lx 1) p1) &&& (((1 : Int32) <<< (p2 &&& 31)) ^^^ (-1))) ||| 0)) p2) &&& (((1 : Int32) <<< (p1 &&& 31)) ^^^ (-1))) ||| 0)) p1)) (va_cwS 1 hts gX7_setSight_J6_bitCount_0f7a4 rfl rfl rfl (by decide +kernel) ⟨Nat.le_of_ble_eq_true rfl, Nat.le_of_ble_eq_true rfl⟩) hK hN hP hD Sb.nil  rfl hl.1 (Nat.le_of_ble_eq_true rfl) ⟨Nat.zero_le _, Nat.zero_le _⟩ dX7_setSight_104 ?_ rfl
            exact eWi hx hb hr hlocks dX7_setSight_107 hS hP (by (rw [pss, if_pos c1, if_pos c2, if_neg c3]; simp only [ss1, sgM]; simp only [if_pos c4]; first | done | rfl)) (by (rw [pss, if_pos c1, if_pos c2, if_neg c3]; simp only [ss1, sgM]; simp only [if_pos c4]; first | done | rfl))
          · exact absurd c4 c5
        · refine lv_iconst (v := 1) hx hb dX7_setSight_59 (by decide) ?_
          refine lv_iload_n hx hb dX7_setSight_60 rfl (lv_at hl 2 rfl) ?_
          refine lv_ishl hx hb dX7_setSight_61 ?_
          refine lv_goto (tgt := 66) hx hb dX7_setSight_62 (by decide) ?_
          refine lv_ior hx hb dX7_setSight_66 ?_
          refine va_iast (D := D.1) hx hb hK hP hD hS 2 0 rfl rfl (vd_in (inB_vd (by omega) c1) b10 (by decide)) dX7_setSight_67 (fun H locs hP hD hS => ?_)
          have hP : va_P D.1 vwCl (wMod D Ax 0 ns fog nr nm nl (sr Lx 1 (upd (Lx 1) p1.toNatClampNeg (((rg 10 (Lx 1) p1) &&& (((1 : Int32) <<< (p2 &&& 31)) ^^^ (-1))) ||| ((1 : Int32) <<< (p2 &&& 31)))))) H := hP
          have hD : va_D A0 (wMod D Ax 0 ns fog nr nm nl (sr Lx 1 (upd (Lx 1) p1.toNatClampNeg (((rg 10 (Lx 1) p1) &&& (((1 : Int32) <<< (p2 &&& 31)) ^^^ (-1))) ||| ((1 : Int32) <<< (p2 &&& 31)))))) := hD
          rw [← rs_vp (n := 10) (f := (Lx 1)) (x := p1) (v := (((rg 10 (Lx 1) p1) &&& (((1 : Int32) <<< (p2 &&& 31)) ^^^ (-1))) ||| ((1 : Int32) <<< (p2 &&& 31)))) (vd_in (inB_vd (by omega) c1) b10 (by decide))] at hP hD
          refine lv_aload_n hx hb dX7_setSight_68 rfl (lv_at hl 0 rfl) ?_
          refine va_get (D := D.1) (ci := 7) (v := .ref (Ax 2)) (C := RX7) (T := TX7) (N := 14) hx hb hts hinX7 hown hK hP 0 rfl rfl 3 (by decide) (hts (.fieldLink RX7 13 "MountainPostModel" "sight" "[I") (List.mem_of_getElem? (i := 2) rfl)) (fun _ h9 => h9) rfl dX7_setSight_69 ?_
          refine lv_iload_n hx hb dX7_setSight_72 rfl (lv_at hl 2 rfl) ?_
          refine lv_aload_n hx hb dX7_setSight_73 rfl (lv_at hl 0 rfl) ?_
          refine va_get (D := D.1) (ci := 7) (v := .ref (Ax 2)) (C := RX7) (T := TX7) (N := 14) hx hb hts hinX7 hown hK hP 0 rfl rfl 3 (by decide) (hts (.fieldLink RX7 13 "MountainPostModel" "sight" "[I") (List.mem_of_getElem? (i := 2) rfl)) (fun _ h9 => h9) rfl dX7_setSight_74 ?_
          refine lv_iload_n hx hb dX7_setSight_77 rfl (lv_at hl 2 rfl) ?_
          refine va_iald (D := D.1) hx hb hK hP 2 0 rfl rfl (vd_in (inB_vd (by omega) c2) b10 (by decide)) dX7_setSight_78 ?_
          refine W.eq (g2 := F0 m 79 ls [.int (rg 10 (rs 10 (Lx 1) p1 (((rg 10 (Lx 1) p1) &&& (((1 : Int32) <<< (p2 &&& 31)) ^^^ (-1))) ||| ((1 : Int32) <<< (p2 &&& 31)))) p2), .int p2, .ref (Ax 2)]) (congrArg (fun zz : Int32 => F0 m 79 ls [.int zz, .int p2, .ref (Ax 2)]) (show ((rs 10 (Lx 1) p1 (((rg 10 (Lx 1) p1) &&& (((1 : Int32) <<< (p2 &&& 31)) ^^^ (-1))) ||| ((1 : Int32) <<< (p2 &&& 31)))) p2.toNatClampNeg) = (rg 10 (rs 10 (Lx 1) p1 (((rg 10 (Lx 1) p1) &&& (((1 : Int32) <<< (p2 &&& 31)) ^^^ (-1))) ||| ((1 : Int32) <<< (p2 &&& 31)))) p2) from (rg_vp (vd_in (inB_vd (by omega) c2) b10 (by decide))).symm)) ?_
          refine lv_iconst (v := 1) hx hb dX7_setSight_79 (by decide) ?_
          refine lv_iload_n hx hb dX7_setSight_80 rfl (lv_at hl 1 rfl) ?_
          refine lv_ishl hx hb dX7_setSight_81 ?_
          refine lv_iconst (v := (-1)) hx hb dX7_setSight_82 (by decide) ?_
          refine lv_ixor hx hb dX7_setSight_83 ?_
          refine lv_iand hx hb dX7_setSight_84 ?_
          refine lv_iload_n hx hb dX7_setSight_85 rfl (lv_at hl 3 rfl) ?_
          refine lv_if_eq (tgt := 95) hx hb dX7_setSight_86 (by decide) (fun c6 => ?_) (fun c6 => ?_)
          · exact absurd c6 c4
          · refine lv_iconst (v := 1) hx hb dX7_setSight_89 (by decide) ?_
            refine lv_iload_n hx hb dX7_setSight_90 rfl (lv_at hl 1 rfl) ?_
            refine lv_ishl hx hb dX7_setSight_91 ?_
            refine lv_goto (tgt := 96) hx hb dX7_setSight_92 (by decide) ?_
            refine lv_ior hx hb dX7_setSight_96 ?_
            refine va_iast (D := D.1) hx hb hK hP hD hS 2 0 rfl rfl (vd_in (inB_vd (by omega) c2) b10 (by decide)) dX7_setSight_97 (fun H locs hP hD hS => ?_)
            have hP : va_P D.1 vwCl (wMod D Ax 0 ns fog nr nm nl (sr (sr Lx 1 (rs 10 (Lx 1) p1 (((rg 10 (Lx 1) p1) &&& (((1 : Int32) <<< (p2 &&& 31)) ^^^ (-1))) ||| ((1 : Int32) <<< (p2 &&& 31))))) 1 (upd (rs 10 (Lx 1) p1 (((rg 10 (Lx 1) p1) &&& (((1 : Int32) <<< (p2 &&& 31)) ^^^ (-1))) ||| ((1 : Int32) <<< (p2 &&& 31)))) p2.toNatClampNeg (((rg 10 (rs 10 (Lx 1) p1 (((rg 10 (Lx 1) p1) &&& (((1 : Int32) <<< (p2 &&& 31)) ^^^ (-1))) ||| ((1 : Int32) <<< (p2 &&& 31)))) p2) &&& (((1 : Int32) <<< (p1 &&& 31)) ^^^ (-1))) ||| ((1 : Int32) <<< (p1 &&& 31)))))) H := hP
            have hD : va_D A0 (wMod D Ax 0 ns fog nr nm nl (sr (sr Lx 1 (rs 10 (Lx 1) p1 (((rg 10 (Lx 1) p1) &&& (((1 : Int32) <<< (p2 &&& 31)) ^^^ (-1))) ||| ((1 : Int32) <<< (p2 &&& 31))))) 1 (upd (rs 10 (Lx 1) p1 (((rg 10 (Lx 1) p1) &&& (((1 : Int32) <<< (p2 &&& 31)) ^^^ (-1))) ||| ((1 : Int32) <<< (p2 &&& 31)))) p2.toNatClampNeg (((rg 10 (rs 10 (Lx 1) p1 (((rg 10 (Lx 1) p1) &&& (((1 : Int32) <<< (p2 &&& 31)) ^^^ (-1))) ||| ((1 : Int32) <<< (p2 &&& 31)))) p2) &&& (((1 : Int32) <<< (p1 &&& 31)) ^^^ (-1))) ||| ((1 : Int32) <<< (p1 &&& 31)))))) := hD
            rw [← rs_vp (n := 10) (f := (rs 10 (Lx 1) p1 (((rg 10 (Lx 1) p1) &&& (((1 : Int32) <<< (p2 &&& 31)) ^^^ (-1))) ||| ((1 : Int32) <<< (p2 &&& 31))))) (x := p2) (v := (((rg 10 (rs 10 (Lx 1) p1 (((rg 10 (Lx 1) p1) &&& (((1 : Int32) <<< (p2 &&& 31)) ^^^ (-1))) ||| ((1 : Int32) <<< (p2 &&& 31)))) p2) &&& (((1 : Int32) <<< (p1 &&& 31)) ^^^ (-1))) ||| ((1 : Int32) <<< (p1 &&& 31)))) (vd_in (inB_vd (by omega) c2) b10 (by decide))] at hP hD
            refine lv_aload_n hx hb dX7_setSight_98 rfl (lv_at hl 0 rfl) ?_
            refine va_get (D := D.1) (ci := 7) (v := .ref (Ax 2)) (C := RX7) (T := TX7) (N := 14) hx hb hts hinX7 hown hK hP 0 rfl rfl 3 (by decide) (hts (.fieldLink RX7 13 "MountainPostModel" "sight" "[I") (List.mem_of_getElem? (i := 2) rfl)) (fun _ h9 => h9) rfl dX7_setSight_99 ?_
            refine lv_iload_n hx hb dX7_setSight_102 rfl (lv_at hl 1 rfl) ?_
            refine va_iald (D := D.1) hx hb hK hP 2 0 rfl rfl (vd_in (inB_vd (by omega) c1) b10 (by decide)) dX7_setSight_103 ?_
            refine W.eq (g2 := F0 m 104 ls [.int (rg 10 (rs 10 (rs 10 (Lx 1) p1 (((rg 10 (Lx 1) p1) &&& (((1 : Int32) <<< (p2 &&& 31)) ^^^ (-1))) ||| ((1 : Int32) <<< (p2 &&& 31)))) p2 (((rg 10 (rs 10 (Lx 1) p1 (((rg 10 (Lx 1) p1) &&& (((1 : Int32) <<< (p2 &&& 31)) ^^^ (-1))) ||| ((1 : Int32) <<< (p2 &&& 31)))) p2) &&& (((1 : Int32) <<< (p1 &&& 31)) ^^^ (-1))) ||| ((1 : Int32) <<< (p1 &&& 31)))) p1)]) (congrArg (fun zz : Int32 => F0 m 104 ls [.int zz]) (show ((rs 10 (rs 10 (Lx 1) p1 (((rg 10 (Lx 1) p1) &&& (((1 : Int32) <<< (p2 &&& 31)) ^^^ (-1))) ||| ((1 : Int32) <<< (p2 &&& 31)))) p2 (((rg 10 (rs 10 (Lx 1) p1 (((rg 10 (Lx 1) p1) &&& (((1 : Int32) <<< (p2 &&& 31)) ^^^ (-1))) ||| ((1 : Int32) <<< (p2 &&& 31)))) p2) &&& (((1 : Int32) <<< (p1 &&& 31)) ^^^ (-1))) ||| ((1 : Int32) <<< (p1 &&& 31)))) p1.toNatClampNeg) = (rg 10 (rs 10 (rs 10 (Lx 1) p1 (((rg 10 (Lx 1) p1) &&& (((1 : Int32) <<< (p2 &&& 31)) ^^^ (-1))) ||| ((1 : Int32) <<< (p2 &&& 31)))) p2 (((rg 10 (rs 10 (Lx 1) p1 (((rg 10 (Lx 1) p1) &&& (((1 : Int32) <<< (p2 &&& 31)) ^^^ (-1))) ||| ((1 : Int32) <<< (p2 &&& 31)))) p2) &&& (((1 : Int32) <<< (p1 &&& 31)) ^^^ (-1))) ||| ((1 : Int32) <<< (p1 &&& 31)))) p1) from (rg_vp (vd_in (inB_vd (by omega) c1) b10 (by decide))).symm)) ?_
            refine kSp ⟨hx, hb, hml, hown, hts⟩ (c_J6_bitCount_0f7a4 l D (rg 10 (rs 10 (rs 10 (Lx 1) p1 (((rg 10 (Lx 1) p1) &&& (((1 : Int32) <<< (p2 &&& 31)) ^^^ (-1))) ||| ((1 : Int32) <<< (p2 &&& 31)))) p2 (((rg 10 (rs 10 (Lx 1) p1 (((rg 10 (Lx 1) p1) &&& (((1 : Int32) <<< (p2 &&& 31)) ^^^ (-1))) ||| ((1 : Int32) <<< (p2 &&& 31)))) p2) &&& (((1 : Int32) <<< (p1 &&& 31)) ^^^ (-1))) ||| ((1 : Int32) <<< (p1 &&& 31)))) p1)) (va_cwS 1 hts gX7_setSight_J6_bitCount_0f7a4 rfl rfl rfl (by decide +kernel) ⟨Nat.le_of_ble_eq_true rfl, Nat.le_of_ble_eq_true rfl⟩) hK hN hP hD Sb.nil  rfl hl.1 (Nat.le_of_ble_eq_true rfl) ⟨Nat.zero_le _, Nat.zero_le _⟩ dX7_setSight_104 ?_ rfl
            exact eWi hx hb hr hlocks dX7_setSight_107 hS hP (by (rw [pss, if_pos c1, if_pos c2, if_neg c3]; simp only [ss1, sgM]; simp only [if_neg c4]; first | done | rfl)) (by (rw [pss, if_pos c1, if_pos c2, if_neg c3]; simp only [ss1, sgM]; simp only [if_neg c4]; first | done | rfl))
      · refine lv_aload_n hx hb dX7_setSight_32 rfl (lv_at hl 0 rfl) ?_
        refine lv_iconst (v := 2) hx hb dX7_setSight_33 (by decide) ?_
        refine kVw ⟨hx, hb, hml, hown, hts⟩ (c_X7_fail l D Ax 0 ns fog nr nm nl Lx 2) (cwV 1 hts gX7_setSight_X7_fail rfl rfl rfl (by decide +kernel) ⟨Nat.le_of_ble_eq_true rfl, Nat.le_of_ble_eq_true rfl⟩) hK hN hP hD hS frsMod 7 0 rfl rfl rfl hl.1 (Nat.le_of_ble_eq_true rfl) ⟨Nat.zero_le _, Nat.zero_le _⟩ dX7_setSight_34 (fun H locs hP hD hS => ?_) rfl
        have hP : va_P D.1 vwCl (wMod D Ax 2 ns fog nr nm nl Lx) H := hP
        have hD : va_D A0 (wMod D Ax 2 ns fog nr nm nl Lx) := hD
        refine W.eq (g2 := F0 m 37 ls [.int 0]) rfl ?_
        exact eWi hx hb hr hlocks dX7_setSight_37 hS hP (by (rw [pss, if_pos c1, if_pos c2, if_pos c3]; first | done | rfl)) (by (rw [pss, if_pos c1, if_pos c2, if_pos c3]; first | done | rfl))
    · have c2 := z2_0.mp c2
      refine lv_aload_n hx hb dX7_setSight_21 rfl (lv_at hl 0 rfl) ?_
      refine lv_iconst (v := 1) hx hb dX7_setSight_22 (by decide) ?_
      refine kVw ⟨hx, hb, hml, hown, hts⟩ (c_X7_fail l D Ax 0 ns fog nr nm nl Lx 1) (cwV 1 hts gX7_setSight_X7_fail rfl rfl rfl (by decide +kernel) ⟨Nat.le_of_ble_eq_true rfl, Nat.le_of_ble_eq_true rfl⟩) hK hN hP hD hS frsMod 7 0 rfl rfl rfl hl.1 (Nat.le_of_ble_eq_true rfl) ⟨Nat.zero_le _, Nat.zero_le _⟩ dX7_setSight_23 (fun H locs hP hD hS => ?_) rfl
      have hP : va_P D.1 vwCl (wMod D Ax 1 ns fog nr nm nl Lx) H := hP
      have hD : va_D A0 (wMod D Ax 1 ns fog nr nm nl Lx) := hD
      refine W.eq (g2 := F0 m 26 ls [.int 0]) rfl ?_
      exact eWi hx hb hr hlocks dX7_setSight_26 hS hP (by (rw [pss, if_pos c1, if_neg c2]; first | done | rfl)) (by (rw [pss, if_pos c1, if_neg c2]; first | done | rfl))

set_option maxHeartbeats 4000000 in
set_option maxRecDepth 100000 in
theorem c_X7_setFog (l : Launch) (D : GG) (Ax : Nat → Nat) (th : Int32) (ns : Nat) (fog : Int32) (nr : Nat) (nm : Nat) (nl : Nat) (Lx : Nat → Nat → Int32) (p1 : Int32) (p2 : Int32) (b10 : ns ≤ 10) (b15 : nr ≤ 15) (b12 : nm ≤ 12) (b60 : nl ≤ 60) : Met l yX7_setFog wsX7_setFog ({ frames := 2, cells := 0, slots := 0, locals := 43 } : Room) (va_Pc [.ref (Ax 0), .int p1, .int p2] (wd D (wMod D Ax th ns fog nr nm nl Lx))) (QW D (some (.int ((psf fog ns p1 p2).1))) (wMod D Ax ((psf fog ns p1 p2).2.1) ns ((psf fog ns p1 p2).2.2) nr nm nl Lx) (own (wMod D Ax th ns fog nr nm nl Lx))) 0 0 (own (wMod D Ax th ns fog nr nm nl Lx)) := by
  refine Met.ofW (cc := cX7_setFog) (maxL := 3) (ret := (some .int)) (by decide) rfl ?_
  intro p e s m args below meth c s₁ B hml hv
  obtain ⟨rfl, hP, hK, hD, hN⟩ := hv
  have hx := B.exec
  have hb := B.bytes
  have hr := B.returns
  have hts := atoms_spec (ws := wsX7_setFog) B.pre
  have hown : s.vm.findClass RX7 = some m.cls := findClass_of_methodNamed B.named
  have hlocks := B.notSynchronized
  have hinX7 : ∀ w ∈ u_ws RX7 TX7 14, w ∈ wsX7_setFog := by decide +kernel
  have hS : va_S (own (wMod D Ax th ns fog nr nm nl Lx)) s.heap s.heap [] := va_S.rf
  have hD : va_D (own (wMod D Ax th ns fog nr nm nl Lx)) (wMod D Ax th ns fog nr nm nl Lx) := toOwn hD
  generalize hAe : own (wMod D Ax th ns fog nr nm nl Lx) = A0 at hD hS ⊢
  have hl := lv_entry ([.ref (Ax 0), .int p1, .int p2]) (n := 3) (Nat.le_of_ble_eq_true rfl)
  rw [lg_entry_eq]
  generalize (lg_sl ([.ref (Ax 0), .int p1, .int p2]) ++ List.replicate (3 - (lg_sl ([.ref (Ax 0), .int p1, .int p2])).length) Slot.unset).toArray = ls at hl ⊢
  have hl : lv_has ls 3 [(0, .ref (Ax 0)), (1, .int p1), (2, .int p2)] := hl
  refine lv_aload_n hx hb dX7_setFog_0 rfl (lv_at hl 0 rfl) ?_
  refine lv_iconst (v := 0) hx hb dX7_setFog_1 (by decide) ?_
  refine va_put (D := D.1) (ci := 7) (v := .int 0) (ty := .int) (C := RX7) (T := TX7) (N := 14) hx hb hts hinX7 tyX7 tyX7_ok nmX7 hown hK hP hD hS 0 rfl rfl 0 (by decide) (hts (.fieldLink RX7 34 "MountainPostModel" "thrown" "I") (List.mem_of_getElem? (i := 1) rfl)) (fun _ h9 => h9) rfl (by decide +kernel) rfl rfl (Nat.le_of_ble_eq_true rfl) dX7_setFog_2 (fun H locs hP hD hS => ?_)
  have hP : va_P D.1 vwCl (wMod D Ax 0 ns fog nr nm nl Lx) H := hP
  have hD : va_D A0 (wMod D Ax 0 ns fog nr nm nl Lx) := hD
  refine lv_aload_n hx hb dX7_setFog_5 rfl (lv_at hl 0 rfl) ?_
  refine lv_iload_n hx hb dX7_setFog_6 rfl (lv_at hl 1 rfl) ?_
  refine kVp ⟨hx, hb, hml, hown, hts⟩ (c_X7_isStation l D Ax 0 ns fog nr nm nl Lx p1) (cwV 1 hts gX7_setFog_X7_isStation rfl rfl rfl (by decide +kernel) ⟨Nat.le_of_ble_eq_true rfl, Nat.le_of_ble_eq_true rfl⟩) hK hN hP hD Sb.self 7 0 rfl rfl rfl hl.1 (Nat.le_of_ble_eq_true rfl) ⟨Nat.zero_le _, Nat.zero_le _⟩ dX7_setFog_7 ?_ rfl
  refine lv_if_ne (tgt := 19) hx hb dX7_setFog_10 (by decide) (fun c1 => ?_) (fun c1 => ?_)
  · have c1 := z2_n.mp c1
    refine lv_aload_n hx hb dX7_setFog_19 rfl (lv_at hl 0 rfl) ?_
    refine lv_aload_n hx hb dX7_setFog_20 rfl (lv_at hl 0 rfl) ?_
    refine va_get (D := D.1) (ci := 7) (v := .int fog) (C := RX7) (T := TX7) (N := 14) hx hb hts hinX7 hown hK hP 0 rfl rfl 4 (by decide) (hts (.fieldLink RX7 64 "MountainPostModel" "fog" "I") (List.mem_of_getElem? (i := 2) rfl)) (fun _ h9 => h9) rfl dX7_setFog_21 ?_
    refine lv_iconst (v := 1) hx hb dX7_setFog_24 (by decide) ?_
    refine lv_iload_n hx hb dX7_setFog_25 rfl (lv_at hl 1 rfl) ?_
    refine lv_ishl hx hb dX7_setFog_26 ?_
    refine lv_iconst (v := (-1)) hx hb dX7_setFog_27 (by decide) ?_
    refine lv_ixor hx hb dX7_setFog_28 ?_
    refine lv_iand hx hb dX7_setFog_29 ?_
    refine lv_iload_n hx hb dX7_setFog_30 rfl (lv_at hl 2 rfl) ?_
    refine lv_if_eq (tgt := 40) hx hb dX7_setFog_31 (by decide) (fun c2 => ?_) (fun c2 => ?_)
    · refine lv_iconst (v := 0) hx hb dX7_setFog_40 (by decide) ?_
      refine lv_ior hx hb dX7_setFog_41 ?_
      refine va_put (D := D.1) (ci := 7) (v := .int ((fog &&& (((1 : Int32) <<< (p1 &&& 31)) ^^^ (-1))) ||| 0)) (ty := .int) (C := RX7) (T := TX7) (N := 14) hx hb hts hinX7 tyX7 tyX7_ok nmX7 hown hK hP hD hS 0 rfl rfl 4 (by decide) (hts (.fieldLink RX7 64 "MountainPostModel" "fog" "I") (List.mem_of_getElem? (i := 2) rfl)) (fun _ h9 => h9) rfl (by decide +kernel) rfl rfl (Nat.le_of_ble_eq_true rfl) dX7_setFog_42 (fun H locs hP hD hS => ?_)
      have hP : va_P D.1 vwCl (wMod D Ax 0 ns ((fog &&& (((1 : Int32) <<< (p1 &&& 31)) ^^^ (-1))) ||| 0) nr nm nl Lx) H := hP
      have hD : va_D A0 (wMod D Ax 0 ns ((fog &&& (((1 : Int32) <<< (p1 &&& 31)) ^^^ (-1))) ||| 0) nr nm nl Lx) := hD
      refine lv_aload_n hx hb dX7_setFog_45 rfl (lv_at hl 0 rfl) ?_
      refine va_get (D := D.1) (ci := 7) (v := .int ((fog &&& (((1 : Int32) <<< (p1 &&& 31)) ^^^ (-1))) ||| 0)) (C := RX7) (T := TX7) (N := 14) hx hb hts hinX7 hown hK hP 0 rfl rfl 4 (by decide) (hts (.fieldLink RX7 64 "MountainPostModel" "fog" "I") (List.mem_of_getElem? (i := 2) rfl)) (fun _ h9 => h9) rfl dX7_setFog_46 ?_
      refine kSp ⟨hx, hb, hml, hown, hts⟩ (c_J6_bitCount_0f7a4 l D ((fog &&& (((1 : Int32) <<< (p1 &&& 31)) ^^^ (-1))) ||| 0)) (va_cwS 1 hts gX7_setFog_J6_bitCount_0f7a4 rfl rfl rfl (by decide +kernel) ⟨Nat.le_of_ble_eq_true rfl, Nat.le_of_ble_eq_true rfl⟩) hK hN hP hD Sb.nil  rfl hl.1 (Nat.le_of_ble_eq_true rfl) ⟨Nat.zero_le _, Nat.zero_le _⟩ dX7_setFog_49 ?_ rfl
      exact eWi hx hb hr hlocks dX7_setFog_52 hS hP (by (rw [psf, if_pos c1, sgM, if_pos c2]; first | done | rfl)) (by (rw [psf, if_pos c1, sgM, if_pos c2]; first | done | rfl))
    · refine lv_iconst (v := 1) hx hb dX7_setFog_34 (by decide) ?_
      refine lv_iload_n hx hb dX7_setFog_35 rfl (lv_at hl 1 rfl) ?_
      refine lv_ishl hx hb dX7_setFog_36 ?_
      refine lv_goto (tgt := 41) hx hb dX7_setFog_37 (by decide) ?_
      refine lv_ior hx hb dX7_setFog_41 ?_
      refine va_put (D := D.1) (ci := 7) (v := .int ((fog &&& (((1 : Int32) <<< (p1 &&& 31)) ^^^ (-1))) ||| ((1 : Int32) <<< (p1 &&& 31)))) (ty := .int) (C := RX7) (T := TX7) (N := 14) hx hb hts hinX7 tyX7 tyX7_ok nmX7 hown hK hP hD hS 0 rfl rfl 4 (by decide) (hts (.fieldLink RX7 64 "MountainPostModel" "fog" "I") (List.mem_of_getElem? (i := 2) rfl)) (fun _ h9 => h9) rfl (by decide +kernel) rfl rfl (Nat.le_of_ble_eq_true rfl) dX7_setFog_42 (fun H locs hP hD hS => ?_)
      have hP : va_P D.1 vwCl (wMod D Ax 0 ns ((fog &&& (((1 : Int32) <<< (p1 &&& 31)) ^^^ (-1))) ||| ((1 : Int32) <<< (p1 &&& 31))) nr nm nl Lx) H := hP
      have hD : va_D A0 (wMod D Ax 0 ns ((fog &&& (((1 : Int32) <<< (p1 &&& 31)) ^^^ (-1))) ||| ((1 : Int32) <<< (p1 &&& 31))) nr nm nl Lx) := hD
      refine lv_aload_n hx hb dX7_setFog_45 rfl (lv_at hl 0 rfl) ?_
      refine va_get (D := D.1) (ci := 7) (v := .int ((fog &&& (((1 : Int32) <<< (p1 &&& 31)) ^^^ (-1))) ||| ((1 : Int32) <<< (p1 &&& 31)))) (C := RX7) (T := TX7) (N := 14) hx hb hts hinX7 hown hK hP 0 rfl rfl 4 (by decide) (hts (.fieldLink RX7 64 "MountainPostModel" "fog" "I") (List.mem_of_getElem? (i := 2) rfl)) (fun _ h9 => h9) rfl dX7_setFog_46 ?_
      refine kSp ⟨hx, hb, hml, hown, hts⟩ (c_J6_bitCount_0f7a4 l D ((fog &&& (((1 : Int32) <<< (p1 &&& 31)) ^^^ (-1))) ||| ((1 : Int32) <<< (p1 &&& 31)))) (va_cwS 1 hts gX7_setFog_J6_bitCount_0f7a4 rfl rfl rfl (by decide +kernel) ⟨Nat.le_of_ble_eq_true rfl, Nat.le_of_ble_eq_true rfl⟩) hK hN hP hD Sb.nil  rfl hl.1 (Nat.le_of_ble_eq_true rfl) ⟨Nat.zero_le _, Nat.zero_le _⟩ dX7_setFog_49 ?_ rfl
      exact eWi hx hb hr hlocks dX7_setFog_52 hS hP (by (rw [psf, if_pos c1, sgM, if_neg c2]; first | done | rfl)) (by (rw [psf, if_pos c1, sgM, if_neg c2]; first | done | rfl))
  · have c1 := z2_0.mp c1
    refine lv_aload_n hx hb dX7_setFog_13 rfl (lv_at hl 0 rfl) ?_
    refine lv_iconst (v := 1) hx hb dX7_setFog_14 (by decide) ?_
    refine kVw ⟨hx, hb, hml, hown, hts⟩ (c_X7_fail l D Ax 0 ns fog nr nm nl Lx 1) (cwV 1 hts gX7_setFog_X7_fail rfl rfl rfl (by decide +kernel) ⟨Nat.le_of_ble_eq_true rfl, Nat.le_of_ble_eq_true rfl⟩) hK hN hP hD hS frsMod 7 0 rfl rfl rfl hl.1 (Nat.le_of_ble_eq_true rfl) ⟨Nat.zero_le _, Nat.zero_le _⟩ dX7_setFog_15 (fun H locs hP hD hS => ?_) rfl
    have hP : va_P D.1 vwCl (wMod D Ax 1 ns fog nr nm nl Lx) H := hP
    have hD : va_D A0 (wMod D Ax 1 ns fog nr nm nl Lx) := hD
    refine W.eq (g2 := F0 m 18 ls [.int 0]) rfl ?_
    exact eWi hx hb hr hlocks dX7_setFog_18 hS hP (by (rw [psf, if_neg c1]; first | done | rfl)) (by (rw [psf, if_neg c1]; first | done | rfl))

set_option maxHeartbeats 4000000 in
set_option maxRecDepth 100000 in
theorem c_X7_recall (l : Launch) (D : GG) (Ax : Nat → Nat) (th : Int32) (ns : Nat) (fog : Int32) (nr : Nat) (nm : Nat) (nl : Nat) (Lx : Nat → Nat → Int32) (p1 : Int32) (b10 : ns ≤ 10) (b15 : nr ≤ 15) (b12 : nm ≤ 12) (b60 : nl ≤ 60) : Met l yX7_recall wsX7_recall ({ frames := 2, cells := 0, slots := 0, locals := 44 } : Room) (va_Pc [.ref (Ax 0), .int p1] (wd D (wMod D Ax th ns fog nr nm nl Lx))) (QW D (some (.int ((prc Lx ns fog nl p1).1))) (wMod D Ax ((prc Lx ns fog nl p1).2.1) ns fog nr nm nl ((prc Lx ns fog nl p1).2.2)) (own (wMod D Ax th ns fog nr nm nl Lx))) 0 0 (own (wMod D Ax th ns fog nr nm nl Lx)) := by
  refine Met.ofW (cc := cX7_recall) (maxL := 4) (ret := (some .int)) (by decide) rfl ?_
  intro p e s m args below meth c s₁ B hml hv
  obtain ⟨rfl, hP, hK, hD, hN⟩ := hv
  have hx := B.exec
  have hb := B.bytes
  have hr := B.returns
  have hts := atoms_spec (ws := wsX7_recall) B.pre
  have hown : s.vm.findClass RX7 = some m.cls := findClass_of_methodNamed B.named
  have hlocks := B.notSynchronized
  have hinX7 : ∀ w ∈ u_ws RX7 TX7 14, w ∈ wsX7_recall := by decide +kernel
  have hS : va_S (own (wMod D Ax th ns fog nr nm nl Lx)) s.heap s.heap [] := va_S.rf
  have hD : va_D (own (wMod D Ax th ns fog nr nm nl Lx)) (wMod D Ax th ns fog nr nm nl Lx) := toOwn hD
  generalize hAe : own (wMod D Ax th ns fog nr nm nl Lx) = A0 at hD hS ⊢
  have hl := lv_entry ([.ref (Ax 0), .int p1]) (n := 4) (Nat.le_of_ble_eq_true rfl)
  rw [lg_entry_eq]
  generalize (lg_sl ([.ref (Ax 0), .int p1]) ++ List.replicate (4 - (lg_sl ([.ref (Ax 0), .int p1])).length) Slot.unset).toArray = ls at hl ⊢
  have hl : lv_has ls 4 [(0, .ref (Ax 0)), (1, .int p1)] := hl
  refine lv_aload_n hx hb dX7_recall_0 rfl (lv_at hl 0 rfl) ?_
  refine lv_iconst (v := 0) hx hb dX7_recall_1 (by decide) ?_
  refine va_put (D := D.1) (ci := 7) (v := .int 0) (ty := .int) (C := RX7) (T := TX7) (N := 14) hx hb hts hinX7 tyX7 tyX7_ok nmX7 hown hK hP hD hS 0 rfl rfl 0 (by decide) (hts (.fieldLink RX7 34 "MountainPostModel" "thrown" "I") (List.mem_of_getElem? (i := 1) rfl)) (fun _ h9 => h9) rfl (by decide +kernel) rfl rfl (Nat.le_of_ble_eq_true rfl) dX7_recall_2 (fun H locs hP hD hS => ?_)
  have hP : va_P D.1 vwCl (wMod D Ax 0 ns fog nr nm nl Lx) H := hP
  have hD : va_D A0 (wMod D Ax 0 ns fog nr nm nl Lx) := hD
  refine lv_aload_n hx hb dX7_recall_5 rfl (lv_at hl 0 rfl) ?_
  refine lv_iload_n hx hb dX7_recall_6 rfl (lv_at hl 1 rfl) ?_
  refine kVp ⟨hx, hb, hml, hown, hts⟩ (c_X7_isLetter l D Ax 0 ns fog nr nm nl Lx p1) (cwV 1 hts gX7_recall_X7_isLetter rfl rfl rfl (by decide +kernel) ⟨Nat.le_of_ble_eq_true rfl, Nat.le_of_ble_eq_true rfl⟩) hK hN hP hD Sb.self 7 0 rfl rfl rfl hl.1 (Nat.le_of_ble_eq_true rfl) ⟨Nat.zero_le _, Nat.zero_le _⟩ dX7_recall_7 ?_ rfl
  refine lv_if_ne (tgt := 19) hx hb dX7_recall_10 (by decide) (fun c1 => ?_) (fun c1 => ?_)
  · have c1 := z2_n.mp c1
    refine lv_aload_n hx hb dX7_recall_19 rfl (lv_at hl 0 rfl) ?_
    refine lv_iload_n hx hb dX7_recall_20 rfl (lv_at hl 1 rfl) ?_
    refine lv_bipush (v := 6) hx hb dX7_recall_21 (by decide) ?_
    refine kVp ⟨hx, hb, hml, hown, hts⟩ (c_X7_le l D Ax 0 ns fog nr nm nl Lx p1 6 (ixl (inB_vd (by omega) c1) b60 6 (by decide))) (cwV 2 hts gX7_recall_X7_le rfl rfl rfl (by decide +kernel) ⟨Nat.le_of_ble_eq_true rfl, Nat.le_of_ble_eq_true rfl⟩) hK hN hP hD Sb.self 7 0 rfl rfl rfl hl.1 (Nat.le_of_ble_eq_true rfl) ⟨Nat.zero_le _, Nat.zero_le _⟩ dX7_recall_23 ?_ rfl
    refine lv_iconst (v := 1) hx hb dX7_recall_26 (by decide) ?_
    refine lv_icmp_eq (tgt := 40) hx hb dX7_recall_27 (by decide) (fun c2 => ?_) (fun c2 => ?_)
    · refine lv_aload_n hx hb dX7_recall_40 rfl (lv_at hl 0 rfl) ?_
      refine lv_iconst (v := 2) hx hb dX7_recall_41 (by decide) ?_
      refine kVw ⟨hx, hb, hml, hown, hts⟩ (c_X7_fail l D Ax 0 ns fog nr nm nl Lx 2) (cwV 1 hts gX7_recall_X7_fail rfl rfl rfl (by decide +kernel) ⟨Nat.le_of_ble_eq_true rfl, Nat.le_of_ble_eq_true rfl⟩) hK hN hP hD hS frsMod 7 0 rfl rfl rfl hl.1 (Nat.le_of_ble_eq_true rfl) ⟨Nat.zero_le _, Nat.zero_le _⟩ dX7_recall_42 (fun H locs hP hD hS => ?_) rfl
      have hP : va_P D.1 vwCl (wMod D Ax 2 ns fog nr nm nl Lx) H := hP
      have hD : va_D A0 (wMod D Ax 2 ns fog nr nm nl Lx) := hD
      refine W.eq (g2 := F0 m 45 ls [.int 0]) rfl ?_
      exact eWi hx hb hr hlocks dX7_recall_45 hS hP (by (rw [prc, if_pos c1, if_pos c2]; first | done | rw [z2, if_pos (by assumption)] | rw [z2, if_neg (by assumption)] | rfl)) (by (rw [prc, if_pos c1, if_pos c2]; first | done | rw [z2, if_pos (by assumption)] | rw [z2, if_neg (by assumption)] | rfl))
    · refine lv_aload_n hx hb dX7_recall_30 rfl (lv_at hl 0 rfl) ?_
      refine lv_iload_n hx hb dX7_recall_31 rfl (lv_at hl 1 rfl) ?_
      refine lv_iconst (v := 3) hx hb dX7_recall_32 (by decide) ?_
      refine kVp ⟨hx, hb, hml, hown, hts⟩ (c_X7_le l D Ax 0 ns fog nr nm nl Lx p1 3 (ixl (inB_vd (by omega) c1) b60 3 (by decide))) (cwV 2 hts gX7_recall_X7_le rfl rfl rfl (by decide +kernel) ⟨Nat.le_of_ble_eq_true rfl, Nat.le_of_ble_eq_true rfl⟩) hK hN hP hD Sb.self 7 0 rfl rfl rfl hl.1 (Nat.le_of_ble_eq_true rfl) ⟨Nat.zero_le _, Nat.zero_le _⟩ dX7_recall_33 ?_ rfl
      refine lv_iconst (v := 1) hx hb dX7_recall_36 (by decide) ?_
      refine lv_icmp_le (tgt := 46) hx hb dX7_recall_37 (by decide) (fun c3 => ?_) (fun c3 => ?_)
      · refine lv_aload_n hx hb dX7_recall_46 rfl (lv_at hl 0 rfl) ?_
        refine lv_iload_n hx hb dX7_recall_47 rfl (lv_at hl 1 rfl) ?_
        refine lv_bipush (v := 6) hx hb dX7_recall_48 (by decide) ?_
        refine lv_iconst (v := 1) hx hb dX7_recall_50 (by decide) ?_
        refine kVw ⟨hx, hb, hml, hown, hts⟩ (c_X7_setLe l D Ax 0 ns fog nr nm nl Lx p1 6 1 (ixl (inB_vd (by omega) c1) b60 6 (by decide))) (cwV 3 hts gX7_recall_X7_setLe rfl rfl rfl (by decide +kernel) ⟨Nat.le_of_ble_eq_true rfl, Nat.le_of_ble_eq_true rfl⟩) hK hN hP hD hS frsMod 7 0 rfl rfl rfl hl.1 (Nat.le_of_ble_eq_true rfl) ⟨Nat.zero_le _, Nat.zero_le _⟩ dX7_recall_51 (fun H locs hP hD hS => ?_) rfl
        have hP : va_P D.1 vwCl (wMod D Ax 0 ns fog nr nm nl (seM Lx p1 6 1)) H := hP
        have hD : va_D A0 (wMod D Ax 0 ns fog nr nm nl (seM Lx p1 6 1)) := hD
        refine W.eq (g2 := F0 m 54 ls []) rfl ?_
        refine lv_aload_n hx hb dX7_recall_54 rfl (lv_at hl 0 rfl) ?_
        refine lv_iload_n hx hb dX7_recall_55 rfl (lv_at hl 1 rfl) ?_
        refine lv_bipush (v := 10) hx hb dX7_recall_56 (by decide) ?_
        refine lv_iconst (v := 1) hx hb dX7_recall_58 (by decide) ?_
        refine lv_aload_n hx hb dX7_recall_59 rfl (lv_at hl 0 rfl) ?_
        refine lv_iload_n hx hb dX7_recall_60 rfl (lv_at hl 1 rfl) ?_
        refine lv_iconst (v := 0) hx hb dX7_recall_61 (by decide) ?_
        refine kVp ⟨hx, hb, hml, hown, hts⟩ (c_X7_le l D Ax 0 ns fog nr nm nl (seM Lx p1 6 1) p1 0 (ixl (inB_vd (by omega) c1) b60 0 (by decide))) (cwV 2 hts gX7_recall_X7_le rfl rfl rfl (by decide +kernel) ⟨Nat.le_of_ble_eq_true rfl, Nat.le_of_ble_eq_true rfl⟩) hK hN hP hD Sb.self 7 0 rfl rfl rfl hl.1 (Nat.le_of_ble_eq_true rfl) ⟨Nat.zero_le _, Nat.zero_le _⟩ dX7_recall_62 ?_ rfl
        refine lv_ishl hx hb dX7_recall_65 ?_
        refine kVw ⟨hx, hb, hml, hown, hts⟩ (c_X7_setLe l D Ax 0 ns fog nr nm nl (seM Lx p1 6 1) p1 10 ((1 : Int32) <<< ((leM (seM Lx p1 6 1) p1 0) &&& 31)) (ixl (inB_vd (by omega) c1) b60 10 (by decide))) (cwV 3 hts gX7_recall_X7_setLe rfl rfl rfl (by decide +kernel) ⟨Nat.le_of_ble_eq_true rfl, Nat.le_of_ble_eq_true rfl⟩) hK hN hP hD hS frsMod 7 0 rfl rfl rfl hl.1 (Nat.le_of_ble_eq_true rfl) ⟨Nat.zero_le _, Nat.zero_le _⟩ dX7_recall_66 (fun H locs hP hD hS => ?_) rfl
        have hP : va_P D.1 vwCl (wMod D Ax 0 ns fog nr nm nl (seM (seM Lx p1 6 1) p1 10 ((1 : Int32) <<< ((leM (seM Lx p1 6 1) p1 0) &&& 31)))) H := hP
        have hD : va_D A0 (wMod D Ax 0 ns fog nr nm nl (seM (seM Lx p1 6 1) p1 10 ((1 : Int32) <<< ((leM (seM Lx p1 6 1) p1 0) &&& 31)))) := hD
        refine W.eq (g2 := F0 m 69 ls []) rfl ?_
        refine lv_aload_n hx hb dX7_recall_69 rfl (lv_at hl 0 rfl) ?_
        refine lv_iload_n hx hb dX7_recall_70 rfl (lv_at hl 1 rfl) ?_
        refine lv_bipush (v := 10) hx hb dX7_recall_71 (by decide) ?_
        refine kVp ⟨hx, hb, hml, hown, hts⟩ (c_X7_le l D Ax 0 ns fog nr nm nl (seM (seM Lx p1 6 1) p1 10 ((1 : Int32) <<< ((leM (seM Lx p1 6 1) p1 0) &&& 31))) p1 10 (ixl (inB_vd (by omega) c1) b60 10 (by decide))) (cwV 2 hts gX7_recall_X7_le rfl rfl rfl (by decide +kernel) ⟨Nat.le_of_ble_eq_true rfl, Nat.le_of_ble_eq_true rfl⟩) hK hN hP hD Sb.self 7 0 rfl rfl rfl hl.1 (Nat.le_of_ble_eq_true rfl) ⟨Nat.zero_le _, Nat.zero_le _⟩ dX7_recall_73 ?_ rfl
        refine lv_istore_n (lv' := [(2, .int (leM (seM (seM Lx p1 6 1) p1 10 ((1 : Int32) <<< ((leM (seM Lx p1 6 1) p1 0) &&& 31))) p1 10)), (0, .ref (Ax 0)), (1, .int p1)]) hx hb dX7_recall_76 rfl hl (by decide) rfl (fun ls hl => ?_)
        refine lv_iconst (v := 0) hx hb dX7_recall_77 (by decide) ?_
        refine lv_istore_n (lv' := [(3, .int 0), (2, .int (leM (seM (seM Lx p1 6 1) p1 10 ((1 : Int32) <<< ((leM (seM Lx p1 6 1) p1 0) &&& 31))) p1 10)), (0, .ref (Ax 0)), (1, .int p1)]) hx hb dX7_recall_78 rfl hl (by decide) rfl (fun ls hl => ?_)
        have lp4 : ∀ (j4 : Nat) (k4 : Nat) (hk4 : k4 + j4 = ns) (x3_4 : Int32) (e3_4 : x3_4 = (nI k4)) (x2_4 : Int32) (e2_4 : x2_4 = (evM (rc1 Lx p1) ns fog (leM (rc1 Lx p1) p1 10) k4)) (yxL_4 : Nat → Nat → Int32) (eyxL_4 : yxL_4 = (rc1 Lx p1)) (H : Heap) (locs : List Loc) (hP : va_P D.1 vwCl (wMod D Ax 0 ns fog nr nm nl yxL_4) H) (hD : va_D A0 (wMod D Ax 0 ns fog nr nm nl yxL_4)) (hS : va_S A0 s.heap H locs) (ls : Array Slot) (hl : lv_has ls 4 [(3, .int x3_4), (2, .int x2_4), (0, .ref (Ax 0)), (1, .int p1)]), W p l e (headSpec wsX7_recall ({ frames := 2, cells := 0, slots := 0, locals := 44 } : Room)).room s m ([.ref (Ax 0), .int p1] : List Value).toArray below meth c H locs 0 0 (MQ below (QW D (some (.int ((prc Lx ns fog nl p1).1))) (wMod D Ax ((prc Lx ns fog nl p1).2.1) ns fog nr nm nl ((prc Lx ns fog nl p1).2.2)) A0) ([.ref (Ax 0), .int p1] : List Value).toArray s 0 0 A0) (F0 m 79 ls []) := by
          intro j4
          induction j4 with
          | zero =>
            intro k4 hk4 x3_4 e3_4 x2_4 e2_4 yxL_4 eyxL_4  H locs hP hD hS ls hl
            subst e3_4 e2_4 eyxL_4
            have hkN4 : ns = k4 := (by omega)
            subst hkN4
            refine lv_iload_n hx hb dX7_recall_79 rfl (lv_at hl 0 rfl) ?_
            refine lv_aload_n hx hb dX7_recall_80 rfl (lv_at hl 2 rfl) ?_
            refine va_get (D := D.1) (ci := 7) (v := .int (nI ns)) (C := RX7) (T := TX7) (N := 14) hx hb hts hinX7 hown hK hP 0 rfl rfl 1 (by decide) (hts (.fieldLink RX7 38 "MountainPostModel" "stations" "I") (List.mem_of_getElem? (i := 2) rfl)) (fun _ h9 => h9) rfl dX7_recall_81 ?_
            refine lv_icmp_ge (tgt := 99) hx hb dX7_recall_84 (by decide) (fun c5 => ?_) (fun c5 => ?_)
            · refine lv_iload_n hx hb dX7_recall_99 rfl (lv_at hl 1 rfl) ?_
              refine kSp ⟨hx, hb, hml, hown, hts⟩ (c_J6_bitCount_0f7a4 l D (evM (rc1 Lx p1) ns fog (leM (rc1 Lx p1) p1 10) ns)) (va_cwS 1 hts gX7_recall_J6_bitCount_0f7a4 rfl rfl rfl (by decide +kernel) ⟨Nat.le_of_ble_eq_true rfl, Nat.le_of_ble_eq_true rfl⟩) hK hN hP hD Sb.nil  rfl hl.1 (Nat.le_of_ble_eq_true rfl) ⟨Nat.zero_le _, Nat.zero_le _⟩ dX7_recall_100 ?_ rfl
              refine lv_iconst (v := 1) hx hb dX7_recall_103 (by decide) ?_
              refine lv_isub hx hb dX7_recall_104 ?_
              exact eWi hx hb hr hlocks dX7_recall_105 hS hP (by (rw [prc, if_pos c1, if_neg c2, if_pos c3]; first | done | rw [z2, if_pos (by assumption)] | rw [z2, if_neg (by assumption)] | rfl)) (by (rw [prc, if_pos c1, if_neg c2, if_pos c3]; first | done | rw [z2, if_pos (by assumption)] | rw [z2, if_neg (by assumption)] | rfl))
            · exact (up0 rfl c5).elim
          | succ j4 ih4 =>
            intro k4 hk4 x3_4 e3_4 x2_4 e2_4 yxL_4 eyxL_4  H locs hP hD hS ls hl
            subst e3_4 e2_4 eyxL_4
            have hlt4 : k4 < ns := by omega
            have hlt : k4 < ns := hlt4
            refine lv_iload_n hx hb dX7_recall_79 rfl (lv_at hl 0 rfl) ?_
            refine lv_aload_n hx hb dX7_recall_80 rfl (lv_at hl 2 rfl) ?_
            refine va_get (D := D.1) (ci := 7) (v := .int (nI ns)) (C := RX7) (T := TX7) (N := 14) hx hb hts hinX7 hown hK hP 0 rfl rfl 1 (by decide) (hts (.fieldLink RX7 38 "MountainPostModel" "stations" "I") (List.mem_of_getElem? (i := 2) rfl)) (fun _ h9 => h9) rfl dX7_recall_81 ?_
            refine lv_icmp_ge (tgt := 99) hx hb dX7_recall_84 (by decide) (fun c6 => ?_) (fun c6 => ?_)
            · exact (upS hk4 (by omega) c6).elim
            · refine lv_aload_n hx hb dX7_recall_87 rfl (lv_at hl 2 rfl) ?_
              refine lv_iload_n hx hb dX7_recall_88 rfl (lv_at hl 1 rfl) ?_
              refine kVp ⟨hx, hb, hml, hown, hts⟩ (c_X7_handOn l D Ax 0 ns fog nr nm nl (rc1 Lx p1) (evM (rc1 Lx p1) ns fog (leM (rc1 Lx p1) p1 10) k4) (by assumption)) (cwV 1 hts gX7_recall_X7_handOn rfl rfl rfl (by decide +kernel) ⟨Nat.le_of_ble_eq_true rfl, Nat.le_of_ble_eq_true rfl⟩) hK hN hP hD Sb.self 7 0 rfl rfl rfl hl.1 (Nat.le_of_ble_eq_true rfl) ⟨Nat.zero_le _, Nat.zero_le _⟩ dX7_recall_89 ?_ rfl
              refine lv_istore_n (lv' := [(2, .int (litM (rc1 Lx p1) ns fog (evM (rc1 Lx p1) ns fog (leM (rc1 Lx p1) p1 10) k4))), (3, .int (nI k4)), (0, .ref (Ax 0)), (1, .int p1)]) hx hb dX7_recall_92 rfl hl (by decide) rfl (fun ls hl => ?_)
              refine lv_iinc (v := ((nI k4) + 1)) (lv' := [(3, .int ((nI k4) + 1)), (2, .int (litM (rc1 Lx p1) ns fog (evM (rc1 Lx p1) ns fog (leM (rc1 Lx p1) p1 10) k4))), (0, .ref (Ax 0)), (1, .int p1)]) hx hb dX7_recall_93 hl (k := 1) rfl rfl (by decide) rfl (fun ls hl => ?_)
              refine lv_goto (tgt := 79) hx hb dX7_recall_96 (by decide) ?_
              exact ih4 (k4 + 1) (by omega) _ (nI_1 k4) _ rfl _ rfl _ _ hP hD hS ls (lv_sub hl [0, 1, 2, 3] rfl)
        exact lp4 ns 0 (by omega) _ nI_0.symm _ rfl _ rfl _ _ hP hD hS ls (lv_sub hl [0, 1, 2, 3] rfl)
      · refine lv_aload_n hx hb dX7_recall_40 rfl (lv_at hl 0 rfl) ?_
        refine lv_iconst (v := 2) hx hb dX7_recall_41 (by decide) ?_
        refine kVw ⟨hx, hb, hml, hown, hts⟩ (c_X7_fail l D Ax 0 ns fog nr nm nl Lx 2) (cwV 1 hts gX7_recall_X7_fail rfl rfl rfl (by decide +kernel) ⟨Nat.le_of_ble_eq_true rfl, Nat.le_of_ble_eq_true rfl⟩) hK hN hP hD hS frsMod 7 0 rfl rfl rfl hl.1 (Nat.le_of_ble_eq_true rfl) ⟨Nat.zero_le _, Nat.zero_le _⟩ dX7_recall_42 (fun H locs hP hD hS => ?_) rfl
        have hP : va_P D.1 vwCl (wMod D Ax 2 ns fog nr nm nl Lx) H := hP
        have hD : va_D A0 (wMod D Ax 2 ns fog nr nm nl Lx) := hD
        refine W.eq (g2 := F0 m 45 ls [.int 0]) rfl ?_
        exact eWi hx hb hr hlocks dX7_recall_45 hS hP (by (rw [prc, if_pos c1, if_neg c2, if_neg c3]; first | done | rw [z2, if_pos (by assumption)] | rw [z2, if_neg (by assumption)] | rfl)) (by (rw [prc, if_pos c1, if_neg c2, if_neg c3]; first | done | rw [z2, if_pos (by assumption)] | rw [z2, if_neg (by assumption)] | rfl))
  · have c1 := z2_0.mp c1
    refine lv_aload_n hx hb dX7_recall_13 rfl (lv_at hl 0 rfl) ?_
    refine lv_iconst (v := 1) hx hb dX7_recall_14 (by decide) ?_
    refine kVw ⟨hx, hb, hml, hown, hts⟩ (c_X7_fail l D Ax 0 ns fog nr nm nl Lx 1) (cwV 1 hts gX7_recall_X7_fail rfl rfl rfl (by decide +kernel) ⟨Nat.le_of_ble_eq_true rfl, Nat.le_of_ble_eq_true rfl⟩) hK hN hP hD hS frsMod 7 0 rfl rfl rfl hl.1 (Nat.le_of_ble_eq_true rfl) ⟨Nat.zero_le _, Nat.zero_le _⟩ dX7_recall_15 (fun H locs hP hD hS => ?_) rfl
    have hP : va_P D.1 vwCl (wMod D Ax 1 ns fog nr nm nl Lx) H := hP
    have hD : va_D A0 (wMod D Ax 1 ns fog nr nm nl Lx) := hD
    refine W.eq (g2 := F0 m 18 ls [.int 0]) rfl ?_
    exact eWi hx hb hr hlocks dX7_recall_18 hS hP (by (rw [prc, if_neg c1]; first | done | rw [z2, if_pos (by assumption)] | rw [z2, if_neg (by assumption)] | rfl)) (by (rw [prc, if_neg c1]; first | done | rw [z2, if_pos (by assumption)] | rw [z2, if_neg (by assumption)] | rfl))
