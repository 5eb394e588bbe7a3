set_option maxHeartbeats 4000000 in
set_option maxRecDepth 100000 in
theorem c_X7_counted (l : Launch) (D : GG) (Ax : Nat → Nat) (th : Int32) (ns : Nat) (fog : Int32) (nr : Nat) (nm : Nat) (nl : Nat) (Lx : Nat → Nat → Int32) (p1 : Int32) (b60 : nl ≤ 60) : Met l yX7_counted wsX7_counted ({ frames := 2, cells := 0, slots := 0, locals := 47 } : Room) (va_Pc [.ref (Ax 0), .int p1] (wd D (wMod D Ax th ns fog nr nm nl Lx))) (RP (.int (cnM Lx ns nr nm nl p1))) 0 0 (fun _ => False) := by
  refine Met.ofW (cc := cX7_counted) (maxL := 2) (ret := (some .int)) (by decide) rfl ?_
  intro p e s m args below meth c s₁ B hml hv
  obtain ⟨rfl, hP, hK, hD, hN⟩ := hv
  have hx := B.exec
  have hb := B.bytes
  have hr := B.returns
  have hts := atoms_spec (ws := wsX7_counted) B.pre
  have hown : s.vm.findClass RX7 = some m.cls := findClass_of_methodNamed B.named
  have hlocks := B.notSynchronized
  have hinX7 : ∀ w ∈ u_ws RX7 TX7 14, w ∈ wsX7_counted := by decide +kernel
  have hl := lv_entry ([.ref (Ax 0), .int p1]) (n := 2) (Nat.le_of_ble_eq_true rfl)
  rw [lg_entry_eq]
  generalize (lg_sl ([.ref (Ax 0), .int p1]) ++ List.replicate (2 - (lg_sl ([.ref (Ax 0), .int p1])).length) Slot.unset).toArray = ls at hl ⊢
  have hl : lv_has ls 2 [(0, .ref (Ax 0)), (1, .int p1)] := hl
  refine lv_iload_n hx hb dX7_counted_0 rfl (lv_at hl 1 rfl) ?_
  by_cases h1_0 : p1 = 0
  · refine lv_tableIn (tgt := 56) (off := 55) hx hb dX7_counted_1 (by rw [h1_0]; decide) (by rw [h1_0]; decide) (by rw [h1_0]; decide) (by decide) ?_
    refine lv_aload_n hx hb dX7_counted_56 rfl (lv_at hl 0 rfl) ?_
    refine va_get (D := D.1) (ci := 7) (v := .ref (Ax 6)) (C := RX7) (T := TX7) (N := 14) hx hb hts hinX7 hown hK hP 0 rfl rfl 11 (by decide) (hts (.fieldLink RX7 25 "MountainPostModel" "numbers" "[I") (List.mem_of_getElem? (i := 1) rfl)) (fun _ h9 => h9) rfl dX7_counted_57 ?_
    refine lv_iconst (v := 0) hx hb dX7_counted_60 (by decide) ?_
    refine va_iald (D := D.1) hx hb hK hP 6 0 rfl rfl (show vp_in (nI 0) 2 from vp_in_nI (by decide) (by decide)) dX7_counted_61 ?_
    refine W.eq (g2 := F0 m 62 ls [.int (rg 2 (Lx 5) (0 : Int32))]) (congrArg (fun zz : Int32 => F0 m 62 ls [.int zz]) (show ((Lx 5) (0 : Int32).toNatClampNeg) = (rg 2 (Lx 5) (0 : Int32)) from (rg_vp (show vp_in (nI 0) 2 from vp_in_nI (by decide) (by decide))).symm)) ?_
    exact eI hx hb hr hlocks dX7_counted_62 (by (rw [cnM, if_pos h1_0]; first | done | rw [z2, if_pos (by assumption)] | rw [z2, if_neg (by assumption)] | rfl))
  by_cases h1_1 : p1 = 1
  · refine lv_tableIn (tgt := 63) (off := 62) hx hb dX7_counted_1 (by rw [h1_1]; decide) (by rw [h1_1]; decide) (by rw [h1_1]; decide) (by decide) ?_
    refine lv_aload_n hx hb dX7_counted_63 rfl (lv_at hl 0 rfl) ?_
    refine va_get (D := D.1) (ci := 7) (v := .int (nI ns)) (C := RX7) (T := TX7) (N := 14) hx hb hts hinX7 hown hK hP 0 rfl rfl 1 (by decide) (hts (.fieldLink RX7 38 "MountainPostModel" "stations" "I") (List.mem_of_getElem? (i := 2) rfl)) (fun _ h9 => h9) rfl dX7_counted_64 ?_
    exact eI hx hb hr hlocks dX7_counted_67 (by (rw [cnM, if_neg h1_0, if_pos h1_1]; first | done | rw [z2, if_pos (by assumption)] | rw [z2, if_neg (by assumption)] | rfl))
  by_cases h1_2 : p1 = 2
  · refine lv_tableIn (tgt := 68) (off := 67) hx hb dX7_counted_1 (by rw [h1_2]; decide) (by rw [h1_2]; decide) (by rw [h1_2]; decide) (by decide) ?_
    refine lv_aload_n hx hb dX7_counted_68 rfl (lv_at hl 0 rfl) ?_
    refine va_get (D := D.1) (ci := 7) (v := .int (nI nr)) (C := RX7) (T := TX7) (N := 14) hx hb hts hinX7 hown hK hP 0 rfl rfl 5 (by decide) (hts (.fieldLink RX7 45 "MountainPostModel" "roads" "I") (List.mem_of_getElem? (i := 3) rfl)) (fun _ h9 => h9) rfl dX7_counted_69 ?_
    exact eI hx hb hr hlocks dX7_counted_72 (by (rw [cnM, if_neg h1_0, if_neg h1_1, if_pos h1_2]; first | done | rw [z2, if_pos (by assumption)] | rw [z2, if_neg (by assumption)] | rfl))
  by_cases h1_3 : p1 = 3
  · refine lv_tableIn (tgt := 73) (off := 72) hx hb dX7_counted_1 (by rw [h1_3]; decide) (by rw [h1_3]; decide) (by rw [h1_3]; decide) (by decide) ?_
    refine lv_aload_n hx hb dX7_counted_73 rfl (lv_at hl 0 rfl) ?_
    refine va_get (D := D.1) (ci := 7) (v := .int (nI nm)) (C := RX7) (T := TX7) (N := 14) hx hb hts hinX7 hown hK hP 0 rfl rfl 7 (by decide) (hts (.fieldLink RX7 73 "MountainPostModel" "mules" "I") (List.mem_of_getElem? (i := 4) rfl)) (fun _ h9 => h9) rfl dX7_counted_74 ?_
    exact eI hx hb hr hlocks dX7_counted_77 (by (rw [cnM, if_neg h1_0, if_neg h1_1, if_neg h1_2, if_pos h1_3]; first | done | rw [z2, if_pos (by assumption)] | rw [z2, if_neg (by assumption)] | rfl))
  by_cases h1_4 : p1 = 4
  · refine lv_tableIn (tgt := 78) (off := 77) hx hb dX7_counted_1 (by rw [h1_4]; decide) (by rw [h1_4]; decide) (by rw [h1_4]; decide) (by decide) ?_
    refine lv_aload_n hx hb dX7_counted_78 rfl (lv_at hl 0 rfl) ?_
    refine va_get (D := D.1) (ci := 7) (v := .int (nI nl)) (C := RX7) (T := TX7) (N := 14) hx hb hts hinX7 hown hK hP 0 rfl rfl 8 (by decide) (hts (.fieldLink RX7 48 "MountainPostModel" "letters" "I") (List.mem_of_getElem? (i := 5) rfl)) (fun _ h9 => h9) rfl dX7_counted_79 ?_
    exact eI hx hb hr hlocks dX7_counted_82 (by (rw [cnM, if_neg h1_0, if_neg h1_1, if_neg h1_2, if_neg h1_3, if_pos h1_4]; first | done | rw [z2, if_pos (by assumption)] | rw [z2, if_neg (by assumption)] | rfl))
  by_cases h1_5 : p1 = 5
  · refine lv_tableIn (tgt := 90) (off := 89) hx hb dX7_counted_1 (by rw [h1_5]; decide) (by rw [h1_5]; decide) (by rw [h1_5]; decide) (by decide) ?_
    refine lv_aload_n hx hb dX7_counted_90 rfl (lv_at hl 0 rfl) ?_
    refine lv_iload_n hx hb dX7_counted_91 rfl (lv_at hl 1 rfl) ?_
    refine lv_iconst (v := 5) hx hb dX7_counted_92 (by decide) ?_
    refine lv_isub hx hb dX7_counted_93 ?_
    refine lv_iconst (v := (-1)) hx hb dX7_counted_94 (by decide) ?_
    refine lv_iconst (v := 0) hx hb dX7_counted_95 (by decide) ?_
    refine kVp ⟨hx, hb, hml, hown, hts⟩ (c_X7_lettersAt l D Ax th ns fog nr nm nl Lx (p1 - 5) (-1) 0 (by assumption) (Or.inl rfl)) (cwV 3 hts gX7_counted_X7_lettersAt rfl rfl rfl (by decide +kernel) ⟨Nat.le_of_ble_eq_true rfl, Nat.le_of_ble_eq_true rfl⟩) hK hN hP hD Sb.self 7 0 rfl rfl rfl hl.1 (Nat.le_of_ble_eq_true rfl) ⟨Nat.zero_le _, Nat.zero_le _⟩ dX7_counted_96 ?_ rfl
    exact eI hx hb hr hlocks dX7_counted_99 (by (rw [cnM, if_neg h1_0, if_neg h1_1, if_neg h1_2, if_neg h1_3, if_neg h1_4, if_pos h1_5]; first | done | rw [z2, if_pos (by assumption)] | rw [z2, if_neg (by assumption)] | rfl))
  by_cases h1_6 : p1 = 6
  · refine lv_tableIn (tgt := 90) (off := 89) hx hb dX7_counted_1 (by rw [h1_6]; decide) (by rw [h1_6]; decide) (by rw [h1_6]; decide) (by decide) ?_
    refine lv_aload_n hx hb dX7_counted_90 rfl (lv_at hl 0 rfl) ?_
    refine lv_iload_n hx hb dX7_counted_91 rfl (lv_at hl 1 rfl) ?_
    refine lv_iconst (v := 5) hx hb dX7_counted_92 (by decide) ?_
    refine lv_isub hx hb dX7_counted_93 ?_
    refine lv_iconst (v := (-1)) hx hb dX7_counted_94 (by decide) ?_
    refine lv_iconst (v := 0) hx hb dX7_counted_95 (by decide) ?_
    refine kVp ⟨hx, hb, hml, hown, hts⟩ (c_X7_lettersAt l D Ax th ns fog nr nm nl Lx (p1 - 5) (-1) 0 (by assumption) (Or.inl rfl)) (cwV 3 hts gX7_counted_X7_lettersAt rfl rfl rfl (by decide +kernel) ⟨Nat.le_of_ble_eq_true rfl, Nat.le_of_ble_eq_true rfl⟩) hK hN hP hD Sb.self 7 0 rfl rfl rfl hl.1 (Nat.le_of_ble_eq_true rfl) ⟨Nat.zero_le _, Nat.zero_le _⟩ dX7_counted_96 ?_ rfl
    exact eI hx hb hr hlocks dX7_counted_99 (by (rw [cnM, if_neg h1_0, if_neg h1_1, if_neg h1_2, if_neg h1_3, if_neg h1_4, if_neg h1_5, if_pos h1_6]; first | done | rw [z2, if_pos (by assumption)] | rw [z2, if_neg (by assumption)] | rfl))
  by_cases h1_7 : p1 = 7
  · refine lv_tableIn (tgt := 90) (off := 89) hx hb dX7_counted_1 (by rw [h1_7]; decide) (by rw [h1_7]; decide) (by rw [h1_7]; decide) (by decide) ?_
    refine lv_aload_n hx hb dX7_counted_90 rfl (lv_at hl 0 rfl) ?_
    refine lv_iload_n hx hb dX7_counted_91 rfl (lv_at hl 1 rfl) ?_
    refine lv_iconst (v := 5) hx hb dX7_counted_92 (by decide) ?_
    refine lv_isub hx hb dX7_counted_93 ?_
    refine lv_iconst (v := (-1)) hx hb dX7_counted_94 (by decide) ?_
    refine lv_iconst (v := 0) hx hb dX7_counted_95 (by decide) ?_
    refine kVp ⟨hx, hb, hml, hown, hts⟩ (c_X7_lettersAt l D Ax th ns fog nr nm nl Lx (p1 - 5) (-1) 0 (by assumption) (Or.inl rfl)) (cwV 3 hts gX7_counted_X7_lettersAt rfl rfl rfl (by decide +kernel) ⟨Nat.le_of_ble_eq_true rfl, Nat.le_of_ble_eq_true rfl⟩) hK hN hP hD Sb.self 7 0 rfl rfl rfl hl.1 (Nat.le_of_ble_eq_true rfl) ⟨Nat.zero_le _, Nat.zero_le _⟩ dX7_counted_96 ?_ rfl
    exact eI hx hb hr hlocks dX7_counted_99 (by (rw [cnM, if_neg h1_0, if_neg h1_1, if_neg h1_2, if_neg h1_3, if_neg h1_4, if_neg h1_5, if_neg h1_6, if_pos h1_7]; first | done | rw [z2, if_pos (by assumption)] | rw [z2, if_neg (by assumption)] | rfl))
  by_cases h1_8 : p1 = 8
  · refine lv_tableIn (tgt := 90) (off := 89) hx hb dX7_counted_1 (by rw [h1_8]; decide) (by rw [h1_8]; decide) (by rw [h1_8]; decide) (by decide) ?_
    refine lv_aload_n hx hb dX7_counted_90 rfl (lv_at hl 0 rfl) ?_
    refine lv_iload_n hx hb dX7_counted_91 rfl (lv_at hl 1 rfl) ?_
    refine lv_iconst (v := 5) hx hb dX7_counted_92 (by decide) ?_
    refine lv_isub hx hb dX7_counted_93 ?_
    refine lv_iconst (v := (-1)) hx hb dX7_counted_94 (by decide) ?_
    refine lv_iconst (v := 0) hx hb dX7_counted_95 (by decide) ?_
    refine kVp ⟨hx, hb, hml, hown, hts⟩ (c_X7_lettersAt l D Ax th ns fog nr nm nl Lx (p1 - 5) (-1) 0 (by assumption) (Or.inl rfl)) (cwV 3 hts gX7_counted_X7_lettersAt rfl rfl rfl (by decide +kernel) ⟨Nat.le_of_ble_eq_true rfl, Nat.le_of_ble_eq_true rfl⟩) hK hN hP hD Sb.self 7 0 rfl rfl rfl hl.1 (Nat.le_of_ble_eq_true rfl) ⟨Nat.zero_le _, Nat.zero_le _⟩ dX7_counted_96 ?_ rfl
    exact eI hx hb hr hlocks dX7_counted_99 (by (rw [cnM, if_neg h1_0, if_neg h1_1, if_neg h1_2, if_neg h1_3, if_neg h1_4, if_neg h1_5, if_neg h1_6, if_neg h1_7, if_pos h1_8]; first | done | rw [z2, if_pos (by assumption)] | rw [z2, if_neg (by assumption)] | rfl))
  by_cases h1_9 : p1 = 9
  · refine lv_tableIn (tgt := 83) (off := 82) hx hb dX7_counted_1 (by rw [h1_9]; decide) (by rw [h1_9]; decide) (by rw [h1_9]; decide) (by decide) ?_
    refine lv_aload_n hx hb dX7_counted_83 rfl (lv_at hl 0 rfl) ?_
    refine va_get (D := D.1) (ci := 7) (v := .ref (Ax 6)) (C := RX7) (T := TX7) (N := 14) hx hb hts hinX7 hown hK hP 0 rfl rfl 11 (by decide) (hts (.fieldLink RX7 25 "MountainPostModel" "numbers" "[I") (List.mem_of_getElem? (i := 1) rfl)) (fun _ h9 => h9) rfl dX7_counted_84 ?_
    refine lv_iconst (v := 1) hx hb dX7_counted_87 (by decide) ?_
    refine va_iald (D := D.1) hx hb hK hP 6 0 rfl rfl (show vp_in (nI 1) 2 from vp_in_nI (by decide) (by decide)) dX7_counted_88 ?_
    refine W.eq (g2 := F0 m 89 ls [.int (rg 2 (Lx 5) (1 : Int32))]) (congrArg (fun zz : Int32 => F0 m 89 ls [.int zz]) (show ((Lx 5) (1 : Int32).toNatClampNeg) = (rg 2 (Lx 5) (1 : Int32)) from (rg_vp (show vp_in (nI 1) 2 from vp_in_nI (by decide) (by decide))).symm)) ?_
    exact eI hx hb hr hlocks dX7_counted_89 (by (rw [cnM, if_neg h1_0, if_neg h1_1, if_neg h1_2, if_neg h1_3, if_neg h1_4, if_neg h1_5, if_neg h1_6, if_neg h1_7, if_neg h1_8, if_pos h1_9]; first | done | rw [z2, if_pos (by assumption)] | rw [z2, if_neg (by assumption)] | rfl))
  refine lv_tableOut (tgt := 90) hx hb dX7_counted_1 (sw_out 9 (by decide) (fun i hi => by rcases (show i = 0 ∨ i = 1 ∨ i = 2 ∨ i = 3 ∨ i = 4 ∨ i = 5 ∨ i = 6 ∨ i = 7 ∨ i = 8 ∨ i = 9 by omega) with rfl | rfl | rfl | rfl | rfl | rfl | rfl | rfl | rfl | rfl <;> assumption)) (by decide) ?_
  refine lv_aload_n hx hb dX7_counted_90 rfl (lv_at hl 0 rfl) ?_
  refine lv_iload_n hx hb dX7_counted_91 rfl (lv_at hl 1 rfl) ?_
  refine lv_iconst (v := 5) hx hb dX7_counted_92 (by decide) ?_
  refine lv_isub hx hb dX7_counted_93 ?_
  refine lv_iconst (v := (-1)) hx hb dX7_counted_94 (by decide) ?_
  refine lv_iconst (v := 0) hx hb dX7_counted_95 (by decide) ?_
  refine kVp ⟨hx, hb, hml, hown, hts⟩ (c_X7_lettersAt l D Ax th ns fog nr nm nl Lx (p1 - 5) (-1) 0 (by assumption) (Or.inl rfl)) (cwV 3 hts gX7_counted_X7_lettersAt rfl rfl rfl (by decide +kernel) ⟨Nat.le_of_ble_eq_true rfl, Nat.le_of_ble_eq_true rfl⟩) hK hN hP hD Sb.self 7 0 rfl rfl rfl hl.1 (Nat.le_of_ble_eq_true rfl) ⟨Nat.zero_le _, Nat.zero_le _⟩ dX7_counted_96 ?_ rfl
  exact eI hx hb hr hlocks dX7_counted_99 (by (rw [cnM, if_neg h1_0, if_neg h1_1, if_neg h1_2, if_neg h1_3, if_neg h1_4, if_neg h1_5, if_neg h1_6, if_neg h1_7, if_neg h1_8, if_neg h1_9]; first | done | rw [z2, if_pos (by assumption)] | rw [z2, if_neg (by assumption)] | rfl))

set_option maxHeartbeats 4000000 in
set_option maxRecDepth 100000 in
theorem c_X7_roadTold (l : Launch) (D : GG) (Ax : Nat → Nat) (th : Int32) (ns : Nat) (fog : Int32) (nr : Nat) (nm : Nat) (nl : Nat) (Lx : Nat → Nat → Int32) (p1 : Int32) (p2 : Int32) (b10 : ns ≤ 10) (b15 : nr ≤ 15) (b12 : nm ≤ 12) (b60 : nl ≤ 60) (hvr : vd nr p1) (hw6 : vd 6 p2) (hk : okR Lx nr ns) : Met l yX7_roadTold wsX7_roadTold ({ frames := 3, cells := 0, slots := 0, locals := 66 } : Room) (va_Pc [.ref (Ax 0), .int p1, .int p2] (wd D (wMod D Ax th ns fog nr nm nl Lx))) (RP (.int (trM Lx nm p1 p2))) 0 0 (fun _ => False) := by
  refine Met.ofW (cc := cX7_roadTold) (maxL := 3) (ret := (some .int)) (by decide) rfl ?_
  intro p e s m args below meth c s₁ B hml hv
  obtain ⟨rfl, hP, hK, hD, hN⟩ := hv
  have hx := B.exec
  have hb := B.bytes
  have hr := B.returns
  have hts := atoms_spec (ws := wsX7_roadTold) B.pre
  have hown : s.vm.findClass RX7 = some m.cls := findClass_of_methodNamed B.named
  have hlocks := B.notSynchronized
  have hl := lv_entry ([.ref (Ax 0), .int p1, .int p2]) (n := 3) (Nat.le_of_ble_eq_true rfl)
  rw [lg_entry_eq]
  generalize (lg_sl ([.ref (Ax 0), .int p1, .int p2]) ++ List.replicate (3 - (lg_sl ([.ref (Ax 0), .int p1, .int p2])).length) Slot.unset).toArray = ls at hl ⊢
  have hl : lv_has ls 3 [(0, .ref (Ax 0)), (1, .int p1), (2, .int p2)] := hl
  refine lv_iload_n hx hb dX7_roadTold_0 rfl (lv_at hl 2 rfl) ?_
  refine lv_iconst (v := 2) hx hb dX7_roadTold_1 (by decide) ?_
  refine lv_icmp_ge (tgt := 14) hx hb dX7_roadTold_2 (by decide) (fun c1 => ?_) (fun c1 => ?_)
  · refine lv_iload_n hx hb dX7_roadTold_14 rfl (lv_at hl 2 rfl) ?_
    refine lv_iconst (v := 4) hx hb dX7_roadTold_15 (by decide) ?_
    refine lv_icmp_ge (tgt := 35) hx hb dX7_roadTold_16 (by decide) (fun c2 => ?_) (fun c2 => ?_)
    · refine lv_aload_n hx hb dX7_roadTold_35 rfl (lv_at hl 0 rfl) ?_
      refine lv_iload_n hx hb dX7_roadTold_36 rfl (lv_at hl 1 rfl) ?_
      refine lv_iload_n hx hb dX7_roadTold_37 rfl (lv_at hl 2 rfl) ?_
      refine lv_iconst (v := 5) hx hb dX7_roadTold_38 (by decide) ?_
      refine lv_icmp_ne (tgt := 46) hx hb dX7_roadTold_39 (by decide) (fun c3 => ?_) (fun c3 => ?_)
      · refine lv_iconst (v := 0) hx hb dX7_roadTold_46 (by decide) ?_
        refine kVp ⟨hx, hb, hml, hown, hts⟩ (c_X7_mulesOn l D Ax th ns fog nr nm nl Lx p1 0 (by assumption)) (cwV 2 hts gX7_roadTold_X7_mulesOn rfl rfl rfl (by decide +kernel) ⟨Nat.le_of_ble_eq_true rfl, Nat.le_of_ble_eq_true rfl⟩) hK hN hP hD Sb.self 7 0 rfl rfl rfl hl.1 (Nat.le_of_ble_eq_true rfl) ⟨Nat.zero_le _, Nat.zero_le _⟩ dX7_roadTold_47 ?_ rfl
        exact eI hx hb hr hlocks dX7_roadTold_50 (by (rw [trM, if_pos c1, if_pos c2, if_neg c3]; first | done | rw [z2, if_pos (by assumption)] | rw [z2, if_neg (by assumption)] | rfl))
      · refine lv_iconst (v := 1) hx hb dX7_roadTold_42 (by decide) ?_
        refine lv_goto (tgt := 47) hx hb dX7_roadTold_43 (by decide) ?_
        refine kVp ⟨hx, hb, hml, hown, hts⟩ (c_X7_mulesOn l D Ax th ns fog nr nm nl Lx p1 1 (by assumption)) (cwV 2 hts gX7_roadTold_X7_mulesOn rfl rfl rfl (by decide +kernel) ⟨Nat.le_of_ble_eq_true rfl, Nat.le_of_ble_eq_true rfl⟩) hK hN hP hD Sb.self 7 0 rfl rfl rfl hl.1 (Nat.le_of_ble_eq_true rfl) ⟨Nat.zero_le _, Nat.zero_le _⟩ dX7_roadTold_47 ?_ rfl
        exact eI hx hb hr hlocks dX7_roadTold_50 (by (rw [trM, if_pos c1, if_pos c2, if_pos c3]; first | done | rw [z2, if_pos (by assumption)] | rw [z2, if_neg (by assumption)] | rfl))
    · refine lv_aload_n hx hb dX7_roadTold_19 rfl (lv_at hl 0 rfl) ?_
      refine lv_iload_n hx hb dX7_roadTold_20 rfl (lv_at hl 1 rfl) ?_
      refine lv_aload_n hx hb dX7_roadTold_21 rfl (lv_at hl 0 rfl) ?_
      refine lv_iload_n hx hb dX7_roadTold_22 rfl (lv_at hl 1 rfl) ?_
      refine lv_iload_n hx hb dX7_roadTold_23 rfl (lv_at hl 2 rfl) ?_
      refine lv_iconst (v := 2) hx hb dX7_roadTold_24 (by decide) ?_
      refine lv_isub hx hb dX7_roadTold_25 ?_
      refine kVp ⟨hx, hb, hml, hown, hts⟩ (c_X7_ro l D Ax th ns fog nr nm nl Lx p1 (p2 - 2) (ixrv hvr b15 (vd_up (vd_sub 2 (by decide) (by decide) (vd_lt 4 (by decide) (by decide) hw6 c2) c1) (by decide)))) (cwV 2 hts gX7_roadTold_X7_ro rfl rfl rfl (by decide +kernel) ⟨Nat.le_of_ble_eq_true rfl, Nat.le_of_ble_eq_true rfl⟩) hK hN hP hD Sb.self 7 0 rfl rfl rfl hl.1 (Nat.le_of_ble_eq_true rfl) ⟨Nat.zero_le _, Nat.zero_le _⟩ dX7_roadTold_26 ?_ rfl
      refine kVp ⟨hx, hb, hml, hown, hts⟩ (c_X7_hoursFrom l D Ax th ns fog nr nm nl Lx p1 (roM Lx p1 (p2 - 2)) (by assumption) (by assumption) (by assumption) (okR_v hk hvr (vd_sub 2 (by decide) (by decide) (vd_lt 4 (by decide) (by decide) hw6 c2) c1)) (by assumption)) (cwV 2 hts gX7_roadTold_X7_hoursFrom rfl rfl rfl (by decide +kernel) ⟨Nat.le_of_ble_eq_true rfl, Nat.le_of_ble_eq_true rfl⟩) hK hN hP hD Sb.self 7 0 rfl rfl rfl hl.1 (Nat.le_of_ble_eq_true rfl) ⟨Nat.zero_le _, Nat.zero_le _⟩ dX7_roadTold_29 ?_ rfl
      refine lv_goto (tgt := 50) hx hb dX7_roadTold_32 (by decide) ?_
      exact eI hx hb hr hlocks dX7_roadTold_50 (by (rw [trM, if_pos c1, if_neg c2]; first | done | rw [z2, if_pos (by assumption)] | rw [z2, if_neg (by assumption)] | rfl))
  · refine lv_aload_n hx hb dX7_roadTold_5 rfl (lv_at hl 0 rfl) ?_
    refine lv_iload_n hx hb dX7_roadTold_6 rfl (lv_at hl 1 rfl) ?_
    refine lv_iload_n hx hb dX7_roadTold_7 rfl (lv_at hl 2 rfl) ?_
    refine kVp ⟨hx, hb, hml, hown, hts⟩ (c_X7_ro l D Ax th ns fog nr nm nl Lx p1 p2 (ixrv hvr b15 (vd_up (vd_lt 2 (by decide) (by decide) hw6 c1) (by decide)))) (cwV 2 hts gX7_roadTold_X7_ro rfl rfl rfl (by decide +kernel) ⟨Nat.le_of_ble_eq_true rfl, Nat.le_of_ble_eq_true rfl⟩) hK hN hP hD Sb.self 7 0 rfl rfl rfl hl.1 (Nat.le_of_ble_eq_true rfl) ⟨Nat.zero_le _, Nat.zero_le _⟩ dX7_roadTold_8 ?_ rfl
    refine lv_goto (tgt := 50) hx hb dX7_roadTold_11 (by decide) ?_
    exact eI hx hb hr hlocks dX7_roadTold_50 (by (rw [trM, if_neg c1]; first | done | rw [z2, if_pos (by assumption)] | rw [z2, if_neg (by assumption)] | rfl))

set_option maxHeartbeats 4000000 in
set_option maxRecDepth 100000 in
theorem c_X7_muleTold (l : Launch) (D : GG) (Ax : Nat → Nat) (th : Int32) (ns : Nat) (fog : Int32) (nr : Nat) (nm : Nat) (nl : Nat) (Lx : Nat → Nat → Int32) (p1 : Int32) (p2 : Int32) (b10 : ns ≤ 10) (b15 : nr ≤ 15) (b12 : nm ≤ 12) (b60 : nl ≤ 60) (hvm : vd nm p1) (hw6 : vd 6 p2) : Met l yX7_muleTold wsX7_muleTold ({ frames := 2, cells := 0, slots := 0, locals := 47 } : Room) (va_Pc [.ref (Ax 0), .int p1, .int p2] (wd D (wMod D Ax th ns fog nr nm nl Lx))) (RP (.int (tmM Lx nl p1 p2))) 0 0 (fun _ => False) := by
  refine Met.ofW (cc := cX7_muleTold) (maxL := 3) (ret := (some .int)) (by decide) rfl ?_
  intro p e s m args below meth c s₁ B hml hv
  obtain ⟨rfl, hP, hK, hD, hN⟩ := hv
  have hx := B.exec
  have hb := B.bytes
  have hr := B.returns
  have hts := atoms_spec (ws := wsX7_muleTold) B.pre
  have hown : s.vm.findClass RX7 = some m.cls := findClass_of_methodNamed B.named
  have hlocks := B.notSynchronized
  have hl := lv_entry ([.ref (Ax 0), .int p1, .int p2]) (n := 3) (Nat.le_of_ble_eq_true rfl)
  rw [lg_entry_eq]
  generalize (lg_sl ([.ref (Ax 0), .int p1, .int p2]) ++ List.replicate (3 - (lg_sl ([.ref (Ax 0), .int p1, .int p2])).length) Slot.unset).toArray = ls at hl ⊢
  have hl : lv_has ls 3 [(0, .ref (Ax 0)), (1, .int p1), (2, .int p2)] := hl
  refine lv_iload_n hx hb dX7_muleTold_0 rfl (lv_at hl 2 rfl) ?_
  refine lv_iconst (v := 4) hx hb dX7_muleTold_1 (by decide) ?_
  refine lv_icmp_ge (tgt := 14) hx hb dX7_muleTold_2 (by decide) (fun c1 => ?_) (fun c1 => ?_)
  · refine lv_iload_n hx hb dX7_muleTold_14 rfl (lv_at hl 2 rfl) ?_
    refine lv_iconst (v := 4) hx hb dX7_muleTold_15 (by decide) ?_
    refine lv_icmp_ne (tgt := 29) hx hb dX7_muleTold_16 (by decide) (fun c2 => ?_) (fun c2 => ?_)
    · refine lv_aload_n hx hb dX7_muleTold_29 rfl (lv_at hl 0 rfl) ?_
      refine lv_iload_n hx hb dX7_muleTold_30 rfl (lv_at hl 1 rfl) ?_
      refine lv_iconst (v := 4) hx hb dX7_muleTold_31 (by decide) ?_
      refine kVp ⟨hx, hb, hml, hown, hts⟩ (c_X7_mu l D Ax th ns fog nr nm nl Lx p1 4 (ixm (by assumption) b12 4 (by decide))) (cwV 2 hts gX7_muleTold_X7_mu rfl rfl rfl (by decide +kernel) ⟨Nat.le_of_ble_eq_true rfl, Nat.le_of_ble_eq_true rfl⟩) hK hN hP hD Sb.self 7 0 rfl rfl rfl hl.1 (Nat.le_of_ble_eq_true rfl) ⟨Nat.zero_le _, Nat.zero_le _⟩ dX7_muleTold_32 ?_ rfl
      exact eI hx hb hr hlocks dX7_muleTold_35 (by (rw [tmM, if_pos c1, if_neg c2]; first | done | rw [z2, if_pos (by assumption)] | rw [z2, if_neg (by assumption)] | rfl))
    · refine lv_aload_n hx hb dX7_muleTold_19 rfl (lv_at hl 0 rfl) ?_
      refine lv_iconst (v := 1) hx hb dX7_muleTold_20 (by decide) ?_
      refine lv_iconst (v := 5) hx hb dX7_muleTold_21 (by decide) ?_
      refine lv_iload_n hx hb dX7_muleTold_22 rfl (lv_at hl 1 rfl) ?_
      refine kVp ⟨hx, hb, hml, hown, hts⟩ (c_X7_lettersAt l D Ax th ns fog nr nm nl Lx 1 5 p1 (by assumption) (Or.inr ⟨5, by decide, rfl⟩)) (cwV 3 hts gX7_muleTold_X7_lettersAt rfl rfl rfl (by decide +kernel) ⟨Nat.le_of_ble_eq_true rfl, Nat.le_of_ble_eq_true rfl⟩) hK hN hP hD Sb.self 7 0 rfl rfl rfl hl.1 (Nat.le_of_ble_eq_true rfl) ⟨Nat.zero_le _, Nat.zero_le _⟩ dX7_muleTold_23 ?_ rfl
      refine lv_goto (tgt := 35) hx hb dX7_muleTold_26 (by decide) ?_
      exact eI hx hb hr hlocks dX7_muleTold_35 (by (rw [tmM, if_pos c1, if_pos c2]; first | done | rw [z2, if_pos (by assumption)] | rw [z2, if_neg (by assumption)] | rfl))
  · refine lv_aload_n hx hb dX7_muleTold_5 rfl (lv_at hl 0 rfl) ?_
    refine lv_iload_n hx hb dX7_muleTold_6 rfl (lv_at hl 1 rfl) ?_
    refine lv_iload_n hx hb dX7_muleTold_7 rfl (lv_at hl 2 rfl) ?_
    refine kVp ⟨hx, hb, hml, hown, hts⟩ (c_X7_mu l D Ax th ns fog nr nm nl Lx p1 p2 (ixmv hvm b12 (vd_up (vd_lt 4 (by decide) (by decide) hw6 c1) (by decide)))) (cwV 2 hts gX7_muleTold_X7_mu rfl rfl rfl (by decide +kernel) ⟨Nat.le_of_ble_eq_true rfl, Nat.le_of_ble_eq_true rfl⟩) hK hN hP hD Sb.self 7 0 rfl rfl rfl hl.1 (Nat.le_of_ble_eq_true rfl) ⟨Nat.zero_le _, Nat.zero_le _⟩ dX7_muleTold_8 ?_ rfl
    refine lv_goto (tgt := 35) hx hb dX7_muleTold_11 (by decide) ?_
    exact eI hx hb hr hlocks dX7_muleTold_35 (by (rw [tmM, if_neg c1]; first | done | rw [z2, if_pos (by assumption)] | rw [z2, if_neg (by assumption)] | rfl))

set_option maxHeartbeats 4000000 in
set_option maxRecDepth 100000 in
theorem c_X7_letterTold (l : Launch) (D : GG) (Ax : Nat → Nat) (th : Int32) (ns : Nat) (fog : Int32) (nr : Nat) (nm : Nat) (nl : Nat) (Lx : Nat → Nat → Int32) (p1 : Int32) (p2 : Int32) (b10 : ns ≤ 10) (b15 : nr ≤ 15) (b12 : nm ≤ 12) (b60 : nl ≤ 60) (hl1 : vd nl p1) (hw11 : vd 11 p2) : Met l yX7_letterTold wsX7_letterTold ({ frames := 1, cells := 0, slots := 0, locals := 22 } : Room) (va_Pc [.ref (Ax 0), .int p1, .int p2] (wd D (wMod D Ax th ns fog nr nm nl Lx))) (RP (.int (tlM Lx p1 p2))) 0 0 (fun _ => False) := by
  refine Met.ofW (cc := cX7_letterTold) (maxL := 3) (ret := (some .int)) (by decide) rfl ?_
  intro p e s m args below meth c s₁ B hml hv
  obtain ⟨rfl, hP, hK, hD, hN⟩ := hv
  have hx := B.exec
  have hb := B.bytes
  have hr := B.returns
  have hts := atoms_spec (ws := wsX7_letterTold) B.pre
  have hown : s.vm.findClass RX7 = some m.cls := findClass_of_methodNamed B.named
  have hlocks := B.notSynchronized
  have hl := lv_entry ([.ref (Ax 0), .int p1, .int p2]) (n := 3) (Nat.le_of_ble_eq_true rfl)
  rw [lg_entry_eq]
  generalize (lg_sl ([.ref (Ax 0), .int p1, .int p2]) ++ List.replicate (3 - (lg_sl ([.ref (Ax 0), .int p1, .int p2])).length) Slot.unset).toArray = ls at hl ⊢
  have hl : lv_has ls 3 [(0, .ref (Ax 0)), (1, .int p1), (2, .int p2)] := hl
  refine lv_iload_n hx hb dX7_letterTold_0 rfl (lv_at hl 2 rfl) ?_
  refine lv_bipush (v := 10) hx hb dX7_letterTold_1 (by decide) ?_
  refine lv_icmp_ne (tgt := 19) hx hb dX7_letterTold_3 (by decide) (fun c1 => ?_) (fun c1 => ?_)
  · refine lv_aload_n hx hb dX7_letterTold_19 rfl (lv_at hl 0 rfl) ?_
    refine lv_iload_n hx hb dX7_letterTold_20 rfl (lv_at hl 1 rfl) ?_
    refine lv_iload_n hx hb dX7_letterTold_21 rfl (lv_at hl 2 rfl) ?_
    refine kVp ⟨hx, hb, hml, hown, hts⟩ (c_X7_le l D Ax th ns fog nr nm nl Lx p1 p2 (ixlv hl1 b60 hw11)) (cwV 2 hts gX7_letterTold_X7_le rfl rfl rfl (by decide +kernel) ⟨Nat.le_of_ble_eq_true rfl, Nat.le_of_ble_eq_true rfl⟩) hK hN hP hD Sb.self 7 0 rfl rfl rfl hl.1 (Nat.le_of_ble_eq_true rfl) ⟨Nat.zero_le _, Nat.zero_le _⟩ dX7_letterTold_22 ?_ rfl
    exact eI hx hb hr hlocks dX7_letterTold_25 (by (rw [tlM, if_neg c1]; first | done | rw [z2, if_pos (by assumption)] | rw [z2, if_neg (by assumption)] | rfl))
  · refine lv_aload_n hx hb dX7_letterTold_6 rfl (lv_at hl 0 rfl) ?_
    refine lv_iload_n hx hb dX7_letterTold_7 rfl (lv_at hl 1 rfl) ?_
    refine lv_bipush (v := 10) hx hb dX7_letterTold_8 (by decide) ?_
    refine kVp ⟨hx, hb, hml, hown, hts⟩ (c_X7_le l D Ax th ns fog nr nm nl Lx p1 10 (ixl (by assumption) b60 10 (by decide))) (cwV 2 hts gX7_letterTold_X7_le rfl rfl rfl (by decide +kernel) ⟨Nat.le_of_ble_eq_true rfl, Nat.le_of_ble_eq_true rfl⟩) hK hN hP hD Sb.self 7 0 rfl rfl rfl hl.1 (Nat.le_of_ble_eq_true rfl) ⟨Nat.zero_le _, Nat.zero_le _⟩ dX7_letterTold_10 ?_ rfl
    refine kSp ⟨hx, hb, hml, hown, hts⟩ (c_J6_bitCount_0f7a4 l D (leM Lx p1 10)) (va_cwS 1 hts gX7_letterTold_J6_bitCount_0f7a4 rfl rfl rfl (by decide +kernel) ⟨Nat.le_of_ble_eq_true rfl, Nat.le_of_ble_eq_true rfl⟩) hK hN hP hD Sb.nil  rfl hl.1 (Nat.le_of_ble_eq_true rfl) ⟨Nat.zero_le _, Nat.zero_le _⟩ dX7_letterTold_13 ?_ rfl
    refine lv_goto (tgt := 25) hx hb dX7_letterTold_16 (by decide) ?_
    exact eI hx hb hr hlocks dX7_letterTold_25 (by (rw [tlM, if_pos c1]; first | done | rw [z2, if_pos (by assumption)] | rw [z2, if_neg (by assumption)] | rfl))
