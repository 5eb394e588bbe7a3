set_option maxHeartbeats 4000000 in
set_option maxRecDepth 100000 in
theorem c_X6_mean (l : Launch) (D : GG) (om : Nat) (Ad : Nat → Nat) (ot : Nat) (ou : Nat) (Aw : Nat → Nat) (Am : Nat → Nat) (Ae : Nat → Nat) (xt : Nat) (hou : Int32) (cro : Int32) (Lw : Nat → Nat → Int32) (nm : Nat) (Lm : Nat → Nat → Int32) (ne : Nat) (Le : Nat → Nat → Int32) (yt : Nat) (Nt : Nat → Int32) (nsd : Nat) (fogd : Int32) (nrd : Nat) (Ld : Nat → Nat → Int32) (he : ne < 2 ^ 31) : Met l yX6_mean wsX6_mean ({ frames := 1, cells := 0, slots := 0, locals := 21 } : Room) (va_Pc [.ref om] (wd D ((wMob om Ad ot ou) ++ ((wTob ot Ad Aw Am Ae xt hou cro) ++ ((wWays D Aw Lw) ++ ((wMul D Am nm Lm) ++ ((wLet D Ae ne Le) ++ ((wRow D xt yt 60 Nt) ++ (wLand D Ad nsd fogd nrd Ld))))))))) (RP (.double (meanC Le ne))) 0 0 (fun _ => False) := by
  refine Met.ofW (cc := cX6_mean) (maxL := 5) (ret := (some .double)) (by decide) rfl ?_
  intro p e s m args below meth c s₁ B hml hv
  obtain ⟨rfl, hP, hK, hD, hN⟩ := hv
  have hx := B.exec
  have hb := B.bytes
  have hr := B.returns
  have hts := atoms_spec (ws := wsX6_mean) B.pre
  have hown : s.vm.findClass RX6 = some m.cls := findClass_of_methodNamed B.named
  have hlocks := B.notSynchronized
  have hinX1 : ∀ w ∈ u_ws RX1 TX1 12, w ∈ wsX6_mean := by decide +kernel
  have hinX4 : ∀ w ∈ u_ws RX4 TX4 7, w ∈ wsX6_mean := by decide +kernel
  have hinX6 : ∀ w ∈ u_ws RX6 TX6 3, w ∈ wsX6_mean := by decide +kernel
  have hl := lv_entry ([.ref om]) (n := 5) (Nat.le_of_ble_eq_true rfl)
  rw [lg_entry_eq]
  generalize (lg_sl ([.ref om]) ++ List.replicate (5 - (lg_sl ([.ref om])).length) Slot.unset).toArray = ls at hl ⊢
  have hl : lv_has ls 5 [(0, .ref om)] := hl
  refine lv_iconst (v := 0) hx hb dX6_mean_0 (by decide) ?_
  refine lv_istore_n (lv' := [(1, .int 0), (0, .ref om)]) hx hb dX6_mean_1 rfl hl (by decide) rfl (fun ls hl => ?_)
  refine lv_iconst (v := 0) hx hb dX6_mean_2 (by decide) ?_
  refine lv_istore_n (lv' := [(2, .int 0), (1, .int 0), (0, .ref om)]) hx hb dX6_mean_3 rfl hl (by decide) rfl (fun ls hl => ?_)
  refine lv_aload_n hx hb dX6_mean_4 rfl (lv_at hl 2 rfl) ?_
  refine va_get (D := D.1) (ci := 6) (v := .ref ot) (C := RX6) (T := TX6) (N := 3) hx hb hts hinX6 hown hK (sP (Sb.l Sb.self) hP) 0 rfl rfl 1 (by decide) (hts (.fieldLink RX6 21 "MountainPost" "traffic" "LMountainPost$Traffic;") (List.mem_of_getElem? (i := 1) rfl)) (fun _ h9 => h9) rfl dX6_mean_5 ?_
  refine va_getN (D := D.1) (ci := 4) (v := .ref (Ae 0)) (C := RX4) (T := TX4) (N := 7) hx hb hts hinX4 hown hK (sP (Sb.r (Sb.l Sb.self)) hP) 0 rfl rfl 3 (by decide) (hN.f 8 rfl) (fun _ h9 => h9) rfl dX6_mean_8 ?_
  refine lv_astore_n (lv' := [(3, .ref (Ae 0)), (2, .int 0), (1, .int 0), (0, .ref om)]) hx hb dX6_mean_11 rfl hl (by decide) rfl (fun ls hl => ?_)
  refine lv_iconst (v := 0) hx hb dX6_mean_12 (by decide) ?_
  refine lv_istore (lv' := [(4, .int 0), (3, .ref (Ae 0)), (2, .int 0), (1, .int 0), (0, .ref om)]) hx hb dX6_mean_13 hl (by decide) rfl (fun ls hl => ?_)
  have lp1 : ∀ (j1 : Nat) (k1 : Nat) (hk1 : k1 + j1 = ne) (x4_1 : Int32) (e4_1 : x4_1 = (nI k1)) (x2_1 : Int32) (e2_1 : x2_1 = (sumH Le k1)) (x1_1 : Int32) (e1_1 : x1_1 = (cI (fun k => rg 60 (Le 3) (nI k) == 2) k1)) (ls : Array Slot) (hl : lv_has ls 5 [(4, .int x4_1), (3, .ref (Ae 0)), (2, .int x2_1), (1, .int x1_1), (0, .ref om)]), W p l e (headSpec wsX6_mean ({ frames := 1, cells := 0, slots := 0, locals := 21 } : Room)).room s m ([.ref om] : List Value).toArray below meth c s.heap [] 0 0 (MQ below (RP (.double (meanC Le ne))) ([.ref om] : List Value).toArray s 0 0 (fun _ => False)) (F0 m 15 ls []) := by
    intro j1
    induction j1 with
    | zero =>
      intro k1 hk1 x4_1 e4_1 x2_1 e2_1 x1_1 e1_1   ls hl
      subst e4_1 e2_1 e1_1
      have hkN1 : ne = k1 := (by omega)
      subst hkN1
      refine lv_iload hx hb dX6_mean_15 (lv_at hl 0 rfl) ?_
      refine lv_aload_n hx hb dX6_mean_17 rfl (lv_at hl 1 rfl) ?_
      refine va_getN (D := D.1) (ci := 1) (v := .int (nI ne)) (C := RX1) (T := TX1) (N := 12) hx hb hts hinX1 hown hK (sP (Sb.r (Sb.r (Sb.r (Sb.r (Sb.l Sb.self))))) hP) 0 rfl rfl 0 (by decide) (hN.f 9 rfl) (fun _ h9 => h9) rfl dX6_mean_18 ?_
      refine lv_icmp_ge (tgt := 68) hx hb dX6_mean_21 (by decide) (fun c2 => ?_) (fun c2 => ?_)
      · refine lv_iload_n hx hb dX6_mean_68 rfl (lv_at hl 3 rfl) ?_
        refine lv_if_le (tgt := 80) hx hb dX6_mean_69 (by decide) (fun c3 => ?_) (fun c3 => ?_)
        · refine lv_dconst0 hx hb dX6_mean_80 ?_
          exact eD hx hb hr hlocks dX6_mean_81 (by (rw [meanC, inStC, if_pos c3]; first | done | rw [z2, if_pos (by assumption)] | rw [z2, if_neg (by assumption)] | rfl))
        · refine lv_iload_n hx hb dX6_mean_72 rfl (lv_at hl 2 rfl) ?_
          refine lv_i2d hx hb dX6_mean_73 ?_
          refine lv_iload_n hx hb dX6_mean_74 rfl (lv_at hl 3 rfl) ?_
          refine lv_i2d hx hb dX6_mean_75 ?_
          refine lv_ddiv hx hb dX6_mean_76 (div_num (ne_of_nle c3)) ?_
          refine lv_goto (tgt := 81) hx hb dX6_mean_77 (by decide) ?_
          exact eD hx hb hr hlocks dX6_mean_81 (by (rw [meanC, inStC, if_neg c3]; first | done | rw [z2, if_pos (by assumption)] | rw [z2, if_neg (by assumption)] | rfl))
      · exact (up0 rfl c2).elim
    | succ j1 ih1 =>
      intro k1 hk1 x4_1 e4_1 x2_1 e2_1 x1_1 e1_1   ls hl
      subst e4_1 e2_1 e1_1
      have hlt1 : k1 < ne := by omega
      have hlt : k1 < ne := hlt1
      refine lv_iload hx hb dX6_mean_15 (lv_at hl 0 rfl) ?_
      refine lv_aload_n hx hb dX6_mean_17 rfl (lv_at hl 1 rfl) ?_
      refine va_getN (D := D.1) (ci := 1) (v := .int (nI ne)) (C := RX1) (T := TX1) (N := 12) hx hb hts hinX1 hown hK (sP (Sb.r (Sb.r (Sb.r (Sb.r (Sb.l Sb.self))))) hP) 0 rfl rfl 0 (by decide) (hN.f 9 rfl) (fun _ h9 => h9) rfl dX6_mean_18 ?_
      refine lv_icmp_ge (tgt := 68) hx hb dX6_mean_21 (by decide) (fun c4 => ?_) (fun c4 => ?_)
      · exact (upS hk1 he c4).elim
      · refine lv_aload_n hx hb dX6_mean_24 rfl (lv_at hl 1 rfl) ?_
        refine va_getN (D := D.1) (ci := 1) (v := .ref (Ae 4)) (C := RX1) (T := TX1) (N := 12) hx hb hts hinX1 hown hK (sP (Sb.r (Sb.r (Sb.r (Sb.r (Sb.l Sb.self))))) hP) 0 rfl rfl 4 (by decide) (hN.f 14 rfl) (fun _ h9 => h9) rfl dX6_mean_25 ?_
        refine lv_iload hx hb dX6_mean_28 (lv_at hl 0 rfl) ?_
        refine kVp ⟨hx, hb, hml, hown, hts⟩ (c_X3_get l D (Ae 4) (Ae 15) 60 (Le 3) (nI k1) (by decide)) (cwV 1 hts gX6_mean_X3_get rfl rfl rfl (by decide +kernel) ⟨Nat.le_of_ble_eq_true rfl, Nat.le_of_ble_eq_true rfl⟩) hK hN hP hD (Sb.r (Sb.r (Sb.r (Sb.r (Sb.l sbLet3))))) 3 0 rfl rfl rfl hl.1 (Nat.le_of_ble_eq_true rfl) ⟨Nat.zero_le _, Nat.zero_le _⟩ dX6_mean_30 ?_ rfl
        refine lv_iconst (v := 2) hx hb dX6_mean_33 (by decide) ?_
        refine lv_icmp_ne (tgt := 62) hx hb dX6_mean_34 (by decide) (fun c5 => ?_) (fun c5 => ?_)
        · refine lv_iinc (v := ((nI k1) + 1)) (lv' := [(4, .int ((nI k1) + 1)), (3, .ref (Ae 0)), (2, .int (sumH Le k1)), (1, .int (cI (fun k => rg 60 (Le 3) (nI k) == 2) k1)), (0, .ref om)]) hx hb dX6_mean_62 hl (k := 0) rfl rfl (by decide) rfl (fun ls hl => ?_)
          refine lv_goto (tgt := 15) hx hb dX6_mean_65 (by decide) ?_
          exact ih1 (k1 + 1) (by omega) _ (nI_1 k1) _ (by (rw [sumH, if_neg c5]; first | done | rfl)) _ (by simp [cI, c4, c5]) ls (lv_sub hl [0, 1, 2, 3, 4] rfl)
        · refine lv_iinc (v := ((cI (fun k => rg 60 (Le 3) (nI k) == 2) k1) + 1)) (lv' := [(1, .int ((cI (fun k => rg 60 (Le 3) (nI k) == 2) k1) + 1)), (4, .int (nI k1)), (3, .ref (Ae 0)), (2, .int (sumH Le k1)), (0, .ref om)]) hx hb dX6_mean_37 hl (k := 3) rfl rfl (by decide) rfl (fun ls hl => ?_)
          refine lv_iload_n hx hb dX6_mean_40 rfl (lv_at hl 3 rfl) ?_
          refine lv_aload_n hx hb dX6_mean_41 rfl (lv_at hl 2 rfl) ?_
          refine va_getN (D := D.1) (ci := 1) (v := .ref (Ae 10)) (C := RX1) (T := TX1) (N := 12) hx hb hts hinX1 hown hK (sP (Sb.r (Sb.r (Sb.r (Sb.r (Sb.l Sb.self))))) hP) 0 rfl rfl 10 (by decide) (hN.f 15 rfl) (fun _ h9 => h9) rfl dX6_mean_42 ?_
          refine lv_iload hx hb dX6_mean_45 (lv_at hl 1 rfl) ?_
          refine kVp ⟨hx, hb, hml, hown, hts⟩ (c_X3_get l D (Ae 10) (Ae 21) 60 (Le 9) (nI k1) (by decide)) (cwV 1 hts gX6_mean_X3_get rfl rfl rfl (by decide +kernel) ⟨Nat.le_of_ble_eq_true rfl, Nat.le_of_ble_eq_true rfl⟩) hK hN hP hD (Sb.r (Sb.r (Sb.r (Sb.r (Sb.l sbLet9))))) 3 0 rfl rfl rfl hl.1 (Nat.le_of_ble_eq_true rfl) ⟨Nat.zero_le _, Nat.zero_le _⟩ dX6_mean_47 ?_ rfl
          refine lv_aload_n hx hb dX6_mean_50 rfl (lv_at hl 2 rfl) ?_
          refine va_getN (D := D.1) (ci := 1) (v := .ref (Ae 9)) (C := RX1) (T := TX1) (N := 12) hx hb hts hinX1 hown hK (sP (Sb.r (Sb.r (Sb.r (Sb.r (Sb.l Sb.self))))) hP) 0 rfl rfl 9 (by decide) (hN.f 16 rfl) (fun _ h9 => h9) rfl dX6_mean_51 ?_
          refine lv_iload hx hb dX6_mean_54 (lv_at hl 1 rfl) ?_
          refine kVp ⟨hx, hb, hml, hown, hts⟩ (c_X3_get l D (Ae 9) (Ae 20) 60 (Le 8) (nI k1) (by decide)) (cwV 1 hts gX6_mean_X3_get rfl rfl rfl (by decide +kernel) ⟨Nat.le_of_ble_eq_true rfl, Nat.le_of_ble_eq_true rfl⟩) hK hN hP hD (Sb.r (Sb.r (Sb.r (Sb.r (Sb.l sbLet8))))) 3 0 rfl rfl rfl hl.1 (Nat.le_of_ble_eq_true rfl) ⟨Nat.zero_le _, Nat.zero_le _⟩ dX6_mean_56 ?_ rfl
          refine lv_isub hx hb dX6_mean_59 ?_
          refine lv_iadd hx hb dX6_mean_60 ?_
          refine lv_istore_n (lv' := [(2, .int ((sumH Le k1) + ((rg 60 (Le 9) (nI k1)) - (rg 60 (Le 8) (nI k1))))), (1, .int ((cI (fun k => rg 60 (Le 3) (nI k) == 2) k1) + 1)), (4, .int (nI k1)), (3, .ref (Ae 0)), (0, .ref om)]) hx hb dX6_mean_61 rfl hl (by decide) rfl (fun ls hl => ?_)
          refine lv_iinc (v := ((nI k1) + 1)) (lv' := [(4, .int ((nI k1) + 1)), (2, .int ((sumH Le k1) + ((rg 60 (Le 9) (nI k1)) - (rg 60 (Le 8) (nI k1))))), (1, .int ((cI (fun k => rg 60 (Le 3) (nI k) == 2) k1) + 1)), (3, .ref (Ae 0)), (0, .ref om)]) hx hb dX6_mean_62 hl (k := 2) rfl rfl (by decide) rfl (fun ls hl => ?_)
          refine lv_goto (tgt := 15) hx hb dX6_mean_65 (by decide) ?_
          exact ih1 (k1 + 1) (by omega) _ (nI_1 k1) _ (by (rw [sumH, if_pos c5]; first | done | rfl)) _ (by simp [cI, c4, c5]) ls (lv_sub hl [0, 3, 1, 2, 4] rfl)
  exact lp1 ne 0 (by omega) _ nI_0.symm _ rfl _ rfl ls (lv_sub hl [0, 1, 2, 3, 4] rfl)

set_option maxHeartbeats 4000000 in
set_option maxRecDepth 100000 in
theorem c_X7_mean (l : Launch) (D : GG) (Ax : Nat → Nat) (th : Int32) (ns : Nat) (fog : Int32) (nr : Nat) (nm : Nat) (nl : Nat) (Lx : Nat → Nat → Int32) (b10 : ns ≤ 10) (b15 : nr ≤ 15) (b12 : nm ≤ 12) (b60 : nl ≤ 60) : Met l yX7_mean wsX7_mean ({ frames := 1, cells := 0, slots := 0, locals := 22 } : Room) (va_Pc [.ref (Ax 0)] (wd D (wMod D Ax th ns fog nr nm nl Lx))) (QW D (some (.double (meanM Lx nl))) (wMod D Ax 0 ns fog nr nm nl Lx) (own (wMod D Ax th ns fog nr nm nl Lx))) 0 0 (own (wMod D Ax th ns fog nr nm nl Lx)) := by
  refine Met.ofW (cc := cX7_mean) (maxL := 4) (ret := (some .double)) (by decide) rfl ?_
  intro p e s m args below meth c s₁ B hml hv
  obtain ⟨rfl, hP, hK, hD, hN⟩ := hv
  have hx := B.exec
  have hb := B.bytes
  have hr := B.returns
  have hts := atoms_spec (ws := wsX7_mean) B.pre
  have hown : s.vm.findClass RX7 = some m.cls := findClass_of_methodNamed B.named
  have hlocks := B.notSynchronized
  have hinX7 : ∀ w ∈ u_ws RX7 TX7 14, w ∈ wsX7_mean := by decide +kernel
  have hS : va_S (own (wMod D Ax th ns fog nr nm nl Lx)) s.heap s.heap [] := va_S.rf
  have hD : va_D (own (wMod D Ax th ns fog nr nm nl Lx)) (wMod D Ax th ns fog nr nm nl Lx) := toOwn hD
  generalize hAe : own (wMod D Ax th ns fog nr nm nl Lx) = A0 at hD hS ⊢
  have hl := lv_entry ([.ref (Ax 0)]) (n := 4) (Nat.le_of_ble_eq_true rfl)
  rw [lg_entry_eq]
  generalize (lg_sl ([.ref (Ax 0)]) ++ List.replicate (4 - (lg_sl ([.ref (Ax 0)])).length) Slot.unset).toArray = ls at hl ⊢
  have hl : lv_has ls 4 [(0, .ref (Ax 0))] := hl
  refine lv_aload_n hx hb dX7_mean_0 rfl (lv_at hl 0 rfl) ?_
  refine lv_iconst (v := 0) hx hb dX7_mean_1 (by decide) ?_
  refine va_put (D := D.1) (ci := 7) (v := .int 0) (ty := .int) (C := RX7) (T := TX7) (N := 14) hx hb hts hinX7 tyX7 tyX7_ok nmX7 hown hK hP hD hS 0 rfl rfl 0 (by decide) (hts (.fieldLink RX7 34 "MountainPostModel" "thrown" "I") (List.mem_of_getElem? (i := 1) rfl)) (fun _ h9 => h9) rfl (by decide +kernel) rfl rfl (Nat.le_of_ble_eq_true rfl) dX7_mean_2 (fun H locs hP hD hS => ?_)
  have hP : va_P D.1 vwCl (wMod D Ax 0 ns fog nr nm nl Lx) H := hP
  have hD : va_D A0 (wMod D Ax 0 ns fog nr nm nl Lx) := hD
  refine lv_iconst (v := 0) hx hb dX7_mean_5 (by decide) ?_
  refine lv_istore_n (lv' := [(1, .int 0), (0, .ref (Ax 0))]) hx hb dX7_mean_6 rfl hl (by decide) rfl (fun ls hl => ?_)
  refine lv_iconst (v := 0) hx hb dX7_mean_7 (by decide) ?_
  refine lv_istore_n (lv' := [(2, .int 0), (1, .int 0), (0, .ref (Ax 0))]) hx hb dX7_mean_8 rfl hl (by decide) rfl (fun ls hl => ?_)
  refine lv_iconst (v := 0) hx hb dX7_mean_9 (by decide) ?_
  refine lv_istore_n (lv' := [(3, .int 0), (2, .int 0), (1, .int 0), (0, .ref (Ax 0))]) hx hb dX7_mean_10 rfl hl (by decide) rfl (fun ls hl => ?_)
  have lp1 : ∀ (j1 : Nat) (k1 : Nat) (hk1 : k1 + j1 = nl) (x3_1 : Int32) (e3_1 : x3_1 = (nI k1)) (x2_1 : Int32) (e2_1 : x2_1 = (cI (fun k => leM Lx (nI k) 3 == 2) k1)) (x1_1 : Int32) (e1_1 : x1_1 = (sumM Lx k1)) (yxth_1 : Int32) (eyxth_1 : yxth_1 = 0) (H : Heap) (locs : List Loc) (hP : va_P D.1 vwCl (wMod D Ax yxth_1 ns fog nr nm nl Lx) H) (hD : va_D A0 (wMod D Ax yxth_1 ns fog nr nm nl Lx)) (hS : va_S A0 s.heap H locs) (ls : Array Slot) (hl : lv_has ls 4 [(3, .int x3_1), (2, .int x2_1), (1, .int x1_1), (0, .ref (Ax 0))]), W p l e (headSpec wsX7_mean ({ frames := 1, cells := 0, slots := 0, locals := 22 } : Room)).room s m ([.ref (Ax 0)] : List Value).toArray below meth c H locs 0 0 (MQ below (QW D (some (.double (meanM Lx nl))) (wMod D Ax 0 ns fog nr nm nl Lx) A0) ([.ref (Ax 0)] : List Value).toArray s 0 0 A0) (F0 m 11 ls []) := by
    intro j1
    induction j1 with
    | zero =>
      intro k1 hk1 x3_1 e3_1 x2_1 e2_1 x1_1 e1_1 yxth_1 eyxth_1  H locs hP hD hS ls hl
      subst e3_1 e2_1 e1_1 eyxth_1
      have hkN1 : nl = k1 := (by omega)
      subst hkN1
      refine lv_iload_n hx hb dX7_mean_11 rfl (lv_at hl 0 rfl) ?_
      refine lv_aload_n hx hb dX7_mean_12 rfl (lv_at hl 3 rfl) ?_
      refine va_get (D := D.1) (ci := 7) (v := .int (nI nl)) (C := RX7) (T := TX7) (N := 14) hx hb hts hinX7 hown hK hP 0 rfl rfl 8 (by decide) (hts (.fieldLink RX7 48 "MountainPostModel" "letters" "I") (List.mem_of_getElem? (i := 2) rfl)) (fun _ h9 => h9) rfl dX7_mean_13 ?_
      refine lv_icmp_ge (tgt := 59) hx hb dX7_mean_16 (by decide) (fun c2 => ?_) (fun c2 => ?_)
      · refine lv_iload_n hx hb dX7_mean_59 rfl (lv_at hl 1 rfl) ?_
        refine lv_if_ne (tgt := 67) hx hb dX7_mean_60 (by decide) (fun c3 => ?_) (fun c3 => ?_)
        · refine lv_iload_n hx hb dX7_mean_67 rfl (lv_at hl 2 rfl) ?_
          refine lv_i2d hx hb dX7_mean_68 ?_
          refine lv_iload_n hx hb dX7_mean_69 rfl (lv_at hl 1 rfl) ?_
          refine lv_i2d hx hb dX7_mean_70 ?_
          refine lv_ddiv hx hb dX7_mean_71 (div_num c3) ?_
          exact eWd hx hb hr hlocks dX7_mean_72 hS hP (by (rw [meanM, cntM, if_neg c3]; first | done | rw [z2, if_pos (by assumption)] | rw [z2, if_neg (by assumption)] | rfl)) (by rfl)
        · refine lv_dconst0 hx hb dX7_mean_63 ?_
          refine lv_goto (tgt := 72) hx hb dX7_mean_64 (by decide) ?_
          exact eWd hx hb hr hlocks dX7_mean_72 hS hP (by (rw [meanM, cntM, if_pos c3]; first | done | rw [z2, if_pos (by assumption)] | rw [z2, if_neg (by assumption)] | rfl)) (by rfl)
      · exact (up0 rfl c2).elim
    | succ j1 ih1 =>
      intro k1 hk1 x3_1 e3_1 x2_1 e2_1 x1_1 e1_1 yxth_1 eyxth_1  H locs hP hD hS ls hl
      subst e3_1 e2_1 e1_1 eyxth_1
      have hlt1 : k1 < nl := by omega
      have hlt : k1 < nl := hlt1
      refine lv_iload_n hx hb dX7_mean_11 rfl (lv_at hl 0 rfl) ?_
      refine lv_aload_n hx hb dX7_mean_12 rfl (lv_at hl 3 rfl) ?_
      refine va_get (D := D.1) (ci := 7) (v := .int (nI nl)) (C := RX7) (T := TX7) (N := 14) hx hb hts hinX7 hown hK hP 0 rfl rfl 8 (by decide) (hts (.fieldLink RX7 48 "MountainPostModel" "letters" "I") (List.mem_of_getElem? (i := 2) rfl)) (fun _ h9 => h9) rfl dX7_mean_13 ?_
      refine lv_icmp_ge (tgt := 59) hx hb dX7_mean_16 (by decide) (fun c4 => ?_) (fun c4 => ?_)
      · exact (upS hk1 (by omega) c4).elim
      · refine lv_aload_n hx hb dX7_mean_19 rfl (lv_at hl 3 rfl) ?_
        refine lv_iload_n hx hb dX7_mean_20 rfl (lv_at hl 0 rfl) ?_
        refine lv_iconst (v := 3) hx hb dX7_mean_21 (by decide) ?_
        refine kVp ⟨hx, hb, hml, hown, hts⟩ (c_X7_le l D Ax 0 ns fog nr nm nl Lx (nI k1) 3 (ixl (vd_k (by omega)) b60 3 (by decide))) (cwV 2 hts gX7_mean_X7_le rfl rfl rfl (by decide +kernel) ⟨Nat.le_of_ble_eq_true rfl, Nat.le_of_ble_eq_true rfl⟩) hK hN hP hD Sb.self 7 0 rfl rfl rfl hl.1 (Nat.le_of_ble_eq_true rfl) ⟨Nat.zero_le _, Nat.zero_le _⟩ dX7_mean_22 ?_ rfl
        refine lv_iconst (v := 2) hx hb dX7_mean_25 (by decide) ?_
        refine lv_icmp_eq (tgt := 32) hx hb dX7_mean_26 (by decide) (fun c5 => ?_) (fun c5 => ?_)
        · refine lv_iload_n hx hb dX7_mean_32 rfl (lv_at hl 2 rfl) ?_
          refine lv_aload_n hx hb dX7_mean_33 rfl (lv_at hl 3 rfl) ?_
          refine lv_iload_n hx hb dX7_mean_34 rfl (lv_at hl 0 rfl) ?_
          refine lv_bipush (v := 9) hx hb dX7_mean_35 (by decide) ?_
          refine kVp ⟨hx, hb, hml, hown, hts⟩ (c_X7_le l D Ax 0 ns fog nr nm nl Lx (nI k1) 9 (ixl (vd_k (by omega)) b60 9 (by decide))) (cwV 2 hts gX7_mean_X7_le rfl rfl rfl (by decide +kernel) ⟨Nat.le_of_ble_eq_true rfl, Nat.le_of_ble_eq_true rfl⟩) hK hN hP hD Sb.self 7 0 rfl rfl rfl hl.1 (Nat.le_of_ble_eq_true rfl) ⟨Nat.zero_le _, Nat.zero_le _⟩ dX7_mean_37 ?_ rfl
          refine lv_aload_n hx hb dX7_mean_40 rfl (lv_at hl 3 rfl) ?_
          refine lv_iload_n hx hb dX7_mean_41 rfl (lv_at hl 0 rfl) ?_
          refine lv_bipush (v := 8) hx hb dX7_mean_42 (by decide) ?_
          refine kVp ⟨hx, hb, hml, hown, hts⟩ (c_X7_le l D Ax 0 ns fog nr nm nl Lx (nI k1) 8 (ixl (vd_k (by omega)) b60 8 (by decide))) (cwV 2 hts gX7_mean_X7_le rfl rfl rfl (by decide +kernel) ⟨Nat.le_of_ble_eq_true rfl, Nat.le_of_ble_eq_true rfl⟩) hK hN hP hD Sb.self 7 0 rfl rfl rfl hl.1 (Nat.le_of_ble_eq_true rfl) ⟨Nat.zero_le _, Nat.zero_le _⟩ dX7_mean_44 ?_ rfl
          refine lv_isub hx hb dX7_mean_47 ?_
          refine lv_iadd hx hb dX7_mean_48 ?_
          refine lv_istore_n (lv' := [(1, .int ((sumM Lx k1) + ((leM Lx (nI k1) 9) - (leM Lx (nI k1) 8)))), (3, .int (nI k1)), (2, .int (cI (fun k => leM Lx (nI k) 3 == 2) k1)), (0, .ref (Ax 0))]) hx hb dX7_mean_49 rfl hl (by decide) rfl (fun ls hl => ?_)
          refine lv_iinc (v := ((cI (fun k => leM Lx (nI k) 3 == 2) k1) + 1)) (lv' := [(2, .int ((cI (fun k => leM Lx (nI k) 3 == 2) k1) + 1)), (1, .int ((sumM Lx k1) + ((leM Lx (nI k1) 9) - (leM Lx (nI k1) 8)))), (3, .int (nI k1)), (0, .ref (Ax 0))]) hx hb dX7_mean_50 hl (k := 2) rfl rfl (by decide) rfl (fun ls hl => ?_)
          refine lv_iinc (v := ((nI k1) + 1)) (lv' := [(3, .int ((nI k1) + 1)), (2, .int ((cI (fun k => leM Lx (nI k) 3 == 2) k1) + 1)), (1, .int ((sumM Lx k1) + ((leM Lx (nI k1) 9) - (leM Lx (nI k1) 8)))), (0, .ref (Ax 0))]) hx hb dX7_mean_53 hl (k := 2) rfl rfl (by decide) rfl (fun ls hl => ?_)
          refine lv_goto (tgt := 11) hx hb dX7_mean_56 (by decide) ?_
          exact ih1 (k1 + 1) (by omega) _ (nI_1 k1) _ (by simp [cI, c4, c5]) _ (by (rw [sumM, if_pos c5]; first | done | rfl)) _ rfl _ _ hP hD hS ls (lv_sub hl [0, 1, 2, 3] rfl)
        · refine lv_goto (tgt := 53) hx hb dX7_mean_29 (by decide) ?_
          refine lv_iinc (v := ((nI k1) + 1)) (lv' := [(3, .int ((nI k1) + 1)), (2, .int (cI (fun k => leM Lx (nI k) 3 == 2) k1)), (1, .int (sumM Lx k1)), (0, .ref (Ax 0))]) hx hb dX7_mean_53 hl (k := 0) rfl rfl (by decide) rfl (fun ls hl => ?_)
          refine lv_goto (tgt := 11) hx hb dX7_mean_56 (by decide) ?_
          exact ih1 (k1 + 1) (by omega) _ (nI_1 k1) _ (by simp [cI, c4, c5]) _ (by (rw [sumM, if_neg c5]; first | done | rfl)) _ rfl _ _ hP hD hS ls (lv_sub hl [0, 1, 2, 3] rfl)
  exact lp1 nl 0 (by omega) _ nI_0.symm _ rfl _ rfl _ rfl _ _ hP hD hS ls (lv_sub hl [0, 1, 2, 3] rfl)
