set_option maxHeartbeats 4000000 in
set_option maxRecDepth 100000 in
theorem c_X7_setOut (l : Launch) (D : GG) (Ax : Nat → Nat) (th : Int32) (ns : Nat) (fog : Int32) (nr : Nat) (nm : Nat) (nl : Nat) (Lx : Nat → Nat → Int32) (p1 : Int32) (b10 : ns ≤ 10) (b15 : nr ≤ 15) (b12 : nm ≤ 12) (b60 : nl ≤ 60) (hS9 : okS Lx ns nr nm nl) (hvm : vd nm p1) : Met l yX7_setOut wsX7_setOut ({ frames := 4, cells := 0, slots := 0, locals := 90 } : Room) (va_Pc [.ref (Ax 0), .int p1] (wd D (wMod D Ax th ns fog nr nm nl Lx))) (QW D none (wMod D Ax th ns fog nr nm nl (soM Lx p1 nl)) (own (wMod D Ax th ns fog nr nm nl Lx))) 0 0 (own (wMod D Ax th ns fog nr nm nl Lx)) := by
  refine Met.ofW (cc := cX7_setOut) (maxL := 9) (ret := none) (by decide) rfl ?_
  intro p e s m args below meth c s₁ B hml hv
  obtain ⟨rfl, hP, hK, hD, hN⟩ := hv
  have hx := B.exec
  have hb := B.bytes
  have hr := B.returns
  have hts := atoms_spec (ws := wsX7_setOut) B.pre
  have hown : s.vm.findClass RX7 = some m.cls := findClass_of_methodNamed B.named
  have hlocks := B.notSynchronized
  have hinX7 : ∀ w ∈ u_ws RX7 TX7 14, w ∈ wsX7_setOut := by decide +kernel
  have hS : va_S (own (wMod D Ax th ns fog nr nm nl Lx)) s.heap s.heap [] := va_S.rf
  have hD : va_D (own (wMod D Ax th ns fog nr nm nl Lx)) (wMod D Ax th ns fog nr nm nl Lx) := toOwn hD
  generalize hAe : own (wMod D Ax th ns fog nr nm nl Lx) = A0 at hD hS ⊢
  have hl := lv_entry ([.ref (Ax 0), .int p1]) (n := 9) (Nat.le_of_ble_eq_true rfl)
  rw [lg_entry_eq]
  generalize (lg_sl ([.ref (Ax 0), .int p1]) ++ List.replicate (9 - (lg_sl ([.ref (Ax 0), .int p1])).length) Slot.unset).toArray = ls at hl ⊢
  have hl : lv_has ls 9 [(0, .ref (Ax 0)), (1, .int p1)] := hl
  refine lv_aload_n hx hb dX7_setOut_0 rfl (lv_at hl 0 rfl) ?_
  refine lv_iload_n hx hb dX7_setOut_1 rfl (lv_at hl 1 rfl) ?_
  refine lv_iconst (v := 0) hx hb dX7_setOut_2 (by decide) ?_
  refine kVp ⟨hx, hb, hml, hown, hts⟩ (c_X7_mu l D Ax th ns fog nr nm nl Lx p1 0 (ixm (by assumption) b12 0 (by decide))) (cwV 2 hts gX7_setOut_X7_mu rfl rfl rfl (by decide +kernel) ⟨Nat.le_of_ble_eq_true rfl, Nat.le_of_ble_eq_true rfl⟩) hK hN hP hD Sb.self 7 0 rfl rfl rfl hl.1 (Nat.le_of_ble_eq_true rfl) ⟨Nat.zero_le _, Nat.zero_le _⟩ dX7_setOut_3 ?_ rfl
  refine lv_istore_n (lv' := [(2, .int (muM Lx p1 0)), (0, .ref (Ax 0)), (1, .int p1)]) hx hb dX7_setOut_6 rfl hl (by decide) rfl (fun ls hl => ?_)
  refine lv_aload_n hx hb dX7_setOut_7 rfl (lv_at hl 1 rfl) ?_
  refine lv_iload_n hx hb dX7_setOut_8 rfl (lv_at hl 2 rfl) ?_
  refine lv_iconst (v := 2) hx hb dX7_setOut_9 (by decide) ?_
  refine kVp ⟨hx, hb, hml, hown, hts⟩ (c_X7_mu l D Ax th ns fog nr nm nl Lx p1 2 (ixm (by assumption) b12 2 (by decide))) (cwV 2 hts gX7_setOut_X7_mu rfl rfl rfl (by decide +kernel) ⟨Nat.le_of_ble_eq_true rfl, Nat.le_of_ble_eq_true rfl⟩) hK hN hP hD Sb.self 7 0 rfl rfl rfl hl.1 (Nat.le_of_ble_eq_true rfl) ⟨Nat.zero_le _, Nat.zero_le _⟩ dX7_setOut_10 ?_ rfl
  refine lv_istore_n (lv' := [(3, .int (muM Lx p1 2)), (2, .int (muM Lx p1 0)), (0, .ref (Ax 0)), (1, .int p1)]) hx hb dX7_setOut_13 rfl hl (by decide) rfl (fun ls hl => ?_)
  refine lv_aload_n hx hb dX7_setOut_14 rfl (lv_at hl 2 rfl) ?_
  refine lv_iload_n hx hb dX7_setOut_15 rfl (lv_at hl 1 rfl) ?_
  refine lv_iload_n hx hb dX7_setOut_16 rfl (lv_at hl 0 rfl) ?_
  refine kVp ⟨hx, hb, hml, hown, hts⟩ (c_X7_otherEnd l D Ax th ns fog nr nm nl Lx (muM Lx p1 0) (muM Lx p1 2) (by assumption) ((hS9.2.1 _ hvm).1)) (cwV 2 hts gX7_setOut_X7_otherEnd rfl rfl rfl (by decide +kernel) ⟨Nat.le_of_ble_eq_true rfl, Nat.le_of_ble_eq_true rfl⟩) hK hN hP hD Sb.self 7 0 rfl rfl rfl hl.1 (Nat.le_of_ble_eq_true rfl) ⟨Nat.zero_le _, Nat.zero_le _⟩ dX7_setOut_17 ?_ rfl
  refine lv_istore (lv' := [(4, .int (othM Lx (muM Lx p1 0) (muM Lx p1 2))), (3, .int (muM Lx p1 2)), (2, .int (muM Lx p1 0)), (0, .ref (Ax 0)), (1, .int p1)]) hx hb dX7_setOut_20 hl (by decide) rfl (fun ls hl => ?_)
  refine lv_iconst (v := 0) hx hb dX7_setOut_22 (by decide) ?_
  refine lv_istore (lv' := [(5, .int 0), (4, .int (othM Lx (muM Lx p1 0) (muM Lx p1 2))), (3, .int (muM Lx p1 2)), (2, .int (muM Lx p1 0)), (0, .ref (Ax 0)), (1, .int p1)]) hx hb dX7_setOut_23 hl (by decide) rfl (fun ls hl => ?_)
  refine lv_aload_n hx hb dX7_setOut_25 rfl (lv_at hl 4 rfl) ?_
  refine lv_iload_n hx hb dX7_setOut_26 rfl (lv_at hl 2 rfl) ?_
  refine lv_iload_n hx hb dX7_setOut_27 rfl (lv_at hl 3 rfl) ?_
  refine kVp ⟨hx, hb, hml, hown, hts⟩ (c_X7_next l D Ax th ns fog nr nm nl Lx (muM Lx p1 2) (muM Lx p1 0) (by assumption) (by assumption) ((hS9.2.1 _ hvm).2.1) (okS_g hS9)) (cwV 2 hts gX7_setOut_X7_next rfl rfl rfl (by decide +kernel) ⟨Nat.le_of_ble_eq_true rfl, Nat.le_of_ble_eq_true rfl⟩) hK hN hP hD Sb.self 7 0 rfl rfl rfl hl.1 (Nat.le_of_ble_eq_true rfl) ⟨Nat.zero_le _, Nat.zero_le _⟩ dX7_setOut_28 ?_ rfl
  refine lv_istore (lv' := [(6, .int (nxF Lx (muM Lx p1 2) (muM Lx p1 0) nl)), (5, .int 0), (4, .int (othM Lx (muM Lx p1 0) (muM Lx p1 2))), (3, .int (muM Lx p1 2)), (2, .int (muM Lx p1 0)), (0, .ref (Ax 0)), (1, .int p1)]) hx hb dX7_setOut_31 hl (by decide) rfl (fun ls hl => ?_)
  have lp1 : ∀ (j1 : Nat) (t : Nat) (Lz : Nat → Nat → Int32) (hk : t + j1 = (muM Lx p1 1).toNatClampNeg) (hz : okS Lz ns nr nm nl) (h3 : Lz 3 = Lx 3) (hres : tkF nl (muM Lx p1 2) (muM Lx p1 0) p1 j1 t Lz = tkF nl (muM Lx p1 2) (muM Lx p1 0) p1 (muM Lx p1 1).toNatClampNeg 0 Lx) (x5_1 : Int32) (e5_1 : x5_1 = (nI t)) (H : Heap) (locs : List Loc) (hP : va_P D.1 vwCl (wMod D Ax th ns fog nr nm nl Lz) H) (hD : va_D A0 (wMod D Ax th ns fog nr nm nl Lz)) (hS : va_S A0 s.heap H locs) (ls : Array Slot) (hl : lv_has ls 9 [(6, .int (nxF Lz (muM Lx p1 2) (muM Lx p1 0) nl)), (5, .int x5_1), (4, .int (othM Lx (muM Lx p1 0) (muM Lx p1 2))), (3, .int (muM Lx p1 2)), (2, .int (muM Lx p1 0)), (0, .ref (Ax 0)), (1, .int p1)]), W p l e (headSpec wsX7_setOut ({ frames := 4, cells := 0, slots := 0, locals := 90 } : Room)).room s m ([.ref (Ax 0), .int p1] : List Value).toArray below meth c H locs 0 0 (MQ below (QW D none (wMod D Ax th ns fog nr nm nl (soM Lx p1 nl)) A0) ([.ref (Ax 0), .int p1] : List Value).toArray s 0 0 A0) (F0 m 33 ls []) := by
    intro j1
    induction j1 with
    | zero =>
      intro t Lz hk hz h3 hres x5_1 e5_1 H locs hP hD hS ls hl
      subst e5_1
      refine lv_iload hx hb dX7_setOut_33 (lv_at hl 0 rfl) ?_
      refine lv_iconst (v := (-1)) hx hb dX7_setOut_35 (by decide) ?_
      refine lv_icmp_eq (tgt := 88) hx hb dX7_setOut_36 (by decide) (fun c2 => ?_) (fun c2 => ?_)
      · have hT : (Lz, t) = tkF nl (muM Lx p1 2) (muM Lx p1 0) p1 (muM Lx p1 1).toNatClampNeg 0 Lx := by rw [← hres]; rfl
        refine lv_iload hx hb dX7_setOut_88 (lv_at hl 1 rfl) ?_
        refine lv_if_ne (tgt := 105) hx hb dX7_setOut_90 (by decide) (fun c3 => ?_) (fun c3 => ?_)
        · refine lv_iconst (v := 0) hx hb dX7_setOut_105 (by decide) ?_
          refine lv_istore (lv' := [(6, .int 0), (5, .int (nI t)), (4, .int (othM Lx (muM Lx p1 0) (muM Lx p1 2))), (3, .int (muM Lx p1 2)), (2, .int (muM Lx p1 0)), (0, .ref (Ax 0)), (1, .int p1)]) hx hb dX7_setOut_106 hl (by decide) rfl (fun ls hl => ?_)
          have lp4 : ∀ (j4 : Nat) (k4 : Nat) (hk4 : k4 + j4 = nl) (x6_4 : Int32) (e6_4 : x6_4 = (nI k4)) (yxL_4 : Nat → Nat → Int32) (eyxL_4 : yxL_4 = (crO Lz p1 (muM Lx p1 0) (muM Lx p1 2) nl k4)) (H : Heap) (locs : List Loc) (hP : va_P D.1 vwCl (wMod D Ax th ns fog nr nm nl yxL_4) H) (hD : va_D A0 (wMod D Ax th ns fog nr nm nl yxL_4)) (hS : va_S A0 s.heap H locs) (ls : Array Slot) (hl : lv_has ls 9 [(6, .int x6_4), (5, .int (nI t)), (4, .int (othM Lx (muM Lx p1 0) (muM Lx p1 2))), (3, .int (muM Lx p1 2)), (2, .int (muM Lx p1 0)), (0, .ref (Ax 0)), (1, .int p1)]), W p l e (headSpec wsX7_setOut ({ frames := 4, cells := 0, slots := 0, locals := 90 } : Room)).room s m ([.ref (Ax 0), .int p1] : List Value).toArray below meth c H locs 0 0 (MQ below (QW D none (wMod D Ax th ns fog nr nm nl (soM Lx p1 nl)) A0) ([.ref (Ax 0), .int p1] : List Value).toArray s 0 0 A0) (F0 m 108 ls []) := by
            intro j4
            induction j4 with
            | zero =>
              intro k4 hk4 x6_4 e6_4 yxL_4 eyxL_4  H locs hP hD hS ls hl
              subst e6_4 eyxL_4
              have hkN4 : nl = k4 := (by omega)
              subst hkN4
              refine lv_iload hx hb dX7_setOut_108 (lv_at hl 0 rfl) ?_
              refine lv_aload_n hx hb dX7_setOut_110 rfl (lv_at hl 5 rfl) ?_
              refine va_get (D := D.1) (ci := 7) (v := .int (nI nl)) (C := RX7) (T := TX7) (N := 14) hx hb hts hinX7 hown hK hP 0 rfl rfl 8 (by decide) (hts (.fieldLink RX7 48 "MountainPostModel" "letters" "I") (List.mem_of_getElem? (i := 1) rfl)) (fun _ h9 => h9) rfl dX7_setOut_111 ?_
              refine lv_icmp_ge (tgt := 249) hx hb dX7_setOut_114 (by decide) (fun c5 => ?_) (fun c5 => ?_)
              · refine lv_aload_n hx hb dX7_setOut_249 rfl (lv_at hl 5 rfl) ?_
                refine lv_iload_n hx hb dX7_setOut_250 rfl (lv_at hl 6 rfl) ?_
                refine lv_iconst (v := 2) hx hb dX7_setOut_251 (by decide) ?_
                refine lv_iload hx hb dX7_setOut_252 (lv_at hl 2 rfl) ?_
                refine kVw ⟨hx, hb, hml, hown, hts⟩ (c_X7_setMu l D Ax th ns fog nr nm nl (crO Lz p1 (muM Lx p1 0) (muM Lx p1 2) nl nl) p1 2 (othM Lx (muM Lx p1 0) (muM Lx p1 2)) (ixm (by assumption) b12 2 (by decide))) (cwV 3 hts gX7_setOut_X7_setMu rfl rfl rfl (by decide +kernel) ⟨Nat.le_of_ble_eq_true rfl, Nat.le_of_ble_eq_true rfl⟩) hK hN hP hD hS frsMod 7 0 rfl rfl rfl hl.1 (Nat.le_of_ble_eq_true rfl) ⟨Nat.zero_le _, Nat.zero_le _⟩ dX7_setOut_254 (fun H locs hP hD hS => ?_) rfl
                have hP : va_P D.1 vwCl (wMod D Ax th ns fog nr nm nl (smM (crO Lz p1 (muM Lx p1 0) (muM Lx p1 2) nl nl) p1 2 (othM Lx (muM Lx p1 0) (muM Lx p1 2)))) H := hP
                have hD : va_D A0 (wMod D Ax th ns fog nr nm nl (smM (crO Lz p1 (muM Lx p1 0) (muM Lx p1 2) nl nl) p1 2 (othM Lx (muM Lx p1 0) (muM Lx p1 2)))) := hD
                refine W.eq (g2 := F0 m 257 ls []) rfl ?_
                refine lv_aload_n hx hb dX7_setOut_257 rfl (lv_at hl 5 rfl) ?_
                refine lv_iload_n hx hb dX7_setOut_258 rfl (lv_at hl 6 rfl) ?_
                refine lv_iconst (v := 3) hx hb dX7_setOut_259 (by decide) ?_
                refine lv_aload_n hx hb dX7_setOut_260 rfl (lv_at hl 5 rfl) ?_
                refine lv_iload_n hx hb dX7_setOut_261 rfl (lv_at hl 4 rfl) ?_
                refine lv_iload_n hx hb dX7_setOut_262 rfl (lv_at hl 3 rfl) ?_
                refine kVp ⟨hx, hb, hml, hown, hts⟩ (c_X7_hoursFrom l D Ax th ns fog nr nm nl (smM (crO Lz p1 (muM Lx p1 0) (muM Lx p1 2) nl nl) p1 2 (othM Lx (muM Lx p1 0) (muM Lx p1 2))) (muM Lx p1 0) (muM Lx p1 2) (by assumption) (by assumption) ((hS9.2.1 _ hvm).1) ((hS9.2.1 _ hvm).2.1) ((okS_crO nl hz).1)) (cwV 2 hts gX7_setOut_X7_hoursFrom rfl rfl rfl (by decide +kernel) ⟨Nat.le_of_ble_eq_true rfl, Nat.le_of_ble_eq_true rfl⟩) hK hN hP hD Sb.self 7 0 rfl rfl rfl hl.1 (Nat.le_of_ble_eq_true rfl) ⟨Nat.zero_le _, Nat.zero_le _⟩ dX7_setOut_263 ?_ rfl
                refine kVw ⟨hx, hb, hml, hown, hts⟩ (c_X7_setMu l D Ax th ns fog nr nm nl (smM (crO Lz p1 (muM Lx p1 0) (muM Lx p1 2) nl nl) p1 2 (othM Lx (muM Lx p1 0) (muM Lx p1 2))) p1 3 (hrsM (smM (crO Lz p1 (muM Lx p1 0) (muM Lx p1 2) nl nl) p1 2 (othM Lx (muM Lx p1 0) (muM Lx p1 2))) (muM Lx p1 0) (muM Lx p1 2)) (ixm (by assumption) b12 3 (by decide))) (cwV 3 hts gX7_setOut_X7_setMu rfl rfl rfl (by decide +kernel) ⟨Nat.le_of_ble_eq_true rfl, Nat.le_of_ble_eq_true rfl⟩) hK hN hP hD hS frsMod 7 0 rfl rfl rfl hl.1 (Nat.le_of_ble_eq_true rfl) ⟨Nat.zero_le _, Nat.zero_le _⟩ dX7_setOut_266 (fun H locs hP hD hS => ?_) rfl
                have hP : va_P D.1 vwCl (wMod D Ax th ns fog nr nm nl (smM (smM (crO Lz p1 (muM Lx p1 0) (muM Lx p1 2) nl nl) p1 2 (othM Lx (muM Lx p1 0) (muM Lx p1 2))) p1 3 (hrsM (smM (crO Lz p1 (muM Lx p1 0) (muM Lx p1 2) nl nl) p1 2 (othM Lx (muM Lx p1 0) (muM Lx p1 2))) (muM Lx p1 0) (muM Lx p1 2)))) H := hP
                have hD : va_D A0 (wMod D Ax th ns fog nr nm nl (smM (smM (crO Lz p1 (muM Lx p1 0) (muM Lx p1 2) nl nl) p1 2 (othM Lx (muM Lx p1 0) (muM Lx p1 2))) p1 3 (hrsM (smM (crO Lz p1 (muM Lx p1 0) (muM Lx p1 2) nl nl) p1 2 (othM Lx (muM Lx p1 0) (muM Lx p1 2))) (muM Lx p1 0) (muM Lx p1 2)))) := hD
                refine W.eq (g2 := F0 m 269 ls []) rfl ?_
                exact eWv hx hb hr hlocks dX7_setOut_269 hS hP (by (rw [soM, ← hT, so2, if_neg c3]; first | done | rfl))
              · exact (up0 rfl c5).elim
            | succ j4 ih4 =>
              intro k4 hk4 x6_4 e6_4 yxL_4 eyxL_4  H locs hP hD hS ls hl
              subst e6_4 eyxL_4
              have hlt4 : k4 < nl := by omega
              have hlt : k4 < nl := hlt4
              refine lv_iload hx hb dX7_setOut_108 (lv_at hl 0 rfl) ?_
              refine lv_aload_n hx hb dX7_setOut_110 rfl (lv_at hl 5 rfl) ?_
              refine va_get (D := D.1) (ci := 7) (v := .int (nI nl)) (C := RX7) (T := TX7) (N := 14) hx hb hts hinX7 hown hK hP 0 rfl rfl 8 (by decide) (hts (.fieldLink RX7 48 "MountainPostModel" "letters" "I") (List.mem_of_getElem? (i := 1) rfl)) (fun _ h9 => h9) rfl dX7_setOut_111 ?_
              refine lv_icmp_ge (tgt := 249) hx hb dX7_setOut_114 (by decide) (fun c6 => ?_) (fun c6 => ?_)
              · exact (upS hk4 (by omega) c6).elim
              · refine lv_aload_n hx hb dX7_setOut_117 rfl (lv_at hl 5 rfl) ?_
                refine lv_iload hx hb dX7_setOut_118 (lv_at hl 0 rfl) ?_
                refine lv_iconst (v := 5) hx hb dX7_setOut_120 (by decide) ?_
                refine kVp ⟨hx, hb, hml, hown, hts⟩ (c_X7_le l D Ax th ns fog nr nm nl (crO Lz p1 (muM Lx p1 0) (muM Lx p1 2) nl k4) (nI k4) 5 (ixl (vd_k (by omega)) b60 5 (by decide))) (cwV 2 hts gX7_setOut_X7_le rfl rfl rfl (by decide +kernel) ⟨Nat.le_of_ble_eq_true rfl, Nat.le_of_ble_eq_true rfl⟩) hK hN hP hD Sb.self 7 0 rfl rfl rfl hl.1 (Nat.le_of_ble_eq_true rfl) ⟨Nat.zero_le _, Nat.zero_le _⟩ dX7_setOut_121 ?_ rfl
                refine lv_iload_n hx hb dX7_setOut_124 rfl (lv_at hl 6 rfl) ?_
                refine lv_icmp_eq (tgt := 131) hx hb dX7_setOut_125 (by decide) (fun c7 => ?_) (fun c7 => ?_)
                · refine lv_iconst (v := 0) hx hb dX7_setOut_131 (by decide) ?_
                  refine lv_istore (lv' := [(7, .int 0), (6, .int (nI k4)), (5, .int (nI t)), (4, .int (othM Lx (muM Lx p1 0) (muM Lx p1 2))), (3, .int (muM Lx p1 2)), (2, .int (muM Lx p1 0)), (0, .ref (Ax 0)), (1, .int p1)]) hx hb dX7_setOut_132 hl (by decide) rfl (fun ls hl => ?_)
                  have lp8 : ∀ (j8 : Nat) (k8 : Nat) (hk8 : k8 + j8 = nl) (x7_8 : Int32) (e7_8 : x7_8 = (nI k8)) (yxL_8 : Nat → Nat → Int32) (eyxL_8 : yxL_8 = (crI (crO Lz p1 (muM Lx p1 0) (muM Lx p1 2) nl k4) (muM Lx p1 0) (muM Lx p1 2) (nI k4) k8)) (H : Heap) (locs : List Loc) (hP : va_P D.1 vwCl (wMod D Ax th ns fog nr nm nl yxL_8) H) (hD : va_D A0 (wMod D Ax th ns fog nr nm nl yxL_8)) (hS : va_S A0 s.heap H locs) (ls : Array Slot) (hl : lv_has ls 9 [(7, .int x7_8), (6, .int (nI k4)), (5, .int (nI t)), (4, .int (othM Lx (muM Lx p1 0) (muM Lx p1 2))), (3, .int (muM Lx p1 2)), (2, .int (muM Lx p1 0)), (0, .ref (Ax 0)), (1, .int p1)]), W p l e (headSpec wsX7_setOut ({ frames := 4, cells := 0, slots := 0, locals := 90 } : Room)).room s m ([.ref (Ax 0), .int p1] : List Value).toArray below meth c H locs 0 0 (MQ below (QW D none (wMod D Ax th ns fog nr nm nl (soM Lx p1 nl)) A0) ([.ref (Ax 0), .int p1] : List Value).toArray s 0 0 A0) (F0 m 134 ls []) := by
                    intro j8
                    induction j8 with
                    | zero =>
                      intro k8 hk8 x7_8 e7_8 yxL_8 eyxL_8  H locs hP hD hS ls hl
                      subst e7_8 eyxL_8
                      have hkN8 : nl = k8 := (by omega)
                      subst hkN8
                      refine lv_iload hx hb dX7_setOut_134 (lv_at hl 0 rfl) ?_
                      refine lv_aload_n hx hb dX7_setOut_136 rfl (lv_at hl 6 rfl) ?_
                      refine va_get (D := D.1) (ci := 7) (v := .int (nI nl)) (C := RX7) (T := TX7) (N := 14) hx hb hts hinX7 hown hK hP 0 rfl rfl 8 (by decide) (hts (.fieldLink RX7 48 "MountainPostModel" "letters" "I") (List.mem_of_getElem? (i := 1) rfl)) (fun _ h9 => h9) rfl dX7_setOut_137 ?_
                      refine lv_icmp_ge (tgt := 243) hx hb dX7_setOut_140 (by decide) (fun c9 => ?_) (fun c9 => ?_)
                      · refine lv_iinc (v := ((nI k4) + 1)) (lv' := [(6, .int ((nI k4) + 1)), (7, .int (nI nl)), (5, .int (nI t)), (4, .int (othM Lx (muM Lx p1 0) (muM Lx p1 2))), (3, .int (muM Lx p1 2)), (2, .int (muM Lx p1 0)), (0, .ref (Ax 0)), (1, .int p1)]) hx hb dX7_setOut_243 hl (k := 1) rfl rfl (by decide) rfl (fun ls hl => ?_)
                        refine lv_goto (tgt := 108) hx hb dX7_setOut_246 (by decide) ?_
                        exact ih4 (k4 + 1) (by omega) _ (nI_1 k4) _ (by (rw [crO, if_pos c7]; first | done | rfl)) _ _ hP hD hS ls (lv_sub hl [0, 2, 3, 4, 5, 6, 7] rfl)
                      · exact (up0 rfl c9).elim
                    | succ j8 ih8 =>
                      intro k8 hk8 x7_8 e7_8 yxL_8 eyxL_8  H locs hP hD hS ls hl
                      subst e7_8 eyxL_8
                      have hlt8 : k8 < nl := by omega
                      have hlt : k8 < nl := hlt8
                      refine lv_iload hx hb dX7_setOut_134 (lv_at hl 0 rfl) ?_
                      refine lv_aload_n hx hb dX7_setOut_136 rfl (lv_at hl 6 rfl) ?_
                      refine va_get (D := D.1) (ci := 7) (v := .int (nI nl)) (C := RX7) (T := TX7) (N := 14) hx hb hts hinX7 hown hK hP 0 rfl rfl 8 (by decide) (hts (.fieldLink RX7 48 "MountainPostModel" "letters" "I") (List.mem_of_getElem? (i := 1) rfl)) (fun _ h9 => h9) rfl dX7_setOut_137 ?_
                      refine lv_icmp_ge (tgt := 243) hx hb dX7_setOut_140 (by decide) (fun c10 => ?_) (fun c10 => ?_)
                      · exact (upS hk8 (by omega) c10).elim
                      · refine lv_aload_n hx hb dX7_setOut_143 rfl (lv_at hl 6 rfl) ?_
                        refine lv_iload hx hb dX7_setOut_144 (lv_at hl 0 rfl) ?_
                        refine lv_iconst (v := 5) hx hb dX7_setOut_146 (by decide) ?_
                        refine kVp ⟨hx, hb, hml, hown, hts⟩ (c_X7_le l D Ax th ns fog nr nm nl (crI (crO Lz p1 (muM Lx p1 0) (muM Lx p1 2) nl k4) (muM Lx p1 0) (muM Lx p1 2) (nI k4) k8) (nI k8) 5 (ixl (vd_k (by omega)) b60 5 (by decide))) (cwV 2 hts gX7_setOut_X7_le rfl rfl rfl (by decide +kernel) ⟨Nat.le_of_ble_eq_true rfl, Nat.le_of_ble_eq_true rfl⟩) hK hN hP hD Sb.self 7 0 rfl rfl rfl hl.1 (Nat.le_of_ble_eq_true rfl) ⟨Nat.zero_le _, Nat.zero_le _⟩ dX7_setOut_147 ?_ rfl
                        refine lv_istore (lv' := [(8, .int (leM (crI (crO Lz p1 (muM Lx p1 0) (muM Lx p1 2) nl k4) (muM Lx p1 0) (muM Lx p1 2) (nI k4) k8) (nI k8) 5)), (7, .int (nI k8)), (6, .int (nI k4)), (5, .int (nI t)), (4, .int (othM Lx (muM Lx p1 0) (muM Lx p1 2))), (3, .int (muM Lx p1 2)), (2, .int (muM Lx p1 0)), (0, .ref (Ax 0)), (1, .int p1)]) hx hb dX7_setOut_150 hl (by decide) rfl (fun ls hl => ?_)
                        refine lv_iload hx hb dX7_setOut_152 (lv_at hl 0 rfl) ?_
                        refine lv_iconst (v := (-1)) hx hb dX7_setOut_154 (by decide) ?_
                        refine lv_icmp_eq (tgt := 237) hx hb dX7_setOut_155 (by decide) (fun c11 => ?_) (fun c11 => ?_)
                        · refine lv_iinc (v := ((nI k8) + 1)) (lv' := [(7, .int ((nI k8) + 1)), (8, .int (leM (crI (crO Lz p1 (muM Lx p1 0) (muM Lx p1 2) nl k4) (muM Lx p1 0) (muM Lx p1 2) (nI k4) k8) (nI k8) 5)), (6, .int (nI k4)), (5, .int (nI t)), (4, .int (othM Lx (muM Lx p1 0) (muM Lx p1 2))), (3, .int (muM Lx p1 2)), (2, .int (muM Lx p1 0)), (0, .ref (Ax 0)), (1, .int p1)]) hx hb dX7_setOut_237 hl (k := 1) rfl rfl (by decide) rfl (fun ls hl => ?_)
                          refine lv_goto (tgt := 134) hx hb dX7_setOut_240 (by decide) ?_
                          exact ih8 (k8 + 1) (by omega) _ (nI_1 k8) _ (by (rw [crI, if_pos c11]; first | done | rfl)) _ _ hP hD hS ls (lv_sub hl [0, 2, 3, 4, 5, 6, 7, 8] rfl)
                        · refine lv_aload_n hx hb dX7_setOut_158 rfl (lv_at hl 7 rfl) ?_
                          refine lv_iload hx hb dX7_setOut_159 (lv_at hl 0 rfl) ?_
                          refine lv_iconst (v := 0) hx hb dX7_setOut_161 (by decide) ?_
                          refine kVp ⟨hx, hb, hml, hown, hts⟩ (c_X7_mu l D Ax th ns fog nr nm nl (crI (crO Lz p1 (muM Lx p1 0) (muM Lx p1 2) nl k4) (muM Lx p1 0) (muM Lx p1 2) (nI k4) k8) (leM (crI (crO Lz p1 (muM Lx p1 0) (muM Lx p1 2) nl k4) (muM Lx p1 0) (muM Lx p1 2) (nI k4) k8) (nI k8) 5) 0 (ixm (okW (okS_crI _ (okS_crO _ hz)) (vd_k (by omega)) c11) b12 0 (by decide))) (cwV 2 hts gX7_setOut_X7_mu rfl rfl rfl (by decide +kernel) ⟨Nat.le_of_ble_eq_true rfl, Nat.le_of_ble_eq_true rfl⟩) hK hN hP hD Sb.self 7 0 rfl rfl rfl hl.1 (Nat.le_of_ble_eq_true rfl) ⟨Nat.zero_le _, Nat.zero_le _⟩ dX7_setOut_162 ?_ rfl
                          refine lv_iload_n hx hb dX7_setOut_165 rfl (lv_at hl 6 rfl) ?_
                          refine lv_icmp_ne (tgt := 237) hx hb dX7_setOut_166 (by decide) (fun c12 => ?_) (fun c12 => ?_)
                          · refine lv_iinc (v := ((nI k8) + 1)) (lv' := [(7, .int ((nI k8) + 1)), (8, .int (leM (crI (crO Lz p1 (muM Lx p1 0) (muM Lx p1 2) nl k4) (muM Lx p1 0) (muM Lx p1 2) (nI k4) k8) (nI k8) 5)), (6, .int (nI k4)), (5, .int (nI t)), (4, .int (othM Lx (muM Lx p1 0) (muM Lx p1 2))), (3, .int (muM Lx p1 2)), (2, .int (muM Lx p1 0)), (0, .ref (Ax 0)), (1, .int p1)]) hx hb dX7_setOut_237 hl (k := 1) rfl rfl (by decide) rfl (fun ls hl => ?_)
                            refine lv_goto (tgt := 134) hx hb dX7_setOut_240 (by decide) ?_
                            exact ih8 (k8 + 1) (by omega) _ (nI_1 k8) _ (by (rw [crI, if_neg c11, if_neg c12]; first | done | rfl)) _ _ hP hD hS ls (lv_sub hl [0, 2, 3, 4, 5, 6, 7, 8] rfl)
                          · refine lv_aload_n hx hb dX7_setOut_169 rfl (lv_at hl 7 rfl) ?_
                            refine lv_iload hx hb dX7_setOut_170 (lv_at hl 0 rfl) ?_
                            refine lv_iconst (v := 3) hx hb dX7_setOut_172 (by decide) ?_
                            refine kVp ⟨hx, hb, hml, hown, hts⟩ (c_X7_mu l D Ax th ns fog nr nm nl (crI (crO Lz p1 (muM Lx p1 0) (muM Lx p1 2) nl k4) (muM Lx p1 0) (muM Lx p1 2) (nI k4) k8) (leM (crI (crO Lz p1 (muM Lx p1 0) (muM Lx p1 2) nl k4) (muM Lx p1 0) (muM Lx p1 2) (nI k4) k8) (nI k8) 5) 3 (ixm (okW (okS_crI _ (okS_crO _ hz)) (vd_k (by omega)) c11) b12 3 (by decide))) (cwV 2 hts gX7_setOut_X7_mu rfl rfl rfl (by decide +kernel) ⟨Nat.le_of_ble_eq_true rfl, Nat.le_of_ble_eq_true rfl⟩) hK hN hP hD Sb.self 7 0 rfl rfl rfl hl.1 (Nat.le_of_ble_eq_true rfl) ⟨Nat.zero_le _, Nat.zero_le _⟩ dX7_setOut_173 ?_ rfl
                            refine lv_if_eq (tgt := 237) hx hb dX7_setOut_176 (by decide) (fun c13 => ?_) (fun c13 => ?_)
                            · refine lv_iinc (v := ((nI k8) + 1)) (lv' := [(7, .int ((nI k8) + 1)), (8, .int (leM (crI (crO Lz p1 (muM Lx p1 0) (muM Lx p1 2) nl k4) (muM Lx p1 0) (muM Lx p1 2) (nI k4) k8) (nI k8) 5)), (6, .int (nI k4)), (5, .int (nI t)), (4, .int (othM Lx (muM Lx p1 0) (muM Lx p1 2))), (3, .int (muM Lx p1 2)), (2, .int (muM Lx p1 0)), (0, .ref (Ax 0)), (1, .int p1)]) hx hb dX7_setOut_237 hl (k := 1) rfl rfl (by decide) rfl (fun ls hl => ?_)
                              refine lv_goto (tgt := 134) hx hb dX7_setOut_240 (by decide) ?_
                              exact ih8 (k8 + 1) (by omega) _ (nI_1 k8) _ (by (rw [crI, if_neg c11, if_pos c12, if_pos c13]; first | done | rfl)) _ _ hP hD hS ls (lv_sub hl [0, 2, 3, 4, 5, 6, 7, 8] rfl)
                            · refine lv_aload_n hx hb dX7_setOut_179 rfl (lv_at hl 7 rfl) ?_
                              refine lv_iload hx hb dX7_setOut_180 (lv_at hl 0 rfl) ?_
                              refine lv_iconst (v := 2) hx hb dX7_setOut_182 (by decide) ?_
                              refine kVp ⟨hx, hb, hml, hown, hts⟩ (c_X7_mu l D Ax th ns fog nr nm nl (crI (crO Lz p1 (muM Lx p1 0) (muM Lx p1 2) nl k4) (muM Lx p1 0) (muM Lx p1 2) (nI k4) k8) (leM (crI (crO Lz p1 (muM Lx p1 0) (muM Lx p1 2) nl k4) (muM Lx p1 0) (muM Lx p1 2) (nI k4) k8) (nI k8) 5) 2 (ixm (okW (okS_crI _ (okS_crO _ hz)) (vd_k (by omega)) c11) b12 2 (by decide))) (cwV 2 hts gX7_setOut_X7_mu rfl rfl rfl (by decide +kernel) ⟨Nat.le_of_ble_eq_true rfl, Nat.le_of_ble_eq_true rfl⟩) hK hN hP hD Sb.self 7 0 rfl rfl rfl hl.1 (Nat.le_of_ble_eq_true rfl) ⟨Nat.zero_le _, Nat.zero_le _⟩ dX7_setOut_183 ?_ rfl
                              refine lv_iload_n hx hb dX7_setOut_186 rfl (lv_at hl 5 rfl) ?_
                              refine lv_icmp_eq (tgt := 193) hx hb dX7_setOut_187 (by decide) (fun c14 => ?_) (fun c14 => ?_)
                              · refine lv_aload_n hx hb dX7_setOut_193 rfl (lv_at hl 7 rfl) ?_
                                refine lv_iload hx hb dX7_setOut_194 (lv_at hl 2 rfl) ?_
                                refine lv_iconst (v := 0) hx hb dX7_setOut_196 (by decide) ?_
                                refine kVp ⟨hx, hb, hml, hown, hts⟩ (c_X7_le l D Ax th ns fog nr nm nl (crI (crO Lz p1 (muM Lx p1 0) (muM Lx p1 2) nl k4) (muM Lx p1 0) (muM Lx p1 2) (nI k4) k8) (nI k4) 0 (ixl (vd_k (by omega)) b60 0 (by decide))) (cwV 2 hts gX7_setOut_X7_le rfl rfl rfl (by decide +kernel) ⟨Nat.le_of_ble_eq_true rfl, Nat.le_of_ble_eq_true rfl⟩) hK hN hP hD Sb.self 7 0 rfl rfl rfl hl.1 (Nat.le_of_ble_eq_true rfl) ⟨Nat.zero_le _, Nat.zero_le _⟩ dX7_setOut_197 ?_ rfl
                                refine lv_aload_n hx hb dX7_setOut_200 rfl (lv_at hl 7 rfl) ?_
                                refine lv_iload hx hb dX7_setOut_201 (lv_at hl 1 rfl) ?_
                                refine lv_iconst (v := 1) hx hb dX7_setOut_203 (by decide) ?_
                                refine kVp ⟨hx, hb, hml, hown, hts⟩ (c_X7_le l D Ax th ns fog nr nm nl (crI (crO Lz p1 (muM Lx p1 0) (muM Lx p1 2) nl k4) (muM Lx p1 0) (muM Lx p1 2) (nI k4) k8) (nI k8) 1 (ixl (vd_k (by omega)) b60 1 (by decide))) (cwV 2 hts gX7_setOut_X7_le rfl rfl rfl (by decide +kernel) ⟨Nat.le_of_ble_eq_true rfl, Nat.le_of_ble_eq_true rfl⟩) hK hN hP hD Sb.self 7 0 rfl rfl rfl hl.1 (Nat.le_of_ble_eq_true rfl) ⟨Nat.zero_le _, Nat.zero_le _⟩ dX7_setOut_204 ?_ rfl
                                refine lv_icmp_ne (tgt := 237) hx hb dX7_setOut_207 (by decide) (fun c15 => ?_) (fun c15 => ?_)
                                · refine lv_iinc (v := ((nI k8) + 1)) (lv' := [(7, .int ((nI k8) + 1)), (8, .int (leM (crI (crO Lz p1 (muM Lx p1 0) (muM Lx p1 2) nl k4) (muM Lx p1 0) (muM Lx p1 2) (nI k4) k8) (nI k8) 5)), (6, .int (nI k4)), (5, .int (nI t)), (4, .int (othM Lx (muM Lx p1 0) (muM Lx p1 2))), (3, .int (muM Lx p1 2)), (2, .int (muM Lx p1 0)), (0, .ref (Ax 0)), (1, .int p1)]) hx hb dX7_setOut_237 hl (k := 1) rfl rfl (by decide) rfl (fun ls hl => ?_)
                                  refine lv_goto (tgt := 134) hx hb dX7_setOut_240 (by decide) ?_
                                  exact ih8 (k8 + 1) (by omega) _ (nI_1 k8) _ (by (rw [crI, if_neg c11, if_pos c12, if_neg c13, if_pos c14, if_neg c15]; first | done | rfl)) _ _ hP hD hS ls (lv_sub hl [0, 2, 3, 4, 5, 6, 7, 8] rfl)
                                · refine lv_aload_n hx hb dX7_setOut_210 rfl (lv_at hl 7 rfl) ?_
                                  refine lv_iload hx hb dX7_setOut_211 (lv_at hl 1 rfl) ?_
                                  refine lv_iconst (v := 0) hx hb dX7_setOut_213 (by decide) ?_
                                  refine kVp ⟨hx, hb, hml, hown, hts⟩ (c_X7_le l D Ax th ns fog nr nm nl (crI (crO Lz p1 (muM Lx p1 0) (muM Lx p1 2) nl k4) (muM Lx p1 0) (muM Lx p1 2) (nI k4) k8) (nI k8) 0 (ixl (vd_k (by omega)) b60 0 (by decide))) (cwV 2 hts gX7_setOut_X7_le rfl rfl rfl (by decide +kernel) ⟨Nat.le_of_ble_eq_true rfl, Nat.le_of_ble_eq_true rfl⟩) hK hN hP hD Sb.self 7 0 rfl rfl rfl hl.1 (Nat.le_of_ble_eq_true rfl) ⟨Nat.zero_le _, Nat.zero_le _⟩ dX7_setOut_214 ?_ rfl
                                  refine lv_aload_n hx hb dX7_setOut_217 rfl (lv_at hl 7 rfl) ?_
                                  refine lv_iload hx hb dX7_setOut_218 (lv_at hl 2 rfl) ?_
                                  refine lv_iconst (v := 1) hx hb dX7_setOut_220 (by decide) ?_
                                  refine kVp ⟨hx, hb, hml, hown, hts⟩ (c_X7_le l D Ax th ns fog nr nm nl (crI (crO Lz p1 (muM Lx p1 0) (muM Lx p1 2) nl k4) (muM Lx p1 0) (muM Lx p1 2) (nI k4) k8) (nI k4) 1 (ixl (vd_k (by omega)) b60 1 (by decide))) (cwV 2 hts gX7_setOut_X7_le rfl rfl rfl (by decide +kernel) ⟨Nat.le_of_ble_eq_true rfl, Nat.le_of_ble_eq_true rfl⟩) hK hN hP hD Sb.self 7 0 rfl rfl rfl hl.1 (Nat.le_of_ble_eq_true rfl) ⟨Nat.zero_le _, Nat.zero_le _⟩ dX7_setOut_221 ?_ rfl
                                  refine lv_icmp_ne (tgt := 237) hx hb dX7_setOut_224 (by decide) (fun c16 => ?_) (fun c16 => ?_)
                                  · refine lv_iinc (v := ((nI k8) + 1)) (lv' := [(7, .int ((nI k8) + 1)), (8, .int (leM (crI (crO Lz p1 (muM Lx p1 0) (muM Lx p1 2) nl k4) (muM Lx p1 0) (muM Lx p1 2) (nI k4) k8) (nI k8) 5)), (6, .int (nI k4)), (5, .int (nI t)), (4, .int (othM Lx (muM Lx p1 0) (muM Lx p1 2))), (3, .int (muM Lx p1 2)), (2, .int (muM Lx p1 0)), (0, .ref (Ax 0)), (1, .int p1)]) hx hb dX7_setOut_237 hl (k := 1) rfl rfl (by decide) rfl (fun ls hl => ?_)
                                    refine lv_goto (tgt := 134) hx hb dX7_setOut_240 (by decide) ?_
                                    exact ih8 (k8 + 1) (by omega) _ (nI_1 k8) _ (by (rw [crI, if_neg c11, if_pos c12, if_neg c13, if_pos c14, if_pos c15, if_neg c16]; first | done | rfl)) _ _ hP hD hS ls (lv_sub hl [0, 2, 3, 4, 5, 6, 7, 8] rfl)
                                  · refine lv_aload_n hx hb dX7_setOut_227 rfl (lv_at hl 7 rfl) ?_
                                    refine va_get (D := D.1) (ci := 7) (v := .ref (Ax 6)) (C := RX7) (T := TX7) (N := 14) hx hb hts hinX7 hown hK hP 0 rfl rfl 11 (by decide) (hts (.fieldLink RX7 25 "MountainPostModel" "numbers" "[I") (List.mem_of_getElem? (i := 2) rfl)) (fun _ h9 => h9) rfl dX7_setOut_228 ?_
                                    refine lv_iconst (v := 1) hx hb dX7_setOut_231 (by decide) ?_
                                    refine lv_dup2_11 hx hb dX7_setOut_232 rfl rfl ?_
                                    refine va_iald (D := D.1) hx hb hK hP 6 0 rfl rfl (show vp_in (nI 1) 2 from vp_in_nI (by decide) (by decide)) dX7_setOut_233 ?_
                                    rw [show (((crI (crO Lz p1 (muM Lx p1 0) (muM Lx p1 2) nl k4) (muM Lx p1 0) (muM Lx p1 2) (nI k4) k8) 5) (1 : Int32).toNatClampNeg) = (rg 2 ((crI (crO Lz p1 (muM Lx p1 0) (muM Lx p1 2) nl k4) (muM Lx p1 0) (muM Lx p1 2) (nI k4) k8) 5) (1 : Int32)) from (rg_vp (show vp_in (nI 1) 2 from vp_in_nI (by decide) (by decide))).symm]
                                    refine lv_iconst (v := 1) hx hb dX7_setOut_234 (by decide) ?_
                                    refine lv_iadd hx hb dX7_setOut_235 ?_
                                    refine va_iast (D := D.1) hx hb hK hP hD hS 6 0 rfl rfl (show vp_in (nI 1) 2 from vp_in_nI (by decide) (by decide)) dX7_setOut_236 (fun H locs hP hD hS => ?_)
                                    have hP : va_P D.1 vwCl (wMod D Ax th ns fog nr nm nl (sr (crI (crO Lz p1 (muM Lx p1 0) (muM Lx p1 2) nl k4) (muM Lx p1 0) (muM Lx p1 2) (nI k4) k8) 5 (upd ((crI (crO Lz p1 (muM Lx p1 0) (muM Lx p1 2) nl k4) (muM Lx p1 0) (muM Lx p1 2) (nI k4) k8) 5) (1 : Int32).toNatClampNeg ((rg 2 ((crI (crO Lz p1 (muM Lx p1 0) (muM Lx p1 2) nl k4) (muM Lx p1 0) (muM Lx p1 2) (nI k4) k8) 5) (1 : Int32)) + 1)))) H := hP
                                    have hD : va_D A0 (wMod D Ax th ns fog nr nm nl (sr (crI (crO Lz p1 (muM Lx p1 0) (muM Lx p1 2) nl k4) (muM Lx p1 0) (muM Lx p1 2) (nI k4) k8) 5 (upd ((crI (crO Lz p1 (muM Lx p1 0) (muM Lx p1 2) nl k4) (muM Lx p1 0) (muM Lx p1 2) (nI k4) k8) 5) (1 : Int32).toNatClampNeg ((rg 2 ((crI (crO Lz p1 (muM Lx p1 0) (muM Lx p1 2) nl k4) (muM Lx p1 0) (muM Lx p1 2) (nI k4) k8) 5) (1 : Int32)) + 1)))) := hD
                                    rw [← rs_vp (n := 2) (f := ((crI (crO Lz p1 (muM Lx p1 0) (muM Lx p1 2) nl k4) (muM Lx p1 0) (muM Lx p1 2) (nI k4) k8) 5)) (x := (1 : Int32)) (v := ((rg 2 ((crI (crO Lz p1 (muM Lx p1 0) (muM Lx p1 2) nl k4) (muM Lx p1 0) (muM Lx p1 2) (nI k4) k8) 5) (1 : Int32)) + 1)) (show vp_in (nI 1) 2 from vp_in_nI (by decide) (by decide))] at hP hD
                                    refine lv_iinc (v := ((nI k8) + 1)) (lv' := [(7, .int ((nI k8) + 1)), (8, .int (leM (crI (crO Lz p1 (muM Lx p1 0) (muM Lx p1 2) nl k4) (muM Lx p1 0) (muM Lx p1 2) (nI k4) k8) (nI k8) 5)), (6, .int (nI k4)), (5, .int (nI t)), (4, .int (othM Lx (muM Lx p1 0) (muM Lx p1 2))), (3, .int (muM Lx p1 2)), (2, .int (muM Lx p1 0)), (0, .ref (Ax 0)), (1, .int p1)]) hx hb dX7_setOut_237 hl (k := 1) rfl rfl (by decide) rfl (fun ls hl => ?_)
                                    refine lv_goto (tgt := 134) hx hb dX7_setOut_240 (by decide) ?_
                                    exact ih8 (k8 + 1) (by omega) _ (nI_1 k8) _ (by (rw [crI, if_neg c11, if_pos c12, if_neg c13, if_pos c14, if_pos c15, if_pos c16]; first | done | rfl)) _ _ hP hD hS ls (lv_sub hl [0, 2, 3, 4, 5, 6, 7, 8] rfl)
                              · refine lv_goto (tgt := 237) hx hb dX7_setOut_190 (by decide) ?_
                                refine lv_iinc (v := ((nI k8) + 1)) (lv' := [(7, .int ((nI k8) + 1)), (8, .int (leM (crI (crO Lz p1 (muM Lx p1 0) (muM Lx p1 2) nl k4) (muM Lx p1 0) (muM Lx p1 2) (nI k4) k8) (nI k8) 5)), (6, .int (nI k4)), (5, .int (nI t)), (4, .int (othM Lx (muM Lx p1 0) (muM Lx p1 2))), (3, .int (muM Lx p1 2)), (2, .int (muM Lx p1 0)), (0, .ref (Ax 0)), (1, .int p1)]) hx hb dX7_setOut_237 hl (k := 1) rfl rfl (by decide) rfl (fun ls hl => ?_)
                                refine lv_goto (tgt := 134) hx hb dX7_setOut_240 (by decide) ?_
                                exact ih8 (k8 + 1) (by omega) _ (nI_1 k8) _ (by (rw [crI, if_neg c11, if_pos c12, if_neg c13, if_neg c14]; first | done | rfl)) _ _ hP hD hS ls (lv_sub hl [0, 2, 3, 4, 5, 6, 7, 8] rfl)
                  exact lp8 nl 0 (by omega) _ nI_0.symm _ rfl _ _ hP hD hS ls (lv_sub hl [0, 1, 2, 3, 4, 5, 6, 7] rfl)
                · refine lv_goto (tgt := 243) hx hb dX7_setOut_128 (by decide) ?_
                  refine lv_iinc (v := ((nI k4) + 1)) (lv' := [(6, .int ((nI k4) + 1)), (5, .int (nI t)), (4, .int (othM Lx (muM Lx p1 0) (muM Lx p1 2))), (3, .int (muM Lx p1 2)), (2, .int (muM Lx p1 0)), (0, .ref (Ax 0)), (1, .int p1)]) hx hb dX7_setOut_243 hl (k := 0) rfl rfl (by decide) rfl (fun ls hl => ?_)
                  refine lv_goto (tgt := 108) hx hb dX7_setOut_246 (by decide) ?_
                  exact ih4 (k4 + 1) (by omega) _ (nI_1 k4) _ (by (rw [crO, if_neg c7]; first | done | rfl)) _ _ hP hD hS ls (lv_sub hl [0, 1, 2, 3, 4, 5, 6] rfl)
          exact lp4 nl 0 (by omega) _ nI_0.symm _ rfl _ _ hP hD hS ls (lv_sub hl [0, 1, 2, 3, 4, 5, 6] rfl)
        · refine lv_aload_n hx hb dX7_setOut_93 rfl (lv_at hl 5 rfl) ?_
          refine lv_iload hx hb dX7_setOut_94 (lv_at hl 2 rfl) ?_
          refine lv_iload_n hx hb dX7_setOut_96 rfl (lv_at hl 4 rfl) ?_
          refine kVp ⟨hx, hb, hml, hown, hts⟩ (c_X7_next l D Ax th ns fog nr nm nl Lz (othM Lx (muM Lx p1 0) (muM Lx p1 2)) (muM Lx p1 0) (by assumption) (by assumption) (othM_vd hS9.1 (hS9.2.1 _ hvm).1) (okS_g hz)) (cwV 2 hts gX7_setOut_X7_next rfl rfl rfl (by decide +kernel) ⟨Nat.le_of_ble_eq_true rfl, Nat.le_of_ble_eq_true rfl⟩) hK hN hP hD Sb.self 7 0 rfl rfl rfl hl.1 (Nat.le_of_ble_eq_true rfl) ⟨Nat.zero_le _, Nat.zero_le _⟩ dX7_setOut_97 ?_ rfl
          refine lv_iconst (v := (-1)) hx hb dX7_setOut_100 (by decide) ?_
          refine lv_icmp_ne (tgt := 105) hx hb dX7_setOut_101 (by decide) (fun c17 => ?_) (fun c17 => ?_)
          · refine lv_iconst (v := 0) hx hb dX7_setOut_105 (by decide) ?_
            refine lv_istore (lv' := [(6, .int 0), (5, .int (nI t)), (4, .int (othM Lx (muM Lx p1 0) (muM Lx p1 2))), (3, .int (muM Lx p1 2)), (2, .int (muM Lx p1 0)), (0, .ref (Ax 0)), (1, .int p1)]) hx hb dX7_setOut_106 hl (by decide) rfl (fun ls hl => ?_)
            have lp18 : ∀ (j18 : Nat) (k18 : Nat) (hk18 : k18 + j18 = nl) (x6_18 : Int32) (e6_18 : x6_18 = (nI k18)) (yxL_18 : Nat → Nat → Int32) (eyxL_18 : yxL_18 = (crO Lz p1 (muM Lx p1 0) (muM Lx p1 2) nl k18)) (H : Heap) (locs : List Loc) (hP : va_P D.1 vwCl (wMod D Ax th ns fog nr nm nl yxL_18) H) (hD : va_D A0 (wMod D Ax th ns fog nr nm nl yxL_18)) (hS : va_S A0 s.heap H locs) (ls : Array Slot) (hl : lv_has ls 9 [(6, .int x6_18), (5, .int (nI t)), (4, .int (othM Lx (muM Lx p1 0) (muM Lx p1 2))), (3, .int (muM Lx p1 2)), (2, .int (muM Lx p1 0)), (0, .ref (Ax 0)), (1, .int p1)]), W p l e (headSpec wsX7_setOut ({ frames := 4, cells := 0, slots := 0, locals := 90 } : Room)).room s m ([.ref (Ax 0), .int p1] : List Value).toArray below meth c H locs 0 0 (MQ below (QW D none (wMod D Ax th ns fog nr nm nl (soM Lx p1 nl)) A0) ([.ref (Ax 0), .int p1] : List Value).toArray s 0 0 A0) (F0 m 108 ls []) := by
              intro j18
              induction j18 with
              | zero =>
                intro k18 hk18 x6_18 e6_18 yxL_18 eyxL_18  H locs hP hD hS ls hl
                subst e6_18 eyxL_18
                have hkN18 : nl = k18 := (by omega)
                subst hkN18
                refine lv_iload hx hb dX7_setOut_108 (lv_at hl 0 rfl) ?_
                refine lv_aload_n hx hb dX7_setOut_110 rfl (lv_at hl 5 rfl) ?_
                refine va_get (D := D.1) (ci := 7) (v := .int (nI nl)) (C := RX7) (T := TX7) (N := 14) hx hb hts hinX7 hown hK hP 0 rfl rfl 8 (by decide) (hts (.fieldLink RX7 48 "MountainPostModel" "letters" "I") (List.mem_of_getElem? (i := 1) rfl)) (fun _ h9 => h9) rfl dX7_setOut_111 ?_
                refine lv_icmp_ge (tgt := 249) hx hb dX7_setOut_114 (by decide) (fun c19 => ?_) (fun c19 => ?_)
                · refine lv_aload_n hx hb dX7_setOut_249 rfl (lv_at hl 5 rfl) ?_
                  refine lv_iload_n hx hb dX7_setOut_250 rfl (lv_at hl 6 rfl) ?_
                  refine lv_iconst (v := 2) hx hb dX7_setOut_251 (by decide) ?_
                  refine lv_iload hx hb dX7_setOut_252 (lv_at hl 2 rfl) ?_
                  refine kVw ⟨hx, hb, hml, hown, hts⟩ (c_X7_setMu l D Ax th ns fog nr nm nl (crO Lz p1 (muM Lx p1 0) (muM Lx p1 2) nl nl) p1 2 (othM Lx (muM Lx p1 0) (muM Lx p1 2)) (ixm (by assumption) b12 2 (by decide))) (cwV 3 hts gX7_setOut_X7_setMu rfl rfl rfl (by decide +kernel) ⟨Nat.le_of_ble_eq_true rfl, Nat.le_of_ble_eq_true rfl⟩) hK hN hP hD hS frsMod 7 0 rfl rfl rfl hl.1 (Nat.le_of_ble_eq_true rfl) ⟨Nat.zero_le _, Nat.zero_le _⟩ dX7_setOut_254 (fun H locs hP hD hS => ?_) rfl
                  have hP : va_P D.1 vwCl (wMod D Ax th ns fog nr nm nl (smM (crO Lz p1 (muM Lx p1 0) (muM Lx p1 2) nl nl) p1 2 (othM Lx (muM Lx p1 0) (muM Lx p1 2)))) H := hP
                  have hD : va_D A0 (wMod D Ax th ns fog nr nm nl (smM (crO Lz p1 (muM Lx p1 0) (muM Lx p1 2) nl nl) p1 2 (othM Lx (muM Lx p1 0) (muM Lx p1 2)))) := hD
                  refine W.eq (g2 := F0 m 257 ls []) rfl ?_
                  refine lv_aload_n hx hb dX7_setOut_257 rfl (lv_at hl 5 rfl) ?_
                  refine lv_iload_n hx hb dX7_setOut_258 rfl (lv_at hl 6 rfl) ?_
                  refine lv_iconst (v := 3) hx hb dX7_setOut_259 (by decide) ?_
                  refine lv_aload_n hx hb dX7_setOut_260 rfl (lv_at hl 5 rfl) ?_
                  refine lv_iload_n hx hb dX7_setOut_261 rfl (lv_at hl 4 rfl) ?_
                  refine lv_iload_n hx hb dX7_setOut_262 rfl (lv_at hl 3 rfl) ?_
                  refine kVp ⟨hx, hb, hml, hown, hts⟩ (c_X7_hoursFrom l D Ax th ns fog nr nm nl (smM (crO Lz p1 (muM Lx p1 0) (muM Lx p1 2) nl nl) p1 2 (othM Lx (muM Lx p1 0) (muM Lx p1 2))) (muM Lx p1 0) (muM Lx p1 2) (by assumption) (by assumption) ((hS9.2.1 _ hvm).1) ((hS9.2.1 _ hvm).2.1) ((okS_crO nl hz).1)) (cwV 2 hts gX7_setOut_X7_hoursFrom rfl rfl rfl (by decide +kernel) ⟨Nat.le_of_ble_eq_true rfl, Nat.le_of_ble_eq_true rfl⟩) hK hN hP hD Sb.self 7 0 rfl rfl rfl hl.1 (Nat.le_of_ble_eq_true rfl) ⟨Nat.zero_le _, Nat.zero_le _⟩ dX7_setOut_263 ?_ rfl
                  refine kVw ⟨hx, hb, hml, hown, hts⟩ (c_X7_setMu l D Ax th ns fog nr nm nl (smM (crO Lz p1 (muM Lx p1 0) (muM Lx p1 2) nl nl) p1 2 (othM Lx (muM Lx p1 0) (muM Lx p1 2))) p1 3 (hrsM (smM (crO Lz p1 (muM Lx p1 0) (muM Lx p1 2) nl nl) p1 2 (othM Lx (muM Lx p1 0) (muM Lx p1 2))) (muM Lx p1 0) (muM Lx p1 2)) (ixm (by assumption) b12 3 (by decide))) (cwV 3 hts gX7_setOut_X7_setMu rfl rfl rfl (by decide +kernel) ⟨Nat.le_of_ble_eq_true rfl, Nat.le_of_ble_eq_true rfl⟩) hK hN hP hD hS frsMod 7 0 rfl rfl rfl hl.1 (Nat.le_of_ble_eq_true rfl) ⟨Nat.zero_le _, Nat.zero_le _⟩ dX7_setOut_266 (fun H locs hP hD hS => ?_) rfl
                  have hP : va_P D.1 vwCl (wMod D Ax th ns fog nr nm nl (smM (smM (crO Lz p1 (muM Lx p1 0) (muM Lx p1 2) nl nl) p1 2 (othM Lx (muM Lx p1 0) (muM Lx p1 2))) p1 3 (hrsM (smM (crO Lz p1 (muM Lx p1 0) (muM Lx p1 2) nl nl) p1 2 (othM Lx (muM Lx p1 0) (muM Lx p1 2))) (muM Lx p1 0) (muM Lx p1 2)))) H := hP
                  have hD : va_D A0 (wMod D Ax th ns fog nr nm nl (smM (smM (crO Lz p1 (muM Lx p1 0) (muM Lx p1 2) nl nl) p1 2 (othM Lx (muM Lx p1 0) (muM Lx p1 2))) p1 3 (hrsM (smM (crO Lz p1 (muM Lx p1 0) (muM Lx p1 2) nl nl) p1 2 (othM Lx (muM Lx p1 0) (muM Lx p1 2))) (muM Lx p1 0) (muM Lx p1 2)))) := hD
                  refine W.eq (g2 := F0 m 269 ls []) rfl ?_
                  exact eWv hx hb hr hlocks dX7_setOut_269 hS hP (by (rw [soM, ← hT, so2, if_pos c3, if_neg c17]; first | done | rfl))
                · exact (up0 rfl c19).elim
              | succ j18 ih18 =>
                intro k18 hk18 x6_18 e6_18 yxL_18 eyxL_18  H locs hP hD hS ls hl
                subst e6_18 eyxL_18
                have hlt18 : k18 < nl := by omega
                have hlt : k18 < nl := hlt18
                refine lv_iload hx hb dX7_setOut_108 (lv_at hl 0 rfl) ?_
                refine lv_aload_n hx hb dX7_setOut_110 rfl (lv_at hl 5 rfl) ?_
                refine va_get (D := D.1) (ci := 7) (v := .int (nI nl)) (C := RX7) (T := TX7) (N := 14) hx hb hts hinX7 hown hK hP 0 rfl rfl 8 (by decide) (hts (.fieldLink RX7 48 "MountainPostModel" "letters" "I") (List.mem_of_getElem? (i := 1) rfl)) (fun _ h9 => h9) rfl dX7_setOut_111 ?_
                refine lv_icmp_ge (tgt := 249) hx hb dX7_setOut_114 (by decide) (fun c20 => ?_) (fun c20 => ?_)
                · exact (upS hk18 (by omega) c20).elim
                · refine lv_aload_n hx hb dX7_setOut_117 rfl (lv_at hl 5 rfl) ?_
                  refine lv_iload hx hb dX7_setOut_118 (lv_at hl 0 rfl) ?_
                  refine lv_iconst (v := 5) hx hb dX7_setOut_120 (by decide) ?_
                  refine kVp ⟨hx, hb, hml, hown, hts⟩ (c_X7_le l D Ax th ns fog nr nm nl (crO Lz p1 (muM Lx p1 0) (muM Lx p1 2) nl k18) (nI k18) 5 (ixl (vd_k (by omega)) b60 5 (by decide))) (cwV 2 hts gX7_setOut_X7_le rfl rfl rfl (by decide +kernel) ⟨Nat.le_of_ble_eq_true rfl, Nat.le_of_ble_eq_true rfl⟩) hK hN hP hD Sb.self 7 0 rfl rfl rfl hl.1 (Nat.le_of_ble_eq_true rfl) ⟨Nat.zero_le _, Nat.zero_le _⟩ dX7_setOut_121 ?_ rfl
                  refine lv_iload_n hx hb dX7_setOut_124 rfl (lv_at hl 6 rfl) ?_
                  refine lv_icmp_eq (tgt := 131) hx hb dX7_setOut_125 (by decide) (fun c21 => ?_) (fun c21 => ?_)
                  · refine lv_iconst (v := 0) hx hb dX7_setOut_131 (by decide) ?_
                    refine lv_istore (lv' := [(7, .int 0), (6, .int (nI k18)), (5, .int (nI t)), (4, .int (othM Lx (muM Lx p1 0) (muM Lx p1 2))), (3, .int (muM Lx p1 2)), (2, .int (muM Lx p1 0)), (0, .ref (Ax 0)), (1, .int p1)]) hx hb dX7_setOut_132 hl (by decide) rfl (fun ls hl => ?_)
                    have lp22 : ∀ (j22 : Nat) (k22 : Nat) (hk22 : k22 + j22 = nl) (x7_22 : Int32) (e7_22 : x7_22 = (nI k22)) (yxL_22 : Nat → Nat → Int32) (eyxL_22 : yxL_22 = (crI (crO Lz p1 (muM Lx p1 0) (muM Lx p1 2) nl k18) (muM Lx p1 0) (muM Lx p1 2) (nI k18) k22)) (H : Heap) (locs : List Loc) (hP : va_P D.1 vwCl (wMod D Ax th ns fog nr nm nl yxL_22) H) (hD : va_D A0 (wMod D Ax th ns fog nr nm nl yxL_22)) (hS : va_S A0 s.heap H locs) (ls : Array Slot) (hl : lv_has ls 9 [(7, .int x7_22), (6, .int (nI k18)), (5, .int (nI t)), (4, .int (othM Lx (muM Lx p1 0) (muM Lx p1 2))), (3, .int (muM Lx p1 2)), (2, .int (muM Lx p1 0)), (0, .ref (Ax 0)), (1, .int p1)]), W p l e (headSpec wsX7_setOut ({ frames := 4, cells := 0, slots := 0, locals := 90 } : Room)).room s m ([.ref (Ax 0), .int p1] : List Value).toArray below meth c H locs 0 0 (MQ below (QW D none (wMod D Ax th ns fog nr nm nl (soM Lx p1 nl)) A0) ([.ref (Ax 0), .int p1] : List Value).toArray s 0 0 A0) (F0 m 134 ls []) := by
                      intro j22
                      induction j22 with
                      | zero =>
                        intro k22 hk22 x7_22 e7_22 yxL_22 eyxL_22  H locs hP hD hS ls hl
                        subst e7_22 eyxL_22
                        have hkN22 : nl = k22 := (by omega)
                        subst hkN22
                        refine lv_iload hx hb dX7_setOut_134 (lv_at hl 0 rfl) ?_
                        refine lv_aload_n hx hb dX7_setOut_136 rfl (lv_at hl 6 rfl) ?_
                        refine va_get (D := D.1) (ci := 7) (v := .int (nI nl)) (C := RX7) (T := TX7) (N := 14) hx hb hts hinX7 hown hK hP 0 rfl rfl 8 (by decide) (hts (.fieldLink RX7 48 "MountainPostModel" "letters" "I") (List.mem_of_getElem? (i := 1) rfl)) (fun _ h9 => h9) rfl dX7_setOut_137 ?_
                        refine lv_icmp_ge (tgt := 243) hx hb dX7_setOut_140 (by decide) (fun c23 => ?_) (fun c23 => ?_)
                        · refine lv_iinc (v := ((nI k18) + 1)) (lv' := [(6, .int ((nI k18) + 1)), (7, .int (nI nl)), (5, .int (nI t)), (4, .int (othM Lx (muM Lx p1 0) (muM Lx p1 2))), (3, .int (muM Lx p1 2)), (2, .int (muM Lx p1 0)), (0, .ref (Ax 0)), (1, .int p1)]) hx hb dX7_setOut_243 hl (k := 1) rfl rfl (by decide) rfl (fun ls hl => ?_)
                          refine lv_goto (tgt := 108) hx hb dX7_setOut_246 (by decide) ?_
                          exact ih18 (k18 + 1) (by omega) _ (nI_1 k18) _ (by (rw [crO, if_pos c21]; first | done | rfl)) _ _ hP hD hS ls (lv_sub hl [0, 2, 3, 4, 5, 6, 7] rfl)
                        · exact (up0 rfl c23).elim
                      | succ j22 ih22 =>
                        intro k22 hk22 x7_22 e7_22 yxL_22 eyxL_22  H locs hP hD hS ls hl
                        subst e7_22 eyxL_22
                        have hlt22 : k22 < nl := by omega
                        have hlt : k22 < nl := hlt22
                        refine lv_iload hx hb dX7_setOut_134 (lv_at hl 0 rfl) ?_
                        refine lv_aload_n hx hb dX7_setOut_136 rfl (lv_at hl 6 rfl) ?_
                        refine va_get (D := D.1) (ci := 7) (v := .int (nI nl)) (C := RX7) (T := TX7) (N := 14) hx hb hts hinX7 hown hK hP 0 rfl rfl 8 (by decide) (hts (.fieldLink RX7 48 "MountainPostModel" "letters" "I") (List.mem_of_getElem? (i := 1) rfl)) (fun _ h9 => h9) rfl dX7_setOut_137 ?_
                        refine lv_icmp_ge (tgt := 243) hx hb dX7_setOut_140 (by decide) (fun c24 => ?_) (fun c24 => ?_)
                        · exact (upS hk22 (by omega) c24).elim
                        · refine lv_aload_n hx hb dX7_setOut_143 rfl (lv_at hl 6 rfl) ?_
                          refine lv_iload hx hb dX7_setOut_144 (lv_at hl 0 rfl) ?_
                          refine lv_iconst (v := 5) hx hb dX7_setOut_146 (by decide) ?_
                          refine kVp ⟨hx, hb, hml, hown, hts⟩ (c_X7_le l D Ax th ns fog nr nm nl (crI (crO Lz p1 (muM Lx p1 0) (muM Lx p1 2) nl k18) (muM Lx p1 0) (muM Lx p1 2) (nI k18) k22) (nI k22) 5 (ixl (vd_k (by omega)) b60 5 (by decide))) (cwV 2 hts gX7_setOut_X7_le rfl rfl rfl (by decide +kernel) ⟨Nat.le_of_ble_eq_true rfl, Nat.le_of_ble_eq_true rfl⟩) hK hN hP hD Sb.self 7 0 rfl rfl rfl hl.1 (Nat.le_of_ble_eq_true rfl) ⟨Nat.zero_le _, Nat.zero_le _⟩ dX7_setOut_147 ?_ rfl
                          refine lv_istore (lv' := [(8, .int (leM (crI (crO Lz p1 (muM Lx p1 0) (muM Lx p1 2) nl k18) (muM Lx p1 0) (muM Lx p1 2) (nI k18) k22) (nI k22) 5)), (7, .int (nI k22)), (6, .int (nI k18)), (5, .int (nI t)), (4, .int (othM Lx (muM Lx p1 0) (muM Lx p1 2))), (3, .int (muM Lx p1 2)), (2, .int (muM Lx p1 0)), (0, .ref (Ax 0)), (1, .int p1)]) hx hb dX7_setOut_150 hl (by decide) rfl (fun ls hl => ?_)
                          refine lv_iload hx hb dX7_setOut_152 (lv_at hl 0 rfl) ?_
                          refine lv_iconst (v := (-1)) hx hb dX7_setOut_154 (by decide) ?_
                          refine lv_icmp_eq (tgt := 237) hx hb dX7_setOut_155 (by decide) (fun c25 => ?_) (fun c25 => ?_)
                          · refine lv_iinc (v := ((nI k22) + 1)) (lv' := [(7, .int ((nI k22) + 1)), (8, .int (leM (crI (crO Lz p1 (muM Lx p1 0) (muM Lx p1 2) nl k18) (muM Lx p1 0) (muM Lx p1 2) (nI k18) k22) (nI k22) 5)), (6, .int (nI k18)), (5, .int (nI t)), (4, .int (othM Lx (muM Lx p1 0) (muM Lx p1 2))), (3, .int (muM Lx p1 2)), (2, .int (muM Lx p1 0)), (0, .ref (Ax 0)), (1, .int p1)]) hx hb dX7_setOut_237 hl (k := 1) rfl rfl (by decide) rfl (fun ls hl => ?_)
                            refine lv_goto (tgt := 134) hx hb dX7_setOut_240 (by decide) ?_
                            exact ih22 (k22 + 1) (by omega) _ (nI_1 k22) _ (by (rw [crI, if_pos c25]; first | done | rfl)) _ _ hP hD hS ls (lv_sub hl [0, 2, 3, 4, 5, 6, 7, 8] rfl)
                          · refine lv_aload_n hx hb dX7_setOut_158 rfl (lv_at hl 7 rfl) ?_
                            refine lv_iload hx hb dX7_setOut_159 (lv_at hl 0 rfl) ?_
                            refine lv_iconst (v := 0) hx hb dX7_setOut_161 (by decide) ?_
                            refine kVp ⟨hx, hb, hml, hown, hts⟩ (c_X7_mu l D Ax th ns fog nr nm nl (crI (crO Lz p1 (muM Lx p1 0) (muM Lx p1 2) nl k18) (muM Lx p1 0) (muM Lx p1 2) (nI k18) k22) (leM (crI (crO Lz p1 (muM Lx p1 0) (muM Lx p1 2) nl k18) (muM Lx p1 0) (muM Lx p1 2) (nI k18) k22) (nI k22) 5) 0 (ixm (okW (okS_crI _ (okS_crO _ hz)) (vd_k (by omega)) c25) b12 0 (by decide))) (cwV 2 hts gX7_setOut_X7_mu rfl rfl rfl (by decide +kernel) ⟨Nat.le_of_ble_eq_true rfl, Nat.le_of_ble_eq_true rfl⟩) hK hN hP hD Sb.self 7 0 rfl rfl rfl hl.1 (Nat.le_of_ble_eq_true rfl) ⟨Nat.zero_le _, Nat.zero_le _⟩ dX7_setOut_162 ?_ rfl
                            refine lv_iload_n hx hb dX7_setOut_165 rfl (lv_at hl 6 rfl) ?_
                            refine lv_icmp_ne (tgt := 237) hx hb dX7_setOut_166 (by decide) (fun c26 => ?_) (fun c26 => ?_)
                            · refine lv_iinc (v := ((nI k22) + 1)) (lv' := [(7, .int ((nI k22) + 1)), (8, .int (leM (crI (crO Lz p1 (muM Lx p1 0) (muM Lx p1 2) nl k18) (muM Lx p1 0) (muM Lx p1 2) (nI k18) k22) (nI k22) 5)), (6, .int (nI k18)), (5, .int (nI t)), (4, .int (othM Lx (muM Lx p1 0) (muM Lx p1 2))), (3, .int (muM Lx p1 2)), (2, .int (muM Lx p1 0)), (0, .ref (Ax 0)), (1, .int p1)]) hx hb dX7_setOut_237 hl (k := 1) rfl rfl (by decide) rfl (fun ls hl => ?_)
                              refine lv_goto (tgt := 134) hx hb dX7_setOut_240 (by decide) ?_
                              exact ih22 (k22 + 1) (by omega) _ (nI_1 k22) _ (by (rw [crI, if_neg c25, if_neg c26]; first | done | rfl)) _ _ hP hD hS ls (lv_sub hl [0, 2, 3, 4, 5, 6, 7, 8] rfl)
                            · refine lv_aload_n hx hb dX7_setOut_169 rfl (lv_at hl 7 rfl) ?_
                              refine lv_iload hx hb dX7_setOut_170 (lv_at hl 0 rfl) ?_
                              refine lv_iconst (v := 3) hx hb dX7_setOut_172 (by decide) ?_
                              refine kVp ⟨hx, hb, hml, hown, hts⟩ (c_X7_mu l D Ax th ns fog nr nm nl (crI (crO Lz p1 (muM Lx p1 0) (muM Lx p1 2) nl k18) (muM Lx p1 0) (muM Lx p1 2) (nI k18) k22) (leM (crI (crO Lz p1 (muM Lx p1 0) (muM Lx p1 2) nl k18) (muM Lx p1 0) (muM Lx p1 2) (nI k18) k22) (nI k22) 5) 3 (ixm (okW (okS_crI _ (okS_crO _ hz)) (vd_k (by omega)) c25) b12 3 (by decide))) (cwV 2 hts gX7_setOut_X7_mu rfl rfl rfl (by decide +kernel) ⟨Nat.le_of_ble_eq_true rfl, Nat.le_of_ble_eq_true rfl⟩) hK hN hP hD Sb.self 7 0 rfl rfl rfl hl.1 (Nat.le_of_ble_eq_true rfl) ⟨Nat.zero_le _, Nat.zero_le _⟩ dX7_setOut_173 ?_ rfl
                              refine lv_if_eq (tgt := 237) hx hb dX7_setOut_176 (by decide) (fun c27 => ?_) (fun c27 => ?_)
                              · refine lv_iinc (v := ((nI k22) + 1)) (lv' := [(7, .int ((nI k22) + 1)), (8, .int (leM (crI (crO Lz p1 (muM Lx p1 0) (muM Lx p1 2) nl k18) (muM Lx p1 0) (muM Lx p1 2) (nI k18) k22) (nI k22) 5)), (6, .int (nI k18)), (5, .int (nI t)), (4, .int (othM Lx (muM Lx p1 0) (muM Lx p1 2))), (3, .int (muM Lx p1 2)), (2, .int (muM Lx p1 0)), (0, .ref (Ax 0)), (1, .int p1)]) hx hb dX7_setOut_237 hl (k := 1) rfl rfl (by decide) rfl (fun ls hl => ?_)
                                refine lv_goto (tgt := 134) hx hb dX7_setOut_240 (by decide) ?_
                                exact ih22 (k22 + 1) (by omega) _ (nI_1 k22) _ (by (rw [crI, if_neg c25, if_pos c26, if_pos c27]; first | done | rfl)) _ _ hP hD hS ls (lv_sub hl [0, 2, 3, 4, 5, 6, 7, 8] rfl)
                              · refine lv_aload_n hx hb dX7_setOut_179 rfl (lv_at hl 7 rfl) ?_
                                refine lv_iload hx hb dX7_setOut_180 (lv_at hl 0 rfl) ?_
                                refine lv_iconst (v := 2) hx hb dX7_setOut_182 (by decide) ?_
                                refine kVp ⟨hx, hb, hml, hown, hts⟩ (c_X7_mu l D Ax th ns fog nr nm nl (crI (crO Lz p1 (muM Lx p1 0) (muM Lx p1 2) nl k18) (muM Lx p1 0) (muM Lx p1 2) (nI k18) k22) (leM (crI (crO Lz p1 (muM Lx p1 0) (muM Lx p1 2) nl k18) (muM Lx p1 0) (muM Lx p1 2) (nI k18) k22) (nI k22) 5) 2 (ixm (okW (okS_crI _ (okS_crO _ hz)) (vd_k (by omega)) c25) b12 2 (by decide))) (cwV 2 hts gX7_setOut_X7_mu rfl rfl rfl (by decide +kernel) ⟨Nat.le_of_ble_eq_true rfl, Nat.le_of_ble_eq_true rfl⟩) hK hN hP hD Sb.self 7 0 rfl rfl rfl hl.1 (Nat.le_of_ble_eq_true rfl) ⟨Nat.zero_le _, Nat.zero_le _⟩ dX7_setOut_183 ?_ rfl
                                refine lv_iload_n hx hb dX7_setOut_186 rfl (lv_at hl 5 rfl) ?_
                                refine lv_icmp_eq (tgt := 193) hx hb dX7_setOut_187 (by decide) (fun c28 => ?_) (fun c28 => ?_)
                                · refine lv_aload_n hx hb dX7_setOut_193 rfl (lv_at hl 7 rfl) ?_
                                  refine lv_iload hx hb dX7_setOut_194 (lv_at hl 2 rfl) ?_
                                  refine lv_iconst (v := 0) hx hb dX7_setOut_196 (by decide) ?_
                                  refine kVp ⟨hx, hb, hml, hown, hts⟩ (c_X7_le l D Ax th ns fog nr nm nl (crI (crO Lz p1 (muM Lx p1 0) (muM Lx p1 2) nl k18) (muM Lx p1 0) (muM Lx p1 2) (nI k18) k22) (nI k18) 0 (ixl (vd_k (by omega)) b60 0 (by decide))) (cwV 2 hts gX7_setOut_X7_le rfl rfl rfl (by decide +kernel) ⟨Nat.le_of_ble_eq_true rfl, Nat.le_of_ble_eq_true rfl⟩) hK hN hP hD Sb.self 7 0 rfl rfl rfl hl.1 (Nat.le_of_ble_eq_true rfl) ⟨Nat.zero_le _, Nat.zero_le _⟩ dX7_setOut_197 ?_ rfl
                                  refine lv_aload_n hx hb dX7_setOut_200 rfl (lv_at hl 7 rfl) ?_
                                  refine lv_iload hx hb dX7_setOut_201 (lv_at hl 1 rfl) ?_
                                  refine lv_iconst (v := 1) hx hb dX7_setOut_203 (by decide) ?_
                                  refine kVp ⟨hx, hb, hml, hown, hts⟩ (c_X7_le l D Ax th ns fog nr nm nl (crI (crO Lz p1 (muM Lx p1 0) (muM Lx p1 2) nl k18) (muM Lx p1 0) (muM Lx p1 2) (nI k18) k22) (nI k22) 1 (ixl (vd_k (by omega)) b60 1 (by decide))) (cwV 2 hts gX7_setOut_X7_le rfl rfl rfl (by decide +kernel) ⟨Nat.le_of_ble_eq_true rfl, Nat.le_of_ble_eq_true rfl⟩) hK hN hP hD Sb.self 7 0 rfl rfl rfl hl.1 (Nat.le_of_ble_eq_true rfl) ⟨Nat.zero_le _, Nat.zero_le _⟩ dX7_setOut_204 ?_ rfl
                                  refine lv_icmp_ne (tgt := 237) hx hb dX7_setOut_207 (by decide) (fun c29 => ?_) (fun c29 => ?_)
                                  · refine lv_iinc (v := ((nI k22) + 1)) (lv' := [(7, .int ((nI k22) + 1)), (8, .int (leM (crI (crO Lz p1 (muM Lx p1 0) (muM Lx p1 2) nl k18) (muM Lx p1 0) (muM Lx p1 2) (nI k18) k22) (nI k22) 5)), (6, .int (nI k18)), (5, .int (nI t)), (4, .int (othM Lx (muM Lx p1 0) (muM Lx p1 2))), (3, .int (muM Lx p1 2)), (2, .int (muM Lx p1 0)), (0, .ref (Ax 0)), (1, .int p1)]) hx hb dX7_setOut_237 hl (k := 1) rfl rfl (by decide) rfl (fun ls hl => ?_)
                                    refine lv_goto (tgt := 134) hx hb dX7_setOut_240 (by decide) ?_
                                    exact ih22 (k22 + 1) (by omega) _ (nI_1 k22) _ (by (rw [crI, if_neg c25, if_pos c26, if_neg c27, if_pos c28, if_neg c29]; first | done | rfl)) _ _ hP hD hS ls (lv_sub hl [0, 2, 3, 4, 5, 6, 7, 8] rfl)
                                  · refine lv_aload_n hx hb dX7_setOut_210 rfl (lv_at hl 7 rfl) ?_
                                    refine lv_iload hx hb dX7_setOut_211 (lv_at hl 1 rfl) ?_
                                    refine lv_iconst (v := 0) hx hb dX7_setOut_213 (by decide) ?_
                                    refine kVp ⟨hx, hb, hml, hown, hts⟩ (c_X7_le l D Ax th ns fog nr nm nl (crI (crO Lz p1 (muM Lx p1 0) (muM Lx p1 2) nl k18) (muM Lx p1 0) (muM Lx p1 2) (nI k18) k22) (nI k22) 0 (ixl (vd_k (by omega)) b60 0 (by decide))) (cwV 2 hts gX7_setOut_X7_le rfl rfl rfl (by decide +kernel) ⟨Nat.le_of_ble_eq_true rfl, Nat.le_of_ble_eq_true rfl⟩) hK hN hP hD Sb.self 7 0 rfl rfl rfl hl.1 (Nat.le_of_ble_eq_true rfl) ⟨Nat.zero_le _, Nat.zero_le _⟩ dX7_setOut_214 ?_ rfl
                                    refine lv_aload_n hx hb dX7_setOut_217 rfl (lv_at hl 7 rfl) ?_
                                    refine lv_iload hx hb dX7_setOut_218 (lv_at hl 2 rfl) ?_
                                    refine lv_iconst (v := 1) hx hb dX7_setOut_220 (by decide) ?_
                                    refine kVp ⟨hx, hb, hml, hown, hts⟩ (c_X7_le l D Ax th ns fog nr nm nl (crI (crO Lz p1 (muM Lx p1 0) (muM Lx p1 2) nl k18) (muM Lx p1 0) (muM Lx p1 2) (nI k18) k22) (nI k18) 1 (ixl (vd_k (by omega)) b60 1 (by decide))) (cwV 2 hts gX7_setOut_X7_le rfl rfl rfl (by decide +kernel) ⟨Nat.le_of_ble_eq_true rfl, Nat.le_of_ble_eq_true rfl⟩) hK hN hP hD Sb.self 7 0 rfl rfl rfl hl.1 (Nat.le_of_ble_eq_true rfl) ⟨Nat.zero_le _, Nat.zero_le _⟩ dX7_setOut_221 ?_ rfl
                                    refine lv_icmp_ne (tgt := 237) hx hb dX7_setOut_224 (by decide) (fun c30 => ?_) (fun c30 => ?_)
                                    · refine lv_iinc (v := ((nI k22) + 1)) (lv' := [(7, .int ((nI k22) + 1)), (8, .int (leM (crI (crO Lz p1 (muM Lx p1 0) (muM Lx p1 2) nl k18) (muM Lx p1 0) (muM Lx p1 2) (nI k18) k22) (nI k22) 5)), (6, .int (nI k18)), (5, .int (nI t)), (4, .int (othM Lx (muM Lx p1 0) (muM Lx p1 2))), (3, .int (muM Lx p1 2)), (2, .int (muM Lx p1 0)), (0, .ref (Ax 0)), (1, .int p1)]) hx hb dX7_setOut_237 hl (k := 1) rfl rfl (by decide) rfl (fun ls hl => ?_)
                                      refine lv_goto (tgt := 134) hx hb dX7_setOut_240 (by decide) ?_
                                      exact ih22 (k22 + 1) (by omega) _ (nI_1 k22) _ (by (rw [crI, if_neg c25, if_pos c26, if_neg c27, if_pos c28, if_pos c29, if_neg c30]; first | done | rfl)) _ _ hP hD hS ls (lv_sub hl [0, 2, 3, 4, 5, 6, 7, 8] rfl)
                                    · refine lv_aload_n hx hb dX7_setOut_227 rfl (lv_at hl 7 rfl) ?_
                                      refine va_get (D := D.1) (ci := 7) (v := .ref (Ax 6)) (C := RX7) (T := TX7) (N := 14) hx hb hts hinX7 hown hK hP 0 rfl rfl 11 (by decide) (hts (.fieldLink RX7 25 "MountainPostModel" "numbers" "[I") (List.mem_of_getElem? (i := 2) rfl)) (fun _ h9 => h9) rfl dX7_setOut_228 ?_
                                      refine lv_iconst (v := 1) hx hb dX7_setOut_231 (by decide) ?_
                                      refine lv_dup2_11 hx hb dX7_setOut_232 rfl rfl ?_
                                      refine va_iald (D := D.1) hx hb hK hP 6 0 rfl rfl (show vp_in (nI 1) 2 from vp_in_nI (by decide) (by decide)) dX7_setOut_233 ?_
                                      rw [show (((crI (crO Lz p1 (muM Lx p1 0) (muM Lx p1 2) nl k18) (muM Lx p1 0) (muM Lx p1 2) (nI k18) k22) 5) (1 : Int32).toNatClampNeg) = (rg 2 ((crI (crO Lz p1 (muM Lx p1 0) (muM Lx p1 2) nl k18) (muM Lx p1 0) (muM Lx p1 2) (nI k18) k22) 5) (1 : Int32)) from (rg_vp (show vp_in (nI 1) 2 from vp_in_nI (by decide) (by decide))).symm]
                                      refine lv_iconst (v := 1) hx hb dX7_setOut_234 (by decide) ?_
                                      refine lv_iadd hx hb dX7_setOut_235 ?_
                                      refine va_iast (D := D.1) hx hb hK hP hD hS 6 0 rfl rfl (show vp_in (nI 1) 2 from vp_in_nI (by decide) (by decide)) dX7_setOut_236 (fun H locs hP hD hS => ?_)
                                      have hP : va_P D.1 vwCl (wMod D Ax th ns fog nr nm nl (sr (crI (crO Lz p1 (muM Lx p1 0) (muM Lx p1 2) nl k18) (muM Lx p1 0) (muM Lx p1 2) (nI k18) k22) 5 (upd ((crI (crO Lz p1 (muM Lx p1 0) (muM Lx p1 2) nl k18) (muM Lx p1 0) (muM Lx p1 2) (nI k18) k22) 5) (1 : Int32).toNatClampNeg ((rg 2 ((crI (crO Lz p1 (muM Lx p1 0) (muM Lx p1 2) nl k18) (muM Lx p1 0) (muM Lx p1 2) (nI k18) k22) 5) (1 : Int32)) + 1)))) H := hP
                                      have hD : va_D A0 (wMod D Ax th ns fog nr nm nl (sr (crI (crO Lz p1 (muM Lx p1 0) (muM Lx p1 2) nl k18) (muM Lx p1 0) (muM Lx p1 2) (nI k18) k22) 5 (upd ((crI (crO Lz p1 (muM Lx p1 0) (muM Lx p1 2) nl k18) (muM Lx p1 0) (muM Lx p1 2) (nI k18) k22) 5) (1 : Int32).toNatClampNeg ((rg 2 ((crI (crO Lz p1 (muM Lx p1 0) (muM Lx p1 2) nl k18) (muM Lx p1 0) (muM Lx p1 2) (nI k18) k22) 5) (1 : Int32)) + 1)))) := hD
                                      rw [← rs_vp (n := 2) (f := ((crI (crO Lz p1 (muM Lx p1 0) (muM Lx p1 2) nl k18) (muM Lx p1 0) (muM Lx p1 2) (nI k18) k22) 5)) (x := (1 : Int32)) (v := ((rg 2 ((crI (crO Lz p1 (muM Lx p1 0) (muM Lx p1 2) nl k18) (muM Lx p1 0) (muM Lx p1 2) (nI k18) k22) 5) (1 : Int32)) + 1)) (show vp_in (nI 1) 2 from vp_in_nI (by decide) (by decide))] at hP hD
                                      refine lv_iinc (v := ((nI k22) + 1)) (lv' := [(7, .int ((nI k22) + 1)), (8, .int (leM (crI (crO Lz p1 (muM Lx p1 0) (muM Lx p1 2) nl k18) (muM Lx p1 0) (muM Lx p1 2) (nI k18) k22) (nI k22) 5)), (6, .int (nI k18)), (5, .int (nI t)), (4, .int (othM Lx (muM Lx p1 0) (muM Lx p1 2))), (3, .int (muM Lx p1 2)), (2, .int (muM Lx p1 0)), (0, .ref (Ax 0)), (1, .int p1)]) hx hb dX7_setOut_237 hl (k := 1) rfl rfl (by decide) rfl (fun ls hl => ?_)
                                      refine lv_goto (tgt := 134) hx hb dX7_setOut_240 (by decide) ?_
                                      exact ih22 (k22 + 1) (by omega) _ (nI_1 k22) _ (by (rw [crI, if_neg c25, if_pos c26, if_neg c27, if_pos c28, if_pos c29, if_pos c30]; first | done | rfl)) _ _ hP hD hS ls (lv_sub hl [0, 2, 3, 4, 5, 6, 7, 8] rfl)
                                · refine lv_goto (tgt := 237) hx hb dX7_setOut_190 (by decide) ?_
                                  refine lv_iinc (v := ((nI k22) + 1)) (lv' := [(7, .int ((nI k22) + 1)), (8, .int (leM (crI (crO Lz p1 (muM Lx p1 0) (muM Lx p1 2) nl k18) (muM Lx p1 0) (muM Lx p1 2) (nI k18) k22) (nI k22) 5)), (6, .int (nI k18)), (5, .int (nI t)), (4, .int (othM Lx (muM Lx p1 0) (muM Lx p1 2))), (3, .int (muM Lx p1 2)), (2, .int (muM Lx p1 0)), (0, .ref (Ax 0)), (1, .int p1)]) hx hb dX7_setOut_237 hl (k := 1) rfl rfl (by decide) rfl (fun ls hl => ?_)
                                  refine lv_goto (tgt := 134) hx hb dX7_setOut_240 (by decide) ?_
                                  exact ih22 (k22 + 1) (by omega) _ (nI_1 k22) _ (by (rw [crI, if_neg c25, if_pos c26, if_neg c27, if_neg c28]; first | done | rfl)) _ _ hP hD hS ls (lv_sub hl [0, 2, 3, 4, 5, 6, 7, 8] rfl)
                    exact lp22 nl 0 (by omega) _ nI_0.symm _ rfl _ _ hP hD hS ls (lv_sub hl [0, 1, 2, 3, 4, 5, 6, 7] rfl)
                  · refine lv_goto (tgt := 243) hx hb dX7_setOut_128 (by decide) ?_
                    refine lv_iinc (v := ((nI k18) + 1)) (lv' := [(6, .int ((nI k18) + 1)), (5, .int (nI t)), (4, .int (othM Lx (muM Lx p1 0) (muM Lx p1 2))), (3, .int (muM Lx p1 2)), (2, .int (muM Lx p1 0)), (0, .ref (Ax 0)), (1, .int p1)]) hx hb dX7_setOut_243 hl (k := 0) rfl rfl (by decide) rfl (fun ls hl => ?_)
                    refine lv_goto (tgt := 108) hx hb dX7_setOut_246 (by decide) ?_
                    exact ih18 (k18 + 1) (by omega) _ (nI_1 k18) _ (by (rw [crO, if_neg c21]; first | done | rfl)) _ _ hP hD hS ls (lv_sub hl [0, 1, 2, 3, 4, 5, 6] rfl)
            exact lp18 nl 0 (by omega) _ nI_0.symm _ rfl _ _ hP hD hS ls (lv_sub hl [0, 1, 2, 3, 4, 5, 6] rfl)
          · exact eWv hx hb hr hlocks dX7_setOut_104 hS hP (by (rw [soM, ← hT, so2, if_pos c3, if_pos c17]; first | done | rfl))
      · refine lv_iload hx hb dX7_setOut_39 (lv_at hl 1 rfl) ?_
        refine lv_aload_n hx hb dX7_setOut_41 rfl (lv_at hl 5 rfl) ?_
        refine lv_iload_n hx hb dX7_setOut_42 rfl (lv_at hl 6 rfl) ?_
        refine lv_iconst (v := 1) hx hb dX7_setOut_43 (by decide) ?_
        refine kVp ⟨hx, hb, hml, hown, hts⟩ (c_X7_mu l D Ax th ns fog nr nm nl Lz p1 1 (ixm (by assumption) b12 1 (by decide))) (cwV 2 hts gX7_setOut_X7_mu rfl rfl rfl (by decide +kernel) ⟨Nat.le_of_ble_eq_true rfl, Nat.le_of_ble_eq_true rfl⟩) hK hN hP hD Sb.self 7 0 rfl rfl rfl hl.1 (Nat.le_of_ble_eq_true rfl) ⟨Nat.zero_le _, Nat.zero_le _⟩ dX7_setOut_44 ?_ rfl
        rw [show muM Lz p1 1 = (nI (muM Lx p1 1).toNatClampNeg) from by rw [show muM Lz p1 1 = muM Lx p1 1 from by unfold muM; rw [h3]]; exact nI_cl (hS9.2.1 _ hvm).2.2]
        refine lv_icmp_ge (tgt := 88) hx hb dX7_setOut_47 (by decide) (fun c31 => ?_) (fun c31 => ?_)
        · have hT : (Lz, t) = tkF nl (muM Lx p1 2) (muM Lx p1 0) p1 (muM Lx p1 1).toNatClampNeg 0 Lx := by rw [← hres]; rfl
          refine lv_iload hx hb dX7_setOut_88 (lv_at hl 1 rfl) ?_
          refine lv_if_ne (tgt := 105) hx hb dX7_setOut_90 (by decide) (fun c32 => ?_) (fun c32 => ?_)
          · refine lv_iconst (v := 0) hx hb dX7_setOut_105 (by decide) ?_
            refine lv_istore (lv' := [(6, .int 0), (5, .int (nI t)), (4, .int (othM Lx (muM Lx p1 0) (muM Lx p1 2))), (3, .int (muM Lx p1 2)), (2, .int (muM Lx p1 0)), (0, .ref (Ax 0)), (1, .int p1)]) hx hb dX7_setOut_106 hl (by decide) rfl (fun ls hl => ?_)
            have lp33 : ∀ (j33 : Nat) (k33 : Nat) (hk33 : k33 + j33 = nl) (x6_33 : Int32) (e6_33 : x6_33 = (nI k33)) (yxL_33 : Nat → Nat → Int32) (eyxL_33 : yxL_33 = (crO Lz p1 (muM Lx p1 0) (muM Lx p1 2) nl k33)) (H : Heap) (locs : List Loc) (hP : va_P D.1 vwCl (wMod D Ax th ns fog nr nm nl yxL_33) H) (hD : va_D A0 (wMod D Ax th ns fog nr nm nl yxL_33)) (hS : va_S A0 s.heap H locs) (ls : Array Slot) (hl : lv_has ls 9 [(6, .int x6_33), (5, .int (nI t)), (4, .int (othM Lx (muM Lx p1 0) (muM Lx p1 2))), (3, .int (muM Lx p1 2)), (2, .int (muM Lx p1 0)), (0, .ref (Ax 0)), (1, .int p1)]), W p l e (headSpec wsX7_setOut ({ frames := 4, cells := 0, slots := 0, locals := 90 } : Room)).room s m ([.ref (Ax 0), .int p1] : List Value).toArray below meth c H locs 0 0 (MQ below (QW D none (wMod D Ax th ns fog nr nm nl (soM Lx p1 nl)) A0) ([.ref (Ax 0), .int p1] : List Value).toArray s 0 0 A0) (F0 m 108 ls []) := by
              intro j33
              induction j33 with
              | zero =>
                intro k33 hk33 x6_33 e6_33 yxL_33 eyxL_33  H locs hP hD hS ls hl
                subst e6_33 eyxL_33
                have hkN33 : nl = k33 := (by omega)
                subst hkN33
                refine lv_iload hx hb dX7_setOut_108 (lv_at hl 0 rfl) ?_
                refine lv_aload_n hx hb dX7_setOut_110 rfl (lv_at hl 5 rfl) ?_
                refine va_get (D := D.1) (ci := 7) (v := .int (nI nl)) (C := RX7) (T := TX7) (N := 14) hx hb hts hinX7 hown hK hP 0 rfl rfl 8 (by decide) (hts (.fieldLink RX7 48 "MountainPostModel" "letters" "I") (List.mem_of_getElem? (i := 1) rfl)) (fun _ h9 => h9) rfl dX7_setOut_111 ?_
                refine lv_icmp_ge (tgt := 249) hx hb dX7_setOut_114 (by decide) (fun c34 => ?_) (fun c34 => ?_)
                · refine lv_aload_n hx hb dX7_setOut_249 rfl (lv_at hl 5 rfl) ?_
                  refine lv_iload_n hx hb dX7_setOut_250 rfl (lv_at hl 6 rfl) ?_
                  refine lv_iconst (v := 2) hx hb dX7_setOut_251 (by decide) ?_
                  refine lv_iload hx hb dX7_setOut_252 (lv_at hl 2 rfl) ?_
                  refine kVw ⟨hx, hb, hml, hown, hts⟩ (c_X7_setMu l D Ax th ns fog nr nm nl (crO Lz p1 (muM Lx p1 0) (muM Lx p1 2) nl nl) p1 2 (othM Lx (muM Lx p1 0) (muM Lx p1 2)) (ixm (by assumption) b12 2 (by decide))) (cwV 3 hts gX7_setOut_X7_setMu rfl rfl rfl (by decide +kernel) ⟨Nat.le_of_ble_eq_true rfl, Nat.le_of_ble_eq_true rfl⟩) hK hN hP hD hS frsMod 7 0 rfl rfl rfl hl.1 (Nat.le_of_ble_eq_true rfl) ⟨Nat.zero_le _, Nat.zero_le _⟩ dX7_setOut_254 (fun H locs hP hD hS => ?_) rfl
                  have hP : va_P D.1 vwCl (wMod D Ax th ns fog nr nm nl (smM (crO Lz p1 (muM Lx p1 0) (muM Lx p1 2) nl nl) p1 2 (othM Lx (muM Lx p1 0) (muM Lx p1 2)))) H := hP
                  have hD : va_D A0 (wMod D Ax th ns fog nr nm nl (smM (crO Lz p1 (muM Lx p1 0) (muM Lx p1 2) nl nl) p1 2 (othM Lx (muM Lx p1 0) (muM Lx p1 2)))) := hD
                  refine W.eq (g2 := F0 m 257 ls []) rfl ?_
                  refine lv_aload_n hx hb dX7_setOut_257 rfl (lv_at hl 5 rfl) ?_
                  refine lv_iload_n hx hb dX7_setOut_258 rfl (lv_at hl 6 rfl) ?_
                  refine lv_iconst (v := 3) hx hb dX7_setOut_259 (by decide) ?_
                  refine lv_aload_n hx hb dX7_setOut_260 rfl (lv_at hl 5 rfl) ?_
                  refine lv_iload_n hx hb dX7_setOut_261 rfl (lv_at hl 4 rfl) ?_
                  refine lv_iload_n hx hb dX7_setOut_262 rfl (lv_at hl 3 rfl) ?_
                  refine kVp ⟨hx, hb, hml, hown, hts⟩ (c_X7_hoursFrom l D Ax th ns fog nr nm nl (smM (crO Lz p1 (muM Lx p1 0) (muM Lx p1 2) nl nl) p1 2 (othM Lx (muM Lx p1 0) (muM Lx p1 2))) (muM Lx p1 0) (muM Lx p1 2) (by assumption) (by assumption) ((hS9.2.1 _ hvm).1) ((hS9.2.1 _ hvm).2.1) ((okS_crO nl hz).1)) (cwV 2 hts gX7_setOut_X7_hoursFrom rfl rfl rfl (by decide +kernel) ⟨Nat.le_of_ble_eq_true rfl, Nat.le_of_ble_eq_true rfl⟩) hK hN hP hD Sb.self 7 0 rfl rfl rfl hl.1 (Nat.le_of_ble_eq_true rfl) ⟨Nat.zero_le _, Nat.zero_le _⟩ dX7_setOut_263 ?_ rfl
                  refine kVw ⟨hx, hb, hml, hown, hts⟩ (c_X7_setMu l D Ax th ns fog nr nm nl (smM (crO Lz p1 (muM Lx p1 0) (muM Lx p1 2) nl nl) p1 2 (othM Lx (muM Lx p1 0) (muM Lx p1 2))) p1 3 (hrsM (smM (crO Lz p1 (muM Lx p1 0) (muM Lx p1 2) nl nl) p1 2 (othM Lx (muM Lx p1 0) (muM Lx p1 2))) (muM Lx p1 0) (muM Lx p1 2)) (ixm (by assumption) b12 3 (by decide))) (cwV 3 hts gX7_setOut_X7_setMu rfl rfl rfl (by decide +kernel) ⟨Nat.le_of_ble_eq_true rfl, Nat.le_of_ble_eq_true rfl⟩) hK hN hP hD hS frsMod 7 0 rfl rfl rfl hl.1 (Nat.le_of_ble_eq_true rfl) ⟨Nat.zero_le _, Nat.zero_le _⟩ dX7_setOut_266 (fun H locs hP hD hS => ?_) rfl
                  have hP : va_P D.1 vwCl (wMod D Ax th ns fog nr nm nl (smM (smM (crO Lz p1 (muM Lx p1 0) (muM Lx p1 2) nl nl) p1 2 (othM Lx (muM Lx p1 0) (muM Lx p1 2))) p1 3 (hrsM (smM (crO Lz p1 (muM Lx p1 0) (muM Lx p1 2) nl nl) p1 2 (othM Lx (muM Lx p1 0) (muM Lx p1 2))) (muM Lx p1 0) (muM Lx p1 2)))) H := hP
                  have hD : va_D A0 (wMod D Ax th ns fog nr nm nl (smM (smM (crO Lz p1 (muM Lx p1 0) (muM Lx p1 2) nl nl) p1 2 (othM Lx (muM Lx p1 0) (muM Lx p1 2))) p1 3 (hrsM (smM (crO Lz p1 (muM Lx p1 0) (muM Lx p1 2) nl nl) p1 2 (othM Lx (muM Lx p1 0) (muM Lx p1 2))) (muM Lx p1 0) (muM Lx p1 2)))) := hD
                  refine W.eq (g2 := F0 m 269 ls []) rfl ?_
                  exact eWv hx hb hr hlocks dX7_setOut_269 hS hP (by (rw [soM, ← hT, so2, if_neg c32]; first | done | rfl))
                · exact (up0 rfl c34).elim
              | succ j33 ih33 =>
                intro k33 hk33 x6_33 e6_33 yxL_33 eyxL_33  H locs hP hD hS ls hl
                subst e6_33 eyxL_33
                have hlt33 : k33 < nl := by omega
                have hlt : k33 < nl := hlt33
                refine lv_iload hx hb dX7_setOut_108 (lv_at hl 0 rfl) ?_
                refine lv_aload_n hx hb dX7_setOut_110 rfl (lv_at hl 5 rfl) ?_
                refine va_get (D := D.1) (ci := 7) (v := .int (nI nl)) (C := RX7) (T := TX7) (N := 14) hx hb hts hinX7 hown hK hP 0 rfl rfl 8 (by decide) (hts (.fieldLink RX7 48 "MountainPostModel" "letters" "I") (List.mem_of_getElem? (i := 1) rfl)) (fun _ h9 => h9) rfl dX7_setOut_111 ?_
                refine lv_icmp_ge (tgt := 249) hx hb dX7_setOut_114 (by decide) (fun c35 => ?_) (fun c35 => ?_)
                · exact (upS hk33 (by omega) c35).elim
                · refine lv_aload_n hx hb dX7_setOut_117 rfl (lv_at hl 5 rfl) ?_
                  refine lv_iload hx hb dX7_setOut_118 (lv_at hl 0 rfl) ?_
                  refine lv_iconst (v := 5) hx hb dX7_setOut_120 (by decide) ?_
                  refine kVp ⟨hx, hb, hml, hown, hts⟩ (c_X7_le l D Ax th ns fog nr nm nl (crO Lz p1 (muM Lx p1 0) (muM Lx p1 2) nl k33) (nI k33) 5 (ixl (vd_k (by omega)) b60 5 (by decide))) (cwV 2 hts gX7_setOut_X7_le rfl rfl rfl (by decide +kernel) ⟨Nat.le_of_ble_eq_true rfl, Nat.le_of_ble_eq_true rfl⟩) hK hN hP hD Sb.self 7 0 rfl rfl rfl hl.1 (Nat.le_of_ble_eq_true rfl) ⟨Nat.zero_le _, Nat.zero_le _⟩ dX7_setOut_121 ?_ rfl
                  refine lv_iload_n hx hb dX7_setOut_124 rfl (lv_at hl 6 rfl) ?_
                  refine lv_icmp_eq (tgt := 131) hx hb dX7_setOut_125 (by decide) (fun c36 => ?_) (fun c36 => ?_)
                  · refine lv_iconst (v := 0) hx hb dX7_setOut_131 (by decide) ?_
                    refine lv_istore (lv' := [(7, .int 0), (6, .int (nI k33)), (5, .int (nI t)), (4, .int (othM Lx (muM Lx p1 0) (muM Lx p1 2))), (3, .int (muM Lx p1 2)), (2, .int (muM Lx p1 0)), (0, .ref (Ax 0)), (1, .int p1)]) hx hb dX7_setOut_132 hl (by decide) rfl (fun ls hl => ?_)
                    have lp37 : ∀ (j37 : Nat) (k37 : Nat) (hk37 : k37 + j37 = nl) (x7_37 : Int32) (e7_37 : x7_37 = (nI k37)) (yxL_37 : Nat → Nat → Int32) (eyxL_37 : yxL_37 = (crI (crO Lz p1 (muM Lx p1 0) (muM Lx p1 2) nl k33) (muM Lx p1 0) (muM Lx p1 2) (nI k33) k37)) (H : Heap) (locs : List Loc) (hP : va_P D.1 vwCl (wMod D Ax th ns fog nr nm nl yxL_37) H) (hD : va_D A0 (wMod D Ax th ns fog nr nm nl yxL_37)) (hS : va_S A0 s.heap H locs) (ls : Array Slot) (hl : lv_has ls 9 [(7, .int x7_37), (6, .int (nI k33)), (5, .int (nI t)), (4, .int (othM Lx (muM Lx p1 0) (muM Lx p1 2))), (3, .int (muM Lx p1 2)), (2, .int (muM Lx p1 0)), (0, .ref (Ax 0)), (1, .int p1)]), W p l e (headSpec wsX7_setOut ({ frames := 4, cells := 0, slots := 0, locals := 90 } : Room)).room s m ([.ref (Ax 0), .int p1] : List Value).toArray below meth c H locs 0 0 (MQ below (QW D none (wMod D Ax th ns fog nr nm nl (soM Lx p1 nl)) A0) ([.ref (Ax 0), .int p1] : List Value).toArray s 0 0 A0) (F0 m 134 ls []) := by
                      intro j37
                      induction j37 with
                      | zero =>
                        intro k37 hk37 x7_37 e7_37 yxL_37 eyxL_37  H locs hP hD hS ls hl
                        subst e7_37 eyxL_37
                        have hkN37 : nl = k37 := (by omega)
                        subst hkN37
                        refine lv_iload hx hb dX7_setOut_134 (lv_at hl 0 rfl) ?_
                        refine lv_aload_n hx hb dX7_setOut_136 rfl (lv_at hl 6 rfl) ?_
                        refine va_get (D := D.1) (ci := 7) (v := .int (nI nl)) (C := RX7) (T := TX7) (N := 14) hx hb hts hinX7 hown hK hP 0 rfl rfl 8 (by decide) (hts (.fieldLink RX7 48 "MountainPostModel" "letters" "I") (List.mem_of_getElem? (i := 1) rfl)) (fun _ h9 => h9) rfl dX7_setOut_137 ?_
                        refine lv_icmp_ge (tgt := 243) hx hb dX7_setOut_140 (by decide) (fun c38 => ?_) (fun c38 => ?_)
                        · refine lv_iinc (v := ((nI k33) + 1)) (lv' := [(6, .int ((nI k33) + 1)), (7, .int (nI nl)), (5, .int (nI t)), (4, .int (othM Lx (muM Lx p1 0) (muM Lx p1 2))), (3, .int (muM Lx p1 2)), (2, .int (muM Lx p1 0)), (0, .ref (Ax 0)), (1, .int p1)]) hx hb dX7_setOut_243 hl (k := 1) rfl rfl (by decide) rfl (fun ls hl => ?_)
                          refine lv_goto (tgt := 108) hx hb dX7_setOut_246 (by decide) ?_
                          exact ih33 (k33 + 1) (by omega) _ (nI_1 k33) _ (by (rw [crO, if_pos c36]; first | done | rfl)) _ _ hP hD hS ls (lv_sub hl [0, 2, 3, 4, 5, 6, 7] rfl)
                        · exact (up0 rfl c38).elim
                      | succ j37 ih37 =>
                        intro k37 hk37 x7_37 e7_37 yxL_37 eyxL_37  H locs hP hD hS ls hl
                        subst e7_37 eyxL_37
                        have hlt37 : k37 < nl := by omega
                        have hlt : k37 < nl := hlt37
                        refine lv_iload hx hb dX7_setOut_134 (lv_at hl 0 rfl) ?_
                        refine lv_aload_n hx hb dX7_setOut_136 rfl (lv_at hl 6 rfl) ?_
                        refine va_get (D := D.1) (ci := 7) (v := .int (nI nl)) (C := RX7) (T := TX7) (N := 14) hx hb hts hinX7 hown hK hP 0 rfl rfl 8 (by decide) (hts (.fieldLink RX7 48 "MountainPostModel" "letters" "I") (List.mem_of_getElem? (i := 1) rfl)) (fun _ h9 => h9) rfl dX7_setOut_137 ?_
                        refine lv_icmp_ge (tgt := 243) hx hb dX7_setOut_140 (by decide) (fun c39 => ?_) (fun c39 => ?_)
                        · exact (upS hk37 (by omega) c39).elim
                        · refine lv_aload_n hx hb dX7_setOut_143 rfl (lv_at hl 6 rfl) ?_
                          refine lv_iload hx hb dX7_setOut_144 (lv_at hl 0 rfl) ?_
                          refine lv_iconst (v := 5) hx hb dX7_setOut_146 (by decide) ?_
                          refine kVp ⟨hx, hb, hml, hown, hts⟩ (c_X7_le l D Ax th ns fog nr nm nl (crI (crO Lz p1 (muM Lx p1 0) (muM Lx p1 2) nl k33) (muM Lx p1 0) (muM Lx p1 2) (nI k33) k37) (nI k37) 5 (ixl (vd_k (by omega)) b60 5 (by decide))) (cwV 2 hts gX7_setOut_X7_le rfl rfl rfl (by decide +kernel) ⟨Nat.le_of_ble_eq_true rfl, Nat.le_of_ble_eq_true rfl⟩) hK hN hP hD Sb.self 7 0 rfl rfl rfl hl.1 (Nat.le_of_ble_eq_true rfl) ⟨Nat.zero_le _, Nat.zero_le _⟩ dX7_setOut_147 ?_ rfl
                          refine lv_istore (lv' := [(8, .int (leM (crI (crO Lz p1 (muM Lx p1 0) (muM Lx p1 2) nl k33) (muM Lx p1 0) (muM Lx p1 2) (nI k33) k37) (nI k37) 5)), (7, .int (nI k37)), (6, .int (nI k33)), (5, .int (nI t)), (4, .int (othM Lx (muM Lx p1 0) (muM Lx p1 2))), (3, .int (muM Lx p1 2)), (2, .int (muM Lx p1 0)), (0, .ref (Ax 0)), (1, .int p1)]) hx hb dX7_setOut_150 hl (by decide) rfl (fun ls hl => ?_)
                          refine lv_iload hx hb dX7_setOut_152 (lv_at hl 0 rfl) ?_
                          refine lv_iconst (v := (-1)) hx hb dX7_setOut_154 (by decide) ?_
                          refine lv_icmp_eq (tgt := 237) hx hb dX7_setOut_155 (by decide) (fun c40 => ?_) (fun c40 => ?_)
                          · refine lv_iinc (v := ((nI k37) + 1)) (lv' := [(7, .int ((nI k37) + 1)), (8, .int (leM (crI (crO Lz p1 (muM Lx p1 0) (muM Lx p1 2) nl k33) (muM Lx p1 0) (muM Lx p1 2) (nI k33) k37) (nI k37) 5)), (6, .int (nI k33)), (5, .int (nI t)), (4, .int (othM Lx (muM Lx p1 0) (muM Lx p1 2))), (3, .int (muM Lx p1 2)), (2, .int (muM Lx p1 0)), (0, .ref (Ax 0)), (1, .int p1)]) hx hb dX7_setOut_237 hl (k := 1) rfl rfl (by decide) rfl (fun ls hl => ?_)
                            refine lv_goto (tgt := 134) hx hb dX7_setOut_240 (by decide) ?_
                            exact ih37 (k37 + 1) (by omega) _ (nI_1 k37) _ (by (rw [crI, if_pos c40]; first | done | rfl)) _ _ hP hD hS ls (lv_sub hl [0, 2, 3, 4, 5, 6, 7, 8] rfl)
                          · refine lv_aload_n hx hb dX7_setOut_158 rfl (lv_at hl 7 rfl) ?_
                            refine lv_iload hx hb dX7_setOut_159 (lv_at hl 0 rfl) ?_
                            refine lv_iconst (v := 0) hx hb dX7_setOut_161 (by decide) ?_
                            refine kVp ⟨hx, hb, hml, hown, hts⟩ (c_X7_mu l D Ax th ns fog nr nm nl (crI (crO Lz p1 (muM Lx p1 0) (muM Lx p1 2) nl k33) (muM Lx p1 0) (muM Lx p1 2) (nI k33) k37) (leM (crI (crO Lz p1 (muM Lx p1 0) (muM Lx p1 2) nl k33) (muM Lx p1 0) (muM Lx p1 2) (nI k33) k37) (nI k37) 5) 0 (ixm (okW (okS_crI _ (okS_crO _ hz)) (vd_k (by omega)) c40) b12 0 (by decide))) (cwV 2 hts gX7_setOut_X7_mu rfl rfl rfl (by decide +kernel) ⟨Nat.le_of_ble_eq_true rfl, Nat.le_of_ble_eq_true rfl⟩) hK hN hP hD Sb.self 7 0 rfl rfl rfl hl.1 (Nat.le_of_ble_eq_true rfl) ⟨Nat.zero_le _, Nat.zero_le _⟩ dX7_setOut_162 ?_ rfl
                            refine lv_iload_n hx hb dX7_setOut_165 rfl (lv_at hl 6 rfl) ?_
                            refine lv_icmp_ne (tgt := 237) hx hb dX7_setOut_166 (by decide) (fun c41 => ?_) (fun c41 => ?_)
                            · refine lv_iinc (v := ((nI k37) + 1)) (lv' := [(7, .int ((nI k37) + 1)), (8, .int (leM (crI (crO Lz p1 (muM Lx p1 0) (muM Lx p1 2) nl k33) (muM Lx p1 0) (muM Lx p1 2) (nI k33) k37) (nI k37) 5)), (6, .int (nI k33)), (5, .int (nI t)), (4, .int (othM Lx (muM Lx p1 0) (muM Lx p1 2))), (3, .int (muM Lx p1 2)), (2, .int (muM Lx p1 0)), (0, .ref (Ax 0)), (1, .int p1)]) hx hb dX7_setOut_237 hl (k := 1) rfl rfl (by decide) rfl (fun ls hl => ?_)
                              refine lv_goto (tgt := 134) hx hb dX7_setOut_240 (by decide) ?_
                              exact ih37 (k37 + 1) (by omega) _ (nI_1 k37) _ (by (rw [crI, if_neg c40, if_neg c41]; first | done | rfl)) _ _ hP hD hS ls (lv_sub hl [0, 2, 3, 4, 5, 6, 7, 8] rfl)
                            · refine lv_aload_n hx hb dX7_setOut_169 rfl (lv_at hl 7 rfl) ?_
                              refine lv_iload hx hb dX7_setOut_170 (lv_at hl 0 rfl) ?_
                              refine lv_iconst (v := 3) hx hb dX7_setOut_172 (by decide) ?_
                              refine kVp ⟨hx, hb, hml, hown, hts⟩ (c_X7_mu l D Ax th ns fog nr nm nl (crI (crO Lz p1 (muM Lx p1 0) (muM Lx p1 2) nl k33) (muM Lx p1 0) (muM Lx p1 2) (nI k33) k37) (leM (crI (crO Lz p1 (muM Lx p1 0) (muM Lx p1 2) nl k33) (muM Lx p1 0) (muM Lx p1 2) (nI k33) k37) (nI k37) 5) 3 (ixm (okW (okS_crI _ (okS_crO _ hz)) (vd_k (by omega)) c40) b12 3 (by decide))) (cwV 2 hts gX7_setOut_X7_mu rfl rfl rfl (by decide +kernel) ⟨Nat.le_of_ble_eq_true rfl, Nat.le_of_ble_eq_true rfl⟩) hK hN hP hD Sb.self 7 0 rfl rfl rfl hl.1 (Nat.le_of_ble_eq_true rfl) ⟨Nat.zero_le _, Nat.zero_le _⟩ dX7_setOut_173 ?_ rfl
                              refine lv_if_eq (tgt := 237) hx hb dX7_setOut_176 (by decide) (fun c42 => ?_) (fun c42 => ?_)
                              · refine lv_iinc (v := ((nI k37) + 1)) (lv' := [(7, .int ((nI k37) + 1)), (8, .int (leM (crI (crO Lz p1 (muM Lx p1 0) (muM Lx p1 2) nl k33) (muM Lx p1 0) (muM Lx p1 2) (nI k33) k37) (nI k37) 5)), (6, .int (nI k33)), (5, .int (nI t)), (4, .int (othM Lx (muM Lx p1 0) (muM Lx p1 2))), (3, .int (muM Lx p1 2)), (2, .int (muM Lx p1 0)), (0, .ref (Ax 0)), (1, .int p1)]) hx hb dX7_setOut_237 hl (k := 1) rfl rfl (by decide) rfl (fun ls hl => ?_)
                                refine lv_goto (tgt := 134) hx hb dX7_setOut_240 (by decide) ?_
                                exact ih37 (k37 + 1) (by omega) _ (nI_1 k37) _ (by (rw [crI, if_neg c40, if_pos c41, if_pos c42]; first | done | rfl)) _ _ hP hD hS ls (lv_sub hl [0, 2, 3, 4, 5, 6, 7, 8] rfl)
                              · refine lv_aload_n hx hb dX7_setOut_179 rfl (lv_at hl 7 rfl) ?_
                                refine lv_iload hx hb dX7_setOut_180 (lv_at hl 0 rfl) ?_
                                refine lv_iconst (v := 2) hx hb dX7_setOut_182 (by decide) ?_
                                refine kVp ⟨hx, hb, hml, hown, hts⟩ (c_X7_mu l D Ax th ns fog nr nm nl (crI (crO Lz p1 (muM Lx p1 0) (muM Lx p1 2) nl k33) (muM Lx p1 0) (muM Lx p1 2) (nI k33) k37) (leM (crI (crO Lz p1 (muM Lx p1 0) (muM Lx p1 2) nl k33) (muM Lx p1 0) (muM Lx p1 2) (nI k33) k37) (nI k37) 5) 2 (ixm (okW (okS_crI _ (okS_crO _ hz)) (vd_k (by omega)) c40) b12 2 (by decide))) (cwV 2 hts gX7_setOut_X7_mu rfl rfl rfl (by decide +kernel) ⟨Nat.le_of_ble_eq_true rfl, Nat.le_of_ble_eq_true rfl⟩) hK hN hP hD Sb.self 7 0 rfl rfl rfl hl.1 (Nat.le_of_ble_eq_true rfl) ⟨Nat.zero_le _, Nat.zero_le _⟩ dX7_setOut_183 ?_ rfl
                                refine lv_iload_n hx hb dX7_setOut_186 rfl (lv_at hl 5 rfl) ?_
                                refine lv_icmp_eq (tgt := 193) hx hb dX7_setOut_187 (by decide) (fun c43 => ?_) (fun c43 => ?_)
                                · refine lv_aload_n hx hb dX7_setOut_193 rfl (lv_at hl 7 rfl) ?_
                                  refine lv_iload hx hb dX7_setOut_194 (lv_at hl 2 rfl) ?_
                                  refine lv_iconst (v := 0) hx hb dX7_setOut_196 (by decide) ?_
                                  refine kVp ⟨hx, hb, hml, hown, hts⟩ (c_X7_le l D Ax th ns fog nr nm nl (crI (crO Lz p1 (muM Lx p1 0) (muM Lx p1 2) nl k33) (muM Lx p1 0) (muM Lx p1 2) (nI k33) k37) (nI k33) 0 (ixl (vd_k (by omega)) b60 0 (by decide))) (cwV 2 hts gX7_setOut_X7_le rfl rfl rfl (by decide +kernel) ⟨Nat.le_of_ble_eq_true rfl, Nat.le_of_ble_eq_true rfl⟩) hK hN hP hD Sb.self 7 0 rfl rfl rfl hl.1 (Nat.le_of_ble_eq_true rfl) ⟨Nat.zero_le _, Nat.zero_le _⟩ dX7_setOut_197 ?_ rfl
                                  refine lv_aload_n hx hb dX7_setOut_200 rfl (lv_at hl 7 rfl) ?_
                                  refine lv_iload hx hb dX7_setOut_201 (lv_at hl 1 rfl) ?_
                                  refine lv_iconst (v := 1) hx hb dX7_setOut_203 (by decide) ?_
                                  refine kVp ⟨hx, hb, hml, hown, hts⟩ (c_X7_le l D Ax th ns fog nr nm nl (crI (crO Lz p1 (muM Lx p1 0) (muM Lx p1 2) nl k33) (muM Lx p1 0) (muM Lx p1 2) (nI k33) k37) (nI k37) 1 (ixl (vd_k (by omega)) b60 1 (by decide))) (cwV 2 hts gX7_setOut_X7_le rfl rfl rfl (by decide +kernel) ⟨Nat.le_of_ble_eq_true rfl, Nat.le_of_ble_eq_true rfl⟩) hK hN hP hD Sb.self 7 0 rfl rfl rfl hl.1 (Nat.le_of_ble_eq_true rfl) ⟨Nat.zero_le _, Nat.zero_le _⟩ dX7_setOut_204 ?_ rfl
                                  refine lv_icmp_ne (tgt := 237) hx hb dX7_setOut_207 (by decide) (fun c44 => ?_) (fun c44 => ?_)
                                  · refine lv_iinc (v := ((nI k37) + 1)) (lv' := [(7, .int ((nI k37) + 1)), (8, .int (leM (crI (crO Lz p1 (muM Lx p1 0) (muM Lx p1 2) nl k33) (muM Lx p1 0) (muM Lx p1 2) (nI k33) k37) (nI k37) 5)), (6, .int (nI k33)), (5, .int (nI t)), (4, .int (othM Lx (muM Lx p1 0) (muM Lx p1 2))), (3, .int (muM Lx p1 2)), (2, .int (muM Lx p1 0)), (0, .ref (Ax 0)), (1, .int p1)]) hx hb dX7_setOut_237 hl (k := 1) rfl rfl (by decide) rfl (fun ls hl => ?_)
                                    refine lv_goto (tgt := 134) hx hb dX7_setOut_240 (by decide) ?_
                                    exact ih37 (k37 + 1) (by omega) _ (nI_1 k37) _ (by (rw [crI, if_neg c40, if_pos c41, if_neg c42, if_pos c43, if_neg c44]; first | done | rfl)) _ _ hP hD hS ls (lv_sub hl [0, 2, 3, 4, 5, 6, 7, 8] rfl)
                                  · refine lv_aload_n hx hb dX7_setOut_210 rfl (lv_at hl 7 rfl) ?_
                                    refine lv_iload hx hb dX7_setOut_211 (lv_at hl 1 rfl) ?_
                                    refine lv_iconst (v := 0) hx hb dX7_setOut_213 (by decide) ?_
                                    refine kVp ⟨hx, hb, hml, hown, hts⟩ (c_X7_le l D Ax th ns fog nr nm nl (crI (crO Lz p1 (muM Lx p1 0) (muM Lx p1 2) nl k33) (muM Lx p1 0) (muM Lx p1 2) (nI k33) k37) (nI k37) 0 (ixl (vd_k (by omega)) b60 0 (by decide))) (cwV 2 hts gX7_setOut_X7_le rfl rfl rfl (by decide +kernel) ⟨Nat.le_of_ble_eq_true rfl, Nat.le_of_ble_eq_true rfl⟩) hK hN hP hD Sb.self 7 0 rfl rfl rfl hl.1 (Nat.le_of_ble_eq_true rfl) ⟨Nat.zero_le _, Nat.zero_le _⟩ dX7_setOut_214 ?_ rfl
                                    refine lv_aload_n hx hb dX7_setOut_217 rfl (lv_at hl 7 rfl) ?_
                                    refine lv_iload hx hb dX7_setOut_218 (lv_at hl 2 rfl) ?_
                                    refine lv_iconst (v := 1) hx hb dX7_setOut_220 (by decide) ?_
                                    refine kVp ⟨hx, hb, hml, hown, hts⟩ (c_X7_le l D Ax th ns fog nr nm nl (crI (crO Lz p1 (muM Lx p1 0) (muM Lx p1 2) nl k33) (muM Lx p1 0) (muM Lx p1 2) (nI k33) k37) (nI k33) 1 (ixl (vd_k (by omega)) b60 1 (by decide))) (cwV 2 hts gX7_setOut_X7_le rfl rfl rfl (by decide +kernel) ⟨Nat.le_of_ble_eq_true rfl, Nat.le_of_ble_eq_true rfl⟩) hK hN hP hD Sb.self 7 0 rfl rfl rfl hl.1 (Nat.le_of_ble_eq_true rfl) ⟨Nat.zero_le _, Nat.zero_le _⟩ dX7_setOut_221 ?_ rfl
                                    refine lv_icmp_ne (tgt := 237) hx hb dX7_setOut_224 (by decide) (fun c45 => ?_) (fun c45 => ?_)
                                    · refine lv_iinc (v := ((nI k37) + 1)) (lv' := [(7, .int ((nI k37) + 1)), (8, .int (leM (crI (crO Lz p1 (muM Lx p1 0) (muM Lx p1 2) nl k33) (muM Lx p1 0) (muM Lx p1 2) (nI k33) k37) (nI k37) 5)), (6, .int (nI k33)), (5, .int (nI t)), (4, .int (othM Lx (muM Lx p1 0) (muM Lx p1 2))), (3, .int (muM Lx p1 2)), (2, .int (muM Lx p1 0)), (0, .ref (Ax 0)), (1, .int p1)]) hx hb dX7_setOut_237 hl (k := 1) rfl rfl (by decide) rfl (fun ls hl => ?_)
                                      refine lv_goto (tgt := 134) hx hb dX7_setOut_240 (by decide) ?_
                                      exact ih37 (k37 + 1) (by omega) _ (nI_1 k37) _ (by (rw [crI, if_neg c40, if_pos c41, if_neg c42, if_pos c43, if_pos c44, if_neg c45]; first | done | rfl)) _ _ hP hD hS ls (lv_sub hl [0, 2, 3, 4, 5, 6, 7, 8] rfl)
                                    · refine lv_aload_n hx hb dX7_setOut_227 rfl (lv_at hl 7 rfl) ?_
                                      refine va_get (D := D.1) (ci := 7) (v := .ref (Ax 6)) (C := RX7) (T := TX7) (N := 14) hx hb hts hinX7 hown hK hP 0 rfl rfl 11 (by decide) (hts (.fieldLink RX7 25 "MountainPostModel" "numbers" "[I") (List.mem_of_getElem? (i := 2) rfl)) (fun _ h9 => h9) rfl dX7_setOut_228 ?_
                                      refine lv_iconst (v := 1) hx hb dX7_setOut_231 (by decide) ?_
                                      refine lv_dup2_11 hx hb dX7_setOut_232 rfl rfl ?_
                                      refine va_iald (D := D.1) hx hb hK hP 6 0 rfl rfl (show vp_in (nI 1) 2 from vp_in_nI (by decide) (by decide)) dX7_setOut_233 ?_
                                      rw [show (((crI (crO Lz p1 (muM Lx p1 0) (muM Lx p1 2) nl k33) (muM Lx p1 0) (muM Lx p1 2) (nI k33) k37) 5) (1 : Int32).toNatClampNeg) = (rg 2 ((crI (crO Lz p1 (muM Lx p1 0) (muM Lx p1 2) nl k33) (muM Lx p1 0) (muM Lx p1 2) (nI k33) k37) 5) (1 : Int32)) from (rg_vp (show vp_in (nI 1) 2 from vp_in_nI (by decide) (by decide))).symm]
                                      refine lv_iconst (v := 1) hx hb dX7_setOut_234 (by decide) ?_
                                      refine lv_iadd hx hb dX7_setOut_235 ?_
                                      refine va_iast (D := D.1) hx hb hK hP hD hS 6 0 rfl rfl (show vp_in (nI 1) 2 from vp_in_nI (by decide) (by decide)) dX7_setOut_236 (fun H locs hP hD hS => ?_)
                                      have hP : va_P D.1 vwCl (wMod D Ax th ns fog nr nm nl (sr (crI (crO Lz p1 (muM Lx p1 0) (muM Lx p1 2) nl k33) (muM Lx p1 0) (muM Lx p1 2) (nI k33) k37) 5 (upd ((crI (crO Lz p1 (muM Lx p1 0) (muM Lx p1 2) nl k33) (muM Lx p1 0) (muM Lx p1 2) (nI k33) k37) 5) (1 : Int32).toNatClampNeg ((rg 2 ((crI (crO Lz p1 (muM Lx p1 0) (muM Lx p1 2) nl k33) (muM Lx p1 0) (muM Lx p1 2) (nI k33) k37) 5) (1 : Int32)) + 1)))) H := hP
                                      have hD : va_D A0 (wMod D Ax th ns fog nr nm nl (sr (crI (crO Lz p1 (muM Lx p1 0) (muM Lx p1 2) nl k33) (muM Lx p1 0) (muM Lx p1 2) (nI k33) k37) 5 (upd ((crI (crO Lz p1 (muM Lx p1 0) (muM Lx p1 2) nl k33) (muM Lx p1 0) (muM Lx p1 2) (nI k33) k37) 5) (1 : Int32).toNatClampNeg ((rg 2 ((crI (crO Lz p1 (muM Lx p1 0) (muM Lx p1 2) nl k33) (muM Lx p1 0) (muM Lx p1 2) (nI k33) k37) 5) (1 : Int32)) + 1)))) := hD
                                      rw [← rs_vp (n := 2) (f := ((crI (crO Lz p1 (muM Lx p1 0) (muM Lx p1 2) nl k33) (muM Lx p1 0) (muM Lx p1 2) (nI k33) k37) 5)) (x := (1 : Int32)) (v := ((rg 2 ((crI (crO Lz p1 (muM Lx p1 0) (muM Lx p1 2) nl k33) (muM Lx p1 0) (muM Lx p1 2) (nI k33) k37) 5) (1 : Int32)) + 1)) (show vp_in (nI 1) 2 from vp_in_nI (by decide) (by decide))] at hP hD
                                      refine lv_iinc (v := ((nI k37) + 1)) (lv' := [(7, .int ((nI k37) + 1)), (8, .int (leM (crI (crO Lz p1 (muM Lx p1 0) (muM Lx p1 2) nl k33) (muM Lx p1 0) (muM Lx p1 2) (nI k33) k37) (nI k37) 5)), (6, .int (nI k33)), (5, .int (nI t)), (4, .int (othM Lx (muM Lx p1 0) (muM Lx p1 2))), (3, .int (muM Lx p1 2)), (2, .int (muM Lx p1 0)), (0, .ref (Ax 0)), (1, .int p1)]) hx hb dX7_setOut_237 hl (k := 1) rfl rfl (by decide) rfl (fun ls hl => ?_)
                                      refine lv_goto (tgt := 134) hx hb dX7_setOut_240 (by decide) ?_
                                      exact ih37 (k37 + 1) (by omega) _ (nI_1 k37) _ (by (rw [crI, if_neg c40, if_pos c41, if_neg c42, if_pos c43, if_pos c44, if_pos c45]; first | done | rfl)) _ _ hP hD hS ls (lv_sub hl [0, 2, 3, 4, 5, 6, 7, 8] rfl)
                                · refine lv_goto (tgt := 237) hx hb dX7_setOut_190 (by decide) ?_
                                  refine lv_iinc (v := ((nI k37) + 1)) (lv' := [(7, .int ((nI k37) + 1)), (8, .int (leM (crI (crO Lz p1 (muM Lx p1 0) (muM Lx p1 2) nl k33) (muM Lx p1 0) (muM Lx p1 2) (nI k33) k37) (nI k37) 5)), (6, .int (nI k33)), (5, .int (nI t)), (4, .int (othM Lx (muM Lx p1 0) (muM Lx p1 2))), (3, .int (muM Lx p1 2)), (2, .int (muM Lx p1 0)), (0, .ref (Ax 0)), (1, .int p1)]) hx hb dX7_setOut_237 hl (k := 1) rfl rfl (by decide) rfl (fun ls hl => ?_)
                                  refine lv_goto (tgt := 134) hx hb dX7_setOut_240 (by decide) ?_
                                  exact ih37 (k37 + 1) (by omega) _ (nI_1 k37) _ (by (rw [crI, if_neg c40, if_pos c41, if_neg c42, if_neg c43]; first | done | rfl)) _ _ hP hD hS ls (lv_sub hl [0, 2, 3, 4, 5, 6, 7, 8] rfl)
                    exact lp37 nl 0 (by omega) _ nI_0.symm _ rfl _ _ hP hD hS ls (lv_sub hl [0, 1, 2, 3, 4, 5, 6, 7] rfl)
                  · refine lv_goto (tgt := 243) hx hb dX7_setOut_128 (by decide) ?_
                    refine lv_iinc (v := ((nI k33) + 1)) (lv' := [(6, .int ((nI k33) + 1)), (5, .int (nI t)), (4, .int (othM Lx (muM Lx p1 0) (muM Lx p1 2))), (3, .int (muM Lx p1 2)), (2, .int (muM Lx p1 0)), (0, .ref (Ax 0)), (1, .int p1)]) hx hb dX7_setOut_243 hl (k := 0) rfl rfl (by decide) rfl (fun ls hl => ?_)
                    refine lv_goto (tgt := 108) hx hb dX7_setOut_246 (by decide) ?_
                    exact ih33 (k33 + 1) (by omega) _ (nI_1 k33) _ (by (rw [crO, if_neg c36]; first | done | rfl)) _ _ hP hD hS ls (lv_sub hl [0, 1, 2, 3, 4, 5, 6] rfl)
            exact lp33 nl 0 (by omega) _ nI_0.symm _ rfl _ _ hP hD hS ls (lv_sub hl [0, 1, 2, 3, 4, 5, 6] rfl)
          · refine lv_aload_n hx hb dX7_setOut_93 rfl (lv_at hl 5 rfl) ?_
            refine lv_iload hx hb dX7_setOut_94 (lv_at hl 2 rfl) ?_
            refine lv_iload_n hx hb dX7_setOut_96 rfl (lv_at hl 4 rfl) ?_
            refine kVp ⟨hx, hb, hml, hown, hts⟩ (c_X7_next l D Ax th ns fog nr nm nl Lz (othM Lx (muM Lx p1 0) (muM Lx p1 2)) (muM Lx p1 0) (by assumption) (by assumption) (othM_vd hS9.1 (hS9.2.1 _ hvm).1) (okS_g hz)) (cwV 2 hts gX7_setOut_X7_next rfl rfl rfl (by decide +kernel) ⟨Nat.le_of_ble_eq_true rfl, Nat.le_of_ble_eq_true rfl⟩) hK hN hP hD Sb.self 7 0 rfl rfl rfl hl.1 (Nat.le_of_ble_eq_true rfl) ⟨Nat.zero_le _, Nat.zero_le _⟩ dX7_setOut_97 ?_ rfl
            refine lv_iconst (v := (-1)) hx hb dX7_setOut_100 (by decide) ?_
            refine lv_icmp_ne (tgt := 105) hx hb dX7_setOut_101 (by decide) (fun c46 => ?_) (fun c46 => ?_)
            · refine lv_iconst (v := 0) hx hb dX7_setOut_105 (by decide) ?_
              refine lv_istore (lv' := [(6, .int 0), (5, .int (nI t)), (4, .int (othM Lx (muM Lx p1 0) (muM Lx p1 2))), (3, .int (muM Lx p1 2)), (2, .int (muM Lx p1 0)), (0, .ref (Ax 0)), (1, .int p1)]) hx hb dX7_setOut_106 hl (by decide) rfl (fun ls hl => ?_)
              have lp47 : ∀ (j47 : Nat) (k47 : Nat) (hk47 : k47 + j47 = nl) (x6_47 : Int32) (e6_47 : x6_47 = (nI k47)) (yxL_47 : Nat → Nat → Int32) (eyxL_47 : yxL_47 = (crO Lz p1 (muM Lx p1 0) (muM Lx p1 2) nl k47)) (H : Heap) (locs : List Loc) (hP : va_P D.1 vwCl (wMod D Ax th ns fog nr nm nl yxL_47) H) (hD : va_D A0 (wMod D Ax th ns fog nr nm nl yxL_47)) (hS : va_S A0 s.heap H locs) (ls : Array Slot) (hl : lv_has ls 9 [(6, .int x6_47), (5, .int (nI t)), (4, .int (othM Lx (muM Lx p1 0) (muM Lx p1 2))), (3, .int (muM Lx p1 2)), (2, .int (muM Lx p1 0)), (0, .ref (Ax 0)), (1, .int p1)]), W p l e (headSpec wsX7_setOut ({ frames := 4, cells := 0, slots := 0, locals := 90 } : Room)).room s m ([.ref (Ax 0), .int p1] : List Value).toArray below meth c H locs 0 0 (MQ below (QW D none (wMod D Ax th ns fog nr nm nl (soM Lx p1 nl)) A0) ([.ref (Ax 0), .int p1] : List Value).toArray s 0 0 A0) (F0 m 108 ls []) := by
                intro j47
                induction j47 with
                | zero =>
                  intro k47 hk47 x6_47 e6_47 yxL_47 eyxL_47  H locs hP hD hS ls hl
                  subst e6_47 eyxL_47
                  have hkN47 : nl = k47 := (by omega)
                  subst hkN47
                  refine lv_iload hx hb dX7_setOut_108 (lv_at hl 0 rfl) ?_
                  refine lv_aload_n hx hb dX7_setOut_110 rfl (lv_at hl 5 rfl) ?_
                  refine va_get (D := D.1) (ci := 7) (v := .int (nI nl)) (C := RX7) (T := TX7) (N := 14) hx hb hts hinX7 hown hK hP 0 rfl rfl 8 (by decide) (hts (.fieldLink RX7 48 "MountainPostModel" "letters" "I") (List.mem_of_getElem? (i := 1) rfl)) (fun _ h9 => h9) rfl dX7_setOut_111 ?_
                  refine lv_icmp_ge (tgt := 249) hx hb dX7_setOut_114 (by decide) (fun c48 => ?_) (fun c48 => ?_)
                  · refine lv_aload_n hx hb dX7_setOut_249 rfl (lv_at hl 5 rfl) ?_
                    refine lv_iload_n hx hb dX7_setOut_250 rfl (lv_at hl 6 rfl) ?_
                    refine lv_iconst (v := 2) hx hb dX7_setOut_251 (by decide) ?_
                    refine lv_iload hx hb dX7_setOut_252 (lv_at hl 2 rfl) ?_
                    refine kVw ⟨hx, hb, hml, hown, hts⟩ (c_X7_setMu l D Ax th ns fog nr nm nl (crO Lz p1 (muM Lx p1 0) (muM Lx p1 2) nl nl) p1 2 (othM Lx (muM Lx p1 0) (muM Lx p1 2)) (ixm (by assumption) b12 2 (by decide))) (cwV 3 hts gX7_setOut_X7_setMu rfl rfl rfl (by decide +kernel) ⟨Nat.le_of_ble_eq_true rfl, Nat.le_of_ble_eq_true rfl⟩) hK hN hP hD hS frsMod 7 0 rfl rfl rfl hl.1 (Nat.le_of_ble_eq_true rfl) ⟨Nat.zero_le _, Nat.zero_le _⟩ dX7_setOut_254 (fun H locs hP hD hS => ?_) rfl
                    have hP : va_P D.1 vwCl (wMod D Ax th ns fog nr nm nl (smM (crO Lz p1 (muM Lx p1 0) (muM Lx p1 2) nl nl) p1 2 (othM Lx (muM Lx p1 0) (muM Lx p1 2)))) H := hP
                    have hD : va_D A0 (wMod D Ax th ns fog nr nm nl (smM (crO Lz p1 (muM Lx p1 0) (muM Lx p1 2) nl nl) p1 2 (othM Lx (muM Lx p1 0) (muM Lx p1 2)))) := hD
                    refine W.eq (g2 := F0 m 257 ls []) rfl ?_
                    refine lv_aload_n hx hb dX7_setOut_257 rfl (lv_at hl 5 rfl) ?_
                    refine lv_iload_n hx hb dX7_setOut_258 rfl (lv_at hl 6 rfl) ?_
                    refine lv_iconst (v := 3) hx hb dX7_setOut_259 (by decide) ?_
                    refine lv_aload_n hx hb dX7_setOut_260 rfl (lv_at hl 5 rfl) ?_
                    refine lv_iload_n hx hb dX7_setOut_261 rfl (lv_at hl 4 rfl) ?_
                    refine lv_iload_n hx hb dX7_setOut_262 rfl (lv_at hl 3 rfl) ?_
                    refine kVp ⟨hx, hb, hml, hown, hts⟩ (c_X7_hoursFrom l D Ax th ns fog nr nm nl (smM (crO Lz p1 (muM Lx p1 0) (muM Lx p1 2) nl nl) p1 2 (othM Lx (muM Lx p1 0) (muM Lx p1 2))) (muM Lx p1 0) (muM Lx p1 2) (by assumption) (by assumption) ((hS9.2.1 _ hvm).1) ((hS9.2.1 _ hvm).2.1) ((okS_crO nl hz).1)) (cwV 2 hts gX7_setOut_X7_hoursFrom rfl rfl rfl (by decide +kernel) ⟨Nat.le_of_ble_eq_true rfl, Nat.le_of_ble_eq_true rfl⟩) hK hN hP hD Sb.self 7 0 rfl rfl rfl hl.1 (Nat.le_of_ble_eq_true rfl) ⟨Nat.zero_le _, Nat.zero_le _⟩ dX7_setOut_263 ?_ rfl
                    refine kVw ⟨hx, hb, hml, hown, hts⟩ (c_X7_setMu l D Ax th ns fog nr nm nl (smM (crO Lz p1 (muM Lx p1 0) (muM Lx p1 2) nl nl) p1 2 (othM Lx (muM Lx p1 0) (muM Lx p1 2))) p1 3 (hrsM (smM (crO Lz p1 (muM Lx p1 0) (muM Lx p1 2) nl nl) p1 2 (othM Lx (muM Lx p1 0) (muM Lx p1 2))) (muM Lx p1 0) (muM Lx p1 2)) (ixm (by assumption) b12 3 (by decide))) (cwV 3 hts gX7_setOut_X7_setMu rfl rfl rfl (by decide +kernel) ⟨Nat.le_of_ble_eq_true rfl, Nat.le_of_ble_eq_true rfl⟩) hK hN hP hD hS frsMod 7 0 rfl rfl rfl hl.1 (Nat.le_of_ble_eq_true rfl) ⟨Nat.zero_le _, Nat.zero_le _⟩ dX7_setOut_266 (fun H locs hP hD hS => ?_) rfl
                    have hP : va_P D.1 vwCl (wMod D Ax th ns fog nr nm nl (smM (smM (crO Lz p1 (muM Lx p1 0) (muM Lx p1 2) nl nl) p1 2 (othM Lx (muM Lx p1 0) (muM Lx p1 2))) p1 3 (hrsM (smM (crO Lz p1 (muM Lx p1 0) (muM Lx p1 2) nl nl) p1 2 (othM Lx (muM Lx p1 0) (muM Lx p1 2))) (muM Lx p1 0) (muM Lx p1 2)))) H := hP
                    have hD : va_D A0 (wMod D Ax th ns fog nr nm nl (smM (smM (crO Lz p1 (muM Lx p1 0) (muM Lx p1 2) nl nl) p1 2 (othM Lx (muM Lx p1 0) (muM Lx p1 2))) p1 3 (hrsM (smM (crO Lz p1 (muM Lx p1 0) (muM Lx p1 2) nl nl) p1 2 (othM Lx (muM Lx p1 0) (muM Lx p1 2))) (muM Lx p1 0) (muM Lx p1 2)))) := hD
                    refine W.eq (g2 := F0 m 269 ls []) rfl ?_
                    exact eWv hx hb hr hlocks dX7_setOut_269 hS hP (by (rw [soM, ← hT, so2, if_pos c32, if_neg c46]; first | done | rfl))
                  · exact (up0 rfl c48).elim
                | succ j47 ih47 =>
                  intro k47 hk47 x6_47 e6_47 yxL_47 eyxL_47  H locs hP hD hS ls hl
                  subst e6_47 eyxL_47
                  have hlt47 : k47 < nl := by omega
                  have hlt : k47 < nl := hlt47
                  refine lv_iload hx hb dX7_setOut_108 (lv_at hl 0 rfl) ?_
                  refine lv_aload_n hx hb dX7_setOut_110 rfl (lv_at hl 5 rfl) ?_
                  refine va_get (D := D.1) (ci := 7) (v := .int (nI nl)) (C := RX7) (T := TX7) (N := 14) hx hb hts hinX7 hown hK hP 0 rfl rfl 8 (by decide) (hts (.fieldLink RX7 48 "MountainPostModel" "letters" "I") (List.mem_of_getElem? (i := 1) rfl)) (fun _ h9 => h9) rfl dX7_setOut_111 ?_
                  refine lv_icmp_ge (tgt := 249) hx hb dX7_setOut_114 (by decide) (fun c49 => ?_) (fun c49 => ?_)
                  · exact (upS hk47 (by omega) c49).elim
                  · refine lv_aload_n hx hb dX7_setOut_117 rfl (lv_at hl 5 rfl) ?_
                    refine lv_iload hx hb dX7_setOut_118 (lv_at hl 0 rfl) ?_
                    refine lv_iconst (v := 5) hx hb dX7_setOut_120 (by decide) ?_
                    refine kVp ⟨hx, hb, hml, hown, hts⟩ (c_X7_le l D Ax th ns fog nr nm nl (crO Lz p1 (muM Lx p1 0) (muM Lx p1 2) nl k47) (nI k47) 5 (ixl (vd_k (by omega)) b60 5 (by decide))) (cwV 2 hts gX7_setOut_X7_le rfl rfl rfl (by decide +kernel) ⟨Nat.le_of_ble_eq_true rfl, Nat.le_of_ble_eq_true rfl⟩) hK hN hP hD Sb.self 7 0 rfl rfl rfl hl.1 (Nat.le_of_ble_eq_true rfl) ⟨Nat.zero_le _, Nat.zero_le _⟩ dX7_setOut_121 ?_ rfl
                    refine lv_iload_n hx hb dX7_setOut_124 rfl (lv_at hl 6 rfl) ?_
                    refine lv_icmp_eq (tgt := 131) hx hb dX7_setOut_125 (by decide) (fun c50 => ?_) (fun c50 => ?_)
                    · refine lv_iconst (v := 0) hx hb dX7_setOut_131 (by decide) ?_
                      refine lv_istore (lv' := [(7, .int 0), (6, .int (nI k47)), (5, .int (nI t)), (4, .int (othM Lx (muM Lx p1 0) (muM Lx p1 2))), (3, .int (muM Lx p1 2)), (2, .int (muM Lx p1 0)), (0, .ref (Ax 0)), (1, .int p1)]) hx hb dX7_setOut_132 hl (by decide) rfl (fun ls hl => ?_)
                      have lp51 : ∀ (j51 : Nat) (k51 : Nat) (hk51 : k51 + j51 = nl) (x7_51 : Int32) (e7_51 : x7_51 = (nI k51)) (yxL_51 : Nat → Nat → Int32) (eyxL_51 : yxL_51 = (crI (crO Lz p1 (muM Lx p1 0) (muM Lx p1 2) nl k47) (muM Lx p1 0) (muM Lx p1 2) (nI k47) k51)) (H : Heap) (locs : List Loc) (hP : va_P D.1 vwCl (wMod D Ax th ns fog nr nm nl yxL_51) H) (hD : va_D A0 (wMod D Ax th ns fog nr nm nl yxL_51)) (hS : va_S A0 s.heap H locs) (ls : Array Slot) (hl : lv_has ls 9 [(7, .int x7_51), (6, .int (nI k47)), (5, .int (nI t)), (4, .int (othM Lx (muM Lx p1 0) (muM Lx p1 2))), (3, .int (muM Lx p1 2)), (2, .int (muM Lx p1 0)), (0, .ref (Ax 0)), (1, .int p1)]), W p l e (headSpec wsX7_setOut ({ frames := 4, cells := 0, slots := 0, locals := 90 } : Room)).room s m ([.ref (Ax 0), .int p1] : List Value).toArray below meth c H locs 0 0 (MQ below (QW D none (wMod D Ax th ns fog nr nm nl (soM Lx p1 nl)) A0) ([.ref (Ax 0), .int p1] : List Value).toArray s 0 0 A0) (F0 m 134 ls []) := by
                        intro j51
                        induction j51 with
                        | zero =>
                          intro k51 hk51 x7_51 e7_51 yxL_51 eyxL_51  H locs hP hD hS ls hl
                          subst e7_51 eyxL_51
                          have hkN51 : nl = k51 := (by omega)
                          subst hkN51
                          refine lv_iload hx hb dX7_setOut_134 (lv_at hl 0 rfl) ?_
                          refine lv_aload_n hx hb dX7_setOut_136 rfl (lv_at hl 6 rfl) ?_
                          refine va_get (D := D.1) (ci := 7) (v := .int (nI nl)) (C := RX7) (T := TX7) (N := 14) hx hb hts hinX7 hown hK hP 0 rfl rfl 8 (by decide) (hts (.fieldLink RX7 48 "MountainPostModel" "letters" "I") (List.mem_of_getElem? (i := 1) rfl)) (fun _ h9 => h9) rfl dX7_setOut_137 ?_
                          refine lv_icmp_ge (tgt := 243) hx hb dX7_setOut_140 (by decide) (fun c52 => ?_) (fun c52 => ?_)
                          · refine lv_iinc (v := ((nI k47) + 1)) (lv' := [(6, .int ((nI k47) + 1)), (7, .int (nI nl)), (5, .int (nI t)), (4, .int (othM Lx (muM Lx p1 0) (muM Lx p1 2))), (3, .int (muM Lx p1 2)), (2, .int (muM Lx p1 0)), (0, .ref (Ax 0)), (1, .int p1)]) hx hb dX7_setOut_243 hl (k := 1) rfl rfl (by decide) rfl (fun ls hl => ?_)
                            refine lv_goto (tgt := 108) hx hb dX7_setOut_246 (by decide) ?_
                            exact ih47 (k47 + 1) (by omega) _ (nI_1 k47) _ (by (rw [crO, if_pos c50]; first | done | rfl)) _ _ hP hD hS ls (lv_sub hl [0, 2, 3, 4, 5, 6, 7] rfl)
                          · exact (up0 rfl c52).elim
                        | succ j51 ih51 =>
                          intro k51 hk51 x7_51 e7_51 yxL_51 eyxL_51  H locs hP hD hS ls hl
                          subst e7_51 eyxL_51
                          have hlt51 : k51 < nl := by omega
                          have hlt : k51 < nl := hlt51
                          refine lv_iload hx hb dX7_setOut_134 (lv_at hl 0 rfl) ?_
                          refine lv_aload_n hx hb dX7_setOut_136 rfl (lv_at hl 6 rfl) ?_
                          refine va_get (D := D.1) (ci := 7) (v := .int (nI nl)) (C := RX7) (T := TX7) (N := 14) hx hb hts hinX7 hown hK hP 0 rfl rfl 8 (by decide) (hts (.fieldLink RX7 48 "MountainPostModel" "letters" "I") (List.mem_of_getElem? (i := 1) rfl)) (fun _ h9 => h9) rfl dX7_setOut_137 ?_
                          refine lv_icmp_ge (tgt := 243) hx hb dX7_setOut_140 (by decide) (fun c53 => ?_) (fun c53 => ?_)
                          · exact (upS hk51 (by omega) c53).elim
                          · refine lv_aload_n hx hb dX7_setOut_143 rfl (lv_at hl 6 rfl) ?_
                            refine lv_iload hx hb dX7_setOut_144 (lv_at hl 0 rfl) ?_
                            refine lv_iconst (v := 5) hx hb dX7_setOut_146 (by decide) ?_
                            refine kVp ⟨hx, hb, hml, hown, hts⟩ (c_X7_le l D Ax th ns fog nr nm nl (crI (crO Lz p1 (muM Lx p1 0) (muM Lx p1 2) nl k47) (muM Lx p1 0) (muM Lx p1 2) (nI k47) k51) (nI k51) 5 (ixl (vd_k (by omega)) b60 5 (by decide))) (cwV 2 hts gX7_setOut_X7_le rfl rfl rfl (by decide +kernel) ⟨Nat.le_of_ble_eq_true rfl, Nat.le_of_ble_eq_true rfl⟩) hK hN hP hD Sb.self 7 0 rfl rfl rfl hl.1 (Nat.le_of_ble_eq_true rfl) ⟨Nat.zero_le _, Nat.zero_le _⟩ dX7_setOut_147 ?_ rfl
                            refine lv_istore (lv' := [(8, .int (leM (crI (crO Lz p1 (muM Lx p1 0) (muM Lx p1 2) nl k47) (muM Lx p1 0) (muM Lx p1 2) (nI k47) k51) (nI k51) 5)), (7, .int (nI k51)), (6, .int (nI k47)), (5, .int (nI t)), (4, .int (othM Lx (muM Lx p1 0) (muM Lx p1 2))), (3, .int (muM Lx p1 2)), (2, .int (muM Lx p1 0)), (0, .ref (Ax 0)), (1, .int p1)]) hx hb dX7_setOut_150 hl (by decide) rfl (fun ls hl => ?_)
                            refine lv_iload hx hb dX7_setOut_152 (lv_at hl 0 rfl) ?_
                            refine lv_iconst (v := (-1)) hx hb dX7_setOut_154 (by decide) ?_
                            refine lv_icmp_eq (tgt := 237) hx hb dX7_setOut_155 (by decide) (fun c54 => ?_) (fun c54 => ?_)
                            · refine lv_iinc (v := ((nI k51) + 1)) (lv' := [(7, .int ((nI k51) + 1)), (8, .int (leM (crI (crO Lz p1 (muM Lx p1 0) (muM Lx p1 2) nl k47) (muM Lx p1 0) (muM Lx p1 2) (nI k47) k51) (nI k51) 5)), (6, .int (nI k47)), (5, .int (nI t)), (4, .int (othM Lx (muM Lx p1 0) (muM Lx p1 2))), (3, .int (muM Lx p1 2)), (2, .int (muM Lx p1 0)), (0, .ref (Ax 0)), (1, .int p1)]) hx hb dX7_setOut_237 hl (k := 1) rfl rfl (by decide) rfl (fun ls hl => ?_)
                              refine lv_goto (tgt := 134) hx hb dX7_setOut_240 (by decide) ?_
                              exact ih51 (k51 + 1) (by omega) _ (nI_1 k51) _ (by (rw [crI, if_pos c54]; first | done | rfl)) _ _ hP hD hS ls (lv_sub hl [0, 2, 3, 4, 5, 6, 7, 8] rfl)
                            · refine lv_aload_n hx hb dX7_setOut_158 rfl (lv_at hl 7 rfl) ?_
                              refine lv_iload hx hb dX7_setOut_159 (lv_at hl 0 rfl) ?_
                              refine lv_iconst (v := 0) hx hb dX7_setOut_161 (by decide) ?_
                              refine kVp ⟨hx, hb, hml, hown, hts⟩ (c_X7_mu l D Ax th ns fog nr nm nl (crI (crO Lz p1 (muM Lx p1 0) (muM Lx p1 2) nl k47) (muM Lx p1 0) (muM Lx p1 2) (nI k47) k51) (leM (crI (crO Lz p1 (muM Lx p1 0) (muM Lx p1 2) nl k47) (muM Lx p1 0) (muM Lx p1 2) (nI k47) k51) (nI k51) 5) 0 (ixm (okW (okS_crI _ (okS_crO _ hz)) (vd_k (by omega)) c54) b12 0 (by decide))) (cwV 2 hts gX7_setOut_X7_mu rfl rfl rfl (by decide +kernel) ⟨Nat.le_of_ble_eq_true rfl, Nat.le_of_ble_eq_true rfl⟩) hK hN hP hD Sb.self 7 0 rfl rfl rfl hl.1 (Nat.le_of_ble_eq_true rfl) ⟨Nat.zero_le _, Nat.zero_le _⟩ dX7_setOut_162 ?_ rfl
                              refine lv_iload_n hx hb dX7_setOut_165 rfl (lv_at hl 6 rfl) ?_
                              refine lv_icmp_ne (tgt := 237) hx hb dX7_setOut_166 (by decide) (fun c55 => ?_) (fun c55 => ?_)
                              · refine lv_iinc (v := ((nI k51) + 1)) (lv' := [(7, .int ((nI k51) + 1)), (8, .int (leM (crI (crO Lz p1 (muM Lx p1 0) (muM Lx p1 2) nl k47) (muM Lx p1 0) (muM Lx p1 2) (nI k47) k51) (nI k51) 5)), (6, .int (nI k47)), (5, .int (nI t)), (4, .int (othM Lx (muM Lx p1 0) (muM Lx p1 2))), (3, .int (muM Lx p1 2)), (2, .int (muM Lx p1 0)), (0, .ref (Ax 0)), (1, .int p1)]) hx hb dX7_setOut_237 hl (k := 1) rfl rfl (by decide) rfl (fun ls hl => ?_)
                                refine lv_goto (tgt := 134) hx hb dX7_setOut_240 (by decide) ?_
                                exact ih51 (k51 + 1) (by omega) _ (nI_1 k51) _ (by (rw [crI, if_neg c54, if_neg c55]; first | done | rfl)) _ _ hP hD hS ls (lv_sub hl [0, 2, 3, 4, 5, 6, 7, 8] rfl)
                              · refine lv_aload_n hx hb dX7_setOut_169 rfl (lv_at hl 7 rfl) ?_
                                refine lv_iload hx hb dX7_setOut_170 (lv_at hl 0 rfl) ?_
                                refine lv_iconst (v := 3) hx hb dX7_setOut_172 (by decide) ?_
                                refine kVp ⟨hx, hb, hml, hown, hts⟩ (c_X7_mu l D Ax th ns fog nr nm nl (crI (crO Lz p1 (muM Lx p1 0) (muM Lx p1 2) nl k47) (muM Lx p1 0) (muM Lx p1 2) (nI k47) k51) (leM (crI (crO Lz p1 (muM Lx p1 0) (muM Lx p1 2) nl k47) (muM Lx p1 0) (muM Lx p1 2) (nI k47) k51) (nI k51) 5) 3 (ixm (okW (okS_crI _ (okS_crO _ hz)) (vd_k (by omega)) c54) b12 3 (by decide))) (cwV 2 hts gX7_setOut_X7_mu rfl rfl rfl (by decide +kernel) ⟨Nat.le_of_ble_eq_true rfl, Nat.le_of_ble_eq_true rfl⟩) hK hN hP hD Sb.self 7 0 rfl rfl rfl hl.1 (Nat.le_of_ble_eq_true rfl) ⟨Nat.zero_le _, Nat.zero_le _⟩ dX7_setOut_173 ?_ rfl
                                refine lv_if_eq (tgt := 237) hx hb dX7_setOut_176 (by decide) (fun c56 => ?_) (fun c56 => ?_)
                                · refine lv_iinc (v := ((nI k51) + 1)) (lv' := [(7, .int ((nI k51) + 1)), (8, .int (leM (crI (crO Lz p1 (muM Lx p1 0) (muM Lx p1 2) nl k47) (muM Lx p1 0) (muM Lx p1 2) (nI k47) k51) (nI k51) 5)), (6, .int (nI k47)), (5, .int (nI t)), (4, .int (othM Lx (muM Lx p1 0) (muM Lx p1 2))), (3, .int (muM Lx p1 2)), (2, .int (muM Lx p1 0)), (0, .ref (Ax 0)), (1, .int p1)]) hx hb dX7_setOut_237 hl (k := 1) rfl rfl (by decide) rfl (fun ls hl => ?_)
                                  refine lv_goto (tgt := 134) hx hb dX7_setOut_240 (by decide) ?_
                                  exact ih51 (k51 + 1) (by omega) _ (nI_1 k51) _ (by (rw [crI, if_neg c54, if_pos c55, if_pos c56]; first | done | rfl)) _ _ hP hD hS ls (lv_sub hl [0, 2, 3, 4, 5, 6, 7, 8] rfl)
                                · refine lv_aload_n hx hb dX7_setOut_179 rfl (lv_at hl 7 rfl) ?_
                                  refine lv_iload hx hb dX7_setOut_180 (lv_at hl 0 rfl) ?_
                                  refine lv_iconst (v := 2) hx hb dX7_setOut_182 (by decide) ?_
                                  refine kVp ⟨hx, hb, hml, hown, hts⟩ (c_X7_mu l D Ax th ns fog nr nm nl (crI (crO Lz p1 (muM Lx p1 0) (muM Lx p1 2) nl k47) (muM Lx p1 0) (muM Lx p1 2) (nI k47) k51) (leM (crI (crO Lz p1 (muM Lx p1 0) (muM Lx p1 2) nl k47) (muM Lx p1 0) (muM Lx p1 2) (nI k47) k51) (nI k51) 5) 2 (ixm (okW (okS_crI _ (okS_crO _ hz)) (vd_k (by omega)) c54) b12 2 (by decide))) (cwV 2 hts gX7_setOut_X7_mu rfl rfl rfl (by decide +kernel) ⟨Nat.le_of_ble_eq_true rfl, Nat.le_of_ble_eq_true rfl⟩) hK hN hP hD Sb.self 7 0 rfl rfl rfl hl.1 (Nat.le_of_ble_eq_true rfl) ⟨Nat.zero_le _, Nat.zero_le _⟩ dX7_setOut_183 ?_ rfl
                                  refine lv_iload_n hx hb dX7_setOut_186 rfl (lv_at hl 5 rfl) ?_
                                  refine lv_icmp_eq (tgt := 193) hx hb dX7_setOut_187 (by decide) (fun c57 => ?_) (fun c57 => ?_)
                                  · refine lv_aload_n hx hb dX7_setOut_193 rfl (lv_at hl 7 rfl) ?_
                                    refine lv_iload hx hb dX7_setOut_194 (lv_at hl 2 rfl) ?_
                                    refine lv_iconst (v := 0) hx hb dX7_setOut_196 (by decide) ?_
                                    refine kVp ⟨hx, hb, hml, hown, hts⟩ (c_X7_le l D Ax th ns fog nr nm nl (crI (crO Lz p1 (muM Lx p1 0) (muM Lx p1 2) nl k47) (muM Lx p1 0) (muM Lx p1 2) (nI k47) k51) (nI k47) 0 (ixl (vd_k (by omega)) b60 0 (by decide))) (cwV 2 hts gX7_setOut_X7_le rfl rfl rfl (by decide +kernel) ⟨Nat.le_of_ble_eq_true rfl, Nat.le_of_ble_eq_true rfl⟩) hK hN hP hD Sb.self 7 0 rfl rfl rfl hl.1 (Nat.le_of_ble_eq_true rfl) ⟨Nat.zero_le _, Nat.zero_le _⟩ dX7_setOut_197 ?_ rfl
                                    refine lv_aload_n hx hb dX7_setOut_200 rfl (lv_at hl 7 rfl) ?_
                                    refine lv_iload hx hb dX7_setOut_201 (lv_at hl 1 rfl) ?_
                                    refine lv_iconst (v := 1) hx hb dX7_setOut_203 (by decide) ?_
                                    refine kVp ⟨hx, hb, hml, hown, hts⟩ (c_X7_le l D Ax th ns fog nr nm nl (crI (crO Lz p1 (muM Lx p1 0) (muM Lx p1 2) nl k47) (muM Lx p1 0) (muM Lx p1 2) (nI k47) k51) (nI k51) 1 (ixl (vd_k (by omega)) b60 1 (by decide))) (cwV 2 hts gX7_setOut_X7_le rfl rfl rfl (by decide +kernel) ⟨Nat.le_of_ble_eq_true rfl, Nat.le_of_ble_eq_true rfl⟩) hK hN hP hD Sb.self 7 0 rfl rfl rfl hl.1 (Nat.le_of_ble_eq_true rfl) ⟨Nat.zero_le _, Nat.zero_le _⟩ dX7_setOut_204 ?_ rfl
                                    refine lv_icmp_ne (tgt := 237) hx hb dX7_setOut_207 (by decide) (fun c58 => ?_) (fun c58 => ?_)
                                    · refine lv_iinc (v := ((nI k51) + 1)) (lv' := [(7, .int ((nI k51) + 1)), (8, .int (leM (crI (crO Lz p1 (muM Lx p1 0) (muM Lx p1 2) nl k47) (muM Lx p1 0) (muM Lx p1 2) (nI k47) k51) (nI k51) 5)), (6, .int (nI k47)), (5, .int (nI t)), (4, .int (othM Lx (muM Lx p1 0) (muM Lx p1 2))), (3, .int (muM Lx p1 2)), (2, .int (muM Lx p1 0)), (0, .ref (Ax 0)), (1, .int p1)]) hx hb dX7_setOut_237 hl (k := 1) rfl rfl (by decide) rfl (fun ls hl => ?_)
                                      refine lv_goto (tgt := 134) hx hb dX7_setOut_240 (by decide) ?_
                                      exact ih51 (k51 + 1) (by omega) _ (nI_1 k51) _ (by (rw [crI, if_neg c54, if_pos c55, if_neg c56, if_pos c57, if_neg c58]; first | done | rfl)) _ _ hP hD hS ls (lv_sub hl [0, 2, 3, 4, 5, 6, 7, 8] rfl)
                                    · refine lv_aload_n hx hb dX7_setOut_210 rfl (lv_at hl 7 rfl) ?_
                                      refine lv_iload hx hb dX7_setOut_211 (lv_at hl 1 rfl) ?_
                                      refine lv_iconst (v := 0) hx hb dX7_setOut_213 (by decide) ?_
                                      refine kVp ⟨hx, hb, hml, hown, hts⟩ (c_X7_le l D Ax th ns fog nr nm nl (crI (crO Lz p1 (muM Lx p1 0) (muM Lx p1 2) nl k47) (muM Lx p1 0) (muM Lx p1 2) (nI k47) k51) (nI k51) 0 (ixl (vd_k (by omega)) b60 0 (by decide))) (cwV 2 hts gX7_setOut_X7_le rfl rfl rfl (by decide +kernel) ⟨Nat.le_of_ble_eq_true rfl, Nat.le_of_ble_eq_true rfl⟩) hK hN hP hD Sb.self 7 0 rfl rfl rfl hl.1 (Nat.le_of_ble_eq_true rfl) ⟨Nat.zero_le _, Nat.zero_le _⟩ dX7_setOut_214 ?_ rfl
                                      refine lv_aload_n hx hb dX7_setOut_217 rfl (lv_at hl 7 rfl) ?_
                                      refine lv_iload hx hb dX7_setOut_218 (lv_at hl 2 rfl) ?_
                                      refine lv_iconst (v := 1) hx hb dX7_setOut_220 (by decide) ?_
                                      refine kVp ⟨hx, hb, hml, hown, hts⟩ (c_X7_le l D Ax th ns fog nr nm nl (crI (crO Lz p1 (muM Lx p1 0) (muM Lx p1 2) nl k47) (muM Lx p1 0) (muM Lx p1 2) (nI k47) k51) (nI k47) 1 (ixl (vd_k (by omega)) b60 1 (by decide))) (cwV 2 hts gX7_setOut_X7_le rfl rfl rfl (by decide +kernel) ⟨Nat.le_of_ble_eq_true rfl, Nat.le_of_ble_eq_true rfl⟩) hK hN hP hD Sb.self 7 0 rfl rfl rfl hl.1 (Nat.le_of_ble_eq_true rfl) ⟨Nat.zero_le _, Nat.zero_le _⟩ dX7_setOut_221 ?_ rfl
                                      refine lv_icmp_ne (tgt := 237) hx hb dX7_setOut_224 (by decide) (fun c59 => ?_) (fun c59 => ?_)
                                      · refine lv_iinc (v := ((nI k51) + 1)) (lv' := [(7, .int ((nI k51) + 1)), (8, .int (leM (crI (crO Lz p1 (muM Lx p1 0) (muM Lx p1 2) nl k47) (muM Lx p1 0) (muM Lx p1 2) (nI k47) k51) (nI k51) 5)), (6, .int (nI k47)), (5, .int (nI t)), (4, .int (othM Lx (muM Lx p1 0) (muM Lx p1 2))), (3, .int (muM Lx p1 2)), (2, .int (muM Lx p1 0)), (0, .ref (Ax 0)), (1, .int p1)]) hx hb dX7_setOut_237 hl (k := 1) rfl rfl (by decide) rfl (fun ls hl => ?_)
                                        refine lv_goto (tgt := 134) hx hb dX7_setOut_240 (by decide) ?_
                                        exact ih51 (k51 + 1) (by omega) _ (nI_1 k51) _ (by (rw [crI, if_neg c54, if_pos c55, if_neg c56, if_pos c57, if_pos c58, if_neg c59]; first | done | rfl)) _ _ hP hD hS ls (lv_sub hl [0, 2, 3, 4, 5, 6, 7, 8] rfl)
                                      · refine lv_aload_n hx hb dX7_setOut_227 rfl (lv_at hl 7 rfl) ?_
                                        refine va_get (D := D.1) (ci := 7) (v := .ref (Ax 6)) (C := RX7) (T := TX7) (N := 14) hx hb hts hinX7 hown hK hP 0 rfl rfl 11 (by decide) (hts (.fieldLink RX7 25 "MountainPostModel" "numbers" "[I") (List.mem_of_getElem? (i := 2) rfl)) (fun _ h9 => h9) rfl dX7_setOut_228 ?_
                                        refine lv_iconst (v := 1) hx hb dX7_setOut_231 (by decide) ?_
                                        refine lv_dup2_11 hx hb dX7_setOut_232 rfl rfl ?_
                                        refine va_iald (D := D.1) hx hb hK hP 6 0 rfl rfl (show vp_in (nI 1) 2 from vp_in_nI (by decide) (by decide)) dX7_setOut_233 ?_
                                        rw [show (((crI (crO Lz p1 (muM Lx p1 0) (muM Lx p1 2) nl k47) (muM Lx p1 0) (muM Lx p1 2) (nI k47) k51) 5) (1 : Int32).toNatClampNeg) = (rg 2 ((crI (crO Lz p1 (muM Lx p1 0) (muM Lx p1 2) nl k47) (muM Lx p1 0) (muM Lx p1 2) (nI k47) k51) 5) (1 : Int32)) from (rg_vp (show vp_in (nI 1) 2 from vp_in_nI (by decide) (by decide))).symm]
                                        refine lv_iconst (v := 1) hx hb dX7_setOut_234 (by decide) ?_
                                        refine lv_iadd hx hb dX7_setOut_235 ?_
                                        refine va_iast (D := D.1) hx hb hK hP hD hS 6 0 rfl rfl (show vp_in (nI 1) 2 from vp_in_nI (by decide) (by decide)) dX7_setOut_236 (fun H locs hP hD hS => ?_)
                                        have hP : va_P D.1 vwCl (wMod D Ax th ns fog nr nm nl (sr (crI (crO Lz p1 (muM Lx p1 0) (muM Lx p1 2) nl k47) (muM Lx p1 0) (muM Lx p1 2) (nI k47) k51) 5 (upd ((crI (crO Lz p1 (muM Lx p1 0) (muM Lx p1 2) nl k47) (muM Lx p1 0) (muM Lx p1 2) (nI k47) k51) 5) (1 : Int32).toNatClampNeg ((rg 2 ((crI (crO Lz p1 (muM Lx p1 0) (muM Lx p1 2) nl k47) (muM Lx p1 0) (muM Lx p1 2) (nI k47) k51) 5) (1 : Int32)) + 1)))) H := hP
                                        have hD : va_D A0 (wMod D Ax th ns fog nr nm nl (sr (crI (crO Lz p1 (muM Lx p1 0) (muM Lx p1 2) nl k47) (muM Lx p1 0) (muM Lx p1 2) (nI k47) k51) 5 (upd ((crI (crO Lz p1 (muM Lx p1 0) (muM Lx p1 2) nl k47) (muM Lx p1 0) (muM Lx p1 2) (nI k47) k51) 5) (1 : Int32).toNatClampNeg ((rg 2 ((crI (crO Lz p1 (muM Lx p1 0) (muM Lx p1 2) nl k47) (muM Lx p1 0) (muM Lx p1 2) (nI k47) k51) 5) (1 : Int32)) + 1)))) := hD
                                        rw [← rs_vp (n := 2) (f := ((crI (crO Lz p1 (muM Lx p1 0) (muM Lx p1 2) nl k47) (muM Lx p1 0) (muM Lx p1 2) (nI k47) k51) 5)) (x := (1 : Int32)) (v := ((rg 2 ((crI (crO Lz p1 (muM Lx p1 0) (muM Lx p1 2) nl k47) (muM Lx p1 0) (muM Lx p1 2) (nI k47) k51) 5) (1 : Int32)) + 1)) (show vp_in (nI 1) 2 from vp_in_nI (by decide) (by decide))] at hP hD
                                        refine lv_iinc (v := ((nI k51) + 1)) (lv' := [(7, .int ((nI k51) + 1)), (8, .int (leM (crI (crO Lz p1 (muM Lx p1 0) (muM Lx p1 2) nl k47) (muM Lx p1 0) (muM Lx p1 2) (nI k47) k51) (nI k51) 5)), (6, .int (nI k47)), (5, .int (nI t)), (4, .int (othM Lx (muM Lx p1 0) (muM Lx p1 2))), (3, .int (muM Lx p1 2)), (2, .int (muM Lx p1 0)), (0, .ref (Ax 0)), (1, .int p1)]) hx hb dX7_setOut_237 hl (k := 1) rfl rfl (by decide) rfl (fun ls hl => ?_)
                                        refine lv_goto (tgt := 134) hx hb dX7_setOut_240 (by decide) ?_
                                        exact ih51 (k51 + 1) (by omega) _ (nI_1 k51) _ (by (rw [crI, if_neg c54, if_pos c55, if_neg c56, if_pos c57, if_pos c58, if_pos c59]; first | done | rfl)) _ _ hP hD hS ls (lv_sub hl [0, 2, 3, 4, 5, 6, 7, 8] rfl)
                                  · refine lv_goto (tgt := 237) hx hb dX7_setOut_190 (by decide) ?_
                                    refine lv_iinc (v := ((nI k51) + 1)) (lv' := [(7, .int ((nI k51) + 1)), (8, .int (leM (crI (crO Lz p1 (muM Lx p1 0) (muM Lx p1 2) nl k47) (muM Lx p1 0) (muM Lx p1 2) (nI k47) k51) (nI k51) 5)), (6, .int (nI k47)), (5, .int (nI t)), (4, .int (othM Lx (muM Lx p1 0) (muM Lx p1 2))), (3, .int (muM Lx p1 2)), (2, .int (muM Lx p1 0)), (0, .ref (Ax 0)), (1, .int p1)]) hx hb dX7_setOut_237 hl (k := 1) rfl rfl (by decide) rfl (fun ls hl => ?_)
                                    refine lv_goto (tgt := 134) hx hb dX7_setOut_240 (by decide) ?_
                                    exact ih51 (k51 + 1) (by omega) _ (nI_1 k51) _ (by (rw [crI, if_neg c54, if_pos c55, if_neg c56, if_neg c57]; first | done | rfl)) _ _ hP hD hS ls (lv_sub hl [0, 2, 3, 4, 5, 6, 7, 8] rfl)
                      exact lp51 nl 0 (by omega) _ nI_0.symm _ rfl _ _ hP hD hS ls (lv_sub hl [0, 1, 2, 3, 4, 5, 6, 7] rfl)
                    · refine lv_goto (tgt := 243) hx hb dX7_setOut_128 (by decide) ?_
                      refine lv_iinc (v := ((nI k47) + 1)) (lv' := [(6, .int ((nI k47) + 1)), (5, .int (nI t)), (4, .int (othM Lx (muM Lx p1 0) (muM Lx p1 2))), (3, .int (muM Lx p1 2)), (2, .int (muM Lx p1 0)), (0, .ref (Ax 0)), (1, .int p1)]) hx hb dX7_setOut_243 hl (k := 0) rfl rfl (by decide) rfl (fun ls hl => ?_)
                      refine lv_goto (tgt := 108) hx hb dX7_setOut_246 (by decide) ?_
                      exact ih47 (k47 + 1) (by omega) _ (nI_1 k47) _ (by (rw [crO, if_neg c50]; first | done | rfl)) _ _ hP hD hS ls (lv_sub hl [0, 1, 2, 3, 4, 5, 6] rfl)
              exact lp47 nl 0 (by omega) _ nI_0.symm _ rfl _ _ hP hD hS ls (lv_sub hl [0, 1, 2, 3, 4, 5, 6] rfl)
            · exact eWv hx hb hr hlocks dX7_setOut_104 hS hP (by (rw [soM, ← hT, so2, if_pos c32, if_pos c46]; first | done | rfl))
        · exact (up0 hk c31).elim
    | succ j1 ih1 =>
      intro t Lz hk hz h3 hres x5_1 e5_1 H locs hP hD hS ls hl
      subst e5_1
      refine lv_iload hx hb dX7_setOut_33 (lv_at hl 0 rfl) ?_
      refine lv_iconst (v := (-1)) hx hb dX7_setOut_35 (by decide) ?_
      refine lv_icmp_eq (tgt := 88) hx hb dX7_setOut_36 (by decide) (fun c60 => ?_) (fun c60 => ?_)
      · have hT : (Lz, t) = tkF nl (muM Lx p1 2) (muM Lx p1 0) p1 (muM Lx p1 1).toNatClampNeg 0 Lx := by rw [← hres, tkF, if_pos c60]
        refine lv_iload hx hb dX7_setOut_88 (lv_at hl 1 rfl) ?_
        refine lv_if_ne (tgt := 105) hx hb dX7_setOut_90 (by decide) (fun c61 => ?_) (fun c61 => ?_)
        · refine lv_iconst (v := 0) hx hb dX7_setOut_105 (by decide) ?_
          refine lv_istore (lv' := [(6, .int 0), (5, .int (nI t)), (4, .int (othM Lx (muM Lx p1 0) (muM Lx p1 2))), (3, .int (muM Lx p1 2)), (2, .int (muM Lx p1 0)), (0, .ref (Ax 0)), (1, .int p1)]) hx hb dX7_setOut_106 hl (by decide) rfl (fun ls hl => ?_)
          have lp62 : ∀ (j62 : Nat) (k62 : Nat) (hk62 : k62 + j62 = nl) (x6_62 : Int32) (e6_62 : x6_62 = (nI k62)) (yxL_62 : Nat → Nat → Int32) (eyxL_62 : yxL_62 = (crO Lz p1 (muM Lx p1 0) (muM Lx p1 2) nl k62)) (H : Heap) (locs : List Loc) (hP : va_P D.1 vwCl (wMod D Ax th ns fog nr nm nl yxL_62) H) (hD : va_D A0 (wMod D Ax th ns fog nr nm nl yxL_62)) (hS : va_S A0 s.heap H locs) (ls : Array Slot) (hl : lv_has ls 9 [(6, .int x6_62), (5, .int (nI t)), (4, .int (othM Lx (muM Lx p1 0) (muM Lx p1 2))), (3, .int (muM Lx p1 2)), (2, .int (muM Lx p1 0)), (0, .ref (Ax 0)), (1, .int p1)]), W p l e (headSpec wsX7_setOut ({ frames := 4, cells := 0, slots := 0, locals := 90 } : Room)).room s m ([.ref (Ax 0), .int p1] : List Value).toArray below meth c H locs 0 0 (MQ below (QW D none (wMod D Ax th ns fog nr nm nl (soM Lx p1 nl)) A0) ([.ref (Ax 0), .int p1] : List Value).toArray s 0 0 A0) (F0 m 108 ls []) := by
            intro j62
            induction j62 with
            | zero =>
              intro k62 hk62 x6_62 e6_62 yxL_62 eyxL_62  H locs hP hD hS ls hl
              subst e6_62 eyxL_62
              have hkN62 : nl = k62 := (by omega)
              subst hkN62
              refine lv_iload hx hb dX7_setOut_108 (lv_at hl 0 rfl) ?_
              refine lv_aload_n hx hb dX7_setOut_110 rfl (lv_at hl 5 rfl) ?_
              refine va_get (D := D.1) (ci := 7) (v := .int (nI nl)) (C := RX7) (T := TX7) (N := 14) hx hb hts hinX7 hown hK hP 0 rfl rfl 8 (by decide) (hts (.fieldLink RX7 48 "MountainPostModel" "letters" "I") (List.mem_of_getElem? (i := 1) rfl)) (fun _ h9 => h9) rfl dX7_setOut_111 ?_
              refine lv_icmp_ge (tgt := 249) hx hb dX7_setOut_114 (by decide) (fun c63 => ?_) (fun c63 => ?_)
              · refine lv_aload_n hx hb dX7_setOut_249 rfl (lv_at hl 5 rfl) ?_
                refine lv_iload_n hx hb dX7_setOut_250 rfl (lv_at hl 6 rfl) ?_
                refine lv_iconst (v := 2) hx hb dX7_setOut_251 (by decide) ?_
                refine lv_iload hx hb dX7_setOut_252 (lv_at hl 2 rfl) ?_
                refine kVw ⟨hx, hb, hml, hown, hts⟩ (c_X7_setMu l D Ax th ns fog nr nm nl (crO Lz p1 (muM Lx p1 0) (muM Lx p1 2) nl nl) p1 2 (othM Lx (muM Lx p1 0) (muM Lx p1 2)) (ixm (by assumption) b12 2 (by decide))) (cwV 3 hts gX7_setOut_X7_setMu rfl rfl rfl (by decide +kernel) ⟨Nat.le_of_ble_eq_true rfl, Nat.le_of_ble_eq_true rfl⟩) hK hN hP hD hS frsMod 7 0 rfl rfl rfl hl.1 (Nat.le_of_ble_eq_true rfl) ⟨Nat.zero_le _, Nat.zero_le _⟩ dX7_setOut_254 (fun H locs hP hD hS => ?_) rfl
                have hP : va_P D.1 vwCl (wMod D Ax th ns fog nr nm nl (smM (crO Lz p1 (muM Lx p1 0) (muM Lx p1 2) nl nl) p1 2 (othM Lx (muM Lx p1 0) (muM Lx p1 2)))) H := hP
                have hD : va_D A0 (wMod D Ax th ns fog nr nm nl (smM (crO Lz p1 (muM Lx p1 0) (muM Lx p1 2) nl nl) p1 2 (othM Lx (muM Lx p1 0) (muM Lx p1 2)))) := hD
                refine W.eq (g2 := F0 m 257 ls []) rfl ?_
                refine lv_aload_n hx hb dX7_setOut_257 rfl (lv_at hl 5 rfl) ?_
                refine lv_iload_n hx hb dX7_setOut_258 rfl (lv_at hl 6 rfl) ?_
                refine lv_iconst (v := 3) hx hb dX7_setOut_259 (by decide) ?_
                refine lv_aload_n hx hb dX7_setOut_260 rfl (lv_at hl 5 rfl) ?_
                refine lv_iload_n hx hb dX7_setOut_261 rfl (lv_at hl 4 rfl) ?_
                refine lv_iload_n hx hb dX7_setOut_262 rfl (lv_at hl 3 rfl) ?_
                refine kVp ⟨hx, hb, hml, hown, hts⟩ (c_X7_hoursFrom l D Ax th ns fog nr nm nl (smM (crO Lz p1 (muM Lx p1 0) (muM Lx p1 2) nl nl) p1 2 (othM Lx (muM Lx p1 0) (muM Lx p1 2))) (muM Lx p1 0) (muM Lx p1 2) (by assumption) (by assumption) ((hS9.2.1 _ hvm).1) ((hS9.2.1 _ hvm).2.1) ((okS_crO nl hz).1)) (cwV 2 hts gX7_setOut_X7_hoursFrom rfl rfl rfl (by decide +kernel) ⟨Nat.le_of_ble_eq_true rfl, Nat.le_of_ble_eq_true rfl⟩) hK hN hP hD Sb.self 7 0 rfl rfl rfl hl.1 (Nat.le_of_ble_eq_true rfl) ⟨Nat.zero_le _, Nat.zero_le _⟩ dX7_setOut_263 ?_ rfl
                refine kVw ⟨hx, hb, hml, hown, hts⟩ (c_X7_setMu l D Ax th ns fog nr nm nl (smM (crO Lz p1 (muM Lx p1 0) (muM Lx p1 2) nl nl) p1 2 (othM Lx (muM Lx p1 0) (muM Lx p1 2))) p1 3 (hrsM (smM (crO Lz p1 (muM Lx p1 0) (muM Lx p1 2) nl nl) p1 2 (othM Lx (muM Lx p1 0) (muM Lx p1 2))) (muM Lx p1 0) (muM Lx p1 2)) (ixm (by assumption) b12 3 (by decide))) (cwV 3 hts gX7_setOut_X7_setMu rfl rfl rfl (by decide +kernel) ⟨Nat.le_of_ble_eq_true rfl, Nat.le_of_ble_eq_true rfl⟩) hK hN hP hD hS frsMod 7 0 rfl rfl rfl hl.1 (Nat.le_of_ble_eq_true rfl) ⟨Nat.zero_le _, Nat.zero_le _⟩ dX7_setOut_266 (fun H locs hP hD hS => ?_) rfl
                have hP : va_P D.1 vwCl (wMod D Ax th ns fog nr nm nl (smM (smM (crO Lz p1 (muM Lx p1 0) (muM Lx p1 2) nl nl) p1 2 (othM Lx (muM Lx p1 0) (muM Lx p1 2))) p1 3 (hrsM (smM (crO Lz p1 (muM Lx p1 0) (muM Lx p1 2) nl nl) p1 2 (othM Lx (muM Lx p1 0) (muM Lx p1 2))) (muM Lx p1 0) (muM Lx p1 2)))) H := hP
                have hD : va_D A0 (wMod D Ax th ns fog nr nm nl (smM (smM (crO Lz p1 (muM Lx p1 0) (muM Lx p1 2) nl nl) p1 2 (othM Lx (muM Lx p1 0) (muM Lx p1 2))) p1 3 (hrsM (smM (crO Lz p1 (muM Lx p1 0) (muM Lx p1 2) nl nl) p1 2 (othM Lx (muM Lx p1 0) (muM Lx p1 2))) (muM Lx p1 0) (muM Lx p1 2)))) := hD
                refine W.eq (g2 := F0 m 269 ls []) rfl ?_
                exact eWv hx hb hr hlocks dX7_setOut_269 hS hP (by (rw [soM, ← hT, so2, if_neg c61]; first | done | rfl))
              · exact (up0 rfl c63).elim
            | succ j62 ih62 =>
              intro k62 hk62 x6_62 e6_62 yxL_62 eyxL_62  H locs hP hD hS ls hl
              subst e6_62 eyxL_62
              have hlt62 : k62 < nl := by omega
              have hlt : k62 < nl := hlt62
              refine lv_iload hx hb dX7_setOut_108 (lv_at hl 0 rfl) ?_
              refine lv_aload_n hx hb dX7_setOut_110 rfl (lv_at hl 5 rfl) ?_
              refine va_get (D := D.1) (ci := 7) (v := .int (nI nl)) (C := RX7) (T := TX7) (N := 14) hx hb hts hinX7 hown hK hP 0 rfl rfl 8 (by decide) (hts (.fieldLink RX7 48 "MountainPostModel" "letters" "I") (List.mem_of_getElem? (i := 1) rfl)) (fun _ h9 => h9) rfl dX7_setOut_111 ?_
              refine lv_icmp_ge (tgt := 249) hx hb dX7_setOut_114 (by decide) (fun c64 => ?_) (fun c64 => ?_)
              · exact (upS hk62 (by omega) c64).elim
              · refine lv_aload_n hx hb dX7_setOut_117 rfl (lv_at hl 5 rfl) ?_
                refine lv_iload hx hb dX7_setOut_118 (lv_at hl 0 rfl) ?_
                refine lv_iconst (v := 5) hx hb dX7_setOut_120 (by decide) ?_
                refine kVp ⟨hx, hb, hml, hown, hts⟩ (c_X7_le l D Ax th ns fog nr nm nl (crO Lz p1 (muM Lx p1 0) (muM Lx p1 2) nl k62) (nI k62) 5 (ixl (vd_k (by omega)) b60 5 (by decide))) (cwV 2 hts gX7_setOut_X7_le rfl rfl rfl (by decide +kernel) ⟨Nat.le_of_ble_eq_true rfl, Nat.le_of_ble_eq_true rfl⟩) hK hN hP hD Sb.self 7 0 rfl rfl rfl hl.1 (Nat.le_of_ble_eq_true rfl) ⟨Nat.zero_le _, Nat.zero_le _⟩ dX7_setOut_121 ?_ rfl
                refine lv_iload_n hx hb dX7_setOut_124 rfl (lv_at hl 6 rfl) ?_
                refine lv_icmp_eq (tgt := 131) hx hb dX7_setOut_125 (by decide) (fun c65 => ?_) (fun c65 => ?_)
                · refine lv_iconst (v := 0) hx hb dX7_setOut_131 (by decide) ?_
                  refine lv_istore (lv' := [(7, .int 0), (6, .int (nI k62)), (5, .int (nI t)), (4, .int (othM Lx (muM Lx p1 0) (muM Lx p1 2))), (3, .int (muM Lx p1 2)), (2, .int (muM Lx p1 0)), (0, .ref (Ax 0)), (1, .int p1)]) hx hb dX7_setOut_132 hl (by decide) rfl (fun ls hl => ?_)
                  have lp66 : ∀ (j66 : Nat) (k66 : Nat) (hk66 : k66 + j66 = nl) (x7_66 : Int32) (e7_66 : x7_66 = (nI k66)) (yxL_66 : Nat → Nat → Int32) (eyxL_66 : yxL_66 = (crI (crO Lz p1 (muM Lx p1 0) (muM Lx p1 2) nl k62) (muM Lx p1 0) (muM Lx p1 2) (nI k62) k66)) (H : Heap) (locs : List Loc) (hP : va_P D.1 vwCl (wMod D Ax th ns fog nr nm nl yxL_66) H) (hD : va_D A0 (wMod D Ax th ns fog nr nm nl yxL_66)) (hS : va_S A0 s.heap H locs) (ls : Array Slot) (hl : lv_has ls 9 [(7, .int x7_66), (6, .int (nI k62)), (5, .int (nI t)), (4, .int (othM Lx (muM Lx p1 0) (muM Lx p1 2))), (3, .int (muM Lx p1 2)), (2, .int (muM Lx p1 0)), (0, .ref (Ax 0)), (1, .int p1)]), W p l e (headSpec wsX7_setOut ({ frames := 4, cells := 0, slots := 0, locals := 90 } : Room)).room s m ([.ref (Ax 0), .int p1] : List Value).toArray below meth c H locs 0 0 (MQ below (QW D none (wMod D Ax th ns fog nr nm nl (soM Lx p1 nl)) A0) ([.ref (Ax 0), .int p1] : List Value).toArray s 0 0 A0) (F0 m 134 ls []) := by
                    intro j66
                    induction j66 with
                    | zero =>
                      intro k66 hk66 x7_66 e7_66 yxL_66 eyxL_66  H locs hP hD hS ls hl
                      subst e7_66 eyxL_66
                      have hkN66 : nl = k66 := (by omega)
                      subst hkN66
                      refine lv_iload hx hb dX7_setOut_134 (lv_at hl 0 rfl) ?_
                      refine lv_aload_n hx hb dX7_setOut_136 rfl (lv_at hl 6 rfl) ?_
                      refine va_get (D := D.1) (ci := 7) (v := .int (nI nl)) (C := RX7) (T := TX7) (N := 14) hx hb hts hinX7 hown hK hP 0 rfl rfl 8 (by decide) (hts (.fieldLink RX7 48 "MountainPostModel" "letters" "I") (List.mem_of_getElem? (i := 1) rfl)) (fun _ h9 => h9) rfl dX7_setOut_137 ?_
                      refine lv_icmp_ge (tgt := 243) hx hb dX7_setOut_140 (by decide) (fun c67 => ?_) (fun c67 => ?_)
                      · refine lv_iinc (v := ((nI k62) + 1)) (lv' := [(6, .int ((nI k62) + 1)), (7, .int (nI nl)), (5, .int (nI t)), (4, .int (othM Lx (muM Lx p1 0) (muM Lx p1 2))), (3, .int (muM Lx p1 2)), (2, .int (muM Lx p1 0)), (0, .ref (Ax 0)), (1, .int p1)]) hx hb dX7_setOut_243 hl (k := 1) rfl rfl (by decide) rfl (fun ls hl => ?_)
                        refine lv_goto (tgt := 108) hx hb dX7_setOut_246 (by decide) ?_
                        exact ih62 (k62 + 1) (by omega) _ (nI_1 k62) _ (by (rw [crO, if_pos c65]; first | done | rfl)) _ _ hP hD hS ls (lv_sub hl [0, 2, 3, 4, 5, 6, 7] rfl)
                      · exact (up0 rfl c67).elim
                    | succ j66 ih66 =>
                      intro k66 hk66 x7_66 e7_66 yxL_66 eyxL_66  H locs hP hD hS ls hl
                      subst e7_66 eyxL_66
                      have hlt66 : k66 < nl := by omega
                      have hlt : k66 < nl := hlt66
                      refine lv_iload hx hb dX7_setOut_134 (lv_at hl 0 rfl) ?_
                      refine lv_aload_n hx hb dX7_setOut_136 rfl (lv_at hl 6 rfl) ?_
                      refine va_get (D := D.1) (ci := 7) (v := .int (nI nl)) (C := RX7) (T := TX7) (N := 14) hx hb hts hinX7 hown hK hP 0 rfl rfl 8 (by decide) (hts (.fieldLink RX7 48 "MountainPostModel" "letters" "I") (List.mem_of_getElem? (i := 1) rfl)) (fun _ h9 => h9) rfl dX7_setOut_137 ?_
                      refine lv_icmp_ge (tgt := 243) hx hb dX7_setOut_140 (by decide) (fun c68 => ?_) (fun c68 => ?_)
                      · exact (upS hk66 (by omega) c68).elim
                      · refine lv_aload_n hx hb dX7_setOut_143 rfl (lv_at hl 6 rfl) ?_
                        refine lv_iload hx hb dX7_setOut_144 (lv_at hl 0 rfl) ?_
                        refine lv_iconst (v := 5) hx hb dX7_setOut_146 (by decide) ?_
                        refine kVp ⟨hx, hb, hml, hown, hts⟩ (c_X7_le l D Ax th ns fog nr nm nl (crI (crO Lz p1 (muM Lx p1 0) (muM Lx p1 2) nl k62) (muM Lx p1 0) (muM Lx p1 2) (nI k62) k66) (nI k66) 5 (ixl (vd_k (by omega)) b60 5 (by decide))) (cwV 2 hts gX7_setOut_X7_le rfl rfl rfl (by decide +kernel) ⟨Nat.le_of_ble_eq_true rfl, Nat.le_of_ble_eq_true rfl⟩) hK hN hP hD Sb.self 7 0 rfl rfl rfl hl.1 (Nat.le_of_ble_eq_true rfl) ⟨Nat.zero_le _, Nat.zero_le _⟩ dX7_setOut_147 ?_ rfl
                        refine lv_istore (lv' := [(8, .int (leM (crI (crO Lz p1 (muM Lx p1 0) (muM Lx p1 2) nl k62) (muM Lx p1 0) (muM Lx p1 2) (nI k62) k66) (nI k66) 5)), (7, .int (nI k66)), (6, .int (nI k62)), (5, .int (nI t)), (4, .int (othM Lx (muM Lx p1 0) (muM Lx p1 2))), (3, .int (muM Lx p1 2)), (2, .int (muM Lx p1 0)), (0, .ref (Ax 0)), (1, .int p1)]) hx hb dX7_setOut_150 hl (by decide) rfl (fun ls hl => ?_)
                        refine lv_iload hx hb dX7_setOut_152 (lv_at hl 0 rfl) ?_
                        refine lv_iconst (v := (-1)) hx hb dX7_setOut_154 (by decide) ?_
                        refine lv_icmp_eq (tgt := 237) hx hb dX7_setOut_155 (by decide) (fun c69 => ?_) (fun c69 => ?_)
                        · refine lv_iinc (v := ((nI k66) + 1)) (lv' := [(7, .int ((nI k66) + 1)), (8, .int (leM (crI (crO Lz p1 (muM Lx p1 0) (muM Lx p1 2) nl k62) (muM Lx p1 0) (muM Lx p1 2) (nI k62) k66) (nI k66) 5)), (6, .int (nI k62)), (5, .int (nI t)), (4, .int (othM Lx (muM Lx p1 0) (muM Lx p1 2))), (3, .int (muM Lx p1 2)), (2, .int (muM Lx p1 0)), (0, .ref (Ax 0)), (1, .int p1)]) hx hb dX7_setOut_237 hl (k := 1) rfl rfl (by decide) rfl (fun ls hl => ?_)
                          refine lv_goto (tgt := 134) hx hb dX7_setOut_240 (by decide) ?_
                          exact ih66 (k66 + 1) (by omega) _ (nI_1 k66) _ (by (rw [crI, if_pos c69]; first | done | rfl)) _ _ hP hD hS ls (lv_sub hl [0, 2, 3, 4, 5, 6, 7, 8] rfl)
                        · refine lv_aload_n hx hb dX7_setOut_158 rfl (lv_at hl 7 rfl) ?_
                          refine lv_iload hx hb dX7_setOut_159 (lv_at hl 0 rfl) ?_
                          refine lv_iconst (v := 0) hx hb dX7_setOut_161 (by decide) ?_
                          refine kVp ⟨hx, hb, hml, hown, hts⟩ (c_X7_mu l D Ax th ns fog nr nm nl (crI (crO Lz p1 (muM Lx p1 0) (muM Lx p1 2) nl k62) (muM Lx p1 0) (muM Lx p1 2) (nI k62) k66) (leM (crI (crO Lz p1 (muM Lx p1 0) (muM Lx p1 2) nl k62) (muM Lx p1 0) (muM Lx p1 2) (nI k62) k66) (nI k66) 5) 0 (ixm (okW (okS_crI _ (okS_crO _ hz)) (vd_k (by omega)) c69) b12 0 (by decide))) (cwV 2 hts gX7_setOut_X7_mu rfl rfl rfl (by decide +kernel) ⟨Nat.le_of_ble_eq_true rfl, Nat.le_of_ble_eq_true rfl⟩) hK hN hP hD Sb.self 7 0 rfl rfl rfl hl.1 (Nat.le_of_ble_eq_true rfl) ⟨Nat.zero_le _, Nat.zero_le _⟩ dX7_setOut_162 ?_ rfl
                          refine lv_iload_n hx hb dX7_setOut_165 rfl (lv_at hl 6 rfl) ?_
                          refine lv_icmp_ne (tgt := 237) hx hb dX7_setOut_166 (by decide) (fun c70 => ?_) (fun c70 => ?_)
                          · refine lv_iinc (v := ((nI k66) + 1)) (lv' := [(7, .int ((nI k66) + 1)), (8, .int (leM (crI (crO Lz p1 (muM Lx p1 0) (muM Lx p1 2) nl k62) (muM Lx p1 0) (muM Lx p1 2) (nI k62) k66) (nI k66) 5)), (6, .int (nI k62)), (5, .int (nI t)), (4, .int (othM Lx (muM Lx p1 0) (muM Lx p1 2))), (3, .int (muM Lx p1 2)), (2, .int (muM Lx p1 0)), (0, .ref (Ax 0)), (1, .int p1)]) hx hb dX7_setOut_237 hl (k := 1) rfl rfl (by decide) rfl (fun ls hl => ?_)
                            refine lv_goto (tgt := 134) hx hb dX7_setOut_240 (by decide) ?_
                            exact ih66 (k66 + 1) (by omega) _ (nI_1 k66) _ (by (rw [crI, if_neg c69, if_neg c70]; first | done | rfl)) _ _ hP hD hS ls (lv_sub hl [0, 2, 3, 4, 5, 6, 7, 8] rfl)
                          · refine lv_aload_n hx hb dX7_setOut_169 rfl (lv_at hl 7 rfl) ?_
                            refine lv_iload hx hb dX7_setOut_170 (lv_at hl 0 rfl) ?_
                            refine lv_iconst (v := 3) hx hb dX7_setOut_172 (by decide) ?_
                            refine kVp ⟨hx, hb, hml, hown, hts⟩ (c_X7_mu l D Ax th ns fog nr nm nl (crI (crO Lz p1 (muM Lx p1 0) (muM Lx p1 2) nl k62) (muM Lx p1 0) (muM Lx p1 2) (nI k62) k66) (leM (crI (crO Lz p1 (muM Lx p1 0) (muM Lx p1 2) nl k62) (muM Lx p1 0) (muM Lx p1 2) (nI k62) k66) (nI k66) 5) 3 (ixm (okW (okS_crI _ (okS_crO _ hz)) (vd_k (by omega)) c69) b12 3 (by decide))) (cwV 2 hts gX7_setOut_X7_mu rfl rfl rfl (by decide +kernel) ⟨Nat.le_of_ble_eq_true rfl, Nat.le_of_ble_eq_true rfl⟩) hK hN hP hD Sb.self 7 0 rfl rfl rfl hl.1 (Nat.le_of_ble_eq_true rfl) ⟨Nat.zero_le _, Nat.zero_le _⟩ dX7_setOut_173 ?_ rfl
                            refine lv_if_eq (tgt := 237) hx hb dX7_setOut_176 (by decide) (fun c71 => ?_) (fun c71 => ?_)
                            · refine lv_iinc (v := ((nI k66) + 1)) (lv' := [(7, .int ((nI k66) + 1)), (8, .int (leM (crI (crO Lz p1 (muM Lx p1 0) (muM Lx p1 2) nl k62) (muM Lx p1 0) (muM Lx p1 2) (nI k62) k66) (nI k66) 5)), (6, .int (nI k62)), (5, .int (nI t)), (4, .int (othM Lx (muM Lx p1 0) (muM Lx p1 2))), (3, .int (muM Lx p1 2)), (2, .int (muM Lx p1 0)), (0, .ref (Ax 0)), (1, .int p1)]) hx hb dX7_setOut_237 hl (k := 1) rfl rfl (by decide) rfl (fun ls hl => ?_)
                              refine lv_goto (tgt := 134) hx hb dX7_setOut_240 (by decide) ?_
                              exact ih66 (k66 + 1) (by omega) _ (nI_1 k66) _ (by (rw [crI, if_neg c69, if_pos c70, if_pos c71]; first | done | rfl)) _ _ hP hD hS ls (lv_sub hl [0, 2, 3, 4, 5, 6, 7, 8] rfl)
                            · refine lv_aload_n hx hb dX7_setOut_179 rfl (lv_at hl 7 rfl) ?_
                              refine lv_iload hx hb dX7_setOut_180 (lv_at hl 0 rfl) ?_
                              refine lv_iconst (v := 2) hx hb dX7_setOut_182 (by decide) ?_
                              refine kVp ⟨hx, hb, hml, hown, hts⟩ (c_X7_mu l D Ax th ns fog nr nm nl (crI (crO Lz p1 (muM Lx p1 0) (muM Lx p1 2) nl k62) (muM Lx p1 0) (muM Lx p1 2) (nI k62) k66) (leM (crI (crO Lz p1 (muM Lx p1 0) (muM Lx p1 2) nl k62) (muM Lx p1 0) (muM Lx p1 2) (nI k62) k66) (nI k66) 5) 2 (ixm (okW (okS_crI _ (okS_crO _ hz)) (vd_k (by omega)) c69) b12 2 (by decide))) (cwV 2 hts gX7_setOut_X7_mu rfl rfl rfl (by decide +kernel) ⟨Nat.le_of_ble_eq_true rfl, Nat.le_of_ble_eq_true rfl⟩) hK hN hP hD Sb.self 7 0 rfl rfl rfl hl.1 (Nat.le_of_ble_eq_true rfl) ⟨Nat.zero_le _, Nat.zero_le _⟩ dX7_setOut_183 ?_ rfl
                              refine lv_iload_n hx hb dX7_setOut_186 rfl (lv_at hl 5 rfl) ?_
                              refine lv_icmp_eq (tgt := 193) hx hb dX7_setOut_187 (by decide) (fun c72 => ?_) (fun c72 => ?_)
                              · refine lv_aload_n hx hb dX7_setOut_193 rfl (lv_at hl 7 rfl) ?_
                                refine lv_iload hx hb dX7_setOut_194 (lv_at hl 2 rfl) ?_
                                refine lv_iconst (v := 0) hx hb dX7_setOut_196 (by decide) ?_
                                refine kVp ⟨hx, hb, hml, hown, hts⟩ (c_X7_le l D Ax th ns fog nr nm nl (crI (crO Lz p1 (muM Lx p1 0) (muM Lx p1 2) nl k62) (muM Lx p1 0) (muM Lx p1 2) (nI k62) k66) (nI k62) 0 (ixl (vd_k (by omega)) b60 0 (by decide))) (cwV 2 hts gX7_setOut_X7_le rfl rfl rfl (by decide +kernel) ⟨Nat.le_of_ble_eq_true rfl, Nat.le_of_ble_eq_true rfl⟩) hK hN hP hD Sb.self 7 0 rfl rfl rfl hl.1 (Nat.le_of_ble_eq_true rfl) ⟨Nat.zero_le _, Nat.zero_le _⟩ dX7_setOut_197 ?_ rfl
                                refine lv_aload_n hx hb dX7_setOut_200 rfl (lv_at hl 7 rfl) ?_
                                refine lv_iload hx hb dX7_setOut_201 (lv_at hl 1 rfl) ?_
                                refine lv_iconst (v := 1) hx hb dX7_setOut_203 (by decide) ?_
                                refine kVp ⟨hx, hb, hml, hown, hts⟩ (c_X7_le l D Ax th ns fog nr nm nl (crI (crO Lz p1 (muM Lx p1 0) (muM Lx p1 2) nl k62) (muM Lx p1 0) (muM Lx p1 2) (nI k62) k66) (nI k66) 1 (ixl (vd_k (by omega)) b60 1 (by decide))) (cwV 2 hts gX7_setOut_X7_le rfl rfl rfl (by decide +kernel) ⟨Nat.le_of_ble_eq_true rfl, Nat.le_of_ble_eq_true rfl⟩) hK hN hP hD Sb.self 7 0 rfl rfl rfl hl.1 (Nat.le_of_ble_eq_true rfl) ⟨Nat.zero_le _, Nat.zero_le _⟩ dX7_setOut_204 ?_ rfl
                                refine lv_icmp_ne (tgt := 237) hx hb dX7_setOut_207 (by decide) (fun c73 => ?_) (fun c73 => ?_)
                                · refine lv_iinc (v := ((nI k66) + 1)) (lv' := [(7, .int ((nI k66) + 1)), (8, .int (leM (crI (crO Lz p1 (muM Lx p1 0) (muM Lx p1 2) nl k62) (muM Lx p1 0) (muM Lx p1 2) (nI k62) k66) (nI k66) 5)), (6, .int (nI k62)), (5, .int (nI t)), (4, .int (othM Lx (muM Lx p1 0) (muM Lx p1 2))), (3, .int (muM Lx p1 2)), (2, .int (muM Lx p1 0)), (0, .ref (Ax 0)), (1, .int p1)]) hx hb dX7_setOut_237 hl (k := 1) rfl rfl (by decide) rfl (fun ls hl => ?_)
                                  refine lv_goto (tgt := 134) hx hb dX7_setOut_240 (by decide) ?_
                                  exact ih66 (k66 + 1) (by omega) _ (nI_1 k66) _ (by (rw [crI, if_neg c69, if_pos c70, if_neg c71, if_pos c72, if_neg c73]; first | done | rfl)) _ _ hP hD hS ls (lv_sub hl [0, 2, 3, 4, 5, 6, 7, 8] rfl)
                                · refine lv_aload_n hx hb dX7_setOut_210 rfl (lv_at hl 7 rfl) ?_
                                  refine lv_iload hx hb dX7_setOut_211 (lv_at hl 1 rfl) ?_
                                  refine lv_iconst (v := 0) hx hb dX7_setOut_213 (by decide) ?_
                                  refine kVp ⟨hx, hb, hml, hown, hts⟩ (c_X7_le l D Ax th ns fog nr nm nl (crI (crO Lz p1 (muM Lx p1 0) (muM Lx p1 2) nl k62) (muM Lx p1 0) (muM Lx p1 2) (nI k62) k66) (nI k66) 0 (ixl (vd_k (by omega)) b60 0 (by decide))) (cwV 2 hts gX7_setOut_X7_le rfl rfl rfl (by decide +kernel) ⟨Nat.le_of_ble_eq_true rfl, Nat.le_of_ble_eq_true rfl⟩) hK hN hP hD Sb.self 7 0 rfl rfl rfl hl.1 (Nat.le_of_ble_eq_true rfl) ⟨Nat.zero_le _, Nat.zero_le _⟩ dX7_setOut_214 ?_ rfl
                                  refine lv_aload_n hx hb dX7_setOut_217 rfl (lv_at hl 7 rfl) ?_
                                  refine lv_iload hx hb dX7_setOut_218 (lv_at hl 2 rfl) ?_
                                  refine lv_iconst (v := 1) hx hb dX7_setOut_220 (by decide) ?_
                                  refine kVp ⟨hx, hb, hml, hown, hts⟩ (c_X7_le l D Ax th ns fog nr nm nl (crI (crO Lz p1 (muM Lx p1 0) (muM Lx p1 2) nl k62) (muM Lx p1 0) (muM Lx p1 2) (nI k62) k66) (nI k62) 1 (ixl (vd_k (by omega)) b60 1 (by decide))) (cwV 2 hts gX7_setOut_X7_le rfl rfl rfl (by decide +kernel) ⟨Nat.le_of_ble_eq_true rfl, Nat.le_of_ble_eq_true rfl⟩) hK hN hP hD Sb.self 7 0 rfl rfl rfl hl.1 (Nat.le_of_ble_eq_true rfl) ⟨Nat.zero_le _, Nat.zero_le _⟩ dX7_setOut_221 ?_ rfl
                                  refine lv_icmp_ne (tgt := 237) hx hb dX7_setOut_224 (by decide) (fun c74 => ?_) (fun c74 => ?_)
                                  · refine lv_iinc (v := ((nI k66) + 1)) (lv' := [(7, .int ((nI k66) + 1)), (8, .int (leM (crI (crO Lz p1 (muM Lx p1 0) (muM Lx p1 2) nl k62) (muM Lx p1 0) (muM Lx p1 2) (nI k62) k66) (nI k66) 5)), (6, .int (nI k62)), (5, .int (nI t)), (4, .int (othM Lx (muM Lx p1 0) (muM Lx p1 2))), (3, .int (muM Lx p1 2)), (2, .int (muM Lx p1 0)), (0, .ref (Ax 0)), (1, .int p1)]) hx hb dX7_setOut_237 hl (k := 1) rfl rfl (by decide) rfl (fun ls hl => ?_)
                                    refine lv_goto (tgt := 134) hx hb dX7_setOut_240 (by decide) ?_
                                    exact ih66 (k66 + 1) (by omega) _ (nI_1 k66) _ (by (rw [crI, if_neg c69, if_pos c70, if_neg c71, if_pos c72, if_pos c73, if_neg c74]; first | done | rfl)) _ _ hP hD hS ls (lv_sub hl [0, 2, 3, 4, 5, 6, 7, 8] rfl)
                                  · refine lv_aload_n hx hb dX7_setOut_227 rfl (lv_at hl 7 rfl) ?_
                                    refine va_get (D := D.1) (ci := 7) (v := .ref (Ax 6)) (C := RX7) (T := TX7) (N := 14) hx hb hts hinX7 hown hK hP 0 rfl rfl 11 (by decide) (hts (.fieldLink RX7 25 "MountainPostModel" "numbers" "[I") (List.mem_of_getElem? (i := 2) rfl)) (fun _ h9 => h9) rfl dX7_setOut_228 ?_
                                    refine lv_iconst (v := 1) hx hb dX7_setOut_231 (by decide) ?_
                                    refine lv_dup2_11 hx hb dX7_setOut_232 rfl rfl ?_
                                    refine va_iald (D := D.1) hx hb hK hP 6 0 rfl rfl (show vp_in (nI 1) 2 from vp_in_nI (by decide) (by decide)) dX7_setOut_233 ?_
                                    rw [show (((crI (crO Lz p1 (muM Lx p1 0) (muM Lx p1 2) nl k62) (muM Lx p1 0) (muM Lx p1 2) (nI k62) k66) 5) (1 : Int32).toNatClampNeg) = (rg 2 ((crI (crO Lz p1 (muM Lx p1 0) (muM Lx p1 2) nl k62) (muM Lx p1 0) (muM Lx p1 2) (nI k62) k66) 5) (1 : Int32)) from (rg_vp (show vp_in (nI 1) 2 from vp_in_nI (by decide) (by decide))).symm]
                                    refine lv_iconst (v := 1) hx hb dX7_setOut_234 (by decide) ?_
                                    refine lv_iadd hx hb dX7_setOut_235 ?_
                                    refine va_iast (D := D.1) hx hb hK hP hD hS 6 0 rfl rfl (show vp_in (nI 1) 2 from vp_in_nI (by decide) (by decide)) dX7_setOut_236 (fun H locs hP hD hS => ?_)
                                    have hP : va_P D.1 vwCl (wMod D Ax th ns fog nr nm nl (sr (crI (crO Lz p1 (muM Lx p1 0) (muM Lx p1 2) nl k62) (muM Lx p1 0) (muM Lx p1 2) (nI k62) k66) 5 (upd ((crI (crO Lz p1 (muM Lx p1 0) (muM Lx p1 2) nl k62) (muM Lx p1 0) (muM Lx p1 2) (nI k62) k66) 5) (1 : Int32).toNatClampNeg ((rg 2 ((crI (crO Lz p1 (muM Lx p1 0) (muM Lx p1 2) nl k62) (muM Lx p1 0) (muM Lx p1 2) (nI k62) k66) 5) (1 : Int32)) + 1)))) H := hP
                                    have hD : va_D A0 (wMod D Ax th ns fog nr nm nl (sr (crI (crO Lz p1 (muM Lx p1 0) (muM Lx p1 2) nl k62) (muM Lx p1 0) (muM Lx p1 2) (nI k62) k66) 5 (upd ((crI (crO Lz p1 (muM Lx p1 0) (muM Lx p1 2) nl k62) (muM Lx p1 0) (muM Lx p1 2) (nI k62) k66) 5) (1 : Int32).toNatClampNeg ((rg 2 ((crI (crO Lz p1 (muM Lx p1 0) (muM Lx p1 2) nl k62) (muM Lx p1 0) (muM Lx p1 2) (nI k62) k66) 5) (1 : Int32)) + 1)))) := hD
                                    rw [← rs_vp (n := 2) (f := ((crI (crO Lz p1 (muM Lx p1 0) (muM Lx p1 2) nl k62) (muM Lx p1 0) (muM Lx p1 2) (nI k62) k66) 5)) (x := (1 : Int32)) (v := ((rg 2 ((crI (crO Lz p1 (muM Lx p1 0) (muM Lx p1 2) nl k62) (muM Lx p1 0) (muM Lx p1 2) (nI k62) k66) 5) (1 : Int32)) + 1)) (show vp_in (nI 1) 2 from vp_in_nI (by decide) (by decide))] at hP hD
                                    refine lv_iinc (v := ((nI k66) + 1)) (lv' := [(7, .int ((nI k66) + 1)), (8, .int (leM (crI (crO Lz p1 (muM Lx p1 0) (muM Lx p1 2) nl k62) (muM Lx p1 0) (muM Lx p1 2) (nI k62) k66) (nI k66) 5)), (6, .int (nI k62)), (5, .int (nI t)), (4, .int (othM Lx (muM Lx p1 0) (muM Lx p1 2))), (3, .int (muM Lx p1 2)), (2, .int (muM Lx p1 0)), (0, .ref (Ax 0)), (1, .int p1)]) hx hb dX7_setOut_237 hl (k := 1) rfl rfl (by decide) rfl (fun ls hl => ?_)
                                    refine lv_goto (tgt := 134) hx hb dX7_setOut_240 (by decide) ?_
                                    exact ih66 (k66 + 1) (by omega) _ (nI_1 k66) _ (by (rw [crI, if_neg c69, if_pos c70, if_neg c71, if_pos c72, if_pos c73, if_pos c74]; first | done | rfl)) _ _ hP hD hS ls (lv_sub hl [0, 2, 3, 4, 5, 6, 7, 8] rfl)
                              · refine lv_goto (tgt := 237) hx hb dX7_setOut_190 (by decide) ?_
                                refine lv_iinc (v := ((nI k66) + 1)) (lv' := [(7, .int ((nI k66) + 1)), (8, .int (leM (crI (crO Lz p1 (muM Lx p1 0) (muM Lx p1 2) nl k62) (muM Lx p1 0) (muM Lx p1 2) (nI k62) k66) (nI k66) 5)), (6, .int (nI k62)), (5, .int (nI t)), (4, .int (othM Lx (muM Lx p1 0) (muM Lx p1 2))), (3, .int (muM Lx p1 2)), (2, .int (muM Lx p1 0)), (0, .ref (Ax 0)), (1, .int p1)]) hx hb dX7_setOut_237 hl (k := 1) rfl rfl (by decide) rfl (fun ls hl => ?_)
                                refine lv_goto (tgt := 134) hx hb dX7_setOut_240 (by decide) ?_
                                exact ih66 (k66 + 1) (by omega) _ (nI_1 k66) _ (by (rw [crI, if_neg c69, if_pos c70, if_neg c71, if_neg c72]; first | done | rfl)) _ _ hP hD hS ls (lv_sub hl [0, 2, 3, 4, 5, 6, 7, 8] rfl)
                  exact lp66 nl 0 (by omega) _ nI_0.symm _ rfl _ _ hP hD hS ls (lv_sub hl [0, 1, 2, 3, 4, 5, 6, 7] rfl)
                · refine lv_goto (tgt := 243) hx hb dX7_setOut_128 (by decide) ?_
                  refine lv_iinc (v := ((nI k62) + 1)) (lv' := [(6, .int ((nI k62) + 1)), (5, .int (nI t)), (4, .int (othM Lx (muM Lx p1 0) (muM Lx p1 2))), (3, .int (muM Lx p1 2)), (2, .int (muM Lx p1 0)), (0, .ref (Ax 0)), (1, .int p1)]) hx hb dX7_setOut_243 hl (k := 0) rfl rfl (by decide) rfl (fun ls hl => ?_)
                  refine lv_goto (tgt := 108) hx hb dX7_setOut_246 (by decide) ?_
                  exact ih62 (k62 + 1) (by omega) _ (nI_1 k62) _ (by (rw [crO, if_neg c65]; first | done | rfl)) _ _ hP hD hS ls (lv_sub hl [0, 1, 2, 3, 4, 5, 6] rfl)
          exact lp62 nl 0 (by omega) _ nI_0.symm _ rfl _ _ hP hD hS ls (lv_sub hl [0, 1, 2, 3, 4, 5, 6] rfl)
        · refine lv_aload_n hx hb dX7_setOut_93 rfl (lv_at hl 5 rfl) ?_
          refine lv_iload hx hb dX7_setOut_94 (lv_at hl 2 rfl) ?_
          refine lv_iload_n hx hb dX7_setOut_96 rfl (lv_at hl 4 rfl) ?_
          refine kVp ⟨hx, hb, hml, hown, hts⟩ (c_X7_next l D Ax th ns fog nr nm nl Lz (othM Lx (muM Lx p1 0) (muM Lx p1 2)) (muM Lx p1 0) (by assumption) (by assumption) (othM_vd hS9.1 (hS9.2.1 _ hvm).1) (okS_g hz)) (cwV 2 hts gX7_setOut_X7_next rfl rfl rfl (by decide +kernel) ⟨Nat.le_of_ble_eq_true rfl, Nat.le_of_ble_eq_true rfl⟩) hK hN hP hD Sb.self 7 0 rfl rfl rfl hl.1 (Nat.le_of_ble_eq_true rfl) ⟨Nat.zero_le _, Nat.zero_le _⟩ dX7_setOut_97 ?_ rfl
          refine lv_iconst (v := (-1)) hx hb dX7_setOut_100 (by decide) ?_
          refine lv_icmp_ne (tgt := 105) hx hb dX7_setOut_101 (by decide) (fun c75 => ?_) (fun c75 => ?_)
          · refine lv_iconst (v := 0) hx hb dX7_setOut_105 (by decide) ?_
            refine lv_istore (lv' := [(6, .int 0), (5, .int (nI t)), (4, .int (othM Lx (muM Lx p1 0) (muM Lx p1 2))), (3, .int (muM Lx p1 2)), (2, .int (muM Lx p1 0)), (0, .ref (Ax 0)), (1, .int p1)]) hx hb dX7_setOut_106 hl (by decide) rfl (fun ls hl => ?_)
            have lp76 : ∀ (j76 : Nat) (k76 : Nat) (hk76 : k76 + j76 = nl) (x6_76 : Int32) (e6_76 : x6_76 = (nI k76)) (yxL_76 : Nat → Nat → Int32) (eyxL_76 : yxL_76 = (crO Lz p1 (muM Lx p1 0) (muM Lx p1 2) nl k76)) (H : Heap) (locs : List Loc) (hP : va_P D.1 vwCl (wMod D Ax th ns fog nr nm nl yxL_76) H) (hD : va_D A0 (wMod D Ax th ns fog nr nm nl yxL_76)) (hS : va_S A0 s.heap H locs) (ls : Array Slot) (hl : lv_has ls 9 [(6, .int x6_76), (5, .int (nI t)), (4, .int (othM Lx (muM Lx p1 0) (muM Lx p1 2))), (3, .int (muM Lx p1 2)), (2, .int (muM Lx p1 0)), (0, .ref (Ax 0)), (1, .int p1)]), W p l e (headSpec wsX7_setOut ({ frames := 4, cells := 0, slots := 0, locals := 90 } : Room)).room s m ([.ref (Ax 0), .int p1] : List Value).toArray below meth c H locs 0 0 (MQ below (QW D none (wMod D Ax th ns fog nr nm nl (soM Lx p1 nl)) A0) ([.ref (Ax 0), .int p1] : List Value).toArray s 0 0 A0) (F0 m 108 ls []) := by
              intro j76
              induction j76 with
              | zero =>
                intro k76 hk76 x6_76 e6_76 yxL_76 eyxL_76  H locs hP hD hS ls hl
                subst e6_76 eyxL_76
                have hkN76 : nl = k76 := (by omega)
                subst hkN76
                refine lv_iload hx hb dX7_setOut_108 (lv_at hl 0 rfl) ?_
                refine lv_aload_n hx hb dX7_setOut_110 rfl (lv_at hl 5 rfl) ?_
                refine va_get (D := D.1) (ci := 7) (v := .int (nI nl)) (C := RX7) (T := TX7) (N := 14) hx hb hts hinX7 hown hK hP 0 rfl rfl 8 (by decide) (hts (.fieldLink RX7 48 "MountainPostModel" "letters" "I") (List.mem_of_getElem? (i := 1) rfl)) (fun _ h9 => h9) rfl dX7_setOut_111 ?_
                refine lv_icmp_ge (tgt := 249) hx hb dX7_setOut_114 (by decide) (fun c77 => ?_) (fun c77 => ?_)
                · refine lv_aload_n hx hb dX7_setOut_249 rfl (lv_at hl 5 rfl) ?_
                  refine lv_iload_n hx hb dX7_setOut_250 rfl (lv_at hl 6 rfl) ?_
                  refine lv_iconst (v := 2) hx hb dX7_setOut_251 (by decide) ?_
                  refine lv_iload hx hb dX7_setOut_252 (lv_at hl 2 rfl) ?_
                  refine kVw ⟨hx, hb, hml, hown, hts⟩ (c_X7_setMu l D Ax th ns fog nr nm nl (crO Lz p1 (muM Lx p1 0) (muM Lx p1 2) nl nl) p1 2 (othM Lx (muM Lx p1 0) (muM Lx p1 2)) (ixm (by assumption) b12 2 (by decide))) (cwV 3 hts gX7_setOut_X7_setMu rfl rfl rfl (by decide +kernel) ⟨Nat.le_of_ble_eq_true rfl, Nat.le_of_ble_eq_true rfl⟩) hK hN hP hD hS frsMod 7 0 rfl rfl rfl hl.1 (Nat.le_of_ble_eq_true rfl) ⟨Nat.zero_le _, Nat.zero_le _⟩ dX7_setOut_254 (fun H locs hP hD hS => ?_) rfl
                  have hP : va_P D.1 vwCl (wMod D Ax th ns fog nr nm nl (smM (crO Lz p1 (muM Lx p1 0) (muM Lx p1 2) nl nl) p1 2 (othM Lx (muM Lx p1 0) (muM Lx p1 2)))) H := hP
                  have hD : va_D A0 (wMod D Ax th ns fog nr nm nl (smM (crO Lz p1 (muM Lx p1 0) (muM Lx p1 2) nl nl) p1 2 (othM Lx (muM Lx p1 0) (muM Lx p1 2)))) := hD
                  refine W.eq (g2 := F0 m 257 ls []) rfl ?_
                  refine lv_aload_n hx hb dX7_setOut_257 rfl (lv_at hl 5 rfl) ?_
                  refine lv_iload_n hx hb dX7_setOut_258 rfl (lv_at hl 6 rfl) ?_
                  refine lv_iconst (v := 3) hx hb dX7_setOut_259 (by decide) ?_
                  refine lv_aload_n hx hb dX7_setOut_260 rfl (lv_at hl 5 rfl) ?_
                  refine lv_iload_n hx hb dX7_setOut_261 rfl (lv_at hl 4 rfl) ?_
                  refine lv_iload_n hx hb dX7_setOut_262 rfl (lv_at hl 3 rfl) ?_
                  refine kVp ⟨hx, hb, hml, hown, hts⟩ (c_X7_hoursFrom l D Ax th ns fog nr nm nl (smM (crO Lz p1 (muM Lx p1 0) (muM Lx p1 2) nl nl) p1 2 (othM Lx (muM Lx p1 0) (muM Lx p1 2))) (muM Lx p1 0) (muM Lx p1 2) (by assumption) (by assumption) ((hS9.2.1 _ hvm).1) ((hS9.2.1 _ hvm).2.1) ((okS_crO nl hz).1)) (cwV 2 hts gX7_setOut_X7_hoursFrom rfl rfl rfl (by decide +kernel) ⟨Nat.le_of_ble_eq_true rfl, Nat.le_of_ble_eq_true rfl⟩) hK hN hP hD Sb.self 7 0 rfl rfl rfl hl.1 (Nat.le_of_ble_eq_true rfl) ⟨Nat.zero_le _, Nat.zero_le _⟩ dX7_setOut_263 ?_ rfl
                  refine kVw ⟨hx, hb, hml, hown, hts⟩ (c_X7_setMu l D Ax th ns fog nr nm nl (smM (crO Lz p1 (muM Lx p1 0) (muM Lx p1 2) nl nl) p1 2 (othM Lx (muM Lx p1 0) (muM Lx p1 2))) p1 3 (hrsM (smM (crO Lz p1 (muM Lx p1 0) (muM Lx p1 2) nl nl) p1 2 (othM Lx (muM Lx p1 0) (muM Lx p1 2))) (muM Lx p1 0) (muM Lx p1 2)) (ixm (by assumption) b12 3 (by decide))) (cwV 3 hts gX7_setOut_X7_setMu rfl rfl rfl (by decide +kernel) ⟨Nat.le_of_ble_eq_true rfl, Nat.le_of_ble_eq_true rfl⟩) hK hN hP hD hS frsMod 7 0 rfl rfl rfl hl.1 (Nat.le_of_ble_eq_true rfl) ⟨Nat.zero_le _, Nat.zero_le _⟩ dX7_setOut_266 (fun H locs hP hD hS => ?_) rfl
                  have hP : va_P D.1 vwCl (wMod D Ax th ns fog nr nm nl (smM (smM (crO Lz p1 (muM Lx p1 0) (muM Lx p1 2) nl nl) p1 2 (othM Lx (muM Lx p1 0) (muM Lx p1 2))) p1 3 (hrsM (smM (crO Lz p1 (muM Lx p1 0) (muM Lx p1 2) nl nl) p1 2 (othM Lx (muM Lx p1 0) (muM Lx p1 2))) (muM Lx p1 0) (muM Lx p1 2)))) H := hP
                  have hD : va_D A0 (wMod D Ax th ns fog nr nm nl (smM (smM (crO Lz p1 (muM Lx p1 0) (muM Lx p1 2) nl nl) p1 2 (othM Lx (muM Lx p1 0) (muM Lx p1 2))) p1 3 (hrsM (smM (crO Lz p1 (muM Lx p1 0) (muM Lx p1 2) nl nl) p1 2 (othM Lx (muM Lx p1 0) (muM Lx p1 2))) (muM Lx p1 0) (muM Lx p1 2)))) := hD
                  refine W.eq (g2 := F0 m 269 ls []) rfl ?_
                  exact eWv hx hb hr hlocks dX7_setOut_269 hS hP (by (rw [soM, ← hT, so2, if_pos c61, if_neg c75]; first | done | rfl))
                · exact (up0 rfl c77).elim
              | succ j76 ih76 =>
                intro k76 hk76 x6_76 e6_76 yxL_76 eyxL_76  H locs hP hD hS ls hl
                subst e6_76 eyxL_76
                have hlt76 : k76 < nl := by omega
                have hlt : k76 < nl := hlt76
                refine lv_iload hx hb dX7_setOut_108 (lv_at hl 0 rfl) ?_
                refine lv_aload_n hx hb dX7_setOut_110 rfl (lv_at hl 5 rfl) ?_
                refine va_get (D := D.1) (ci := 7) (v := .int (nI nl)) (C := RX7) (T := TX7) (N := 14) hx hb hts hinX7 hown hK hP 0 rfl rfl 8 (by decide) (hts (.fieldLink RX7 48 "MountainPostModel" "letters" "I") (List.mem_of_getElem? (i := 1) rfl)) (fun _ h9 => h9) rfl dX7_setOut_111 ?_
                refine lv_icmp_ge (tgt := 249) hx hb dX7_setOut_114 (by decide) (fun c78 => ?_) (fun c78 => ?_)
                · exact (upS hk76 (by omega) c78).elim
                · refine lv_aload_n hx hb dX7_setOut_117 rfl (lv_at hl 5 rfl) ?_
                  refine lv_iload hx hb dX7_setOut_118 (lv_at hl 0 rfl) ?_
                  refine lv_iconst (v := 5) hx hb dX7_setOut_120 (by decide) ?_
                  refine kVp ⟨hx, hb, hml, hown, hts⟩ (c_X7_le l D Ax th ns fog nr nm nl (crO Lz p1 (muM Lx p1 0) (muM Lx p1 2) nl k76) (nI k76) 5 (ixl (vd_k (by omega)) b60 5 (by decide))) (cwV 2 hts gX7_setOut_X7_le rfl rfl rfl (by decide +kernel) ⟨Nat.le_of_ble_eq_true rfl, Nat.le_of_ble_eq_true rfl⟩) hK hN hP hD Sb.self 7 0 rfl rfl rfl hl.1 (Nat.le_of_ble_eq_true rfl) ⟨Nat.zero_le _, Nat.zero_le _⟩ dX7_setOut_121 ?_ rfl
                  refine lv_iload_n hx hb dX7_setOut_124 rfl (lv_at hl 6 rfl) ?_
                  refine lv_icmp_eq (tgt := 131) hx hb dX7_setOut_125 (by decide) (fun c79 => ?_) (fun c79 => ?_)
                  · refine lv_iconst (v := 0) hx hb dX7_setOut_131 (by decide) ?_
                    refine lv_istore (lv' := [(7, .int 0), (6, .int (nI k76)), (5, .int (nI t)), (4, .int (othM Lx (muM Lx p1 0) (muM Lx p1 2))), (3, .int (muM Lx p1 2)), (2, .int (muM Lx p1 0)), (0, .ref (Ax 0)), (1, .int p1)]) hx hb dX7_setOut_132 hl (by decide) rfl (fun ls hl => ?_)
                    have lp80 : ∀ (j80 : Nat) (k80 : Nat) (hk80 : k80 + j80 = nl) (x7_80 : Int32) (e7_80 : x7_80 = (nI k80)) (yxL_80 : Nat → Nat → Int32) (eyxL_80 : yxL_80 = (crI (crO Lz p1 (muM Lx p1 0) (muM Lx p1 2) nl k76) (muM Lx p1 0) (muM Lx p1 2) (nI k76) k80)) (H : Heap) (locs : List Loc) (hP : va_P D.1 vwCl (wMod D Ax th ns fog nr nm nl yxL_80) H) (hD : va_D A0 (wMod D Ax th ns fog nr nm nl yxL_80)) (hS : va_S A0 s.heap H locs) (ls : Array Slot) (hl : lv_has ls 9 [(7, .int x7_80), (6, .int (nI k76)), (5, .int (nI t)), (4, .int (othM Lx (muM Lx p1 0) (muM Lx p1 2))), (3, .int (muM Lx p1 2)), (2, .int (muM Lx p1 0)), (0, .ref (Ax 0)), (1, .int p1)]), W p l e (headSpec wsX7_setOut ({ frames := 4, cells := 0, slots := 0, locals := 90 } : Room)).room s m ([.ref (Ax 0), .int p1] : List Value).toArray below meth c H locs 0 0 (MQ below (QW D none (wMod D Ax th ns fog nr nm nl (soM Lx p1 nl)) A0) ([.ref (Ax 0), .int p1] : List Value).toArray s 0 0 A0) (F0 m 134 ls []) := by
                      intro j80
                      induction j80 with
                      | zero =>
                        intro k80 hk80 x7_80 e7_80 yxL_80 eyxL_80  H locs hP hD hS ls hl
                        subst e7_80 eyxL_80
                        have hkN80 : nl = k80 := (by omega)
                        subst hkN80
                        refine lv_iload hx hb dX7_setOut_134 (lv_at hl 0 rfl) ?_
                        refine lv_aload_n hx hb dX7_setOut_136 rfl (lv_at hl 6 rfl) ?_
                        refine va_get (D := D.1) (ci := 7) (v := .int (nI nl)) (C := RX7) (T := TX7) (N := 14) hx hb hts hinX7 hown hK hP 0 rfl rfl 8 (by decide) (hts (.fieldLink RX7 48 "MountainPostModel" "letters" "I") (List.mem_of_getElem? (i := 1) rfl)) (fun _ h9 => h9) rfl dX7_setOut_137 ?_
                        refine lv_icmp_ge (tgt := 243) hx hb dX7_setOut_140 (by decide) (fun c81 => ?_) (fun c81 => ?_)
                        · refine lv_iinc (v := ((nI k76) + 1)) (lv' := [(6, .int ((nI k76) + 1)), (7, .int (nI nl)), (5, .int (nI t)), (4, .int (othM Lx (muM Lx p1 0) (muM Lx p1 2))), (3, .int (muM Lx p1 2)), (2, .int (muM Lx p1 0)), (0, .ref (Ax 0)), (1, .int p1)]) hx hb dX7_setOut_243 hl (k := 1) rfl rfl (by decide) rfl (fun ls hl => ?_)
                          refine lv_goto (tgt := 108) hx hb dX7_setOut_246 (by decide) ?_
                          exact ih76 (k76 + 1) (by omega) _ (nI_1 k76) _ (by (rw [crO, if_pos c79]; first | done | rfl)) _ _ hP hD hS ls (lv_sub hl [0, 2, 3, 4, 5, 6, 7] rfl)
                        · exact (up0 rfl c81).elim
                      | succ j80 ih80 =>
                        intro k80 hk80 x7_80 e7_80 yxL_80 eyxL_80  H locs hP hD hS ls hl
                        subst e7_80 eyxL_80
                        have hlt80 : k80 < nl := by omega
                        have hlt : k80 < nl := hlt80
                        refine lv_iload hx hb dX7_setOut_134 (lv_at hl 0 rfl) ?_
                        refine lv_aload_n hx hb dX7_setOut_136 rfl (lv_at hl 6 rfl) ?_
                        refine va_get (D := D.1) (ci := 7) (v := .int (nI nl)) (C := RX7) (T := TX7) (N := 14) hx hb hts hinX7 hown hK hP 0 rfl rfl 8 (by decide) (hts (.fieldLink RX7 48 "MountainPostModel" "letters" "I") (List.mem_of_getElem? (i := 1) rfl)) (fun _ h9 => h9) rfl dX7_setOut_137 ?_
                        refine lv_icmp_ge (tgt := 243) hx hb dX7_setOut_140 (by decide) (fun c82 => ?_) (fun c82 => ?_)
                        · exact (upS hk80 (by omega) c82).elim
                        · refine lv_aload_n hx hb dX7_setOut_143 rfl (lv_at hl 6 rfl) ?_
                          refine lv_iload hx hb dX7_setOut_144 (lv_at hl 0 rfl) ?_
                          refine lv_iconst (v := 5) hx hb dX7_setOut_146 (by decide) ?_
                          refine kVp ⟨hx, hb, hml, hown, hts⟩ (c_X7_le l D Ax th ns fog nr nm nl (crI (crO Lz p1 (muM Lx p1 0) (muM Lx p1 2) nl k76) (muM Lx p1 0) (muM Lx p1 2) (nI k76) k80) (nI k80) 5 (ixl (vd_k (by omega)) b60 5 (by decide))) (cwV 2 hts gX7_setOut_X7_le rfl rfl rfl (by decide +kernel) ⟨Nat.le_of_ble_eq_true rfl, Nat.le_of_ble_eq_true rfl⟩) hK hN hP hD Sb.self 7 0 rfl rfl rfl hl.1 (Nat.le_of_ble_eq_true rfl) ⟨Nat.zero_le _, Nat.zero_le _⟩ dX7_setOut_147 ?_ rfl
                          refine lv_istore (lv' := [(8, .int (leM (crI (crO Lz p1 (muM Lx p1 0) (muM Lx p1 2) nl k76) (muM Lx p1 0) (muM Lx p1 2) (nI k76) k80) (nI k80) 5)), (7, .int (nI k80)), (6, .int (nI k76)), (5, .int (nI t)), (4, .int (othM Lx (muM Lx p1 0) (muM Lx p1 2))), (3, .int (muM Lx p1 2)), (2, .int (muM Lx p1 0)), (0, .ref (Ax 0)), (1, .int p1)]) hx hb dX7_setOut_150 hl (by decide) rfl (fun ls hl => ?_)
                          refine lv_iload hx hb dX7_setOut_152 (lv_at hl 0 rfl) ?_
                          refine lv_iconst (v := (-1)) hx hb dX7_setOut_154 (by decide) ?_
                          refine lv_icmp_eq (tgt := 237) hx hb dX7_setOut_155 (by decide) (fun c83 => ?_) (fun c83 => ?_)
                          · refine lv_iinc (v := ((nI k80) + 1)) (lv' := [(7, .int ((nI k80) + 1)), (8, .int (leM (crI (crO Lz p1 (muM Lx p1 0) (muM Lx p1 2) nl k76) (muM Lx p1 0) (muM Lx p1 2) (nI k76) k80) (nI k80) 5)), (6, .int (nI k76)), (5, .int (nI t)), (4, .int (othM Lx (muM Lx p1 0) (muM Lx p1 2))), (3, .int (muM Lx p1 2)), (2, .int (muM Lx p1 0)), (0, .ref (Ax 0)), (1, .int p1)]) hx hb dX7_setOut_237 hl (k := 1) rfl rfl (by decide) rfl (fun ls hl => ?_)
                            refine lv_goto (tgt := 134) hx hb dX7_setOut_240 (by decide) ?_
                            exact ih80 (k80 + 1) (by omega) _ (nI_1 k80) _ (by (rw [crI, if_pos c83]; first | done | rfl)) _ _ hP hD hS ls (lv_sub hl [0, 2, 3, 4, 5, 6, 7, 8] rfl)
                          · refine lv_aload_n hx hb dX7_setOut_158 rfl (lv_at hl 7 rfl) ?_
                            refine lv_iload hx hb dX7_setOut_159 (lv_at hl 0 rfl) ?_
                            refine lv_iconst (v := 0) hx hb dX7_setOut_161 (by decide) ?_
                            refine kVp ⟨hx, hb, hml, hown, hts⟩ (c_X7_mu l D Ax th ns fog nr nm nl (crI (crO Lz p1 (muM Lx p1 0) (muM Lx p1 2) nl k76) (muM Lx p1 0) (muM Lx p1 2) (nI k76) k80) (leM (crI (crO Lz p1 (muM Lx p1 0) (muM Lx p1 2) nl k76) (muM Lx p1 0) (muM Lx p1 2) (nI k76) k80) (nI k80) 5) 0 (ixm (okW (okS_crI _ (okS_crO _ hz)) (vd_k (by omega)) c83) b12 0 (by decide))) (cwV 2 hts gX7_setOut_X7_mu rfl rfl rfl (by decide +kernel) ⟨Nat.le_of_ble_eq_true rfl, Nat.le_of_ble_eq_true rfl⟩) hK hN hP hD Sb.self 7 0 rfl rfl rfl hl.1 (Nat.le_of_ble_eq_true rfl) ⟨Nat.zero_le _, Nat.zero_le _⟩ dX7_setOut_162 ?_ rfl
                            refine lv_iload_n hx hb dX7_setOut_165 rfl (lv_at hl 6 rfl) ?_
                            refine lv_icmp_ne (tgt := 237) hx hb dX7_setOut_166 (by decide) (fun c84 => ?_) (fun c84 => ?_)
                            · refine lv_iinc (v := ((nI k80) + 1)) (lv' := [(7, .int ((nI k80) + 1)), (8, .int (leM (crI (crO Lz p1 (muM Lx p1 0) (muM Lx p1 2) nl k76) (muM Lx p1 0) (muM Lx p1 2) (nI k76) k80) (nI k80) 5)), (6, .int (nI k76)), (5, .int (nI t)), (4, .int (othM Lx (muM Lx p1 0) (muM Lx p1 2))), (3, .int (muM Lx p1 2)), (2, .int (muM Lx p1 0)), (0, .ref (Ax 0)), (1, .int p1)]) hx hb dX7_setOut_237 hl (k := 1) rfl rfl (by decide) rfl (fun ls hl => ?_)
                              refine lv_goto (tgt := 134) hx hb dX7_setOut_240 (by decide) ?_
                              exact ih80 (k80 + 1) (by omega) _ (nI_1 k80) _ (by (rw [crI, if_neg c83, if_neg c84]; first | done | rfl)) _ _ hP hD hS ls (lv_sub hl [0, 2, 3, 4, 5, 6, 7, 8] rfl)
                            · refine lv_aload_n hx hb dX7_setOut_169 rfl (lv_at hl 7 rfl) ?_
                              refine lv_iload hx hb dX7_setOut_170 (lv_at hl 0 rfl) ?_
                              refine lv_iconst (v := 3) hx hb dX7_setOut_172 (by decide) ?_
                              refine kVp ⟨hx, hb, hml, hown, hts⟩ (c_X7_mu l D Ax th ns fog nr nm nl (crI (crO Lz p1 (muM Lx p1 0) (muM Lx p1 2) nl k76) (muM Lx p1 0) (muM Lx p1 2) (nI k76) k80) (leM (crI (crO Lz p1 (muM Lx p1 0) (muM Lx p1 2) nl k76) (muM Lx p1 0) (muM Lx p1 2) (nI k76) k80) (nI k80) 5) 3 (ixm (okW (okS_crI _ (okS_crO _ hz)) (vd_k (by omega)) c83) b12 3 (by decide))) (cwV 2 hts gX7_setOut_X7_mu rfl rfl rfl (by decide +kernel) ⟨Nat.le_of_ble_eq_true rfl, Nat.le_of_ble_eq_true rfl⟩) hK hN hP hD Sb.self 7 0 rfl rfl rfl hl.1 (Nat.le_of_ble_eq_true rfl) ⟨Nat.zero_le _, Nat.zero_le _⟩ dX7_setOut_173 ?_ rfl
                              refine lv_if_eq (tgt := 237) hx hb dX7_setOut_176 (by decide) (fun c85 => ?_) (fun c85 => ?_)
                              · refine lv_iinc (v := ((nI k80) + 1)) (lv' := [(7, .int ((nI k80) + 1)), (8, .int (leM (crI (crO Lz p1 (muM Lx p1 0) (muM Lx p1 2) nl k76) (muM Lx p1 0) (muM Lx p1 2) (nI k76) k80) (nI k80) 5)), (6, .int (nI k76)), (5, .int (nI t)), (4, .int (othM Lx (muM Lx p1 0) (muM Lx p1 2))), (3, .int (muM Lx p1 2)), (2, .int (muM Lx p1 0)), (0, .ref (Ax 0)), (1, .int p1)]) hx hb dX7_setOut_237 hl (k := 1) rfl rfl (by decide) rfl (fun ls hl => ?_)
                                refine lv_goto (tgt := 134) hx hb dX7_setOut_240 (by decide) ?_
                                exact ih80 (k80 + 1) (by omega) _ (nI_1 k80) _ (by (rw [crI, if_neg c83, if_pos c84, if_pos c85]; first | done | rfl)) _ _ hP hD hS ls (lv_sub hl [0, 2, 3, 4, 5, 6, 7, 8] rfl)
                              · refine lv_aload_n hx hb dX7_setOut_179 rfl (lv_at hl 7 rfl) ?_
                                refine lv_iload hx hb dX7_setOut_180 (lv_at hl 0 rfl) ?_
                                refine lv_iconst (v := 2) hx hb dX7_setOut_182 (by decide) ?_
                                refine kVp ⟨hx, hb, hml, hown, hts⟩ (c_X7_mu l D Ax th ns fog nr nm nl (crI (crO Lz p1 (muM Lx p1 0) (muM Lx p1 2) nl k76) (muM Lx p1 0) (muM Lx p1 2) (nI k76) k80) (leM (crI (crO Lz p1 (muM Lx p1 0) (muM Lx p1 2) nl k76) (muM Lx p1 0) (muM Lx p1 2) (nI k76) k80) (nI k80) 5) 2 (ixm (okW (okS_crI _ (okS_crO _ hz)) (vd_k (by omega)) c83) b12 2 (by decide))) (cwV 2 hts gX7_setOut_X7_mu rfl rfl rfl (by decide +kernel) ⟨Nat.le_of_ble_eq_true rfl, Nat.le_of_ble_eq_true rfl⟩) hK hN hP hD Sb.self 7 0 rfl rfl rfl hl.1 (Nat.le_of_ble_eq_true rfl) ⟨Nat.zero_le _, Nat.zero_le _⟩ dX7_setOut_183 ?_ rfl
                                refine lv_iload_n hx hb dX7_setOut_186 rfl (lv_at hl 5 rfl) ?_
                                refine lv_icmp_eq (tgt := 193) hx hb dX7_setOut_187 (by decide) (fun c86 => ?_) (fun c86 => ?_)
                                · refine lv_aload_n hx hb dX7_setOut_193 rfl (lv_at hl 7 rfl) ?_
                                  refine lv_iload hx hb dX7_setOut_194 (lv_at hl 2 rfl) ?_
                                  refine lv_iconst (v := 0) hx hb dX7_setOut_196 (by decide) ?_
                                  refine kVp ⟨hx, hb, hml, hown, hts⟩ (c_X7_le l D Ax th ns fog nr nm nl (crI (crO Lz p1 (muM Lx p1 0) (muM Lx p1 2) nl k76) (muM Lx p1 0) (muM Lx p1 2) (nI k76) k80) (nI k76) 0 (ixl (vd_k (by omega)) b60 0 (by decide))) (cwV 2 hts gX7_setOut_X7_le rfl rfl rfl (by decide +kernel) ⟨Nat.le_of_ble_eq_true rfl, Nat.le_of_ble_eq_true rfl⟩) hK hN hP hD Sb.self 7 0 rfl rfl rfl hl.1 (Nat.le_of_ble_eq_true rfl) ⟨Nat.zero_le _, Nat.zero_le _⟩ dX7_setOut_197 ?_ rfl
                                  refine lv_aload_n hx hb dX7_setOut_200 rfl (lv_at hl 7 rfl) ?_
                                  refine lv_iload hx hb dX7_setOut_201 (lv_at hl 1 rfl) ?_
                                  refine lv_iconst (v := 1) hx hb dX7_setOut_203 (by decide) ?_
                                  refine kVp ⟨hx, hb, hml, hown, hts⟩ (c_X7_le l D Ax th ns fog nr nm nl (crI (crO Lz p1 (muM Lx p1 0) (muM Lx p1 2) nl k76) (muM Lx p1 0) (muM Lx p1 2) (nI k76) k80) (nI k80) 1 (ixl (vd_k (by omega)) b60 1 (by decide))) (cwV 2 hts gX7_setOut_X7_le rfl rfl rfl (by decide +kernel) ⟨Nat.le_of_ble_eq_true rfl, Nat.le_of_ble_eq_true rfl⟩) hK hN hP hD Sb.self 7 0 rfl rfl rfl hl.1 (Nat.le_of_ble_eq_true rfl) ⟨Nat.zero_le _, Nat.zero_le _⟩ dX7_setOut_204 ?_ rfl
                                  refine lv_icmp_ne (tgt := 237) hx hb dX7_setOut_207 (by decide) (fun c87 => ?_) (fun c87 => ?_)
                                  · refine lv_iinc (v := ((nI k80) + 1)) (lv' := [(7, .int ((nI k80) + 1)), (8, .int (leM (crI (crO Lz p1 (muM Lx p1 0) (muM Lx p1 2) nl k76) (muM Lx p1 0) (muM Lx p1 2) (nI k76) k80) (nI k80) 5)), (6, .int (nI k76)), (5, .int (nI t)), (4, .int (othM Lx (muM Lx p1 0) (muM Lx p1 2))), (3, .int (muM Lx p1 2)), (2, .int (muM Lx p1 0)), (0, .ref (Ax 0)), (1, .int p1)]) hx hb dX7_setOut_237 hl (k := 1) rfl rfl (by decide) rfl (fun ls hl => ?_)
                                    refine lv_goto (tgt := 134) hx hb dX7_setOut_240 (by decide) ?_
                                    exact ih80 (k80 + 1) (by omega) _ (nI_1 k80) _ (by (rw [crI, if_neg c83, if_pos c84, if_neg c85, if_pos c86, if_neg c87]; first | done | rfl)) _ _ hP hD hS ls (lv_sub hl [0, 2, 3, 4, 5, 6, 7, 8] rfl)
                                  · refine lv_aload_n hx hb dX7_setOut_210 rfl (lv_at hl 7 rfl) ?_
                                    refine lv_iload hx hb dX7_setOut_211 (lv_at hl 1 rfl) ?_
                                    refine lv_iconst (v := 0) hx hb dX7_setOut_213 (by decide) ?_
                                    refine kVp ⟨hx, hb, hml, hown, hts⟩ (c_X7_le l D Ax th ns fog nr nm nl (crI (crO Lz p1 (muM Lx p1 0) (muM Lx p1 2) nl k76) (muM Lx p1 0) (muM Lx p1 2) (nI k76) k80) (nI k80) 0 (ixl (vd_k (by omega)) b60 0 (by decide))) (cwV 2 hts gX7_setOut_X7_le rfl rfl rfl (by decide +kernel) ⟨Nat.le_of_ble_eq_true rfl, Nat.le_of_ble_eq_true rfl⟩) hK hN hP hD Sb.self 7 0 rfl rfl rfl hl.1 (Nat.le_of_ble_eq_true rfl) ⟨Nat.zero_le _, Nat.zero_le _⟩ dX7_setOut_214 ?_ rfl
                                    refine lv_aload_n hx hb dX7_setOut_217 rfl (lv_at hl 7 rfl) ?_
                                    refine lv_iload hx hb dX7_setOut_218 (lv_at hl 2 rfl) ?_
                                    refine lv_iconst (v := 1) hx hb dX7_setOut_220 (by decide) ?_
                                    refine kVp ⟨hx, hb, hml, hown, hts⟩ (c_X7_le l D Ax th ns fog nr nm nl (crI (crO Lz p1 (muM Lx p1 0) (muM Lx p1 2) nl k76) (muM Lx p1 0) (muM Lx p1 2) (nI k76) k80) (nI k76) 1 (ixl (vd_k (by omega)) b60 1 (by decide))) (cwV 2 hts gX7_setOut_X7_le rfl rfl rfl (by decide +kernel) ⟨Nat.le_of_ble_eq_true rfl, Nat.le_of_ble_eq_true rfl⟩) hK hN hP hD Sb.self 7 0 rfl rfl rfl hl.1 (Nat.le_of_ble_eq_true rfl) ⟨Nat.zero_le _, Nat.zero_le _⟩ dX7_setOut_221 ?_ rfl
                                    refine lv_icmp_ne (tgt := 237) hx hb dX7_setOut_224 (by decide) (fun c88 => ?_) (fun c88 => ?_)
                                    · refine lv_iinc (v := ((nI k80) + 1)) (lv' := [(7, .int ((nI k80) + 1)), (8, .int (leM (crI (crO Lz p1 (muM Lx p1 0) (muM Lx p1 2) nl k76) (muM Lx p1 0) (muM Lx p1 2) (nI k76) k80) (nI k80) 5)), (6, .int (nI k76)), (5, .int (nI t)), (4, .int (othM Lx (muM Lx p1 0) (muM Lx p1 2))), (3, .int (muM Lx p1 2)), (2, .int (muM Lx p1 0)), (0, .ref (Ax 0)), (1, .int p1)]) hx hb dX7_setOut_237 hl (k := 1) rfl rfl (by decide) rfl (fun ls hl => ?_)
                                      refine lv_goto (tgt := 134) hx hb dX7_setOut_240 (by decide) ?_
                                      exact ih80 (k80 + 1) (by omega) _ (nI_1 k80) _ (by (rw [crI, if_neg c83, if_pos c84, if_neg c85, if_pos c86, if_pos c87, if_neg c88]; first | done | rfl)) _ _ hP hD hS ls (lv_sub hl [0, 2, 3, 4, 5, 6, 7, 8] rfl)
                                    · refine lv_aload_n hx hb dX7_setOut_227 rfl (lv_at hl 7 rfl) ?_
                                      refine va_get (D := D.1) (ci := 7) (v := .ref (Ax 6)) (C := RX7) (T := TX7) (N := 14) hx hb hts hinX7 hown hK hP 0 rfl rfl 11 (by decide) (hts (.fieldLink RX7 25 "MountainPostModel" "numbers" "[I") (List.mem_of_getElem? (i := 2) rfl)) (fun _ h9 => h9) rfl dX7_setOut_228 ?_
                                      refine lv_iconst (v := 1) hx hb dX7_setOut_231 (by decide) ?_
                                      refine lv_dup2_11 hx hb dX7_setOut_232 rfl rfl ?_
                                      refine va_iald (D := D.1) hx hb hK hP 6 0 rfl rfl (show vp_in (nI 1) 2 from vp_in_nI (by decide) (by decide)) dX7_setOut_233 ?_
                                      rw [show (((crI (crO Lz p1 (muM Lx p1 0) (muM Lx p1 2) nl k76) (muM Lx p1 0) (muM Lx p1 2) (nI k76) k80) 5) (1 : Int32).toNatClampNeg) = (rg 2 ((crI (crO Lz p1 (muM Lx p1 0) (muM Lx p1 2) nl k76) (muM Lx p1 0) (muM Lx p1 2) (nI k76) k80) 5) (1 : Int32)) from (rg_vp (show vp_in (nI 1) 2 from vp_in_nI (by decide) (by decide))).symm]
                                      refine lv_iconst (v := 1) hx hb dX7_setOut_234 (by decide) ?_
                                      refine lv_iadd hx hb dX7_setOut_235 ?_
                                      refine va_iast (D := D.1) hx hb hK hP hD hS 6 0 rfl rfl (show vp_in (nI 1) 2 from vp_in_nI (by decide) (by decide)) dX7_setOut_236 (fun H locs hP hD hS => ?_)
                                      have hP : va_P D.1 vwCl (wMod D Ax th ns fog nr nm nl (sr (crI (crO Lz p1 (muM Lx p1 0) (muM Lx p1 2) nl k76) (muM Lx p1 0) (muM Lx p1 2) (nI k76) k80) 5 (upd ((crI (crO Lz p1 (muM Lx p1 0) (muM Lx p1 2) nl k76) (muM Lx p1 0) (muM Lx p1 2) (nI k76) k80) 5) (1 : Int32).toNatClampNeg ((rg 2 ((crI (crO Lz p1 (muM Lx p1 0) (muM Lx p1 2) nl k76) (muM Lx p1 0) (muM Lx p1 2) (nI k76) k80) 5) (1 : Int32)) + 1)))) H := hP
                                      have hD : va_D A0 (wMod D Ax th ns fog nr nm nl (sr (crI (crO Lz p1 (muM Lx p1 0) (muM Lx p1 2) nl k76) (muM Lx p1 0) (muM Lx p1 2) (nI k76) k80) 5 (upd ((crI (crO Lz p1 (muM Lx p1 0) (muM Lx p1 2) nl k76) (muM Lx p1 0) (muM Lx p1 2) (nI k76) k80) 5) (1 : Int32).toNatClampNeg ((rg 2 ((crI (crO Lz p1 (muM Lx p1 0) (muM Lx p1 2) nl k76) (muM Lx p1 0) (muM Lx p1 2) (nI k76) k80) 5) (1 : Int32)) + 1)))) := hD
                                      rw [← rs_vp (n := 2) (f := ((crI (crO Lz p1 (muM Lx p1 0) (muM Lx p1 2) nl k76) (muM Lx p1 0) (muM Lx p1 2) (nI k76) k80) 5)) (x := (1 : Int32)) (v := ((rg 2 ((crI (crO Lz p1 (muM Lx p1 0) (muM Lx p1 2) nl k76) (muM Lx p1 0) (muM Lx p1 2) (nI k76) k80) 5) (1 : Int32)) + 1)) (show vp_in (nI 1) 2 from vp_in_nI (by decide) (by decide))] at hP hD
                                      refine lv_iinc (v := ((nI k80) + 1)) (lv' := [(7, .int ((nI k80) + 1)), (8, .int (leM (crI (crO Lz p1 (muM Lx p1 0) (muM Lx p1 2) nl k76) (muM Lx p1 0) (muM Lx p1 2) (nI k76) k80) (nI k80) 5)), (6, .int (nI k76)), (5, .int (nI t)), (4, .int (othM Lx (muM Lx p1 0) (muM Lx p1 2))), (3, .int (muM Lx p1 2)), (2, .int (muM Lx p1 0)), (0, .ref (Ax 0)), (1, .int p1)]) hx hb dX7_setOut_237 hl (k := 1) rfl rfl (by decide) rfl (fun ls hl => ?_)
                                      refine lv_goto (tgt := 134) hx hb dX7_setOut_240 (by decide) ?_
                                      exact ih80 (k80 + 1) (by omega) _ (nI_1 k80) _ (by (rw [crI, if_neg c83, if_pos c84, if_neg c85, if_pos c86, if_pos c87, if_pos c88]; first | done | rfl)) _ _ hP hD hS ls (lv_sub hl [0, 2, 3, 4, 5, 6, 7, 8] rfl)
                                · refine lv_goto (tgt := 237) hx hb dX7_setOut_190 (by decide) ?_
                                  refine lv_iinc (v := ((nI k80) + 1)) (lv' := [(7, .int ((nI k80) + 1)), (8, .int (leM (crI (crO Lz p1 (muM Lx p1 0) (muM Lx p1 2) nl k76) (muM Lx p1 0) (muM Lx p1 2) (nI k76) k80) (nI k80) 5)), (6, .int (nI k76)), (5, .int (nI t)), (4, .int (othM Lx (muM Lx p1 0) (muM Lx p1 2))), (3, .int (muM Lx p1 2)), (2, .int (muM Lx p1 0)), (0, .ref (Ax 0)), (1, .int p1)]) hx hb dX7_setOut_237 hl (k := 1) rfl rfl (by decide) rfl (fun ls hl => ?_)
                                  refine lv_goto (tgt := 134) hx hb dX7_setOut_240 (by decide) ?_
                                  exact ih80 (k80 + 1) (by omega) _ (nI_1 k80) _ (by (rw [crI, if_neg c83, if_pos c84, if_neg c85, if_neg c86]; first | done | rfl)) _ _ hP hD hS ls (lv_sub hl [0, 2, 3, 4, 5, 6, 7, 8] rfl)
                    exact lp80 nl 0 (by omega) _ nI_0.symm _ rfl _ _ hP hD hS ls (lv_sub hl [0, 1, 2, 3, 4, 5, 6, 7] rfl)
                  · refine lv_goto (tgt := 243) hx hb dX7_setOut_128 (by decide) ?_
                    refine lv_iinc (v := ((nI k76) + 1)) (lv' := [(6, .int ((nI k76) + 1)), (5, .int (nI t)), (4, .int (othM Lx (muM Lx p1 0) (muM Lx p1 2))), (3, .int (muM Lx p1 2)), (2, .int (muM Lx p1 0)), (0, .ref (Ax 0)), (1, .int p1)]) hx hb dX7_setOut_243 hl (k := 0) rfl rfl (by decide) rfl (fun ls hl => ?_)
                    refine lv_goto (tgt := 108) hx hb dX7_setOut_246 (by decide) ?_
                    exact ih76 (k76 + 1) (by omega) _ (nI_1 k76) _ (by (rw [crO, if_neg c79]; first | done | rfl)) _ _ hP hD hS ls (lv_sub hl [0, 1, 2, 3, 4, 5, 6] rfl)
            exact lp76 nl 0 (by omega) _ nI_0.symm _ rfl _ _ hP hD hS ls (lv_sub hl [0, 1, 2, 3, 4, 5, 6] rfl)
          · exact eWv hx hb hr hlocks dX7_setOut_104 hS hP (by (rw [soM, ← hT, so2, if_pos c61, if_pos c75]; first | done | rfl))
      · refine lv_iload hx hb dX7_setOut_39 (lv_at hl 1 rfl) ?_
        refine lv_aload_n hx hb dX7_setOut_41 rfl (lv_at hl 5 rfl) ?_
        refine lv_iload_n hx hb dX7_setOut_42 rfl (lv_at hl 6 rfl) ?_
        refine lv_iconst (v := 1) hx hb dX7_setOut_43 (by decide) ?_
        refine kVp ⟨hx, hb, hml, hown, hts⟩ (c_X7_mu l D Ax th ns fog nr nm nl Lz p1 1 (ixm (by assumption) b12 1 (by decide))) (cwV 2 hts gX7_setOut_X7_mu rfl rfl rfl (by decide +kernel) ⟨Nat.le_of_ble_eq_true rfl, Nat.le_of_ble_eq_true rfl⟩) hK hN hP hD Sb.self 7 0 rfl rfl rfl hl.1 (Nat.le_of_ble_eq_true rfl) ⟨Nat.zero_le _, Nat.zero_le _⟩ dX7_setOut_44 ?_ rfl
        rw [show muM Lz p1 1 = (nI (muM Lx p1 1).toNatClampNeg) from by rw [show muM Lz p1 1 = muM Lx p1 1 from by unfold muM; rw [h3]]; exact nI_cl (hS9.2.1 _ hvm).2.2]
        refine lv_icmp_ge (tgt := 88) hx hb dX7_setOut_47 (by decide) (fun c89 => ?_) (fun c89 => ?_)
        · exact (upS hk (cl_lt (hS9.2.1 _ hvm).2.2) c89).elim
        · refine lv_aload_n hx hb dX7_setOut_50 rfl (lv_at hl 5 rfl) ?_
          refine lv_iload hx hb dX7_setOut_51 (lv_at hl 0 rfl) ?_
          refine lv_iconst (v := 3) hx hb dX7_setOut_53 (by decide) ?_
          refine lv_iconst (v := 1) hx hb dX7_setOut_54 (by decide) ?_
          refine kVw ⟨hx, hb, hml, hown, hts⟩ (c_X7_setLe l D Ax th ns fog nr nm nl Lz (nxF Lz (muM Lx p1 2) (muM Lx p1 0) nl) 3 1 (ixl (nxF_in c60 (Nat.le_refl _)) b60 3 (by decide))) (cwV 3 hts gX7_setOut_X7_setLe rfl rfl rfl (by decide +kernel) ⟨Nat.le_of_ble_eq_true rfl, Nat.le_of_ble_eq_true rfl⟩) hK hN hP hD hS frsMod 7 0 rfl rfl rfl hl.1 (Nat.le_of_ble_eq_true rfl) ⟨Nat.zero_le _, Nat.zero_le _⟩ dX7_setOut_55 (fun H locs hP hD hS => ?_) rfl
          have hP : va_P D.1 vwCl (wMod D Ax th ns fog nr nm nl (seM Lz (nxF Lz (muM Lx p1 2) (muM Lx p1 0) nl) 3 1)) H := hP
          have hD : va_D A0 (wMod D Ax th ns fog nr nm nl (seM Lz (nxF Lz (muM Lx p1 2) (muM Lx p1 0) nl) 3 1)) := hD
          refine W.eq (g2 := F0 m 58 ls []) rfl ?_
          refine lv_aload_n hx hb dX7_setOut_58 rfl (lv_at hl 5 rfl) ?_
          refine lv_iload hx hb dX7_setOut_59 (lv_at hl 0 rfl) ?_
          refine lv_iconst (v := 5) hx hb dX7_setOut_61 (by decide) ?_
          refine lv_iload_n hx hb dX7_setOut_62 rfl (lv_at hl 6 rfl) ?_
          refine kVw ⟨hx, hb, hml, hown, hts⟩ (c_X7_setLe l D Ax th ns fog nr nm nl (seM Lz (nxF Lz (muM Lx p1 2) (muM Lx p1 0) nl) 3 1) (nxF Lz (muM Lx p1 2) (muM Lx p1 0) nl) 5 p1 (ixl (nxF_in c60 (Nat.le_refl _)) b60 5 (by decide))) (cwV 3 hts gX7_setOut_X7_setLe rfl rfl rfl (by decide +kernel) ⟨Nat.le_of_ble_eq_true rfl, Nat.le_of_ble_eq_true rfl⟩) hK hN hP hD hS frsMod 7 0 rfl rfl rfl hl.1 (Nat.le_of_ble_eq_true rfl) ⟨Nat.zero_le _, Nat.zero_le _⟩ dX7_setOut_63 (fun H locs hP hD hS => ?_) rfl
          have hP : va_P D.1 vwCl (wMod D Ax th ns fog nr nm nl (seM (seM Lz (nxF Lz (muM Lx p1 2) (muM Lx p1 0) nl) 3 1) (nxF Lz (muM Lx p1 2) (muM Lx p1 0) nl) 5 p1)) H := hP
          have hD : va_D A0 (wMod D Ax th ns fog nr nm nl (seM (seM Lz (nxF Lz (muM Lx p1 2) (muM Lx p1 0) nl) 3 1) (nxF Lz (muM Lx p1 2) (muM Lx p1 0) nl) 5 p1)) := hD
          refine W.eq (g2 := F0 m 66 ls []) rfl ?_
          refine lv_aload_n hx hb dX7_setOut_66 rfl (lv_at hl 5 rfl) ?_
          refine lv_iload hx hb dX7_setOut_67 (lv_at hl 0 rfl) ?_
          refine lv_iconst (v := 4) hx hb dX7_setOut_69 (by decide) ?_
          refine lv_iconst (v := (-1)) hx hb dX7_setOut_70 (by decide) ?_
          refine kVw ⟨hx, hb, hml, hown, hts⟩ (c_X7_setLe l D Ax th ns fog nr nm nl (seM (seM Lz (nxF Lz (muM Lx p1 2) (muM Lx p1 0) nl) 3 1) (nxF Lz (muM Lx p1 2) (muM Lx p1 0) nl) 5 p1) (nxF Lz (muM Lx p1 2) (muM Lx p1 0) nl) 4 (-1) (ixl (nxF_in c60 (Nat.le_refl _)) b60 4 (by decide))) (cwV 3 hts gX7_setOut_X7_setLe rfl rfl rfl (by decide +kernel) ⟨Nat.le_of_ble_eq_true rfl, Nat.le_of_ble_eq_true rfl⟩) hK hN hP hD hS frsMod 7 0 rfl rfl rfl hl.1 (Nat.le_of_ble_eq_true rfl) ⟨Nat.zero_le _, Nat.zero_le _⟩ dX7_setOut_71 (fun H locs hP hD hS => ?_) rfl
          have hP : va_P D.1 vwCl (wMod D Ax th ns fog nr nm nl (seM (seM (seM Lz (nxF Lz (muM Lx p1 2) (muM Lx p1 0) nl) 3 1) (nxF Lz (muM Lx p1 2) (muM Lx p1 0) nl) 5 p1) (nxF Lz (muM Lx p1 2) (muM Lx p1 0) nl) 4 (-1))) H := hP
          have hD : va_D A0 (wMod D Ax th ns fog nr nm nl (seM (seM (seM Lz (nxF Lz (muM Lx p1 2) (muM Lx p1 0) nl) 3 1) (nxF Lz (muM Lx p1 2) (muM Lx p1 0) nl) 5 p1) (nxF Lz (muM Lx p1 2) (muM Lx p1 0) nl) 4 (-1))) := hD
          refine W.eq (g2 := F0 m 74 ls []) rfl ?_
          refine lv_iinc (v := ((nI t) + 1)) (lv' := [(5, .int ((nI t) + 1)), (6, .int (nxF Lz (muM Lx p1 2) (muM Lx p1 0) nl)), (4, .int (othM Lx (muM Lx p1 0) (muM Lx p1 2))), (3, .int (muM Lx p1 2)), (2, .int (muM Lx p1 0)), (0, .ref (Ax 0)), (1, .int p1)]) hx hb dX7_setOut_74 hl (k := 1) rfl rfl (by decide) rfl (fun ls hl => ?_)
          refine lv_aload_n hx hb dX7_setOut_77 rfl (lv_at hl 5 rfl) ?_
          refine lv_iload_n hx hb dX7_setOut_78 rfl (lv_at hl 3 rfl) ?_
          refine lv_iload_n hx hb dX7_setOut_79 rfl (lv_at hl 4 rfl) ?_
          refine kVp ⟨hx, hb, hml, hown, hts⟩ (c_X7_next l D Ax th ns fog nr nm nl (seM (seM (seM Lz (nxF Lz (muM Lx p1 2) (muM Lx p1 0) nl) 3 1) (nxF Lz (muM Lx p1 2) (muM Lx p1 0) nl) 5 p1) (nxF Lz (muM Lx p1 2) (muM Lx p1 0) nl) 4 (-1)) (muM Lx p1 2) (muM Lx p1 0) (by assumption) (by assumption) ((hS9.2.1 _ hvm).2.1) (okS_g (okS_take (nxF_in c60 (Nat.le_refl _)) hvm b60 hz))) (cwV 2 hts gX7_setOut_X7_next rfl rfl rfl (by decide +kernel) ⟨Nat.le_of_ble_eq_true rfl, Nat.le_of_ble_eq_true rfl⟩) hK hN hP hD Sb.self 7 0 rfl rfl rfl hl.1 (Nat.le_of_ble_eq_true rfl) ⟨Nat.zero_le _, Nat.zero_le _⟩ dX7_setOut_80 ?_ rfl
          refine lv_istore (lv' := [(6, .int (nxF (seM (seM (seM Lz (nxF Lz (muM Lx p1 2) (muM Lx p1 0) nl) 3 1) (nxF Lz (muM Lx p1 2) (muM Lx p1 0) nl) 5 p1) (nxF Lz (muM Lx p1 2) (muM Lx p1 0) nl) 4 (-1)) (muM Lx p1 2) (muM Lx p1 0) nl)), (5, .int ((nI t) + 1)), (4, .int (othM Lx (muM Lx p1 0) (muM Lx p1 2))), (3, .int (muM Lx p1 2)), (2, .int (muM Lx p1 0)), (0, .ref (Ax 0)), (1, .int p1)]) hx hb dX7_setOut_83 hl (by decide) rfl (fun ls hl => ?_)
          refine lv_goto (tgt := 33) hx hb dX7_setOut_85 (by decide) ?_
          exact ih1 (t + 1) _ (by omega) (okS_take (nxF_in c60 (Nat.le_refl _)) hvm b60 hz) h3 (by rw [← hres, tkF, if_neg c60]) _ (nI_1 t) _ _ hP hD hS ls (lv_sub hl [0, 1, 2, 3, 4, 5, 6] rfl)
  exact lp1 ((muM Lx p1 1).toNatClampNeg) 0 Lx (by omega) hS9 rfl rfl _ nI_0.symm _ _ hP hD hS ls (lv_sub hl [0, 1, 2, 3, 4, 5, 6] rfl)
