set_option maxHeartbeats 4000000 in
set_option maxRecDepth 100000 in
theorem c_X7_hourOn (l : Launch) (D : GG) (Ax : Nat → Nat) (th : Int32) (ns : Nat) (fog : Int32) (nr : Nat) (nm : Nat) (nl : Nat) (Lx : Nat → Nat → Int32) (b10 : ns ≤ 10) (b15 : nr ≤ 15) (b12 : nm ≤ 12) (b60 : nl ≤ 60) (hS9 : okS Lx ns nr nm nl) : Met l yX7_hourOn wsX7_hourOn ({ frames := 5, cells := 0, slots := 0, locals := 118 } : Room) (va_Pc [.ref (Ax 0)] (wd D (wMod D Ax th ns fog nr nm nl Lx))) (QW D (some (.int ((hr1 Lx ns nr nm nl).2))) (wMod D Ax th ns fog nr nm nl (hoM Lx ns fog nr nm nl)) (own (wMod D Ax th ns fog nr nm nl Lx))) 0 0 (own (wMod D Ax th ns fog nr nm nl Lx)) := by
  refine Met.ofW (cc := cX7_hourOn) (maxL := 4) (ret := (some .int)) (by decide) rfl ?_
  intro p e s m args below meth c s₁ B hml hv
  obtain ⟨rfl, hP, hK, hD, hN⟩ := hv
  have hx := B.exec
  have hb := B.bytes
  have hr := B.returns
  have hts := atoms_spec (ws := wsX7_hourOn) B.pre
  have hown : s.vm.findClass RX7 = some m.cls := findClass_of_methodNamed B.named
  have hlocks := B.notSynchronized
  have hinX7 : ∀ w ∈ u_ws RX7 TX7 14, w ∈ wsX7_hourOn := by decide +kernel
  have hS : va_S (own (wMod D Ax th ns fog nr nm nl Lx)) s.heap s.heap [] := va_S.rf
  have hD : va_D (own (wMod D Ax th ns fog nr nm nl Lx)) (wMod D Ax th ns fog nr nm nl Lx) := toOwn hD
  generalize hAe : own (wMod D Ax th ns fog nr nm nl Lx) = A0 at hD hS ⊢
  have hl := lv_entry ([.ref (Ax 0)]) (n := 4) (Nat.le_of_ble_eq_true rfl)
  rw [lg_entry_eq]
  generalize (lg_sl ([.ref (Ax 0)]) ++ List.replicate (4 - (lg_sl ([.ref (Ax 0)])).length) Slot.unset).toArray = ls at hl ⊢
  have hl : lv_has ls 4 [(0, .ref (Ax 0))] := hl
  refine lv_iconst (v := 0) hx hb dX7_hourOn_0 (by decide) ?_
  refine lv_istore_n (lv' := [(1, .int 0), (0, .ref (Ax 0))]) hx hb dX7_hourOn_1 rfl hl (by decide) rfl (fun ls hl => ?_)
  refine lv_aload_n hx hb dX7_hourOn_2 rfl (lv_at hl 1 rfl) ?_
  refine kVw ⟨hx, hb, hml, hown, hts⟩ (c_X7_reckon l D Ax th ns fog nr nm nl Lx (by assumption) (by assumption) (by assumption) (by assumption) hS9.1) (cwV 0 hts gX7_hourOn_X7_reckon rfl rfl rfl (by decide +kernel) ⟨Nat.le_of_ble_eq_true rfl, Nat.le_of_ble_eq_true rfl⟩) hK hN hP hD hS frsMod 7 0 rfl rfl rfl hl.1 (Nat.le_of_ble_eq_true rfl) ⟨Nat.zero_le _, Nat.zero_le _⟩ dX7_hourOn_3 (fun H locs hP hD hS => ?_) rfl
  have hP : va_P D.1 vwCl (wMod D Ax th ns fog nr nm nl (rkM Lx ns nr nm)) H := hP
  have hD : va_D A0 (wMod D Ax th ns fog nr nm nl (rkM Lx ns nr nm)) := hD
  refine W.eq (g2 := F0 m 6 ls []) rfl ?_
  refine lv_iconst (v := 0) hx hb dX7_hourOn_6 (by decide) ?_
  refine lv_istore_n (lv' := [(2, .int 0), (1, .int 0), (0, .ref (Ax 0))]) hx hb dX7_hourOn_7 rfl hl (by decide) rfl (fun ls hl => ?_)
  have lp1 : ∀ (j1 : Nat) (k1 : Nat) (hk1 : k1 + j1 = nm) (x2_1 : Int32) (e2_1 : x2_1 = (nI k1)) (x1_1 : Int32) (e1_1 : x1_1 = (bmF nl (rkM Lx ns nr nm) k1).2) (yxL_1 : Nat → Nat → Int32) (eyxL_1 : yxL_1 = (bmF nl (rkM Lx ns nr nm) k1).1) (H : Heap) (locs : List Loc) (hP : va_P D.1 vwCl (wMod D Ax th ns fog nr nm nl yxL_1) H) (hD : va_D A0 (wMod D Ax th ns fog nr nm nl yxL_1)) (hS : va_S A0 s.heap H locs) (ls : Array Slot) (hl : lv_has ls 4 [(2, .int x2_1), (1, .int x1_1), (0, .ref (Ax 0))]), W p l e (headSpec wsX7_hourOn ({ frames := 5, cells := 0, slots := 0, locals := 118 } : Room)).room s m ([.ref (Ax 0)] : List Value).toArray below meth c H locs 0 0 (MQ below (QW D (some (.int ((hr1 Lx ns nr nm nl).2))) (wMod D Ax th ns fog nr nm nl (hoM Lx ns fog nr nm nl)) A0) ([.ref (Ax 0)] : List Value).toArray s 0 0 A0) (F0 m 8 ls []) := by
    intro j1
    induction j1 with
    | zero =>
      intro k1 hk1 x2_1 e2_1 x1_1 e1_1 yxL_1 eyxL_1  H locs hP hD hS ls hl
      subst e2_1 e1_1 eyxL_1
      have hkN1 : nm = k1 := (by omega)
      subst hkN1
      refine lv_iload_n hx hb dX7_hourOn_8 rfl (lv_at hl 0 rfl) ?_
      refine lv_aload_n hx hb dX7_hourOn_9 rfl (lv_at hl 2 rfl) ?_
      refine va_get (D := D.1) (ci := 7) (v := .int (nI nm)) (C := RX7) (T := TX7) (N := 14) hx hb hts hinX7 hown hK hP 0 rfl rfl 7 (by decide) (hts (.fieldLink RX7 73 "MountainPostModel" "mules" "I") (List.mem_of_getElem? (i := 1) rfl)) (fun _ h9 => h9) rfl dX7_hourOn_10 ?_
      refine lv_icmp_ge (tgt := 119) hx hb dX7_hourOn_13 (by decide) (fun c2 => ?_) (fun c2 => ?_)
      · refine lv_iconst (v := 0) hx hb dX7_hourOn_119 (by decide) ?_
        refine lv_istore_n (lv' := [(2, .int 0), (1, .int ((bmF nl (rkM Lx ns nr nm) nm).2)), (0, .ref (Ax 0))]) hx hb dX7_hourOn_120 rfl hl (by decide) rfl (fun ls hl => ?_)
        have lp3 : ∀ (j3 : Nat) (k3 : Nat) (hk3 : k3 + j3 = nl) (x2_3 : Int32) (e2_3 : x2_3 = (nI k3)) (yxL_3 : Nat → Nat → Int32) (eyxL_3 : yxL_3 = (frF (hr1 Lx ns nr nm nl).1 ns fog k3)) (H : Heap) (locs : List Loc) (hP : va_P D.1 vwCl (wMod D Ax th ns fog nr nm nl yxL_3) H) (hD : va_D A0 (wMod D Ax th ns fog nr nm nl yxL_3)) (hS : va_S A0 s.heap H locs) (ls : Array Slot) (hl : lv_has ls 4 [(2, .int x2_3), (1, .int ((bmF nl (rkM Lx ns nr nm) nm).2)), (0, .ref (Ax 0))]), W p l e (headSpec wsX7_hourOn ({ frames := 5, cells := 0, slots := 0, locals := 118 } : Room)).room s m ([.ref (Ax 0)] : List Value).toArray below meth c H locs 0 0 (MQ below (QW D (some (.int ((hr1 Lx ns nr nm nl).2))) (wMod D Ax th ns fog nr nm nl (hoM Lx ns fog nr nm nl)) A0) ([.ref (Ax 0)] : List Value).toArray s 0 0 A0) (F0 m 121 ls []) := by
          intro j3
          induction j3 with
          | zero =>
            intro k3 hk3 x2_3 e2_3 yxL_3 eyxL_3  H locs hP hD hS ls hl
            subst e2_3 eyxL_3
            have hkN3 : nl = k3 := (by omega)
            subst hkN3
            refine lv_iload_n hx hb dX7_hourOn_121 rfl (lv_at hl 0 rfl) ?_
            refine lv_aload_n hx hb dX7_hourOn_122 rfl (lv_at hl 2 rfl) ?_
            refine va_get (D := D.1) (ci := 7) (v := .int (nI nl)) (C := RX7) (T := TX7) (N := 14) hx hb hts hinX7 hown hK hP 0 rfl rfl 8 (by decide) (hts (.fieldLink RX7 48 "MountainPostModel" "letters" "I") (List.mem_of_getElem? (i := 2) rfl)) (fun _ h9 => h9) rfl dX7_hourOn_123 ?_
            refine lv_icmp_ge (tgt := 237) hx hb dX7_hourOn_126 (by decide) (fun c4 => ?_) (fun c4 => ?_)
            · refine lv_iconst (v := 0) hx hb dX7_hourOn_237 (by decide) ?_
              refine lv_istore_n (lv' := [(2, .int 0), (1, .int ((bmF nl (rkM Lx ns nr nm) nm).2)), (0, .ref (Ax 0))]) hx hb dX7_hourOn_238 rfl hl (by decide) rfl (fun ls hl => ?_)
              have lp5 : ∀ (j5 : Nat) (k5 : Nat) (hk5 : k5 + j5 = nm) (x2_5 : Int32) (e2_5 : x2_5 = (nI k5)) (yxL_5 : Nat → Nat → Int32) (eyxL_5 : yxL_5 = (sgF (frF (hr1 Lx ns nr nm nl).1 ns fog nl) nl k5)) (H : Heap) (locs : List Loc) (hP : va_P D.1 vwCl (wMod D Ax th ns fog nr nm nl yxL_5) H) (hD : va_D A0 (wMod D Ax th ns fog nr nm nl yxL_5)) (hS : va_S A0 s.heap H locs) (ls : Array Slot) (hl : lv_has ls 4 [(2, .int x2_5), (1, .int ((bmF nl (rkM Lx ns nr nm) nm).2)), (0, .ref (Ax 0))]), W p l e (headSpec wsX7_hourOn ({ frames := 5, cells := 0, slots := 0, locals := 118 } : Room)).room s m ([.ref (Ax 0)] : List Value).toArray below meth c H locs 0 0 (MQ below (QW D (some (.int ((hr1 Lx ns nr nm nl).2))) (wMod D Ax th ns fog nr nm nl (hoM Lx ns fog nr nm nl)) A0) ([.ref (Ax 0)] : List Value).toArray s 0 0 A0) (F0 m 239 ls []) := by
                intro j5
                induction j5 with
                | zero =>
                  intro k5 hk5 x2_5 e2_5 yxL_5 eyxL_5  H locs hP hD hS ls hl
                  subst e2_5 eyxL_5
                  have hkN5 : nm = k5 := (by omega)
                  subst hkN5
                  refine lv_iload_n hx hb dX7_hourOn_239 rfl (lv_at hl 0 rfl) ?_
                  refine lv_aload_n hx hb dX7_hourOn_240 rfl (lv_at hl 2 rfl) ?_
                  refine va_get (D := D.1) (ci := 7) (v := .int (nI nm)) (C := RX7) (T := TX7) (N := 14) hx hb hts hinX7 hown hK hP 0 rfl rfl 7 (by decide) (hts (.fieldLink RX7 73 "MountainPostModel" "mules" "I") (List.mem_of_getElem? (i := 1) rfl)) (fun _ h9 => h9) rfl dX7_hourOn_241 ?_
                  refine lv_icmp_ge (tgt := 267) hx hb dX7_hourOn_244 (by decide) (fun c6 => ?_) (fun c6 => ?_)
                  · refine lv_aload_n hx hb dX7_hourOn_267 rfl (lv_at hl 2 rfl) ?_
                    refine va_get (D := D.1) (ci := 7) (v := .ref (Ax 6)) (C := RX7) (T := TX7) (N := 14) hx hb hts hinX7 hown hK hP 0 rfl rfl 11 (by decide) (hts (.fieldLink RX7 25 "MountainPostModel" "numbers" "[I") (List.mem_of_getElem? (i := 3) rfl)) (fun _ h9 => h9) rfl dX7_hourOn_268 ?_
                    refine lv_iconst (v := 0) hx hb dX7_hourOn_271 (by decide) ?_
                    refine lv_dup2_11 hx hb dX7_hourOn_272 rfl rfl ?_
                    refine va_iald (D := D.1) hx hb hK hP 6 0 rfl rfl (show vp_in (nI 0) 2 from vp_in_nI (by decide) (by decide)) dX7_hourOn_273 ?_
                    rw [show (((sgF (frF (hr1 Lx ns nr nm nl).1 ns fog nl) nl nm) 5) (0 : Int32).toNatClampNeg) = (rg 2 ((sgF (frF (hr1 Lx ns nr nm nl).1 ns fog nl) nl nm) 5) (0 : Int32)) from (rg_vp (show vp_in (nI 0) 2 from vp_in_nI (by decide) (by decide))).symm]
                    refine lv_iconst (v := 1) hx hb dX7_hourOn_274 (by decide) ?_
                    refine lv_iadd hx hb dX7_hourOn_275 ?_
                    refine va_iast (D := D.1) hx hb hK hP hD hS 6 0 rfl rfl (show vp_in (nI 0) 2 from vp_in_nI (by decide) (by decide)) dX7_hourOn_276 (fun H locs hP hD hS => ?_)
                    have hP : va_P D.1 vwCl (wMod D Ax th ns fog nr nm nl (sr (sgF (frF (hr1 Lx ns nr nm nl).1 ns fog nl) nl nm) 5 (upd ((sgF (frF (hr1 Lx ns nr nm nl).1 ns fog nl) nl nm) 5) (0 : Int32).toNatClampNeg ((rg 2 ((sgF (frF (hr1 Lx ns nr nm nl).1 ns fog nl) nl nm) 5) (0 : Int32)) + 1)))) H := hP
                    have hD : va_D A0 (wMod D Ax th ns fog nr nm nl (sr (sgF (frF (hr1 Lx ns nr nm nl).1 ns fog nl) nl nm) 5 (upd ((sgF (frF (hr1 Lx ns nr nm nl).1 ns fog nl) nl nm) 5) (0 : Int32).toNatClampNeg ((rg 2 ((sgF (frF (hr1 Lx ns nr nm nl).1 ns fog nl) nl nm) 5) (0 : Int32)) + 1)))) := hD
                    rw [← rs_vp (n := 2) (f := ((sgF (frF (hr1 Lx ns nr nm nl).1 ns fog nl) nl nm) 5)) (x := (0 : Int32)) (v := ((rg 2 ((sgF (frF (hr1 Lx ns nr nm nl).1 ns fog nl) nl nm) 5) (0 : Int32)) + 1)) (show vp_in (nI 0) 2 from vp_in_nI (by decide) (by decide))] at hP hD
                    refine lv_iload_n hx hb dX7_hourOn_277 rfl (lv_at hl 1 rfl) ?_
                    exact eWi hx hb hr hlocks dX7_hourOn_278 hS hP (by rfl) (by rfl)
                  · exact (up0 rfl c6).elim
                | succ j5 ih5 =>
                  intro k5 hk5 x2_5 e2_5 yxL_5 eyxL_5  H locs hP hD hS ls hl
                  subst e2_5 eyxL_5
                  have hlt5 : k5 < nm := by omega
                  have hlt : k5 < nm := hlt5
                  refine lv_iload_n hx hb dX7_hourOn_239 rfl (lv_at hl 0 rfl) ?_
                  refine lv_aload_n hx hb dX7_hourOn_240 rfl (lv_at hl 2 rfl) ?_
                  refine va_get (D := D.1) (ci := 7) (v := .int (nI nm)) (C := RX7) (T := TX7) (N := 14) hx hb hts hinX7 hown hK hP 0 rfl rfl 7 (by decide) (hts (.fieldLink RX7 73 "MountainPostModel" "mules" "I") (List.mem_of_getElem? (i := 1) rfl)) (fun _ h9 => h9) rfl dX7_hourOn_241 ?_
                  refine lv_icmp_ge (tgt := 267) hx hb dX7_hourOn_244 (by decide) (fun c7 => ?_) (fun c7 => ?_)
                  · exact (upS hk5 (by omega) c7).elim
                  · refine lv_aload_n hx hb dX7_hourOn_247 rfl (lv_at hl 2 rfl) ?_
                    refine lv_iload_n hx hb dX7_hourOn_248 rfl (lv_at hl 0 rfl) ?_
                    refine lv_iconst (v := 3) hx hb dX7_hourOn_249 (by decide) ?_
                    refine kVp ⟨hx, hb, hml, hown, hts⟩ (c_X7_mu l D Ax th ns fog nr nm nl (sgF (frF (hr1 Lx ns nr nm nl).1 ns fog nl) nl k5) (nI k5) 3 (ixm (vd_k (by omega)) b12 3 (by decide))) (cwV 2 hts gX7_hourOn_X7_mu rfl rfl rfl (by decide +kernel) ⟨Nat.le_of_ble_eq_true rfl, Nat.le_of_ble_eq_true rfl⟩) hK hN hP hD Sb.self 7 0 rfl rfl rfl hl.1 (Nat.le_of_ble_eq_true rfl) ⟨Nat.zero_le _, Nat.zero_le _⟩ dX7_hourOn_250 ?_ rfl
                    refine lv_if_ne (tgt := 261) hx hb dX7_hourOn_253 (by decide) (fun c8 => ?_) (fun c8 => ?_)
                    · refine lv_iinc (v := ((nI k5) + 1)) (lv' := [(2, .int ((nI k5) + 1)), (1, .int ((bmF nl (rkM Lx ns nr nm) nm).2)), (0, .ref (Ax 0))]) hx hb dX7_hourOn_261 hl (k := 0) rfl rfl (by decide) rfl (fun ls hl => ?_)
                      refine lv_goto (tgt := 239) hx hb dX7_hourOn_264 (by decide) ?_
                      exact ih5 (k5 + 1) (by omega) _ (nI_1 k5) _ (by (rw [sgF, if_neg c8]; first | done | rfl)) _ _ hP hD hS ls (lv_sub hl [0, 1, 2] rfl)
                    · refine lv_aload_n hx hb dX7_hourOn_256 rfl (lv_at hl 2 rfl) ?_
                      refine lv_iload_n hx hb dX7_hourOn_257 rfl (lv_at hl 0 rfl) ?_
                      refine kVw ⟨hx, hb, hml, hown, hts⟩ (c_X7_setOut l D Ax th ns fog nr nm nl (sgF (frF (hr1 Lx ns nr nm nl).1 ns fog nl) nl k5) (nI k5) (by assumption) (by assumption) (by assumption) (by assumption) (okS_sg b12 b60 (okS_frF b60 (okS_bm b12 b60 (okS_rk hS9) nm (Nat.le_refl _)) nl (Nat.le_refl _)) _ (by omega)) (vd_k (by omega))) (cwV 1 hts gX7_hourOn_X7_setOut rfl rfl rfl (by decide +kernel) ⟨Nat.le_of_ble_eq_true rfl, Nat.le_of_ble_eq_true rfl⟩) hK hN hP hD hS frsMod 7 0 rfl rfl rfl hl.1 (Nat.le_of_ble_eq_true rfl) ⟨Nat.zero_le _, Nat.zero_le _⟩ dX7_hourOn_258 (fun H locs hP hD hS => ?_) rfl
                      have hP : va_P D.1 vwCl (wMod D Ax th ns fog nr nm nl (soM (sgF (frF (hr1 Lx ns nr nm nl).1 ns fog nl) nl k5) (nI k5) nl)) H := hP
                      have hD : va_D A0 (wMod D Ax th ns fog nr nm nl (soM (sgF (frF (hr1 Lx ns nr nm nl).1 ns fog nl) nl k5) (nI k5) nl)) := hD
                      refine W.eq (g2 := F0 m 261 ls []) rfl ?_
                      refine lv_iinc (v := ((nI k5) + 1)) (lv' := [(2, .int ((nI k5) + 1)), (1, .int ((bmF nl (rkM Lx ns nr nm) nm).2)), (0, .ref (Ax 0))]) hx hb dX7_hourOn_261 hl (k := 0) rfl rfl (by decide) rfl (fun ls hl => ?_)
                      refine lv_goto (tgt := 239) hx hb dX7_hourOn_264 (by decide) ?_
                      exact ih5 (k5 + 1) (by omega) _ (nI_1 k5) _ (by (rw [sgF, if_pos c8]; first | done | rfl)) _ _ hP hD hS ls (lv_sub hl [0, 1, 2] rfl)
              exact lp5 nm 0 (by omega) _ nI_0.symm _ rfl _ _ hP hD hS ls (lv_sub hl [0, 1, 2] rfl)
            · exact (up0 rfl c4).elim
          | succ j3 ih3 =>
            intro k3 hk3 x2_3 e2_3 yxL_3 eyxL_3  H locs hP hD hS ls hl
            subst e2_3 eyxL_3
            have hlt3 : k3 < nl := by omega
            have hlt : k3 < nl := hlt3
            refine lv_iload_n hx hb dX7_hourOn_121 rfl (lv_at hl 0 rfl) ?_
            refine lv_aload_n hx hb dX7_hourOn_122 rfl (lv_at hl 2 rfl) ?_
            refine va_get (D := D.1) (ci := 7) (v := .int (nI nl)) (C := RX7) (T := TX7) (N := 14) hx hb hts hinX7 hown hK hP 0 rfl rfl 8 (by decide) (hts (.fieldLink RX7 48 "MountainPostModel" "letters" "I") (List.mem_of_getElem? (i := 2) rfl)) (fun _ h9 => h9) rfl dX7_hourOn_123 ?_
            refine lv_icmp_ge (tgt := 237) hx hb dX7_hourOn_126 (by decide) (fun c9 => ?_) (fun c9 => ?_)
            · exact (upS hk3 (by omega) c9).elim
            · refine lv_aload_n hx hb dX7_hourOn_129 rfl (lv_at hl 2 rfl) ?_
              refine lv_iload_n hx hb dX7_hourOn_130 rfl (lv_at hl 0 rfl) ?_
              refine lv_bipush (v := 6) hx hb dX7_hourOn_131 (by decide) ?_
              refine kVp ⟨hx, hb, hml, hown, hts⟩ (c_X7_le l D Ax th ns fog nr nm nl (frF (hr1 Lx ns nr nm nl).1 ns fog k3) (nI k3) 6 (ixl (vd_k (by omega)) b60 6 (by decide))) (cwV 2 hts gX7_hourOn_X7_le rfl rfl rfl (by decide +kernel) ⟨Nat.le_of_ble_eq_true rfl, Nat.le_of_ble_eq_true rfl⟩) hK hN hP hD Sb.self 7 0 rfl rfl rfl hl.1 (Nat.le_of_ble_eq_true rfl) ⟨Nat.zero_le _, Nat.zero_le _⟩ dX7_hourOn_133 ?_ rfl
              refine lv_if_ne (tgt := 142) hx hb dX7_hourOn_136 (by decide) (fun c10 => ?_) (fun c10 => ?_)
              · refine lv_aload_n hx hb dX7_hourOn_142 rfl (lv_at hl 2 rfl) ?_
                refine lv_iload_n hx hb dX7_hourOn_143 rfl (lv_at hl 0 rfl) ?_
                refine lv_bipush (v := 10) hx hb dX7_hourOn_144 (by decide) ?_
                refine lv_aload_n hx hb dX7_hourOn_146 rfl (lv_at hl 2 rfl) ?_
                refine lv_aload_n hx hb dX7_hourOn_147 rfl (lv_at hl 2 rfl) ?_
                refine lv_iload_n hx hb dX7_hourOn_148 rfl (lv_at hl 0 rfl) ?_
                refine lv_bipush (v := 10) hx hb dX7_hourOn_149 (by decide) ?_
                refine kVp ⟨hx, hb, hml, hown, hts⟩ (c_X7_le l D Ax th ns fog nr nm nl (frF (hr1 Lx ns nr nm nl).1 ns fog k3) (nI k3) 10 (ixl (vd_k (by omega)) b60 10 (by decide))) (cwV 2 hts gX7_hourOn_X7_le rfl rfl rfl (by decide +kernel) ⟨Nat.le_of_ble_eq_true rfl, Nat.le_of_ble_eq_true rfl⟩) hK hN hP hD Sb.self 7 0 rfl rfl rfl hl.1 (Nat.le_of_ble_eq_true rfl) ⟨Nat.zero_le _, Nat.zero_le _⟩ dX7_hourOn_151 ?_ rfl
                refine kVp ⟨hx, hb, hml, hown, hts⟩ (c_X7_handOn l D Ax th ns fog nr nm nl (frF (hr1 Lx ns nr nm nl).1 ns fog k3) (leM (frF (hr1 Lx ns nr nm nl).1 ns fog k3) (nI k3) 10) (by assumption)) (cwV 1 hts gX7_hourOn_X7_handOn rfl rfl rfl (by decide +kernel) ⟨Nat.le_of_ble_eq_true rfl, Nat.le_of_ble_eq_true rfl⟩) hK hN hP hD Sb.self 7 0 rfl rfl rfl hl.1 (Nat.le_of_ble_eq_true rfl) ⟨Nat.zero_le _, Nat.zero_le _⟩ dX7_hourOn_154 ?_ rfl
                refine kVw ⟨hx, hb, hml, hown, hts⟩ (c_X7_setLe l D Ax th ns fog nr nm nl (frF (hr1 Lx ns nr nm nl).1 ns fog k3) (nI k3) 10 (litM (frF (hr1 Lx ns nr nm nl).1 ns fog k3) ns fog (leM (frF (hr1 Lx ns nr nm nl).1 ns fog k3) (nI k3) 10)) (ixl (vd_k (by omega)) b60 10 (by decide))) (cwV 3 hts gX7_hourOn_X7_setLe rfl rfl rfl (by decide +kernel) ⟨Nat.le_of_ble_eq_true rfl, Nat.le_of_ble_eq_true rfl⟩) hK hN hP hD hS frsMod 7 0 rfl rfl rfl hl.1 (Nat.le_of_ble_eq_true rfl) ⟨Nat.zero_le _, Nat.zero_le _⟩ dX7_hourOn_157 (fun H locs hP hD hS => ?_) rfl
                have hP : va_P D.1 vwCl (wMod D Ax th ns fog nr nm nl (seM (frF (hr1 Lx ns nr nm nl).1 ns fog k3) (nI k3) 10 (litM (frF (hr1 Lx ns nr nm nl).1 ns fog k3) ns fog (leM (frF (hr1 Lx ns nr nm nl).1 ns fog k3) (nI k3) 10)))) H := hP
                have hD : va_D A0 (wMod D Ax th ns fog nr nm nl (seM (frF (hr1 Lx ns nr nm nl).1 ns fog k3) (nI k3) 10 (litM (frF (hr1 Lx ns nr nm nl).1 ns fog k3) ns fog (leM (frF (hr1 Lx ns nr nm nl).1 ns fog k3) (nI k3) 10)))) := hD
                refine W.eq (g2 := F0 m 160 ls []) rfl ?_
                refine lv_aload_n hx hb dX7_hourOn_160 rfl (lv_at hl 2 rfl) ?_
                refine lv_iload_n hx hb dX7_hourOn_161 rfl (lv_at hl 0 rfl) ?_
                refine lv_iconst (v := 3) hx hb dX7_hourOn_162 (by decide) ?_
                refine kVp ⟨hx, hb, hml, hown, hts⟩ (c_X7_le l D Ax th ns fog nr nm nl (seM (frF (hr1 Lx ns nr nm nl).1 ns fog k3) (nI k3) 10 (litM (frF (hr1 Lx ns nr nm nl).1 ns fog k3) ns fog (leM (frF (hr1 Lx ns nr nm nl).1 ns fog k3) (nI k3) 10))) (nI k3) 3 (ixl (vd_k (by omega)) b60 3 (by decide))) (cwV 2 hts gX7_hourOn_X7_le rfl rfl rfl (by decide +kernel) ⟨Nat.le_of_ble_eq_true rfl, Nat.le_of_ble_eq_true rfl⟩) hK hN hP hD Sb.self 7 0 rfl rfl rfl hl.1 (Nat.le_of_ble_eq_true rfl) ⟨Nat.zero_le _, Nat.zero_le _⟩ dX7_hourOn_163 ?_ rfl
                refine lv_if_ne (tgt := 231) hx hb dX7_hourOn_166 (by decide) (fun c11 => ?_) (fun c11 => ?_)
                · refine lv_iinc (v := ((nI k3) + 1)) (lv' := [(2, .int ((nI k3) + 1)), (1, .int ((bmF nl (rkM Lx ns nr nm) nm).2)), (0, .ref (Ax 0))]) hx hb dX7_hourOn_231 hl (k := 0) rfl rfl (by decide) rfl (fun ls hl => ?_)
                  refine lv_goto (tgt := 121) hx hb dX7_hourOn_234 (by decide) ?_
                  exact ih3 (k3 + 1) (by omega) _ (nI_1 k3) _ (by (rw [frF, frS, if_neg c10, if_neg (show ¬ leM (fr1 _ _ _ _) _ 3 = 0 from c11)]; first | done | rfl)) _ _ hP hD hS ls (lv_sub hl [0, 1, 2] rfl)
                · refine lv_aload_n hx hb dX7_hourOn_169 rfl (lv_at hl 2 rfl) ?_
                  refine lv_iload_n hx hb dX7_hourOn_170 rfl (lv_at hl 0 rfl) ?_
                  refine lv_bipush (v := 7) hx hb dX7_hourOn_171 (by decide) ?_
                  refine kVp ⟨hx, hb, hml, hown, hts⟩ (c_X7_le l D Ax th ns fog nr nm nl (seM (frF (hr1 Lx ns nr nm nl).1 ns fog k3) (nI k3) 10 (litM (frF (hr1 Lx ns nr nm nl).1 ns fog k3) ns fog (leM (frF (hr1 Lx ns nr nm nl).1 ns fog k3) (nI k3) 10))) (nI k3) 7 (ixl (vd_k (by omega)) b60 7 (by decide))) (cwV 2 hts gX7_hourOn_X7_le rfl rfl rfl (by decide +kernel) ⟨Nat.le_of_ble_eq_true rfl, Nat.le_of_ble_eq_true rfl⟩) hK hN hP hD Sb.self 7 0 rfl rfl rfl hl.1 (Nat.le_of_ble_eq_true rfl) ⟨Nat.zero_le _, Nat.zero_le _⟩ dX7_hourOn_173 ?_ rfl
                  refine lv_iconst (v := 1) hx hb dX7_hourOn_176 (by decide) ?_
                  refine lv_icmp_eq (tgt := 231) hx hb dX7_hourOn_177 (by decide) (fun c12 => ?_) (fun c12 => ?_)
                  · refine lv_iinc (v := ((nI k3) + 1)) (lv' := [(2, .int ((nI k3) + 1)), (1, .int ((bmF nl (rkM Lx ns nr nm) nm).2)), (0, .ref (Ax 0))]) hx hb dX7_hourOn_231 hl (k := 0) rfl rfl (by decide) rfl (fun ls hl => ?_)
                    refine lv_goto (tgt := 121) hx hb dX7_hourOn_234 (by decide) ?_
                    exact ih3 (k3 + 1) (by omega) _ (nI_1 k3) _ (by (rw [frF, frS, if_neg c10, if_pos (show leM (fr1 _ _ _ _) _ 3 = 0 from c11), if_pos (show leM (fr1 _ _ _ _) _ 7 = 1 from c12)]; first | done | rfl)) _ _ hP hD hS ls (lv_sub hl [0, 1, 2] rfl)
                  · refine lv_aload_n hx hb dX7_hourOn_180 rfl (lv_at hl 2 rfl) ?_
                    refine lv_iload_n hx hb dX7_hourOn_181 rfl (lv_at hl 0 rfl) ?_
                    refine lv_bipush (v := 10) hx hb dX7_hourOn_182 (by decide) ?_
                    refine kVp ⟨hx, hb, hml, hown, hts⟩ (c_X7_le l D Ax th ns fog nr nm nl (seM (frF (hr1 Lx ns nr nm nl).1 ns fog k3) (nI k3) 10 (litM (frF (hr1 Lx ns nr nm nl).1 ns fog k3) ns fog (leM (frF (hr1 Lx ns nr nm nl).1 ns fog k3) (nI k3) 10))) (nI k3) 10 (ixl (vd_k (by omega)) b60 10 (by decide))) (cwV 2 hts gX7_hourOn_X7_le rfl rfl rfl (by decide +kernel) ⟨Nat.le_of_ble_eq_true rfl, Nat.le_of_ble_eq_true rfl⟩) hK hN hP hD Sb.self 7 0 rfl rfl rfl hl.1 (Nat.le_of_ble_eq_true rfl) ⟨Nat.zero_le _, Nat.zero_le _⟩ dX7_hourOn_184 ?_ rfl
                    refine lv_aload_n hx hb dX7_hourOn_187 rfl (lv_at hl 2 rfl) ?_
                    refine lv_iload_n hx hb dX7_hourOn_188 rfl (lv_at hl 0 rfl) ?_
                    refine lv_iconst (v := 4) hx hb dX7_hourOn_189 (by decide) ?_
                    refine kVp ⟨hx, hb, hml, hown, hts⟩ (c_X7_le l D Ax th ns fog nr nm nl (seM (frF (hr1 Lx ns nr nm nl).1 ns fog k3) (nI k3) 10 (litM (frF (hr1 Lx ns nr nm nl).1 ns fog k3) ns fog (leM (frF (hr1 Lx ns nr nm nl).1 ns fog k3) (nI k3) 10))) (nI k3) 4 (ixl (vd_k (by omega)) b60 4 (by decide))) (cwV 2 hts gX7_hourOn_X7_le rfl rfl rfl (by decide +kernel) ⟨Nat.le_of_ble_eq_true rfl, Nat.le_of_ble_eq_true rfl⟩) hK hN hP hD Sb.self 7 0 rfl rfl rfl hl.1 (Nat.le_of_ble_eq_true rfl) ⟨Nat.zero_le _, Nat.zero_le _⟩ dX7_hourOn_190 ?_ rfl
                    refine kSp ⟨hx, hb, hml, hown, hts⟩ (c_X7_has l D (leM (seM (frF (hr1 Lx ns nr nm nl).1 ns fog k3) (nI k3) 10 (litM (frF (hr1 Lx ns nr nm nl).1 ns fog k3) ns fog (leM (frF (hr1 Lx ns nr nm nl).1 ns fog k3) (nI k3) 10))) (nI k3) 10) (leM (seM (frF (hr1 Lx ns nr nm nl).1 ns fog k3) (nI k3) 10 (litM (frF (hr1 Lx ns nr nm nl).1 ns fog k3) ns fog (leM (frF (hr1 Lx ns nr nm nl).1 ns fog k3) (nI k3) 10))) (nI k3) 4)) (va_cwS 2 hts gX7_hourOn_X7_has rfl rfl rfl (by decide +kernel) ⟨Nat.le_of_ble_eq_true rfl, Nat.le_of_ble_eq_true rfl⟩) hK hN hP hD Sb.nil  rfl hl.1 (Nat.le_of_ble_eq_true rfl) ⟨Nat.zero_le _, Nat.zero_le _⟩ dX7_hourOn_193 ?_ rfl
                    refine lv_if_ne (tgt := 202) hx hb dX7_hourOn_196 (by decide) (fun c13 => ?_) (fun c13 => ?_)
                    · have c13 := z2_n.mp c13
                      refine lv_aload_n hx hb dX7_hourOn_202 rfl (lv_at hl 2 rfl) ?_
                      refine lv_iload_n hx hb dX7_hourOn_203 rfl (lv_at hl 0 rfl) ?_
                      refine lv_bipush (v := 7) hx hb dX7_hourOn_204 (by decide) ?_
                      refine lv_iconst (v := 1) hx hb dX7_hourOn_206 (by decide) ?_
                      refine kVw ⟨hx, hb, hml, hown, hts⟩ (c_X7_setLe l D Ax th ns fog nr nm nl (seM (frF (hr1 Lx ns nr nm nl).1 ns fog k3) (nI k3) 10 (litM (frF (hr1 Lx ns nr nm nl).1 ns fog k3) ns fog (leM (frF (hr1 Lx ns nr nm nl).1 ns fog k3) (nI k3) 10))) (nI k3) 7 1 (ixl (vd_k (by omega)) b60 7 (by decide))) (cwV 3 hts gX7_hourOn_X7_setLe rfl rfl rfl (by decide +kernel) ⟨Nat.le_of_ble_eq_true rfl, Nat.le_of_ble_eq_true rfl⟩) hK hN hP hD hS frsMod 7 0 rfl rfl rfl hl.1 (Nat.le_of_ble_eq_true rfl) ⟨Nat.zero_le _, Nat.zero_le _⟩ dX7_hourOn_207 (fun H locs hP hD hS => ?_) rfl
                      have hP : va_P D.1 vwCl (wMod D Ax th ns fog nr nm nl (seM (seM (frF (hr1 Lx ns nr nm nl).1 ns fog k3) (nI k3) 10 (litM (frF (hr1 Lx ns nr nm nl).1 ns fog k3) ns fog (leM (frF (hr1 Lx ns nr nm nl).1 ns fog k3) (nI k3) 10))) (nI k3) 7 1)) H := hP
                      have hD : va_D A0 (wMod D Ax th ns fog nr nm nl (seM (seM (frF (hr1 Lx ns nr nm nl).1 ns fog k3) (nI k3) 10 (litM (frF (hr1 Lx ns nr nm nl).1 ns fog k3) ns fog (leM (frF (hr1 Lx ns nr nm nl).1 ns fog k3) (nI k3) 10))) (nI k3) 7 1)) := hD
                      refine W.eq (g2 := F0 m 210 ls []) rfl ?_
                      refine lv_aload_n hx hb dX7_hourOn_210 rfl (lv_at hl 2 rfl) ?_
                      refine lv_iload_n hx hb dX7_hourOn_211 rfl (lv_at hl 0 rfl) ?_
                      refine lv_iconst (v := 4) hx hb dX7_hourOn_212 (by decide) ?_
                      refine kVp ⟨hx, hb, hml, hown, hts⟩ (c_X7_le l D Ax th ns fog nr nm nl (seM (seM (frF (hr1 Lx ns nr nm nl).1 ns fog k3) (nI k3) 10 (litM (frF (hr1 Lx ns nr nm nl).1 ns fog k3) ns fog (leM (frF (hr1 Lx ns nr nm nl).1 ns fog k3) (nI k3) 10))) (nI k3) 7 1) (nI k3) 4 (ixl (vd_k (by omega)) b60 4 (by decide))) (cwV 2 hts gX7_hourOn_X7_le rfl rfl rfl (by decide +kernel) ⟨Nat.le_of_ble_eq_true rfl, Nat.le_of_ble_eq_true rfl⟩) hK hN hP hD Sb.self 7 0 rfl rfl rfl hl.1 (Nat.le_of_ble_eq_true rfl) ⟨Nat.zero_le _, Nat.zero_le _⟩ dX7_hourOn_213 ?_ rfl
                      refine lv_aload_n hx hb dX7_hourOn_216 rfl (lv_at hl 2 rfl) ?_
                      refine lv_iload_n hx hb dX7_hourOn_217 rfl (lv_at hl 0 rfl) ?_
                      refine lv_iconst (v := 0) hx hb dX7_hourOn_218 (by decide) ?_
                      refine kVp ⟨hx, hb, hml, hown, hts⟩ (c_X7_le l D Ax th ns fog nr nm nl (seM (seM (frF (hr1 Lx ns nr nm nl).1 ns fog k3) (nI k3) 10 (litM (frF (hr1 Lx ns nr nm nl).1 ns fog k3) ns fog (leM (frF (hr1 Lx ns nr nm nl).1 ns fog k3) (nI k3) 10))) (nI k3) 7 1) (nI k3) 0 (ixl (vd_k (by omega)) b60 0 (by decide))) (cwV 2 hts gX7_hourOn_X7_le rfl rfl rfl (by decide +kernel) ⟨Nat.le_of_ble_eq_true rfl, Nat.le_of_ble_eq_true rfl⟩) hK hN hP hD Sb.self 7 0 rfl rfl rfl hl.1 (Nat.le_of_ble_eq_true rfl) ⟨Nat.zero_le _, Nat.zero_le _⟩ dX7_hourOn_219 ?_ rfl
                      refine lv_icmp_ne (tgt := 231) hx hb dX7_hourOn_222 (by decide) (fun c14 => ?_) (fun c14 => ?_)
                      · refine lv_iinc (v := ((nI k3) + 1)) (lv' := [(2, .int ((nI k3) + 1)), (1, .int ((bmF nl (rkM Lx ns nr nm) nm).2)), (0, .ref (Ax 0))]) hx hb dX7_hourOn_231 hl (k := 0) rfl rfl (by decide) rfl (fun ls hl => ?_)
                        refine lv_goto (tgt := 121) hx hb dX7_hourOn_234 (by decide) ?_
                        exact ih3 (k3 + 1) (by omega) _ (nI_1 k3) _ (by (rw [frF, frS, if_neg c10, if_pos (show leM (fr1 _ _ _ _) _ 3 = 0 from c11), if_neg (show ¬ leM (fr1 _ _ _ _) _ 7 = 1 from c12), if_pos (show bHm (leM (fr1 _ _ _ _) _ 10) (leM (fr1 _ _ _ _) _ 4) = true from c13), if_neg (show ¬ leM (seM (fr1 _ _ _ _) _ 7 1) _ 4 = leM (seM (fr1 _ _ _ _) _ 7 1) _ 0 from c14)]; first | done | rfl)) _ _ hP hD hS ls (lv_sub hl [0, 1, 2] rfl)
                      · refine lv_aload_n hx hb dX7_hourOn_225 rfl (lv_at hl 2 rfl) ?_
                        refine lv_iload_n hx hb dX7_hourOn_226 rfl (lv_at hl 0 rfl) ?_
                        refine lv_iconst (v := 3) hx hb dX7_hourOn_227 (by decide) ?_
                        refine kVw ⟨hx, hb, hml, hown, hts⟩ (c_X7_end l D Ax th ns fog nr nm nl (seM (seM (frF (hr1 Lx ns nr nm nl).1 ns fog k3) (nI k3) 10 (litM (frF (hr1 Lx ns nr nm nl).1 ns fog k3) ns fog (leM (frF (hr1 Lx ns nr nm nl).1 ns fog k3) (nI k3) 10))) (nI k3) 7 1) (nI k3) 3 (by assumption) (vd_k (by omega))) (cwV 2 hts gX7_hourOn_X7_end rfl rfl rfl (by decide +kernel) ⟨Nat.le_of_ble_eq_true rfl, Nat.le_of_ble_eq_true rfl⟩) hK hN hP hD hS frsMod 7 0 rfl rfl rfl hl.1 (Nat.le_of_ble_eq_true rfl) ⟨Nat.zero_le _, Nat.zero_le _⟩ dX7_hourOn_228 (fun H locs hP hD hS => ?_) rfl
                        have hP : va_P D.1 vwCl (wMod D Ax th ns fog nr nm nl (endM (seM (seM (frF (hr1 Lx ns nr nm nl).1 ns fog k3) (nI k3) 10 (litM (frF (hr1 Lx ns nr nm nl).1 ns fog k3) ns fog (leM (frF (hr1 Lx ns nr nm nl).1 ns fog k3) (nI k3) 10))) (nI k3) 7 1) (nI k3) 3)) H := hP
                        have hD : va_D A0 (wMod D Ax th ns fog nr nm nl (endM (seM (seM (frF (hr1 Lx ns nr nm nl).1 ns fog k3) (nI k3) 10 (litM (frF (hr1 Lx ns nr nm nl).1 ns fog k3) ns fog (leM (frF (hr1 Lx ns nr nm nl).1 ns fog k3) (nI k3) 10))) (nI k3) 7 1) (nI k3) 3)) := hD
                        refine W.eq (g2 := F0 m 231 ls []) rfl ?_
                        refine lv_iinc (v := ((nI k3) + 1)) (lv' := [(2, .int ((nI k3) + 1)), (1, .int ((bmF nl (rkM Lx ns nr nm) nm).2)), (0, .ref (Ax 0))]) hx hb dX7_hourOn_231 hl (k := 0) rfl rfl (by decide) rfl (fun ls hl => ?_)
                        refine lv_goto (tgt := 121) hx hb dX7_hourOn_234 (by decide) ?_
                        exact ih3 (k3 + 1) (by omega) _ (nI_1 k3) _ (by (rw [frF, frS, if_neg c10, if_pos (show leM (fr1 _ _ _ _) _ 3 = 0 from c11), if_neg (show ¬ leM (fr1 _ _ _ _) _ 7 = 1 from c12), if_pos (show bHm (leM (fr1 _ _ _ _) _ 10) (leM (fr1 _ _ _ _) _ 4) = true from c13), if_pos (show leM (seM (fr1 _ _ _ _) _ 7 1) _ 4 = leM (seM (fr1 _ _ _ _) _ 7 1) _ 0 from c14)]; first | done | rfl)) _ _ hP hD hS ls (lv_sub hl [0, 1, 2] rfl)
                    · have c13 := z2_0.mp c13
                      refine lv_goto (tgt := 231) hx hb dX7_hourOn_199 (by decide) ?_
                      refine lv_iinc (v := ((nI k3) + 1)) (lv' := [(2, .int ((nI k3) + 1)), (1, .int ((bmF nl (rkM Lx ns nr nm) nm).2)), (0, .ref (Ax 0))]) hx hb dX7_hourOn_231 hl (k := 0) rfl rfl (by decide) rfl (fun ls hl => ?_)
                      refine lv_goto (tgt := 121) hx hb dX7_hourOn_234 (by decide) ?_
                      exact ih3 (k3 + 1) (by omega) _ (nI_1 k3) _ (by (rw [frF, frS, if_neg c10, if_pos (show leM (fr1 _ _ _ _) _ 3 = 0 from c11), if_neg (show ¬ leM (fr1 _ _ _ _) _ 7 = 1 from c12), if_neg (show ¬ bHm (leM (fr1 _ _ _ _) _ 10) (leM (fr1 _ _ _ _) _ 4) = true from c13)]; first | done | rfl)) _ _ hP hD hS ls (lv_sub hl [0, 1, 2] rfl)
              · refine lv_goto (tgt := 231) hx hb dX7_hourOn_139 (by decide) ?_
                refine lv_iinc (v := ((nI k3) + 1)) (lv' := [(2, .int ((nI k3) + 1)), (1, .int ((bmF nl (rkM Lx ns nr nm) nm).2)), (0, .ref (Ax 0))]) hx hb dX7_hourOn_231 hl (k := 0) rfl rfl (by decide) rfl (fun ls hl => ?_)
                refine lv_goto (tgt := 121) hx hb dX7_hourOn_234 (by decide) ?_
                exact ih3 (k3 + 1) (by omega) _ (nI_1 k3) _ (by (rw [frF, frS, if_pos c10]; first | done | rfl)) _ _ hP hD hS ls (lv_sub hl [0, 1, 2] rfl)
        exact lp3 nl 0 (by omega) _ nI_0.symm _ rfl _ _ hP hD hS ls (lv_sub hl [0, 1, 2] rfl)
      · exact (up0 rfl c2).elim
    | succ j1 ih1 =>
      intro k1 hk1 x2_1 e2_1 x1_1 e1_1 yxL_1 eyxL_1  H locs hP hD hS ls hl
      subst e2_1 e1_1 eyxL_1
      have hlt1 : k1 < nm := by omega
      have hlt : k1 < nm := hlt1
      refine lv_iload_n hx hb dX7_hourOn_8 rfl (lv_at hl 0 rfl) ?_
      refine lv_aload_n hx hb dX7_hourOn_9 rfl (lv_at hl 2 rfl) ?_
      refine va_get (D := D.1) (ci := 7) (v := .int (nI nm)) (C := RX7) (T := TX7) (N := 14) hx hb hts hinX7 hown hK hP 0 rfl rfl 7 (by decide) (hts (.fieldLink RX7 73 "MountainPostModel" "mules" "I") (List.mem_of_getElem? (i := 1) rfl)) (fun _ h9 => h9) rfl dX7_hourOn_10 ?_
      refine lv_icmp_ge (tgt := 119) hx hb dX7_hourOn_13 (by decide) (fun c15 => ?_) (fun c15 => ?_)
      · exact (upS hk1 (by omega) c15).elim
      · refine lv_aload_n hx hb dX7_hourOn_16 rfl (lv_at hl 2 rfl) ?_
        refine lv_iload_n hx hb dX7_hourOn_17 rfl (lv_at hl 0 rfl) ?_
        refine lv_iconst (v := 3) hx hb dX7_hourOn_18 (by decide) ?_
        refine kVp ⟨hx, hb, hml, hown, hts⟩ (c_X7_mu l D Ax th ns fog nr nm nl ((bmF nl (rkM Lx ns nr nm) k1).1) (nI k1) 3 (ixm (vd_k (by omega)) b12 3 (by decide))) (cwV 2 hts gX7_hourOn_X7_mu rfl rfl rfl (by decide +kernel) ⟨Nat.le_of_ble_eq_true rfl, Nat.le_of_ble_eq_true rfl⟩) hK hN hP hD Sb.self 7 0 rfl rfl rfl hl.1 (Nat.le_of_ble_eq_true rfl) ⟨Nat.zero_le _, Nat.zero_le _⟩ dX7_hourOn_19 ?_ rfl
        refine lv_if_ne (tgt := 28) hx hb dX7_hourOn_22 (by decide) (fun c16 => ?_) (fun c16 => ?_)
        · refine lv_aload_n hx hb dX7_hourOn_28 rfl (lv_at hl 2 rfl) ?_
          refine lv_iload_n hx hb dX7_hourOn_29 rfl (lv_at hl 0 rfl) ?_
          refine lv_iconst (v := 3) hx hb dX7_hourOn_30 (by decide) ?_
          refine lv_aload_n hx hb dX7_hourOn_31 rfl (lv_at hl 2 rfl) ?_
          refine lv_iload_n hx hb dX7_hourOn_32 rfl (lv_at hl 0 rfl) ?_
          refine lv_iconst (v := 3) hx hb dX7_hourOn_33 (by decide) ?_
          refine kVp ⟨hx, hb, hml, hown, hts⟩ (c_X7_mu l D Ax th ns fog nr nm nl ((bmF nl (rkM Lx ns nr nm) k1).1) (nI k1) 3 (ixm (vd_k (by omega)) b12 3 (by decide))) (cwV 2 hts gX7_hourOn_X7_mu rfl rfl rfl (by decide +kernel) ⟨Nat.le_of_ble_eq_true rfl, Nat.le_of_ble_eq_true rfl⟩) hK hN hP hD Sb.self 7 0 rfl rfl rfl hl.1 (Nat.le_of_ble_eq_true rfl) ⟨Nat.zero_le _, Nat.zero_le _⟩ dX7_hourOn_34 ?_ rfl
          refine lv_iconst (v := 1) hx hb dX7_hourOn_37 (by decide) ?_
          refine lv_isub hx hb dX7_hourOn_38 ?_
          refine kVw ⟨hx, hb, hml, hown, hts⟩ (c_X7_setMu l D Ax th ns fog nr nm nl ((bmF nl (rkM Lx ns nr nm) k1).1) (nI k1) 3 ((muM ((bmF nl (rkM Lx ns nr nm) k1).1) (nI k1) 3) - 1) (ixm (vd_k (by omega)) b12 3 (by decide))) (cwV 3 hts gX7_hourOn_X7_setMu rfl rfl rfl (by decide +kernel) ⟨Nat.le_of_ble_eq_true rfl, Nat.le_of_ble_eq_true rfl⟩) hK hN hP hD hS frsMod 7 0 rfl rfl rfl hl.1 (Nat.le_of_ble_eq_true rfl) ⟨Nat.zero_le _, Nat.zero_le _⟩ dX7_hourOn_39 (fun H locs hP hD hS => ?_) rfl
          have hP : va_P D.1 vwCl (wMod D Ax th ns fog nr nm nl (smM ((bmF nl (rkM Lx ns nr nm) k1).1) (nI k1) 3 ((muM ((bmF nl (rkM Lx ns nr nm) k1).1) (nI k1) 3) - 1))) H := hP
          have hD : va_D A0 (wMod D Ax th ns fog nr nm nl (smM ((bmF nl (rkM Lx ns nr nm) k1).1) (nI k1) 3 ((muM ((bmF nl (rkM Lx ns nr nm) k1).1) (nI k1) 3) - 1))) := hD
          refine W.eq (g2 := F0 m 42 ls []) rfl ?_
          refine lv_aload_n hx hb dX7_hourOn_42 rfl (lv_at hl 2 rfl) ?_
          refine lv_iload_n hx hb dX7_hourOn_43 rfl (lv_at hl 0 rfl) ?_
          refine lv_iconst (v := 4) hx hb dX7_hourOn_44 (by decide) ?_
          refine lv_aload_n hx hb dX7_hourOn_45 rfl (lv_at hl 2 rfl) ?_
          refine lv_iload_n hx hb dX7_hourOn_46 rfl (lv_at hl 0 rfl) ?_
          refine lv_iconst (v := 4) hx hb dX7_hourOn_47 (by decide) ?_
          refine kVp ⟨hx, hb, hml, hown, hts⟩ (c_X7_mu l D Ax th ns fog nr nm nl (smM ((bmF nl (rkM Lx ns nr nm) k1).1) (nI k1) 3 ((muM ((bmF nl (rkM Lx ns nr nm) k1).1) (nI k1) 3) - 1)) (nI k1) 4 (ixm (vd_k (by omega)) b12 4 (by decide))) (cwV 2 hts gX7_hourOn_X7_mu rfl rfl rfl (by decide +kernel) ⟨Nat.le_of_ble_eq_true rfl, Nat.le_of_ble_eq_true rfl⟩) hK hN hP hD Sb.self 7 0 rfl rfl rfl hl.1 (Nat.le_of_ble_eq_true rfl) ⟨Nat.zero_le _, Nat.zero_le _⟩ dX7_hourOn_48 ?_ rfl
          refine lv_iconst (v := 1) hx hb dX7_hourOn_51 (by decide) ?_
          refine lv_iadd hx hb dX7_hourOn_52 ?_
          refine kVw ⟨hx, hb, hml, hown, hts⟩ (c_X7_setMu l D Ax th ns fog nr nm nl (smM ((bmF nl (rkM Lx ns nr nm) k1).1) (nI k1) 3 ((muM ((bmF nl (rkM Lx ns nr nm) k1).1) (nI k1) 3) - 1)) (nI k1) 4 ((muM (smM ((bmF nl (rkM Lx ns nr nm) k1).1) (nI k1) 3 ((muM ((bmF nl (rkM Lx ns nr nm) k1).1) (nI k1) 3) - 1)) (nI k1) 4) + 1) (ixm (vd_k (by omega)) b12 4 (by decide))) (cwV 3 hts gX7_hourOn_X7_setMu rfl rfl rfl (by decide +kernel) ⟨Nat.le_of_ble_eq_true rfl, Nat.le_of_ble_eq_true rfl⟩) hK hN hP hD hS frsMod 7 0 rfl rfl rfl hl.1 (Nat.le_of_ble_eq_true rfl) ⟨Nat.zero_le _, Nat.zero_le _⟩ dX7_hourOn_53 (fun H locs hP hD hS => ?_) rfl
          have hP : va_P D.1 vwCl (wMod D Ax th ns fog nr nm nl (smM (smM ((bmF nl (rkM Lx ns nr nm) k1).1) (nI k1) 3 ((muM ((bmF nl (rkM Lx ns nr nm) k1).1) (nI k1) 3) - 1)) (nI k1) 4 ((muM (smM ((bmF nl (rkM Lx ns nr nm) k1).1) (nI k1) 3 ((muM ((bmF nl (rkM Lx ns nr nm) k1).1) (nI k1) 3) - 1)) (nI k1) 4) + 1))) H := hP
          have hD : va_D A0 (wMod D Ax th ns fog nr nm nl (smM (smM ((bmF nl (rkM Lx ns nr nm) k1).1) (nI k1) 3 ((muM ((bmF nl (rkM Lx ns nr nm) k1).1) (nI k1) 3) - 1)) (nI k1) 4 ((muM (smM ((bmF nl (rkM Lx ns nr nm) k1).1) (nI k1) 3 ((muM ((bmF nl (rkM Lx ns nr nm) k1).1) (nI k1) 3) - 1)) (nI k1) 4) + 1))) := hD
          refine W.eq (g2 := F0 m 56 ls []) rfl ?_
          refine lv_iconst (v := 0) hx hb dX7_hourOn_56 (by decide) ?_
          refine lv_istore_n (lv' := [(3, .int 0), (2, .int (nI k1)), (1, .int ((bmF nl (rkM Lx ns nr nm) k1).2)), (0, .ref (Ax 0))]) hx hb dX7_hourOn_57 rfl hl (by decide) rfl (fun ls hl => ?_)
          have lp17 : ∀ (j17 : Nat) (kz : Nat) (Lz : Nat → Nat → Int32) (cz : Int32) (hk : kz + j17 = nl) (hz : okS Lz ns nr nm nl) (hres : ulR (nI k1) j17 kz Lz cz = ulR (nI k1) nl 0 (bm1 (bmF nl (rkM Lx ns nr nm) k1).1 (nI k1)) ((bmF nl (rkM Lx ns nr nm) k1).2)) (x3_17 : Int32) (e3_17 : x3_17 = (nI kz)) (H : Heap) (locs : List Loc) (hP : va_P D.1 vwCl (wMod D Ax th ns fog nr nm nl Lz) H) (hD : va_D A0 (wMod D Ax th ns fog nr nm nl Lz)) (hS : va_S A0 s.heap H locs) (ls : Array Slot) (hl : lv_has ls 4 [(3, .int x3_17), (2, .int (nI k1)), (1, .int cz), (0, .ref (Ax 0))]), W p l e (headSpec wsX7_hourOn ({ frames := 5, cells := 0, slots := 0, locals := 118 } : Room)).room s m ([.ref (Ax 0)] : List Value).toArray below meth c H locs 0 0 (MQ below (QW D (some (.int ((hr1 Lx ns nr nm nl).2))) (wMod D Ax th ns fog nr nm nl (hoM Lx ns fog nr nm nl)) A0) ([.ref (Ax 0)] : List Value).toArray s 0 0 A0) (F0 m 58 ls []) := by
            intro j17
            induction j17 with
            | zero =>
              intro kz Lz cz hk hz hres x3_17 e3_17 H locs hP hD hS ls hl
              subst e3_17
              refine lv_iload_n hx hb dX7_hourOn_58 rfl (lv_at hl 0 rfl) ?_
              refine lv_aload_n hx hb dX7_hourOn_59 rfl (lv_at hl 3 rfl) ?_
              refine va_get (D := D.1) (ci := 7) (v := .int (nI nl)) (C := RX7) (T := TX7) (N := 14) hx hb hts hinX7 hown hK hP 0 rfl rfl 8 (by decide) (hts (.fieldLink RX7 48 "MountainPostModel" "letters" "I") (List.mem_of_getElem? (i := 2) rfl)) (fun _ h9 => h9) rfl dX7_hourOn_60 ?_
              refine lv_icmp_ge (tgt := 113) hx hb dX7_hourOn_63 (by decide) (fun c18 => ?_) (fun c18 => ?_)
              · have hT : (Lz, cz) = ulR (nI k1) nl 0 (bm1 (bmF nl (rkM Lx ns nr nm) k1).1 (nI k1)) ((bmF nl (rkM Lx ns nr nm) k1).2) := by rw [← hres]; rfl
                refine lv_iinc (v := ((nI k1) + 1)) (lv' := [(2, .int ((nI k1) + 1)), (3, .int (nI kz)), (1, .int cz), (0, .ref (Ax 0))]) hx hb dX7_hourOn_113 hl (k := 1) rfl rfl (by decide) rfl (fun ls hl => ?_)
                refine lv_goto (tgt := 8) hx hb dX7_hourOn_116 (by decide) ?_
                exact ih1 (k1 + 1) (by omega) _ (nI_1 k1) _ (by rw [bmF, if_neg c16, ← hT]) _ (by rw [bmF, if_neg c16, ← hT]) _ _ hP hD hS ls (lv_sub hl [0, 2, 3] rfl)
              · exact (up0 hk c18).elim
            | succ j17 ih17 =>
              intro kz Lz cz hk hz hres x3_17 e3_17 H locs hP hD hS ls hl
              subst e3_17
              refine lv_iload_n hx hb dX7_hourOn_58 rfl (lv_at hl 0 rfl) ?_
              refine lv_aload_n hx hb dX7_hourOn_59 rfl (lv_at hl 3 rfl) ?_
              refine va_get (D := D.1) (ci := 7) (v := .int (nI nl)) (C := RX7) (T := TX7) (N := 14) hx hb hts hinX7 hown hK hP 0 rfl rfl 8 (by decide) (hts (.fieldLink RX7 48 "MountainPostModel" "letters" "I") (List.mem_of_getElem? (i := 2) rfl)) (fun _ h9 => h9) rfl dX7_hourOn_60 ?_
              refine lv_icmp_ge (tgt := 113) hx hb dX7_hourOn_63 (by decide) (fun c19 => ?_) (fun c19 => ?_)
              · exact (upS hk (by omega) c19).elim
              · refine lv_aload_n hx hb dX7_hourOn_66 rfl (lv_at hl 3 rfl) ?_
                refine lv_iload_n hx hb dX7_hourOn_67 rfl (lv_at hl 1 rfl) ?_
                refine lv_iconst (v := 3) hx hb dX7_hourOn_68 (by decide) ?_
                refine kVp ⟨hx, hb, hml, hown, hts⟩ (c_X7_mu l D Ax th ns fog nr nm nl Lz (nI k1) 3 (ixm (vd_k (by omega)) b12 3 (by decide))) (cwV 2 hts gX7_hourOn_X7_mu rfl rfl rfl (by decide +kernel) ⟨Nat.le_of_ble_eq_true rfl, Nat.le_of_ble_eq_true rfl⟩) hK hN hP hD Sb.self 7 0 rfl rfl rfl hl.1 (Nat.le_of_ble_eq_true rfl) ⟨Nat.zero_le _, Nat.zero_le _⟩ dX7_hourOn_69 ?_ rfl
                refine lv_if_ne (tgt := 113) hx hb dX7_hourOn_72 (by decide) (fun c20 => ?_) (fun c20 => ?_)
                · have hT : (Lz, cz) = ulR (nI k1) nl 0 (bm1 (bmF nl (rkM Lx ns nr nm) k1).1 (nI k1)) ((bmF nl (rkM Lx ns nr nm) k1).2) := by rw [← hres, ulR, if_neg c20]
                  refine lv_iinc (v := ((nI k1) + 1)) (lv' := [(2, .int ((nI k1) + 1)), (3, .int (nI kz)), (1, .int cz), (0, .ref (Ax 0))]) hx hb dX7_hourOn_113 hl (k := 1) rfl rfl (by decide) rfl (fun ls hl => ?_)
                  refine lv_goto (tgt := 8) hx hb dX7_hourOn_116 (by decide) ?_
                  exact ih1 (k1 + 1) (by omega) _ (nI_1 k1) _ (by rw [bmF, if_neg c16, ← hT]) _ (by rw [bmF, if_neg c16, ← hT]) _ _ hP hD hS ls (lv_sub hl [0, 2, 3] rfl)
                · refine lv_aload_n hx hb dX7_hourOn_75 rfl (lv_at hl 3 rfl) ?_
                  refine lv_iload_n hx hb dX7_hourOn_76 rfl (lv_at hl 0 rfl) ?_
                  refine lv_iconst (v := 5) hx hb dX7_hourOn_77 (by decide) ?_
                  refine kVp ⟨hx, hb, hml, hown, hts⟩ (c_X7_le l D Ax th ns fog nr nm nl Lz (nI kz) 5 (ixl (vd_k (by omega)) b60 5 (by decide))) (cwV 2 hts gX7_hourOn_X7_le rfl rfl rfl (by decide +kernel) ⟨Nat.le_of_ble_eq_true rfl, Nat.le_of_ble_eq_true rfl⟩) hK hN hP hD Sb.self 7 0 rfl rfl rfl hl.1 (Nat.le_of_ble_eq_true rfl) ⟨Nat.zero_le _, Nat.zero_le _⟩ dX7_hourOn_78 ?_ rfl
                  refine lv_iload_n hx hb dX7_hourOn_81 rfl (lv_at hl 1 rfl) ?_
                  refine lv_icmp_ne (tgt := 107) hx hb dX7_hourOn_82 (by decide) (fun c21 => ?_) (fun c21 => ?_)
                  · refine lv_iinc (v := ((nI kz) + 1)) (lv' := [(3, .int ((nI kz) + 1)), (2, .int (nI k1)), (1, .int cz), (0, .ref (Ax 0))]) hx hb dX7_hourOn_107 hl (k := 0) rfl rfl (by decide) rfl (fun ls hl => ?_)
                    refine lv_goto (tgt := 58) hx hb dX7_hourOn_110 (by decide) ?_
                    exact ih17 (kz + 1) _ _ (by omega) hz (by rw [← hres, ulR, if_pos c20, if_neg c21]) _ (nI_1 kz) _ _ hP hD hS ls (lv_sub hl [0, 1, 2, 3] rfl)
                  · refine lv_iload_n hx hb dX7_hourOn_85 rfl (lv_at hl 2 rfl) ?_
                    refine lv_aload_n hx hb dX7_hourOn_86 rfl (lv_at hl 3 rfl) ?_
                    refine lv_iload_n hx hb dX7_hourOn_87 rfl (lv_at hl 0 rfl) ?_
                    refine lv_aload_n hx hb dX7_hourOn_88 rfl (lv_at hl 3 rfl) ?_
                    refine lv_iload_n hx hb dX7_hourOn_89 rfl (lv_at hl 1 rfl) ?_
                    refine lv_iconst (v := 2) hx hb dX7_hourOn_90 (by decide) ?_
                    refine kVp ⟨hx, hb, hml, hown, hts⟩ (c_X7_mu l D Ax th ns fog nr nm nl Lz (nI k1) 2 (ixm (vd_k (by omega)) b12 2 (by decide))) (cwV 2 hts gX7_hourOn_X7_mu rfl rfl rfl (by decide +kernel) ⟨Nat.le_of_ble_eq_true rfl, Nat.le_of_ble_eq_true rfl⟩) hK hN hP hD Sb.self 7 0 rfl rfl rfl hl.1 (Nat.le_of_ble_eq_true rfl) ⟨Nat.zero_le _, Nat.zero_le _⟩ dX7_hourOn_91 ?_ rfl
                    refine kVw ⟨hx, hb, hml, hown, hts⟩ (c_X7_unload l D Ax th ns fog nr nm nl Lz (nI kz) (muM Lz (nI k1) 2) (by assumption) (vd_k (by omega))) (cwV 2 hts gX7_hourOn_X7_unload rfl rfl rfl (by decide +kernel) ⟨Nat.le_of_ble_eq_true rfl, Nat.le_of_ble_eq_true rfl⟩) hK hN hP hD hS frsMod 7 0 rfl rfl rfl hl.1 (Nat.le_of_ble_eq_true rfl) ⟨Nat.zero_le _, Nat.zero_le _⟩ dX7_hourOn_94 (fun H locs hP hD hS => ?_) rfl
                    have hP : va_P D.1 vwCl (wMod D Ax th ns fog nr nm nl ((unM Lz (nI kz) (muM Lz (nI k1) 2)).1)) H := hP
                    have hD : va_D A0 (wMod D Ax th ns fog nr nm nl ((unM Lz (nI kz) (muM Lz (nI k1) 2)).1)) := hD
                    refine W.eq (g2 := F0 m 97 ls [.int (z2 ((unM Lz (nI kz) (muM Lz (nI k1) 2)).2)), .int cz]) rfl ?_
                    refine lv_if_eq (tgt := 104) hx hb dX7_hourOn_97 (by decide) (fun c22 => ?_) (fun c22 => ?_)
                    · have c22 := z2_0.mp c22
                      refine lv_iconst (v := 0) hx hb dX7_hourOn_104 (by decide) ?_
                      refine lv_iadd hx hb dX7_hourOn_105 ?_
                      refine lv_istore_n (lv' := [(1, .int (cz + 0)), (3, .int (nI kz)), (2, .int (nI k1)), (0, .ref (Ax 0))]) hx hb dX7_hourOn_106 rfl hl (by decide) rfl (fun ls hl => ?_)
                      refine lv_iinc (v := ((nI kz) + 1)) (lv' := [(3, .int ((nI kz) + 1)), (1, .int (cz + 0)), (2, .int (nI k1)), (0, .ref (Ax 0))]) hx hb dX7_hourOn_107 hl (k := 1) rfl rfl (by decide) rfl (fun ls hl => ?_)
                      refine lv_goto (tgt := 58) hx hb dX7_hourOn_110 (by decide) ?_
                      exact ih17 (kz + 1) _ _ (by omega) (okS_un (vd_k (by omega)) b60 hz) (by rw [← hres, ulR, if_pos c20, if_pos c21, if_neg c22]) _ (nI_1 kz) _ _ hP hD hS ls (lv_sub hl [0, 2, 1, 3] rfl)
                    · have c22 := z2_n.mp c22
                      refine lv_iconst (v := 1) hx hb dX7_hourOn_100 (by decide) ?_
                      refine lv_goto (tgt := 105) hx hb dX7_hourOn_101 (by decide) ?_
                      refine lv_iadd hx hb dX7_hourOn_105 ?_
                      refine lv_istore_n (lv' := [(1, .int (cz + 1)), (3, .int (nI kz)), (2, .int (nI k1)), (0, .ref (Ax 0))]) hx hb dX7_hourOn_106 rfl hl (by decide) rfl (fun ls hl => ?_)
                      refine lv_iinc (v := ((nI kz) + 1)) (lv' := [(3, .int ((nI kz) + 1)), (1, .int (cz + 1)), (2, .int (nI k1)), (0, .ref (Ax 0))]) hx hb dX7_hourOn_107 hl (k := 1) rfl rfl (by decide) rfl (fun ls hl => ?_)
                      refine lv_goto (tgt := 58) hx hb dX7_hourOn_110 (by decide) ?_
                      exact ih17 (kz + 1) _ _ (by omega) (okS_un (vd_k (by omega)) b60 hz) (by rw [← hres, ulR, if_pos c20, if_pos c21, if_pos c22]) _ (nI_1 kz) _ _ hP hD hS ls (lv_sub hl [0, 2, 1, 3] rfl)
          exact lp17 nl 0 (bm1 (bmF nl (rkM Lx ns nr nm) k1).1 (nI k1)) ((bmF nl (rkM Lx ns nr nm) k1).2) (by omega) (okS_bm1 (vd_k (by omega)) b12 (okS_bm b12 b60 (okS_rk hS9) _ (by omega))) rfl _ nI_0.symm _ _ hP hD hS ls (lv_sub hl [0, 1, 2, 3] rfl)
        · refine lv_goto (tgt := 113) hx hb dX7_hourOn_25 (by decide) ?_
          refine lv_iinc (v := ((nI k1) + 1)) (lv' := [(2, .int ((nI k1) + 1)), (1, .int ((bmF nl (rkM Lx ns nr nm) k1).2)), (0, .ref (Ax 0))]) hx hb dX7_hourOn_113 hl (k := 0) rfl rfl (by decide) rfl (fun ls hl => ?_)
          refine lv_goto (tgt := 8) hx hb dX7_hourOn_116 (by decide) ?_
          exact ih1 (k1 + 1) (by omega) _ (nI_1 k1) _ (by rw [bmF, if_pos c16]) _ (by rw [bmF, if_pos c16]) _ _ hP hD hS ls (lv_sub hl [0, 1, 2] rfl)
  exact lp1 nm 0 (by omega) _ nI_0.symm _ rfl _ rfl _ _ hP hD hS ls (lv_sub hl [0, 1, 2] rfl)
