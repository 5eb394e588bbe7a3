set_option maxHeartbeats 4000000 in
set_option maxRecDepth 100000 in
theorem c_X7_reckon (l : Launch) (D : GG) (Ax : Nat → Nat) (th : Int32) (ns : Nat) (fog : Int32) (nr : Nat) (nm : Nat) (nl : Nat) (Lx : Nat → Nat → Int32) (b10 : ns ≤ 10) (b15 : nr ≤ 15) (b12 : nm ≤ 12) (b60 : nl ≤ 60) (hk : okR Lx nr ns) : Met l yX7_reckon wsX7_reckon ({ frames := 3, cells := 0, slots := 0, locals := 66 } : Room) (va_Pc [.ref (Ax 0)] (wd D (wMod D Ax th ns fog nr nm nl Lx))) (QW D none (wMod D Ax th ns fog nr nm nl (rkM Lx ns nr nm)) (own (wMod D Ax th ns fog nr nm nl Lx))) 0 0 (own (wMod D Ax th ns fog nr nm nl Lx)) := by
  refine Met.ofW (cc := cX7_reckon) (maxL := 6) (ret := none) (by decide) rfl ?_
  intro p e s m args below meth c s₁ B hml hv
  obtain ⟨rfl, hP, hK, hD, hN⟩ := hv
  have hx := B.exec
  have hb := B.bytes
  have hr := B.returns
  have hts := atoms_spec (ws := wsX7_reckon) B.pre
  have hown : s.vm.findClass RX7 = some m.cls := findClass_of_methodNamed B.named
  have hlocks := B.notSynchronized
  have hinX7 : ∀ w ∈ u_ws RX7 TX7 14, w ∈ wsX7_reckon := by decide +kernel
  have hS : va_S (own (wMod D Ax th ns fog nr nm nl Lx)) s.heap s.heap [] := va_S.rf
  have hD : va_D (own (wMod D Ax th ns fog nr nm nl Lx)) (wMod D Ax th ns fog nr nm nl Lx) := toOwn hD
  generalize hAe : own (wMod D Ax th ns fog nr nm nl Lx) = A0 at hD hS ⊢
  have hl := lv_entry ([.ref (Ax 0)]) (n := 6) (Nat.le_of_ble_eq_true rfl)
  rw [lg_entry_eq]
  generalize (lg_sl ([.ref (Ax 0)]) ++ List.replicate (6 - (lg_sl ([.ref (Ax 0)])).length) Slot.unset).toArray = ls at hl ⊢
  have hl : lv_has ls 6 [(0, .ref (Ax 0))] := hl
  refine lv_iconst (v := 0) hx hb dX7_reckon_0 (by decide) ?_
  refine lv_istore_n (lv' := [(1, .int 0), (0, .ref (Ax 0))]) hx hb dX7_reckon_1 rfl hl (by decide) rfl (fun ls hl => ?_)
  have lp1 : ∀ (j1 : Nat) (k1 : Nat) (hk1 : k1 + j1 = 100) (x1_1 : Int32) (e1_1 : x1_1 = (nI k1)) (yxL_1 : Nat → Nat → Int32) (eyxL_1 : yxL_1 = (rk0 Lx k1)) (H : Heap) (locs : List Loc) (hP : va_P D.1 vwCl (wMod D Ax th ns fog nr nm nl yxL_1) H) (hD : va_D A0 (wMod D Ax th ns fog nr nm nl yxL_1)) (hS : va_S A0 s.heap H locs) (ls : Array Slot) (hl : lv_has ls 6 [(1, .int x1_1), (0, .ref (Ax 0))]), W p l e (headSpec wsX7_reckon ({ frames := 3, cells := 0, slots := 0, locals := 66 } : Room)).room s m ([.ref (Ax 0)] : List Value).toArray below meth c H locs 0 0 (MQ below (QW D none (wMod D Ax th ns fog nr nm nl (rkM Lx ns nr nm)) A0) ([.ref (Ax 0)] : List Value).toArray s 0 0 A0) (F0 m 2 ls []) := by
    intro j1
    induction j1 with
    | zero =>
      intro k1 hk1 x1_1 e1_1 yxL_1 eyxL_1  H locs hP hD hS ls hl
      subst e1_1 eyxL_1
      have hkN1 : 100 = k1 := (by omega)
      subst hkN1
      refine lv_iload_n hx hb dX7_reckon_2 rfl (lv_at hl 0 rfl) ?_
      refine lv_bipush (v := 100) hx hb dX7_reckon_3 (by decide) ?_
      refine lv_icmp_ge (tgt := 44) hx hb dX7_reckon_5 (by decide) (fun c2 => ?_) (fun c2 => ?_)
      · refine lv_iconst (v := 0) hx hb dX7_reckon_44 (by decide) ?_
        refine lv_istore_n (lv' := [(1, .int 0), (0, .ref (Ax 0))]) hx hb dX7_reckon_45 rfl hl (by decide) rfl (fun ls hl => ?_)
        have lp3 : ∀ (j3 : Nat) (k3 : Nat) (hk3 : k3 + j3 = nr) (x1_3 : Int32) (e1_3 : x1_3 = (nI k3)) (yxL_3 : Nat → Nat → Int32) (eyxL_3 : yxL_3 = (rk1 (rk0 Lx 100) nm k3)) (H : Heap) (locs : List Loc) (hP : va_P D.1 vwCl (wMod D Ax th ns fog nr nm nl yxL_3) H) (hD : va_D A0 (wMod D Ax th ns fog nr nm nl yxL_3)) (hS : va_S A0 s.heap H locs) (ls : Array Slot) (hl : lv_has ls 6 [(1, .int x1_3), (0, .ref (Ax 0))]), W p l e (headSpec wsX7_reckon ({ frames := 3, cells := 0, slots := 0, locals := 66 } : Room)).room s m ([.ref (Ax 0)] : List Value).toArray below meth c H locs 0 0 (MQ below (QW D none (wMod D Ax th ns fog nr nm nl (rkM Lx ns nr nm)) A0) ([.ref (Ax 0)] : List Value).toArray s 0 0 A0) (F0 m 46 ls []) := by
          intro j3
          induction j3 with
          | zero =>
            intro k3 hk3 x1_3 e1_3 yxL_3 eyxL_3  H locs hP hD hS ls hl
            subst e1_3 eyxL_3
            have hkN3 : nr = k3 := (by omega)
            subst hkN3
            refine lv_iload_n hx hb dX7_reckon_46 rfl (lv_at hl 0 rfl) ?_
            refine lv_aload_n hx hb dX7_reckon_47 rfl (lv_at hl 1 rfl) ?_
            refine va_get (D := D.1) (ci := 7) (v := .int (nI nr)) (C := RX7) (T := TX7) (N := 14) hx hb hts hinX7 hown hK hP 0 rfl rfl 5 (by decide) (hts (.fieldLink RX7 45 "MountainPostModel" "roads" "I") (List.mem_of_getElem? (i := 4) rfl)) (fun _ h9 => h9) rfl dX7_reckon_48 ?_
            refine lv_icmp_ge (tgt := 130) hx hb dX7_reckon_51 (by decide) (fun c4 => ?_) (fun c4 => ?_)
            · refine lv_iconst (v := 0) hx hb dX7_reckon_130 (by decide) ?_
              refine lv_istore_n (lv' := [(1, .int 0), (0, .ref (Ax 0))]) hx hb dX7_reckon_131 rfl hl (by decide) rfl (fun ls hl => ?_)
              have lp5 : ∀ (j5 : Nat) (k5 : Nat) (hk5 : k5 + j5 = ns) (x1_5 : Int32) (e1_5 : x1_5 = (nI k5)) (yxL_5 : Nat → Nat → Int32) (eyxL_5 : yxL_5 = (rj1 (rk1 (rk0 Lx 100) nm nr) ns k5)) (H : Heap) (locs : List Loc) (hP : va_P D.1 vwCl (wMod D Ax th ns fog nr nm nl yxL_5) H) (hD : va_D A0 (wMod D Ax th ns fog nr nm nl yxL_5)) (hS : va_S A0 s.heap H locs) (ls : Array Slot) (hl : lv_has ls 6 [(1, .int x1_5), (0, .ref (Ax 0))]), W p l e (headSpec wsX7_reckon ({ frames := 3, cells := 0, slots := 0, locals := 66 } : Room)).room s m ([.ref (Ax 0)] : List Value).toArray below meth c H locs 0 0 (MQ below (QW D none (wMod D Ax th ns fog nr nm nl (rkM Lx ns nr nm)) A0) ([.ref (Ax 0)] : List Value).toArray s 0 0 A0) (F0 m 132 ls []) := by
                intro j5
                induction j5 with
                | zero =>
                  intro k5 hk5 x1_5 e1_5 yxL_5 eyxL_5  H locs hP hD hS ls hl
                  subst e1_5 eyxL_5
                  have hkN5 : ns = k5 := (by omega)
                  subst hkN5
                  refine lv_iload_n hx hb dX7_reckon_132 rfl (lv_at hl 0 rfl) ?_
                  refine lv_aload_n hx hb dX7_reckon_133 rfl (lv_at hl 1 rfl) ?_
                  refine va_get (D := D.1) (ci := 7) (v := .int (nI ns)) (C := RX7) (T := TX7) (N := 14) hx hb hts hinX7 hown hK hP 0 rfl rfl 1 (by decide) (hts (.fieldLink RX7 38 "MountainPostModel" "stations" "I") (List.mem_of_getElem? (i := 9) rfl)) (fun _ h9 => h9) rfl dX7_reckon_134 ?_
                  refine lv_icmp_ge (tgt := 226) hx hb dX7_reckon_137 (by decide) (fun c6 => ?_) (fun c6 => ?_)
                  · refine lv_aload_n hx hb dX7_reckon_226 rfl (lv_at hl 1 rfl) ?_
                    refine va_get (D := D.1) (ci := 7) (v := .int (nI nr)) (C := RX7) (T := TX7) (N := 14) hx hb hts hinX7 hown hK hP 0 rfl rfl 5 (by decide) (hts (.fieldLink RX7 45 "MountainPostModel" "roads" "I") (List.mem_of_getElem? (i := 4) rfl)) (fun _ h9 => h9) rfl dX7_reckon_227 ?_
                    refine lv_iconst (v := 1) hx hb dX7_reckon_230 (by decide) ?_
                    refine lv_isub hx hb dX7_reckon_231 ?_
                    refine lv_istore_n (lv' := [(1, .int ((nI nr) - 1)), (0, .ref (Ax 0))]) hx hb dX7_reckon_232 rfl hl (by decide) rfl (fun ls hl => ?_)
                    have lp7 : ∀ (j7 : Nat) (Lz : Nat → Nat → Int32) (hj : j7 ≤ nr) (h2 : Lz 2 = Lx 2) (hw : rfR ns nm j7 Lz = rkM Lx ns nr nm) (x1_7 : Int32) (e1_7 : x1_7 = (nI j7 - 1)) (H : Heap) (locs : List Loc) (hP : va_P D.1 vwCl (wMod D Ax th ns fog nr nm nl Lz) H) (hD : va_D A0 (wMod D Ax th ns fog nr nm nl Lz)) (hS : va_S A0 s.heap H locs) (ls : Array Slot) (hl : lv_has ls 6 [(1, .int x1_7), (0, .ref (Ax 0))]), W p l e (headSpec wsX7_reckon ({ frames := 3, cells := 0, slots := 0, locals := 66 } : Room)).room s m ([.ref (Ax 0)] : List Value).toArray below meth c H locs 0 0 (MQ below (QW D none (wMod D Ax th ns fog nr nm nl (rkM Lx ns nr nm)) A0) ([.ref (Ax 0)] : List Value).toArray s 0 0 A0) (F0 m 233 ls []) := by
                      intro j7
                      induction j7 with
                      | zero =>
                        intro Lz hj h2 hw x1_7 e1_7 H locs hP hD hS ls hl
                        subst e1_7
                        refine lv_iload_n hx hb dX7_reckon_233 rfl (lv_at hl 0 rfl) ?_
                        refine lv_if_lt (tgt := 364) hx hb dX7_reckon_234 (by decide) (fun c8 => ?_) (fun c8 => ?_)
                        · exact eWv hx hb hr hlocks dX7_reckon_364 hS hP (by rw [← hw]; rfl)
                        · exact absurd (show nI 0 - 1 < 0 by decide) c8
                      | succ j7 ih =>
                        intro Lz hj h2 hw x1_7 e1_7 H locs hP hD hS ls hl
                        rw [nI_pred] at e1_7
                        subst e1_7
                        refine lv_iload_n hx hb dX7_reckon_233 rfl (lv_at hl 0 rfl) ?_
                        refine lv_if_lt (tgt := 364) hx hb dX7_reckon_234 (by decide) (fun c9 => ?_) (fun c9 => ?_)
                        · exact absurd c9 (nI_pos (by omega))
                        · refine lv_aload_n hx hb dX7_reckon_237 rfl (lv_at hl 1 rfl) ?_
                          refine lv_iload_n hx hb dX7_reckon_238 rfl (lv_at hl 0 rfl) ?_
                          refine lv_iconst (v := 0) hx hb dX7_reckon_239 (by decide) ?_
                          refine kVp ⟨hx, hb, hml, hown, hts⟩ (c_X7_mulesOn l D Ax th ns fog nr nm nl Lz (nI j7) 0 (by assumption)) (cwV 2 hts gX7_reckon_X7_mulesOn rfl rfl rfl (by decide +kernel) ⟨Nat.le_of_ble_eq_true rfl, Nat.le_of_ble_eq_true rfl⟩) hK hN hP hD Sb.self 7 0 rfl rfl rfl hl.1 (Nat.le_of_ble_eq_true rfl) ⟨Nat.zero_le _, Nat.zero_le _⟩ dX7_reckon_240 ?_ rfl
                          refine lv_if_ne (tgt := 249) hx hb dX7_reckon_243 (by decide) (fun c10 => ?_) (fun c10 => ?_)
                          · refine lv_iconst (v := 0) hx hb dX7_reckon_249 (by decide) ?_
                            refine lv_istore_n (lv' := [(2, .int 0), (1, .int (nI j7)), (0, .ref (Ax 0))]) hx hb dX7_reckon_250 rfl hl (by decide) rfl (fun ls hl => ?_)
                            have lp11 : ∀ (j11 : Nat) (k11 : Nat) (hk11 : k11 + j11 = 2) (x2_11 : Int32) (e2_11 : x2_11 = (nI k11)) (yxL_11 : Nat → Nat → Int32) (eyxL_11 : yxL_11 = (rfE Lz (nI j7) ns k11)) (H : Heap) (locs : List Loc) (hP : va_P D.1 vwCl (wMod D Ax th ns fog nr nm nl yxL_11) H) (hD : va_D A0 (wMod D Ax th ns fog nr nm nl yxL_11)) (hS : va_S A0 s.heap H locs) (ls : Array Slot) (hl : lv_has ls 6 [(2, .int x2_11), (1, .int (nI j7)), (0, .ref (Ax 0))]), W p l e (headSpec wsX7_reckon ({ frames := 3, cells := 0, slots := 0, locals := 66 } : Room)).room s m ([.ref (Ax 0)] : List Value).toArray below meth c H locs 0 0 (MQ below (QW D none (wMod D Ax th ns fog nr nm nl (rkM Lx ns nr nm)) A0) ([.ref (Ax 0)] : List Value).toArray s 0 0 A0) (F0 m 251 ls []) := by
                              intro j11
                              induction j11 with
                              | zero =>
                                intro k11 hk11 x2_11 e2_11 yxL_11 eyxL_11  H locs hP hD hS ls hl
                                subst e2_11 eyxL_11
                                have hkN11 : 2 = k11 := (by omega)
                                subst hkN11
                                refine lv_iload_n hx hb dX7_reckon_251 rfl (lv_at hl 0 rfl) ?_
                                refine lv_iconst (v := 1) hx hb dX7_reckon_252 (by decide) ?_
                                refine lv_icmp_gt (tgt := 358) hx hb dX7_reckon_253 (by decide) (fun c12 => ?_) (fun c12 => ?_)
                                · refine lv_iinc (v := ((nI j7) + (-1))) (lv' := [(1, .int ((nI j7) + (-1))), (2, .int (nI 2)), (0, .ref (Ax 0))]) hx hb dX7_reckon_358 hl (k := 1) rfl rfl (by decide) rfl (fun ls hl => ?_)
                                  refine lv_goto (tgt := 233) hx hb dX7_reckon_361 (by decide) ?_
                                  exact ih _ (by omega) (by simp only [rfE_2, h2]) (by (rw [← hw, rfR, if_neg c10]; first | done | rfl)) _ (add_m1 _) _ _ hP hD hS ls (lv_sub hl [0, 2] rfl)
                                · exact absurd (show (1 : Int32) < nI 2 by decide) c12
                              | succ j11 ih =>
                                intro k11 hk11 x2_11 e2_11 yxL_11 eyxL_11  H locs hP hD hS ls hl
                                subst e2_11 eyxL_11
                                have hlt11 : k11 < 2 := by omega
                                have hlt : k11 < 2 := hlt11
                                refine lv_iload_n hx hb dX7_reckon_251 rfl (lv_at hl 0 rfl) ?_
                                refine lv_iconst (v := 1) hx hb dX7_reckon_252 (by decide) ?_
                                refine lv_icmp_gt (tgt := 358) hx hb dX7_reckon_253 (by decide) (fun c13 => ?_) (fun c13 => ?_)
                                · exact absurd c13 (gt2 hlt11)
                                · refine lv_aload_n hx hb dX7_reckon_256 rfl (lv_at hl 2 rfl) ?_
                                  refine lv_iload_n hx hb dX7_reckon_257 rfl (lv_at hl 1 rfl) ?_
                                  refine lv_iload_n hx hb dX7_reckon_258 rfl (lv_at hl 0 rfl) ?_
                                  refine kVp ⟨hx, hb, hml, hown, hts⟩ (c_X7_ro l D Ax th ns fog nr nm nl (rfE Lz (nI j7) ns k11) (nI j7) (nI k11) (ixr (vd_k (by omega)) b15 k11 (by omega))) (cwV 2 hts gX7_reckon_X7_ro rfl rfl rfl (by decide +kernel) ⟨Nat.le_of_ble_eq_true rfl, Nat.le_of_ble_eq_true rfl⟩) hK hN hP hD Sb.self 7 0 rfl rfl rfl hl.1 (Nat.le_of_ble_eq_true rfl) ⟨Nat.zero_le _, Nat.zero_le _⟩ dX7_reckon_259 ?_ rfl
                                  refine lv_istore_n (lv' := [(3, .int (roM (rfE Lz (nI j7) ns k11) (nI j7) (nI k11))), (2, .int (nI k11)), (1, .int (nI j7)), (0, .ref (Ax 0))]) hx hb dX7_reckon_262 rfl hl (by decide) rfl (fun ls hl => ?_)
                                  refine lv_iconst (v := 0) hx hb dX7_reckon_263 (by decide) ?_
                                  refine lv_istore (lv' := [(4, .int 0), (3, .int (roM (rfE Lz (nI j7) ns k11) (nI j7) (nI k11))), (2, .int (nI k11)), (1, .int (nI j7)), (0, .ref (Ax 0))]) hx hb dX7_reckon_264 hl (by decide) rfl (fun ls hl => ?_)
                                  have lp14 : ∀ (j14 : Nat) (k14 : Nat) (hk14 : k14 + j14 = ns) (x4_14 : Int32) (e4_14 : x4_14 = (nI k14)) (yxL_14 : Nat → Nat → Int32) (eyxL_14 : yxL_14 = (rfT (rfE Lz (nI j7) ns k11) (nI j7) (roM (rfE Lz (nI j7) ns k11) (nI j7) (nI k11)) k11 k14)) (H : Heap) (locs : List Loc) (hP : va_P D.1 vwCl (wMod D Ax th ns fog nr nm nl yxL_14) H) (hD : va_D A0 (wMod D Ax th ns fog nr nm nl yxL_14)) (hS : va_S A0 s.heap H locs) (ls : Array Slot) (hl : lv_has ls 6 [(4, .int x4_14), (3, .int (roM (rfE Lz (nI j7) ns k11) (nI j7) (nI k11))), (2, .int (nI k11)), (1, .int (nI j7)), (0, .ref (Ax 0))]), W p l e (headSpec wsX7_reckon ({ frames := 3, cells := 0, slots := 0, locals := 66 } : Room)).room s m ([.ref (Ax 0)] : List Value).toArray below meth c H locs 0 0 (MQ below (QW D none (wMod D Ax th ns fog nr nm nl (rkM Lx ns nr nm)) A0) ([.ref (Ax 0)] : List Value).toArray s 0 0 A0) (F0 m 266 ls []) := by
                                    intro j14
                                    induction j14 with
                                    | zero =>
                                      intro k14 hk14 x4_14 e4_14 yxL_14 eyxL_14  H locs hP hD hS ls hl
                                      subst e4_14 eyxL_14
                                      have hkN14 : ns = k14 := (by omega)
                                      subst hkN14
                                      refine lv_iload hx hb dX7_reckon_266 (lv_at hl 0 rfl) ?_
                                      refine lv_aload_n hx hb dX7_reckon_268 rfl (lv_at hl 4 rfl) ?_
                                      refine va_get (D := D.1) (ci := 7) (v := .int (nI ns)) (C := RX7) (T := TX7) (N := 14) hx hb hts hinX7 hown hK hP 0 rfl rfl 1 (by decide) (hts (.fieldLink RX7 38 "MountainPostModel" "stations" "I") (List.mem_of_getElem? (i := 9) rfl)) (fun _ h9 => h9) rfl dX7_reckon_269 ?_
                                      refine lv_icmp_ge (tgt := 352) hx hb dX7_reckon_272 (by decide) (fun c15 => ?_) (fun c15 => ?_)
                                      · refine lv_iinc (v := ((nI k11) + 1)) (lv' := [(2, .int ((nI k11) + 1)), (4, .int (nI ns)), (3, .int (roM (rfE Lz (nI j7) ns k11) (nI j7) (nI k11))), (1, .int (nI j7)), (0, .ref (Ax 0))]) hx hb dX7_reckon_352 hl (k := 2) rfl rfl (by decide) rfl (fun ls hl => ?_)
                                        refine lv_goto (tgt := 251) hx hb dX7_reckon_355 (by decide) ?_
                                        exact ih (k11 + 1) (by omega) _ (nI_1 k11) _ rfl _ _ hP hD hS ls (lv_sub hl [0, 3, 4] rfl)
                                      · exact (up0 rfl c15).elim
                                    | succ j14 ih =>
                                      intro k14 hk14 x4_14 e4_14 yxL_14 eyxL_14  H locs hP hD hS ls hl
                                      subst e4_14 eyxL_14
                                      have hlt14 : k14 < ns := by omega
                                      have hlt : k14 < ns := hlt14
                                      refine lv_iload hx hb dX7_reckon_266 (lv_at hl 0 rfl) ?_
                                      refine lv_aload_n hx hb dX7_reckon_268 rfl (lv_at hl 4 rfl) ?_
                                      refine va_get (D := D.1) (ci := 7) (v := .int (nI ns)) (C := RX7) (T := TX7) (N := 14) hx hb hts hinX7 hown hK hP 0 rfl rfl 1 (by decide) (hts (.fieldLink RX7 38 "MountainPostModel" "stations" "I") (List.mem_of_getElem? (i := 9) rfl)) (fun _ h9 => h9) rfl dX7_reckon_269 ?_
                                      refine lv_icmp_ge (tgt := 352) hx hb dX7_reckon_272 (by decide) (fun c16 => ?_) (fun c16 => ?_)
                                      · exact (upS hk14 (by omega) c16).elim
                                      · refine lv_aload_n hx hb dX7_reckon_275 rfl (lv_at hl 4 rfl) ?_
                                        refine lv_iload_n hx hb dX7_reckon_276 rfl (lv_at hl 3 rfl) ?_
                                        refine lv_iload_n hx hb dX7_reckon_277 rfl (lv_at hl 1 rfl) ?_
                                        refine kVp ⟨hx, hb, hml, hown, hts⟩ (c_X7_hoursFrom l D Ax th ns fog nr nm nl (rfT (rfE Lz (nI j7) ns k11) (nI j7) (roM (rfE Lz (nI j7) ns k11) (nI j7) (nI k11)) k11 k14) (nI j7) (roM (rfE Lz (nI j7) ns k11) (nI j7) (nI k11)) (by assumption) (by assumption) (vd_k (by omega)) (okR_e (okR_of (by simp only [rk0_2, rkE_2, rk1_2, rj3_2, rj2_2, rj1_2, rfT_2, rfE_2, sr6, sr7, h2]) hk) (vd_k (by omega)) (by omega)) (okR_of (by simp only [rk0_2, rkE_2, rk1_2, rj3_2, rj2_2, rj1_2, rfT_2, rfE_2, sr6, sr7, h2]) hk)) (cwV 2 hts gX7_reckon_X7_hoursFrom rfl rfl rfl (by decide +kernel) ⟨Nat.le_of_ble_eq_true rfl, Nat.le_of_ble_eq_true rfl⟩) hK hN hP hD Sb.self 7 0 rfl rfl rfl hl.1 (Nat.le_of_ble_eq_true rfl) ⟨Nat.zero_le _, Nat.zero_le _⟩ dX7_reckon_278 ?_ rfl
                                        refine lv_aload_n hx hb dX7_reckon_281 rfl (lv_at hl 4 rfl) ?_
                                        refine va_get (D := D.1) (ci := 7) (v := .ref (Ax 7)) (C := RX7) (T := TX7) (N := 14) hx hb hts hinX7 hown hK hP 0 rfl rfl 12 (by decide) (hts (.fieldLink RX7 28 "MountainPostModel" "far" "[I") (List.mem_of_getElem? (i := 1) rfl)) (fun _ h9 => h9) rfl dX7_reckon_282 ?_
                                        refine lv_bipush (v := 10) hx hb dX7_reckon_285 (by decide) ?_
                                        refine lv_aload_n hx hb dX7_reckon_287 rfl (lv_at hl 4 rfl) ?_
                                        refine lv_iload_n hx hb dX7_reckon_288 rfl (lv_at hl 3 rfl) ?_
                                        refine lv_iconst (v := 1) hx hb dX7_reckon_289 (by decide) ?_
                                        refine lv_iload_n hx hb dX7_reckon_290 rfl (lv_at hl 2 rfl) ?_
                                        refine lv_isub hx hb dX7_reckon_291 ?_
                                        rw [show (1 - (nI k11)) = (nI (1 - k11)) from pk_sub (a := 1) (b := k11) (by omega)]
                                        refine kVp ⟨hx, hb, hml, hown, hts⟩ (c_X7_ro l D Ax th ns fog nr nm nl (rfT (rfE Lz (nI j7) ns k11) (nI j7) (roM (rfE Lz (nI j7) ns k11) (nI j7) (nI k11)) k11 k14) (nI j7) (nI (1 - k11)) (ixr (vd_k (by omega)) b15 (1 - k11) (by omega))) (cwV 2 hts gX7_reckon_X7_ro rfl rfl rfl (by decide +kernel) ⟨Nat.le_of_ble_eq_true rfl, Nat.le_of_ble_eq_true rfl⟩) hK hN hP hD Sb.self 7 0 rfl rfl rfl hl.1 (Nat.le_of_ble_eq_true rfl) ⟨Nat.zero_le _, Nat.zero_le _⟩ dX7_reckon_292 ?_ rfl
                                        refine lv_imul hx hb dX7_reckon_295 ?_
                                        refine lv_iload hx hb dX7_reckon_296 (lv_at hl 0 rfl) ?_
                                        refine lv_iadd hx hb dX7_reckon_298 ?_
                                        refine va_iald (D := D.1) hx hb hK hP 7 0 rfl rfl (ixs (okR_e (okR_of (by simp only [rk0_2, rkE_2, rk1_2, rj3_2, rj2_2, rj1_2, rfT_2, rfE_2, sr6, sr7, h2]) hk) (vd_k (by omega)) (by omega)) (vd_k (by omega)) b10) dX7_reckon_299 ?_
                                        rw [show (((rfT (rfE Lz (nI j7) ns k11) (nI j7) (roM (rfE Lz (nI j7) ns k11) (nI j7) (nI k11)) k11 k14) 6) ((10 * (roM (rfT (rfE Lz (nI j7) ns k11) (nI j7) (roM (rfE Lz (nI j7) ns k11) (nI j7) (nI k11)) k11 k14) (nI j7) (nI (1 - k11)))) + (nI k14)).toNatClampNeg) = (rg 100 ((rfT (rfE Lz (nI j7) ns k11) (nI j7) (roM (rfE Lz (nI j7) ns k11) (nI j7) (nI k11)) k11 k14) 6) ((10 * (roM (rfT (rfE Lz (nI j7) ns k11) (nI j7) (roM (rfE Lz (nI j7) ns k11) (nI j7) (nI k11)) k11 k14) (nI j7) (nI (1 - k11)))) + (nI k14))) from (rg_vp (ixs (okR_e (okR_of (by simp only [rk0_2, rkE_2, rk1_2, rj3_2, rj2_2, rj1_2, rfT_2, rfE_2, sr6, sr7, h2]) hk) (vd_k (by omega)) (by omega)) (vd_k (by omega)) b10)).symm]
                                        refine lv_iadd hx hb dX7_reckon_300 ?_
                                        refine lv_istore (lv' := [(5, .int ((hrsM (rfT (rfE Lz (nI j7) ns k11) (nI j7) (roM (rfE Lz (nI j7) ns k11) (nI j7) (nI k11)) k11 k14) (nI j7) (roM (rfE Lz (nI j7) ns k11) (nI j7) (nI k11))) + (rg 100 ((rfT (rfE Lz (nI j7) ns k11) (nI j7) (roM (rfE Lz (nI j7) ns k11) (nI j7) (nI k11)) k11 k14) 6) ((10 * (roM (rfT (rfE Lz (nI j7) ns k11) (nI j7) (roM (rfE Lz (nI j7) ns k11) (nI j7) (nI k11)) k11 k14) (nI j7) (nI (1 - k11)))) + (nI k14))))), (4, .int (nI k14)), (3, .int (roM (rfE Lz (nI j7) ns k11) (nI j7) (nI k11))), (2, .int (nI k11)), (1, .int (nI j7)), (0, .ref (Ax 0))]) hx hb dX7_reckon_301 hl (by decide) rfl (fun ls hl => ?_)
                                        refine lv_iload_n hx hb dX7_reckon_303 rfl (lv_at hl 2 rfl) ?_
                                        refine lv_iload hx hb dX7_reckon_304 (lv_at hl 1 rfl) ?_
                                        refine lv_icmp_eq (tgt := 346) hx hb dX7_reckon_306 (by decide) (fun c17 => ?_) (fun c17 => ?_)
                                        · refine lv_iinc (v := ((nI k14) + 1)) (lv' := [(4, .int ((nI k14) + 1)), (5, .int ((hrsM (rfT (rfE Lz (nI j7) ns k11) (nI j7) (roM (rfE Lz (nI j7) ns k11) (nI j7) (nI k11)) k11 k14) (nI j7) (roM (rfE Lz (nI j7) ns k11) (nI j7) (nI k11))) + (rg 100 ((rfT (rfE Lz (nI j7) ns k11) (nI j7) (roM (rfE Lz (nI j7) ns k11) (nI j7) (nI k11)) k11 k14) 6) ((10 * (roM (rfT (rfE Lz (nI j7) ns k11) (nI j7) (roM (rfE Lz (nI j7) ns k11) (nI j7) (nI k11)) k11 k14) (nI j7) (nI (1 - k11)))) + (nI k14))))), (3, .int (roM (rfE Lz (nI j7) ns k11) (nI j7) (nI k11))), (2, .int (nI k11)), (1, .int (nI j7)), (0, .ref (Ax 0))]) hx hb dX7_reckon_346 hl (k := 1) rfl rfl (by decide) rfl (fun ls hl => ?_)
                                          refine lv_goto (tgt := 266) hx hb dX7_reckon_349 (by decide) ?_
                                          exact ih (k14 + 1) (by omega) _ (nI_1 k14) _ (by (rw [rfT, if_pos c17]; first | done | rfl)) _ _ hP hD hS ls (lv_sub hl [0, 2, 3, 4, 5] rfl)
                                        · refine lv_iload hx hb dX7_reckon_309 (lv_at hl 0 rfl) ?_
                                          refine lv_ldc hx hb hown (hts (.constant RX7 137 (99999)) (List.mem_of_getElem? (i := 2) rfl)) dX7_reckon_311 ?_
                                          refine lv_icmp_ge (tgt := 346) hx hb dX7_reckon_313 (by decide) (fun c18 => ?_) (fun c18 => ?_)
                                          · refine lv_iinc (v := ((nI k14) + 1)) (lv' := [(4, .int ((nI k14) + 1)), (5, .int ((hrsM (rfT (rfE Lz (nI j7) ns k11) (nI j7) (roM (rfE Lz (nI j7) ns k11) (nI j7) (nI k11)) k11 k14) (nI j7) (roM (rfE Lz (nI j7) ns k11) (nI j7) (nI k11))) + (rg 100 ((rfT (rfE Lz (nI j7) ns k11) (nI j7) (roM (rfE Lz (nI j7) ns k11) (nI j7) (nI k11)) k11 k14) 6) ((10 * (roM (rfT (rfE Lz (nI j7) ns k11) (nI j7) (roM (rfE Lz (nI j7) ns k11) (nI j7) (nI k11)) k11 k14) (nI j7) (nI (1 - k11)))) + (nI k14))))), (3, .int (roM (rfE Lz (nI j7) ns k11) (nI j7) (nI k11))), (2, .int (nI k11)), (1, .int (nI j7)), (0, .ref (Ax 0))]) hx hb dX7_reckon_346 hl (k := 1) rfl rfl (by decide) rfl (fun ls hl => ?_)
                                            refine lv_goto (tgt := 266) hx hb dX7_reckon_349 (by decide) ?_
                                            exact ih (k14 + 1) (by omega) _ (nI_1 k14) _ (by (rw [rfT, if_neg c17, if_pos (show 99999 ≤ itM _ _ _ _ _ from c18)]; first | done | rfl)) _ _ hP hD hS ls (lv_sub hl [0, 2, 3, 4, 5] rfl)
                                          · refine lv_iload hx hb dX7_reckon_316 (lv_at hl 0 rfl) ?_
                                            refine lv_aload_n hx hb dX7_reckon_318 rfl (lv_at hl 5 rfl) ?_
                                            refine va_get (D := D.1) (ci := 7) (v := .ref (Ax 7)) (C := RX7) (T := TX7) (N := 14) hx hb hts hinX7 hown hK hP 0 rfl rfl 12 (by decide) (hts (.fieldLink RX7 28 "MountainPostModel" "far" "[I") (List.mem_of_getElem? (i := 1) rfl)) (fun _ h9 => h9) rfl dX7_reckon_319 ?_
                                            refine lv_bipush (v := 10) hx hb dX7_reckon_322 (by decide) ?_
                                            refine lv_iload_n hx hb dX7_reckon_324 rfl (lv_at hl 2 rfl) ?_
                                            refine lv_imul hx hb dX7_reckon_325 ?_
                                            refine lv_iload hx hb dX7_reckon_326 (lv_at hl 1 rfl) ?_
                                            refine lv_iadd hx hb dX7_reckon_328 ?_
                                            refine va_iald (D := D.1) hx hb hK hP 7 0 rfl rfl (ixs (okR_e (okR_of (by simp only [rk0_2, rkE_2, rk1_2, rj3_2, rj2_2, rj1_2, rfT_2, rfE_2, sr6, sr7, h2]) hk) (vd_k (by omega)) (by omega)) (vd_k (by omega)) b10) dX7_reckon_329 ?_
                                            rw [show (((rfT (rfE Lz (nI j7) ns k11) (nI j7) (roM (rfE Lz (nI j7) ns k11) (nI j7) (nI k11)) k11 k14) 6) ((10 * (roM (rfE Lz (nI j7) ns k11) (nI j7) (nI k11))) + (nI k14)).toNatClampNeg) = (rg 100 ((rfT (rfE Lz (nI j7) ns k11) (nI j7) (roM (rfE Lz (nI j7) ns k11) (nI j7) (nI k11)) k11 k14) 6) ((10 * (roM (rfE Lz (nI j7) ns k11) (nI j7) (nI k11))) + (nI k14))) from (rg_vp (ixs (okR_e (okR_of (by simp only [rk0_2, rkE_2, rk1_2, rj3_2, rj2_2, rj1_2, rfT_2, rfE_2, sr6, sr7, h2]) hk) (vd_k (by omega)) (by omega)) (vd_k (by omega)) b10)).symm]
                                            refine lv_icmp_ne (tgt := 346) hx hb dX7_reckon_330 (by decide) (fun c19 => ?_) (fun c19 => ?_)
                                            · refine lv_iinc (v := ((nI k14) + 1)) (lv' := [(4, .int ((nI k14) + 1)), (5, .int ((hrsM (rfT (rfE Lz (nI j7) ns k11) (nI j7) (roM (rfE Lz (nI j7) ns k11) (nI j7) (nI k11)) k11 k14) (nI j7) (roM (rfE Lz (nI j7) ns k11) (nI j7) (nI k11))) + (rg 100 ((rfT (rfE Lz (nI j7) ns k11) (nI j7) (roM (rfE Lz (nI j7) ns k11) (nI j7) (nI k11)) k11 k14) 6) ((10 * (roM (rfT (rfE Lz (nI j7) ns k11) (nI j7) (roM (rfE Lz (nI j7) ns k11) (nI j7) (nI k11)) k11 k14) (nI j7) (nI (1 - k11)))) + (nI k14))))), (3, .int (roM (rfE Lz (nI j7) ns k11) (nI j7) (nI k11))), (2, .int (nI k11)), (1, .int (nI j7)), (0, .ref (Ax 0))]) hx hb dX7_reckon_346 hl (k := 1) rfl rfl (by decide) rfl (fun ls hl => ?_)
                                              refine lv_goto (tgt := 266) hx hb dX7_reckon_349 (by decide) ?_
                                              exact ih (k14 + 1) (by omega) _ (nI_1 k14) _ (by (rw [rfT, if_neg c17, if_neg (show ¬ 99999 ≤ itM _ _ _ _ _ from c18), if_neg (show ¬ itM _ _ _ _ _ = _ from c19)]; first | done | rfl)) _ _ hP hD hS ls (lv_sub hl [0, 2, 3, 4, 5] rfl)
                                            · refine lv_aload_n hx hb dX7_reckon_333 rfl (lv_at hl 5 rfl) ?_
                                              refine va_get (D := D.1) (ci := 7) (v := .ref (Ax 8)) (C := RX7) (T := TX7) (N := 14) hx hb hts hinX7 hown hK hP 0 rfl rfl 13 (by decide) (hts (.fieldLink RX7 31 "MountainPostModel" "first" "[I") (List.mem_of_getElem? (i := 3) rfl)) (fun _ h9 => h9) rfl dX7_reckon_334 ?_
                                              refine lv_bipush (v := 10) hx hb dX7_reckon_337 (by decide) ?_
                                              refine lv_iload_n hx hb dX7_reckon_339 rfl (lv_at hl 2 rfl) ?_
                                              refine lv_imul hx hb dX7_reckon_340 ?_
                                              refine lv_iload hx hb dX7_reckon_341 (lv_at hl 1 rfl) ?_
                                              refine lv_iadd hx hb dX7_reckon_343 ?_
                                              refine lv_iload_n hx hb dX7_reckon_344 rfl (lv_at hl 4 rfl) ?_
                                              refine va_iast (D := D.1) hx hb hK hP hD hS 8 0 rfl rfl (ixs (okR_e (okR_of (by simp only [rk0_2, rkE_2, rk1_2, rj3_2, rj2_2, rj1_2, rfT_2, rfE_2, sr6, sr7, h2]) hk) (vd_k (by omega)) (by omega)) (vd_k (by omega)) b10) dX7_reckon_345 (fun H locs hP hD hS => ?_)
                                              have hP : va_P D.1 vwCl (wMod D Ax th ns fog nr nm nl (sr (rfT (rfE Lz (nI j7) ns k11) (nI j7) (roM (rfE Lz (nI j7) ns k11) (nI j7) (nI k11)) k11 k14) 7 (upd ((rfT (rfE Lz (nI j7) ns k11) (nI j7) (roM (rfE Lz (nI j7) ns k11) (nI j7) (nI k11)) k11 k14) 7) ((10 * (roM (rfE Lz (nI j7) ns k11) (nI j7) (nI k11))) + (nI k14)).toNatClampNeg (nI j7)))) H := hP
                                              have hD : va_D A0 (wMod D Ax th ns fog nr nm nl (sr (rfT (rfE Lz (nI j7) ns k11) (nI j7) (roM (rfE Lz (nI j7) ns k11) (nI j7) (nI k11)) k11 k14) 7 (upd ((rfT (rfE Lz (nI j7) ns k11) (nI j7) (roM (rfE Lz (nI j7) ns k11) (nI j7) (nI k11)) k11 k14) 7) ((10 * (roM (rfE Lz (nI j7) ns k11) (nI j7) (nI k11))) + (nI k14)).toNatClampNeg (nI j7)))) := hD
                                              rw [← rs_vp (n := 100) (f := ((rfT (rfE Lz (nI j7) ns k11) (nI j7) (roM (rfE Lz (nI j7) ns k11) (nI j7) (nI k11)) k11 k14) 7)) (x := ((10 * (roM (rfE Lz (nI j7) ns k11) (nI j7) (nI k11))) + (nI k14))) (v := (nI j7)) (ixs (okR_e (okR_of (by simp only [rk0_2, rkE_2, rk1_2, rj3_2, rj2_2, rj1_2, rfT_2, rfE_2, sr6, sr7, h2]) hk) (vd_k (by omega)) (by omega)) (vd_k (by omega)) b10)] at hP hD
                                              refine lv_iinc (v := ((nI k14) + 1)) (lv' := [(4, .int ((nI k14) + 1)), (5, .int ((hrsM (rfT (rfE Lz (nI j7) ns k11) (nI j7) (roM (rfE Lz (nI j7) ns k11) (nI j7) (nI k11)) k11 k14) (nI j7) (roM (rfE Lz (nI j7) ns k11) (nI j7) (nI k11))) + (rg 100 ((rfT (rfE Lz (nI j7) ns k11) (nI j7) (roM (rfE Lz (nI j7) ns k11) (nI j7) (nI k11)) k11 k14) 6) ((10 * (roM (rfT (rfE Lz (nI j7) ns k11) (nI j7) (roM (rfE Lz (nI j7) ns k11) (nI j7) (nI k11)) k11 k14) (nI j7) (nI (1 - k11)))) + (nI k14))))), (3, .int (roM (rfE Lz (nI j7) ns k11) (nI j7) (nI k11))), (2, .int (nI k11)), (1, .int (nI j7)), (0, .ref (Ax 0))]) hx hb dX7_reckon_346 hl (k := 1) rfl rfl (by decide) rfl (fun ls hl => ?_)
                                              refine lv_goto (tgt := 266) hx hb dX7_reckon_349 (by decide) ?_
                                              exact ih (k14 + 1) (by omega) _ (nI_1 k14) _ (by (rw [rfT, if_neg c17, if_neg (show ¬ 99999 ≤ itM _ _ _ _ _ from c18), if_pos (show itM _ _ _ _ _ = _ from c19)]; first | done | rfl)) _ _ hP hD hS ls (lv_sub hl [0, 2, 3, 4, 5] rfl)
                                  exact lp14 ns 0 (by omega) _ nI_0.symm _ rfl _ _ hP hD hS ls (lv_sub hl [0, 1, 2, 3, 4] rfl)
                            exact lp11 2 0 (by omega) _ nI_0.symm _ rfl _ _ hP hD hS ls (lv_sub hl [0, 1, 2] rfl)
                          · refine lv_goto (tgt := 358) hx hb dX7_reckon_246 (by decide) ?_
                            refine lv_iinc (v := ((nI j7) + (-1))) (lv' := [(1, .int ((nI j7) + (-1))), (0, .ref (Ax 0))]) hx hb dX7_reckon_358 hl (k := 0) rfl rfl (by decide) rfl (fun ls hl => ?_)
                            refine lv_goto (tgt := 233) hx hb dX7_reckon_361 (by decide) ?_
                            exact ih _ (by omega) (by simp only [rfE_2, h2]) (by (rw [← hw, rfR, if_pos c10]; first | done | rfl)) _ (add_m1 _) _ _ hP hD hS ls (lv_sub hl [0, 1] rfl)
                    exact lp7 nr (rj1 (rk1 (rk0 Lx 100) nm nr) ns ns) (Nat.le_refl _) (by simp only [rj1_2, rk1_2, rk0_2]) rfl _ rfl _ _ hP hD hS ls (lv_sub hl [0, 1] rfl)
                  · exact (up0 rfl c6).elim
                | succ j5 ih =>
                  intro k5 hk5 x1_5 e1_5 yxL_5 eyxL_5  H locs hP hD hS ls hl
                  subst e1_5 eyxL_5
                  have hlt5 : k5 < ns := by omega
                  have hlt : k5 < ns := hlt5
                  refine lv_iload_n hx hb dX7_reckon_132 rfl (lv_at hl 0 rfl) ?_
                  refine lv_aload_n hx hb dX7_reckon_133 rfl (lv_at hl 1 rfl) ?_
                  refine va_get (D := D.1) (ci := 7) (v := .int (nI ns)) (C := RX7) (T := TX7) (N := 14) hx hb hts hinX7 hown hK hP 0 rfl rfl 1 (by decide) (hts (.fieldLink RX7 38 "MountainPostModel" "stations" "I") (List.mem_of_getElem? (i := 9) rfl)) (fun _ h9 => h9) rfl dX7_reckon_134 ?_
                  refine lv_icmp_ge (tgt := 226) hx hb dX7_reckon_137 (by decide) (fun c20 => ?_) (fun c20 => ?_)
                  · exact (upS hk5 (by omega) c20).elim
                  · refine lv_iconst (v := 0) hx hb dX7_reckon_140 (by decide) ?_
                    refine lv_istore_n (lv' := [(2, .int 0), (1, .int (nI k5)), (0, .ref (Ax 0))]) hx hb dX7_reckon_141 rfl hl (by decide) rfl (fun ls hl => ?_)
                    have lp21 : ∀ (j21 : Nat) (k21 : Nat) (hk21 : k21 + j21 = ns) (x2_21 : Int32) (e2_21 : x2_21 = (nI k21)) (yxL_21 : Nat → Nat → Int32) (eyxL_21 : yxL_21 = (rj2 (rj1 (rk1 (rk0 Lx 100) nm nr) ns k5) ns k5 k21)) (H : Heap) (locs : List Loc) (hP : va_P D.1 vwCl (wMod D Ax th ns fog nr nm nl yxL_21) H) (hD : va_D A0 (wMod D Ax th ns fog nr nm nl yxL_21)) (hS : va_S A0 s.heap H locs) (ls : Array Slot) (hl : lv_has ls 6 [(2, .int x2_21), (1, .int (nI k5)), (0, .ref (Ax 0))]), W p l e (headSpec wsX7_reckon ({ frames := 3, cells := 0, slots := 0, locals := 66 } : Room)).room s m ([.ref (Ax 0)] : List Value).toArray below meth c H locs 0 0 (MQ below (QW D none (wMod D Ax th ns fog nr nm nl (rkM Lx ns nr nm)) A0) ([.ref (Ax 0)] : List Value).toArray s 0 0 A0) (F0 m 142 ls []) := by
                      intro j21
                      induction j21 with
                      | zero =>
                        intro k21 hk21 x2_21 e2_21 yxL_21 eyxL_21  H locs hP hD hS ls hl
                        subst e2_21 eyxL_21
                        have hkN21 : ns = k21 := (by omega)
                        subst hkN21
                        refine lv_iload_n hx hb dX7_reckon_142 rfl (lv_at hl 0 rfl) ?_
                        refine lv_aload_n hx hb dX7_reckon_143 rfl (lv_at hl 2 rfl) ?_
                        refine va_get (D := D.1) (ci := 7) (v := .int (nI ns)) (C := RX7) (T := TX7) (N := 14) hx hb hts hinX7 hown hK hP 0 rfl rfl 1 (by decide) (hts (.fieldLink RX7 38 "MountainPostModel" "stations" "I") (List.mem_of_getElem? (i := 9) rfl)) (fun _ h9 => h9) rfl dX7_reckon_144 ?_
                        refine lv_icmp_ge (tgt := 220) hx hb dX7_reckon_147 (by decide) (fun c22 => ?_) (fun c22 => ?_)
                        · refine lv_iinc (v := ((nI k5) + 1)) (lv' := [(1, .int ((nI k5) + 1)), (2, .int (nI ns)), (0, .ref (Ax 0))]) hx hb dX7_reckon_220 hl (k := 1) rfl rfl (by decide) rfl (fun ls hl => ?_)
                          refine lv_goto (tgt := 132) hx hb dX7_reckon_223 (by decide) ?_
                          exact ih (k5 + 1) (by omega) _ (nI_1 k5) _ rfl _ _ hP hD hS ls (lv_sub hl [0, 2] rfl)
                        · exact (up0 rfl c22).elim
                      | succ j21 ih =>
                        intro k21 hk21 x2_21 e2_21 yxL_21 eyxL_21  H locs hP hD hS ls hl
                        subst e2_21 eyxL_21
                        have hlt21 : k21 < ns := by omega
                        have hlt : k21 < ns := hlt21
                        refine lv_iload_n hx hb dX7_reckon_142 rfl (lv_at hl 0 rfl) ?_
                        refine lv_aload_n hx hb dX7_reckon_143 rfl (lv_at hl 2 rfl) ?_
                        refine va_get (D := D.1) (ci := 7) (v := .int (nI ns)) (C := RX7) (T := TX7) (N := 14) hx hb hts hinX7 hown hK hP 0 rfl rfl 1 (by decide) (hts (.fieldLink RX7 38 "MountainPostModel" "stations" "I") (List.mem_of_getElem? (i := 9) rfl)) (fun _ h9 => h9) rfl dX7_reckon_144 ?_
                        refine lv_icmp_ge (tgt := 220) hx hb dX7_reckon_147 (by decide) (fun c23 => ?_) (fun c23 => ?_)
                        · exact (upS hk21 (by omega) c23).elim
                        · refine lv_iconst (v := 0) hx hb dX7_reckon_150 (by decide) ?_
                          refine lv_istore_n (lv' := [(3, .int 0), (2, .int (nI k21)), (1, .int (nI k5)), (0, .ref (Ax 0))]) hx hb dX7_reckon_151 rfl hl (by decide) rfl (fun ls hl => ?_)
                          have lp24 : ∀ (j24 : Nat) (k24 : Nat) (hk24 : k24 + j24 = ns) (x3_24 : Int32) (e3_24 : x3_24 = (nI k24)) (yxL_24 : Nat → Nat → Int32) (eyxL_24 : yxL_24 = (rj3 (rj2 (rj1 (rk1 (rk0 Lx 100) nm nr) ns k5) ns k5 k21) k5 k21 k24)) (H : Heap) (locs : List Loc) (hP : va_P D.1 vwCl (wMod D Ax th ns fog nr nm nl yxL_24) H) (hD : va_D A0 (wMod D Ax th ns fog nr nm nl yxL_24)) (hS : va_S A0 s.heap H locs) (ls : Array Slot) (hl : lv_has ls 6 [(3, .int x3_24), (2, .int (nI k21)), (1, .int (nI k5)), (0, .ref (Ax 0))]), W p l e (headSpec wsX7_reckon ({ frames := 3, cells := 0, slots := 0, locals := 66 } : Room)).room s m ([.ref (Ax 0)] : List Value).toArray below meth c H locs 0 0 (MQ below (QW D none (wMod D Ax th ns fog nr nm nl (rkM Lx ns nr nm)) A0) ([.ref (Ax 0)] : List Value).toArray s 0 0 A0) (F0 m 152 ls []) := by
                            intro j24
                            induction j24 with
                            | zero =>
                              intro k24 hk24 x3_24 e3_24 yxL_24 eyxL_24  H locs hP hD hS ls hl
                              subst e3_24 eyxL_24
                              have hkN24 : ns = k24 := (by omega)
                              subst hkN24
                              refine lv_iload_n hx hb dX7_reckon_152 rfl (lv_at hl 0 rfl) ?_
                              refine lv_aload_n hx hb dX7_reckon_153 rfl (lv_at hl 3 rfl) ?_
                              refine va_get (D := D.1) (ci := 7) (v := .int (nI ns)) (C := RX7) (T := TX7) (N := 14) hx hb hts hinX7 hown hK hP 0 rfl rfl 1 (by decide) (hts (.fieldLink RX7 38 "MountainPostModel" "stations" "I") (List.mem_of_getElem? (i := 9) rfl)) (fun _ h9 => h9) rfl dX7_reckon_154 ?_
                              refine lv_icmp_ge (tgt := 214) hx hb dX7_reckon_157 (by decide) (fun c25 => ?_) (fun c25 => ?_)
                              · refine lv_iinc (v := ((nI k21) + 1)) (lv' := [(2, .int ((nI k21) + 1)), (3, .int (nI ns)), (1, .int (nI k5)), (0, .ref (Ax 0))]) hx hb dX7_reckon_214 hl (k := 1) rfl rfl (by decide) rfl (fun ls hl => ?_)
                                refine lv_goto (tgt := 142) hx hb dX7_reckon_217 (by decide) ?_
                                exact ih (k21 + 1) (by omega) _ (nI_1 k21) _ rfl _ _ hP hD hS ls (lv_sub hl [0, 2, 3] rfl)
                              · exact (up0 rfl c25).elim
                            | succ j24 ih =>
                              intro k24 hk24 x3_24 e3_24 yxL_24 eyxL_24  H locs hP hD hS ls hl
                              subst e3_24 eyxL_24
                              have hlt24 : k24 < ns := by omega
                              have hlt : k24 < ns := hlt24
                              refine lv_iload_n hx hb dX7_reckon_152 rfl (lv_at hl 0 rfl) ?_
                              refine lv_aload_n hx hb dX7_reckon_153 rfl (lv_at hl 3 rfl) ?_
                              refine va_get (D := D.1) (ci := 7) (v := .int (nI ns)) (C := RX7) (T := TX7) (N := 14) hx hb hts hinX7 hown hK hP 0 rfl rfl 1 (by decide) (hts (.fieldLink RX7 38 "MountainPostModel" "stations" "I") (List.mem_of_getElem? (i := 9) rfl)) (fun _ h9 => h9) rfl dX7_reckon_154 ?_
                              refine lv_icmp_ge (tgt := 214) hx hb dX7_reckon_157 (by decide) (fun c26 => ?_) (fun c26 => ?_)
                              · exact (upS hk24 (by omega) c26).elim
                              · refine lv_aload_n hx hb dX7_reckon_160 rfl (lv_at hl 3 rfl) ?_
                                refine va_get (D := D.1) (ci := 7) (v := .ref (Ax 7)) (C := RX7) (T := TX7) (N := 14) hx hb hts hinX7 hown hK hP 0 rfl rfl 12 (by decide) (hts (.fieldLink RX7 28 "MountainPostModel" "far" "[I") (List.mem_of_getElem? (i := 1) rfl)) (fun _ h9 => h9) rfl dX7_reckon_161 ?_
                                refine lv_bipush (v := 10) hx hb dX7_reckon_164 (by decide) ?_
                                refine lv_iload_n hx hb dX7_reckon_166 rfl (lv_at hl 1 rfl) ?_
                                refine lv_imul hx hb dX7_reckon_167 ?_
                                refine lv_iload_n hx hb dX7_reckon_168 rfl (lv_at hl 0 rfl) ?_
                                refine lv_iadd hx hb dX7_reckon_169 ?_
                                refine lv_aload_n hx hb dX7_reckon_170 rfl (lv_at hl 3 rfl) ?_
                                refine va_get (D := D.1) (ci := 7) (v := .ref (Ax 7)) (C := RX7) (T := TX7) (N := 14) hx hb hts hinX7 hown hK hP 0 rfl rfl 12 (by decide) (hts (.fieldLink RX7 28 "MountainPostModel" "far" "[I") (List.mem_of_getElem? (i := 1) rfl)) (fun _ h9 => h9) rfl dX7_reckon_171 ?_
                                refine lv_bipush (v := 10) hx hb dX7_reckon_174 (by decide) ?_
                                refine lv_iload_n hx hb dX7_reckon_176 rfl (lv_at hl 1 rfl) ?_
                                refine lv_imul hx hb dX7_reckon_177 ?_
                                refine lv_iload_n hx hb dX7_reckon_178 rfl (lv_at hl 0 rfl) ?_
                                refine lv_iadd hx hb dX7_reckon_179 ?_
                                refine va_iald (D := D.1) hx hb hK hP 7 0 rfl rfl (ixs (vd_k (by omega)) (vd_k (by omega)) b10) dX7_reckon_180 ?_
                                rw [show (((rj3 (rj2 (rj1 (rk1 (rk0 Lx 100) nm nr) ns k5) ns k5 k21) k5 k21 k24) 6) ((10 * (nI k21)) + (nI k24)).toNatClampNeg) = (rg 100 ((rj3 (rj2 (rj1 (rk1 (rk0 Lx 100) nm nr) ns k5) ns k5 k21) k5 k21 k24) 6) ((10 * (nI k21)) + (nI k24))) from (rg_vp (ixs (vd_k (by omega)) (vd_k (by omega)) b10)).symm]
                                refine lv_aload_n hx hb dX7_reckon_181 rfl (lv_at hl 3 rfl) ?_
                                refine va_get (D := D.1) (ci := 7) (v := .ref (Ax 7)) (C := RX7) (T := TX7) (N := 14) hx hb hts hinX7 hown hK hP 0 rfl rfl 12 (by decide) (hts (.fieldLink RX7 28 "MountainPostModel" "far" "[I") (List.mem_of_getElem? (i := 1) rfl)) (fun _ h9 => h9) rfl dX7_reckon_182 ?_
                                refine lv_bipush (v := 10) hx hb dX7_reckon_185 (by decide) ?_
                                refine lv_iload_n hx hb dX7_reckon_187 rfl (lv_at hl 1 rfl) ?_
                                refine lv_imul hx hb dX7_reckon_188 ?_
                                refine lv_iload_n hx hb dX7_reckon_189 rfl (lv_at hl 2 rfl) ?_
                                refine lv_iadd hx hb dX7_reckon_190 ?_
                                refine va_iald (D := D.1) hx hb hK hP 7 0 rfl rfl (ixs (vd_k (by omega)) (vd_k (by omega)) b10) dX7_reckon_191 ?_
                                rw [show (((rj3 (rj2 (rj1 (rk1 (rk0 Lx 100) nm nr) ns k5) ns k5 k21) k5 k21 k24) 6) ((10 * (nI k21)) + (nI k5)).toNatClampNeg) = (rg 100 ((rj3 (rj2 (rj1 (rk1 (rk0 Lx 100) nm nr) ns k5) ns k5 k21) k5 k21 k24) 6) ((10 * (nI k21)) + (nI k5))) from (rg_vp (ixs (vd_k (by omega)) (vd_k (by omega)) b10)).symm]
                                refine lv_aload_n hx hb dX7_reckon_192 rfl (lv_at hl 3 rfl) ?_
                                refine va_get (D := D.1) (ci := 7) (v := .ref (Ax 7)) (C := RX7) (T := TX7) (N := 14) hx hb hts hinX7 hown hK hP 0 rfl rfl 12 (by decide) (hts (.fieldLink RX7 28 "MountainPostModel" "far" "[I") (List.mem_of_getElem? (i := 1) rfl)) (fun _ h9 => h9) rfl dX7_reckon_193 ?_
                                refine lv_bipush (v := 10) hx hb dX7_reckon_196 (by decide) ?_
                                refine lv_iload_n hx hb dX7_reckon_198 rfl (lv_at hl 2 rfl) ?_
                                refine lv_imul hx hb dX7_reckon_199 ?_
                                refine lv_iload_n hx hb dX7_reckon_200 rfl (lv_at hl 0 rfl) ?_
                                refine lv_iadd hx hb dX7_reckon_201 ?_
                                refine va_iald (D := D.1) hx hb hK hP 7 0 rfl rfl (ixs (vd_k (by omega)) (vd_k (by omega)) b10) dX7_reckon_202 ?_
                                rw [show (((rj3 (rj2 (rj1 (rk1 (rk0 Lx 100) nm nr) ns k5) ns k5 k21) k5 k21 k24) 6) ((10 * (nI k5)) + (nI k24)).toNatClampNeg) = (rg 100 ((rj3 (rj2 (rj1 (rk1 (rk0 Lx 100) nm nr) ns k5) ns k5 k21) k5 k21 k24) 6) ((10 * (nI k5)) + (nI k24))) from (rg_vp (ixs (vd_k (by omega)) (vd_k (by omega)) b10)).symm]
                                refine lv_iadd hx hb dX7_reckon_203 ?_
                                refine va_mmin hx hb (hml.trans hl.1.symm) hown (hts (.methodLink RX7 138 Lib.Math.min.name) (List.mem_of_getElem? (i := 5) rfl)) (hts (.static Lib.Math.min.name) (List.mem_of_getElem? (i := 6) rfl)) (hts (.initialized "java/lang/Math") (List.mem_of_getElem? (i := 7) rfl)) (hts (.code Lib.Math.min.name Lib.Math.min.code 2 (some .int)) (List.mem_of_getElem? (i := 8) rfl)) (Nat.le_of_ble_eq_true rfl) (Nat.le_of_ble_eq_true rfl) (Nat.zero_le _) (Nat.zero_le _) dX7_reckon_204 ?_
                                refine va_iast (D := D.1) hx hb hK hP hD hS 7 0 rfl rfl (ixs (vd_k (by omega)) (vd_k (by omega)) b10) dX7_reckon_207 (fun H locs hP hD hS => ?_)
                                have hP : va_P D.1 vwCl (wMod D Ax th ns fog nr nm nl (sr (rj3 (rj2 (rj1 (rk1 (rk0 Lx 100) nm nr) ns k5) ns k5 k21) k5 k21 k24) 6 (upd ((rj3 (rj2 (rj1 (rk1 (rk0 Lx 100) nm nr) ns k5) ns k5 k21) k5 k21 k24) 6) ((10 * (nI k21)) + (nI k24)).toNatClampNeg (if ((rg 100 ((rj3 (rj2 (rj1 (rk1 (rk0 Lx 100) nm nr) ns k5) ns k5 k21) k5 k21 k24) 6) ((10 * (nI k21)) + (nI k5))) + (rg 100 ((rj3 (rj2 (rj1 (rk1 (rk0 Lx 100) nm nr) ns k5) ns k5 k21) k5 k21 k24) 6) ((10 * (nI k5)) + (nI k24)))) < (rg 100 ((rj3 (rj2 (rj1 (rk1 (rk0 Lx 100) nm nr) ns k5) ns k5 k21) k5 k21 k24) 6) ((10 * (nI k21)) + (nI k24))) then ((rg 100 ((rj3 (rj2 (rj1 (rk1 (rk0 Lx 100) nm nr) ns k5) ns k5 k21) k5 k21 k24) 6) ((10 * (nI k21)) + (nI k5))) + (rg 100 ((rj3 (rj2 (rj1 (rk1 (rk0 Lx 100) nm nr) ns k5) ns k5 k21) k5 k21 k24) 6) ((10 * (nI k5)) + (nI k24)))) else (rg 100 ((rj3 (rj2 (rj1 (rk1 (rk0 Lx 100) nm nr) ns k5) ns k5 k21) k5 k21 k24) 6) ((10 * (nI k21)) + (nI k24))))))) H := hP
                                have hD : va_D A0 (wMod D Ax th ns fog nr nm nl (sr (rj3 (rj2 (rj1 (rk1 (rk0 Lx 100) nm nr) ns k5) ns k5 k21) k5 k21 k24) 6 (upd ((rj3 (rj2 (rj1 (rk1 (rk0 Lx 100) nm nr) ns k5) ns k5 k21) k5 k21 k24) 6) ((10 * (nI k21)) + (nI k24)).toNatClampNeg (if ((rg 100 ((rj3 (rj2 (rj1 (rk1 (rk0 Lx 100) nm nr) ns k5) ns k5 k21) k5 k21 k24) 6) ((10 * (nI k21)) + (nI k5))) + (rg 100 ((rj3 (rj2 (rj1 (rk1 (rk0 Lx 100) nm nr) ns k5) ns k5 k21) k5 k21 k24) 6) ((10 * (nI k5)) + (nI k24)))) < (rg 100 ((rj3 (rj2 (rj1 (rk1 (rk0 Lx 100) nm nr) ns k5) ns k5 k21) k5 k21 k24) 6) ((10 * (nI k21)) + (nI k24))) then ((rg 100 ((rj3 (rj2 (rj1 (rk1 (rk0 Lx 100) nm nr) ns k5) ns k5 k21) k5 k21 k24) 6) ((10 * (nI k21)) + (nI k5))) + (rg 100 ((rj3 (rj2 (rj1 (rk1 (rk0 Lx 100) nm nr) ns k5) ns k5 k21) k5 k21 k24) 6) ((10 * (nI k5)) + (nI k24)))) else (rg 100 ((rj3 (rj2 (rj1 (rk1 (rk0 Lx 100) nm nr) ns k5) ns k5 k21) k5 k21 k24) 6) ((10 * (nI k21)) + (nI k24))))))) := hD
                                rw [← rs_vp (n := 100) (f := ((rj3 (rj2 (rj1 (rk1 (rk0 Lx 100) nm nr) ns k5) ns k5 k21) k5 k21 k24) 6)) (x := ((10 * (nI k21)) + (nI k24))) (v := (if ((rg 100 ((rj3 (rj2 (rj1 (rk1 (rk0 Lx 100) nm nr) ns k5) ns k5 k21) k5 k21 k24) 6) ((10 * (nI k21)) + (nI k5))) + (rg 100 ((rj3 (rj2 (rj1 (rk1 (rk0 Lx 100) nm nr) ns k5) ns k5 k21) k5 k21 k24) 6) ((10 * (nI k5)) + (nI k24)))) < (rg 100 ((rj3 (rj2 (rj1 (rk1 (rk0 Lx 100) nm nr) ns k5) ns k5 k21) k5 k21 k24) 6) ((10 * (nI k21)) + (nI k24))) then ((rg 100 ((rj3 (rj2 (rj1 (rk1 (rk0 Lx 100) nm nr) ns k5) ns k5 k21) k5 k21 k24) 6) ((10 * (nI k21)) + (nI k5))) + (rg 100 ((rj3 (rj2 (rj1 (rk1 (rk0 Lx 100) nm nr) ns k5) ns k5 k21) k5 k21 k24) 6) ((10 * (nI k5)) + (nI k24)))) else (rg 100 ((rj3 (rj2 (rj1 (rk1 (rk0 Lx 100) nm nr) ns k5) ns k5 k21) k5 k21 k24) 6) ((10 * (nI k21)) + (nI k24))))) (ixs (vd_k (by omega)) (vd_k (by omega)) b10)] at hP hD
                                refine lv_iinc (v := ((nI k24) + 1)) (lv' := [(3, .int ((nI k24) + 1)), (2, .int (nI k21)), (1, .int (nI k5)), (0, .ref (Ax 0))]) hx hb dX7_reckon_208 hl (k := 0) rfl rfl (by decide) rfl (fun ls hl => ?_)
                                refine lv_goto (tgt := 152) hx hb dX7_reckon_211 (by decide) ?_
                                exact ih (k24 + 1) (by omega) _ (nI_1 k24) _ rfl _ _ hP hD hS ls (lv_sub hl [0, 1, 2, 3] rfl)
                          exact lp24 ns 0 (by omega) _ nI_0.symm _ rfl _ _ hP hD hS ls (lv_sub hl [0, 1, 2, 3] rfl)
                    exact lp21 ns 0 (by omega) _ nI_0.symm _ rfl _ _ hP hD hS ls (lv_sub hl [0, 1, 2] rfl)
              exact lp5 ns 0 (by omega) _ nI_0.symm _ rfl _ _ hP hD hS ls (lv_sub hl [0, 1] rfl)
            · exact (up0 rfl c4).elim
          | succ j3 ih =>
            intro k3 hk3 x1_3 e1_3 yxL_3 eyxL_3  H locs hP hD hS ls hl
            subst e1_3 eyxL_3
            have hlt3 : k3 < nr := by omega
            have hlt : k3 < nr := hlt3
            refine lv_iload_n hx hb dX7_reckon_46 rfl (lv_at hl 0 rfl) ?_
            refine lv_aload_n hx hb dX7_reckon_47 rfl (lv_at hl 1 rfl) ?_
            refine va_get (D := D.1) (ci := 7) (v := .int (nI nr)) (C := RX7) (T := TX7) (N := 14) hx hb hts hinX7 hown hK hP 0 rfl rfl 5 (by decide) (hts (.fieldLink RX7 45 "MountainPostModel" "roads" "I") (List.mem_of_getElem? (i := 4) rfl)) (fun _ h9 => h9) rfl dX7_reckon_48 ?_
            refine lv_icmp_ge (tgt := 130) hx hb dX7_reckon_51 (by decide) (fun c27 => ?_) (fun c27 => ?_)
            · exact (upS hk3 (by omega) c27).elim
            · refine lv_aload_n hx hb dX7_reckon_54 rfl (lv_at hl 1 rfl) ?_
              refine lv_iload_n hx hb dX7_reckon_55 rfl (lv_at hl 0 rfl) ?_
              refine lv_iconst (v := 0) hx hb dX7_reckon_56 (by decide) ?_
              refine kVp ⟨hx, hb, hml, hown, hts⟩ (c_X7_mulesOn l D Ax th ns fog nr nm nl (rk1 (rk0 Lx 100) nm k3) (nI k3) 0 (by assumption)) (cwV 2 hts gX7_reckon_X7_mulesOn rfl rfl rfl (by decide +kernel) ⟨Nat.le_of_ble_eq_true rfl, Nat.le_of_ble_eq_true rfl⟩) hK hN hP hD Sb.self 7 0 rfl rfl rfl hl.1 (Nat.le_of_ble_eq_true rfl) ⟨Nat.zero_le _, Nat.zero_le _⟩ dX7_reckon_57 ?_ rfl
              refine lv_if_ne (tgt := 66) hx hb dX7_reckon_60 (by decide) (fun c28 => ?_) (fun c28 => ?_)
              · refine lv_iconst (v := 0) hx hb dX7_reckon_66 (by decide) ?_
                refine lv_istore_n (lv' := [(2, .int 0), (1, .int (nI k3)), (0, .ref (Ax 0))]) hx hb dX7_reckon_67 rfl hl (by decide) rfl (fun ls hl => ?_)
                have lp29 : ∀ (j29 : Nat) (k29 : Nat) (hk29 : k29 + j29 = 2) (x2_29 : Int32) (e2_29 : x2_29 = (nI k29)) (yxL_29 : Nat → Nat → Int32) (eyxL_29 : yxL_29 = (rkE (rk1 (rk0 Lx 100) nm k3) (nI k3) k29)) (H : Heap) (locs : List Loc) (hP : va_P D.1 vwCl (wMod D Ax th ns fog nr nm nl yxL_29) H) (hD : va_D A0 (wMod D Ax th ns fog nr nm nl yxL_29)) (hS : va_S A0 s.heap H locs) (ls : Array Slot) (hl : lv_has ls 6 [(2, .int x2_29), (1, .int (nI k3)), (0, .ref (Ax 0))]), W p l e (headSpec wsX7_reckon ({ frames := 3, cells := 0, slots := 0, locals := 66 } : Room)).room s m ([.ref (Ax 0)] : List Value).toArray below meth c H locs 0 0 (MQ below (QW D none (wMod D Ax th ns fog nr nm nl (rkM Lx ns nr nm)) A0) ([.ref (Ax 0)] : List Value).toArray s 0 0 A0) (F0 m 68 ls []) := by
                  intro j29
                  induction j29 with
                  | zero =>
                    intro k29 hk29 x2_29 e2_29 yxL_29 eyxL_29  H locs hP hD hS ls hl
                    subst e2_29 eyxL_29
                    have hkN29 : 2 = k29 := (by omega)
                    subst hkN29
                    refine lv_iload_n hx hb dX7_reckon_68 rfl (lv_at hl 0 rfl) ?_
                    refine lv_iconst (v := 1) hx hb dX7_reckon_69 (by decide) ?_
                    refine lv_icmp_gt (tgt := 124) hx hb dX7_reckon_70 (by decide) (fun c30 => ?_) (fun c30 => ?_)
                    · refine lv_iinc (v := ((nI k3) + 1)) (lv' := [(1, .int ((nI k3) + 1)), (2, .int (nI 2)), (0, .ref (Ax 0))]) hx hb dX7_reckon_124 hl (k := 1) rfl rfl (by decide) rfl (fun ls hl => ?_)
                      refine lv_goto (tgt := 46) hx hb dX7_reckon_127 (by decide) ?_
                      exact ih (k3 + 1) (by omega) _ (nI_1 k3) _ (by (rw [rk1, if_neg c28]; first | done | rfl)) _ _ hP hD hS ls (lv_sub hl [0, 2] rfl)
                    · exact absurd (show (1 : Int32) < nI 2 by decide) c30
                  | succ j29 ih =>
                    intro k29 hk29 x2_29 e2_29 yxL_29 eyxL_29  H locs hP hD hS ls hl
                    subst e2_29 eyxL_29
                    have hlt29 : k29 < 2 := by omega
                    have hlt : k29 < 2 := hlt29
                    refine lv_iload_n hx hb dX7_reckon_68 rfl (lv_at hl 0 rfl) ?_
                    refine lv_iconst (v := 1) hx hb dX7_reckon_69 (by decide) ?_
                    refine lv_icmp_gt (tgt := 124) hx hb dX7_reckon_70 (by decide) (fun c31 => ?_) (fun c31 => ?_)
                    · exact absurd c31 (gt2 hlt29)
                    · refine lv_bipush (v := 10) hx hb dX7_reckon_73 (by decide) ?_
                      refine lv_aload_n hx hb dX7_reckon_75 rfl (lv_at hl 2 rfl) ?_
                      refine lv_iload_n hx hb dX7_reckon_76 rfl (lv_at hl 1 rfl) ?_
                      refine lv_iload_n hx hb dX7_reckon_77 rfl (lv_at hl 0 rfl) ?_
                      refine kVp ⟨hx, hb, hml, hown, hts⟩ (c_X7_ro l D Ax th ns fog nr nm nl (rkE (rk1 (rk0 Lx 100) nm k3) (nI k3) k29) (nI k3) (nI k29) (ixr (vd_k (by omega)) b15 k29 (by omega))) (cwV 2 hts gX7_reckon_X7_ro rfl rfl rfl (by decide +kernel) ⟨Nat.le_of_ble_eq_true rfl, Nat.le_of_ble_eq_true rfl⟩) hK hN hP hD Sb.self 7 0 rfl rfl rfl hl.1 (Nat.le_of_ble_eq_true rfl) ⟨Nat.zero_le _, Nat.zero_le _⟩ dX7_reckon_78 ?_ rfl
                      refine lv_imul hx hb dX7_reckon_81 ?_
                      refine lv_aload_n hx hb dX7_reckon_82 rfl (lv_at hl 2 rfl) ?_
                      refine lv_iload_n hx hb dX7_reckon_83 rfl (lv_at hl 1 rfl) ?_
                      refine lv_iconst (v := 1) hx hb dX7_reckon_84 (by decide) ?_
                      refine lv_iload_n hx hb dX7_reckon_85 rfl (lv_at hl 0 rfl) ?_
                      refine lv_isub hx hb dX7_reckon_86 ?_
                      rw [show (1 - (nI k29)) = (nI (1 - k29)) from pk_sub (a := 1) (b := k29) (by omega)]
                      refine kVp ⟨hx, hb, hml, hown, hts⟩ (c_X7_ro l D Ax th ns fog nr nm nl (rkE (rk1 (rk0 Lx 100) nm k3) (nI k3) k29) (nI k3) (nI (1 - k29)) (ixr (vd_k (by omega)) b15 (1 - k29) (by omega))) (cwV 2 hts gX7_reckon_X7_ro rfl rfl rfl (by decide +kernel) ⟨Nat.le_of_ble_eq_true rfl, Nat.le_of_ble_eq_true rfl⟩) hK hN hP hD Sb.self 7 0 rfl rfl rfl hl.1 (Nat.le_of_ble_eq_true rfl) ⟨Nat.zero_le _, Nat.zero_le _⟩ dX7_reckon_87 ?_ rfl
                      refine lv_iadd hx hb dX7_reckon_90 ?_
                      refine lv_istore_n (lv' := [(3, .int ((10 * (roM (rkE (rk1 (rk0 Lx 100) nm k3) (nI k3) k29) (nI k3) (nI k29))) + (roM (rkE (rk1 (rk0 Lx 100) nm k3) (nI k3) k29) (nI k3) (nI (1 - k29))))), (2, .int (nI k29)), (1, .int (nI k3)), (0, .ref (Ax 0))]) hx hb dX7_reckon_91 rfl hl (by decide) rfl (fun ls hl => ?_)
                      refine lv_aload_n hx hb dX7_reckon_92 rfl (lv_at hl 3 rfl) ?_
                      refine va_get (D := D.1) (ci := 7) (v := .ref (Ax 7)) (C := RX7) (T := TX7) (N := 14) hx hb hts hinX7 hown hK hP 0 rfl rfl 12 (by decide) (hts (.fieldLink RX7 28 "MountainPostModel" "far" "[I") (List.mem_of_getElem? (i := 1) rfl)) (fun _ h9 => h9) rfl dX7_reckon_93 ?_
                      refine lv_iload_n hx hb dX7_reckon_96 rfl (lv_at hl 0 rfl) ?_
                      refine lv_aload_n hx hb dX7_reckon_97 rfl (lv_at hl 3 rfl) ?_
                      refine va_get (D := D.1) (ci := 7) (v := .ref (Ax 7)) (C := RX7) (T := TX7) (N := 14) hx hb hts hinX7 hown hK hP 0 rfl rfl 12 (by decide) (hts (.fieldLink RX7 28 "MountainPostModel" "far" "[I") (List.mem_of_getElem? (i := 1) rfl)) (fun _ h9 => h9) rfl dX7_reckon_98 ?_
                      refine lv_iload_n hx hb dX7_reckon_101 rfl (lv_at hl 0 rfl) ?_
                      refine va_iald (D := D.1) hx hb hK hP 7 0 rfl rfl (ixs (okR_e (okR_of (by simp only [rk0_2, rkE_2, rk1_2, rj3_2, rj2_2, rj1_2, rfT_2, rfE_2, sr6, sr7]) hk) (vd_k (by omega)) (by omega)) (okR_e (okR_of (by simp only [rk0_2, rkE_2, rk1_2, rj3_2, rj2_2, rj1_2, rfT_2, rfE_2, sr6, sr7]) hk) (vd_k (by omega)) (by omega)) b10) dX7_reckon_102 ?_
                      rw [show (((rkE (rk1 (rk0 Lx 100) nm k3) (nI k3) k29) 6) ((10 * (roM (rkE (rk1 (rk0 Lx 100) nm k3) (nI k3) k29) (nI k3) (nI k29))) + (roM (rkE (rk1 (rk0 Lx 100) nm k3) (nI k3) k29) (nI k3) (nI (1 - k29)))).toNatClampNeg) = (rg 100 ((rkE (rk1 (rk0 Lx 100) nm k3) (nI k3) k29) 6) ((10 * (roM (rkE (rk1 (rk0 Lx 100) nm k3) (nI k3) k29) (nI k3) (nI k29))) + (roM (rkE (rk1 (rk0 Lx 100) nm k3) (nI k3) k29) (nI k3) (nI (1 - k29))))) from (rg_vp (ixs (okR_e (okR_of (by simp only [rk0_2, rkE_2, rk1_2, rj3_2, rj2_2, rj1_2, rfT_2, rfE_2, sr6, sr7]) hk) (vd_k (by omega)) (by omega)) (okR_e (okR_of (by simp only [rk0_2, rkE_2, rk1_2, rj3_2, rj2_2, rj1_2, rfT_2, rfE_2, sr6, sr7]) hk) (vd_k (by omega)) (by omega)) b10)).symm]
                      refine lv_aload_n hx hb dX7_reckon_103 rfl (lv_at hl 3 rfl) ?_
                      refine lv_iload_n hx hb dX7_reckon_104 rfl (lv_at hl 2 rfl) ?_
                      refine lv_aload_n hx hb dX7_reckon_105 rfl (lv_at hl 3 rfl) ?_
                      refine lv_iload_n hx hb dX7_reckon_106 rfl (lv_at hl 2 rfl) ?_
                      refine lv_iload_n hx hb dX7_reckon_107 rfl (lv_at hl 1 rfl) ?_
                      refine kVp ⟨hx, hb, hml, hown, hts⟩ (c_X7_ro l D Ax th ns fog nr nm nl (rkE (rk1 (rk0 Lx 100) nm k3) (nI k3) k29) (nI k3) (nI k29) (ixr (vd_k (by omega)) b15 k29 (by omega))) (cwV 2 hts gX7_reckon_X7_ro rfl rfl rfl (by decide +kernel) ⟨Nat.le_of_ble_eq_true rfl, Nat.le_of_ble_eq_true rfl⟩) hK hN hP hD Sb.self 7 0 rfl rfl rfl hl.1 (Nat.le_of_ble_eq_true rfl) ⟨Nat.zero_le _, Nat.zero_le _⟩ dX7_reckon_108 ?_ rfl
                      refine kVp ⟨hx, hb, hml, hown, hts⟩ (c_X7_hoursFrom l D Ax th ns fog nr nm nl (rkE (rk1 (rk0 Lx 100) nm k3) (nI k3) k29) (nI k3) (roM (rkE (rk1 (rk0 Lx 100) nm k3) (nI k3) k29) (nI k3) (nI k29)) (by assumption) (by assumption) (vd_k (by omega)) (okR_e (okR_of (by simp only [rk0_2, rkE_2, rk1_2, rj3_2, rj2_2, rj1_2, rfT_2, rfE_2, sr6, sr7]) hk) (vd_k (by omega)) (by omega)) (okR_of (by simp only [rk0_2, rkE_2, rk1_2, rj3_2, rj2_2, rj1_2, rfT_2, rfE_2, sr6, sr7]) hk)) (cwV 2 hts gX7_reckon_X7_hoursFrom rfl rfl rfl (by decide +kernel) ⟨Nat.le_of_ble_eq_true rfl, Nat.le_of_ble_eq_true rfl⟩) hK hN hP hD Sb.self 7 0 rfl rfl rfl hl.1 (Nat.le_of_ble_eq_true rfl) ⟨Nat.zero_le _, Nat.zero_le _⟩ dX7_reckon_111 ?_ rfl
                      refine va_mmin hx hb (hml.trans hl.1.symm) hown (hts (.methodLink RX7 138 Lib.Math.min.name) (List.mem_of_getElem? (i := 5) rfl)) (hts (.static Lib.Math.min.name) (List.mem_of_getElem? (i := 6) rfl)) (hts (.initialized "java/lang/Math") (List.mem_of_getElem? (i := 7) rfl)) (hts (.code Lib.Math.min.name Lib.Math.min.code 2 (some .int)) (List.mem_of_getElem? (i := 8) rfl)) (Nat.le_of_ble_eq_true rfl) (Nat.le_of_ble_eq_true rfl) (Nat.zero_le _) (Nat.zero_le _) dX7_reckon_114 ?_
                      refine va_iast (D := D.1) hx hb hK hP hD hS 7 0 rfl rfl (ixs (okR_e (okR_of (by simp only [rk0_2, rkE_2, rk1_2, rj3_2, rj2_2, rj1_2, rfT_2, rfE_2, sr6, sr7]) hk) (vd_k (by omega)) (by omega)) (okR_e (okR_of (by simp only [rk0_2, rkE_2, rk1_2, rj3_2, rj2_2, rj1_2, rfT_2, rfE_2, sr6, sr7]) hk) (vd_k (by omega)) (by omega)) b10) dX7_reckon_117 (fun H locs hP hD hS => ?_)
                      have hP : va_P D.1 vwCl (wMod D Ax th ns fog nr nm nl (sr (rkE (rk1 (rk0 Lx 100) nm k3) (nI k3) k29) 6 (upd ((rkE (rk1 (rk0 Lx 100) nm k3) (nI k3) k29) 6) ((10 * (roM (rkE (rk1 (rk0 Lx 100) nm k3) (nI k3) k29) (nI k3) (nI k29))) + (roM (rkE (rk1 (rk0 Lx 100) nm k3) (nI k3) k29) (nI k3) (nI (1 - k29)))).toNatClampNeg (if (hrsM (rkE (rk1 (rk0 Lx 100) nm k3) (nI k3) k29) (nI k3) (roM (rkE (rk1 (rk0 Lx 100) nm k3) (nI k3) k29) (nI k3) (nI k29))) < (rg 100 ((rkE (rk1 (rk0 Lx 100) nm k3) (nI k3) k29) 6) ((10 * (roM (rkE (rk1 (rk0 Lx 100) nm k3) (nI k3) k29) (nI k3) (nI k29))) + (roM (rkE (rk1 (rk0 Lx 100) nm k3) (nI k3) k29) (nI k3) (nI (1 - k29))))) then (hrsM (rkE (rk1 (rk0 Lx 100) nm k3) (nI k3) k29) (nI k3) (roM (rkE (rk1 (rk0 Lx 100) nm k3) (nI k3) k29) (nI k3) (nI k29))) else (rg 100 ((rkE (rk1 (rk0 Lx 100) nm k3) (nI k3) k29) 6) ((10 * (roM (rkE (rk1 (rk0 Lx 100) nm k3) (nI k3) k29) (nI k3) (nI k29))) + (roM (rkE (rk1 (rk0 Lx 100) nm k3) (nI k3) k29) (nI k3) (nI (1 - k29))))))))) H := hP
                      have hD : va_D A0 (wMod D Ax th ns fog nr nm nl (sr (rkE (rk1 (rk0 Lx 100) nm k3) (nI k3) k29) 6 (upd ((rkE (rk1 (rk0 Lx 100) nm k3) (nI k3) k29) 6) ((10 * (roM (rkE (rk1 (rk0 Lx 100) nm k3) (nI k3) k29) (nI k3) (nI k29))) + (roM (rkE (rk1 (rk0 Lx 100) nm k3) (nI k3) k29) (nI k3) (nI (1 - k29)))).toNatClampNeg (if (hrsM (rkE (rk1 (rk0 Lx 100) nm k3) (nI k3) k29) (nI k3) (roM (rkE (rk1 (rk0 Lx 100) nm k3) (nI k3) k29) (nI k3) (nI k29))) < (rg 100 ((rkE (rk1 (rk0 Lx 100) nm k3) (nI k3) k29) 6) ((10 * (roM (rkE (rk1 (rk0 Lx 100) nm k3) (nI k3) k29) (nI k3) (nI k29))) + (roM (rkE (rk1 (rk0 Lx 100) nm k3) (nI k3) k29) (nI k3) (nI (1 - k29))))) then (hrsM (rkE (rk1 (rk0 Lx 100) nm k3) (nI k3) k29) (nI k3) (roM (rkE (rk1 (rk0 Lx 100) nm k3) (nI k3) k29) (nI k3) (nI k29))) else (rg 100 ((rkE (rk1 (rk0 Lx 100) nm k3) (nI k3) k29) 6) ((10 * (roM (rkE (rk1 (rk0 Lx 100) nm k3) (nI k3) k29) (nI k3) (nI k29))) + (roM (rkE (rk1 (rk0 Lx 100) nm k3) (nI k3) k29) (nI k3) (nI (1 - k29))))))))) := hD
                      rw [← rs_vp (n := 100) (f := ((rkE (rk1 (rk0 Lx 100) nm k3) (nI k3) k29) 6)) (x := ((10 * (roM (rkE (rk1 (rk0 Lx 100) nm k3) (nI k3) k29) (nI k3) (nI k29))) + (roM (rkE (rk1 (rk0 Lx 100) nm k3) (nI k3) k29) (nI k3) (nI (1 - k29))))) (v := (if (hrsM (rkE (rk1 (rk0 Lx 100) nm k3) (nI k3) k29) (nI k3) (roM (rkE (rk1 (rk0 Lx 100) nm k3) (nI k3) k29) (nI k3) (nI k29))) < (rg 100 ((rkE (rk1 (rk0 Lx 100) nm k3) (nI k3) k29) 6) ((10 * (roM (rkE (rk1 (rk0 Lx 100) nm k3) (nI k3) k29) (nI k3) (nI k29))) + (roM (rkE (rk1 (rk0 Lx 100) nm k3) (nI k3) k29) (nI k3) (nI (1 - k29))))) then (hrsM (rkE (rk1 (rk0 Lx 100) nm k3) (nI k3) k29) (nI k3) (roM (rkE (rk1 (rk0 Lx 100) nm k3) (nI k3) k29) (nI k3) (nI k29))) else (rg 100 ((rkE (rk1 (rk0 Lx 100) nm k3) (nI k3) k29) 6) ((10 * (roM (rkE (rk1 (rk0 Lx 100) nm k3) (nI k3) k29) (nI k3) (nI k29))) + (roM (rkE (rk1 (rk0 Lx 100) nm k3) (nI k3) k29) (nI k3) (nI (1 - k29))))))) (ixs (okR_e (okR_of (by simp only [rk0_2, rkE_2, rk1_2, rj3_2, rj2_2, rj1_2, rfT_2, rfE_2, sr6, sr7]) hk) (vd_k (by omega)) (by omega)) (okR_e (okR_of (by simp only [rk0_2, rkE_2, rk1_2, rj3_2, rj2_2, rj1_2, rfT_2, rfE_2, sr6, sr7]) hk) (vd_k (by omega)) (by omega)) b10)] at hP hD
                      refine lv_iinc (v := ((nI k29) + 1)) (lv' := [(2, .int ((nI k29) + 1)), (3, .int ((10 * (roM (rkE (rk1 (rk0 Lx 100) nm k3) (nI k3) k29) (nI k3) (nI k29))) + (roM (rkE (rk1 (rk0 Lx 100) nm k3) (nI k3) k29) (nI k3) (nI (1 - k29))))), (1, .int (nI k3)), (0, .ref (Ax 0))]) hx hb dX7_reckon_118 hl (k := 1) rfl rfl (by decide) rfl (fun ls hl => ?_)
                      refine lv_goto (tgt := 68) hx hb dX7_reckon_121 (by decide) ?_
                      exact ih (k29 + 1) (by omega) _ (nI_1 k29) _ rfl _ _ hP hD hS ls (lv_sub hl [0, 2, 3] rfl)
                exact lp29 2 0 (by omega) _ nI_0.symm _ rfl _ _ hP hD hS ls (lv_sub hl [0, 1, 2] rfl)
              · refine lv_goto (tgt := 124) hx hb dX7_reckon_63 (by decide) ?_
                refine lv_iinc (v := ((nI k3) + 1)) (lv' := [(1, .int ((nI k3) + 1)), (0, .ref (Ax 0))]) hx hb dX7_reckon_124 hl (k := 0) rfl rfl (by decide) rfl (fun ls hl => ?_)
                refine lv_goto (tgt := 46) hx hb dX7_reckon_127 (by decide) ?_
                exact ih (k3 + 1) (by omega) _ (nI_1 k3) _ (by (rw [rk1, if_pos c28]; first | done | rfl)) _ _ hP hD hS ls (lv_sub hl [0, 1] rfl)
        exact lp3 nr 0 (by omega) _ nI_0.symm _ rfl _ _ hP hD hS ls (lv_sub hl [0, 1] rfl)
      · exact (up0 rfl c2).elim
    | succ j1 ih =>
      intro k1 hk1 x1_1 e1_1 yxL_1 eyxL_1  H locs hP hD hS ls hl
      subst e1_1 eyxL_1
      have hlt1 : k1 < 100 := by omega
      have hlt : k1 < 100 := hlt1
      refine lv_iload_n hx hb dX7_reckon_2 rfl (lv_at hl 0 rfl) ?_
      refine lv_bipush (v := 100) hx hb dX7_reckon_3 (by decide) ?_
      refine lv_icmp_ge (tgt := 44) hx hb dX7_reckon_5 (by decide) (fun c32 => ?_) (fun c32 => ?_)
      · exact (upS hk1 (by decide) c32).elim
      · refine lv_aload_n hx hb dX7_reckon_8 rfl (lv_at hl 1 rfl) ?_
        refine va_get (D := D.1) (ci := 7) (v := .ref (Ax 7)) (C := RX7) (T := TX7) (N := 14) hx hb hts hinX7 hown hK hP 0 rfl rfl 12 (by decide) (hts (.fieldLink RX7 28 "MountainPostModel" "far" "[I") (List.mem_of_getElem? (i := 1) rfl)) (fun _ h9 => h9) rfl dX7_reckon_9 ?_
        refine lv_iload_n hx hb dX7_reckon_12 rfl (lv_at hl 0 rfl) ?_
        refine lv_iload_n hx hb dX7_reckon_13 rfl (lv_at hl 0 rfl) ?_
        refine lv_bipush (v := 10) hx hb dX7_reckon_14 (by decide) ?_
        refine lv_idiv hx hb dX7_reckon_16 (by decide) ?_
        refine lv_iload_n hx hb dX7_reckon_17 rfl (lv_at hl 0 rfl) ?_
        refine lv_bipush (v := 10) hx hb dX7_reckon_18 (by decide) ?_
        refine lv_irem hx hb dX7_reckon_20 (by decide) ?_
        refine lv_icmp_ne (tgt := 28) hx hb dX7_reckon_21 (by decide) (fun c33 => ?_) (fun c33 => ?_)
        · refine lv_ldc hx hb hown (hts (.constant RX7 137 (99999)) (List.mem_of_getElem? (i := 2) rfl)) dX7_reckon_28 ?_
          refine va_iast (D := D.1) hx hb hK hP hD hS 7 0 rfl rfl (vp_in_nI hlt (by decide)) dX7_reckon_30 (fun H locs hP hD hS => ?_)
          have hP : va_P D.1 vwCl (wMod D Ax th ns fog nr nm nl (sr (rk0 Lx k1) 6 (upd ((rk0 Lx k1) 6) (nI k1).toNatClampNeg 99999))) H := hP
          have hD : va_D A0 (wMod D Ax th ns fog nr nm nl (sr (rk0 Lx k1) 6 (upd ((rk0 Lx k1) 6) (nI k1).toNatClampNeg 99999))) := hD
          rw [← rs_vp (n := 100) (f := ((rk0 Lx k1) 6)) (x := (nI k1)) (v := 99999) (vp_in_nI hlt (by decide))] at hP hD
          refine lv_aload_n hx hb dX7_reckon_31 rfl (lv_at hl 1 rfl) ?_
          refine va_get (D := D.1) (ci := 7) (v := .ref (Ax 8)) (C := RX7) (T := TX7) (N := 14) hx hb hts hinX7 hown hK hP 0 rfl rfl 13 (by decide) (hts (.fieldLink RX7 31 "MountainPostModel" "first" "[I") (List.mem_of_getElem? (i := 3) rfl)) (fun _ h9 => h9) rfl dX7_reckon_32 ?_
          refine lv_iload_n hx hb dX7_reckon_35 rfl (lv_at hl 0 rfl) ?_
          refine lv_iconst (v := (-1)) hx hb dX7_reckon_36 (by decide) ?_
          refine va_iast (D := D.1) hx hb hK hP hD hS 8 0 rfl rfl (vp_in_nI hlt (by decide)) dX7_reckon_37 (fun H locs hP hD hS => ?_)
          have hP : va_P D.1 vwCl (wMod D Ax th ns fog nr nm nl (sr (sr (rk0 Lx k1) 6 (rs 100 ((rk0 Lx k1) 6) (nI k1) 99999)) 7 (upd ((rk0 Lx k1) 7) (nI k1).toNatClampNeg (-1)))) H := hP
          have hD : va_D A0 (wMod D Ax th ns fog nr nm nl (sr (sr (rk0 Lx k1) 6 (rs 100 ((rk0 Lx k1) 6) (nI k1) 99999)) 7 (upd ((rk0 Lx k1) 7) (nI k1).toNatClampNeg (-1)))) := hD
          rw [← rs_vp (n := 100) (f := ((rk0 Lx k1) 7)) (x := (nI k1)) (v := (-1)) (vp_in_nI hlt (by decide))] at hP hD
          refine lv_iinc (v := ((nI k1) + 1)) (lv' := [(1, .int ((nI k1) + 1)), (0, .ref (Ax 0))]) hx hb dX7_reckon_38 hl (k := 0) rfl rfl (by decide) rfl (fun ls hl => ?_)
          refine lv_goto (tgt := 2) hx hb dX7_reckon_41 (by decide) ?_
          exact ih (k1 + 1) (by omega) _ (nI_1 k1) _ (by (rw [rk0, if_neg c33]; first | done | rfl)) _ _ hP hD hS ls (lv_sub hl [0, 1] rfl)
        · refine lv_iconst (v := 0) hx hb dX7_reckon_24 (by decide) ?_
          refine lv_goto (tgt := 30) hx hb dX7_reckon_25 (by decide) ?_
          refine va_iast (D := D.1) hx hb hK hP hD hS 7 0 rfl rfl (vp_in_nI hlt (by decide)) dX7_reckon_30 (fun H locs hP hD hS => ?_)
          have hP : va_P D.1 vwCl (wMod D Ax th ns fog nr nm nl (sr (rk0 Lx k1) 6 (upd ((rk0 Lx k1) 6) (nI k1).toNatClampNeg 0))) H := hP
          have hD : va_D A0 (wMod D Ax th ns fog nr nm nl (sr (rk0 Lx k1) 6 (upd ((rk0 Lx k1) 6) (nI k1).toNatClampNeg 0))) := hD
          rw [← rs_vp (n := 100) (f := ((rk0 Lx k1) 6)) (x := (nI k1)) (v := 0) (vp_in_nI hlt (by decide))] at hP hD
          refine lv_aload_n hx hb dX7_reckon_31 rfl (lv_at hl 1 rfl) ?_
          refine va_get (D := D.1) (ci := 7) (v := .ref (Ax 8)) (C := RX7) (T := TX7) (N := 14) hx hb hts hinX7 hown hK hP 0 rfl rfl 13 (by decide) (hts (.fieldLink RX7 31 "MountainPostModel" "first" "[I") (List.mem_of_getElem? (i := 3) rfl)) (fun _ h9 => h9) rfl dX7_reckon_32 ?_
          refine lv_iload_n hx hb dX7_reckon_35 rfl (lv_at hl 0 rfl) ?_
          refine lv_iconst (v := (-1)) hx hb dX7_reckon_36 (by decide) ?_
          refine va_iast (D := D.1) hx hb hK hP hD hS 8 0 rfl rfl (vp_in_nI hlt (by decide)) dX7_reckon_37 (fun H locs hP hD hS => ?_)
          have hP : va_P D.1 vwCl (wMod D Ax th ns fog nr nm nl (sr (sr (rk0 Lx k1) 6 (rs 100 ((rk0 Lx k1) 6) (nI k1) 0)) 7 (upd ((rk0 Lx k1) 7) (nI k1).toNatClampNeg (-1)))) H := hP
          have hD : va_D A0 (wMod D Ax th ns fog nr nm nl (sr (sr (rk0 Lx k1) 6 (rs 100 ((rk0 Lx k1) 6) (nI k1) 0)) 7 (upd ((rk0 Lx k1) 7) (nI k1).toNatClampNeg (-1)))) := hD
          rw [← rs_vp (n := 100) (f := ((rk0 Lx k1) 7)) (x := (nI k1)) (v := (-1)) (vp_in_nI hlt (by decide))] at hP hD
          refine lv_iinc (v := ((nI k1) + 1)) (lv' := [(1, .int ((nI k1) + 1)), (0, .ref (Ax 0))]) hx hb dX7_reckon_38 hl (k := 0) rfl rfl (by decide) rfl (fun ls hl => ?_)
          refine lv_goto (tgt := 2) hx hb dX7_reckon_41 (by decide) ?_
          exact ih (k1 + 1) (by omega) _ (nI_1 k1) _ (by (rw [rk0, if_pos c33]; first | done | rfl)) _ _ hP hD hS ls (lv_sub hl [0, 1] rfl)
  exact lp1 100 0 (by omega) _ nI_0.symm _ rfl _ _ hP hD hS ls (lv_sub hl [0, 1] rfl)
