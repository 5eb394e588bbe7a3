set_option maxHeartbeats 4000000 in
set_option maxRecDepth 100000 in
theorem c_X5_joinWays (l : Launch) (D : GG) (Aw : Nat → Nat) (Lw : Nat → Nat → Int32) (n : Nat) (hn9 : n < 2 ^ 31) : Met l yX5_joinWays wsX5_joinWays ({ frames := 3, cells := 0, slots := 0, locals := 66 } : Room) (va_Pc [.ref (Aw 0), .int (nI n)] (wd D (wWays D Aw Lw))) (QW D none (wWays D Aw (jw1 Lw n n)) (own (wWays D Aw Lw))) 0 0 (own (wWays D Aw Lw)) := by
  refine Met.ofW (cc := cX5_joinWays) (maxL := 5) (ret := none) (by decide) rfl ?_
  intro p e s m args below meth c s₁ B hml hv
  obtain ⟨rfl, hP, hK, hD, hN⟩ := hv
  have hx := B.exec
  have hb := B.bytes
  have hr := B.returns
  have hts := atoms_spec (ws := wsX5_joinWays) B.pre
  have hown : s.vm.findClass RX5 = some m.cls := findClass_of_methodNamed B.named
  have hlocks := B.notSynchronized
  have hS : va_S (own (wWays D Aw Lw)) s.heap s.heap [] := va_S.rf
  have hD : va_D (own (wWays D Aw Lw)) (wWays D Aw Lw) := toOwn hD
  generalize hAe : own (wWays D Aw Lw) = A0 at hD hS ⊢
  have hl := lv_entry ([.ref (Aw 0), .int (nI n)]) (n := 5) (Nat.le_of_ble_eq_true rfl)
  rw [lg_entry_eq]
  generalize (lg_sl ([.ref (Aw 0), .int (nI n)]) ++ List.replicate (5 - (lg_sl ([.ref (Aw 0), .int (nI n)])).length) Slot.unset).toArray = ls at hl ⊢
  have hl : lv_has ls 5 [(0, .ref (Aw 0)), (1, .int (nI n))] := hl
  refine lv_iconst (v := 0) hx hb dX5_joinWays_0 (by decide) ?_
  refine lv_istore_n (lv' := [(2, .int 0), (0, .ref (Aw 0)), (1, .int (nI n))]) hx hb dX5_joinWays_1 rfl hl (by decide) rfl (fun ls hl => ?_)
  have lp1 : ∀ (j1 : Nat) (k1 : Nat) (hk1 : k1 + j1 = n) (x2_1 : Int32) (e2_1 : x2_1 = (nI k1)) (ywL_1 : Nat → Nat → Int32) (eywL_1 : ywL_1 = (jw1 Lw n k1)) (H : Heap) (locs : List Loc) (hP : va_P D.1 vwCl (wWays D Aw ywL_1) H) (hD : va_D A0 (wWays D Aw ywL_1)) (hS : va_S A0 s.heap H locs) (ls : Array Slot) (hl : lv_has ls 5 [(2, .int x2_1), (0, .ref (Aw 0)), (1, .int (nI n))]), W p l e (headSpec wsX5_joinWays ({ frames := 3, cells := 0, slots := 0, locals := 66 } : Room)).room s m ([.ref (Aw 0), .int (nI n)] : List Value).toArray below meth c H locs 0 0 (MQ below (QW D none (wWays D Aw (jw1 Lw n n)) A0) ([.ref (Aw 0), .int (nI n)] : List Value).toArray s 0 0 A0) (F0 m 2 ls []) := by
    intro j1
    induction j1 with
    | zero =>
      intro k1 hk1 x2_1 e2_1 ywL_1 eywL_1  H locs hP hD hS ls hl
      subst e2_1 eywL_1
      have hkN1 : n = k1 := (by omega)
      subst hkN1
      refine lv_iload_n hx hb dX5_joinWays_2 rfl (lv_at hl 0 rfl) ?_
      refine lv_iload_n hx hb dX5_joinWays_3 rfl (lv_at hl 2 rfl) ?_
      refine lv_icmp_ge (tgt := 62) hx hb dX5_joinWays_4 (by decide) (fun c2 => ?_) (fun c2 => ?_)
      · exact eWv hx hb hr hlocks dX5_joinWays_62 hS hP (by rfl)
      · exact (up0 rfl c2).elim
    | succ j1 ih1 =>
      intro k1 hk1 x2_1 e2_1 ywL_1 eywL_1  H locs hP hD hS ls hl
      subst e2_1 eywL_1
      have hlt1 : k1 < n := by omega
      have hlt : k1 < n := hlt1
      refine lv_iload_n hx hb dX5_joinWays_2 rfl (lv_at hl 0 rfl) ?_
      refine lv_iload_n hx hb dX5_joinWays_3 rfl (lv_at hl 2 rfl) ?_
      refine lv_icmp_ge (tgt := 62) hx hb dX5_joinWays_4 (by decide) (fun c3 => ?_) (fun c3 => ?_)
      · exact (upS hk1 hn9 c3).elim
      · refine lv_iconst (v := 0) hx hb dX5_joinWays_7 (by decide) ?_
        refine lv_istore_n (lv' := [(3, .int 0), (2, .int (nI k1)), (0, .ref (Aw 0)), (1, .int (nI n))]) hx hb dX5_joinWays_8 rfl hl (by decide) rfl (fun ls hl => ?_)
        have lp4 : ∀ (j4 : Nat) (k4 : Nat) (hk4 : k4 + j4 = n) (x3_4 : Int32) (e3_4 : x3_4 = (nI k4)) (ywL_4 : Nat → Nat → Int32) (eywL_4 : ywL_4 = (jw2 (jw1 Lw n k1) n k1 k4)) (H : Heap) (locs : List Loc) (hP : va_P D.1 vwCl (wWays D Aw ywL_4) H) (hD : va_D A0 (wWays D Aw ywL_4)) (hS : va_S A0 s.heap H locs) (ls : Array Slot) (hl : lv_has ls 5 [(3, .int x3_4), (2, .int (nI k1)), (0, .ref (Aw 0)), (1, .int (nI n))]), W p l e (headSpec wsX5_joinWays ({ frames := 3, cells := 0, slots := 0, locals := 66 } : Room)).room s m ([.ref (Aw 0), .int (nI n)] : List Value).toArray below meth c H locs 0 0 (MQ below (QW D none (wWays D Aw (jw1 Lw n n)) A0) ([.ref (Aw 0), .int (nI n)] : List Value).toArray s 0 0 A0) (F0 m 9 ls []) := by
          intro j4
          induction j4 with
          | zero =>
            intro k4 hk4 x3_4 e3_4 ywL_4 eywL_4  H locs hP hD hS ls hl
            subst e3_4 eywL_4
            have hkN4 : n = k4 := (by omega)
            subst hkN4
            refine lv_iload_n hx hb dX5_joinWays_9 rfl (lv_at hl 0 rfl) ?_
            refine lv_iload_n hx hb dX5_joinWays_10 rfl (lv_at hl 3 rfl) ?_
            refine lv_icmp_ge (tgt := 56) hx hb dX5_joinWays_11 (by decide) (fun c5 => ?_) (fun c5 => ?_)
            · refine lv_iinc (v := ((nI k1) + 1)) (lv' := [(2, .int ((nI k1) + 1)), (3, .int (nI n)), (0, .ref (Aw 0)), (1, .int (nI n))]) hx hb dX5_joinWays_56 hl (k := 1) rfl rfl (by decide) rfl (fun ls hl => ?_)
              refine lv_goto (tgt := 2) hx hb dX5_joinWays_59 (by decide) ?_
              exact ih1 (k1 + 1) (by omega) _ (nI_1 k1) _ rfl _ _ hP hD hS ls (lv_sub hl [0, 2, 3] rfl)
            · exact (up0 rfl c5).elim
          | succ j4 ih4 =>
            intro k4 hk4 x3_4 e3_4 ywL_4 eywL_4  H locs hP hD hS ls hl
            subst e3_4 eywL_4
            have hlt4 : k4 < n := by omega
            have hlt : k4 < n := hlt4
            refine lv_iload_n hx hb dX5_joinWays_9 rfl (lv_at hl 0 rfl) ?_
            refine lv_iload_n hx hb dX5_joinWays_10 rfl (lv_at hl 3 rfl) ?_
            refine lv_icmp_ge (tgt := 56) hx hb dX5_joinWays_11 (by decide) (fun c6 => ?_) (fun c6 => ?_)
            · exact (upS hk4 hn9 c6).elim
            · refine lv_iconst (v := 0) hx hb dX5_joinWays_14 (by decide) ?_
              refine lv_istore (lv' := [(4, .int 0), (3, .int (nI k4)), (2, .int (nI k1)), (0, .ref (Aw 0)), (1, .int (nI n))]) hx hb dX5_joinWays_15 hl (by decide) rfl (fun ls hl => ?_)
              have lp7 : ∀ (j7 : Nat) (k7 : Nat) (hk7 : k7 + j7 = n) (x4_7 : Int32) (e4_7 : x4_7 = (nI k7)) (ywL_7 : Nat → Nat → Int32) (eywL_7 : ywL_7 = (jw3 (jw2 (jw1 Lw n k1) n k1 k4) k1 k4 k7)) (H : Heap) (locs : List Loc) (hP : va_P D.1 vwCl (wWays D Aw ywL_7) H) (hD : va_D A0 (wWays D Aw ywL_7)) (hS : va_S A0 s.heap H locs) (ls : Array Slot) (hl : lv_has ls 5 [(4, .int x4_7), (3, .int (nI k4)), (2, .int (nI k1)), (0, .ref (Aw 0)), (1, .int (nI n))]), W p l e (headSpec wsX5_joinWays ({ frames := 3, cells := 0, slots := 0, locals := 66 } : Room)).room s m ([.ref (Aw 0), .int (nI n)] : List Value).toArray below meth c H locs 0 0 (MQ below (QW D none (wWays D Aw (jw1 Lw n n)) A0) ([.ref (Aw 0), .int (nI n)] : List Value).toArray s 0 0 A0) (F0 m 17 ls []) := by
                intro j7
                induction j7 with
                | zero =>
                  intro k7 hk7 x4_7 e4_7 ywL_7 eywL_7  H locs hP hD hS ls hl
                  subst e4_7 eywL_7
                  have hkN7 : n = k7 := (by omega)
                  subst hkN7
                  refine lv_iload hx hb dX5_joinWays_17 (lv_at hl 0 rfl) ?_
                  refine lv_iload_n hx hb dX5_joinWays_19 rfl (lv_at hl 4 rfl) ?_
                  refine lv_icmp_ge (tgt := 50) hx hb dX5_joinWays_20 (by decide) (fun c8 => ?_) (fun c8 => ?_)
                  · refine lv_iinc (v := ((nI k4) + 1)) (lv' := [(3, .int ((nI k4) + 1)), (4, .int (nI n)), (2, .int (nI k1)), (0, .ref (Aw 0)), (1, .int (nI n))]) hx hb dX5_joinWays_50 hl (k := 1) rfl rfl (by decide) rfl (fun ls hl => ?_)
                    refine lv_goto (tgt := 9) hx hb dX5_joinWays_53 (by decide) ?_
                    exact ih4 (k4 + 1) (by omega) _ (nI_1 k4) _ rfl _ _ hP hD hS ls (lv_sub hl [0, 2, 3, 4] rfl)
                  · exact (up0 rfl c8).elim
                | succ j7 ih7 =>
                  intro k7 hk7 x4_7 e4_7 ywL_7 eywL_7  H locs hP hD hS ls hl
                  subst e4_7 eywL_7
                  have hlt7 : k7 < n := by omega
                  have hlt : k7 < n := hlt7
                  refine lv_iload hx hb dX5_joinWays_17 (lv_at hl 0 rfl) ?_
                  refine lv_iload_n hx hb dX5_joinWays_19 rfl (lv_at hl 4 rfl) ?_
                  refine lv_icmp_ge (tgt := 50) hx hb dX5_joinWays_20 (by decide) (fun c9 => ?_) (fun c9 => ?_)
                  · exact (upS hk7 hn9 c9).elim
                  · refine lv_aload_n hx hb dX5_joinWays_23 rfl (lv_at hl 3 rfl) ?_
                    refine lv_iload_n hx hb dX5_joinWays_24 rfl (lv_at hl 1 rfl) ?_
                    refine lv_iload hx hb dX5_joinWays_25 (lv_at hl 0 rfl) ?_
                    refine lv_aload_n hx hb dX5_joinWays_27 rfl (lv_at hl 3 rfl) ?_
                    refine lv_iload_n hx hb dX5_joinWays_28 rfl (lv_at hl 1 rfl) ?_
                    refine lv_iload_n hx hb dX5_joinWays_29 rfl (lv_at hl 2 rfl) ?_
                    refine kVp ⟨hx, hb, hml, hown, hts⟩ (c_X5_hoursOf l D Aw (jw3 (jw2 (jw1 Lw n k1) n k1 k4) k1 k4 k7) (nI k4) (nI k1)) (cwV 2 hts gX5_joinWays_X5_hoursOf rfl rfl rfl (by decide +kernel) ⟨Nat.le_of_ble_eq_true rfl, Nat.le_of_ble_eq_true rfl⟩) hK hN hP hD Sb.self 5 0 rfl rfl rfl hl.1 (Nat.le_of_ble_eq_true rfl) ⟨Nat.zero_le _, Nat.zero_le _⟩ dX5_joinWays_30 ?_ rfl
                    refine lv_aload_n hx hb dX5_joinWays_33 rfl (lv_at hl 3 rfl) ?_
                    refine lv_iload_n hx hb dX5_joinWays_34 rfl (lv_at hl 2 rfl) ?_
                    refine lv_iload hx hb dX5_joinWays_35 (lv_at hl 0 rfl) ?_
                    refine kVp ⟨hx, hb, hml, hown, hts⟩ (c_X5_hoursOf l D Aw (jw3 (jw2 (jw1 Lw n k1) n k1 k4) k1 k4 k7) (nI k1) (nI k7)) (cwV 2 hts gX5_joinWays_X5_hoursOf rfl rfl rfl (by decide +kernel) ⟨Nat.le_of_ble_eq_true rfl, Nat.le_of_ble_eq_true rfl⟩) hK hN hP hD Sb.self 5 0 rfl rfl rfl hl.1 (Nat.le_of_ble_eq_true rfl) ⟨Nat.zero_le _, Nat.zero_le _⟩ dX5_joinWays_37 ?_ rfl
                    refine lv_iadd hx hb dX5_joinWays_40 ?_
                    refine kVw ⟨hx, hb, hml, hown, hts⟩ (c_X5_shorten l D Aw (jw3 (jw2 (jw1 Lw n k1) n k1 k4) k1 k4 k7) (nI k4) (nI k7) ((hoC (jw3 (jw2 (jw1 Lw n k1) n k1 k4) k1 k4 k7) (nI k4) (nI k1)) + (hoC (jw3 (jw2 (jw1 Lw n k1) n k1 k4) k1 k4 k7) (nI k1) (nI k7)))) (cwV 3 hts gX5_joinWays_X5_shorten rfl rfl rfl (by decide +kernel) ⟨Nat.le_of_ble_eq_true rfl, Nat.le_of_ble_eq_true rfl⟩) hK hN hP hD hS frsWays 5 0 rfl rfl rfl hl.1 (Nat.le_of_ble_eq_true rfl) ⟨Nat.zero_le _, Nat.zero_le _⟩ dX5_joinWays_41 (fun H locs hP hD hS => ?_) rfl
                    have hP : va_P D.1 vwCl (wWays D Aw (shoC (jw3 (jw2 (jw1 Lw n k1) n k1 k4) k1 k4 k7) (nI k4) (nI k7) ((hoC (jw3 (jw2 (jw1 Lw n k1) n k1 k4) k1 k4 k7) (nI k4) (nI k1)) + (hoC (jw3 (jw2 (jw1 Lw n k1) n k1 k4) k1 k4 k7) (nI k1) (nI k7))))) H := hP
                    have hD : va_D A0 (wWays D Aw (shoC (jw3 (jw2 (jw1 Lw n k1) n k1 k4) k1 k4 k7) (nI k4) (nI k7) ((hoC (jw3 (jw2 (jw1 Lw n k1) n k1 k4) k1 k4 k7) (nI k4) (nI k1)) + (hoC (jw3 (jw2 (jw1 Lw n k1) n k1 k4) k1 k4 k7) (nI k1) (nI k7))))) := hD
                    refine W.eq (g2 := F0 m 44 ls []) rfl ?_
                    refine lv_iinc (v := ((nI k7) + 1)) (lv' := [(4, .int ((nI k7) + 1)), (3, .int (nI k4)), (2, .int (nI k1)), (0, .ref (Aw 0)), (1, .int (nI n))]) hx hb dX5_joinWays_44 hl (k := 0) rfl rfl (by decide) rfl (fun ls hl => ?_)
                    refine lv_goto (tgt := 17) hx hb dX5_joinWays_47 (by decide) ?_
                    exact ih7 (k7 + 1) (by omega) _ (nI_1 k7) _ rfl _ _ hP hD hS ls (lv_sub hl [0, 1, 2, 3, 4] rfl)
              exact lp7 n 0 (by omega) _ nI_0.symm _ rfl _ _ hP hD hS ls (lv_sub hl [0, 1, 2, 3, 4] rfl)
        exact lp4 n 0 (by omega) _ nI_0.symm _ rfl _ _ hP hD hS ls (lv_sub hl [0, 1, 2, 3] rfl)
  exact lp1 n 0 (by omega) _ nI_0.symm _ rfl _ _ hP hD hS ls (lv_sub hl [0, 1, 2] rfl)
