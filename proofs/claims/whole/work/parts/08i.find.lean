set_option maxHeartbeats 4000000 in
set_option maxRecDepth 100000 in
theorem c_X5_find (l : Launch) (D : GG) (Aw : Nat → Nat) (Lw : Nat → Nat → Int32) (Am : Nat → Nat) (nm : Nat) (Lm : Nat → Nat → Int32) (Ad : Nat → Nat) (nsd : Nat) (fogd : Int32) (nrd : Nat) (Ld : Nat → Nat → Int32) (hns : nsd < 2 ^ 31) (hnr : nrd < 2 ^ 31) (hm : nm < 2 ^ 31) : Met l yX5_find wsX5_find ({ frames := 4, cells := 0, slots := 0, locals := 90 } : Room) (va_Pc [.ref (Aw 0), .ref (Ad 0), .ref (Am 0)] (wd D ((wWays D Aw Lw) ++ ((wMul D Am nm Lm) ++ (wLand D Ad nsd fogd nrd Ld))))) (QW D none ((wWays D Aw (findC Lw Ld Lm nsd nrd nm)) ++ ((wMul D Am nm Lm) ++ (wLand D Ad nsd fogd nrd Ld))) (own ((wWays D Aw Lw) ++ ((wMul D Am nm Lm) ++ (wLand D Ad nsd fogd nrd Ld))))) 0 0 (own ((wWays D Aw Lw) ++ ((wMul D Am nm Lm) ++ (wLand D Ad nsd fogd nrd Ld)))) := by
  refine Met.ofW (cc := cX5_find) (maxL := 6) (ret := none) (by decide) rfl ?_
  intro p e s m args below meth c s₁ B hml hv
  obtain ⟨rfl, hP, hK, hD, hN⟩ := hv
  have hx := B.exec
  have hb := B.bytes
  have hr := B.returns
  have hts := atoms_spec (ws := wsX5_find) B.pre
  have hown : s.vm.findClass RX5 = some m.cls := findClass_of_methodNamed B.named
  have hlocks := B.notSynchronized
  have hinX0 : ∀ w ∈ u_ws RX0 TX0 8, w ∈ wsX5_find := by decide +kernel
  have hS : va_S (own ((wWays D Aw Lw) ++ ((wMul D Am nm Lm) ++ (wLand D Ad nsd fogd nrd Ld)))) s.heap s.heap [] := va_S.rf
  have hD : va_D (own ((wWays D Aw Lw) ++ ((wMul D Am nm Lm) ++ (wLand D Ad nsd fogd nrd Ld)))) ((wWays D Aw Lw) ++ ((wMul D Am nm Lm) ++ (wLand D Ad nsd fogd nrd Ld))) := toOwn hD
  generalize hAe : own ((wWays D Aw Lw) ++ ((wMul D Am nm Lm) ++ (wLand D Ad nsd fogd nrd Ld))) = A0 at hD hS ⊢
  have hl := lv_entry ([.ref (Aw 0), .ref (Ad 0), .ref (Am 0)]) (n := 6) (Nat.le_of_ble_eq_true rfl)
  rw [lg_entry_eq]
  generalize (lg_sl ([.ref (Aw 0), .ref (Ad 0), .ref (Am 0)]) ++ List.replicate (6 - (lg_sl ([.ref (Aw 0), .ref (Ad 0), .ref (Am 0)])).length) Slot.unset).toArray = ls at hl ⊢
  have hl : lv_has ls 6 [(0, .ref (Aw 0)), (1, .ref (Ad 0)), (2, .ref (Am 0))] := hl
  refine lv_iconst (v := 0) hx hb dX5_find_0 (by decide) ?_
  refine lv_istore_n (lv' := [(3, .int 0), (0, .ref (Aw 0)), (1, .ref (Ad 0)), (2, .ref (Am 0))]) hx hb dX5_find_1 rfl hl (by decide) rfl (fun ls hl => ?_)
  have lp1 : ∀ (j1 : Nat) (k1 : Nat) (hk1 : k1 + j1 = nrd) (x3_1 : Int32) (e3_1 : x3_1 = (nI k1)) (ywL_1 : Nat → Nat → Int32) (eywL_1 : ywL_1 = (fnd1 Lw Ld Lm nm k1)) (H : Heap) (locs : List Loc) (hP : va_P D.1 vwCl ((wWays D Aw ywL_1) ++ ((wMul D Am nm Lm) ++ (wLand D Ad nsd fogd nrd Ld))) H) (hD : va_D A0 ((wWays D Aw ywL_1) ++ ((wMul D Am nm Lm) ++ (wLand D Ad nsd fogd nrd Ld)))) (hS : va_S A0 s.heap H locs) (ls : Array Slot) (hl : lv_has ls 6 [(3, .int x3_1), (0, .ref (Aw 0)), (1, .ref (Ad 0)), (2, .ref (Am 0))]), W p l e (headSpec wsX5_find ({ frames := 4, cells := 0, slots := 0, locals := 90 } : Room)).room s m ([.ref (Aw 0), .ref (Ad 0), .ref (Am 0)] : List Value).toArray below meth c H locs 0 0 (MQ below (QW D none ((wWays D Aw (findC Lw Ld Lm nsd nrd nm)) ++ ((wMul D Am nm Lm) ++ (wLand D Ad nsd fogd nrd Ld))) A0) ([.ref (Aw 0), .ref (Ad 0), .ref (Am 0)] : List Value).toArray s 0 0 A0) (F0 m 2 ls []) := by
    intro j1
    induction j1 with
    | zero =>
      intro k1 hk1 x3_1 e3_1 ywL_1 eywL_1  H locs hP hD hS ls hl
      subst e3_1 eywL_1
      have hkN1 : nrd = k1 := (by omega)
      subst hkN1
      refine lv_iload_n hx hb dX5_find_2 rfl (lv_at hl 0 rfl) ?_
      refine lv_aload_n hx hb dX5_find_3 rfl (lv_at hl 2 rfl) ?_
      refine va_getN (D := D.1) (ci := 0) (v := .int (nI nrd)) (C := RX0) (T := TX0) (N := 8) hx hb hts hinX0 hown hK (sP (Sb.r (Sb.r Sb.self)) hP) 0 rfl rfl 4 (by decide) (hN.f 42 rfl) (fun _ h9 => h9) rfl dX5_find_4 ?_
      refine lv_icmp_ge (tgt := 78) hx hb dX5_find_7 (by decide) (fun c2 => ?_) (fun c2 => ?_)
      · refine lv_aload_n hx hb dX5_find_78 rfl (lv_at hl 1 rfl) ?_
        refine lv_aload_n hx hb dX5_find_79 rfl (lv_at hl 2 rfl) ?_
        refine va_getN (D := D.1) (ci := 0) (v := .int (nI nsd)) (C := RX0) (T := TX0) (N := 8) hx hb hts hinX0 hown hK (sP (Sb.r (Sb.r Sb.self)) hP) 0 rfl rfl 0 (by decide) (hN.f 45 rfl) (fun _ h9 => h9) rfl dX5_find_80 ?_
        refine kVw ⟨hx, hb, hml, hown, hts⟩ (c_X5_joinWays l D Aw (fnd1 Lw Ld Lm nm nrd) nsd hns) (cwV 1 hts gX5_find_X5_joinWays rfl rfl rfl (by decide +kernel) ⟨Nat.le_of_ble_eq_true rfl, Nat.le_of_ble_eq_true rfl⟩) hK hN hP hD hS (Fr.l frsWays) 5 0 rfl rfl rfl hl.1 (Nat.le_of_ble_eq_true rfl) ⟨Nat.zero_le _, Nat.zero_le _⟩ dX5_find_83 (fun H locs hP hD hS => ?_) rfl
        have hP : va_P D.1 vwCl ((wWays D Aw (jw1 (fnd1 Lw Ld Lm nm nrd) nsd nsd)) ++ ((wMul D Am nm Lm) ++ (wLand D Ad nsd fogd nrd Ld))) H := hP
        have hD : va_D A0 ((wWays D Aw (jw1 (fnd1 Lw Ld Lm nm nrd) nsd nsd)) ++ ((wMul D Am nm Lm) ++ (wLand D Ad nsd fogd nrd Ld))) := hD
        refine W.eq (g2 := F0 m 86 ls []) rfl ?_
        refine lv_aload_n hx hb dX5_find_86 rfl (lv_at hl 2 rfl) ?_
        refine va_getN (D := D.1) (ci := 0) (v := .int (nI nrd)) (C := RX0) (T := TX0) (N := 8) hx hb hts hinX0 hown hK (sP (Sb.r (Sb.r Sb.self)) hP) 0 rfl rfl 4 (by decide) (hN.f 42 rfl) (fun _ h9 => h9) rfl dX5_find_87 ?_
        refine lv_iconst (v := 1) hx hb dX5_find_90 (by decide) ?_
        refine lv_isub hx hb dX5_find_91 ?_
        refine lv_istore_n (lv' := [(3, .int ((nI nrd) - 1)), (0, .ref (Aw 0)), (1, .ref (Ad 0)), (2, .ref (Am 0))]) hx hb dX5_find_92 rfl hl (by decide) rfl (fun ls hl => ?_)
        have lp3 : ∀ (j3 : Nat) (Wx : Nat → Nat → Int32) (hj : j3 ≤ nrd) (hw : fnd2 Ld Lm nsd nm j3 Wx = findC Lw Ld Lm nsd nrd nm) (x3_3 : Int32) (e3_3 : x3_3 = (nI j3 - 1)) (H : Heap) (locs : List Loc) (hP : va_P D.1 vwCl ((wWays D Aw Wx) ++ ((wMul D Am nm Lm) ++ (wLand D Ad nsd fogd nrd Ld))) H) (hD : va_D A0 ((wWays D Aw Wx) ++ ((wMul D Am nm Lm) ++ (wLand D Ad nsd fogd nrd Ld)))) (hS : va_S A0 s.heap H locs) (ls : Array Slot) (hl : lv_has ls 6 [(3, .int x3_3), (0, .ref (Aw 0)), (1, .ref (Ad 0)), (2, .ref (Am 0))]), W p l e (headSpec wsX5_find ({ frames := 4, cells := 0, slots := 0, locals := 90 } : Room)).room s m ([.ref (Aw 0), .ref (Ad 0), .ref (Am 0)] : List Value).toArray below meth c H locs 0 0 (MQ below (QW D none ((wWays D Aw (findC Lw Ld Lm nsd nrd nm)) ++ ((wMul D Am nm Lm) ++ (wLand D Ad nsd fogd nrd Ld))) A0) ([.ref (Aw 0), .ref (Ad 0), .ref (Am 0)] : List Value).toArray s 0 0 A0) (F0 m 93 ls []) := by
          intro j3
          induction j3 with
          | zero =>
            intro Wx hj hw x3_3 e3_3 H locs hP hD hS ls hl
            subst e3_3
            refine lv_iload_n hx hb dX5_find_93 rfl (lv_at hl 0 rfl) ?_
            refine lv_if_lt (tgt := 139) hx hb dX5_find_94 (by decide) (fun c4 => ?_) (fun c4 => ?_)
            · exact eWv hx hb hr hlocks dX5_find_139 hS hP (by rw [← hw]; rfl)
            · exact absurd (show nI 0 - 1 < 0 by decide) c4
          | succ j3 ih3 =>
            intro Wx hj hw x3_3 e3_3 H locs hP hD hS ls hl
            rw [nI_pred] at e3_3
            subst e3_3
            refine lv_iload_n hx hb dX5_find_93 rfl (lv_at hl 0 rfl) ?_
            refine lv_if_lt (tgt := 139) hx hb dX5_find_94 (by decide) (fun c5 => ?_) (fun c5 => ?_)
            · exact absurd c5 (nI_pos (by omega))
            · refine lv_aload_n hx hb dX5_find_97 rfl (lv_at hl 3 rfl) ?_
              refine lv_iload_n hx hb dX5_find_98 rfl (lv_at hl 0 rfl) ?_
              refine kVp ⟨hx, hb, hml, hown, hts⟩ (c_X2_ofRoad l D Am nm Lm (nI j3) hm) (cwV 1 hts gX5_find_X2_ofRoad rfl rfl rfl (by decide +kernel) ⟨Nat.le_of_ble_eq_true rfl, Nat.le_of_ble_eq_true rfl⟩) hK hN hP hD (Sb.r (Sb.l Sb.self)) 2 0 rfl rfl rfl hl.1 (Nat.le_of_ble_eq_true rfl) ⟨Nat.zero_le _, Nat.zero_le _⟩ dX5_find_99 ?_ rfl
              refine lv_if_le (tgt := 133) hx hb dX5_find_102 (by decide) (fun c6 => ?_) (fun c6 => ?_)
              · refine lv_iinc (v := ((nI j3) + (-1))) (lv' := [(3, .int ((nI j3) + (-1))), (0, .ref (Aw 0)), (1, .ref (Ad 0)), (2, .ref (Am 0))]) hx hb dX5_find_133 hl (k := 0) rfl rfl (by decide) rfl (fun ls hl => ?_)
                refine lv_goto (tgt := 93) hx hb dX5_find_136 (by decide) ?_
                exact ih3 _ (by omega) (by first | (rw [← hw, fnd2, if_pos (by assumption)]; first | done | rfl) | (rw [← hw, fnd2, if_neg (by assumption)]; first | done | rfl)) _ (add_m1 _) _ _ hP hD hS ls (lv_sub hl [0, 1, 2, 3] rfl)
              · refine lv_aload_n hx hb dX5_find_105 rfl (lv_at hl 1 rfl) ?_
                refine lv_aload_n hx hb dX5_find_106 rfl (lv_at hl 2 rfl) ?_
                refine lv_iload_n hx hb dX5_find_107 rfl (lv_at hl 0 rfl) ?_
                refine lv_aload_n hx hb dX5_find_108 rfl (lv_at hl 2 rfl) ?_
                refine va_getN (D := D.1) (ci := 0) (v := .ref (Ad 3)) (C := RX0) (T := TX0) (N := 8) hx hb hts hinX0 hown hK (sP (Sb.r (Sb.r Sb.self)) hP) 0 rfl rfl 5 (by decide) (hN.f 43 rfl) (fun _ h9 => h9) rfl dX5_find_109 ?_
                refine lv_iload_n hx hb dX5_find_112 rfl (lv_at hl 0 rfl) ?_
                refine kVp ⟨hx, hb, hml, hown, hts⟩ (c_X3_get l D (Ad 3) (Ad 8) 15 (Ld 2) (nI j3) (by decide)) (cwV 1 hts gX5_find_X3_get rfl rfl rfl (by decide +kernel) ⟨Nat.le_of_ble_eq_true rfl, Nat.le_of_ble_eq_true rfl⟩) hK hN hP hD (Sb.r (Sb.r sbLand2)) 3 0 rfl rfl rfl hl.1 (Nat.le_of_ble_eq_true rfl) ⟨Nat.zero_le _, Nat.zero_le _⟩ dX5_find_113 ?_ rfl
                refine kVw ⟨hx, hb, hml, hown, hts⟩ (c_X5_beginWith l D Aw Wx Ad nsd fogd nrd Ld (nI j3) (rg 15 (Ld 2) (nI j3)) hns) (cwV 3 hts gX5_find_X5_beginWith rfl rfl rfl (by decide +kernel) ⟨Nat.le_of_ble_eq_true rfl, Nat.le_of_ble_eq_true rfl⟩) hK hN hP hD hS (Fr.app frsWays (Fr.r (Fr.kp Sb.self))) 5 0 rfl rfl rfl hl.1 (Nat.le_of_ble_eq_true rfl) ⟨Nat.zero_le _, Nat.zero_le _⟩ dX5_find_116 (fun H locs hP hD hS => ?_) rfl
                have hP : va_P D.1 vwCl ((wWays D Aw (bgF Wx Ld (nI j3) (rg 15 (Ld 2) (nI j3)) nsd)) ++ ((wMul D Am nm Lm) ++ (wLand D Ad nsd fogd nrd Ld))) H := hP
                have hD : va_D A0 ((wWays D Aw (bgF Wx Ld (nI j3) (rg 15 (Ld 2) (nI j3)) nsd)) ++ ((wMul D Am nm Lm) ++ (wLand D Ad nsd fogd nrd Ld))) := hD
                refine W.eq (g2 := F0 m 119 ls []) rfl ?_
                refine lv_aload_n hx hb dX5_find_119 rfl (lv_at hl 1 rfl) ?_
                refine lv_aload_n hx hb dX5_find_120 rfl (lv_at hl 2 rfl) ?_
                refine lv_iload_n hx hb dX5_find_121 rfl (lv_at hl 0 rfl) ?_
                refine lv_aload_n hx hb dX5_find_122 rfl (lv_at hl 2 rfl) ?_
                refine va_getN (D := D.1) (ci := 0) (v := .ref (Ad 4)) (C := RX0) (T := TX0) (N := 8) hx hb hts hinX0 hown hK (sP (Sb.r (Sb.r Sb.self)) hP) 0 rfl rfl 6 (by decide) (hN.f 44 rfl) (fun _ h9 => h9) rfl dX5_find_123 ?_
                refine lv_iload_n hx hb dX5_find_126 rfl (lv_at hl 0 rfl) ?_
                refine kVp ⟨hx, hb, hml, hown, hts⟩ (c_X3_get l D (Ad 4) (Ad 9) 15 (Ld 3) (nI j3) (by decide)) (cwV 1 hts gX5_find_X3_get rfl rfl rfl (by decide +kernel) ⟨Nat.le_of_ble_eq_true rfl, Nat.le_of_ble_eq_true rfl⟩) hK hN hP hD (Sb.r (Sb.r sbLand3)) 3 0 rfl rfl rfl hl.1 (Nat.le_of_ble_eq_true rfl) ⟨Nat.zero_le _, Nat.zero_le _⟩ dX5_find_127 ?_ rfl
                refine kVw ⟨hx, hb, hml, hown, hts⟩ (c_X5_beginWith l D Aw (bgF Wx Ld (nI j3) (rg 15 (Ld 2) (nI j3)) nsd) Ad nsd fogd nrd Ld (nI j3) (rg 15 (Ld 3) (nI j3)) hns) (cwV 3 hts gX5_find_X5_beginWith rfl rfl rfl (by decide +kernel) ⟨Nat.le_of_ble_eq_true rfl, Nat.le_of_ble_eq_true rfl⟩) hK hN hP hD hS (Fr.app frsWays (Fr.r (Fr.kp Sb.self))) 5 0 rfl rfl rfl hl.1 (Nat.le_of_ble_eq_true rfl) ⟨Nat.zero_le _, Nat.zero_le _⟩ dX5_find_130 (fun H locs hP hD hS => ?_) rfl
                have hP : va_P D.1 vwCl ((wWays D Aw (bgF (bgF Wx Ld (nI j3) (rg 15 (Ld 2) (nI j3)) nsd) Ld (nI j3) (rg 15 (Ld 3) (nI j3)) nsd)) ++ ((wMul D Am nm Lm) ++ (wLand D Ad nsd fogd nrd Ld))) H := hP
                have hD : va_D A0 ((wWays D Aw (bgF (bgF Wx Ld (nI j3) (rg 15 (Ld 2) (nI j3)) nsd) Ld (nI j3) (rg 15 (Ld 3) (nI j3)) nsd)) ++ ((wMul D Am nm Lm) ++ (wLand D Ad nsd fogd nrd Ld))) := hD
                refine W.eq (g2 := F0 m 133 ls []) rfl ?_
                refine lv_iinc (v := ((nI j3) + (-1))) (lv' := [(3, .int ((nI j3) + (-1))), (0, .ref (Aw 0)), (1, .ref (Ad 0)), (2, .ref (Am 0))]) hx hb dX5_find_133 hl (k := 0) rfl rfl (by decide) rfl (fun ls hl => ?_)
                refine lv_goto (tgt := 93) hx hb dX5_find_136 (by decide) ?_
                exact ih3 _ (by omega) (by first | (rw [← hw, fnd2, if_pos (by assumption)]; first | done | rfl) | (rw [← hw, fnd2, if_neg (by assumption)]; first | done | rfl)) _ (add_m1 _) _ _ hP hD hS ls (lv_sub hl [0, 1, 2, 3] rfl)
        exact lp3 nrd (jw1 (fnd1 Lw Ld Lm nm nrd) nsd nsd) (Nat.le_refl _) rfl _ rfl _ _ hP hD hS ls (lv_sub hl [0, 1, 2, 3] rfl)
      · exact (up0 rfl c2).elim
    | succ j1 ih1 =>
      intro k1 hk1 x3_1 e3_1 ywL_1 eywL_1  H locs hP hD hS ls hl
      subst e3_1 eywL_1
      have hlt1 : k1 < nrd := by omega
      have hlt : k1 < nrd := hlt1
      refine lv_iload_n hx hb dX5_find_2 rfl (lv_at hl 0 rfl) ?_
      refine lv_aload_n hx hb dX5_find_3 rfl (lv_at hl 2 rfl) ?_
      refine va_getN (D := D.1) (ci := 0) (v := .int (nI nrd)) (C := RX0) (T := TX0) (N := 8) hx hb hts hinX0 hown hK (sP (Sb.r (Sb.r Sb.self)) hP) 0 rfl rfl 4 (by decide) (hN.f 42 rfl) (fun _ h9 => h9) rfl dX5_find_4 ?_
      refine lv_icmp_ge (tgt := 78) hx hb dX5_find_7 (by decide) (fun c7 => ?_) (fun c7 => ?_)
      · exact (upS hk1 hnr c7).elim
      · refine lv_aload_n hx hb dX5_find_10 rfl (lv_at hl 3 rfl) ?_
        refine lv_iload_n hx hb dX5_find_11 rfl (lv_at hl 0 rfl) ?_
        refine kVp ⟨hx, hb, hml, hown, hts⟩ (c_X2_ofRoad l D Am nm Lm (nI k1) hm) (cwV 1 hts gX5_find_X2_ofRoad rfl rfl rfl (by decide +kernel) ⟨Nat.le_of_ble_eq_true rfl, Nat.le_of_ble_eq_true rfl⟩) hK hN hP hD (Sb.r (Sb.l Sb.self)) 2 0 rfl rfl rfl hl.1 (Nat.le_of_ble_eq_true rfl) ⟨Nat.zero_le _, Nat.zero_le _⟩ dX5_find_12 ?_ rfl
        refine lv_if_le (tgt := 72) hx hb dX5_find_15 (by decide) (fun c8 => ?_) (fun c8 => ?_)
        · refine lv_iinc (v := ((nI k1) + 1)) (lv' := [(3, .int ((nI k1) + 1)), (0, .ref (Aw 0)), (1, .ref (Ad 0)), (2, .ref (Am 0))]) hx hb dX5_find_72 hl (k := 0) rfl rfl (by decide) rfl (fun ls hl => ?_)
          refine lv_goto (tgt := 2) hx hb dX5_find_75 (by decide) ?_
          exact ih1 (k1 + 1) (by omega) _ (nI_1 k1) _ (by first | (rw [fnd1, if_pos (by assumption)]; first | done | rfl) | (rw [fnd1, if_neg (by assumption)]; first | done | rfl)) _ _ hP hD hS ls (lv_sub hl [0, 1, 2, 3] rfl)
        · refine lv_aload_n hx hb dX5_find_18 rfl (lv_at hl 2 rfl) ?_
          refine va_getN (D := D.1) (ci := 0) (v := .ref (Ad 3)) (C := RX0) (T := TX0) (N := 8) hx hb hts hinX0 hown hK (sP (Sb.r (Sb.r Sb.self)) hP) 0 rfl rfl 5 (by decide) (hN.f 43 rfl) (fun _ h9 => h9) rfl dX5_find_19 ?_
          refine lv_iload_n hx hb dX5_find_22 rfl (lv_at hl 0 rfl) ?_
          refine kVp ⟨hx, hb, hml, hown, hts⟩ (c_X3_get l D (Ad 3) (Ad 8) 15 (Ld 2) (nI k1) (by decide)) (cwV 1 hts gX5_find_X3_get rfl rfl rfl (by decide +kernel) ⟨Nat.le_of_ble_eq_true rfl, Nat.le_of_ble_eq_true rfl⟩) hK hN hP hD (Sb.r (Sb.r sbLand2)) 3 0 rfl rfl rfl hl.1 (Nat.le_of_ble_eq_true rfl) ⟨Nat.zero_le _, Nat.zero_le _⟩ dX5_find_23 ?_ rfl
          refine lv_istore (lv' := [(4, .int (rg 15 (Ld 2) (nI k1))), (3, .int (nI k1)), (0, .ref (Aw 0)), (1, .ref (Ad 0)), (2, .ref (Am 0))]) hx hb dX5_find_26 hl (by decide) rfl (fun ls hl => ?_)
          refine lv_aload_n hx hb dX5_find_28 rfl (lv_at hl 3 rfl) ?_
          refine va_getN (D := D.1) (ci := 0) (v := .ref (Ad 4)) (C := RX0) (T := TX0) (N := 8) hx hb hts hinX0 hown hK (sP (Sb.r (Sb.r Sb.self)) hP) 0 rfl rfl 6 (by decide) (hN.f 44 rfl) (fun _ h9 => h9) rfl dX5_find_29 ?_
          refine lv_iload_n hx hb dX5_find_32 rfl (lv_at hl 1 rfl) ?_
          refine kVp ⟨hx, hb, hml, hown, hts⟩ (c_X3_get l D (Ad 4) (Ad 9) 15 (Ld 3) (nI k1) (by decide)) (cwV 1 hts gX5_find_X3_get rfl rfl rfl (by decide +kernel) ⟨Nat.le_of_ble_eq_true rfl, Nat.le_of_ble_eq_true rfl⟩) hK hN hP hD (Sb.r (Sb.r sbLand3)) 3 0 rfl rfl rfl hl.1 (Nat.le_of_ble_eq_true rfl) ⟨Nat.zero_le _, Nat.zero_le _⟩ dX5_find_33 ?_ rfl
          refine lv_istore (lv' := [(5, .int (rg 15 (Ld 3) (nI k1))), (4, .int (rg 15 (Ld 2) (nI k1))), (3, .int (nI k1)), (0, .ref (Aw 0)), (1, .ref (Ad 0)), (2, .ref (Am 0))]) hx hb dX5_find_36 hl (by decide) rfl (fun ls hl => ?_)
          refine lv_aload_n hx hb dX5_find_38 rfl (lv_at hl 3 rfl) ?_
          refine lv_iload hx hb dX5_find_39 (lv_at hl 1 rfl) ?_
          refine lv_iload hx hb dX5_find_41 (lv_at hl 0 rfl) ?_
          refine lv_aload_n hx hb dX5_find_43 rfl (lv_at hl 4 rfl) ?_
          refine lv_iload_n hx hb dX5_find_44 rfl (lv_at hl 2 rfl) ?_
          refine lv_iload hx hb dX5_find_45 (lv_at hl 1 rfl) ?_
          refine lv_iload hx hb dX5_find_47 (lv_at hl 0 rfl) ?_
          refine kVp ⟨hx, hb, hml, hown, hts⟩ (c_X0_hoursBetween l D Ad nsd fogd nrd Ld (nI k1) (rg 15 (Ld 2) (nI k1)) (rg 15 (Ld 3) (nI k1))) (cwV 3 hts gX5_find_X0_hoursBetween rfl rfl rfl (by decide +kernel) ⟨Nat.le_of_ble_eq_true rfl, Nat.le_of_ble_eq_true rfl⟩) hK hN hP hD (Sb.r (Sb.r Sb.self)) 0 0 rfl rfl rfl hl.1 (Nat.le_of_ble_eq_true rfl) ⟨Nat.zero_le _, Nat.zero_le _⟩ dX5_find_49 ?_ rfl
          refine kVw ⟨hx, hb, hml, hown, hts⟩ (c_X5_shorten l D Aw (fnd1 Lw Ld Lm nm k1) (rg 15 (Ld 2) (nI k1)) (rg 15 (Ld 3) (nI k1)) (hrsC Ld (nI k1) (rg 15 (Ld 2) (nI k1)) (rg 15 (Ld 3) (nI k1)))) (cwV 3 hts gX5_find_X5_shorten rfl rfl rfl (by decide +kernel) ⟨Nat.le_of_ble_eq_true rfl, Nat.le_of_ble_eq_true rfl⟩) hK hN hP hD hS (Fr.l frsWays) 5 0 rfl rfl rfl hl.1 (Nat.le_of_ble_eq_true rfl) ⟨Nat.zero_le _, Nat.zero_le _⟩ dX5_find_52 (fun H locs hP hD hS => ?_) rfl
          have hP : va_P D.1 vwCl ((wWays D Aw (shoC (fnd1 Lw Ld Lm nm k1) (rg 15 (Ld 2) (nI k1)) (rg 15 (Ld 3) (nI k1)) (hrsC Ld (nI k1) (rg 15 (Ld 2) (nI k1)) (rg 15 (Ld 3) (nI k1))))) ++ ((wMul D Am nm Lm) ++ (wLand D Ad nsd fogd nrd Ld))) H := hP
          have hD : va_D A0 ((wWays D Aw (shoC (fnd1 Lw Ld Lm nm k1) (rg 15 (Ld 2) (nI k1)) (rg 15 (Ld 3) (nI k1)) (hrsC Ld (nI k1) (rg 15 (Ld 2) (nI k1)) (rg 15 (Ld 3) (nI k1))))) ++ ((wMul D Am nm Lm) ++ (wLand D Ad nsd fogd nrd Ld))) := hD
          refine W.eq (g2 := F0 m 55 ls []) rfl ?_
          refine lv_aload_n hx hb dX5_find_55 rfl (lv_at hl 3 rfl) ?_
          refine lv_iload hx hb dX5_find_56 (lv_at hl 0 rfl) ?_
          refine lv_iload hx hb dX5_find_58 (lv_at hl 1 rfl) ?_
          refine lv_aload_n hx hb dX5_find_60 rfl (lv_at hl 4 rfl) ?_
          refine lv_iload_n hx hb dX5_find_61 rfl (lv_at hl 2 rfl) ?_
          refine lv_iload hx hb dX5_find_62 (lv_at hl 0 rfl) ?_
          refine lv_iload hx hb dX5_find_64 (lv_at hl 1 rfl) ?_
          refine kVp ⟨hx, hb, hml, hown, hts⟩ (c_X0_hoursBetween l D Ad nsd fogd nrd Ld (nI k1) (rg 15 (Ld 3) (nI k1)) (rg 15 (Ld 2) (nI k1))) (cwV 3 hts gX5_find_X0_hoursBetween rfl rfl rfl (by decide +kernel) ⟨Nat.le_of_ble_eq_true rfl, Nat.le_of_ble_eq_true rfl⟩) hK hN hP hD (Sb.r (Sb.r Sb.self)) 0 0 rfl rfl rfl hl.1 (Nat.le_of_ble_eq_true rfl) ⟨Nat.zero_le _, Nat.zero_le _⟩ dX5_find_66 ?_ rfl
          refine kVw ⟨hx, hb, hml, hown, hts⟩ (c_X5_shorten l D Aw (shoC (fnd1 Lw Ld Lm nm k1) (rg 15 (Ld 2) (nI k1)) (rg 15 (Ld 3) (nI k1)) (hrsC Ld (nI k1) (rg 15 (Ld 2) (nI k1)) (rg 15 (Ld 3) (nI k1)))) (rg 15 (Ld 3) (nI k1)) (rg 15 (Ld 2) (nI k1)) (hrsC Ld (nI k1) (rg 15 (Ld 3) (nI k1)) (rg 15 (Ld 2) (nI k1)))) (cwV 3 hts gX5_find_X5_shorten rfl rfl rfl (by decide +kernel) ⟨Nat.le_of_ble_eq_true rfl, Nat.le_of_ble_eq_true rfl⟩) hK hN hP hD hS (Fr.l frsWays) 5 0 rfl rfl rfl hl.1 (Nat.le_of_ble_eq_true rfl) ⟨Nat.zero_le _, Nat.zero_le _⟩ dX5_find_69 (fun H locs hP hD hS => ?_) rfl
          have hP : va_P D.1 vwCl ((wWays D Aw (shoC (shoC (fnd1 Lw Ld Lm nm k1) (rg 15 (Ld 2) (nI k1)) (rg 15 (Ld 3) (nI k1)) (hrsC Ld (nI k1) (rg 15 (Ld 2) (nI k1)) (rg 15 (Ld 3) (nI k1)))) (rg 15 (Ld 3) (nI k1)) (rg 15 (Ld 2) (nI k1)) (hrsC Ld (nI k1) (rg 15 (Ld 3) (nI k1)) (rg 15 (Ld 2) (nI k1))))) ++ ((wMul D Am nm Lm) ++ (wLand D Ad nsd fogd nrd Ld))) H := hP
          have hD : va_D A0 ((wWays D Aw (shoC (shoC (fnd1 Lw Ld Lm nm k1) (rg 15 (Ld 2) (nI k1)) (rg 15 (Ld 3) (nI k1)) (hrsC Ld (nI k1) (rg 15 (Ld 2) (nI k1)) (rg 15 (Ld 3) (nI k1)))) (rg 15 (Ld 3) (nI k1)) (rg 15 (Ld 2) (nI k1)) (hrsC Ld (nI k1) (rg 15 (Ld 3) (nI k1)) (rg 15 (Ld 2) (nI k1))))) ++ ((wMul D Am nm Lm) ++ (wLand D Ad nsd fogd nrd Ld))) := hD
          refine W.eq (g2 := F0 m 72 ls []) rfl ?_
          refine lv_iinc (v := ((nI k1) + 1)) (lv' := [(3, .int ((nI k1) + 1)), (5, .int (rg 15 (Ld 3) (nI k1))), (4, .int (rg 15 (Ld 2) (nI k1))), (0, .ref (Aw 0)), (1, .ref (Ad 0)), (2, .ref (Am 0))]) hx hb dX5_find_72 hl (k := 2) rfl rfl (by decide) rfl (fun ls hl => ?_)
          refine lv_goto (tgt := 2) hx hb dX5_find_75 (by decide) ?_
          exact ih1 (k1 + 1) (by omega) _ (nI_1 k1) _ (by first | (rw [fnd1, if_pos (by assumption)]; first | done | rfl) | (rw [fnd1, if_neg (by assumption)]; first | done | rfl)) _ _ hP hD hS ls (lv_sub hl [0, 3, 4, 5] rfl)
  exact lp1 nrd 0 (by omega) _ nI_0.symm _ rfl _ _ hP hD hS ls (lv_sub hl [0, 1, 2, 3] rfl)
