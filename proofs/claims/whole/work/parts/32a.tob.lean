set_option maxHeartbeats 4000000 in
set_option maxRecDepth 100000 in
theorem c_X5_init (l : Launch) (D : GG) (oo : Nat) (sz : Nat)  : Met l yX5_init wsX5_init ({ frames := 2, cells := 4, slots := 202, locals := 42 } : Room) (va_Pc [.ref oo] (wdZ D [(oo, .inr (5, [.null, .null]))] sz)) (QX D (fun _ => none) (fun g => (wWays D (nA oo g) W50)) (ownZ [(oo, .inr (5, [.null, .null]))] sz)) 4 202 (ownZ [(oo, .inr (5, [.null, .null]))] sz) := by
  refine Met.ofW (cc := cX5_init) (maxL := 3) (ret := none) (by decide) rfl ?_
  intro p e s m args below meth c s₁ B hml hv
  obtain ⟨rfl, hsz, hP, hK, hD, hN⟩ := hv
  have hx := B.exec
  have hb := B.bytes
  have hr := B.returns
  have hts := atoms_spec (ws := wsX5_init) B.pre
  have hown : s.vm.findClass RX5 = some m.cls := findClass_of_methodNamed B.named
  have hlocks := B.notSynchronized
  have hinit : meth.name = "<init>" := (name_of_methodNamed B.named B.method).1
  have hinX3 : ∀ w ∈ u_ws RX3 TX3 1, w ∈ wsX5_init := by decide +kernel
  have hinX5 : ∀ w ∈ u_ws RX5 TX5 2, w ∈ wsX5_init := by decide +kernel
  subst hsz
  have hS : va_S (ownZ [(oo, .inr (5, [.null, .null]))] s.heap.size) s.heap s.heap [] := va_S.rf
  have hD : va_D (ownZ [(oo, .inr (5, [.null, .null]))] s.heap.size) [(oo, .inr (5, [.null, .null]))] := toOwnZ hD
  have hA : ∀ q : Nat, s.heap.size ≤ q → ownZ [(oo, .inr (5, [.null, .null]))] s.heap.size q := fun _ h => Or.inr h
  generalize hAe : ownZ [(oo, .inr (5, [.null, .null]))] s.heap.size = A0 at hD hS hA ⊢
  have hl := lv_entry ([.ref oo]) (n := 3) (Nat.le_of_ble_eq_true rfl)
  rw [lg_entry_eq]
  generalize (lg_sl ([.ref oo]) ++ List.replicate (3 - (lg_sl ([.ref oo])).length) Slot.unset).toArray = ls at hl ⊢
  have hl : lv_has ls 3 [(0, .ref oo)] := hl
  refine lv_aload_n hx hb dX5_init_0 rfl (lv_at hl 0 rfl) ?_
  refine W.objInit hx hb hown (hts (.methodLink RX5 3 objectInit) (List.mem_of_getElem? (i := 1) rfl)) (hts (.instanceMethod objectInit) (List.mem_of_getElem? (i := 2) rfl)) (hts (.code objectInit ⟨#[0xb1]⟩ 1 none) (List.mem_of_getElem? (i := 3) rfl)) rfl (by rw [hml]; exact hl.1) rfl dX5_init_1 (Nat.le_of_ble_eq_true rfl) (Nat.le_of_ble_eq_true rfl) ?_
  refine W.eq (g2 := F0 m 4 ls []) rfl ?_
  refine lv_aload_n hx hb dX5_init_4 rfl (lv_at hl 0 rfl) ?_
  refine va_new (D := D.1) (ci := 3) (fs := [.null]) (C := RX3) (T := TX3) (N := 1) hx hb hts hinX3 tyX3 tyX3_ok hown (hts (.classLink RX5 9 RX3) (List.mem_of_getElem? (i := 4) rfl)) (hts (.instantiable RX3 1) (List.mem_of_getElem? (i := 5) rfl)) (hts (.initialized RX3) (List.mem_of_getElem? (i := 6) rfl)) hK hP hD hS hA rfl (fun j hj => by rcases (show j = 0 by omega) with rfl <;> rfl) (Nat.le_of_ble_eq_true rfl) (Nat.le_of_ble_eq_true rfl) dX5_init_5 (fun q1 H hP hD hS => ?_)
  have hP : va_P D.1 vwCl ([(oo, .inr (5, [.null, .null]))] ++ [(q1, .inr (3, [.null]))]) H := hP
  have hD : va_D A0 ([(oo, .inr (5, [.null, .null]))] ++ [(q1, .inr (3, [.null]))]) := hD
  refine lv_dup hx hb dX5_init_8 rfl ?_
  refine lv_bipush (v := 100) hx hb dX5_init_9 (by decide) ?_
  refine kIx ⟨hx, hb, hml, hown, hts⟩ (c_X3_init l D q1 100 _ (by decide)) (cwI 1 hts gX5_init_X3_init rfl rfl rfl (hts (.initialized RX3) (List.mem_of_getElem? (i := 6) rfl)) (hts (.methodLink RX5 11 yX3_init) (List.mem_of_getElem? (i := 10) rfl)) (hts (.instanceMethod yX3_init) (List.mem_of_getElem? (i := 11) rfl)) rfl (by decide +kernel) ⟨Nat.le_of_ble_eq_true rfl, Nat.le_of_ble_eq_true rfl⟩) (preSZ hK hN (ws := [(oo, .inr (5, [.null, .null]))] ++ [(q1, .inr (3, [.null]))]) hP hD (Sb.r Sb.self)) hP hD hS hA (fun _ h => h) (wr := [(oo, .inr (5, [.null, .null]))]) rfl rfl hl.1 (Nat.le_of_ble_eq_true rfl) ⟨Nat.le_of_ble_eq_true rfl, Nat.le_of_ble_eq_true rfl⟩ dX5_init_11 (fun g2 H locs hP hD hS => ?_) rfl
  have hP : va_P D.1 vwCl ([(oo, .inr (5, [.null, .null]))] ++ (wRow D q1 (g2 0) 100 z0)) H := hP
  have hD : va_D A0 ([(oo, .inr (5, [.null, .null]))] ++ (wRow D q1 (g2 0) 100 z0)) := hD
  refine W.eq (g2 := F0 m 14 ls [.ref q1, .ref oo]) rfl ?_
  refine va_putF (D := D.1) (ci := 5) (v := .ref q1) (ty := .object "MountainPost$Row") (C := RX5) (T := TX5) (N := 2) hx hb hts hinX5 tyX5 tyX5_ok nmX5 hown hK hP hD hS 0 rfl rfl 0 (by decide) (hts (.fieldLink RX5 14 "MountainPost$Ways" "hours" "LMountainPost$Row;") (List.mem_of_getElem? (i := 7) rfl)) (fun _ h9 => h9) rfl hinit rfl (by decide +kernel) rfl rfl (Nat.le_of_ble_eq_true rfl) dX5_init_14 (fun H locs hP hD hS => ?_)
  have hP : va_P D.1 vwCl ([(oo, .inr (5, [.ref q1, .null]))] ++ (wRow D q1 (g2 0) 100 z0)) H := hP
  have hD : va_D A0 ([(oo, .inr (5, [.ref q1, .null]))] ++ (wRow D q1 (g2 0) 100 z0)) := hD
  refine lv_aload_n hx hb dX5_init_17 rfl (lv_at hl 0 rfl) ?_
  refine va_new (D := D.1) (ci := 3) (fs := [.null]) (C := RX3) (T := TX3) (N := 1) hx hb hts hinX3 tyX3 tyX3_ok hown (hts (.classLink RX5 9 RX3) (List.mem_of_getElem? (i := 4) rfl)) (hts (.instantiable RX3 1) (List.mem_of_getElem? (i := 5) rfl)) (hts (.initialized RX3) (List.mem_of_getElem? (i := 6) rfl)) hK hP hD hS hA rfl (fun j hj => by rcases (show j = 0 by omega) with rfl <;> rfl) (Nat.le_of_ble_eq_true rfl) (Nat.le_of_ble_eq_true rfl) dX5_init_18 (fun q3 H hP hD hS => ?_)
  have hP : va_P D.1 vwCl ([(oo, .inr (5, [.ref q1, .null]))] ++ ((wRow D q1 (g2 0) 100 z0) ++ [(q3, .inr (3, [.null]))])) H := hP
  have hD : va_D A0 ([(oo, .inr (5, [.ref q1, .null]))] ++ ((wRow D q1 (g2 0) 100 z0) ++ [(q3, .inr (3, [.null]))])) := hD
  refine lv_dup hx hb dX5_init_21 rfl ?_
  refine lv_bipush (v := 100) hx hb dX5_init_22 (by decide) ?_
  refine kIx ⟨hx, hb, hml, hown, hts⟩ (c_X3_init l D q3 100 _ (by decide)) (cwI 1 hts gX5_init_X3_init rfl rfl rfl (hts (.initialized RX3) (List.mem_of_getElem? (i := 6) rfl)) (hts (.methodLink RX5 11 yX3_init) (List.mem_of_getElem? (i := 10) rfl)) (hts (.instanceMethod yX3_init) (List.mem_of_getElem? (i := 11) rfl)) rfl (by decide +kernel) ⟨Nat.le_of_ble_eq_true rfl, Nat.le_of_ble_eq_true rfl⟩) (preSZ hK hN (ws := ([(oo, .inr (5, [.ref q1, .null]))] ++ (wRow D q1 (g2 0) 100 z0)) ++ [(q3, .inr (3, [.null]))]) hP hD (Sb.r Sb.self)) hP hD hS hA (fun _ h => h) (wr := ([(oo, .inr (5, [.ref q1, .null]))] ++ (wRow D q1 (g2 0) 100 z0))) rfl rfl hl.1 (Nat.le_of_ble_eq_true rfl) ⟨Nat.le_of_ble_eq_true rfl, Nat.le_of_ble_eq_true rfl⟩ dX5_init_24 (fun g4 H locs hP hD hS => ?_) rfl
  have hP : va_P D.1 vwCl ([(oo, .inr (5, [.ref q1, .null]))] ++ ((wRow D q1 (g2 0) 100 z0) ++ (wRow D q3 (g4 0) 100 z0))) H := hP
  have hD : va_D A0 ([(oo, .inr (5, [.ref q1, .null]))] ++ ((wRow D q1 (g2 0) 100 z0) ++ (wRow D q3 (g4 0) 100 z0))) := hD
  refine W.eq (g2 := F0 m 27 ls [.ref q3, .ref oo]) rfl ?_
  refine va_putF (D := D.1) (ci := 5) (v := .ref q3) (ty := .object "MountainPost$Row") (C := RX5) (T := TX5) (N := 2) hx hb hts hinX5 tyX5 tyX5_ok nmX5 hown hK hP hD hS 0 rfl rfl 1 (by decide) (hts (.fieldLink RX5 20 "MountainPost$Ways" "firsts" "LMountainPost$Row;") (List.mem_of_getElem? (i := 8) rfl)) (fun _ h9 => h9) rfl hinit rfl (by decide +kernel) rfl rfl (Nat.le_of_ble_eq_true rfl) dX5_init_27 (fun H locs hP hD hS => ?_)
  have hP : va_P D.1 vwCl ([(oo, .inr (5, [.ref q1, .ref q3]))] ++ ((wRow D q1 (g2 0) 100 z0) ++ (wRow D q3 (g4 0) 100 z0))) H := hP
  have hD : va_D A0 ([(oo, .inr (5, [.ref q1, .ref q3]))] ++ ((wRow D q1 (g2 0) 100 z0) ++ (wRow D q3 (g4 0) 100 z0))) := hD
  have hP := hP.sub (ws' := (wWays D (nA oo (gl [0, q1, q3, (g2 0), (g4 0)])) (fun _ => z0))) [0, 1, 3, 2, 4] rfl
  have hD := hD.sub (ws' := (wWays D (nA oo (gl [0, q1, q3, (g2 0), (g4 0)])) (fun _ => z0))) [0, 1, 3, 2, 4] (by decide) rfl
  refine lv_iconst (v := 0) hx hb dX5_init_30 (by decide) ?_
  refine lv_istore_n (lv' := [(1, .int 0), (0, .ref oo)]) hx hb dX5_init_31 rfl hl (by decide) rfl (fun ls hl => ?_)
  have lp5 : ∀ (j5 : Nat) (k5 : Nat) (hk5 : k5 + j5 = 10) (x1_5 : Int32) (e1_5 : x1_5 = (nI k5)) (ywL_5 : Nat → Nat → Int32) (eywL_5 : ywL_5 = (w5o (fun _ => z0) k5)) (H : Heap) (locs : List Loc) (hP : va_P D.1 vwCl (wWays D (nA oo (gl [0, q1, q3, (g2 0), (g4 0)])) ywL_5) H) (hD : va_D A0 (wWays D (nA oo (gl [0, q1, q3, (g2 0), (g4 0)])) ywL_5)) (hS : va_S A0 s.heap H locs) (ls : Array Slot) (hl : lv_has ls 3 [(1, .int x1_5), (0, .ref oo)]), W p l e (headSpec wsX5_init ({ frames := 2, cells := 4, slots := 202, locals := 42 } : Room)).room s m ([.ref oo] : List Value).toArray below meth c H locs 4 202 (MQ below (QX D (fun _ => none) (fun g => (wWays D (nA oo g) W50)) A0) ([.ref oo] : List Value).toArray s 4 202 A0) (F0 m 32 ls []) := by
    intro j5
    induction j5 with
    | zero =>
      intro k5 hk5 x1_5 e1_5 ywL_5 eywL_5  H locs hP hD hS ls hl
      subst e1_5 eywL_5
      have hkN5 : 10 = k5 := (by omega)
      subst hkN5
      refine lv_iload_n hx hb dX5_init_32 rfl (lv_at hl 0 rfl) ?_
      refine lv_bipush (v := 10) hx hb dX5_init_33 (by decide) ?_
      refine lv_icmp_ge (tgt := 96) hx hb dX5_init_35 (by decide) (fun c6 => ?_) (fun c6 => ?_)
      · have hP : va_P D.1 vwCl (wWays D (nA oo (gl [0, q1, q3, (g2 0), (g4 0)])) W50) H := hP
        have hD : va_D A0 (wWays D (nA oo (gl [0, q1, q3, (g2 0), (g4 0)])) W50) := hD
        refine W.widen (k := 4) (n := 202) (Nat.le_of_ble_eq_true rfl) (Nat.le_of_ble_eq_true rfl) ?_
        exact W.vret hx hb hr (fun t ht hW => ⟨gl [0, q1, q3, (g2 0), (g4 0)], rfl, by rw [ht]; exact hP, hD, hS.F ht⟩) hS.2.2 dX5_init_96 hlocks
      · exact (up0 rfl c6).elim
    | succ j5 ih5 =>
      intro k5 hk5 x1_5 e1_5 ywL_5 eywL_5  H locs hP hD hS ls hl
      subst e1_5 eywL_5
      have hlt5 : k5 < 10 := by omega
      have hlt : k5 < 10 := hlt5
      refine lv_iload_n hx hb dX5_init_32 rfl (lv_at hl 0 rfl) ?_
      refine lv_bipush (v := 10) hx hb dX5_init_33 (by decide) ?_
      refine lv_icmp_ge (tgt := 96) hx hb dX5_init_35 (by decide) (fun c7 => ?_) (fun c7 => ?_)
      · exact (upS hk5 (by decide) c7).elim
      · refine lv_iconst (v := 0) hx hb dX5_init_38 (by decide) ?_
        refine lv_istore_n (lv' := [(2, .int 0), (1, .int (nI k5)), (0, .ref oo)]) hx hb dX5_init_39 rfl hl (by decide) rfl (fun ls hl => ?_)
        have lp8 : ∀ (j8 : Nat) (k8 : Nat) (hk8 : k8 + j8 = 10) (x2_8 : Int32) (e2_8 : x2_8 = (nI k8)) (ywL_8 : Nat → Nat → Int32) (eywL_8 : ywL_8 = (w5i (w5o (fun _ => z0) k5) k5 k8)) (H : Heap) (locs : List Loc) (hP : va_P D.1 vwCl (wWays D (nA oo (gl [0, q1, q3, (g2 0), (g4 0)])) ywL_8) H) (hD : va_D A0 (wWays D (nA oo (gl [0, q1, q3, (g2 0), (g4 0)])) ywL_8)) (hS : va_S A0 s.heap H locs) (ls : Array Slot) (hl : lv_has ls 3 [(2, .int x2_8), (1, .int (nI k5)), (0, .ref oo)]), W p l e (headSpec wsX5_init ({ frames := 2, cells := 4, slots := 202, locals := 42 } : Room)).room s m ([.ref oo] : List Value).toArray below meth c H locs 4 202 (MQ below (QX D (fun _ => none) (fun g => (wWays D (nA oo g) W50)) A0) ([.ref oo] : List Value).toArray s 4 202 A0) (F0 m 40 ls []) := by
          intro j8
          induction j8 with
          | zero =>
            intro k8 hk8 x2_8 e2_8 ywL_8 eywL_8  H locs hP hD hS ls hl
            subst e2_8 eywL_8
            have hkN8 : 10 = k8 := (by omega)
            subst hkN8
            refine lv_iload_n hx hb dX5_init_40 rfl (lv_at hl 0 rfl) ?_
            refine lv_bipush (v := 10) hx hb dX5_init_41 (by decide) ?_
            refine lv_icmp_ge (tgt := 90) hx hb dX5_init_43 (by decide) (fun c9 => ?_) (fun c9 => ?_)
            · refine lv_iinc (v := ((nI k5) + 1)) (lv' := [(1, .int ((nI k5) + 1)), (2, .int (nI 10)), (0, .ref oo)]) hx hb dX5_init_90 hl (k := 1) rfl rfl (by decide) rfl (fun ls hl => ?_)
              refine lv_goto (tgt := 32) hx hb dX5_init_93 (by decide) ?_
              exact ih5 (k5 + 1) (by omega) _ (nI_1 k5) _ rfl _ _ hP hD hS ls (lv_sub hl [0, 2] rfl)
            · exact (up0 rfl c9).elim
          | succ j8 ih8 =>
            intro k8 hk8 x2_8 e2_8 ywL_8 eywL_8  H locs hP hD hS ls hl
            subst e2_8 eywL_8
            have hlt8 : k8 < 10 := by omega
            have hlt : k8 < 10 := hlt8
            refine lv_iload_n hx hb dX5_init_40 rfl (lv_at hl 0 rfl) ?_
            refine lv_bipush (v := 10) hx hb dX5_init_41 (by decide) ?_
            refine lv_icmp_ge (tgt := 90) hx hb dX5_init_43 (by decide) (fun c10 => ?_) (fun c10 => ?_)
            · exact (upS hk8 (by decide) c10).elim
            · refine lv_aload_n hx hb dX5_init_46 rfl (lv_at hl 2 rfl) ?_
              refine va_get (D := D.1) (ci := 5) (v := .ref q1) (C := RX5) (T := TX5) (N := 2) hx hb hts hinX5 hown hK hP 0 rfl rfl 0 (by decide) (hts (.fieldLink RX5 14 "MountainPost$Ways" "hours" "LMountainPost$Row;") (List.mem_of_getElem? (i := 7) rfl)) (fun _ h9 => h9) rfl dX5_init_47 ?_
              refine lv_iload_n hx hb dX5_init_50 rfl (lv_at hl 1 rfl) ?_
              refine lv_bipush (v := 10) hx hb dX5_init_51 (by decide) ?_
              refine lv_imul hx hb dX5_init_53 ?_
              refine lv_iload_n hx hb dX5_init_54 rfl (lv_at hl 0 rfl) ?_
              refine lv_iadd hx hb dX5_init_55 ?_
              refine lv_iload_n hx hb dX5_init_56 rfl (lv_at hl 1 rfl) ?_
              refine lv_iload_n hx hb dX5_init_57 rfl (lv_at hl 0 rfl) ?_
              refine lv_icmp_ne (tgt := 65) hx hb dX5_init_58 (by decide) (fun c11 => ?_) (fun c11 => ?_)
              · refine lv_ldc hx hb hown (hts (.constant RX5 23 (1000000)) (List.mem_of_getElem? (i := 9) rfl)) dX5_init_65 ?_
                refine kVw ⟨hx, hb, hml, hown, hts⟩ (c_X3_set l D q1 (g2 0) 100 ((w5i (w5o (fun _ => z0) k5) k5 k8) 0) (((nI k5) * 10) + (nI k8)) 1000000 (by decide)) (cwV 2 hts gX5_init_X3_set rfl rfl rfl (by decide +kernel) ⟨Nat.le_of_ble_eq_true rfl, Nat.le_of_ble_eq_true rfl⟩) hK hN hP hD hS frWays0 3 0 rfl rfl rfl hl.1 (Nat.le_of_ble_eq_true rfl) ⟨Nat.le_of_ble_eq_true rfl, Nat.le_of_ble_eq_true rfl⟩ dX5_init_67 (fun H locs hP hD hS => ?_) rfl
                have hP : va_P D.1 vwCl (wWays D (nA oo (gl [0, q1, q3, (g2 0), (g4 0)])) (sr (w5i (w5o (fun _ => z0) k5) k5 k8) 0 (rs 100 ((w5i (w5o (fun _ => z0) k5) k5 k8) 0) (((nI k5) * 10) + (nI k8)) 1000000))) H := hP
                have hD : va_D A0 (wWays D (nA oo (gl [0, q1, q3, (g2 0), (g4 0)])) (sr (w5i (w5o (fun _ => z0) k5) k5 k8) 0 (rs 100 ((w5i (w5o (fun _ => z0) k5) k5 k8) 0) (((nI k5) * 10) + (nI k8)) 1000000))) := hD
                refine W.eq (g2 := F0 m 70 ls []) rfl ?_
                refine lv_aload_n hx hb dX5_init_70 rfl (lv_at hl 2 rfl) ?_
                refine va_get (D := D.1) (ci := 5) (v := .ref q3) (C := RX5) (T := TX5) (N := 2) hx hb hts hinX5 hown hK hP 0 rfl rfl 1 (by decide) (hts (.fieldLink RX5 20 "MountainPost$Ways" "firsts" "LMountainPost$Row;") (List.mem_of_getElem? (i := 8) rfl)) (fun _ h9 => h9) rfl dX5_init_71 ?_
                refine lv_iload_n hx hb dX5_init_74 rfl (lv_at hl 1 rfl) ?_
                refine lv_bipush (v := 10) hx hb dX5_init_75 (by decide) ?_
                refine lv_imul hx hb dX5_init_77 ?_
                refine lv_iload_n hx hb dX5_init_78 rfl (lv_at hl 0 rfl) ?_
                refine lv_iadd hx hb dX5_init_79 ?_
                refine lv_iconst (v := (-1)) hx hb dX5_init_80 (by decide) ?_
                refine kVw ⟨hx, hb, hml, hown, hts⟩ (c_X3_set l D q3 (g4 0) 100 ((w5i (w5o (fun _ => z0) k5) k5 k8) 1) (((nI k5) * 10) + (nI k8)) (-1) (by decide)) (cwV 2 hts gX5_init_X3_set rfl rfl rfl (by decide +kernel) ⟨Nat.le_of_ble_eq_true rfl, Nat.le_of_ble_eq_true rfl⟩) hK hN hP hD hS frWays1 3 0 rfl rfl rfl hl.1 (Nat.le_of_ble_eq_true rfl) ⟨Nat.le_of_ble_eq_true rfl, Nat.le_of_ble_eq_true rfl⟩ dX5_init_81 (fun H locs hP hD hS => ?_) rfl
                have hP : va_P D.1 vwCl (wWays D (nA oo (gl [0, q1, q3, (g2 0), (g4 0)])) (sr (sr (w5i (w5o (fun _ => z0) k5) k5 k8) 0 (rs 100 ((w5i (w5o (fun _ => z0) k5) k5 k8) 0) (((nI k5) * 10) + (nI k8)) 1000000)) 1 (rs 100 ((w5i (w5o (fun _ => z0) k5) k5 k8) 1) (((nI k5) * 10) + (nI k8)) (-1)))) H := hP
                have hD : va_D A0 (wWays D (nA oo (gl [0, q1, q3, (g2 0), (g4 0)])) (sr (sr (w5i (w5o (fun _ => z0) k5) k5 k8) 0 (rs 100 ((w5i (w5o (fun _ => z0) k5) k5 k8) 0) (((nI k5) * 10) + (nI k8)) 1000000)) 1 (rs 100 ((w5i (w5o (fun _ => z0) k5) k5 k8) 1) (((nI k5) * 10) + (nI k8)) (-1)))) := hD
                refine W.eq (g2 := F0 m 84 ls []) rfl ?_
                refine lv_iinc (v := ((nI k8) + 1)) (lv' := [(2, .int ((nI k8) + 1)), (1, .int (nI k5)), (0, .ref oo)]) hx hb dX5_init_84 hl (k := 0) rfl rfl (by decide) rfl (fun ls hl => ?_)
                refine lv_goto (tgt := 40) hx hb dX5_init_87 (by decide) ?_
                exact ih8 (k8 + 1) (by omega) _ (nI_1 k8) _ (by (rw [w5i, if_neg c11]; first | done | rfl)) _ _ hP hD hS ls (lv_sub hl [0, 1, 2] rfl)
              · refine lv_iconst (v := 0) hx hb dX5_init_61 (by decide) ?_
                refine lv_goto (tgt := 67) hx hb dX5_init_62 (by decide) ?_
                refine kVw ⟨hx, hb, hml, hown, hts⟩ (c_X3_set l D q1 (g2 0) 100 ((w5i (w5o (fun _ => z0) k5) k5 k8) 0) (((nI k5) * 10) + (nI k8)) 0 (by decide)) (cwV 2 hts gX5_init_X3_set rfl rfl rfl (by decide +kernel) ⟨Nat.le_of_ble_eq_true rfl, Nat.le_of_ble_eq_true rfl⟩) hK hN hP hD hS frWays0 3 0 rfl rfl rfl hl.1 (Nat.le_of_ble_eq_true rfl) ⟨Nat.le_of_ble_eq_true rfl, Nat.le_of_ble_eq_true rfl⟩ dX5_init_67 (fun H locs hP hD hS => ?_) rfl
                have hP : va_P D.1 vwCl (wWays D (nA oo (gl [0, q1, q3, (g2 0), (g4 0)])) (sr (w5i (w5o (fun _ => z0) k5) k5 k8) 0 (rs 100 ((w5i (w5o (fun _ => z0) k5) k5 k8) 0) (((nI k5) * 10) + (nI k8)) 0))) H := hP
                have hD : va_D A0 (wWays D (nA oo (gl [0, q1, q3, (g2 0), (g4 0)])) (sr (w5i (w5o (fun _ => z0) k5) k5 k8) 0 (rs 100 ((w5i (w5o (fun _ => z0) k5) k5 k8) 0) (((nI k5) * 10) + (nI k8)) 0))) := hD
                refine W.eq (g2 := F0 m 70 ls []) rfl ?_
                refine lv_aload_n hx hb dX5_init_70 rfl (lv_at hl 2 rfl) ?_
                refine va_get (D := D.1) (ci := 5) (v := .ref q3) (C := RX5) (T := TX5) (N := 2) hx hb hts hinX5 hown hK hP 0 rfl rfl 1 (by decide) (hts (.fieldLink RX5 20 "MountainPost$Ways" "firsts" "LMountainPost$Row;") (List.mem_of_getElem? (i := 8) rfl)) (fun _ h9 => h9) rfl dX5_init_71 ?_
                refine lv_iload_n hx hb dX5_init_74 rfl (lv_at hl 1 rfl) ?_
                refine lv_bipush (v := 10) hx hb dX5_init_75 (by decide) ?_
                refine lv_imul hx hb dX5_init_77 ?_
                refine lv_iload_n hx hb dX5_init_78 rfl (lv_at hl 0 rfl) ?_
                refine lv_iadd hx hb dX5_init_79 ?_
                refine lv_iconst (v := (-1)) hx hb dX5_init_80 (by decide) ?_
                refine kVw ⟨hx, hb, hml, hown, hts⟩ (c_X3_set l D q3 (g4 0) 100 ((w5i (w5o (fun _ => z0) k5) k5 k8) 1) (((nI k5) * 10) + (nI k8)) (-1) (by decide)) (cwV 2 hts gX5_init_X3_set rfl rfl rfl (by decide +kernel) ⟨Nat.le_of_ble_eq_true rfl, Nat.le_of_ble_eq_true rfl⟩) hK hN hP hD hS frWays1 3 0 rfl rfl rfl hl.1 (Nat.le_of_ble_eq_true rfl) ⟨Nat.le_of_ble_eq_true rfl, Nat.le_of_ble_eq_true rfl⟩ dX5_init_81 (fun H locs hP hD hS => ?_) rfl
                have hP : va_P D.1 vwCl (wWays D (nA oo (gl [0, q1, q3, (g2 0), (g4 0)])) (sr (sr (w5i (w5o (fun _ => z0) k5) k5 k8) 0 (rs 100 ((w5i (w5o (fun _ => z0) k5) k5 k8) 0) (((nI k5) * 10) + (nI k8)) 0)) 1 (rs 100 ((w5i (w5o (fun _ => z0) k5) k5 k8) 1) (((nI k5) * 10) + (nI k8)) (-1)))) H := hP
                have hD : va_D A0 (wWays D (nA oo (gl [0, q1, q3, (g2 0), (g4 0)])) (sr (sr (w5i (w5o (fun _ => z0) k5) k5 k8) 0 (rs 100 ((w5i (w5o (fun _ => z0) k5) k5 k8) 0) (((nI k5) * 10) + (nI k8)) 0)) 1 (rs 100 ((w5i (w5o (fun _ => z0) k5) k5 k8) 1) (((nI k5) * 10) + (nI k8)) (-1)))) := hD
                refine W.eq (g2 := F0 m 84 ls []) rfl ?_
                refine lv_iinc (v := ((nI k8) + 1)) (lv' := [(2, .int ((nI k8) + 1)), (1, .int (nI k5)), (0, .ref oo)]) hx hb dX5_init_84 hl (k := 0) rfl rfl (by decide) rfl (fun ls hl => ?_)
                refine lv_goto (tgt := 40) hx hb dX5_init_87 (by decide) ?_
                exact ih8 (k8 + 1) (by omega) _ (nI_1 k8) _ (by (rw [w5i, if_pos c11]; first | done | rfl)) _ _ hP hD hS ls (lv_sub hl [0, 1, 2] rfl)
        exact lp8 10 0 (by omega) _ nI_0.symm _ rfl _ _ hP hD hS ls (lv_sub hl [0, 1, 2] rfl)
  exact lp5 10 0 (by omega) _ nI_0.symm _ rfl _ _ hP hD hS ls (lv_sub hl [0, 1] rfl)
