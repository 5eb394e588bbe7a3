set_option maxHeartbeats 4000000 in
set_option maxRecDepth 100000 in
theorem c_X6_digest (l : Launch) (D : GG) (om : Nat) (Ad : Nat → Nat) (ot : Nat) (ou : Nat) (Aw : Nat → Nat) (Am : Nat → Nat) (Ae : Nat → Nat) (xt : Nat) (hou : Int32) (cro : Int32) (Lw : Nat → Nat → Int32) (nm : Nat) (Lm : Nat → Nat → Int32) (ne : Nat) (Le : Nat → Nat → Int32) (yt : Nat) (Nt : Nat → Int32) (nsd : Nat) (fogd : Int32) (nrd : Nat) (Ld : Nat → Nat → Int32) (h10 : nsd ≤ 10) (h15 : nrd ≤ 15) (h12 : nm ≤ 12) (h60 : ne ≤ 60) : Met l yX6_digest wsX6_digest ({ frames := 4, cells := 0, slots := 0, locals := 89 } : Room) (va_Pc [.ref om] (wd D ((wMob om Ad ot ou) ++ ((wTob ot Ad Aw Am Ae xt hou cro) ++ ((wWays D Aw Lw) ++ ((wMul D Am nm Lm) ++ ((wLet D Ae ne Le) ++ ((wRow D xt yt 60 Nt) ++ (wLand D Ad nsd fogd nrd Ld))))))))) (RP (.long (d31 (fun k => tlC Le (nI k / 11) (nI k - nI k / 11 * 11)) (d31 (fun k => tmC Lm Le ne (nI k / 6) (nI k - nI k / 6 * 6)) (d31 (fun k => trC Ld Lm nm (nI k / 6) (nI k - nI k / 6 * 6)) (d31 (fun k => tsC Ld Lm Le fogd nm ne (nI k / 5) (nI k - nI k / 5 * 5)) (d31 (fun k => tcC Le hou cro nsd nrd nm ne (nI k)) 547 10) (nsd * 5)) (nrd * 6)) (nm * 6)) (ne * 11)))) 0 0 (fun _ => False) := by
  refine Met.ofW (cc := cX6_digest) (maxL := 4) (ret := (some .long)) (by decide) rfl ?_
  intro p e s m args below meth c s₁ B hml hv
  obtain ⟨rfl, hP, hK, hD, hN⟩ := hv
  have hx := B.exec
  have hb := B.bytes
  have hr := B.returns
  have hts := atoms_spec (ws := wsX6_digest) B.pre
  have hown : s.vm.findClass RX6 = some m.cls := findClass_of_methodNamed B.named
  have hlocks := B.notSynchronized
  have hinX0 : ∀ w ∈ u_ws RX0 TX0 8, w ∈ wsX6_digest := by decide +kernel
  have hinX1 : ∀ w ∈ u_ws RX1 TX1 12, w ∈ wsX6_digest := by decide +kernel
  have hinX2 : ∀ w ∈ u_ws RX2 TX2 6, w ∈ wsX6_digest := by decide +kernel
  have hinX4 : ∀ w ∈ u_ws RX4 TX4 7, w ∈ wsX6_digest := by decide +kernel
  have hinX6 : ∀ w ∈ u_ws RX6 TX6 3, w ∈ wsX6_digest := by decide +kernel
  have hl := lv_entry ([.ref om]) (n := 4) (Nat.le_of_ble_eq_true rfl)
  rw [lg_entry_eq]
  generalize (lg_sl ([.ref om]) ++ List.replicate (4 - (lg_sl ([.ref om])).length) Slot.unset).toArray = ls at hl ⊢
  have hl : lv_has ls 4 [(0, .ref om)] := hl
  refine lv_ldc2 hx hb hown (hts (.constantLong RX6 238 (547)) (List.mem_of_getElem? (i := 1) rfl)) dX6_digest_0 ?_
  refine lv_lstore_n (lv' := [(1, .long 547), (0, .ref om)]) hx hb dX6_digest_3 rfl hl (by decide) rfl (fun ls hl => ?_)
  refine lv_iconst (v := 0) hx hb dX6_digest_4 (by decide) ?_
  refine lv_istore_n (lv' := [(3, .int 0), (1, .long 547), (0, .ref om)]) hx hb dX6_digest_5 rfl hl (by decide) rfl (fun ls hl => ?_)
  have lp1 : ∀ (j1 : Nat) (k1 : Nat) (hk1 : k1 + j1 = 10) (x3_1 : Int32) (e3_1 : x3_1 = (nI k1)) (x1_1 : Int64) (e1_1 : x1_1 = (d31 (fun k => tcC Le hou cro nsd nrd nm ne (nI k)) 547 k1)) (ls : Array Slot) (hl : lv_has ls 4 [(3, .int x3_1), (1, .long x1_1), (0, .ref om)]), W p l e (headSpec wsX6_digest ({ frames := 4, cells := 0, slots := 0, locals := 89 } : Room)).room s m ([.ref om] : List Value).toArray below meth c s.heap [] 0 0 (MQ below (RP (.long (d31 (fun k => tlC Le (nI k / 11) (nI k - nI k / 11 * 11)) (d31 (fun k => tmC Lm Le ne (nI k / 6) (nI k - nI k / 6 * 6)) (d31 (fun k => trC Ld Lm nm (nI k / 6) (nI k - nI k / 6 * 6)) (d31 (fun k => tsC Ld Lm Le fogd nm ne (nI k / 5) (nI k - nI k / 5 * 5)) (d31 (fun k => tcC Le hou cro nsd nrd nm ne (nI k)) 547 10) (nsd * 5)) (nrd * 6)) (nm * 6)) (ne * 11)))) ([.ref om] : List Value).toArray s 0 0 (fun _ => False)) (F0 m 6 ls []) := by
    intro j1
    induction j1 with
    | zero =>
      intro k1 hk1 x3_1 e3_1 x1_1 e1_1   ls hl
      subst e3_1 e1_1
      have hkN1 : 10 = k1 := (by omega)
      subst hkN1
      refine lv_iload_n hx hb dX6_digest_6 rfl (lv_at hl 0 rfl) ?_
      refine lv_bipush (v := 10) hx hb dX6_digest_7 (by decide) ?_
      refine lv_icmp_ge (tgt := 31) hx hb dX6_digest_9 (by decide) (fun c2 => ?_) (fun c2 => ?_)
      · refine lv_iconst (v := 0) hx hb dX6_digest_31 (by decide) ?_
        refine lv_istore_n (lv' := [(3, .int 0), (1, .long (d31 (fun k => tcC Le hou cro nsd nrd nm ne (nI k)) 547 10)), (0, .ref om)]) hx hb dX6_digest_32 rfl hl (by decide) rfl (fun ls hl => ?_)
        have lp3 : ∀ (j3 : Nat) (k3 : Nat) (hk3 : k3 + j3 = (nsd * 5)) (x3_3 : Int32) (e3_3 : x3_3 = (nI k3)) (x1_3 : Int64) (e1_3 : x1_3 = (d31 (fun k => tsC Ld Lm Le fogd nm ne (nI k / 5) (nI k - nI k / 5 * 5)) (d31 (fun k => tcC Le hou cro nsd nrd nm ne (nI k)) 547 10) k3)) (ls : Array Slot) (hl : lv_has ls 4 [(3, .int x3_3), (1, .long x1_3), (0, .ref om)]), W p l e (headSpec wsX6_digest ({ frames := 4, cells := 0, slots := 0, locals := 89 } : Room)).room s m ([.ref om] : List Value).toArray below meth c s.heap [] 0 0 (MQ below (RP (.long (d31 (fun k => tlC Le (nI k / 11) (nI k - nI k / 11 * 11)) (d31 (fun k => tmC Lm Le ne (nI k / 6) (nI k - nI k / 6 * 6)) (d31 (fun k => trC Ld Lm nm (nI k / 6) (nI k - nI k / 6 * 6)) (d31 (fun k => tsC Ld Lm Le fogd nm ne (nI k / 5) (nI k - nI k / 5 * 5)) (d31 (fun k => tcC Le hou cro nsd nrd nm ne (nI k)) 547 10) (nsd * 5)) (nrd * 6)) (nm * 6)) (ne * 11)))) ([.ref om] : List Value).toArray s 0 0 (fun _ => False)) (F0 m 33 ls []) := by
          intro j3
          induction j3 with
          | zero =>
            intro k3 hk3 x3_3 e3_3 x1_3 e1_3   ls hl
            subst e3_3 e1_3
            have hkN3 : (nsd * 5) = k3 := (by omega)
            subst hkN3
            refine lv_iload_n hx hb dX6_digest_33 rfl (lv_at hl 0 rfl) ?_
            refine lv_aload_n hx hb dX6_digest_34 rfl (lv_at hl 2 rfl) ?_
            refine va_get (D := D.1) (ci := 6) (v := .ref (Ad 0)) (C := RX6) (T := TX6) (N := 3) hx hb hts hinX6 hown hK (sP (Sb.l Sb.self) hP) 0 rfl rfl 0 (by decide) (hts (.fieldLink RX6 10 "MountainPost" "land" "LMountainPost$Land;") (List.mem_of_getElem? (i := 3) rfl)) (fun _ h9 => h9) rfl dX6_digest_35 ?_
            refine va_getN (D := D.1) (ci := 0) (v := .int (nI nsd)) (C := RX0) (T := TX0) (N := 8) hx hb hts hinX0 hown hK (sP (Sb.r (Sb.r (Sb.r (Sb.r (Sb.r (Sb.r Sb.self)))))) hP) 0 rfl rfl 0 (by decide) (hN.f 0 rfl) (fun _ h9 => h9) rfl dX6_digest_38 ?_
            refine lv_iconst (v := 5) hx hb dX6_digest_41 (by decide) ?_
            refine lv_imul hx hb dX6_digest_42 ?_
            rw [show ((nI nsd) * 5) = (nI (nsd * 5)) from pk_mul nsd 5]
            refine lv_icmp_ge (tgt := 70) hx hb dX6_digest_43 (by decide) (fun c4 => ?_) (fun c4 => ?_)
            · refine lv_iconst (v := 0) hx hb dX6_digest_70 (by decide) ?_
              refine lv_istore_n (lv' := [(3, .int 0), (1, .long (d31 (fun k => tsC Ld Lm Le fogd nm ne (nI k / 5) (nI k - nI k / 5 * 5)) (d31 (fun k => tcC Le hou cro nsd nrd nm ne (nI k)) 547 10) (nsd * 5))), (0, .ref om)]) hx hb dX6_digest_71 rfl hl (by decide) rfl (fun ls hl => ?_)
              have lp5 : ∀ (j5 : Nat) (k5 : Nat) (hk5 : k5 + j5 = (nrd * 6)) (x3_5 : Int32) (e3_5 : x3_5 = (nI k5)) (x1_5 : Int64) (e1_5 : x1_5 = (d31 (fun k => trC Ld Lm nm (nI k / 6) (nI k - nI k / 6 * 6)) (d31 (fun k => tsC Ld Lm Le fogd nm ne (nI k / 5) (nI k - nI k / 5 * 5)) (d31 (fun k => tcC Le hou cro nsd nrd nm ne (nI k)) 547 10) (nsd * 5)) k5)) (ls : Array Slot) (hl : lv_has ls 4 [(3, .int x3_5), (1, .long x1_5), (0, .ref om)]), W p l e (headSpec wsX6_digest ({ frames := 4, cells := 0, slots := 0, locals := 89 } : Room)).room s m ([.ref om] : List Value).toArray below meth c s.heap [] 0 0 (MQ below (RP (.long (d31 (fun k => tlC Le (nI k / 11) (nI k - nI k / 11 * 11)) (d31 (fun k => tmC Lm Le ne (nI k / 6) (nI k - nI k / 6 * 6)) (d31 (fun k => trC Ld Lm nm (nI k / 6) (nI k - nI k / 6 * 6)) (d31 (fun k => tsC Ld Lm Le fogd nm ne (nI k / 5) (nI k - nI k / 5 * 5)) (d31 (fun k => tcC Le hou cro nsd nrd nm ne (nI k)) 547 10) (nsd * 5)) (nrd * 6)) (nm * 6)) (ne * 11)))) ([.ref om] : List Value).toArray s 0 0 (fun _ => False)) (F0 m 72 ls []) := by
                intro j5
                induction j5 with
                | zero =>
                  intro k5 hk5 x3_5 e3_5 x1_5 e1_5   ls hl
                  subst e3_5 e1_5
                  have hkN5 : (nrd * 6) = k5 := (by omega)
                  subst hkN5
                  refine lv_iload_n hx hb dX6_digest_72 rfl (lv_at hl 0 rfl) ?_
                  refine lv_aload_n hx hb dX6_digest_73 rfl (lv_at hl 2 rfl) ?_
                  refine va_get (D := D.1) (ci := 6) (v := .ref (Ad 0)) (C := RX6) (T := TX6) (N := 3) hx hb hts hinX6 hown hK (sP (Sb.l Sb.self) hP) 0 rfl rfl 0 (by decide) (hts (.fieldLink RX6 10 "MountainPost" "land" "LMountainPost$Land;") (List.mem_of_getElem? (i := 3) rfl)) (fun _ h9 => h9) rfl dX6_digest_74 ?_
                  refine va_getN (D := D.1) (ci := 0) (v := .int (nI nrd)) (C := RX0) (T := TX0) (N := 8) hx hb hts hinX0 hown hK (sP (Sb.r (Sb.r (Sb.r (Sb.r (Sb.r (Sb.r Sb.self)))))) hP) 0 rfl rfl 4 (by decide) (hN.f 3 rfl) (fun _ h9 => h9) rfl dX6_digest_77 ?_
                  refine lv_bipush (v := 6) hx hb dX6_digest_80 (by decide) ?_
                  refine lv_imul hx hb dX6_digest_82 ?_
                  rw [show ((nI nrd) * 6) = (nI (nrd * 6)) from pk_mul nrd 6]
                  refine lv_icmp_ge (tgt := 112) hx hb dX6_digest_83 (by decide) (fun c6 => ?_) (fun c6 => ?_)
                  · refine lv_iconst (v := 0) hx hb dX6_digest_112 (by decide) ?_
                    refine lv_istore_n (lv' := [(3, .int 0), (1, .long (d31 (fun k => trC Ld Lm nm (nI k / 6) (nI k - nI k / 6 * 6)) (d31 (fun k => tsC Ld Lm Le fogd nm ne (nI k / 5) (nI k - nI k / 5 * 5)) (d31 (fun k => tcC Le hou cro nsd nrd nm ne (nI k)) 547 10) (nsd * 5)) (nrd * 6))), (0, .ref om)]) hx hb dX6_digest_113 rfl hl (by decide) rfl (fun ls hl => ?_)
                    have lp7 : ∀ (j7 : Nat) (k7 : Nat) (hk7 : k7 + j7 = (nm * 6)) (x3_7 : Int32) (e3_7 : x3_7 = (nI k7)) (x1_7 : Int64) (e1_7 : x1_7 = (d31 (fun k => tmC Lm Le ne (nI k / 6) (nI k - nI k / 6 * 6)) (d31 (fun k => trC Ld Lm nm (nI k / 6) (nI k - nI k / 6 * 6)) (d31 (fun k => tsC Ld Lm Le fogd nm ne (nI k / 5) (nI k - nI k / 5 * 5)) (d31 (fun k => tcC Le hou cro nsd nrd nm ne (nI k)) 547 10) (nsd * 5)) (nrd * 6)) k7)) (ls : Array Slot) (hl : lv_has ls 4 [(3, .int x3_7), (1, .long x1_7), (0, .ref om)]), W p l e (headSpec wsX6_digest ({ frames := 4, cells := 0, slots := 0, locals := 89 } : Room)).room s m ([.ref om] : List Value).toArray below meth c s.heap [] 0 0 (MQ below (RP (.long (d31 (fun k => tlC Le (nI k / 11) (nI k - nI k / 11 * 11)) (d31 (fun k => tmC Lm Le ne (nI k / 6) (nI k - nI k / 6 * 6)) (d31 (fun k => trC Ld Lm nm (nI k / 6) (nI k - nI k / 6 * 6)) (d31 (fun k => tsC Ld Lm Le fogd nm ne (nI k / 5) (nI k - nI k / 5 * 5)) (d31 (fun k => tcC Le hou cro nsd nrd nm ne (nI k)) 547 10) (nsd * 5)) (nrd * 6)) (nm * 6)) (ne * 11)))) ([.ref om] : List Value).toArray s 0 0 (fun _ => False)) (F0 m 114 ls []) := by
                      intro j7
                      induction j7 with
                      | zero =>
                        intro k7 hk7 x3_7 e3_7 x1_7 e1_7   ls hl
                        subst e3_7 e1_7
                        have hkN7 : (nm * 6) = k7 := (by omega)
                        subst hkN7
                        refine lv_iload_n hx hb dX6_digest_114 rfl (lv_at hl 0 rfl) ?_
                        refine lv_aload_n hx hb dX6_digest_115 rfl (lv_at hl 2 rfl) ?_
                        refine va_get (D := D.1) (ci := 6) (v := .ref ot) (C := RX6) (T := TX6) (N := 3) hx hb hts hinX6 hown hK (sP (Sb.l Sb.self) hP) 0 rfl rfl 1 (by decide) (hts (.fieldLink RX6 21 "MountainPost" "traffic" "LMountainPost$Traffic;") (List.mem_of_getElem? (i := 4) rfl)) (fun _ h9 => h9) rfl dX6_digest_116 ?_
                        refine va_getN (D := D.1) (ci := 4) (v := .ref (Am 0)) (C := RX4) (T := TX4) (N := 7) hx hb hts hinX4 hown hK (sP (Sb.r (Sb.l Sb.self)) hP) 0 rfl rfl 2 (by decide) (hN.f 4 rfl) (fun _ h9 => h9) rfl dX6_digest_119 ?_
                        refine va_getN (D := D.1) (ci := 2) (v := .int (nI nm)) (C := RX2) (T := TX2) (N := 6) hx hb hts hinX2 hown hK (sP (Sb.r (Sb.r (Sb.r (Sb.l Sb.self)))) hP) 0 rfl rfl 0 (by decide) (hN.f 5 rfl) (fun _ h9 => h9) rfl dX6_digest_122 ?_
                        refine lv_bipush (v := 6) hx hb dX6_digest_125 (by decide) ?_
                        refine lv_imul hx hb dX6_digest_127 ?_
                        rw [show ((nI nm) * 6) = (nI (nm * 6)) from pk_mul nm 6]
                        refine lv_icmp_ge (tgt := 157) hx hb dX6_digest_128 (by decide) (fun c8 => ?_) (fun c8 => ?_)
                        · refine lv_iconst (v := 0) hx hb dX6_digest_157 (by decide) ?_
                          refine lv_istore_n (lv' := [(3, .int 0), (1, .long (d31 (fun k => tmC Lm Le ne (nI k / 6) (nI k - nI k / 6 * 6)) (d31 (fun k => trC Ld Lm nm (nI k / 6) (nI k - nI k / 6 * 6)) (d31 (fun k => tsC Ld Lm Le fogd nm ne (nI k / 5) (nI k - nI k / 5 * 5)) (d31 (fun k => tcC Le hou cro nsd nrd nm ne (nI k)) 547 10) (nsd * 5)) (nrd * 6)) (nm * 6))), (0, .ref om)]) hx hb dX6_digest_158 rfl hl (by decide) rfl (fun ls hl => ?_)
                          have lp9 : ∀ (j9 : Nat) (k9 : Nat) (hk9 : k9 + j9 = (ne * 11)) (x3_9 : Int32) (e3_9 : x3_9 = (nI k9)) (x1_9 : Int64) (e1_9 : x1_9 = (d31 (fun k => tlC Le (nI k / 11) (nI k - nI k / 11 * 11)) (d31 (fun k => tmC Lm Le ne (nI k / 6) (nI k - nI k / 6 * 6)) (d31 (fun k => trC Ld Lm nm (nI k / 6) (nI k - nI k / 6 * 6)) (d31 (fun k => tsC Ld Lm Le fogd nm ne (nI k / 5) (nI k - nI k / 5 * 5)) (d31 (fun k => tcC Le hou cro nsd nrd nm ne (nI k)) 547 10) (nsd * 5)) (nrd * 6)) (nm * 6)) k9)) (ls : Array Slot) (hl : lv_has ls 4 [(3, .int x3_9), (1, .long x1_9), (0, .ref om)]), W p l e (headSpec wsX6_digest ({ frames := 4, cells := 0, slots := 0, locals := 89 } : Room)).room s m ([.ref om] : List Value).toArray below meth c s.heap [] 0 0 (MQ below (RP (.long (d31 (fun k => tlC Le (nI k / 11) (nI k - nI k / 11 * 11)) (d31 (fun k => tmC Lm Le ne (nI k / 6) (nI k - nI k / 6 * 6)) (d31 (fun k => trC Ld Lm nm (nI k / 6) (nI k - nI k / 6 * 6)) (d31 (fun k => tsC Ld Lm Le fogd nm ne (nI k / 5) (nI k - nI k / 5 * 5)) (d31 (fun k => tcC Le hou cro nsd nrd nm ne (nI k)) 547 10) (nsd * 5)) (nrd * 6)) (nm * 6)) (ne * 11)))) ([.ref om] : List Value).toArray s 0 0 (fun _ => False)) (F0 m 159 ls []) := by
                            intro j9
                            induction j9 with
                            | zero =>
                              intro k9 hk9 x3_9 e3_9 x1_9 e1_9   ls hl
                              subst e3_9 e1_9
                              have hkN9 : (ne * 11) = k9 := (by omega)
                              subst hkN9
                              refine lv_iload_n hx hb dX6_digest_159 rfl (lv_at hl 0 rfl) ?_
                              refine lv_aload_n hx hb dX6_digest_160 rfl (lv_at hl 2 rfl) ?_
                              refine va_get (D := D.1) (ci := 6) (v := .ref ot) (C := RX6) (T := TX6) (N := 3) hx hb hts hinX6 hown hK (sP (Sb.l Sb.self) hP) 0 rfl rfl 1 (by decide) (hts (.fieldLink RX6 21 "MountainPost" "traffic" "LMountainPost$Traffic;") (List.mem_of_getElem? (i := 4) rfl)) (fun _ h9 => h9) rfl dX6_digest_161 ?_
                              refine va_getN (D := D.1) (ci := 4) (v := .ref (Ae 0)) (C := RX4) (T := TX4) (N := 7) hx hb hts hinX4 hown hK (sP (Sb.r (Sb.l Sb.self)) hP) 0 rfl rfl 3 (by decide) (hN.f 8 rfl) (fun _ h9 => h9) rfl dX6_digest_164 ?_
                              refine va_getN (D := D.1) (ci := 1) (v := .int (nI ne)) (C := RX1) (T := TX1) (N := 12) hx hb hts hinX1 hown hK (sP (Sb.r (Sb.r (Sb.r (Sb.r (Sb.l Sb.self))))) hP) 0 rfl rfl 0 (by decide) (hN.f 9 rfl) (fun _ h9 => h9) rfl dX6_digest_167 ?_
                              refine lv_bipush (v := 11) hx hb dX6_digest_170 (by decide) ?_
                              refine lv_imul hx hb dX6_digest_172 ?_
                              rw [show ((nI ne) * 11) = (nI (ne * 11)) from pk_mul ne 11]
                              refine lv_icmp_ge (tgt := 202) hx hb dX6_digest_173 (by decide) (fun c10 => ?_) (fun c10 => ?_)
                              · refine lv_lload_n hx hb dX6_digest_202 rfl (lv_at hl 1 rfl) ?_
                                exact eL hx hb hr hlocks dX6_digest_203 (by rfl)
                              · exact (up0 rfl c10).elim
                            | succ j9 ih9 =>
                              intro k9 hk9 x3_9 e3_9 x1_9 e1_9   ls hl
                              subst e3_9 e1_9
                              have hlt9 : k9 < (ne * 11) := by omega
                              have hlt : k9 < (ne * 11) := hlt9
                              refine lv_iload_n hx hb dX6_digest_159 rfl (lv_at hl 0 rfl) ?_
                              refine lv_aload_n hx hb dX6_digest_160 rfl (lv_at hl 2 rfl) ?_
                              refine va_get (D := D.1) (ci := 6) (v := .ref ot) (C := RX6) (T := TX6) (N := 3) hx hb hts hinX6 hown hK (sP (Sb.l Sb.self) hP) 0 rfl rfl 1 (by decide) (hts (.fieldLink RX6 21 "MountainPost" "traffic" "LMountainPost$Traffic;") (List.mem_of_getElem? (i := 4) rfl)) (fun _ h9 => h9) rfl dX6_digest_161 ?_
                              refine va_getN (D := D.1) (ci := 4) (v := .ref (Ae 0)) (C := RX4) (T := TX4) (N := 7) hx hb hts hinX4 hown hK (sP (Sb.r (Sb.l Sb.self)) hP) 0 rfl rfl 3 (by decide) (hN.f 8 rfl) (fun _ h9 => h9) rfl dX6_digest_164 ?_
                              refine va_getN (D := D.1) (ci := 1) (v := .int (nI ne)) (C := RX1) (T := TX1) (N := 12) hx hb hts hinX1 hown hK (sP (Sb.r (Sb.r (Sb.r (Sb.r (Sb.l Sb.self))))) hP) 0 rfl rfl 0 (by decide) (hN.f 9 rfl) (fun _ h9 => h9) rfl dX6_digest_167 ?_
                              refine lv_bipush (v := 11) hx hb dX6_digest_170 (by decide) ?_
                              refine lv_imul hx hb dX6_digest_172 ?_
                              rw [show ((nI ne) * 11) = (nI (ne * 11)) from pk_mul ne 11]
                              refine lv_icmp_ge (tgt := 202) hx hb dX6_digest_173 (by decide) (fun c11 => ?_) (fun c11 => ?_)
                              · exact (upS hk9 (by omega) c11).elim
                              · refine lv_lload_n hx hb dX6_digest_176 rfl (lv_at hl 1 rfl) ?_
                                refine lv_ldc2 hx hb hown (hts (.constantLong RX6 240 (31)) (List.mem_of_getElem? (i := 2) rfl)) dX6_digest_177 ?_
                                refine lv_lmul hx hb dX6_digest_180 ?_
                                refine lv_aload_n hx hb dX6_digest_181 rfl (lv_at hl 2 rfl) ?_
                                refine lv_iload_n hx hb dX6_digest_182 rfl (lv_at hl 0 rfl) ?_
                                refine lv_bipush (v := 11) hx hb dX6_digest_183 (by decide) ?_
                                refine lv_idiv hx hb dX6_digest_185 (by decide) ?_
                                refine lv_iload_n hx hb dX6_digest_186 rfl (lv_at hl 0 rfl) ?_
                                refine lv_bipush (v := 11) hx hb dX6_digest_187 (by decide) ?_
                                refine lv_irem hx hb dX6_digest_189 (by decide) ?_
                                refine kVp ⟨hx, hb, hml, hown, hts⟩ (c_X6_tellLetter l D om Ad ot ou Aw Am Ae xt hou cro Lw nm Lm ne Le yt Nt nsd fogd nrd Ld ((nI k9) / 11) ((nI k9) - (nI k9) / 11 * 11)) (cwV 2 hts gX6_digest_X6_tellLetter rfl rfl rfl (by decide +kernel) ⟨Nat.le_of_ble_eq_true rfl, Nat.le_of_ble_eq_true rfl⟩) hK hN hP hD (Sb.app Sb.self (Sb.app Sb.self (Sb.app Sb.self (Sb.app Sb.self (Sb.app Sb.self (Sb.app Sb.self Sb.self)))))) 6 0 rfl rfl rfl hl.1 (Nat.le_of_ble_eq_true rfl) ⟨Nat.zero_le _, Nat.zero_le _⟩ dX6_digest_190 ?_ rfl
                                refine lv_i2l hx hb dX6_digest_193 rfl ?_
                                refine lv_ladd hx hb dX6_digest_194 ?_
                                refine lv_lstore_n (lv' := [(1, .long (((d31 (fun k => tlC Le (nI k / 11) (nI k - nI k / 11 * 11)) (d31 (fun k => tmC Lm Le ne (nI k / 6) (nI k - nI k / 6 * 6)) (d31 (fun k => trC Ld Lm nm (nI k / 6) (nI k - nI k / 6 * 6)) (d31 (fun k => tsC Ld Lm Le fogd nm ne (nI k / 5) (nI k - nI k / 5 * 5)) (d31 (fun k => tcC Le hou cro nsd nrd nm ne (nI k)) 547 10) (nsd * 5)) (nrd * 6)) (nm * 6)) k9) * 31) + ((tlC Le ((nI k9) / 11) ((nI k9) - (nI k9) / 11 * 11)).toInt64))), (3, .int (nI k9)), (0, .ref om)]) hx hb dX6_digest_195 rfl hl (by decide) rfl (fun ls hl => ?_)
                                refine lv_iinc (v := ((nI k9) + 1)) (lv' := [(3, .int ((nI k9) + 1)), (1, .long (((d31 (fun k => tlC Le (nI k / 11) (nI k - nI k / 11 * 11)) (d31 (fun k => tmC Lm Le ne (nI k / 6) (nI k - nI k / 6 * 6)) (d31 (fun k => trC Ld Lm nm (nI k / 6) (nI k - nI k / 6 * 6)) (d31 (fun k => tsC Ld Lm Le fogd nm ne (nI k / 5) (nI k - nI k / 5 * 5)) (d31 (fun k => tcC Le hou cro nsd nrd nm ne (nI k)) 547 10) (nsd * 5)) (nrd * 6)) (nm * 6)) k9) * 31) + ((tlC Le ((nI k9) / 11) ((nI k9) - (nI k9) / 11 * 11)).toInt64))), (0, .ref om)]) hx hb dX6_digest_196 hl (k := 1) rfl rfl (by decide) rfl (fun ls hl => ?_)
                                refine lv_goto (tgt := 159) hx hb dX6_digest_199 (by decide) ?_
                                exact ih9 (k9 + 1) (by omega) _ (nI_1 k9) _ rfl ls (lv_sub hl [0, 1, 2] rfl)
                          exact lp9 (ne * 11) 0 (by omega) _ nI_0.symm _ rfl ls (lv_sub hl [0, 1, 2] rfl)
                        · exact (up0 rfl c8).elim
                      | succ j7 ih7 =>
                        intro k7 hk7 x3_7 e3_7 x1_7 e1_7   ls hl
                        subst e3_7 e1_7
                        have hlt7 : k7 < (nm * 6) := by omega
                        have hlt : k7 < (nm * 6) := hlt7
                        refine lv_iload_n hx hb dX6_digest_114 rfl (lv_at hl 0 rfl) ?_
                        refine lv_aload_n hx hb dX6_digest_115 rfl (lv_at hl 2 rfl) ?_
                        refine va_get (D := D.1) (ci := 6) (v := .ref ot) (C := RX6) (T := TX6) (N := 3) hx hb hts hinX6 hown hK (sP (Sb.l Sb.self) hP) 0 rfl rfl 1 (by decide) (hts (.fieldLink RX6 21 "MountainPost" "traffic" "LMountainPost$Traffic;") (List.mem_of_getElem? (i := 4) rfl)) (fun _ h9 => h9) rfl dX6_digest_116 ?_
                        refine va_getN (D := D.1) (ci := 4) (v := .ref (Am 0)) (C := RX4) (T := TX4) (N := 7) hx hb hts hinX4 hown hK (sP (Sb.r (Sb.l Sb.self)) hP) 0 rfl rfl 2 (by decide) (hN.f 4 rfl) (fun _ h9 => h9) rfl dX6_digest_119 ?_
                        refine va_getN (D := D.1) (ci := 2) (v := .int (nI nm)) (C := RX2) (T := TX2) (N := 6) hx hb hts hinX2 hown hK (sP (Sb.r (Sb.r (Sb.r (Sb.l Sb.self)))) hP) 0 rfl rfl 0 (by decide) (hN.f 5 rfl) (fun _ h9 => h9) rfl dX6_digest_122 ?_
                        refine lv_bipush (v := 6) hx hb dX6_digest_125 (by decide) ?_
                        refine lv_imul hx hb dX6_digest_127 ?_
                        rw [show ((nI nm) * 6) = (nI (nm * 6)) from pk_mul nm 6]
                        refine lv_icmp_ge (tgt := 157) hx hb dX6_digest_128 (by decide) (fun c12 => ?_) (fun c12 => ?_)
                        · exact (upS hk7 (by omega) c12).elim
                        · refine lv_lload_n hx hb dX6_digest_131 rfl (lv_at hl 1 rfl) ?_
                          refine lv_ldc2 hx hb hown (hts (.constantLong RX6 240 (31)) (List.mem_of_getElem? (i := 2) rfl)) dX6_digest_132 ?_
                          refine lv_lmul hx hb dX6_digest_135 ?_
                          refine lv_aload_n hx hb dX6_digest_136 rfl (lv_at hl 2 rfl) ?_
                          refine lv_iload_n hx hb dX6_digest_137 rfl (lv_at hl 0 rfl) ?_
                          refine lv_bipush (v := 6) hx hb dX6_digest_138 (by decide) ?_
                          refine lv_idiv hx hb dX6_digest_140 (by decide) ?_
                          refine lv_iload_n hx hb dX6_digest_141 rfl (lv_at hl 0 rfl) ?_
                          refine lv_bipush (v := 6) hx hb dX6_digest_142 (by decide) ?_
                          refine lv_irem hx hb dX6_digest_144 (by decide) ?_
                          refine kVp ⟨hx, hb, hml, hown, hts⟩ (c_X6_tellMule l D om Ad ot ou Aw Am Ae xt hou cro Lw nm Lm ne Le yt Nt nsd fogd nrd Ld ((nI k7) / 6) ((nI k7) - (nI k7) / 6 * 6) (by omega)) (cwV 2 hts gX6_digest_X6_tellMule rfl rfl rfl (by decide +kernel) ⟨Nat.le_of_ble_eq_true rfl, Nat.le_of_ble_eq_true rfl⟩) hK hN hP hD (Sb.app Sb.self (Sb.app Sb.self (Sb.app Sb.self (Sb.app Sb.self (Sb.app Sb.self (Sb.app Sb.self Sb.self)))))) 6 0 rfl rfl rfl hl.1 (Nat.le_of_ble_eq_true rfl) ⟨Nat.zero_le _, Nat.zero_le _⟩ dX6_digest_145 ?_ rfl
                          refine lv_i2l hx hb dX6_digest_148 rfl ?_
                          refine lv_ladd hx hb dX6_digest_149 ?_
                          refine lv_lstore_n (lv' := [(1, .long (((d31 (fun k => tmC Lm Le ne (nI k / 6) (nI k - nI k / 6 * 6)) (d31 (fun k => trC Ld Lm nm (nI k / 6) (nI k - nI k / 6 * 6)) (d31 (fun k => tsC Ld Lm Le fogd nm ne (nI k / 5) (nI k - nI k / 5 * 5)) (d31 (fun k => tcC Le hou cro nsd nrd nm ne (nI k)) 547 10) (nsd * 5)) (nrd * 6)) k7) * 31) + ((tmC Lm Le ne ((nI k7) / 6) ((nI k7) - (nI k7) / 6 * 6)).toInt64))), (3, .int (nI k7)), (0, .ref om)]) hx hb dX6_digest_150 rfl hl (by decide) rfl (fun ls hl => ?_)
                          refine lv_iinc (v := ((nI k7) + 1)) (lv' := [(3, .int ((nI k7) + 1)), (1, .long (((d31 (fun k => tmC Lm Le ne (nI k / 6) (nI k - nI k / 6 * 6)) (d31 (fun k => trC Ld Lm nm (nI k / 6) (nI k - nI k / 6 * 6)) (d31 (fun k => tsC Ld Lm Le fogd nm ne (nI k / 5) (nI k - nI k / 5 * 5)) (d31 (fun k => tcC Le hou cro nsd nrd nm ne (nI k)) 547 10) (nsd * 5)) (nrd * 6)) k7) * 31) + ((tmC Lm Le ne ((nI k7) / 6) ((nI k7) - (nI k7) / 6 * 6)).toInt64))), (0, .ref om)]) hx hb dX6_digest_151 hl (k := 1) rfl rfl (by decide) rfl (fun ls hl => ?_)
                          refine lv_goto (tgt := 114) hx hb dX6_digest_154 (by decide) ?_
                          exact ih7 (k7 + 1) (by omega) _ (nI_1 k7) _ rfl ls (lv_sub hl [0, 1, 2] rfl)
                    exact lp7 (nm * 6) 0 (by omega) _ nI_0.symm _ rfl ls (lv_sub hl [0, 1, 2] rfl)
                  · exact (up0 rfl c6).elim
                | succ j5 ih5 =>
                  intro k5 hk5 x3_5 e3_5 x1_5 e1_5   ls hl
                  subst e3_5 e1_5
                  have hlt5 : k5 < (nrd * 6) := by omega
                  have hlt : k5 < (nrd * 6) := hlt5
                  refine lv_iload_n hx hb dX6_digest_72 rfl (lv_at hl 0 rfl) ?_
                  refine lv_aload_n hx hb dX6_digest_73 rfl (lv_at hl 2 rfl) ?_
                  refine va_get (D := D.1) (ci := 6) (v := .ref (Ad 0)) (C := RX6) (T := TX6) (N := 3) hx hb hts hinX6 hown hK (sP (Sb.l Sb.self) hP) 0 rfl rfl 0 (by decide) (hts (.fieldLink RX6 10 "MountainPost" "land" "LMountainPost$Land;") (List.mem_of_getElem? (i := 3) rfl)) (fun _ h9 => h9) rfl dX6_digest_74 ?_
                  refine va_getN (D := D.1) (ci := 0) (v := .int (nI nrd)) (C := RX0) (T := TX0) (N := 8) hx hb hts hinX0 hown hK (sP (Sb.r (Sb.r (Sb.r (Sb.r (Sb.r (Sb.r Sb.self)))))) hP) 0 rfl rfl 4 (by decide) (hN.f 3 rfl) (fun _ h9 => h9) rfl dX6_digest_77 ?_
                  refine lv_bipush (v := 6) hx hb dX6_digest_80 (by decide) ?_
                  refine lv_imul hx hb dX6_digest_82 ?_
                  rw [show ((nI nrd) * 6) = (nI (nrd * 6)) from pk_mul nrd 6]
                  refine lv_icmp_ge (tgt := 112) hx hb dX6_digest_83 (by decide) (fun c13 => ?_) (fun c13 => ?_)
                  · exact (upS hk5 (by omega) c13).elim
                  · refine lv_lload_n hx hb dX6_digest_86 rfl (lv_at hl 1 rfl) ?_
                    refine lv_ldc2 hx hb hown (hts (.constantLong RX6 240 (31)) (List.mem_of_getElem? (i := 2) rfl)) dX6_digest_87 ?_
                    refine lv_lmul hx hb dX6_digest_90 ?_
                    refine lv_aload_n hx hb dX6_digest_91 rfl (lv_at hl 2 rfl) ?_
                    refine lv_iload_n hx hb dX6_digest_92 rfl (lv_at hl 0 rfl) ?_
                    refine lv_bipush (v := 6) hx hb dX6_digest_93 (by decide) ?_
                    refine lv_idiv hx hb dX6_digest_95 (by decide) ?_
                    refine lv_iload_n hx hb dX6_digest_96 rfl (lv_at hl 0 rfl) ?_
                    refine lv_bipush (v := 6) hx hb dX6_digest_97 (by decide) ?_
                    refine lv_irem hx hb dX6_digest_99 (by decide) ?_
                    refine kVp ⟨hx, hb, hml, hown, hts⟩ (c_X6_tellRoad l D om Ad ot ou Aw Am Ae xt hou cro Lw nm Lm ne Le yt Nt nsd fogd nrd Ld ((nI k5) / 6) ((nI k5) - (nI k5) / 6 * 6) (by omega)) (cwV 2 hts gX6_digest_X6_tellRoad rfl rfl rfl (by decide +kernel) ⟨Nat.le_of_ble_eq_true rfl, Nat.le_of_ble_eq_true rfl⟩) hK hN hP hD (Sb.app Sb.self (Sb.app Sb.self (Sb.app Sb.self (Sb.app Sb.self (Sb.app Sb.self (Sb.app Sb.self Sb.self)))))) 6 0 rfl rfl rfl hl.1 (Nat.le_of_ble_eq_true rfl) ⟨Nat.zero_le _, Nat.zero_le _⟩ dX6_digest_100 ?_ rfl
                    refine lv_i2l hx hb dX6_digest_103 rfl ?_
                    refine lv_ladd hx hb dX6_digest_104 ?_
                    refine lv_lstore_n (lv' := [(1, .long (((d31 (fun k => trC Ld Lm nm (nI k / 6) (nI k - nI k / 6 * 6)) (d31 (fun k => tsC Ld Lm Le fogd nm ne (nI k / 5) (nI k - nI k / 5 * 5)) (d31 (fun k => tcC Le hou cro nsd nrd nm ne (nI k)) 547 10) (nsd * 5)) k5) * 31) + ((trC Ld Lm nm ((nI k5) / 6) ((nI k5) - (nI k5) / 6 * 6)).toInt64))), (3, .int (nI k5)), (0, .ref om)]) hx hb dX6_digest_105 rfl hl (by decide) rfl (fun ls hl => ?_)
                    refine lv_iinc (v := ((nI k5) + 1)) (lv' := [(3, .int ((nI k5) + 1)), (1, .long (((d31 (fun k => trC Ld Lm nm (nI k / 6) (nI k - nI k / 6 * 6)) (d31 (fun k => tsC Ld Lm Le fogd nm ne (nI k / 5) (nI k - nI k / 5 * 5)) (d31 (fun k => tcC Le hou cro nsd nrd nm ne (nI k)) 547 10) (nsd * 5)) k5) * 31) + ((trC Ld Lm nm ((nI k5) / 6) ((nI k5) - (nI k5) / 6 * 6)).toInt64))), (0, .ref om)]) hx hb dX6_digest_106 hl (k := 1) rfl rfl (by decide) rfl (fun ls hl => ?_)
                    refine lv_goto (tgt := 72) hx hb dX6_digest_109 (by decide) ?_
                    exact ih5 (k5 + 1) (by omega) _ (nI_1 k5) _ rfl ls (lv_sub hl [0, 1, 2] rfl)
              exact lp5 (nrd * 6) 0 (by omega) _ nI_0.symm _ rfl ls (lv_sub hl [0, 1, 2] rfl)
            · exact (up0 rfl c4).elim
          | succ j3 ih3 =>
            intro k3 hk3 x3_3 e3_3 x1_3 e1_3   ls hl
            subst e3_3 e1_3
            have hlt3 : k3 < (nsd * 5) := by omega
            have hlt : k3 < (nsd * 5) := hlt3
            refine lv_iload_n hx hb dX6_digest_33 rfl (lv_at hl 0 rfl) ?_
            refine lv_aload_n hx hb dX6_digest_34 rfl (lv_at hl 2 rfl) ?_
            refine va_get (D := D.1) (ci := 6) (v := .ref (Ad 0)) (C := RX6) (T := TX6) (N := 3) hx hb hts hinX6 hown hK (sP (Sb.l Sb.self) hP) 0 rfl rfl 0 (by decide) (hts (.fieldLink RX6 10 "MountainPost" "land" "LMountainPost$Land;") (List.mem_of_getElem? (i := 3) rfl)) (fun _ h9 => h9) rfl dX6_digest_35 ?_
            refine va_getN (D := D.1) (ci := 0) (v := .int (nI nsd)) (C := RX0) (T := TX0) (N := 8) hx hb hts hinX0 hown hK (sP (Sb.r (Sb.r (Sb.r (Sb.r (Sb.r (Sb.r Sb.self)))))) hP) 0 rfl rfl 0 (by decide) (hN.f 0 rfl) (fun _ h9 => h9) rfl dX6_digest_38 ?_
            refine lv_iconst (v := 5) hx hb dX6_digest_41 (by decide) ?_
            refine lv_imul hx hb dX6_digest_42 ?_
            rw [show ((nI nsd) * 5) = (nI (nsd * 5)) from pk_mul nsd 5]
            refine lv_icmp_ge (tgt := 70) hx hb dX6_digest_43 (by decide) (fun c14 => ?_) (fun c14 => ?_)
            · exact (upS hk3 (by omega) c14).elim
            · refine lv_lload_n hx hb dX6_digest_46 rfl (lv_at hl 1 rfl) ?_
              refine lv_ldc2 hx hb hown (hts (.constantLong RX6 240 (31)) (List.mem_of_getElem? (i := 2) rfl)) dX6_digest_47 ?_
              refine lv_lmul hx hb dX6_digest_50 ?_
              refine lv_aload_n hx hb dX6_digest_51 rfl (lv_at hl 2 rfl) ?_
              refine lv_iload_n hx hb dX6_digest_52 rfl (lv_at hl 0 rfl) ?_
              refine lv_iconst (v := 5) hx hb dX6_digest_53 (by decide) ?_
              refine lv_idiv hx hb dX6_digest_54 (by decide) ?_
              refine lv_iload_n hx hb dX6_digest_55 rfl (lv_at hl 0 rfl) ?_
              refine lv_iconst (v := 5) hx hb dX6_digest_56 (by decide) ?_
              refine lv_irem hx hb dX6_digest_57 (by decide) ?_
              refine kVp ⟨hx, hb, hml, hown, hts⟩ (c_X6_tellStation l D om Ad ot ou Aw Am Ae xt hou cro Lw nm Lm ne Le yt Nt nsd fogd nrd Ld ((nI k3) / 5) ((nI k3) - (nI k3) / 5 * 5) (by omega) (by omega)) (cwV 2 hts gX6_digest_X6_tellStation rfl rfl rfl (by decide +kernel) ⟨Nat.le_of_ble_eq_true rfl, Nat.le_of_ble_eq_true rfl⟩) hK hN hP hD (Sb.app Sb.self (Sb.app Sb.self (Sb.app Sb.self (Sb.app Sb.self (Sb.app Sb.self (Sb.app Sb.self Sb.self)))))) 6 0 rfl rfl rfl hl.1 (Nat.le_of_ble_eq_true rfl) ⟨Nat.zero_le _, Nat.zero_le _⟩ dX6_digest_58 ?_ rfl
              refine lv_i2l hx hb dX6_digest_61 rfl ?_
              refine lv_ladd hx hb dX6_digest_62 ?_
              refine lv_lstore_n (lv' := [(1, .long (((d31 (fun k => tsC Ld Lm Le fogd nm ne (nI k / 5) (nI k - nI k / 5 * 5)) (d31 (fun k => tcC Le hou cro nsd nrd nm ne (nI k)) 547 10) k3) * 31) + ((tsC Ld Lm Le fogd nm ne ((nI k3) / 5) ((nI k3) - (nI k3) / 5 * 5)).toInt64))), (3, .int (nI k3)), (0, .ref om)]) hx hb dX6_digest_63 rfl hl (by decide) rfl (fun ls hl => ?_)
              refine lv_iinc (v := ((nI k3) + 1)) (lv' := [(3, .int ((nI k3) + 1)), (1, .long (((d31 (fun k => tsC Ld Lm Le fogd nm ne (nI k / 5) (nI k - nI k / 5 * 5)) (d31 (fun k => tcC Le hou cro nsd nrd nm ne (nI k)) 547 10) k3) * 31) + ((tsC Ld Lm Le fogd nm ne ((nI k3) / 5) ((nI k3) - (nI k3) / 5 * 5)).toInt64))), (0, .ref om)]) hx hb dX6_digest_64 hl (k := 1) rfl rfl (by decide) rfl (fun ls hl => ?_)
              refine lv_goto (tgt := 33) hx hb dX6_digest_67 (by decide) ?_
              exact ih3 (k3 + 1) (by omega) _ (nI_1 k3) _ rfl ls (lv_sub hl [0, 1, 2] rfl)
        exact lp3 (nsd * 5) 0 (by omega) _ nI_0.symm _ rfl ls (lv_sub hl [0, 1, 2] rfl)
      · exact (up0 rfl c2).elim
    | succ j1 ih1 =>
      intro k1 hk1 x3_1 e3_1 x1_1 e1_1   ls hl
      subst e3_1 e1_1
      have hlt1 : k1 < 10 := by omega
      have hlt : k1 < 10 := hlt1
      refine lv_iload_n hx hb dX6_digest_6 rfl (lv_at hl 0 rfl) ?_
      refine lv_bipush (v := 10) hx hb dX6_digest_7 (by decide) ?_
      refine lv_icmp_ge (tgt := 31) hx hb dX6_digest_9 (by decide) (fun c15 => ?_) (fun c15 => ?_)
      · exact (upS hk1 (by omega) c15).elim
      · refine lv_lload_n hx hb dX6_digest_12 rfl (lv_at hl 1 rfl) ?_
        refine lv_ldc2 hx hb hown (hts (.constantLong RX6 240 (31)) (List.mem_of_getElem? (i := 2) rfl)) dX6_digest_13 ?_
        refine lv_lmul hx hb dX6_digest_16 ?_
        refine lv_aload_n hx hb dX6_digest_17 rfl (lv_at hl 2 rfl) ?_
        refine lv_iload_n hx hb dX6_digest_18 rfl (lv_at hl 0 rfl) ?_
        refine kVp ⟨hx, hb, hml, hown, hts⟩ (c_X6_tellCount l D om Ad ot ou Aw Am Ae xt hou cro Lw nm Lm ne Le yt Nt nsd fogd nrd Ld (nI k1) (by omega)) (cwV 1 hts gX6_digest_X6_tellCount rfl rfl rfl (by decide +kernel) ⟨Nat.le_of_ble_eq_true rfl, Nat.le_of_ble_eq_true rfl⟩) hK hN hP hD (Sb.app Sb.self (Sb.app Sb.self (Sb.app Sb.self (Sb.app Sb.self (Sb.app Sb.self (Sb.app Sb.self Sb.self)))))) 6 0 rfl rfl rfl hl.1 (Nat.le_of_ble_eq_true rfl) ⟨Nat.zero_le _, Nat.zero_le _⟩ dX6_digest_19 ?_ rfl
        refine lv_i2l hx hb dX6_digest_22 rfl ?_
        refine lv_ladd hx hb dX6_digest_23 ?_
        refine lv_lstore_n (lv' := [(1, .long (((d31 (fun k => tcC Le hou cro nsd nrd nm ne (nI k)) 547 k1) * 31) + ((tcC Le hou cro nsd nrd nm ne (nI k1)).toInt64))), (3, .int (nI k1)), (0, .ref om)]) hx hb dX6_digest_24 rfl hl (by decide) rfl (fun ls hl => ?_)
        refine lv_iinc (v := ((nI k1) + 1)) (lv' := [(3, .int ((nI k1) + 1)), (1, .long (((d31 (fun k => tcC Le hou cro nsd nrd nm ne (nI k)) 547 k1) * 31) + ((tcC Le hou cro nsd nrd nm ne (nI k1)).toInt64))), (0, .ref om)]) hx hb dX6_digest_25 hl (k := 1) rfl rfl (by decide) rfl (fun ls hl => ?_)
        refine lv_goto (tgt := 6) hx hb dX6_digest_28 (by decide) ?_
        exact ih1 (k1 + 1) (by omega) _ (nI_1 k1) _ rfl ls (lv_sub hl [0, 1, 2] rfl)
  exact lp1 10 0 (by omega) _ nI_0.symm _ rfl ls (lv_sub hl [0, 1, 2] rfl)
