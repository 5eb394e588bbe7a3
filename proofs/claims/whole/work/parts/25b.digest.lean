set_option maxHeartbeats 4000000 in
set_option maxRecDepth 100000 in
theorem c_X7_digest (l : Launch) (D : GG) (Ax : Nat → Nat) (th : Int32) (ns : Nat) (fog : Int32) (nr : Nat) (nm : Nat) (nl : Nat) (Lx : Nat → Nat → Int32) (b10 : ns ≤ 10) (b15 : nr ≤ 15) (b12 : nm ≤ 12) (b60 : nl ≤ 60) (hk : okR Lx nr ns) : Met l yX7_digest wsX7_digest ({ frames := 4, cells := 0, slots := 0, locals := 88 } : Room) (va_Pc [.ref (Ax 0)] (wd D (wMod D Ax th ns fog nr nm nl Lx))) (QW D (some (.long (d62 (fun i k => tlM Lx (nI i) (nI k)) 11 (d62 (fun i k => tmM Lx nl (nI i) (nI k)) 6 (d62 (fun i k => trM Lx nm (nI i) (nI k)) 6 (d62 (fun i k => stM Lx fog nm nl (nI i) (nI k)) 5 (d31 (fun k => cnM Lx ns nr nm nl (nI k)) 547 10) ns) nr) nm) nl))) (wMod D Ax 0 ns fog nr nm nl Lx) (own (wMod D Ax th ns fog nr nm nl Lx))) 0 0 (own (wMod D Ax th ns fog nr nm nl Lx)) := by
  refine Met.ofW (cc := cX7_digest) (maxL := 5) (ret := (some .long)) (by decide) rfl ?_
  intro p e s m args below meth c s₁ B hml hv
  obtain ⟨rfl, hP, hK, hD, hN⟩ := hv
  have hx := B.exec
  have hb := B.bytes
  have hr := B.returns
  have hts := atoms_spec (ws := wsX7_digest) B.pre
  have hown : s.vm.findClass RX7 = some m.cls := findClass_of_methodNamed B.named
  have hlocks := B.notSynchronized
  have hinX7 : ∀ w ∈ u_ws RX7 TX7 14, w ∈ wsX7_digest := by decide +kernel
  have hS : va_S (own (wMod D Ax th ns fog nr nm nl Lx)) s.heap s.heap [] := va_S.rf
  have hD : va_D (own (wMod D Ax th ns fog nr nm nl Lx)) (wMod D Ax th ns fog nr nm nl Lx) := toOwn hD
  generalize hAe : own (wMod D Ax th ns fog nr nm nl Lx) = A0 at hD hS ⊢
  have hl := lv_entry ([.ref (Ax 0)]) (n := 5) (Nat.le_of_ble_eq_true rfl)
  rw [lg_entry_eq]
  generalize (lg_sl ([.ref (Ax 0)]) ++ List.replicate (5 - (lg_sl ([.ref (Ax 0)])).length) Slot.unset).toArray = ls at hl ⊢
  have hl : lv_has ls 5 [(0, .ref (Ax 0))] := hl
  refine lv_aload_n hx hb dX7_digest_0 rfl (lv_at hl 0 rfl) ?_
  refine lv_iconst (v := 0) hx hb dX7_digest_1 (by decide) ?_
  refine va_put (D := D.1) (ci := 7) (v := .int 0) (ty := .int) (C := RX7) (T := TX7) (N := 14) hx hb hts hinX7 tyX7 tyX7_ok nmX7 hown hK hP hD hS 0 rfl rfl 0 (by decide) (hts (.fieldLink RX7 34 "MountainPostModel" "thrown" "I") (List.mem_of_getElem? (i := 1) rfl)) (fun _ h9 => h9) rfl (by decide +kernel) rfl rfl (Nat.le_of_ble_eq_true rfl) dX7_digest_2 (fun H locs hP hD hS => ?_)
  have hP : va_P D.1 vwCl (wMod D Ax 0 ns fog nr nm nl Lx) H := hP
  have hD : va_D A0 (wMod D Ax 0 ns fog nr nm nl Lx) := hD
  refine lv_ldc2 hx hb hown (hts (.constantLong RX7 193 (547)) (List.mem_of_getElem? (i := 2) rfl)) dX7_digest_5 ?_
  refine lv_lstore_n (lv' := [(1, .long 547), (0, .ref (Ax 0))]) hx hb dX7_digest_8 rfl hl (by decide) rfl (fun ls hl => ?_)
  refine lv_iconst (v := 0) hx hb dX7_digest_9 (by decide) ?_
  refine lv_istore_n (lv' := [(3, .int 0), (1, .long 547), (0, .ref (Ax 0))]) hx hb dX7_digest_10 rfl hl (by decide) rfl (fun ls hl => ?_)
  have lp1 : ∀ (j1 : Nat) (k1 : Nat) (hk1 : k1 + j1 = 10) (x3_1 : Int32) (e3_1 : x3_1 = (nI k1)) (x1_1 : Int64) (e1_1 : x1_1 = (d31 (fun k => cnM Lx ns nr nm nl (nI k)) 547 k1)) (yxth_1 : Int32) (eyxth_1 : yxth_1 = 0) (H : Heap) (locs : List Loc) (hP : va_P D.1 vwCl (wMod D Ax yxth_1 ns fog nr nm nl Lx) H) (hD : va_D A0 (wMod D Ax yxth_1 ns fog nr nm nl Lx)) (hS : va_S A0 s.heap H locs) (ls : Array Slot) (hl : lv_has ls 5 [(3, .int x3_1), (1, .long x1_1), (0, .ref (Ax 0))]), W p l e (headSpec wsX7_digest ({ frames := 4, cells := 0, slots := 0, locals := 88 } : Room)).room s m ([.ref (Ax 0)] : List Value).toArray below meth c H locs 0 0 (MQ below (QW D (some (.long (d62 (fun i k => tlM Lx (nI i) (nI k)) 11 (d62 (fun i k => tmM Lx nl (nI i) (nI k)) 6 (d62 (fun i k => trM Lx nm (nI i) (nI k)) 6 (d62 (fun i k => stM Lx fog nm nl (nI i) (nI k)) 5 (d31 (fun k => cnM Lx ns nr nm nl (nI k)) 547 10) ns) nr) nm) nl))) (wMod D Ax 0 ns fog nr nm nl Lx) A0) ([.ref (Ax 0)] : List Value).toArray s 0 0 A0) (F0 m 11 ls []) := by
    intro j1
    induction j1 with
    | zero =>
      intro k1 hk1 x3_1 e3_1 x1_1 e1_1 yxth_1 eyxth_1  H locs hP hD hS ls hl
      subst e3_1 e1_1 eyxth_1
      have hkN1 : 10 = k1 := (by omega)
      subst hkN1
      refine lv_iload_n hx hb dX7_digest_11 rfl (lv_at hl 0 rfl) ?_
      refine lv_bipush (v := 10) hx hb dX7_digest_12 (by decide) ?_
      refine lv_icmp_ge (tgt := 36) hx hb dX7_digest_14 (by decide) (fun c2 => ?_) (fun c2 => ?_)
      · refine lv_iconst (v := 0) hx hb dX7_digest_36 (by decide) ?_
        refine lv_istore_n (lv' := [(3, .int 0), (1, .long (d31 (fun k => cnM Lx ns nr nm nl (nI k)) 547 10)), (0, .ref (Ax 0))]) hx hb dX7_digest_37 rfl hl (by decide) rfl (fun ls hl => ?_)
        have lp3 : ∀ (j3 : Nat) (k3 : Nat) (hk3 : k3 + j3 = ns) (x3_3 : Int32) (e3_3 : x3_3 = (nI k3)) (x1_3 : Int64) (e1_3 : x1_3 = (d62 (fun i k => stM Lx fog nm nl (nI i) (nI k)) 5 (d31 (fun k => cnM Lx ns nr nm nl (nI k)) 547 10) k3)) (yxth_3 : Int32) (eyxth_3 : yxth_3 = 0) (H : Heap) (locs : List Loc) (hP : va_P D.1 vwCl (wMod D Ax yxth_3 ns fog nr nm nl Lx) H) (hD : va_D A0 (wMod D Ax yxth_3 ns fog nr nm nl Lx)) (hS : va_S A0 s.heap H locs) (ls : Array Slot) (hl : lv_has ls 5 [(3, .int x3_3), (1, .long x1_3), (0, .ref (Ax 0))]), W p l e (headSpec wsX7_digest ({ frames := 4, cells := 0, slots := 0, locals := 88 } : Room)).room s m ([.ref (Ax 0)] : List Value).toArray below meth c H locs 0 0 (MQ below (QW D (some (.long (d62 (fun i k => tlM Lx (nI i) (nI k)) 11 (d62 (fun i k => tmM Lx nl (nI i) (nI k)) 6 (d62 (fun i k => trM Lx nm (nI i) (nI k)) 6 (d62 (fun i k => stM Lx fog nm nl (nI i) (nI k)) 5 (d31 (fun k => cnM Lx ns nr nm nl (nI k)) 547 10) ns) nr) nm) nl))) (wMod D Ax 0 ns fog nr nm nl Lx) A0) ([.ref (Ax 0)] : List Value).toArray s 0 0 A0) (F0 m 38 ls []) := by
          intro j3
          induction j3 with
          | zero =>
            intro k3 hk3 x3_3 e3_3 x1_3 e1_3 yxth_3 eyxth_3  H locs hP hD hS ls hl
            subst e3_3 e1_3 eyxth_3
            have hkN3 : ns = k3 := (by omega)
            subst hkN3
            refine lv_iload_n hx hb dX7_digest_38 rfl (lv_at hl 0 rfl) ?_
            refine lv_aload_n hx hb dX7_digest_39 rfl (lv_at hl 2 rfl) ?_
            refine va_get (D := D.1) (ci := 7) (v := .int (nI ns)) (C := RX7) (T := TX7) (N := 14) hx hb hts hinX7 hown hK hP 0 rfl rfl 1 (by decide) (hts (.fieldLink RX7 38 "MountainPostModel" "stations" "I") (List.mem_of_getElem? (i := 4) rfl)) (fun _ h9 => h9) rfl dX7_digest_40 ?_
            refine lv_icmp_ge (tgt := 82) hx hb dX7_digest_43 (by decide) (fun c4 => ?_) (fun c4 => ?_)
            · refine lv_iconst (v := 0) hx hb dX7_digest_82 (by decide) ?_
              refine lv_istore_n (lv' := [(3, .int 0), (1, .long (d62 (fun i k => stM Lx fog nm nl (nI i) (nI k)) 5 (d31 (fun k => cnM Lx ns nr nm nl (nI k)) 547 10) ns)), (0, .ref (Ax 0))]) hx hb dX7_digest_83 rfl hl (by decide) rfl (fun ls hl => ?_)
              have lp5 : ∀ (j5 : Nat) (k5 : Nat) (hk5 : k5 + j5 = nr) (x3_5 : Int32) (e3_5 : x3_5 = (nI k5)) (x1_5 : Int64) (e1_5 : x1_5 = (d62 (fun i k => trM Lx nm (nI i) (nI k)) 6 (d62 (fun i k => stM Lx fog nm nl (nI i) (nI k)) 5 (d31 (fun k => cnM Lx ns nr nm nl (nI k)) 547 10) ns) k5)) (yxth_5 : Int32) (eyxth_5 : yxth_5 = 0) (H : Heap) (locs : List Loc) (hP : va_P D.1 vwCl (wMod D Ax yxth_5 ns fog nr nm nl Lx) H) (hD : va_D A0 (wMod D Ax yxth_5 ns fog nr nm nl Lx)) (hS : va_S A0 s.heap H locs) (ls : Array Slot) (hl : lv_has ls 5 [(3, .int x3_5), (1, .long x1_5), (0, .ref (Ax 0))]), W p l e (headSpec wsX7_digest ({ frames := 4, cells := 0, slots := 0, locals := 88 } : Room)).room s m ([.ref (Ax 0)] : List Value).toArray below meth c H locs 0 0 (MQ below (QW D (some (.long (d62 (fun i k => tlM Lx (nI i) (nI k)) 11 (d62 (fun i k => tmM Lx nl (nI i) (nI k)) 6 (d62 (fun i k => trM Lx nm (nI i) (nI k)) 6 (d62 (fun i k => stM Lx fog nm nl (nI i) (nI k)) 5 (d31 (fun k => cnM Lx ns nr nm nl (nI k)) 547 10) ns) nr) nm) nl))) (wMod D Ax 0 ns fog nr nm nl Lx) A0) ([.ref (Ax 0)] : List Value).toArray s 0 0 A0) (F0 m 84 ls []) := by
                intro j5
                induction j5 with
                | zero =>
                  intro k5 hk5 x3_5 e3_5 x1_5 e1_5 yxth_5 eyxth_5  H locs hP hD hS ls hl
                  subst e3_5 e1_5 eyxth_5
                  have hkN5 : nr = k5 := (by omega)
                  subst hkN5
                  refine lv_iload_n hx hb dX7_digest_84 rfl (lv_at hl 0 rfl) ?_
                  refine lv_aload_n hx hb dX7_digest_85 rfl (lv_at hl 2 rfl) ?_
                  refine va_get (D := D.1) (ci := 7) (v := .int (nI nr)) (C := RX7) (T := TX7) (N := 14) hx hb hts hinX7 hown hK hP 0 rfl rfl 5 (by decide) (hts (.fieldLink RX7 45 "MountainPostModel" "roads" "I") (List.mem_of_getElem? (i := 5) rfl)) (fun _ h9 => h9) rfl dX7_digest_86 ?_
                  refine lv_icmp_ge (tgt := 129) hx hb dX7_digest_89 (by decide) (fun c6 => ?_) (fun c6 => ?_)
                  · refine lv_iconst (v := 0) hx hb dX7_digest_129 (by decide) ?_
                    refine lv_istore_n (lv' := [(3, .int 0), (1, .long (d62 (fun i k => trM Lx nm (nI i) (nI k)) 6 (d62 (fun i k => stM Lx fog nm nl (nI i) (nI k)) 5 (d31 (fun k => cnM Lx ns nr nm nl (nI k)) 547 10) ns) nr)), (0, .ref (Ax 0))]) hx hb dX7_digest_130 rfl hl (by decide) rfl (fun ls hl => ?_)
                    have lp7 : ∀ (j7 : Nat) (k7 : Nat) (hk7 : k7 + j7 = nm) (x3_7 : Int32) (e3_7 : x3_7 = (nI k7)) (x1_7 : Int64) (e1_7 : x1_7 = (d62 (fun i k => tmM Lx nl (nI i) (nI k)) 6 (d62 (fun i k => trM Lx nm (nI i) (nI k)) 6 (d62 (fun i k => stM Lx fog nm nl (nI i) (nI k)) 5 (d31 (fun k => cnM Lx ns nr nm nl (nI k)) 547 10) ns) nr) k7)) (yxth_7 : Int32) (eyxth_7 : yxth_7 = 0) (H : Heap) (locs : List Loc) (hP : va_P D.1 vwCl (wMod D Ax yxth_7 ns fog nr nm nl Lx) H) (hD : va_D A0 (wMod D Ax yxth_7 ns fog nr nm nl Lx)) (hS : va_S A0 s.heap H locs) (ls : Array Slot) (hl : lv_has ls 5 [(3, .int x3_7), (1, .long x1_7), (0, .ref (Ax 0))]), W p l e (headSpec wsX7_digest ({ frames := 4, cells := 0, slots := 0, locals := 88 } : Room)).room s m ([.ref (Ax 0)] : List Value).toArray below meth c H locs 0 0 (MQ below (QW D (some (.long (d62 (fun i k => tlM Lx (nI i) (nI k)) 11 (d62 (fun i k => tmM Lx nl (nI i) (nI k)) 6 (d62 (fun i k => trM Lx nm (nI i) (nI k)) 6 (d62 (fun i k => stM Lx fog nm nl (nI i) (nI k)) 5 (d31 (fun k => cnM Lx ns nr nm nl (nI k)) 547 10) ns) nr) nm) nl))) (wMod D Ax 0 ns fog nr nm nl Lx) A0) ([.ref (Ax 0)] : List Value).toArray s 0 0 A0) (F0 m 131 ls []) := by
                      intro j7
                      induction j7 with
                      | zero =>
                        intro k7 hk7 x3_7 e3_7 x1_7 e1_7 yxth_7 eyxth_7  H locs hP hD hS ls hl
                        subst e3_7 e1_7 eyxth_7
                        have hkN7 : nm = k7 := (by omega)
                        subst hkN7
                        refine lv_iload_n hx hb dX7_digest_131 rfl (lv_at hl 0 rfl) ?_
                        refine lv_aload_n hx hb dX7_digest_132 rfl (lv_at hl 2 rfl) ?_
                        refine va_get (D := D.1) (ci := 7) (v := .int (nI nm)) (C := RX7) (T := TX7) (N := 14) hx hb hts hinX7 hown hK hP 0 rfl rfl 7 (by decide) (hts (.fieldLink RX7 73 "MountainPostModel" "mules" "I") (List.mem_of_getElem? (i := 6) rfl)) (fun _ h9 => h9) rfl dX7_digest_133 ?_
                        refine lv_icmp_ge (tgt := 176) hx hb dX7_digest_136 (by decide) (fun c8 => ?_) (fun c8 => ?_)
                        · refine lv_iconst (v := 0) hx hb dX7_digest_176 (by decide) ?_
                          refine lv_istore_n (lv' := [(3, .int 0), (1, .long (d62 (fun i k => tmM Lx nl (nI i) (nI k)) 6 (d62 (fun i k => trM Lx nm (nI i) (nI k)) 6 (d62 (fun i k => stM Lx fog nm nl (nI i) (nI k)) 5 (d31 (fun k => cnM Lx ns nr nm nl (nI k)) 547 10) ns) nr) nm)), (0, .ref (Ax 0))]) hx hb dX7_digest_177 rfl hl (by decide) rfl (fun ls hl => ?_)
                          have lp9 : ∀ (j9 : Nat) (k9 : Nat) (hk9 : k9 + j9 = nl) (x3_9 : Int32) (e3_9 : x3_9 = (nI k9)) (x1_9 : Int64) (e1_9 : x1_9 = (d62 (fun i k => tlM Lx (nI i) (nI k)) 11 (d62 (fun i k => tmM Lx nl (nI i) (nI k)) 6 (d62 (fun i k => trM Lx nm (nI i) (nI k)) 6 (d62 (fun i k => stM Lx fog nm nl (nI i) (nI k)) 5 (d31 (fun k => cnM Lx ns nr nm nl (nI k)) 547 10) ns) nr) nm) k9)) (yxth_9 : Int32) (eyxth_9 : yxth_9 = 0) (H : Heap) (locs : List Loc) (hP : va_P D.1 vwCl (wMod D Ax yxth_9 ns fog nr nm nl Lx) H) (hD : va_D A0 (wMod D Ax yxth_9 ns fog nr nm nl Lx)) (hS : va_S A0 s.heap H locs) (ls : Array Slot) (hl : lv_has ls 5 [(3, .int x3_9), (1, .long x1_9), (0, .ref (Ax 0))]), W p l e (headSpec wsX7_digest ({ frames := 4, cells := 0, slots := 0, locals := 88 } : Room)).room s m ([.ref (Ax 0)] : List Value).toArray below meth c H locs 0 0 (MQ below (QW D (some (.long (d62 (fun i k => tlM Lx (nI i) (nI k)) 11 (d62 (fun i k => tmM Lx nl (nI i) (nI k)) 6 (d62 (fun i k => trM Lx nm (nI i) (nI k)) 6 (d62 (fun i k => stM Lx fog nm nl (nI i) (nI k)) 5 (d31 (fun k => cnM Lx ns nr nm nl (nI k)) 547 10) ns) nr) nm) nl))) (wMod D Ax 0 ns fog nr nm nl Lx) A0) ([.ref (Ax 0)] : List Value).toArray s 0 0 A0) (F0 m 178 ls []) := by
                            intro j9
                            induction j9 with
                            | zero =>
                              intro k9 hk9 x3_9 e3_9 x1_9 e1_9 yxth_9 eyxth_9  H locs hP hD hS ls hl
                              subst e3_9 e1_9 eyxth_9
                              have hkN9 : nl = k9 := (by omega)
                              subst hkN9
                              refine lv_iload_n hx hb dX7_digest_178 rfl (lv_at hl 0 rfl) ?_
                              refine lv_aload_n hx hb dX7_digest_179 rfl (lv_at hl 2 rfl) ?_
                              refine va_get (D := D.1) (ci := 7) (v := .int (nI nl)) (C := RX7) (T := TX7) (N := 14) hx hb hts hinX7 hown hK hP 0 rfl rfl 8 (by decide) (hts (.fieldLink RX7 48 "MountainPostModel" "letters" "I") (List.mem_of_getElem? (i := 7) rfl)) (fun _ h9 => h9) rfl dX7_digest_180 ?_
                              refine lv_icmp_ge (tgt := 223) hx hb dX7_digest_183 (by decide) (fun c10 => ?_) (fun c10 => ?_)
                              · refine lv_lload_n hx hb dX7_digest_223 rfl (lv_at hl 1 rfl) ?_
                                exact eWl hx hb hr hlocks dX7_digest_224 hS hP (by rfl) (by rfl)
                              · exact (up0 rfl c10).elim
                            | succ j9 ih9 =>
                              intro k9 hk9 x3_9 e3_9 x1_9 e1_9 yxth_9 eyxth_9  H locs hP hD hS ls hl
                              subst e3_9 e1_9 eyxth_9
                              have hlt9 : k9 < nl := by omega
                              have hlt : k9 < nl := hlt9
                              refine lv_iload_n hx hb dX7_digest_178 rfl (lv_at hl 0 rfl) ?_
                              refine lv_aload_n hx hb dX7_digest_179 rfl (lv_at hl 2 rfl) ?_
                              refine va_get (D := D.1) (ci := 7) (v := .int (nI nl)) (C := RX7) (T := TX7) (N := 14) hx hb hts hinX7 hown hK hP 0 rfl rfl 8 (by decide) (hts (.fieldLink RX7 48 "MountainPostModel" "letters" "I") (List.mem_of_getElem? (i := 7) rfl)) (fun _ h9 => h9) rfl dX7_digest_180 ?_
                              refine lv_icmp_ge (tgt := 223) hx hb dX7_digest_183 (by decide) (fun c11 => ?_) (fun c11 => ?_)
                              · exact (upS hk9 (by omega) c11).elim
                              · refine lv_iconst (v := 0) hx hb dX7_digest_186 (by decide) ?_
                                refine lv_istore (lv' := [(4, .int 0), (3, .int (nI k9)), (1, .long (d62 (fun i k => tlM Lx (nI i) (nI k)) 11 (d62 (fun i k => tmM Lx nl (nI i) (nI k)) 6 (d62 (fun i k => trM Lx nm (nI i) (nI k)) 6 (d62 (fun i k => stM Lx fog nm nl (nI i) (nI k)) 5 (d31 (fun k => cnM Lx ns nr nm nl (nI k)) 547 10) ns) nr) nm) k9)), (0, .ref (Ax 0))]) hx hb dX7_digest_187 hl (by decide) rfl (fun ls hl => ?_)
                                have lp12 : ∀ (j12 : Nat) (k12 : Nat) (hk12 : k12 + j12 = 11) (x4_12 : Int32) (e4_12 : x4_12 = (nI k12)) (x1_12 : Int64) (e1_12 : x1_12 = (d31 (fun k => tlM Lx (nI k9) (nI k)) (d62 (fun i k => tlM Lx (nI i) (nI k)) 11 (d62 (fun i k => tmM Lx nl (nI i) (nI k)) 6 (d62 (fun i k => trM Lx nm (nI i) (nI k)) 6 (d62 (fun i k => stM Lx fog nm nl (nI i) (nI k)) 5 (d31 (fun k => cnM Lx ns nr nm nl (nI k)) 547 10) ns) nr) nm) k9) k12)) (yxth_12 : Int32) (eyxth_12 : yxth_12 = 0) (H : Heap) (locs : List Loc) (hP : va_P D.1 vwCl (wMod D Ax yxth_12 ns fog nr nm nl Lx) H) (hD : va_D A0 (wMod D Ax yxth_12 ns fog nr nm nl Lx)) (hS : va_S A0 s.heap H locs) (ls : Array Slot) (hl : lv_has ls 5 [(4, .int x4_12), (3, .int (nI k9)), (1, .long x1_12), (0, .ref (Ax 0))]), W p l e (headSpec wsX7_digest ({ frames := 4, cells := 0, slots := 0, locals := 88 } : Room)).room s m ([.ref (Ax 0)] : List Value).toArray below meth c H locs 0 0 (MQ below (QW D (some (.long (d62 (fun i k => tlM Lx (nI i) (nI k)) 11 (d62 (fun i k => tmM Lx nl (nI i) (nI k)) 6 (d62 (fun i k => trM Lx nm (nI i) (nI k)) 6 (d62 (fun i k => stM Lx fog nm nl (nI i) (nI k)) 5 (d31 (fun k => cnM Lx ns nr nm nl (nI k)) 547 10) ns) nr) nm) nl))) (wMod D Ax 0 ns fog nr nm nl Lx) A0) ([.ref (Ax 0)] : List Value).toArray s 0 0 A0) (F0 m 189 ls []) := by
                                  intro j12
                                  induction j12 with
                                  | zero =>
                                    intro k12 hk12 x4_12 e4_12 x1_12 e1_12 yxth_12 eyxth_12  H locs hP hD hS ls hl
                                    subst e4_12 e1_12 eyxth_12
                                    have hkN12 : 11 = k12 := (by omega)
                                    subst hkN12
                                    refine lv_iload hx hb dX7_digest_189 (lv_at hl 0 rfl) ?_
                                    refine lv_bipush (v := 11) hx hb dX7_digest_191 (by decide) ?_
                                    refine lv_icmp_ge (tgt := 217) hx hb dX7_digest_193 (by decide) (fun c13 => ?_) (fun c13 => ?_)
                                    · refine lv_iinc (v := ((nI k9) + 1)) (lv' := [(3, .int ((nI k9) + 1)), (4, .int (nI 11)), (1, .long (d31 (fun k => tlM Lx (nI k9) (nI k)) (d62 (fun i k => tlM Lx (nI i) (nI k)) 11 (d62 (fun i k => tmM Lx nl (nI i) (nI k)) 6 (d62 (fun i k => trM Lx nm (nI i) (nI k)) 6 (d62 (fun i k => stM Lx fog nm nl (nI i) (nI k)) 5 (d31 (fun k => cnM Lx ns nr nm nl (nI k)) 547 10) ns) nr) nm) k9) 11)), (0, .ref (Ax 0))]) hx hb dX7_digest_217 hl (k := 1) rfl rfl (by decide) rfl (fun ls hl => ?_)
                                      refine lv_goto (tgt := 178) hx hb dX7_digest_220 (by decide) ?_
                                      exact ih9 (k9 + 1) (by omega) _ (nI_1 k9) _ rfl _ rfl _ _ hP hD hS ls (lv_sub hl [0, 2, 3] rfl)
                                    · exact (up0 rfl c13).elim
                                  | succ j12 ih12 =>
                                    intro k12 hk12 x4_12 e4_12 x1_12 e1_12 yxth_12 eyxth_12  H locs hP hD hS ls hl
                                    subst e4_12 e1_12 eyxth_12
                                    have hlt12 : k12 < 11 := by omega
                                    have hlt : k12 < 11 := hlt12
                                    refine lv_iload hx hb dX7_digest_189 (lv_at hl 0 rfl) ?_
                                    refine lv_bipush (v := 11) hx hb dX7_digest_191 (by decide) ?_
                                    refine lv_icmp_ge (tgt := 217) hx hb dX7_digest_193 (by decide) (fun c14 => ?_) (fun c14 => ?_)
                                    · exact (upS hk12 (by decide) c14).elim
                                    · refine lv_lload_n hx hb dX7_digest_196 rfl (lv_at hl 2 rfl) ?_
                                      refine lv_ldc2 hx hb hown (hts (.constantLong RX7 195 (31)) (List.mem_of_getElem? (i := 3) rfl)) dX7_digest_197 ?_
                                      refine lv_lmul hx hb dX7_digest_200 ?_
                                      refine lv_aload_n hx hb dX7_digest_201 rfl (lv_at hl 3 rfl) ?_
                                      refine lv_iload_n hx hb dX7_digest_202 rfl (lv_at hl 1 rfl) ?_
                                      refine lv_iload hx hb dX7_digest_203 (lv_at hl 0 rfl) ?_
                                      refine kVp ⟨hx, hb, hml, hown, hts⟩ (c_X7_letterTold l D Ax 0 ns fog nr nm nl Lx (nI k9) (nI k12) (by assumption) (by assumption) (by assumption) (by assumption) (vd_k (by omega)) (vd_k (by omega))) (cwV 2 hts gX7_digest_X7_letterTold rfl rfl rfl (by decide +kernel) ⟨Nat.le_of_ble_eq_true rfl, Nat.le_of_ble_eq_true rfl⟩) hK hN hP hD Sb.self 7 0 rfl rfl rfl hl.1 (Nat.le_of_ble_eq_true rfl) ⟨Nat.zero_le _, Nat.zero_le _⟩ dX7_digest_205 ?_ rfl
                                      refine lv_i2l hx hb dX7_digest_208 rfl ?_
                                      refine lv_ladd hx hb dX7_digest_209 ?_
                                      refine lv_lstore_n (lv' := [(1, .long (((d31 (fun k => tlM Lx (nI k9) (nI k)) (d62 (fun i k => tlM Lx (nI i) (nI k)) 11 (d62 (fun i k => tmM Lx nl (nI i) (nI k)) 6 (d62 (fun i k => trM Lx nm (nI i) (nI k)) 6 (d62 (fun i k => stM Lx fog nm nl (nI i) (nI k)) 5 (d31 (fun k => cnM Lx ns nr nm nl (nI k)) 547 10) ns) nr) nm) k9) k12) * 31) + ((tlM Lx (nI k9) (nI k12)).toInt64))), (4, .int (nI k12)), (3, .int (nI k9)), (0, .ref (Ax 0))]) hx hb dX7_digest_210 rfl hl (by decide) rfl (fun ls hl => ?_)
                                      refine lv_iinc (v := ((nI k12) + 1)) (lv' := [(4, .int ((nI k12) + 1)), (1, .long (((d31 (fun k => tlM Lx (nI k9) (nI k)) (d62 (fun i k => tlM Lx (nI i) (nI k)) 11 (d62 (fun i k => tmM Lx nl (nI i) (nI k)) 6 (d62 (fun i k => trM Lx nm (nI i) (nI k)) 6 (d62 (fun i k => stM Lx fog nm nl (nI i) (nI k)) 5 (d31 (fun k => cnM Lx ns nr nm nl (nI k)) 547 10) ns) nr) nm) k9) k12) * 31) + ((tlM Lx (nI k9) (nI k12)).toInt64))), (3, .int (nI k9)), (0, .ref (Ax 0))]) hx hb dX7_digest_211 hl (k := 1) rfl rfl (by decide) rfl (fun ls hl => ?_)
                                      refine lv_goto (tgt := 189) hx hb dX7_digest_214 (by decide) ?_
                                      exact ih12 (k12 + 1) (by omega) _ (nI_1 k12) _ rfl _ rfl _ _ hP hD hS ls (lv_sub hl [0, 2, 1, 3] rfl)
                                exact lp12 11 0 (by omega) _ nI_0.symm _ rfl _ rfl _ _ hP hD hS ls (lv_sub hl [0, 1, 2, 3] rfl)
                          exact lp9 nl 0 (by omega) _ nI_0.symm _ rfl _ rfl _ _ hP hD hS ls (lv_sub hl [0, 1, 2] rfl)
                        · exact (up0 rfl c8).elim
                      | succ j7 ih7 =>
                        intro k7 hk7 x3_7 e3_7 x1_7 e1_7 yxth_7 eyxth_7  H locs hP hD hS ls hl
                        subst e3_7 e1_7 eyxth_7
                        have hlt7 : k7 < nm := by omega
                        have hlt : k7 < nm := hlt7
                        refine lv_iload_n hx hb dX7_digest_131 rfl (lv_at hl 0 rfl) ?_
                        refine lv_aload_n hx hb dX7_digest_132 rfl (lv_at hl 2 rfl) ?_
                        refine va_get (D := D.1) (ci := 7) (v := .int (nI nm)) (C := RX7) (T := TX7) (N := 14) hx hb hts hinX7 hown hK hP 0 rfl rfl 7 (by decide) (hts (.fieldLink RX7 73 "MountainPostModel" "mules" "I") (List.mem_of_getElem? (i := 6) rfl)) (fun _ h9 => h9) rfl dX7_digest_133 ?_
                        refine lv_icmp_ge (tgt := 176) hx hb dX7_digest_136 (by decide) (fun c15 => ?_) (fun c15 => ?_)
                        · exact (upS hk7 (by omega) c15).elim
                        · refine lv_iconst (v := 0) hx hb dX7_digest_139 (by decide) ?_
                          refine lv_istore (lv' := [(4, .int 0), (3, .int (nI k7)), (1, .long (d62 (fun i k => tmM Lx nl (nI i) (nI k)) 6 (d62 (fun i k => trM Lx nm (nI i) (nI k)) 6 (d62 (fun i k => stM Lx fog nm nl (nI i) (nI k)) 5 (d31 (fun k => cnM Lx ns nr nm nl (nI k)) 547 10) ns) nr) k7)), (0, .ref (Ax 0))]) hx hb dX7_digest_140 hl (by decide) rfl (fun ls hl => ?_)
                          have lp16 : ∀ (j16 : Nat) (k16 : Nat) (hk16 : k16 + j16 = 6) (x4_16 : Int32) (e4_16 : x4_16 = (nI k16)) (x1_16 : Int64) (e1_16 : x1_16 = (d31 (fun k => tmM Lx nl (nI k7) (nI k)) (d62 (fun i k => tmM Lx nl (nI i) (nI k)) 6 (d62 (fun i k => trM Lx nm (nI i) (nI k)) 6 (d62 (fun i k => stM Lx fog nm nl (nI i) (nI k)) 5 (d31 (fun k => cnM Lx ns nr nm nl (nI k)) 547 10) ns) nr) k7) k16)) (yxth_16 : Int32) (eyxth_16 : yxth_16 = 0) (H : Heap) (locs : List Loc) (hP : va_P D.1 vwCl (wMod D Ax yxth_16 ns fog nr nm nl Lx) H) (hD : va_D A0 (wMod D Ax yxth_16 ns fog nr nm nl Lx)) (hS : va_S A0 s.heap H locs) (ls : Array Slot) (hl : lv_has ls 5 [(4, .int x4_16), (3, .int (nI k7)), (1, .long x1_16), (0, .ref (Ax 0))]), W p l e (headSpec wsX7_digest ({ frames := 4, cells := 0, slots := 0, locals := 88 } : Room)).room s m ([.ref (Ax 0)] : List Value).toArray below meth c H locs 0 0 (MQ below (QW D (some (.long (d62 (fun i k => tlM Lx (nI i) (nI k)) 11 (d62 (fun i k => tmM Lx nl (nI i) (nI k)) 6 (d62 (fun i k => trM Lx nm (nI i) (nI k)) 6 (d62 (fun i k => stM Lx fog nm nl (nI i) (nI k)) 5 (d31 (fun k => cnM Lx ns nr nm nl (nI k)) 547 10) ns) nr) nm) nl))) (wMod D Ax 0 ns fog nr nm nl Lx) A0) ([.ref (Ax 0)] : List Value).toArray s 0 0 A0) (F0 m 142 ls []) := by
                            intro j16
                            induction j16 with
                            | zero =>
                              intro k16 hk16 x4_16 e4_16 x1_16 e1_16 yxth_16 eyxth_16  H locs hP hD hS ls hl
                              subst e4_16 e1_16 eyxth_16
                              have hkN16 : 6 = k16 := (by omega)
                              subst hkN16
                              refine lv_iload hx hb dX7_digest_142 (lv_at hl 0 rfl) ?_
                              refine lv_bipush (v := 6) hx hb dX7_digest_144 (by decide) ?_
                              refine lv_icmp_ge (tgt := 170) hx hb dX7_digest_146 (by decide) (fun c17 => ?_) (fun c17 => ?_)
                              · refine lv_iinc (v := ((nI k7) + 1)) (lv' := [(3, .int ((nI k7) + 1)), (4, .int (nI 6)), (1, .long (d31 (fun k => tmM Lx nl (nI k7) (nI k)) (d62 (fun i k => tmM Lx nl (nI i) (nI k)) 6 (d62 (fun i k => trM Lx nm (nI i) (nI k)) 6 (d62 (fun i k => stM Lx fog nm nl (nI i) (nI k)) 5 (d31 (fun k => cnM Lx ns nr nm nl (nI k)) 547 10) ns) nr) k7) 6)), (0, .ref (Ax 0))]) hx hb dX7_digest_170 hl (k := 1) rfl rfl (by decide) rfl (fun ls hl => ?_)
                                refine lv_goto (tgt := 131) hx hb dX7_digest_173 (by decide) ?_
                                exact ih7 (k7 + 1) (by omega) _ (nI_1 k7) _ rfl _ rfl _ _ hP hD hS ls (lv_sub hl [0, 2, 3] rfl)
                              · exact (up0 rfl c17).elim
                            | succ j16 ih16 =>
                              intro k16 hk16 x4_16 e4_16 x1_16 e1_16 yxth_16 eyxth_16  H locs hP hD hS ls hl
                              subst e4_16 e1_16 eyxth_16
                              have hlt16 : k16 < 6 := by omega
                              have hlt : k16 < 6 := hlt16
                              refine lv_iload hx hb dX7_digest_142 (lv_at hl 0 rfl) ?_
                              refine lv_bipush (v := 6) hx hb dX7_digest_144 (by decide) ?_
                              refine lv_icmp_ge (tgt := 170) hx hb dX7_digest_146 (by decide) (fun c18 => ?_) (fun c18 => ?_)
                              · exact (upS hk16 (by decide) c18).elim
                              · refine lv_lload_n hx hb dX7_digest_149 rfl (lv_at hl 2 rfl) ?_
                                refine lv_ldc2 hx hb hown (hts (.constantLong RX7 195 (31)) (List.mem_of_getElem? (i := 3) rfl)) dX7_digest_150 ?_
                                refine lv_lmul hx hb dX7_digest_153 ?_
                                refine lv_aload_n hx hb dX7_digest_154 rfl (lv_at hl 3 rfl) ?_
                                refine lv_iload_n hx hb dX7_digest_155 rfl (lv_at hl 1 rfl) ?_
                                refine lv_iload hx hb dX7_digest_156 (lv_at hl 0 rfl) ?_
                                refine kVp ⟨hx, hb, hml, hown, hts⟩ (c_X7_muleTold l D Ax 0 ns fog nr nm nl Lx (nI k7) (nI k16) (by assumption) (by assumption) (by assumption) (by assumption) (vd_k (by omega)) (vd_k (by omega))) (cwV 2 hts gX7_digest_X7_muleTold rfl rfl rfl (by decide +kernel) ⟨Nat.le_of_ble_eq_true rfl, Nat.le_of_ble_eq_true rfl⟩) hK hN hP hD Sb.self 7 0 rfl rfl rfl hl.1 (Nat.le_of_ble_eq_true rfl) ⟨Nat.zero_le _, Nat.zero_le _⟩ dX7_digest_158 ?_ rfl
                                refine lv_i2l hx hb dX7_digest_161 rfl ?_
                                refine lv_ladd hx hb dX7_digest_162 ?_
                                refine lv_lstore_n (lv' := [(1, .long (((d31 (fun k => tmM Lx nl (nI k7) (nI k)) (d62 (fun i k => tmM Lx nl (nI i) (nI k)) 6 (d62 (fun i k => trM Lx nm (nI i) (nI k)) 6 (d62 (fun i k => stM Lx fog nm nl (nI i) (nI k)) 5 (d31 (fun k => cnM Lx ns nr nm nl (nI k)) 547 10) ns) nr) k7) k16) * 31) + ((tmM Lx nl (nI k7) (nI k16)).toInt64))), (4, .int (nI k16)), (3, .int (nI k7)), (0, .ref (Ax 0))]) hx hb dX7_digest_163 rfl hl (by decide) rfl (fun ls hl => ?_)
                                refine lv_iinc (v := ((nI k16) + 1)) (lv' := [(4, .int ((nI k16) + 1)), (1, .long (((d31 (fun k => tmM Lx nl (nI k7) (nI k)) (d62 (fun i k => tmM Lx nl (nI i) (nI k)) 6 (d62 (fun i k => trM Lx nm (nI i) (nI k)) 6 (d62 (fun i k => stM Lx fog nm nl (nI i) (nI k)) 5 (d31 (fun k => cnM Lx ns nr nm nl (nI k)) 547 10) ns) nr) k7) k16) * 31) + ((tmM Lx nl (nI k7) (nI k16)).toInt64))), (3, .int (nI k7)), (0, .ref (Ax 0))]) hx hb dX7_digest_164 hl (k := 1) rfl rfl (by decide) rfl (fun ls hl => ?_)
                                refine lv_goto (tgt := 142) hx hb dX7_digest_167 (by decide) ?_
                                exact ih16 (k16 + 1) (by omega) _ (nI_1 k16) _ rfl _ rfl _ _ hP hD hS ls (lv_sub hl [0, 2, 1, 3] rfl)
                          exact lp16 6 0 (by omega) _ nI_0.symm _ rfl _ rfl _ _ hP hD hS ls (lv_sub hl [0, 1, 2, 3] rfl)
                    exact lp7 nm 0 (by omega) _ nI_0.symm _ rfl _ rfl _ _ hP hD hS ls (lv_sub hl [0, 1, 2] rfl)
                  · exact (up0 rfl c6).elim
                | succ j5 ih5 =>
                  intro k5 hk5 x3_5 e3_5 x1_5 e1_5 yxth_5 eyxth_5  H locs hP hD hS ls hl
                  subst e3_5 e1_5 eyxth_5
                  have hlt5 : k5 < nr := by omega
                  have hlt : k5 < nr := hlt5
                  refine lv_iload_n hx hb dX7_digest_84 rfl (lv_at hl 0 rfl) ?_
                  refine lv_aload_n hx hb dX7_digest_85 rfl (lv_at hl 2 rfl) ?_
                  refine va_get (D := D.1) (ci := 7) (v := .int (nI nr)) (C := RX7) (T := TX7) (N := 14) hx hb hts hinX7 hown hK hP 0 rfl rfl 5 (by decide) (hts (.fieldLink RX7 45 "MountainPostModel" "roads" "I") (List.mem_of_getElem? (i := 5) rfl)) (fun _ h9 => h9) rfl dX7_digest_86 ?_
                  refine lv_icmp_ge (tgt := 129) hx hb dX7_digest_89 (by decide) (fun c19 => ?_) (fun c19 => ?_)
                  · exact (upS hk5 (by omega) c19).elim
                  · refine lv_iconst (v := 0) hx hb dX7_digest_92 (by decide) ?_
                    refine lv_istore (lv' := [(4, .int 0), (3, .int (nI k5)), (1, .long (d62 (fun i k => trM Lx nm (nI i) (nI k)) 6 (d62 (fun i k => stM Lx fog nm nl (nI i) (nI k)) 5 (d31 (fun k => cnM Lx ns nr nm nl (nI k)) 547 10) ns) k5)), (0, .ref (Ax 0))]) hx hb dX7_digest_93 hl (by decide) rfl (fun ls hl => ?_)
                    have lp20 : ∀ (j20 : Nat) (k20 : Nat) (hk20 : k20 + j20 = 6) (x4_20 : Int32) (e4_20 : x4_20 = (nI k20)) (x1_20 : Int64) (e1_20 : x1_20 = (d31 (fun k => trM Lx nm (nI k5) (nI k)) (d62 (fun i k => trM Lx nm (nI i) (nI k)) 6 (d62 (fun i k => stM Lx fog nm nl (nI i) (nI k)) 5 (d31 (fun k => cnM Lx ns nr nm nl (nI k)) 547 10) ns) k5) k20)) (yxth_20 : Int32) (eyxth_20 : yxth_20 = 0) (H : Heap) (locs : List Loc) (hP : va_P D.1 vwCl (wMod D Ax yxth_20 ns fog nr nm nl Lx) H) (hD : va_D A0 (wMod D Ax yxth_20 ns fog nr nm nl Lx)) (hS : va_S A0 s.heap H locs) (ls : Array Slot) (hl : lv_has ls 5 [(4, .int x4_20), (3, .int (nI k5)), (1, .long x1_20), (0, .ref (Ax 0))]), W p l e (headSpec wsX7_digest ({ frames := 4, cells := 0, slots := 0, locals := 88 } : Room)).room s m ([.ref (Ax 0)] : List Value).toArray below meth c H locs 0 0 (MQ below (QW D (some (.long (d62 (fun i k => tlM Lx (nI i) (nI k)) 11 (d62 (fun i k => tmM Lx nl (nI i) (nI k)) 6 (d62 (fun i k => trM Lx nm (nI i) (nI k)) 6 (d62 (fun i k => stM Lx fog nm nl (nI i) (nI k)) 5 (d31 (fun k => cnM Lx ns nr nm nl (nI k)) 547 10) ns) nr) nm) nl))) (wMod D Ax 0 ns fog nr nm nl Lx) A0) ([.ref (Ax 0)] : List Value).toArray s 0 0 A0) (F0 m 95 ls []) := by
                      intro j20
                      induction j20 with
                      | zero =>
                        intro k20 hk20 x4_20 e4_20 x1_20 e1_20 yxth_20 eyxth_20  H locs hP hD hS ls hl
                        subst e4_20 e1_20 eyxth_20
                        have hkN20 : 6 = k20 := (by omega)
                        subst hkN20
                        refine lv_iload hx hb dX7_digest_95 (lv_at hl 0 rfl) ?_
                        refine lv_bipush (v := 6) hx hb dX7_digest_97 (by decide) ?_
                        refine lv_icmp_ge (tgt := 123) hx hb dX7_digest_99 (by decide) (fun c21 => ?_) (fun c21 => ?_)
                        · refine lv_iinc (v := ((nI k5) + 1)) (lv' := [(3, .int ((nI k5) + 1)), (4, .int (nI 6)), (1, .long (d31 (fun k => trM Lx nm (nI k5) (nI k)) (d62 (fun i k => trM Lx nm (nI i) (nI k)) 6 (d62 (fun i k => stM Lx fog nm nl (nI i) (nI k)) 5 (d31 (fun k => cnM Lx ns nr nm nl (nI k)) 547 10) ns) k5) 6)), (0, .ref (Ax 0))]) hx hb dX7_digest_123 hl (k := 1) rfl rfl (by decide) rfl (fun ls hl => ?_)
                          refine lv_goto (tgt := 84) hx hb dX7_digest_126 (by decide) ?_
                          exact ih5 (k5 + 1) (by omega) _ (nI_1 k5) _ rfl _ rfl _ _ hP hD hS ls (lv_sub hl [0, 2, 3] rfl)
                        · exact (up0 rfl c21).elim
                      | succ j20 ih20 =>
                        intro k20 hk20 x4_20 e4_20 x1_20 e1_20 yxth_20 eyxth_20  H locs hP hD hS ls hl
                        subst e4_20 e1_20 eyxth_20
                        have hlt20 : k20 < 6 := by omega
                        have hlt : k20 < 6 := hlt20
                        refine lv_iload hx hb dX7_digest_95 (lv_at hl 0 rfl) ?_
                        refine lv_bipush (v := 6) hx hb dX7_digest_97 (by decide) ?_
                        refine lv_icmp_ge (tgt := 123) hx hb dX7_digest_99 (by decide) (fun c22 => ?_) (fun c22 => ?_)
                        · exact (upS hk20 (by decide) c22).elim
                        · refine lv_lload_n hx hb dX7_digest_102 rfl (lv_at hl 2 rfl) ?_
                          refine lv_ldc2 hx hb hown (hts (.constantLong RX7 195 (31)) (List.mem_of_getElem? (i := 3) rfl)) dX7_digest_103 ?_
                          refine lv_lmul hx hb dX7_digest_106 ?_
                          refine lv_aload_n hx hb dX7_digest_107 rfl (lv_at hl 3 rfl) ?_
                          refine lv_iload_n hx hb dX7_digest_108 rfl (lv_at hl 1 rfl) ?_
                          refine lv_iload hx hb dX7_digest_109 (lv_at hl 0 rfl) ?_
                          refine kVp ⟨hx, hb, hml, hown, hts⟩ (c_X7_roadTold l D Ax 0 ns fog nr nm nl Lx (nI k5) (nI k20) (by assumption) (by assumption) (by assumption) (by assumption) (vd_k (by omega)) (vd_k (by omega)) (by assumption)) (cwV 2 hts gX7_digest_X7_roadTold rfl rfl rfl (by decide +kernel) ⟨Nat.le_of_ble_eq_true rfl, Nat.le_of_ble_eq_true rfl⟩) hK hN hP hD Sb.self 7 0 rfl rfl rfl hl.1 (Nat.le_of_ble_eq_true rfl) ⟨Nat.zero_le _, Nat.zero_le _⟩ dX7_digest_111 ?_ rfl
                          refine lv_i2l hx hb dX7_digest_114 rfl ?_
                          refine lv_ladd hx hb dX7_digest_115 ?_
                          refine lv_lstore_n (lv' := [(1, .long (((d31 (fun k => trM Lx nm (nI k5) (nI k)) (d62 (fun i k => trM Lx nm (nI i) (nI k)) 6 (d62 (fun i k => stM Lx fog nm nl (nI i) (nI k)) 5 (d31 (fun k => cnM Lx ns nr nm nl (nI k)) 547 10) ns) k5) k20) * 31) + ((trM Lx nm (nI k5) (nI k20)).toInt64))), (4, .int (nI k20)), (3, .int (nI k5)), (0, .ref (Ax 0))]) hx hb dX7_digest_116 rfl hl (by decide) rfl (fun ls hl => ?_)
                          refine lv_iinc (v := ((nI k20) + 1)) (lv' := [(4, .int ((nI k20) + 1)), (1, .long (((d31 (fun k => trM Lx nm (nI k5) (nI k)) (d62 (fun i k => trM Lx nm (nI i) (nI k)) 6 (d62 (fun i k => stM Lx fog nm nl (nI i) (nI k)) 5 (d31 (fun k => cnM Lx ns nr nm nl (nI k)) 547 10) ns) k5) k20) * 31) + ((trM Lx nm (nI k5) (nI k20)).toInt64))), (3, .int (nI k5)), (0, .ref (Ax 0))]) hx hb dX7_digest_117 hl (k := 1) rfl rfl (by decide) rfl (fun ls hl => ?_)
                          refine lv_goto (tgt := 95) hx hb dX7_digest_120 (by decide) ?_
                          exact ih20 (k20 + 1) (by omega) _ (nI_1 k20) _ rfl _ rfl _ _ hP hD hS ls (lv_sub hl [0, 2, 1, 3] rfl)
                    exact lp20 6 0 (by omega) _ nI_0.symm _ rfl _ rfl _ _ hP hD hS ls (lv_sub hl [0, 1, 2, 3] rfl)
              exact lp5 nr 0 (by omega) _ nI_0.symm _ rfl _ rfl _ _ hP hD hS ls (lv_sub hl [0, 1, 2] rfl)
            · exact (up0 rfl c4).elim
          | succ j3 ih3 =>
            intro k3 hk3 x3_3 e3_3 x1_3 e1_3 yxth_3 eyxth_3  H locs hP hD hS ls hl
            subst e3_3 e1_3 eyxth_3
            have hlt3 : k3 < ns := by omega
            have hlt : k3 < ns := hlt3
            refine lv_iload_n hx hb dX7_digest_38 rfl (lv_at hl 0 rfl) ?_
            refine lv_aload_n hx hb dX7_digest_39 rfl (lv_at hl 2 rfl) ?_
            refine va_get (D := D.1) (ci := 7) (v := .int (nI ns)) (C := RX7) (T := TX7) (N := 14) hx hb hts hinX7 hown hK hP 0 rfl rfl 1 (by decide) (hts (.fieldLink RX7 38 "MountainPostModel" "stations" "I") (List.mem_of_getElem? (i := 4) rfl)) (fun _ h9 => h9) rfl dX7_digest_40 ?_
            refine lv_icmp_ge (tgt := 82) hx hb dX7_digest_43 (by decide) (fun c23 => ?_) (fun c23 => ?_)
            · exact (upS hk3 (by omega) c23).elim
            · refine lv_iconst (v := 0) hx hb dX7_digest_46 (by decide) ?_
              refine lv_istore (lv' := [(4, .int 0), (3, .int (nI k3)), (1, .long (d62 (fun i k => stM Lx fog nm nl (nI i) (nI k)) 5 (d31 (fun k => cnM Lx ns nr nm nl (nI k)) 547 10) k3)), (0, .ref (Ax 0))]) hx hb dX7_digest_47 hl (by decide) rfl (fun ls hl => ?_)
              have lp24 : ∀ (j24 : Nat) (k24 : Nat) (hk24 : k24 + j24 = 5) (x4_24 : Int32) (e4_24 : x4_24 = (nI k24)) (x1_24 : Int64) (e1_24 : x1_24 = (d31 (fun k => stM Lx fog nm nl (nI k3) (nI k)) (d62 (fun i k => stM Lx fog nm nl (nI i) (nI k)) 5 (d31 (fun k => cnM Lx ns nr nm nl (nI k)) 547 10) k3) k24)) (yxth_24 : Int32) (eyxth_24 : yxth_24 = 0) (H : Heap) (locs : List Loc) (hP : va_P D.1 vwCl (wMod D Ax yxth_24 ns fog nr nm nl Lx) H) (hD : va_D A0 (wMod D Ax yxth_24 ns fog nr nm nl Lx)) (hS : va_S A0 s.heap H locs) (ls : Array Slot) (hl : lv_has ls 5 [(4, .int x4_24), (3, .int (nI k3)), (1, .long x1_24), (0, .ref (Ax 0))]), W p l e (headSpec wsX7_digest ({ frames := 4, cells := 0, slots := 0, locals := 88 } : Room)).room s m ([.ref (Ax 0)] : List Value).toArray below meth c H locs 0 0 (MQ below (QW D (some (.long (d62 (fun i k => tlM Lx (nI i) (nI k)) 11 (d62 (fun i k => tmM Lx nl (nI i) (nI k)) 6 (d62 (fun i k => trM Lx nm (nI i) (nI k)) 6 (d62 (fun i k => stM Lx fog nm nl (nI i) (nI k)) 5 (d31 (fun k => cnM Lx ns nr nm nl (nI k)) 547 10) ns) nr) nm) nl))) (wMod D Ax 0 ns fog nr nm nl Lx) A0) ([.ref (Ax 0)] : List Value).toArray s 0 0 A0) (F0 m 49 ls []) := by
                intro j24
                induction j24 with
                | zero =>
                  intro k24 hk24 x4_24 e4_24 x1_24 e1_24 yxth_24 eyxth_24  H locs hP hD hS ls hl
                  subst e4_24 e1_24 eyxth_24
                  have hkN24 : 5 = k24 := (by omega)
                  subst hkN24
                  refine lv_iload hx hb dX7_digest_49 (lv_at hl 0 rfl) ?_
                  refine lv_iconst (v := 5) hx hb dX7_digest_51 (by decide) ?_
                  refine lv_icmp_ge (tgt := 76) hx hb dX7_digest_52 (by decide) (fun c25 => ?_) (fun c25 => ?_)
                  · refine lv_iinc (v := ((nI k3) + 1)) (lv' := [(3, .int ((nI k3) + 1)), (4, .int (nI 5)), (1, .long (d31 (fun k => stM Lx fog nm nl (nI k3) (nI k)) (d62 (fun i k => stM Lx fog nm nl (nI i) (nI k)) 5 (d31 (fun k => cnM Lx ns nr nm nl (nI k)) 547 10) k3) 5)), (0, .ref (Ax 0))]) hx hb dX7_digest_76 hl (k := 1) rfl rfl (by decide) rfl (fun ls hl => ?_)
                    refine lv_goto (tgt := 38) hx hb dX7_digest_79 (by decide) ?_
                    exact ih3 (k3 + 1) (by omega) _ (nI_1 k3) _ rfl _ rfl _ _ hP hD hS ls (lv_sub hl [0, 2, 3] rfl)
                  · exact (up0 rfl c25).elim
                | succ j24 ih24 =>
                  intro k24 hk24 x4_24 e4_24 x1_24 e1_24 yxth_24 eyxth_24  H locs hP hD hS ls hl
                  subst e4_24 e1_24 eyxth_24
                  have hlt24 : k24 < 5 := by omega
                  have hlt : k24 < 5 := hlt24
                  refine lv_iload hx hb dX7_digest_49 (lv_at hl 0 rfl) ?_
                  refine lv_iconst (v := 5) hx hb dX7_digest_51 (by decide) ?_
                  refine lv_icmp_ge (tgt := 76) hx hb dX7_digest_52 (by decide) (fun c26 => ?_) (fun c26 => ?_)
                  · exact (upS hk24 (by decide) c26).elim
                  · refine lv_lload_n hx hb dX7_digest_55 rfl (lv_at hl 2 rfl) ?_
                    refine lv_ldc2 hx hb hown (hts (.constantLong RX7 195 (31)) (List.mem_of_getElem? (i := 3) rfl)) dX7_digest_56 ?_
                    refine lv_lmul hx hb dX7_digest_59 ?_
                    refine lv_aload_n hx hb dX7_digest_60 rfl (lv_at hl 3 rfl) ?_
                    refine lv_iload_n hx hb dX7_digest_61 rfl (lv_at hl 1 rfl) ?_
                    refine lv_iload hx hb dX7_digest_62 (lv_at hl 0 rfl) ?_
                    refine kVp ⟨hx, hb, hml, hown, hts⟩ (c_X7_stationTold l D Ax 0 ns fog nr nm nl Lx (nI k3) (nI k24) (by assumption) (by assumption) (by assumption) (vd_k (by omega))) (cwV 2 hts gX7_digest_X7_stationTold rfl rfl rfl (by decide +kernel) ⟨Nat.le_of_ble_eq_true rfl, Nat.le_of_ble_eq_true rfl⟩) hK hN hP hD Sb.self 7 0 rfl rfl rfl hl.1 (Nat.le_of_ble_eq_true rfl) ⟨Nat.zero_le _, Nat.zero_le _⟩ dX7_digest_64 ?_ rfl
                    refine lv_i2l hx hb dX7_digest_67 rfl ?_
                    refine lv_ladd hx hb dX7_digest_68 ?_
                    refine lv_lstore_n (lv' := [(1, .long (((d31 (fun k => stM Lx fog nm nl (nI k3) (nI k)) (d62 (fun i k => stM Lx fog nm nl (nI i) (nI k)) 5 (d31 (fun k => cnM Lx ns nr nm nl (nI k)) 547 10) k3) k24) * 31) + ((stM Lx fog nm nl (nI k3) (nI k24)).toInt64))), (4, .int (nI k24)), (3, .int (nI k3)), (0, .ref (Ax 0))]) hx hb dX7_digest_69 rfl hl (by decide) rfl (fun ls hl => ?_)
                    refine lv_iinc (v := ((nI k24) + 1)) (lv' := [(4, .int ((nI k24) + 1)), (1, .long (((d31 (fun k => stM Lx fog nm nl (nI k3) (nI k)) (d62 (fun i k => stM Lx fog nm nl (nI i) (nI k)) 5 (d31 (fun k => cnM Lx ns nr nm nl (nI k)) 547 10) k3) k24) * 31) + ((stM Lx fog nm nl (nI k3) (nI k24)).toInt64))), (3, .int (nI k3)), (0, .ref (Ax 0))]) hx hb dX7_digest_70 hl (k := 1) rfl rfl (by decide) rfl (fun ls hl => ?_)
                    refine lv_goto (tgt := 49) hx hb dX7_digest_73 (by decide) ?_
                    exact ih24 (k24 + 1) (by omega) _ (nI_1 k24) _ rfl _ rfl _ _ hP hD hS ls (lv_sub hl [0, 2, 1, 3] rfl)
              exact lp24 5 0 (by omega) _ nI_0.symm _ rfl _ rfl _ _ hP hD hS ls (lv_sub hl [0, 1, 2, 3] rfl)
        exact lp3 ns 0 (by omega) _ nI_0.symm _ rfl _ rfl _ _ hP hD hS ls (lv_sub hl [0, 1, 2] rfl)
      · exact (up0 rfl c2).elim
    | succ j1 ih1 =>
      intro k1 hk1 x3_1 e3_1 x1_1 e1_1 yxth_1 eyxth_1  H locs hP hD hS ls hl
      subst e3_1 e1_1 eyxth_1
      have hlt1 : k1 < 10 := by omega
      have hlt : k1 < 10 := hlt1
      refine lv_iload_n hx hb dX7_digest_11 rfl (lv_at hl 0 rfl) ?_
      refine lv_bipush (v := 10) hx hb dX7_digest_12 (by decide) ?_
      refine lv_icmp_ge (tgt := 36) hx hb dX7_digest_14 (by decide) (fun c27 => ?_) (fun c27 => ?_)
      · exact (upS hk1 (by decide) c27).elim
      · refine lv_lload_n hx hb dX7_digest_17 rfl (lv_at hl 1 rfl) ?_
        refine lv_ldc2 hx hb hown (hts (.constantLong RX7 195 (31)) (List.mem_of_getElem? (i := 3) rfl)) dX7_digest_18 ?_
        refine lv_lmul hx hb dX7_digest_21 ?_
        refine lv_aload_n hx hb dX7_digest_22 rfl (lv_at hl 2 rfl) ?_
        refine lv_iload_n hx hb dX7_digest_23 rfl (lv_at hl 0 rfl) ?_
        refine kVp ⟨hx, hb, hml, hown, hts⟩ (c_X7_counted l D Ax 0 ns fog nr nm nl Lx (nI k1) (by assumption)) (cwV 1 hts gX7_digest_X7_counted rfl rfl rfl (by decide +kernel) ⟨Nat.le_of_ble_eq_true rfl, Nat.le_of_ble_eq_true rfl⟩) hK hN hP hD Sb.self 7 0 rfl rfl rfl hl.1 (Nat.le_of_ble_eq_true rfl) ⟨Nat.zero_le _, Nat.zero_le _⟩ dX7_digest_24 ?_ rfl
        refine lv_i2l hx hb dX7_digest_27 rfl ?_
        refine lv_ladd hx hb dX7_digest_28 ?_
        refine lv_lstore_n (lv' := [(1, .long (((d31 (fun k => cnM Lx ns nr nm nl (nI k)) 547 k1) * 31) + ((cnM Lx ns nr nm nl (nI k1)).toInt64))), (3, .int (nI k1)), (0, .ref (Ax 0))]) hx hb dX7_digest_29 rfl hl (by decide) rfl (fun ls hl => ?_)
        refine lv_iinc (v := ((nI k1) + 1)) (lv' := [(3, .int ((nI k1) + 1)), (1, .long (((d31 (fun k => cnM Lx ns nr nm nl (nI k)) 547 k1) * 31) + ((cnM Lx ns nr nm nl (nI k1)).toInt64))), (0, .ref (Ax 0))]) hx hb dX7_digest_30 hl (k := 1) rfl rfl (by decide) rfl (fun ls hl => ?_)
        refine lv_goto (tgt := 11) hx hb dX7_digest_33 (by decide) ?_
        exact ih1 (k1 + 1) (by omega) _ (nI_1 k1) _ rfl _ rfl _ _ hP hD hS ls (lv_sub hl [0, 1, 2] rfl)
  exact lp1 10 0 (by omega) _ nI_0.symm _ rfl _ rfl _ _ hP hD hS ls (lv_sub hl [0, 1, 2] rfl)
