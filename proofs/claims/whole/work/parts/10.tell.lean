/-! what the post tells -/
theorem sw_out {x : Int32} (n : Nat) (hn : n < 2 ^ 31) (h : ∀ i, i ≤ n → ¬ x = nI i) : x.toInt < 0 ∨ (n : Int) < x.toInt := by
  by_cases h0 : x < 0
  · exact Or.inl (Int32.lt_iff_toInt_lt.mp h0)
  · obtain ⟨j, hj, rfl⟩ := nI_of h0
    right
    rw [nI_toInt hj]
    have : ¬ j ≤ n := fun q => h j q rfl
    omega
def us (x y : Int32) : Int32 := (x.toUInt32 >>> (y.toUInt32 &&& Int32.toUInt32 31)).toInt32
def bc1 (x : Int32) : Int32 := x - (us x 1 &&& 1431655765)
def bc2 (x : Int32) : Int32 := (x &&& 858993459) + (us x 2 &&& 858993459)
def bc3 (x : Int32) : Int32 := (x + us x 4) &&& 252645135
def bc4 (x : Int32) : Int32 := x + us x 8
def bc5 (x : Int32) : Int32 := x + us x 16
def bitC (x : Int32) : Int32 := bc5 (bc4 (bc3 (bc2 (bc1 x)))) &&& 63
def tsC (Ld Lm Le : Fm) (fog : Int32) (nm ne : Nat) (s w : Int32) : Int32 := if w = 0 then rg 10 (Ld 0) s else if w = 1 then waitC Le ne s else if w = 2 then stndC Lm nm s else if w = 3 then bitC (rg 10 (Ld 1) s) else z2 (bH fog s)
def trC (Ld Lm : Fm) (nm : Nat) (r w : Int32) : Int32 := if w = 0 then rg 15 (Ld 2) r else if w = 1 then rg 15 (Ld 3) r else if w = 2 then hrsC Ld r (rg 15 (Ld 2) r) (rg 15 (Ld 3) r) else if w = 3 then hrsC Ld r (rg 15 (Ld 3) r) (rg 15 (Ld 2) r) else if w = 4 then ofRC Lm nm r else onWC Lm nm r
def tmC (Lm Le : Fm) (ne : Nat) (m w : Int32) : Int32 := if w = 0 then rg 12 (Lm 0) m else if w = 1 then rg 12 (Lm 1) m else if w = 2 then rg 12 (Lm 2) m else if w = 3 then rg 12 (Lm 3) m else if w = 4 then carrC Le ne m else rg 12 (Lm 4) m
def tlC (Le : Fm) (l w : Int32) : Int32 := if w = 0 then rg 60 (Le 0) l else if w = 1 then rg 60 (Le 1) l else if w = 2 then rg 60 (Le 2) l else if w = 3 then rg 60 (Le 3) l else if w = 4 then rg 60 (Le 4) l else if w = 5 then rg 60 (Le 5) l else if w = 6 then z2 (isRecC Le l) else if w = 7 then rg 60 (Le 7) l else if w = 8 then rg 60 (Le 8) l else if w = 9 then rg 60 (Le 9) l else bitC (rg 60 (Le 6) l)
def tcC (Le : Fm) (hou cro : Int32) (ns nr nm ne : Nat) (w : Int32) : Int32 := if w = 0 then hou else if w = 1 then nI ns else if w = 2 then nI nr else if w = 3 then nI nm else if w = 4 then nI ne else if w = 5 then inStC Le ne 0 else if w = 6 then inStC Le ne 1 else if w = 7 then inStC Le ne 2 else if w = 8 then inStC Le ne 3 else cro
theorem eL {p : Program} {l : Launch} {e : Env} {R : Room} {s : State} {m : MethodId} {args : Array Value} {below : List Frame} {meth : Method} {c : Code} {pc : Nat} {ls : Array Slot} {cc : ByteArray} {x r : Int64} (hx : p.tables.exec = Jvm.exec) (hb : c.code = cc) (hr : meth.sig.returnType = some .long) (hlocks : meth.locks = false) (hdg : decode cc pc = .ok (.lreturn, 1)) (hv : x = r) : W p l e R s m args below meth c s.heap [] 0 0 (MQ below (RP (.long r)) args s 0 0 (fun _ => False)) (F0 m pc ls [.long x]) := by
  subst hv
  exact W.lret hx hb hr (fun t ht hW => ⟨rfl, ht⟩) (fun _ h => nomatch h) hdg hlocks
def d31 (t : Nat → Int32) (d : Int64) : Nat → Int64
  | 0 => d
  | k + 1 => d31 t d k * 31 + (t k).toInt64
set_option maxHeartbeats 4000000 in
set_option maxRecDepth 100000 in
theorem c_J6_bitCount_0f7a4 (l : Launch) (D : GG) (p0 : Int32)  : Met l yJ6_bitCount_0f7a4 wsJ6_bitCount_0f7a4 ({ frames := 0, cells := 0, slots := 0, locals := 0 } : Room) (va_Pc [.int p0] (wd D [])) (RP (.int (bitC p0))) 0 0 (fun _ => False) := by
  refine Met.ofW (cc := cJ6_bitCount_0f7a4) (maxL := 1) (ret := (some .int)) (by decide) rfl ?_
  intro p e s m args below meth c s₁ B hml hv
  obtain ⟨rfl, hP, hK, hD, hN⟩ := hv
  have hx := B.exec
  have hb := B.bytes
  have hr := B.returns
  have hts := atoms_spec (ws := wsJ6_bitCount_0f7a4) B.pre
  have hown : s.vm.findClass RJ6 = some m.cls := findClass_of_methodNamed B.named
  have hlocks := B.notSynchronized
  have hl := lv_entry ([.int p0]) (n := 1) (Nat.le_of_ble_eq_true rfl)
  rw [lg_entry_eq]
  generalize (lg_sl ([.int p0]) ++ List.replicate (1 - (lg_sl ([.int p0])).length) Slot.unset).toArray = ls at hl ⊢
  have hl : lv_has ls 1 [(0, .int p0)] := hl
  refine lv_iload_n hx hb dJ6_bitCount_0f7a4_0 rfl (lv_at hl 0 rfl) ?_
  refine lv_iload_n hx hb dJ6_bitCount_0f7a4_1 rfl (lv_at hl 0 rfl) ?_
  refine lv_iconst (v := 1) hx hb dJ6_bitCount_0f7a4_2 (by decide) ?_
  refine lv_iushr hx hb dJ6_bitCount_0f7a4_3 rfl ?_
  refine lv_ldcw hx hb hown (hts (.constant RJ6 265 (1431655765)) (List.mem_of_getElem? (i := 1) rfl)) dJ6_bitCount_0f7a4_4 ?_
  refine lv_iand hx hb dJ6_bitCount_0f7a4_7 ?_
  refine lv_isub hx hb dJ6_bitCount_0f7a4_8 ?_
  refine lv_istore_n (lv' := [(0, .int (p0 - ((us p0 1) &&& 1431655765)))]) hx hb dJ6_bitCount_0f7a4_9 rfl hl (by decide) rfl (fun ls hl => ?_)
  refine lv_iload_n hx hb dJ6_bitCount_0f7a4_10 rfl (lv_at hl 0 rfl) ?_
  refine lv_ldcw hx hb hown (hts (.constant RJ6 266 (858993459)) (List.mem_of_getElem? (i := 2) rfl)) dJ6_bitCount_0f7a4_11 ?_
  refine lv_iand hx hb dJ6_bitCount_0f7a4_14 ?_
  refine lv_iload_n hx hb dJ6_bitCount_0f7a4_15 rfl (lv_at hl 0 rfl) ?_
  refine lv_iconst (v := 2) hx hb dJ6_bitCount_0f7a4_16 (by decide) ?_
  refine lv_iushr hx hb dJ6_bitCount_0f7a4_17 rfl ?_
  refine lv_ldcw hx hb hown (hts (.constant RJ6 266 (858993459)) (List.mem_of_getElem? (i := 2) rfl)) dJ6_bitCount_0f7a4_18 ?_
  refine lv_iand hx hb dJ6_bitCount_0f7a4_21 ?_
  refine lv_iadd hx hb dJ6_bitCount_0f7a4_22 ?_
  refine lv_istore_n (lv' := [(0, .int (((p0 - ((us p0 1) &&& 1431655765)) &&& 858993459) + ((us (p0 - ((us p0 1) &&& 1431655765)) 2) &&& 858993459)))]) hx hb dJ6_bitCount_0f7a4_23 rfl hl (by decide) rfl (fun ls hl => ?_)
  refine lv_iload_n hx hb dJ6_bitCount_0f7a4_24 rfl (lv_at hl 0 rfl) ?_
  refine lv_iload_n hx hb dJ6_bitCount_0f7a4_25 rfl (lv_at hl 0 rfl) ?_
  refine lv_iconst (v := 4) hx hb dJ6_bitCount_0f7a4_26 (by decide) ?_
  refine lv_iushr hx hb dJ6_bitCount_0f7a4_27 rfl ?_
  refine lv_iadd hx hb dJ6_bitCount_0f7a4_28 ?_
  refine lv_ldcw hx hb hown (hts (.constant RJ6 267 (252645135)) (List.mem_of_getElem? (i := 3) rfl)) dJ6_bitCount_0f7a4_29 ?_
  refine lv_iand hx hb dJ6_bitCount_0f7a4_32 ?_
  refine lv_istore_n (lv' := [(0, .int (((((p0 - ((us p0 1) &&& 1431655765)) &&& 858993459) + ((us (p0 - ((us p0 1) &&& 1431655765)) 2) &&& 858993459)) + (us (((p0 - ((us p0 1) &&& 1431655765)) &&& 858993459) + ((us (p0 - ((us p0 1) &&& 1431655765)) 2) &&& 858993459)) 4)) &&& 252645135))]) hx hb dJ6_bitCount_0f7a4_33 rfl hl (by decide) rfl (fun ls hl => ?_)
  refine lv_iload_n hx hb dJ6_bitCount_0f7a4_34 rfl (lv_at hl 0 rfl) ?_
  refine lv_iload_n hx hb dJ6_bitCount_0f7a4_35 rfl (lv_at hl 0 rfl) ?_
  refine lv_bipush (v := 8) hx hb dJ6_bitCount_0f7a4_36 (by decide) ?_
  refine lv_iushr hx hb dJ6_bitCount_0f7a4_38 rfl ?_
  refine lv_iadd hx hb dJ6_bitCount_0f7a4_39 ?_
  refine lv_istore_n (lv' := [(0, .int ((((((p0 - ((us p0 1) &&& 1431655765)) &&& 858993459) + ((us (p0 - ((us p0 1) &&& 1431655765)) 2) &&& 858993459)) + (us (((p0 - ((us p0 1) &&& 1431655765)) &&& 858993459) + ((us (p0 - ((us p0 1) &&& 1431655765)) 2) &&& 858993459)) 4)) &&& 252645135) + (us (((((p0 - ((us p0 1) &&& 1431655765)) &&& 858993459) + ((us (p0 - ((us p0 1) &&& 1431655765)) 2) &&& 858993459)) + (us (((p0 - ((us p0 1) &&& 1431655765)) &&& 858993459) + ((us (p0 - ((us p0 1) &&& 1431655765)) 2) &&& 858993459)) 4)) &&& 252645135) 8)))]) hx hb dJ6_bitCount_0f7a4_40 rfl hl (by decide) rfl (fun ls hl => ?_)
  refine lv_iload_n hx hb dJ6_bitCount_0f7a4_41 rfl (lv_at hl 0 rfl) ?_
  refine lv_iload_n hx hb dJ6_bitCount_0f7a4_42 rfl (lv_at hl 0 rfl) ?_
  refine lv_bipush (v := 16) hx hb dJ6_bitCount_0f7a4_43 (by decide) ?_
  refine lv_iushr hx hb dJ6_bitCount_0f7a4_45 rfl ?_
  refine lv_iadd hx hb dJ6_bitCount_0f7a4_46 ?_
  refine lv_istore_n (lv' := [(0, .int (((((((p0 - ((us p0 1) &&& 1431655765)) &&& 858993459) + ((us (p0 - ((us p0 1) &&& 1431655765)) 2) &&& 858993459)) + (us (((p0 - ((us p0 1) &&& 1431655765)) &&& 858993459) + ((us (p0 - ((us p0 1) &&& 1431655765)) 2) &&& 858993459)) 4)) &&& 252645135) + (us (((((p0 - ((us p0 1) &&& 1431655765)) &&& 858993459) + ((us (p0 - ((us p0 1) &&& 1431655765)) 2) &&& 858993459)) + (us (((p0 - ((us p0 1) &&& 1431655765)) &&& 858993459) + ((us (p0 - ((us p0 1) &&& 1431655765)) 2) &&& 858993459)) 4)) &&& 252645135) 8)) + (us ((((((p0 - ((us p0 1) &&& 1431655765)) &&& 858993459) + ((us (p0 - ((us p0 1) &&& 1431655765)) 2) &&& 858993459)) + (us (((p0 - ((us p0 1) &&& 1431655765)) &&& 858993459) + ((us (p0 - ((us p0 1) &&& 1431655765)) 2) &&& 858993459)) 4)) &&& 252645135) + (us (((((p0 - ((us p0 1) &&& 1431655765)) &&& 858993459) + ((us (p0 - ((us p0 1) &&& 1431655765)) 2) &&& 858993459)) + (us (((p0 - ((us p0 1) &&& 1431655765)) &&& 858993459) + ((us (p0 - ((us p0 1) &&& 1431655765)) 2) &&& 858993459)) 4)) &&& 252645135) 8)) 16)))]) hx hb dJ6_bitCount_0f7a4_47 rfl hl (by decide) rfl (fun ls hl => ?_)
  refine lv_iload_n hx hb dJ6_bitCount_0f7a4_48 rfl (lv_at hl 0 rfl) ?_
  refine lv_bipush (v := 63) hx hb dJ6_bitCount_0f7a4_49 (by decide) ?_
  refine lv_iand hx hb dJ6_bitCount_0f7a4_51 ?_
  exact eI hx hb hr hlocks dJ6_bitCount_0f7a4_52 (by rfl)

set_option maxHeartbeats 4000000 in
set_option maxRecDepth 100000 in
theorem c_X6_isStation (l : Launch) (D : GG) (om : Nat) (Ad : Nat → Nat) (ot : Nat) (ou : Nat) (Aw : Nat → Nat) (Am : Nat → Nat) (Ae : Nat → Nat) (xt : Nat) (hou : Int32) (cro : Int32) (Lw : Nat → Nat → Int32) (nm : Nat) (Lm : Nat → Nat → Int32) (ne : Nat) (Le : Nat → Nat → Int32) (yt : Nat) (Nt : Nat → Int32) (nsd : Nat) (fogd : Int32) (nrd : Nat) (Ld : Nat → Nat → Int32) (p1 : Int32)  : Met l yX6_isStation wsX6_isStation ({ frames := 1, cells := 0, slots := 0, locals := 22 } : Room) (va_Pc [.ref om, .int p1] (wd D ((wMob om Ad ot ou) ++ ((wTob ot Ad Aw Am Ae xt hou cro) ++ ((wWays D Aw Lw) ++ ((wMul D Am nm Lm) ++ ((wLet D Ae ne Le) ++ ((wRow D xt yt 60 Nt) ++ (wLand D Ad nsd fogd nrd Ld))))))))) (RP (.int (z2 (inB p1 0 (nI nsd - 1))))) 0 0 (fun _ => False) := by
  refine Met.ofW (cc := cX6_isStation) (maxL := 2) (ret := (some .boolean)) (by decide) rfl ?_
  intro p e s m args below meth c s₁ B hml hv
  obtain ⟨rfl, hP, hK, hD, hN⟩ := hv
  have hx := B.exec
  have hb := B.bytes
  have hr := B.returns
  have hts := atoms_spec (ws := wsX6_isStation) B.pre
  have hown : s.vm.findClass RX6 = some m.cls := findClass_of_methodNamed B.named
  have hlocks := B.notSynchronized
  have hinX0 : ∀ w ∈ u_ws RX0 TX0 8, w ∈ wsX6_isStation := by decide +kernel
  have hinX6 : ∀ w ∈ u_ws RX6 TX6 3, w ∈ wsX6_isStation := by decide +kernel
  have hl := lv_entry ([.ref om, .int p1]) (n := 2) (Nat.le_of_ble_eq_true rfl)
  rw [lg_entry_eq]
  generalize (lg_sl ([.ref om, .int p1]) ++ List.replicate (2 - (lg_sl ([.ref om, .int p1])).length) Slot.unset).toArray = ls at hl ⊢
  have hl : lv_has ls 2 [(0, .ref om), (1, .int p1)] := hl
  refine lv_iload_n hx hb dX6_isStation_0 rfl (lv_at hl 1 rfl) ?_
  refine lv_iconst (v := 0) hx hb dX6_isStation_1 (by decide) ?_
  refine lv_aload_n hx hb dX6_isStation_2 rfl (lv_at hl 0 rfl) ?_
  refine va_get (D := D.1) (ci := 6) (v := .ref (Ad 0)) (C := RX6) (T := TX6) (N := 3) hx hb hts hinX6 hown hK (sP (Sb.l Sb.self) hP) 0 rfl rfl 0 (by decide) (hts (.fieldLink RX6 10 "MountainPost" "land" "LMountainPost$Land;") (List.mem_of_getElem? (i := 1) rfl)) (fun _ h9 => h9) rfl dX6_isStation_3 ?_
  refine va_getN (D := D.1) (ci := 0) (v := .int (nI nsd)) (C := RX0) (T := TX0) (N := 8) hx hb hts hinX0 hown hK (sP (Sb.r (Sb.r (Sb.r (Sb.r (Sb.r (Sb.r Sb.self)))))) hP) 0 rfl rfl 0 (by decide) (hN.f 0 rfl) (fun _ h9 => h9) rfl dX6_isStation_6 ?_
  refine lv_iconst (v := 1) hx hb dX6_isStation_9 (by decide) ?_
  refine lv_isub hx hb dX6_isStation_10 ?_
  refine kSp ⟨hx, hb, hml, hown, hts⟩ (c_X6_isWithin l D p1 0 ((nI nsd) - 1)) (va_cwS 3 hts gX6_isStation_X6_isWithin rfl rfl rfl (by decide +kernel) ⟨Nat.le_of_ble_eq_true rfl, Nat.le_of_ble_eq_true rfl⟩) hK hN hP hD Sb.nil  rfl hl.1 (Nat.le_of_ble_eq_true rfl) ⟨Nat.zero_le _, Nat.zero_le _⟩ dX6_isStation_11 ?_ rfl
  exact eZ hx hb hr hlocks dX6_isStation_14 (by rfl)

set_option maxHeartbeats 4000000 in
set_option maxRecDepth 100000 in
theorem c_X6_isRoad (l : Launch) (D : GG) (om : Nat) (Ad : Nat → Nat) (ot : Nat) (ou : Nat) (Aw : Nat → Nat) (Am : Nat → Nat) (Ae : Nat → Nat) (xt : Nat) (hou : Int32) (cro : Int32) (Lw : Nat → Nat → Int32) (nm : Nat) (Lm : Nat → Nat → Int32) (ne : Nat) (Le : Nat → Nat → Int32) (yt : Nat) (Nt : Nat → Int32) (nsd : Nat) (fogd : Int32) (nrd : Nat) (Ld : Nat → Nat → Int32) (p1 : Int32)  : Met l yX6_isRoad wsX6_isRoad ({ frames := 1, cells := 0, slots := 0, locals := 22 } : Room) (va_Pc [.ref om, .int p1] (wd D ((wMob om Ad ot ou) ++ ((wTob ot Ad Aw Am Ae xt hou cro) ++ ((wWays D Aw Lw) ++ ((wMul D Am nm Lm) ++ ((wLet D Ae ne Le) ++ ((wRow D xt yt 60 Nt) ++ (wLand D Ad nsd fogd nrd Ld))))))))) (RP (.int (z2 (inB p1 0 (nI nrd - 1))))) 0 0 (fun _ => False) := by
  refine Met.ofW (cc := cX6_isRoad) (maxL := 2) (ret := (some .boolean)) (by decide) rfl ?_
  intro p e s m args below meth c s₁ B hml hv
  obtain ⟨rfl, hP, hK, hD, hN⟩ := hv
  have hx := B.exec
  have hb := B.bytes
  have hr := B.returns
  have hts := atoms_spec (ws := wsX6_isRoad) B.pre
  have hown : s.vm.findClass RX6 = some m.cls := findClass_of_methodNamed B.named
  have hlocks := B.notSynchronized
  have hinX0 : ∀ w ∈ u_ws RX0 TX0 8, w ∈ wsX6_isRoad := by decide +kernel
  have hinX6 : ∀ w ∈ u_ws RX6 TX6 3, w ∈ wsX6_isRoad := by decide +kernel
  have hl := lv_entry ([.ref om, .int p1]) (n := 2) (Nat.le_of_ble_eq_true rfl)
  rw [lg_entry_eq]
  generalize (lg_sl ([.ref om, .int p1]) ++ List.replicate (2 - (lg_sl ([.ref om, .int p1])).length) Slot.unset).toArray = ls at hl ⊢
  have hl : lv_has ls 2 [(0, .ref om), (1, .int p1)] := hl
  refine lv_iload_n hx hb dX6_isRoad_0 rfl (lv_at hl 1 rfl) ?_
  refine lv_iconst (v := 0) hx hb dX6_isRoad_1 (by decide) ?_
  refine lv_aload_n hx hb dX6_isRoad_2 rfl (lv_at hl 0 rfl) ?_
  refine va_get (D := D.1) (ci := 6) (v := .ref (Ad 0)) (C := RX6) (T := TX6) (N := 3) hx hb hts hinX6 hown hK (sP (Sb.l Sb.self) hP) 0 rfl rfl 0 (by decide) (hts (.fieldLink RX6 10 "MountainPost" "land" "LMountainPost$Land;") (List.mem_of_getElem? (i := 1) rfl)) (fun _ h9 => h9) rfl dX6_isRoad_3 ?_
  refine va_getN (D := D.1) (ci := 0) (v := .int (nI nrd)) (C := RX0) (T := TX0) (N := 8) hx hb hts hinX0 hown hK (sP (Sb.r (Sb.r (Sb.r (Sb.r (Sb.r (Sb.r Sb.self)))))) hP) 0 rfl rfl 4 (by decide) (hN.f 3 rfl) (fun _ h9 => h9) rfl dX6_isRoad_6 ?_
  refine lv_iconst (v := 1) hx hb dX6_isRoad_9 (by decide) ?_
  refine lv_isub hx hb dX6_isRoad_10 ?_
  refine kSp ⟨hx, hb, hml, hown, hts⟩ (c_X6_isWithin l D p1 0 ((nI nrd) - 1)) (va_cwS 3 hts gX6_isRoad_X6_isWithin rfl rfl rfl (by decide +kernel) ⟨Nat.le_of_ble_eq_true rfl, Nat.le_of_ble_eq_true rfl⟩) hK hN hP hD Sb.nil  rfl hl.1 (Nat.le_of_ble_eq_true rfl) ⟨Nat.zero_le _, Nat.zero_le _⟩ dX6_isRoad_11 ?_ rfl
  exact eZ hx hb hr hlocks dX6_isRoad_14 (by rfl)

set_option maxHeartbeats 4000000 in
set_option maxRecDepth 100000 in
theorem c_X6_isLetter (l : Launch) (D : GG) (om : Nat) (Ad : Nat → Nat) (ot : Nat) (ou : Nat) (Aw : Nat → Nat) (Am : Nat → Nat) (Ae : Nat → Nat) (xt : Nat) (hou : Int32) (cro : Int32) (Lw : Nat → Nat → Int32) (nm : Nat) (Lm : Nat → Nat → Int32) (ne : Nat) (Le : Nat → Nat → Int32) (yt : Nat) (Nt : Nat → Int32) (nsd : Nat) (fogd : Int32) (nrd : Nat) (Ld : Nat → Nat → Int32) (p1 : Int32)  : Met l yX6_isLetter wsX6_isLetter ({ frames := 1, cells := 0, slots := 0, locals := 22 } : Room) (va_Pc [.ref om, .int p1] (wd D ((wMob om Ad ot ou) ++ ((wTob ot Ad Aw Am Ae xt hou cro) ++ ((wWays D Aw Lw) ++ ((wMul D Am nm Lm) ++ ((wLet D Ae ne Le) ++ ((wRow D xt yt 60 Nt) ++ (wLand D Ad nsd fogd nrd Ld))))))))) (RP (.int (z2 (inB p1 0 (nI ne - 1))))) 0 0 (fun _ => False) := by
  refine Met.ofW (cc := cX6_isLetter) (maxL := 2) (ret := (some .boolean)) (by decide) rfl ?_
  intro p e s m args below meth c s₁ B hml hv
  obtain ⟨rfl, hP, hK, hD, hN⟩ := hv
  have hx := B.exec
  have hb := B.bytes
  have hr := B.returns
  have hts := atoms_spec (ws := wsX6_isLetter) B.pre
  have hown : s.vm.findClass RX6 = some m.cls := findClass_of_methodNamed B.named
  have hlocks := B.notSynchronized
  have hinX1 : ∀ w ∈ u_ws RX1 TX1 12, w ∈ wsX6_isLetter := by decide +kernel
  have hinX4 : ∀ w ∈ u_ws RX4 TX4 7, w ∈ wsX6_isLetter := by decide +kernel
  have hinX6 : ∀ w ∈ u_ws RX6 TX6 3, w ∈ wsX6_isLetter := by decide +kernel
  have hl := lv_entry ([.ref om, .int p1]) (n := 2) (Nat.le_of_ble_eq_true rfl)
  rw [lg_entry_eq]
  generalize (lg_sl ([.ref om, .int p1]) ++ List.replicate (2 - (lg_sl ([.ref om, .int p1])).length) Slot.unset).toArray = ls at hl ⊢
  have hl : lv_has ls 2 [(0, .ref om), (1, .int p1)] := hl
  refine lv_iload_n hx hb dX6_isLetter_0 rfl (lv_at hl 1 rfl) ?_
  refine lv_iconst (v := 0) hx hb dX6_isLetter_1 (by decide) ?_
  refine lv_aload_n hx hb dX6_isLetter_2 rfl (lv_at hl 0 rfl) ?_
  refine va_get (D := D.1) (ci := 6) (v := .ref ot) (C := RX6) (T := TX6) (N := 3) hx hb hts hinX6 hown hK (sP (Sb.l Sb.self) hP) 0 rfl rfl 1 (by decide) (hts (.fieldLink RX6 21 "MountainPost" "traffic" "LMountainPost$Traffic;") (List.mem_of_getElem? (i := 1) rfl)) (fun _ h9 => h9) rfl dX6_isLetter_3 ?_
  refine va_getN (D := D.1) (ci := 4) (v := .ref (Ae 0)) (C := RX4) (T := TX4) (N := 7) hx hb hts hinX4 hown hK (sP (Sb.r (Sb.l Sb.self)) hP) 0 rfl rfl 3 (by decide) (hN.f 8 rfl) (fun _ h9 => h9) rfl dX6_isLetter_6 ?_
  refine va_getN (D := D.1) (ci := 1) (v := .int (nI ne)) (C := RX1) (T := TX1) (N := 12) hx hb hts hinX1 hown hK (sP (Sb.r (Sb.r (Sb.r (Sb.r (Sb.l Sb.self))))) hP) 0 rfl rfl 0 (by decide) (hN.f 9 rfl) (fun _ h9 => h9) rfl dX6_isLetter_9 ?_
  refine lv_iconst (v := 1) hx hb dX6_isLetter_12 (by decide) ?_
  refine lv_isub hx hb dX6_isLetter_13 ?_
  refine kSp ⟨hx, hb, hml, hown, hts⟩ (c_X6_isWithin l D p1 0 ((nI ne) - 1)) (va_cwS 3 hts gX6_isLetter_X6_isWithin rfl rfl rfl (by decide +kernel) ⟨Nat.le_of_ble_eq_true rfl, Nat.le_of_ble_eq_true rfl⟩) hK hN hP hD Sb.nil  rfl hl.1 (Nat.le_of_ble_eq_true rfl) ⟨Nat.zero_le _, Nat.zero_le _⟩ dX6_isLetter_14 ?_ rfl
  exact eZ hx hb hr hlocks dX6_isLetter_17 (by rfl)

set_option maxHeartbeats 4000000 in
set_option maxRecDepth 100000 in
theorem c_X6_tellStation (l : Launch) (D : GG) (om : Nat) (Ad : Nat → Nat) (ot : Nat) (ou : Nat) (Aw : Nat → Nat) (Am : Nat → Nat) (Ae : Nat → Nat) (xt : Nat) (hou : Int32) (cro : Int32) (Lw : Nat → Nat → Int32) (nm : Nat) (Lm : Nat → Nat → Int32) (ne : Nat) (Le : Nat → Nat → Int32) (yt : Nat) (Nt : Nat → Int32) (nsd : Nat) (fogd : Int32) (nrd : Nat) (Ld : Nat → Nat → Int32) (p1 : Int32) (p2 : Int32) (he : ne < 2 ^ 31) (hm : nm < 2 ^ 31) : Met l yX6_tellStation wsX6_tellStation ({ frames := 3, cells := 0, slots := 0, locals := 65 } : Room) (va_Pc [.ref om, .int p1, .int p2] (wd D ((wMob om Ad ot ou) ++ ((wTob ot Ad Aw Am Ae xt hou cro) ++ ((wWays D Aw Lw) ++ ((wMul D Am nm Lm) ++ ((wLet D Ae ne Le) ++ ((wRow D xt yt 60 Nt) ++ (wLand D Ad nsd fogd nrd Ld))))))))) (RP (.int (tsC Ld Lm Le fogd nm ne p1 p2))) 0 0 (fun _ => False) := by
  refine Met.ofW (cc := cX6_tellStation) (maxL := 3) (ret := (some .int)) (by decide) rfl ?_
  intro p e s m args below meth c s₁ B hml hv
  obtain ⟨rfl, hP, hK, hD, hN⟩ := hv
  have hx := B.exec
  have hb := B.bytes
  have hr := B.returns
  have hts := atoms_spec (ws := wsX6_tellStation) B.pre
  have hown : s.vm.findClass RX6 = some m.cls := findClass_of_methodNamed B.named
  have hlocks := B.notSynchronized
  have hinX0 : ∀ w ∈ u_ws RX0 TX0 8, w ∈ wsX6_tellStation := by decide +kernel
  have hinX4 : ∀ w ∈ u_ws RX4 TX4 7, w ∈ wsX6_tellStation := by decide +kernel
  have hinX6 : ∀ w ∈ u_ws RX6 TX6 3, w ∈ wsX6_tellStation := by decide +kernel
  have hl := lv_entry ([.ref om, .int p1, .int p2]) (n := 3) (Nat.le_of_ble_eq_true rfl)
  rw [lg_entry_eq]
  generalize (lg_sl ([.ref om, .int p1, .int p2]) ++ List.replicate (3 - (lg_sl ([.ref om, .int p1, .int p2])).length) Slot.unset).toArray = ls at hl ⊢
  have hl : lv_has ls 3 [(0, .ref om), (1, .int p1), (2, .int p2)] := hl
  refine lv_iload_n hx hb dX6_tellStation_0 rfl (lv_at hl 2 rfl) ?_
  by_cases h1_0 : p2 = 0
  · refine lv_tableIn (tgt := 32) (off := 31) hx hb dX6_tellStation_1 (by rw [h1_0]; decide) (by rw [h1_0]; decide) (by rw [h1_0]; decide) (by decide) ?_
    refine lv_aload_n hx hb dX6_tellStation_32 rfl (lv_at hl 0 rfl) ?_
    refine va_get (D := D.1) (ci := 6) (v := .ref (Ad 0)) (C := RX6) (T := TX6) (N := 3) hx hb hts hinX6 hown hK (sP (Sb.l Sb.self) hP) 0 rfl rfl 0 (by decide) (hts (.fieldLink RX6 10 "MountainPost" "land" "LMountainPost$Land;") (List.mem_of_getElem? (i := 1) rfl)) (fun _ h9 => h9) rfl dX6_tellStation_33 ?_
    refine va_getN (D := D.1) (ci := 0) (v := .ref (Ad 1)) (C := RX0) (T := TX0) (N := 8) hx hb hts hinX0 hown hK (sP (Sb.r (Sb.r (Sb.r (Sb.r (Sb.r (Sb.r Sb.self)))))) hP) 0 rfl rfl 1 (by decide) (hN.f 17 rfl) (fun _ h9 => h9) rfl dX6_tellStation_36 ?_
    refine lv_iload_n hx hb dX6_tellStation_39 rfl (lv_at hl 1 rfl) ?_
    refine kVp ⟨hx, hb, hml, hown, hts⟩ (c_X3_get l D (Ad 1) (Ad 6) 10 (Ld 0) p1 (by decide)) (cwV 1 hts gX6_tellStation_X3_get rfl rfl rfl (by decide +kernel) ⟨Nat.le_of_ble_eq_true rfl, Nat.le_of_ble_eq_true rfl⟩) hK hN hP hD (Sb.r (Sb.r (Sb.r (Sb.r (Sb.r (Sb.r sbLand0)))))) 3 0 rfl rfl rfl hl.1 (Nat.le_of_ble_eq_true rfl) ⟨Nat.zero_le _, Nat.zero_le _⟩ dX6_tellStation_40 ?_ rfl
    exact eI hx hb hr hlocks dX6_tellStation_43 (by (rw [tsC, if_pos h1_0]; first | done | rw [z2, if_pos (by assumption)] | rw [z2, if_neg (by assumption)] | rfl))
  by_cases h1_1 : p2 = 1
  · refine lv_tableIn (tgt := 44) (off := 43) hx hb dX6_tellStation_1 (by rw [h1_1]; decide) (by rw [h1_1]; decide) (by rw [h1_1]; decide) (by decide) ?_
    refine lv_aload_n hx hb dX6_tellStation_44 rfl (lv_at hl 0 rfl) ?_
    refine va_get (D := D.1) (ci := 6) (v := .ref ot) (C := RX6) (T := TX6) (N := 3) hx hb hts hinX6 hown hK (sP (Sb.l Sb.self) hP) 0 rfl rfl 1 (by decide) (hts (.fieldLink RX6 21 "MountainPost" "traffic" "LMountainPost$Traffic;") (List.mem_of_getElem? (i := 2) rfl)) (fun _ h9 => h9) rfl dX6_tellStation_45 ?_
    refine va_getN (D := D.1) (ci := 4) (v := .ref (Ae 0)) (C := RX4) (T := TX4) (N := 7) hx hb hts hinX4 hown hK (sP (Sb.r (Sb.l Sb.self)) hP) 0 rfl rfl 3 (by decide) (hN.f 8 rfl) (fun _ h9 => h9) rfl dX6_tellStation_48 ?_
    refine lv_iload_n hx hb dX6_tellStation_51 rfl (lv_at hl 1 rfl) ?_
    refine kVp ⟨hx, hb, hml, hown, hts⟩ (c_X1_waitingAt l D Ae ne Le p1 (by assumption)) (cwV 1 hts gX6_tellStation_X1_waitingAt rfl rfl rfl (by decide +kernel) ⟨Nat.le_of_ble_eq_true rfl, Nat.le_of_ble_eq_true rfl⟩) hK hN hP hD (Sb.r (Sb.r (Sb.r (Sb.r (Sb.l Sb.self))))) 1 0 rfl rfl rfl hl.1 (Nat.le_of_ble_eq_true rfl) ⟨Nat.zero_le _, Nat.zero_le _⟩ dX6_tellStation_52 ?_ rfl
    exact eI hx hb hr hlocks dX6_tellStation_55 (by (rw [tsC, if_neg h1_0, if_pos h1_1]; first | done | rw [z2, if_pos (by assumption)] | rw [z2, if_neg (by assumption)] | rfl))
  by_cases h1_2 : p2 = 2
  · refine lv_tableIn (tgt := 56) (off := 55) hx hb dX6_tellStation_1 (by rw [h1_2]; decide) (by rw [h1_2]; decide) (by rw [h1_2]; decide) (by decide) ?_
    refine lv_aload_n hx hb dX6_tellStation_56 rfl (lv_at hl 0 rfl) ?_
    refine va_get (D := D.1) (ci := 6) (v := .ref ot) (C := RX6) (T := TX6) (N := 3) hx hb hts hinX6 hown hK (sP (Sb.l Sb.self) hP) 0 rfl rfl 1 (by decide) (hts (.fieldLink RX6 21 "MountainPost" "traffic" "LMountainPost$Traffic;") (List.mem_of_getElem? (i := 2) rfl)) (fun _ h9 => h9) rfl dX6_tellStation_57 ?_
    refine va_getN (D := D.1) (ci := 4) (v := .ref (Am 0)) (C := RX4) (T := TX4) (N := 7) hx hb hts hinX4 hown hK (sP (Sb.r (Sb.l Sb.self)) hP) 0 rfl rfl 2 (by decide) (hN.f 4 rfl) (fun _ h9 => h9) rfl dX6_tellStation_60 ?_
    refine lv_iload_n hx hb dX6_tellStation_63 rfl (lv_at hl 1 rfl) ?_
    refine kVp ⟨hx, hb, hml, hown, hts⟩ (c_X2_standingAt l D Am nm Lm p1 (by assumption)) (cwV 1 hts gX6_tellStation_X2_standingAt rfl rfl rfl (by decide +kernel) ⟨Nat.le_of_ble_eq_true rfl, Nat.le_of_ble_eq_true rfl⟩) hK hN hP hD (Sb.r (Sb.r (Sb.r (Sb.l Sb.self)))) 2 0 rfl rfl rfl hl.1 (Nat.le_of_ble_eq_true rfl) ⟨Nat.zero_le _, Nat.zero_le _⟩ dX6_tellStation_64 ?_ rfl
    exact eI hx hb hr hlocks dX6_tellStation_67 (by (rw [tsC, if_neg h1_0, if_neg h1_1, if_pos h1_2]; first | done | rw [z2, if_pos (by assumption)] | rw [z2, if_neg (by assumption)] | rfl))
  by_cases h1_3 : p2 = 3
  · refine lv_tableIn (tgt := 68) (off := 67) hx hb dX6_tellStation_1 (by rw [h1_3]; decide) (by rw [h1_3]; decide) (by rw [h1_3]; decide) (by decide) ?_
    refine lv_aload_n hx hb dX6_tellStation_68 rfl (lv_at hl 0 rfl) ?_
    refine va_get (D := D.1) (ci := 6) (v := .ref (Ad 0)) (C := RX6) (T := TX6) (N := 3) hx hb hts hinX6 hown hK (sP (Sb.l Sb.self) hP) 0 rfl rfl 0 (by decide) (hts (.fieldLink RX6 10 "MountainPost" "land" "LMountainPost$Land;") (List.mem_of_getElem? (i := 1) rfl)) (fun _ h9 => h9) rfl dX6_tellStation_69 ?_
    refine va_getN (D := D.1) (ci := 0) (v := .ref (Ad 2)) (C := RX0) (T := TX0) (N := 8) hx hb hts hinX0 hown hK (sP (Sb.r (Sb.r (Sb.r (Sb.r (Sb.r (Sb.r Sb.self)))))) hP) 0 rfl rfl 2 (by decide) (hN.f 1 rfl) (fun _ h9 => h9) rfl dX6_tellStation_72 ?_
    refine lv_iload_n hx hb dX6_tellStation_75 rfl (lv_at hl 1 rfl) ?_
    refine kVp ⟨hx, hb, hml, hown, hts⟩ (c_X3_get l D (Ad 2) (Ad 7) 10 (Ld 1) p1 (by decide)) (cwV 1 hts gX6_tellStation_X3_get rfl rfl rfl (by decide +kernel) ⟨Nat.le_of_ble_eq_true rfl, Nat.le_of_ble_eq_true rfl⟩) hK hN hP hD (Sb.r (Sb.r (Sb.r (Sb.r (Sb.r (Sb.r sbLand1)))))) 3 0 rfl rfl rfl hl.1 (Nat.le_of_ble_eq_true rfl) ⟨Nat.zero_le _, Nat.zero_le _⟩ dX6_tellStation_76 ?_ rfl
    refine kSp ⟨hx, hb, hml, hown, hts⟩ (c_J6_bitCount_0f7a4 l D (rg 10 (Ld 1) p1)) (va_cwS 1 hts gX6_tellStation_J6_bitCount_0f7a4 rfl rfl rfl (by decide +kernel) ⟨Nat.le_of_ble_eq_true rfl, Nat.le_of_ble_eq_true rfl⟩) hK hN hP hD Sb.nil  rfl hl.1 (Nat.le_of_ble_eq_true rfl) ⟨Nat.zero_le _, Nat.zero_le _⟩ dX6_tellStation_79 ?_ rfl
    exact eI hx hb hr hlocks dX6_tellStation_82 (by (rw [tsC, if_neg h1_0, if_neg h1_1, if_neg h1_2, if_pos h1_3]; first | done | rw [z2, if_pos (by assumption)] | rw [z2, if_neg (by assumption)] | rfl))
  refine lv_tableOut (tgt := 83) hx hb dX6_tellStation_1 (sw_out 3 (by decide) (fun i hi => by rcases (show i = 0 ∨ i = 1 ∨ i = 2 ∨ i = 3 by omega) with rfl | rfl | rfl | rfl <;> assumption)) (by decide) ?_
  refine lv_aload_n hx hb dX6_tellStation_83 rfl (lv_at hl 0 rfl) ?_
  refine va_get (D := D.1) (ci := 6) (v := .ref (Ad 0)) (C := RX6) (T := TX6) (N := 3) hx hb hts hinX6 hown hK (sP (Sb.l Sb.self) hP) 0 rfl rfl 0 (by decide) (hts (.fieldLink RX6 10 "MountainPost" "land" "LMountainPost$Land;") (List.mem_of_getElem? (i := 1) rfl)) (fun _ h9 => h9) rfl dX6_tellStation_84 ?_
  refine va_getN (D := D.1) (ci := 0) (v := .int fogd) (C := RX0) (T := TX0) (N := 8) hx hb hts hinX0 hown hK (sP (Sb.r (Sb.r (Sb.r (Sb.r (Sb.r (Sb.r Sb.self)))))) hP) 0 rfl rfl 3 (by decide) (hN.f 2 rfl) (fun _ h9 => h9) rfl dX6_tellStation_87 ?_
  refine lv_iload_n hx hb dX6_tellStation_90 rfl (lv_at hl 1 rfl) ?_
  refine kSp ⟨hx, hb, hml, hown, hts⟩ (c_X6_has l D fogd p1) (va_cwS 2 hts gX6_tellStation_X6_has rfl rfl rfl (by decide +kernel) ⟨Nat.le_of_ble_eq_true rfl, Nat.le_of_ble_eq_true rfl⟩) hK hN hP hD Sb.nil  rfl hl.1 (Nat.le_of_ble_eq_true rfl) ⟨Nat.zero_le _, Nat.zero_le _⟩ dX6_tellStation_91 ?_ rfl
  refine lv_if_eq (tgt := 101) hx hb dX6_tellStation_94 (by decide) (fun c2 => ?_) (fun c2 => ?_)
  · have c2 := z2_0.mp c2
    refine lv_iconst (v := 0) hx hb dX6_tellStation_101 (by decide) ?_
    exact eI hx hb hr hlocks dX6_tellStation_102 (by (rw [tsC, if_neg h1_0, if_neg h1_1, if_neg h1_2, if_neg h1_3]; first | done | rw [z2, if_pos (by assumption)] | rw [z2, if_neg (by assumption)] | rfl))
  · have c2 := z2_n.mp c2
    refine lv_iconst (v := 1) hx hb dX6_tellStation_97 (by decide) ?_
    refine lv_goto (tgt := 102) hx hb dX6_tellStation_98 (by decide) ?_
    exact eI hx hb hr hlocks dX6_tellStation_102 (by (rw [tsC, if_neg h1_0, if_neg h1_1, if_neg h1_2, if_neg h1_3]; first | done | rw [z2, if_pos (by assumption)] | rw [z2, if_neg (by assumption)] | rfl))

set_option maxHeartbeats 4000000 in
set_option maxRecDepth 100000 in
theorem c_X6_tellRoad (l : Launch) (D : GG) (om : Nat) (Ad : Nat → Nat) (ot : Nat) (ou : Nat) (Aw : Nat → Nat) (Am : Nat → Nat) (Ae : Nat → Nat) (xt : Nat) (hou : Int32) (cro : Int32) (Lw : Nat → Nat → Int32) (nm : Nat) (Lm : Nat → Nat → Int32) (ne : Nat) (Le : Nat → Nat → Int32) (yt : Nat) (Nt : Nat → Int32) (nsd : Nat) (fogd : Int32) (nrd : Nat) (Ld : Nat → Nat → Int32) (p1 : Int32) (p2 : Int32) (hm : nm < 2 ^ 31) : Met l yX6_tellRoad wsX6_tellRoad ({ frames := 3, cells := 0, slots := 0, locals := 65 } : Room) (va_Pc [.ref om, .int p1, .int p2] (wd D ((wMob om Ad ot ou) ++ ((wTob ot Ad Aw Am Ae xt hou cro) ++ ((wWays D Aw Lw) ++ ((wMul D Am nm Lm) ++ ((wLet D Ae ne Le) ++ ((wRow D xt yt 60 Nt) ++ (wLand D Ad nsd fogd nrd Ld))))))))) (RP (.int (trC Ld Lm nm p1 p2))) 0 0 (fun _ => False) := by
  refine Met.ofW (cc := cX6_tellRoad) (maxL := 5) (ret := (some .int)) (by decide) rfl ?_
  intro p e s m args below meth c s₁ B hml hv
  obtain ⟨rfl, hP, hK, hD, hN⟩ := hv
  have hx := B.exec
  have hb := B.bytes
  have hr := B.returns
  have hts := atoms_spec (ws := wsX6_tellRoad) B.pre
  have hown : s.vm.findClass RX6 = some m.cls := findClass_of_methodNamed B.named
  have hlocks := B.notSynchronized
  have hinX0 : ∀ w ∈ u_ws RX0 TX0 8, w ∈ wsX6_tellRoad := by decide +kernel
  have hinX4 : ∀ w ∈ u_ws RX4 TX4 7, w ∈ wsX6_tellRoad := by decide +kernel
  have hinX6 : ∀ w ∈ u_ws RX6 TX6 3, w ∈ wsX6_tellRoad := by decide +kernel
  have hl := lv_entry ([.ref om, .int p1, .int p2]) (n := 5) (Nat.le_of_ble_eq_true rfl)
  rw [lg_entry_eq]
  generalize (lg_sl ([.ref om, .int p1, .int p2]) ++ List.replicate (5 - (lg_sl ([.ref om, .int p1, .int p2])).length) Slot.unset).toArray = ls at hl ⊢
  have hl : lv_has ls 5 [(0, .ref om), (1, .int p1), (2, .int p2)] := hl
  refine lv_aload_n hx hb dX6_tellRoad_0 rfl (lv_at hl 0 rfl) ?_
  refine va_get (D := D.1) (ci := 6) (v := .ref (Ad 0)) (C := RX6) (T := TX6) (N := 3) hx hb hts hinX6 hown hK (sP (Sb.l Sb.self) hP) 0 rfl rfl 0 (by decide) (hts (.fieldLink RX6 10 "MountainPost" "land" "LMountainPost$Land;") (List.mem_of_getElem? (i := 1) rfl)) (fun _ h9 => h9) rfl dX6_tellRoad_1 ?_
  refine va_getN (D := D.1) (ci := 0) (v := .ref (Ad 3)) (C := RX0) (T := TX0) (N := 8) hx hb hts hinX0 hown hK (sP (Sb.r (Sb.r (Sb.r (Sb.r (Sb.r (Sb.r Sb.self)))))) hP) 0 rfl rfl 5 (by decide) (hN.f 7 rfl) (fun _ h9 => h9) rfl dX6_tellRoad_4 ?_
  refine lv_iload_n hx hb dX6_tellRoad_7 rfl (lv_at hl 1 rfl) ?_
  refine kVp ⟨hx, hb, hml, hown, hts⟩ (c_X3_get l D (Ad 3) (Ad 8) 15 (Ld 2) p1 (by decide)) (cwV 1 hts gX6_tellRoad_X3_get rfl rfl rfl (by decide +kernel) ⟨Nat.le_of_ble_eq_true rfl, Nat.le_of_ble_eq_true rfl⟩) hK hN hP hD (Sb.r (Sb.r (Sb.r (Sb.r (Sb.r (Sb.r sbLand2)))))) 3 0 rfl rfl rfl hl.1 (Nat.le_of_ble_eq_true rfl) ⟨Nat.zero_le _, Nat.zero_le _⟩ dX6_tellRoad_8 ?_ rfl
  refine lv_istore_n (lv' := [(3, .int (rg 15 (Ld 2) p1)), (0, .ref om), (1, .int p1), (2, .int p2)]) hx hb dX6_tellRoad_11 rfl hl (by decide) rfl (fun ls hl => ?_)
  refine lv_aload_n hx hb dX6_tellRoad_12 rfl (lv_at hl 1 rfl) ?_
  refine va_get (D := D.1) (ci := 6) (v := .ref (Ad 0)) (C := RX6) (T := TX6) (N := 3) hx hb hts hinX6 hown hK (sP (Sb.l Sb.self) hP) 0 rfl rfl 0 (by decide) (hts (.fieldLink RX6 10 "MountainPost" "land" "LMountainPost$Land;") (List.mem_of_getElem? (i := 1) rfl)) (fun _ h9 => h9) rfl dX6_tellRoad_13 ?_
  refine va_getN (D := D.1) (ci := 0) (v := .ref (Ad 4)) (C := RX0) (T := TX0) (N := 8) hx hb hts hinX0 hown hK (sP (Sb.r (Sb.r (Sb.r (Sb.r (Sb.r (Sb.r Sb.self)))))) hP) 0 rfl rfl 6 (by decide) (hN.f 6 rfl) (fun _ h9 => h9) rfl dX6_tellRoad_16 ?_
  refine lv_iload_n hx hb dX6_tellRoad_19 rfl (lv_at hl 2 rfl) ?_
  refine kVp ⟨hx, hb, hml, hown, hts⟩ (c_X3_get l D (Ad 4) (Ad 9) 15 (Ld 3) p1 (by decide)) (cwV 1 hts gX6_tellRoad_X3_get rfl rfl rfl (by decide +kernel) ⟨Nat.le_of_ble_eq_true rfl, Nat.le_of_ble_eq_true rfl⟩) hK hN hP hD (Sb.r (Sb.r (Sb.r (Sb.r (Sb.r (Sb.r sbLand3)))))) 3 0 rfl rfl rfl hl.1 (Nat.le_of_ble_eq_true rfl) ⟨Nat.zero_le _, Nat.zero_le _⟩ dX6_tellRoad_20 ?_ rfl
  refine lv_istore (lv' := [(4, .int (rg 15 (Ld 3) p1)), (3, .int (rg 15 (Ld 2) p1)), (0, .ref om), (1, .int p1), (2, .int p2)]) hx hb dX6_tellRoad_23 hl (by decide) rfl (fun ls hl => ?_)
  refine lv_iload_n hx hb dX6_tellRoad_25 rfl (lv_at hl 4 rfl) ?_
  by_cases h1_0 : p2 = 0
  · refine lv_tableIn (tgt := 60) (off := 34) hx hb dX6_tellRoad_26 (by rw [h1_0]; decide) (by rw [h1_0]; decide) (by rw [h1_0]; decide) (by decide) ?_
    refine lv_iload_n hx hb dX6_tellRoad_60 rfl (lv_at hl 1 rfl) ?_
    exact eI hx hb hr hlocks dX6_tellRoad_61 (by (rw [trC, if_pos h1_0]; first | done | rw [z2, if_pos (by assumption)] | rw [z2, if_neg (by assumption)] | rfl))
  by_cases h1_1 : p2 = 1
  · refine lv_tableIn (tgt := 62) (off := 36) hx hb dX6_tellRoad_26 (by rw [h1_1]; decide) (by rw [h1_1]; decide) (by rw [h1_1]; decide) (by decide) ?_
    refine lv_iload hx hb dX6_tellRoad_62 (lv_at hl 0 rfl) ?_
    exact eI hx hb hr hlocks dX6_tellRoad_64 (by (rw [trC, if_neg h1_0, if_pos h1_1]; first | done | rw [z2, if_pos (by assumption)] | rw [z2, if_neg (by assumption)] | rfl))
  by_cases h1_2 : p2 = 2
  · refine lv_tableIn (tgt := 65) (off := 39) hx hb dX6_tellRoad_26 (by rw [h1_2]; decide) (by rw [h1_2]; decide) (by rw [h1_2]; decide) (by decide) ?_
    refine lv_aload_n hx hb dX6_tellRoad_65 rfl (lv_at hl 2 rfl) ?_
    refine va_get (D := D.1) (ci := 6) (v := .ref (Ad 0)) (C := RX6) (T := TX6) (N := 3) hx hb hts hinX6 hown hK (sP (Sb.l Sb.self) hP) 0 rfl rfl 0 (by decide) (hts (.fieldLink RX6 10 "MountainPost" "land" "LMountainPost$Land;") (List.mem_of_getElem? (i := 1) rfl)) (fun _ h9 => h9) rfl dX6_tellRoad_66 ?_
    refine lv_iload_n hx hb dX6_tellRoad_69 rfl (lv_at hl 3 rfl) ?_
    refine lv_iload_n hx hb dX6_tellRoad_70 rfl (lv_at hl 1 rfl) ?_
    refine lv_iload hx hb dX6_tellRoad_71 (lv_at hl 0 rfl) ?_
    refine kVp ⟨hx, hb, hml, hown, hts⟩ (c_X0_hoursBetween l D Ad nsd fogd nrd Ld p1 (rg 15 (Ld 2) p1) (rg 15 (Ld 3) p1)) (cwV 3 hts gX6_tellRoad_X0_hoursBetween rfl rfl rfl (by decide +kernel) ⟨Nat.le_of_ble_eq_true rfl, Nat.le_of_ble_eq_true rfl⟩) hK hN hP hD (Sb.r (Sb.r (Sb.r (Sb.r (Sb.r (Sb.r Sb.self)))))) 0 0 rfl rfl rfl hl.1 (Nat.le_of_ble_eq_true rfl) ⟨Nat.zero_le _, Nat.zero_le _⟩ dX6_tellRoad_73 ?_ rfl
    exact eI hx hb hr hlocks dX6_tellRoad_76 (by (rw [trC, if_neg h1_0, if_neg h1_1, if_pos h1_2]; first | done | rw [z2, if_pos (by assumption)] | rw [z2, if_neg (by assumption)] | rfl))
  by_cases h1_3 : p2 = 3
  · refine lv_tableIn (tgt := 77) (off := 51) hx hb dX6_tellRoad_26 (by rw [h1_3]; decide) (by rw [h1_3]; decide) (by rw [h1_3]; decide) (by decide) ?_
    refine lv_aload_n hx hb dX6_tellRoad_77 rfl (lv_at hl 2 rfl) ?_
    refine va_get (D := D.1) (ci := 6) (v := .ref (Ad 0)) (C := RX6) (T := TX6) (N := 3) hx hb hts hinX6 hown hK (sP (Sb.l Sb.self) hP) 0 rfl rfl 0 (by decide) (hts (.fieldLink RX6 10 "MountainPost" "land" "LMountainPost$Land;") (List.mem_of_getElem? (i := 1) rfl)) (fun _ h9 => h9) rfl dX6_tellRoad_78 ?_
    refine lv_iload_n hx hb dX6_tellRoad_81 rfl (lv_at hl 3 rfl) ?_
    refine lv_iload hx hb dX6_tellRoad_82 (lv_at hl 0 rfl) ?_
    refine lv_iload_n hx hb dX6_tellRoad_84 rfl (lv_at hl 1 rfl) ?_
    refine kVp ⟨hx, hb, hml, hown, hts⟩ (c_X0_hoursBetween l D Ad nsd fogd nrd Ld p1 (rg 15 (Ld 3) p1) (rg 15 (Ld 2) p1)) (cwV 3 hts gX6_tellRoad_X0_hoursBetween rfl rfl rfl (by decide +kernel) ⟨Nat.le_of_ble_eq_true rfl, Nat.le_of_ble_eq_true rfl⟩) hK hN hP hD (Sb.r (Sb.r (Sb.r (Sb.r (Sb.r (Sb.r Sb.self)))))) 0 0 rfl rfl rfl hl.1 (Nat.le_of_ble_eq_true rfl) ⟨Nat.zero_le _, Nat.zero_le _⟩ dX6_tellRoad_85 ?_ rfl
    exact eI hx hb hr hlocks dX6_tellRoad_88 (by (rw [trC, if_neg h1_0, if_neg h1_1, if_neg h1_2, if_pos h1_3]; first | done | rw [z2, if_pos (by assumption)] | rw [z2, if_neg (by assumption)] | rfl))
  by_cases h1_4 : p2 = 4
  · refine lv_tableIn (tgt := 89) (off := 63) hx hb dX6_tellRoad_26 (by rw [h1_4]; decide) (by rw [h1_4]; decide) (by rw [h1_4]; decide) (by decide) ?_
    refine lv_aload_n hx hb dX6_tellRoad_89 rfl (lv_at hl 2 rfl) ?_
    refine va_get (D := D.1) (ci := 6) (v := .ref ot) (C := RX6) (T := TX6) (N := 3) hx hb hts hinX6 hown hK (sP (Sb.l Sb.self) hP) 0 rfl rfl 1 (by decide) (hts (.fieldLink RX6 21 "MountainPost" "traffic" "LMountainPost$Traffic;") (List.mem_of_getElem? (i := 2) rfl)) (fun _ h9 => h9) rfl dX6_tellRoad_90 ?_
    refine va_getN (D := D.1) (ci := 4) (v := .ref (Am 0)) (C := RX4) (T := TX4) (N := 7) hx hb hts hinX4 hown hK (sP (Sb.r (Sb.l Sb.self)) hP) 0 rfl rfl 2 (by decide) (hN.f 4 rfl) (fun _ h9 => h9) rfl dX6_tellRoad_93 ?_
    refine lv_iload_n hx hb dX6_tellRoad_96 rfl (lv_at hl 3 rfl) ?_
    refine kVp ⟨hx, hb, hml, hown, hts⟩ (c_X2_ofRoad l D Am nm Lm p1 (by assumption)) (cwV 1 hts gX6_tellRoad_X2_ofRoad rfl rfl rfl (by decide +kernel) ⟨Nat.le_of_ble_eq_true rfl, Nat.le_of_ble_eq_true rfl⟩) hK hN hP hD (Sb.r (Sb.r (Sb.r (Sb.l Sb.self)))) 2 0 rfl rfl rfl hl.1 (Nat.le_of_ble_eq_true rfl) ⟨Nat.zero_le _, Nat.zero_le _⟩ dX6_tellRoad_97 ?_ rfl
    exact eI hx hb hr hlocks dX6_tellRoad_100 (by (rw [trC, if_neg h1_0, if_neg h1_1, if_neg h1_2, if_neg h1_3, if_pos h1_4]; first | done | rw [z2, if_pos (by assumption)] | rw [z2, if_neg (by assumption)] | rfl))
  refine lv_tableOut (tgt := 101) hx hb dX6_tellRoad_26 (sw_out 4 (by decide) (fun i hi => by rcases (show i = 0 ∨ i = 1 ∨ i = 2 ∨ i = 3 ∨ i = 4 by omega) with rfl | rfl | rfl | rfl | rfl <;> assumption)) (by decide) ?_
  refine lv_aload_n hx hb dX6_tellRoad_101 rfl (lv_at hl 2 rfl) ?_
  refine va_get (D := D.1) (ci := 6) (v := .ref ot) (C := RX6) (T := TX6) (N := 3) hx hb hts hinX6 hown hK (sP (Sb.l Sb.self) hP) 0 rfl rfl 1 (by decide) (hts (.fieldLink RX6 21 "MountainPost" "traffic" "LMountainPost$Traffic;") (List.mem_of_getElem? (i := 2) rfl)) (fun _ h9 => h9) rfl dX6_tellRoad_102 ?_
  refine va_getN (D := D.1) (ci := 4) (v := .ref (Am 0)) (C := RX4) (T := TX4) (N := 7) hx hb hts hinX4 hown hK (sP (Sb.r (Sb.l Sb.self)) hP) 0 rfl rfl 2 (by decide) (hN.f 4 rfl) (fun _ h9 => h9) rfl dX6_tellRoad_105 ?_
  refine lv_iload_n hx hb dX6_tellRoad_108 rfl (lv_at hl 3 rfl) ?_
  refine kVp ⟨hx, hb, hml, hown, hts⟩ (c_X2_underWayOn l D Am nm Lm p1 (by assumption)) (cwV 1 hts gX6_tellRoad_X2_underWayOn rfl rfl rfl (by decide +kernel) ⟨Nat.le_of_ble_eq_true rfl, Nat.le_of_ble_eq_true rfl⟩) hK hN hP hD (Sb.r (Sb.r (Sb.r (Sb.l Sb.self)))) 2 0 rfl rfl rfl hl.1 (Nat.le_of_ble_eq_true rfl) ⟨Nat.zero_le _, Nat.zero_le _⟩ dX6_tellRoad_109 ?_ rfl
  exact eI hx hb hr hlocks dX6_tellRoad_112 (by (rw [trC, if_neg h1_0, if_neg h1_1, if_neg h1_2, if_neg h1_3, if_neg h1_4]; first | done | rw [z2, if_pos (by assumption)] | rw [z2, if_neg (by assumption)] | rfl))

set_option maxHeartbeats 4000000 in
set_option maxRecDepth 100000 in
theorem c_X6_tellMule (l : Launch) (D : GG) (om : Nat) (Ad : Nat → Nat) (ot : Nat) (ou : Nat) (Aw : Nat → Nat) (Am : Nat → Nat) (Ae : Nat → Nat) (xt : Nat) (hou : Int32) (cro : Int32) (Lw : Nat → Nat → Int32) (nm : Nat) (Lm : Nat → Nat → Int32) (ne : Nat) (Le : Nat → Nat → Int32) (yt : Nat) (Nt : Nat → Int32) (nsd : Nat) (fogd : Int32) (nrd : Nat) (Ld : Nat → Nat → Int32) (p1 : Int32) (p2 : Int32) (he : ne < 2 ^ 31) : Met l yX6_tellMule wsX6_tellMule ({ frames := 3, cells := 0, slots := 0, locals := 66 } : Room) (va_Pc [.ref om, .int p1, .int p2] (wd D ((wMob om Ad ot ou) ++ ((wTob ot Ad Aw Am Ae xt hou cro) ++ ((wWays D Aw Lw) ++ ((wMul D Am nm Lm) ++ ((wLet D Ae ne Le) ++ ((wRow D xt yt 60 Nt) ++ (wLand D Ad nsd fogd nrd Ld))))))))) (RP (.int (tmC Lm Le ne p1 p2))) 0 0 (fun _ => False) := by
  refine Met.ofW (cc := cX6_tellMule) (maxL := 4) (ret := (some .int)) (by decide) rfl ?_
  intro p e s m args below meth c s₁ B hml hv
  obtain ⟨rfl, hP, hK, hD, hN⟩ := hv
  have hx := B.exec
  have hb := B.bytes
  have hr := B.returns
  have hts := atoms_spec (ws := wsX6_tellMule) B.pre
  have hown : s.vm.findClass RX6 = some m.cls := findClass_of_methodNamed B.named
  have hlocks := B.notSynchronized
  have hinX2 : ∀ w ∈ u_ws RX2 TX2 6, w ∈ wsX6_tellMule := by decide +kernel
  have hinX4 : ∀ w ∈ u_ws RX4 TX4 7, w ∈ wsX6_tellMule := by decide +kernel
  have hinX6 : ∀ w ∈ u_ws RX6 TX6 3, w ∈ wsX6_tellMule := by decide +kernel
  have hl := lv_entry ([.ref om, .int p1, .int p2]) (n := 4) (Nat.le_of_ble_eq_true rfl)
  rw [lg_entry_eq]
  generalize (lg_sl ([.ref om, .int p1, .int p2]) ++ List.replicate (4 - (lg_sl ([.ref om, .int p1, .int p2])).length) Slot.unset).toArray = ls at hl ⊢
  have hl : lv_has ls 4 [(0, .ref om), (1, .int p1), (2, .int p2)] := hl
  refine lv_aload_n hx hb dX6_tellMule_0 rfl (lv_at hl 0 rfl) ?_
  refine va_get (D := D.1) (ci := 6) (v := .ref ot) (C := RX6) (T := TX6) (N := 3) hx hb hts hinX6 hown hK (sP (Sb.l Sb.self) hP) 0 rfl rfl 1 (by decide) (hts (.fieldLink RX6 21 "MountainPost" "traffic" "LMountainPost$Traffic;") (List.mem_of_getElem? (i := 1) rfl)) (fun _ h9 => h9) rfl dX6_tellMule_1 ?_
  refine va_getN (D := D.1) (ci := 4) (v := .ref (Am 0)) (C := RX4) (T := TX4) (N := 7) hx hb hts hinX4 hown hK (sP (Sb.r (Sb.l Sb.self)) hP) 0 rfl rfl 2 (by decide) (hN.f 4 rfl) (fun _ h9 => h9) rfl dX6_tellMule_4 ?_
  refine lv_astore_n (lv' := [(3, .ref (Am 0)), (0, .ref om), (1, .int p1), (2, .int p2)]) hx hb dX6_tellMule_7 rfl hl (by decide) rfl (fun ls hl => ?_)
  refine lv_iload_n hx hb dX6_tellMule_8 rfl (lv_at hl 3 rfl) ?_
  by_cases h1_0 : p2 = 0
  · refine lv_tableIn (tgt := 44) (off := 35) hx hb dX6_tellMule_9 (by rw [h1_0]; decide) (by rw [h1_0]; decide) (by rw [h1_0]; decide) (by decide) ?_
    refine lv_aload_n hx hb dX6_tellMule_44 rfl (lv_at hl 0 rfl) ?_
    refine va_getN (D := D.1) (ci := 2) (v := .ref (Am 1)) (C := RX2) (T := TX2) (N := 6) hx hb hts hinX2 hown hK (sP (Sb.r (Sb.r (Sb.r (Sb.l Sb.self)))) hP) 0 rfl rfl 1 (by decide) (hN.f 18 rfl) (fun _ h9 => h9) rfl dX6_tellMule_45 ?_
    refine lv_iload_n hx hb dX6_tellMule_48 rfl (lv_at hl 2 rfl) ?_
    refine kVp ⟨hx, hb, hml, hown, hts⟩ (c_X3_get l D (Am 1) (Am 6) 12 (Lm 0) p1 (by decide)) (cwV 1 hts gX6_tellMule_X3_get rfl rfl rfl (by decide +kernel) ⟨Nat.le_of_ble_eq_true rfl, Nat.le_of_ble_eq_true rfl⟩) hK hN hP hD (Sb.r (Sb.r (Sb.r (Sb.l sbMul0)))) 3 0 rfl rfl rfl hl.1 (Nat.le_of_ble_eq_true rfl) ⟨Nat.zero_le _, Nat.zero_le _⟩ dX6_tellMule_49 ?_ rfl
    exact eI hx hb hr hlocks dX6_tellMule_52 (by (rw [tmC, if_pos h1_0]; first | done | rw [z2, if_pos (by assumption)] | rw [z2, if_neg (by assumption)] | rfl))
  by_cases h1_1 : p2 = 1
  · refine lv_tableIn (tgt := 53) (off := 44) hx hb dX6_tellMule_9 (by rw [h1_1]; decide) (by rw [h1_1]; decide) (by rw [h1_1]; decide) (by decide) ?_
    refine lv_aload_n hx hb dX6_tellMule_53 rfl (lv_at hl 0 rfl) ?_
    refine va_getN (D := D.1) (ci := 2) (v := .ref (Am 2)) (C := RX2) (T := TX2) (N := 6) hx hb hts hinX2 hown hK (sP (Sb.r (Sb.r (Sb.r (Sb.l Sb.self)))) hP) 0 rfl rfl 2 (by decide) (hN.f 19 rfl) (fun _ h9 => h9) rfl dX6_tellMule_54 ?_
    refine lv_iload_n hx hb dX6_tellMule_57 rfl (lv_at hl 2 rfl) ?_
    refine kVp ⟨hx, hb, hml, hown, hts⟩ (c_X3_get l D (Am 2) (Am 7) 12 (Lm 1) p1 (by decide)) (cwV 1 hts gX6_tellMule_X3_get rfl rfl rfl (by decide +kernel) ⟨Nat.le_of_ble_eq_true rfl, Nat.le_of_ble_eq_true rfl⟩) hK hN hP hD (Sb.r (Sb.r (Sb.r (Sb.l sbMul1)))) 3 0 rfl rfl rfl hl.1 (Nat.le_of_ble_eq_true rfl) ⟨Nat.zero_le _, Nat.zero_le _⟩ dX6_tellMule_58 ?_ rfl
    exact eI hx hb hr hlocks dX6_tellMule_61 (by (rw [tmC, if_neg h1_0, if_pos h1_1]; first | done | rw [z2, if_pos (by assumption)] | rw [z2, if_neg (by assumption)] | rfl))
  by_cases h1_2 : p2 = 2
  · refine lv_tableIn (tgt := 62) (off := 53) hx hb dX6_tellMule_9 (by rw [h1_2]; decide) (by rw [h1_2]; decide) (by rw [h1_2]; decide) (by decide) ?_
    refine lv_aload_n hx hb dX6_tellMule_62 rfl (lv_at hl 0 rfl) ?_
    refine va_getN (D := D.1) (ci := 2) (v := .ref (Am 3)) (C := RX2) (T := TX2) (N := 6) hx hb hts hinX2 hown hK (sP (Sb.r (Sb.r (Sb.r (Sb.l Sb.self)))) hP) 0 rfl rfl 3 (by decide) (hN.f 20 rfl) (fun _ h9 => h9) rfl dX6_tellMule_63 ?_
    refine lv_iload_n hx hb dX6_tellMule_66 rfl (lv_at hl 2 rfl) ?_
    refine kVp ⟨hx, hb, hml, hown, hts⟩ (c_X3_get l D (Am 3) (Am 8) 12 (Lm 2) p1 (by decide)) (cwV 1 hts gX6_tellMule_X3_get rfl rfl rfl (by decide +kernel) ⟨Nat.le_of_ble_eq_true rfl, Nat.le_of_ble_eq_true rfl⟩) hK hN hP hD (Sb.r (Sb.r (Sb.r (Sb.l sbMul2)))) 3 0 rfl rfl rfl hl.1 (Nat.le_of_ble_eq_true rfl) ⟨Nat.zero_le _, Nat.zero_le _⟩ dX6_tellMule_67 ?_ rfl
    exact eI hx hb hr hlocks dX6_tellMule_70 (by (rw [tmC, if_neg h1_0, if_neg h1_1, if_pos h1_2]; first | done | rw [z2, if_pos (by assumption)] | rw [z2, if_neg (by assumption)] | rfl))
  by_cases h1_3 : p2 = 3
  · refine lv_tableIn (tgt := 71) (off := 62) hx hb dX6_tellMule_9 (by rw [h1_3]; decide) (by rw [h1_3]; decide) (by rw [h1_3]; decide) (by decide) ?_
    refine lv_aload_n hx hb dX6_tellMule_71 rfl (lv_at hl 0 rfl) ?_
    refine va_getN (D := D.1) (ci := 2) (v := .ref (Am 4)) (C := RX2) (T := TX2) (N := 6) hx hb hts hinX2 hown hK (sP (Sb.r (Sb.r (Sb.r (Sb.l Sb.self)))) hP) 0 rfl rfl 4 (by decide) (hN.f 21 rfl) (fun _ h9 => h9) rfl dX6_tellMule_72 ?_
    refine lv_iload_n hx hb dX6_tellMule_75 rfl (lv_at hl 2 rfl) ?_
    refine kVp ⟨hx, hb, hml, hown, hts⟩ (c_X3_get l D (Am 4) (Am 9) 12 (Lm 3) p1 (by decide)) (cwV 1 hts gX6_tellMule_X3_get rfl rfl rfl (by decide +kernel) ⟨Nat.le_of_ble_eq_true rfl, Nat.le_of_ble_eq_true rfl⟩) hK hN hP hD (Sb.r (Sb.r (Sb.r (Sb.l sbMul3)))) 3 0 rfl rfl rfl hl.1 (Nat.le_of_ble_eq_true rfl) ⟨Nat.zero_le _, Nat.zero_le _⟩ dX6_tellMule_76 ?_ rfl
    exact eI hx hb hr hlocks dX6_tellMule_79 (by (rw [tmC, if_neg h1_0, if_neg h1_1, if_neg h1_2, if_pos h1_3]; first | done | rw [z2, if_pos (by assumption)] | rw [z2, if_neg (by assumption)] | rfl))
  by_cases h1_4 : p2 = 4
  · refine lv_tableIn (tgt := 80) (off := 71) hx hb dX6_tellMule_9 (by rw [h1_4]; decide) (by rw [h1_4]; decide) (by rw [h1_4]; decide) (by decide) ?_
    refine lv_aload_n hx hb dX6_tellMule_80 rfl (lv_at hl 1 rfl) ?_
    refine va_get (D := D.1) (ci := 6) (v := .ref ot) (C := RX6) (T := TX6) (N := 3) hx hb hts hinX6 hown hK (sP (Sb.l Sb.self) hP) 0 rfl rfl 1 (by decide) (hts (.fieldLink RX6 21 "MountainPost" "traffic" "LMountainPost$Traffic;") (List.mem_of_getElem? (i := 1) rfl)) (fun _ h9 => h9) rfl dX6_tellMule_81 ?_
    refine va_getN (D := D.1) (ci := 4) (v := .ref (Ae 0)) (C := RX4) (T := TX4) (N := 7) hx hb hts hinX4 hown hK (sP (Sb.r (Sb.l Sb.self)) hP) 0 rfl rfl 3 (by decide) (hN.f 8 rfl) (fun _ h9 => h9) rfl dX6_tellMule_84 ?_
    refine lv_iload_n hx hb dX6_tellMule_87 rfl (lv_at hl 2 rfl) ?_
    refine kVp ⟨hx, hb, hml, hown, hts⟩ (c_X1_carriedBy l D Ae ne Le p1 (by assumption)) (cwV 1 hts gX6_tellMule_X1_carriedBy rfl rfl rfl (by decide +kernel) ⟨Nat.le_of_ble_eq_true rfl, Nat.le_of_ble_eq_true rfl⟩) hK hN hP hD (Sb.r (Sb.r (Sb.r (Sb.r (Sb.l Sb.self))))) 1 0 rfl rfl rfl hl.1 (Nat.le_of_ble_eq_true rfl) ⟨Nat.zero_le _, Nat.zero_le _⟩ dX6_tellMule_88 ?_ rfl
    exact eI hx hb hr hlocks dX6_tellMule_91 (by (rw [tmC, if_neg h1_0, if_neg h1_1, if_neg h1_2, if_neg h1_3, if_pos h1_4]; first | done | rw [z2, if_pos (by assumption)] | rw [z2, if_neg (by assumption)] | rfl))
  refine lv_tableOut (tgt := 92) hx hb dX6_tellMule_9 (sw_out 4 (by decide) (fun i hi => by rcases (show i = 0 ∨ i = 1 ∨ i = 2 ∨ i = 3 ∨ i = 4 by omega) with rfl | rfl | rfl | rfl | rfl <;> assumption)) (by decide) ?_
  refine lv_aload_n hx hb dX6_tellMule_92 rfl (lv_at hl 0 rfl) ?_
  refine va_getN (D := D.1) (ci := 2) (v := .ref (Am 5)) (C := RX2) (T := TX2) (N := 6) hx hb hts hinX2 hown hK (sP (Sb.r (Sb.r (Sb.r (Sb.l Sb.self)))) hP) 0 rfl rfl 5 (by decide) (hN.f 22 rfl) (fun _ h9 => h9) rfl dX6_tellMule_93 ?_
  refine lv_iload_n hx hb dX6_tellMule_96 rfl (lv_at hl 2 rfl) ?_
  refine kVp ⟨hx, hb, hml, hown, hts⟩ (c_X3_get l D (Am 5) (Am 10) 12 (Lm 4) p1 (by decide)) (cwV 1 hts gX6_tellMule_X3_get rfl rfl rfl (by decide +kernel) ⟨Nat.le_of_ble_eq_true rfl, Nat.le_of_ble_eq_true rfl⟩) hK hN hP hD (Sb.r (Sb.r (Sb.r (Sb.l sbMul4)))) 3 0 rfl rfl rfl hl.1 (Nat.le_of_ble_eq_true rfl) ⟨Nat.zero_le _, Nat.zero_le _⟩ dX6_tellMule_97 ?_ rfl
  exact eI hx hb hr hlocks dX6_tellMule_100 (by (rw [tmC, if_neg h1_0, if_neg h1_1, if_neg h1_2, if_neg h1_3, if_neg h1_4]; first | done | rw [z2, if_pos (by assumption)] | rw [z2, if_neg (by assumption)] | rfl))

set_option maxHeartbeats 4000000 in
set_option maxRecDepth 100000 in
theorem c_X6_tellLetter (l : Launch) (D : GG) (om : Nat) (Ad : Nat → Nat) (ot : Nat) (ou : Nat) (Aw : Nat → Nat) (Am : Nat → Nat) (Ae : Nat → Nat) (xt : Nat) (hou : Int32) (cro : Int32) (Lw : Nat → Nat → Int32) (nm : Nat) (Lm : Nat → Nat → Int32) (ne : Nat) (Le : Nat → Nat → Int32) (yt : Nat) (Nt : Nat → Int32) (nsd : Nat) (fogd : Int32) (nrd : Nat) (Ld : Nat → Nat → Int32) (p1 : Int32) (p2 : Int32)  : Met l yX6_tellLetter wsX6_tellLetter ({ frames := 2, cells := 0, slots := 0, locals := 42 } : Room) (va_Pc [.ref om, .int p1, .int p2] (wd D ((wMob om Ad ot ou) ++ ((wTob ot Ad Aw Am Ae xt hou cro) ++ ((wWays D Aw Lw) ++ ((wMul D Am nm Lm) ++ ((wLet D Ae ne Le) ++ ((wRow D xt yt 60 Nt) ++ (wLand D Ad nsd fogd nrd Ld))))))))) (RP (.int (tlC Le p1 p2))) 0 0 (fun _ => False) := by
  refine Met.ofW (cc := cX6_tellLetter) (maxL := 4) (ret := (some .int)) (by decide) rfl ?_
  intro p e s m args below meth c s₁ B hml hv
  obtain ⟨rfl, hP, hK, hD, hN⟩ := hv
  have hx := B.exec
  have hb := B.bytes
  have hr := B.returns
  have hts := atoms_spec (ws := wsX6_tellLetter) B.pre
  have hown : s.vm.findClass RX6 = some m.cls := findClass_of_methodNamed B.named
  have hlocks := B.notSynchronized
  have hinX1 : ∀ w ∈ u_ws RX1 TX1 12, w ∈ wsX6_tellLetter := by decide +kernel
  have hinX4 : ∀ w ∈ u_ws RX4 TX4 7, w ∈ wsX6_tellLetter := by decide +kernel
  have hinX6 : ∀ w ∈ u_ws RX6 TX6 3, w ∈ wsX6_tellLetter := by decide +kernel
  have hl := lv_entry ([.ref om, .int p1, .int p2]) (n := 4) (Nat.le_of_ble_eq_true rfl)
  rw [lg_entry_eq]
  generalize (lg_sl ([.ref om, .int p1, .int p2]) ++ List.replicate (4 - (lg_sl ([.ref om, .int p1, .int p2])).length) Slot.unset).toArray = ls at hl ⊢
  have hl : lv_has ls 4 [(0, .ref om), (1, .int p1), (2, .int p2)] := hl
  refine lv_aload_n hx hb dX6_tellLetter_0 rfl (lv_at hl 0 rfl) ?_
  refine va_get (D := D.1) (ci := 6) (v := .ref ot) (C := RX6) (T := TX6) (N := 3) hx hb hts hinX6 hown hK (sP (Sb.l Sb.self) hP) 0 rfl rfl 1 (by decide) (hts (.fieldLink RX6 21 "MountainPost" "traffic" "LMountainPost$Traffic;") (List.mem_of_getElem? (i := 1) rfl)) (fun _ h9 => h9) rfl dX6_tellLetter_1 ?_
  refine va_getN (D := D.1) (ci := 4) (v := .ref (Ae 0)) (C := RX4) (T := TX4) (N := 7) hx hb hts hinX4 hown hK (sP (Sb.r (Sb.l Sb.self)) hP) 0 rfl rfl 3 (by decide) (hN.f 8 rfl) (fun _ h9 => h9) rfl dX6_tellLetter_4 ?_
  refine lv_astore_n (lv' := [(3, .ref (Ae 0)), (0, .ref om), (1, .int p1), (2, .int p2)]) hx hb dX6_tellLetter_7 rfl hl (by decide) rfl (fun ls hl => ?_)
  refine lv_iload_n hx hb dX6_tellLetter_8 rfl (lv_at hl 3 rfl) ?_
  by_cases h1_0 : p2 = 0
  · refine lv_tableIn (tgt := 64) (off := 55) hx hb dX6_tellLetter_9 (by rw [h1_0]; decide) (by rw [h1_0]; decide) (by rw [h1_0]; decide) (by decide) ?_
    refine lv_aload_n hx hb dX6_tellLetter_64 rfl (lv_at hl 0 rfl) ?_
    refine va_getN (D := D.1) (ci := 1) (v := .ref (Ae 1)) (C := RX1) (T := TX1) (N := 12) hx hb hts hinX1 hown hK (sP (Sb.r (Sb.r (Sb.r (Sb.r (Sb.l Sb.self))))) hP) 0 rfl rfl 1 (by decide) (hN.f 11 rfl) (fun _ h9 => h9) rfl dX6_tellLetter_65 ?_
    refine lv_iload_n hx hb dX6_tellLetter_68 rfl (lv_at hl 2 rfl) ?_
    refine kVp ⟨hx, hb, hml, hown, hts⟩ (c_X3_get l D (Ae 1) (Ae 12) 60 (Le 0) p1 (by decide)) (cwV 1 hts gX6_tellLetter_X3_get rfl rfl rfl (by decide +kernel) ⟨Nat.le_of_ble_eq_true rfl, Nat.le_of_ble_eq_true rfl⟩) hK hN hP hD (Sb.r (Sb.r (Sb.r (Sb.r (Sb.l sbLet0))))) 3 0 rfl rfl rfl hl.1 (Nat.le_of_ble_eq_true rfl) ⟨Nat.zero_le _, Nat.zero_le _⟩ dX6_tellLetter_69 ?_ rfl
    exact eI hx hb hr hlocks dX6_tellLetter_72 (by (rw [tlC, if_pos h1_0]; first | done | rw [z2, if_pos (by assumption)] | rw [z2, if_neg (by assumption)] | rfl))
  by_cases h1_1 : p2 = 1
  · refine lv_tableIn (tgt := 73) (off := 64) hx hb dX6_tellLetter_9 (by rw [h1_1]; decide) (by rw [h1_1]; decide) (by rw [h1_1]; decide) (by decide) ?_
    refine lv_aload_n hx hb dX6_tellLetter_73 rfl (lv_at hl 0 rfl) ?_
    refine va_getN (D := D.1) (ci := 1) (v := .ref (Ae 2)) (C := RX1) (T := TX1) (N := 12) hx hb hts hinX1 hown hK (sP (Sb.r (Sb.r (Sb.r (Sb.r (Sb.l Sb.self))))) hP) 0 rfl rfl 2 (by decide) (hN.f 23 rfl) (fun _ h9 => h9) rfl dX6_tellLetter_74 ?_
    refine lv_iload_n hx hb dX6_tellLetter_77 rfl (lv_at hl 2 rfl) ?_
    refine kVp ⟨hx, hb, hml, hown, hts⟩ (c_X3_get l D (Ae 2) (Ae 13) 60 (Le 1) p1 (by decide)) (cwV 1 hts gX6_tellLetter_X3_get rfl rfl rfl (by decide +kernel) ⟨Nat.le_of_ble_eq_true rfl, Nat.le_of_ble_eq_true rfl⟩) hK hN hP hD (Sb.r (Sb.r (Sb.r (Sb.r (Sb.l sbLet1))))) 3 0 rfl rfl rfl hl.1 (Nat.le_of_ble_eq_true rfl) ⟨Nat.zero_le _, Nat.zero_le _⟩ dX6_tellLetter_78 ?_ rfl
    exact eI hx hb hr hlocks dX6_tellLetter_81 (by (rw [tlC, if_neg h1_0, if_pos h1_1]; first | done | rw [z2, if_pos (by assumption)] | rw [z2, if_neg (by assumption)] | rfl))
  by_cases h1_2 : p2 = 2
  · refine lv_tableIn (tgt := 82) (off := 73) hx hb dX6_tellLetter_9 (by rw [h1_2]; decide) (by rw [h1_2]; decide) (by rw [h1_2]; decide) (by decide) ?_
    refine lv_aload_n hx hb dX6_tellLetter_82 rfl (lv_at hl 0 rfl) ?_
    refine va_getN (D := D.1) (ci := 1) (v := .ref (Ae 3)) (C := RX1) (T := TX1) (N := 12) hx hb hts hinX1 hown hK (sP (Sb.r (Sb.r (Sb.r (Sb.r (Sb.l Sb.self))))) hP) 0 rfl rfl 3 (by decide) (hN.f 24 rfl) (fun _ h9 => h9) rfl dX6_tellLetter_83 ?_
    refine lv_iload_n hx hb dX6_tellLetter_86 rfl (lv_at hl 2 rfl) ?_
    refine kVp ⟨hx, hb, hml, hown, hts⟩ (c_X3_get l D (Ae 3) (Ae 14) 60 (Le 2) p1 (by decide)) (cwV 1 hts gX6_tellLetter_X3_get rfl rfl rfl (by decide +kernel) ⟨Nat.le_of_ble_eq_true rfl, Nat.le_of_ble_eq_true rfl⟩) hK hN hP hD (Sb.r (Sb.r (Sb.r (Sb.r (Sb.l sbLet2))))) 3 0 rfl rfl rfl hl.1 (Nat.le_of_ble_eq_true rfl) ⟨Nat.zero_le _, Nat.zero_le _⟩ dX6_tellLetter_87 ?_ rfl
    exact eI hx hb hr hlocks dX6_tellLetter_90 (by (rw [tlC, if_neg h1_0, if_neg h1_1, if_pos h1_2]; first | done | rw [z2, if_pos (by assumption)] | rw [z2, if_neg (by assumption)] | rfl))
  by_cases h1_3 : p2 = 3
  · refine lv_tableIn (tgt := 91) (off := 82) hx hb dX6_tellLetter_9 (by rw [h1_3]; decide) (by rw [h1_3]; decide) (by rw [h1_3]; decide) (by decide) ?_
    refine lv_aload_n hx hb dX6_tellLetter_91 rfl (lv_at hl 0 rfl) ?_
    refine va_getN (D := D.1) (ci := 1) (v := .ref (Ae 4)) (C := RX1) (T := TX1) (N := 12) hx hb hts hinX1 hown hK (sP (Sb.r (Sb.r (Sb.r (Sb.r (Sb.l Sb.self))))) hP) 0 rfl rfl 4 (by decide) (hN.f 14 rfl) (fun _ h9 => h9) rfl dX6_tellLetter_92 ?_
    refine lv_iload_n hx hb dX6_tellLetter_95 rfl (lv_at hl 2 rfl) ?_
    refine kVp ⟨hx, hb, hml, hown, hts⟩ (c_X3_get l D (Ae 4) (Ae 15) 60 (Le 3) p1 (by decide)) (cwV 1 hts gX6_tellLetter_X3_get rfl rfl rfl (by decide +kernel) ⟨Nat.le_of_ble_eq_true rfl, Nat.le_of_ble_eq_true rfl⟩) hK hN hP hD (Sb.r (Sb.r (Sb.r (Sb.r (Sb.l sbLet3))))) 3 0 rfl rfl rfl hl.1 (Nat.le_of_ble_eq_true rfl) ⟨Nat.zero_le _, Nat.zero_le _⟩ dX6_tellLetter_96 ?_ rfl
    exact eI hx hb hr hlocks dX6_tellLetter_99 (by (rw [tlC, if_neg h1_0, if_neg h1_1, if_neg h1_2, if_pos h1_3]; first | done | rw [z2, if_pos (by assumption)] | rw [z2, if_neg (by assumption)] | rfl))
  by_cases h1_4 : p2 = 4
  · refine lv_tableIn (tgt := 100) (off := 91) hx hb dX6_tellLetter_9 (by rw [h1_4]; decide) (by rw [h1_4]; decide) (by rw [h1_4]; decide) (by decide) ?_
    refine lv_aload_n hx hb dX6_tellLetter_100 rfl (lv_at hl 0 rfl) ?_
    refine va_getN (D := D.1) (ci := 1) (v := .ref (Ae 5)) (C := RX1) (T := TX1) (N := 12) hx hb hts hinX1 hown hK (sP (Sb.r (Sb.r (Sb.r (Sb.r (Sb.l Sb.self))))) hP) 0 rfl rfl 5 (by decide) (hN.f 25 rfl) (fun _ h9 => h9) rfl dX6_tellLetter_101 ?_
    refine lv_iload_n hx hb dX6_tellLetter_104 rfl (lv_at hl 2 rfl) ?_
    refine kVp ⟨hx, hb, hml, hown, hts⟩ (c_X3_get l D (Ae 5) (Ae 16) 60 (Le 4) p1 (by decide)) (cwV 1 hts gX6_tellLetter_X3_get rfl rfl rfl (by decide +kernel) ⟨Nat.le_of_ble_eq_true rfl, Nat.le_of_ble_eq_true rfl⟩) hK hN hP hD (Sb.r (Sb.r (Sb.r (Sb.r (Sb.l sbLet4))))) 3 0 rfl rfl rfl hl.1 (Nat.le_of_ble_eq_true rfl) ⟨Nat.zero_le _, Nat.zero_le _⟩ dX6_tellLetter_105 ?_ rfl
    exact eI hx hb hr hlocks dX6_tellLetter_108 (by (rw [tlC, if_neg h1_0, if_neg h1_1, if_neg h1_2, if_neg h1_3, if_pos h1_4]; first | done | rw [z2, if_pos (by assumption)] | rw [z2, if_neg (by assumption)] | rfl))
  by_cases h1_5 : p2 = 5
  · refine lv_tableIn (tgt := 109) (off := 100) hx hb dX6_tellLetter_9 (by rw [h1_5]; decide) (by rw [h1_5]; decide) (by rw [h1_5]; decide) (by decide) ?_
    refine lv_aload_n hx hb dX6_tellLetter_109 rfl (lv_at hl 0 rfl) ?_
    refine va_getN (D := D.1) (ci := 1) (v := .ref (Ae 6)) (C := RX1) (T := TX1) (N := 12) hx hb hts hinX1 hown hK (sP (Sb.r (Sb.r (Sb.r (Sb.r (Sb.l Sb.self))))) hP) 0 rfl rfl 6 (by decide) (hN.f 26 rfl) (fun _ h9 => h9) rfl dX6_tellLetter_110 ?_
    refine lv_iload_n hx hb dX6_tellLetter_113 rfl (lv_at hl 2 rfl) ?_
    refine kVp ⟨hx, hb, hml, hown, hts⟩ (c_X3_get l D (Ae 6) (Ae 17) 60 (Le 5) p1 (by decide)) (cwV 1 hts gX6_tellLetter_X3_get rfl rfl rfl (by decide +kernel) ⟨Nat.le_of_ble_eq_true rfl, Nat.le_of_ble_eq_true rfl⟩) hK hN hP hD (Sb.r (Sb.r (Sb.r (Sb.r (Sb.l sbLet5))))) 3 0 rfl rfl rfl hl.1 (Nat.le_of_ble_eq_true rfl) ⟨Nat.zero_le _, Nat.zero_le _⟩ dX6_tellLetter_114 ?_ rfl
    exact eI hx hb hr hlocks dX6_tellLetter_117 (by (rw [tlC, if_neg h1_0, if_neg h1_1, if_neg h1_2, if_neg h1_3, if_neg h1_4, if_pos h1_5]; first | done | rw [z2, if_pos (by assumption)] | rw [z2, if_neg (by assumption)] | rfl))
  by_cases h1_6 : p2 = 6
  · refine lv_tableIn (tgt := 118) (off := 109) hx hb dX6_tellLetter_9 (by rw [h1_6]; decide) (by rw [h1_6]; decide) (by rw [h1_6]; decide) (by decide) ?_
    refine lv_aload_n hx hb dX6_tellLetter_118 rfl (lv_at hl 0 rfl) ?_
    refine lv_iload_n hx hb dX6_tellLetter_119 rfl (lv_at hl 2 rfl) ?_
    refine kVp ⟨hx, hb, hml, hown, hts⟩ (c_X1_isRecalled l D Ae ne Le p1) (cwV 1 hts gX6_tellLetter_X1_isRecalled rfl rfl rfl (by decide +kernel) ⟨Nat.le_of_ble_eq_true rfl, Nat.le_of_ble_eq_true rfl⟩) hK hN hP hD (Sb.r (Sb.r (Sb.r (Sb.r (Sb.l Sb.self))))) 1 0 rfl rfl rfl hl.1 (Nat.le_of_ble_eq_true rfl) ⟨Nat.zero_le _, Nat.zero_le _⟩ dX6_tellLetter_120 ?_ rfl
    refine lv_if_eq (tgt := 130) hx hb dX6_tellLetter_123 (by decide) (fun c2 => ?_) (fun c2 => ?_)
    · have c2 := z2_0.mp c2
      refine lv_iconst (v := 0) hx hb dX6_tellLetter_130 (by decide) ?_
      exact eI hx hb hr hlocks dX6_tellLetter_131 (by (rw [tlC, if_neg h1_0, if_neg h1_1, if_neg h1_2, if_neg h1_3, if_neg h1_4, if_neg h1_5, if_pos h1_6]; first | done | rw [z2, if_pos (by assumption)] | rw [z2, if_neg (by assumption)] | rfl))
    · have c2 := z2_n.mp c2
      refine lv_iconst (v := 1) hx hb dX6_tellLetter_126 (by decide) ?_
      refine lv_goto (tgt := 131) hx hb dX6_tellLetter_127 (by decide) ?_
      exact eI hx hb hr hlocks dX6_tellLetter_131 (by (rw [tlC, if_neg h1_0, if_neg h1_1, if_neg h1_2, if_neg h1_3, if_neg h1_4, if_neg h1_5, if_pos h1_6]; first | done | rw [z2, if_pos (by assumption)] | rw [z2, if_neg (by assumption)] | rfl))
  by_cases h1_7 : p2 = 7
  · refine lv_tableIn (tgt := 132) (off := 123) hx hb dX6_tellLetter_9 (by rw [h1_7]; decide) (by rw [h1_7]; decide) (by rw [h1_7]; decide) (by decide) ?_
    refine lv_aload_n hx hb dX6_tellLetter_132 rfl (lv_at hl 0 rfl) ?_
    refine va_getN (D := D.1) (ci := 1) (v := .ref (Ae 8)) (C := RX1) (T := TX1) (N := 12) hx hb hts hinX1 hown hK (sP (Sb.r (Sb.r (Sb.r (Sb.r (Sb.l Sb.self))))) hP) 0 rfl rfl 8 (by decide) (hN.f 27 rfl) (fun _ h9 => h9) rfl dX6_tellLetter_133 ?_
    refine lv_iload_n hx hb dX6_tellLetter_136 rfl (lv_at hl 2 rfl) ?_
    refine kVp ⟨hx, hb, hml, hown, hts⟩ (c_X3_get l D (Ae 8) (Ae 19) 60 (Le 7) p1 (by decide)) (cwV 1 hts gX6_tellLetter_X3_get rfl rfl rfl (by decide +kernel) ⟨Nat.le_of_ble_eq_true rfl, Nat.le_of_ble_eq_true rfl⟩) hK hN hP hD (Sb.r (Sb.r (Sb.r (Sb.r (Sb.l sbLet7))))) 3 0 rfl rfl rfl hl.1 (Nat.le_of_ble_eq_true rfl) ⟨Nat.zero_le _, Nat.zero_le _⟩ dX6_tellLetter_137 ?_ rfl
    exact eI hx hb hr hlocks dX6_tellLetter_140 (by (rw [tlC, if_neg h1_0, if_neg h1_1, if_neg h1_2, if_neg h1_3, if_neg h1_4, if_neg h1_5, if_neg h1_6, if_pos h1_7]; first | done | rw [z2, if_pos (by assumption)] | rw [z2, if_neg (by assumption)] | rfl))
  by_cases h1_8 : p2 = 8
  · refine lv_tableIn (tgt := 141) (off := 132) hx hb dX6_tellLetter_9 (by rw [h1_8]; decide) (by rw [h1_8]; decide) (by rw [h1_8]; decide) (by decide) ?_
    refine lv_aload_n hx hb dX6_tellLetter_141 rfl (lv_at hl 0 rfl) ?_
    refine va_getN (D := D.1) (ci := 1) (v := .ref (Ae 9)) (C := RX1) (T := TX1) (N := 12) hx hb hts hinX1 hown hK (sP (Sb.r (Sb.r (Sb.r (Sb.r (Sb.l Sb.self))))) hP) 0 rfl rfl 9 (by decide) (hN.f 16 rfl) (fun _ h9 => h9) rfl dX6_tellLetter_142 ?_
    refine lv_iload_n hx hb dX6_tellLetter_145 rfl (lv_at hl 2 rfl) ?_
    refine kVp ⟨hx, hb, hml, hown, hts⟩ (c_X3_get l D (Ae 9) (Ae 20) 60 (Le 8) p1 (by decide)) (cwV 1 hts gX6_tellLetter_X3_get rfl rfl rfl (by decide +kernel) ⟨Nat.le_of_ble_eq_true rfl, Nat.le_of_ble_eq_true rfl⟩) hK hN hP hD (Sb.r (Sb.r (Sb.r (Sb.r (Sb.l sbLet8))))) 3 0 rfl rfl rfl hl.1 (Nat.le_of_ble_eq_true rfl) ⟨Nat.zero_le _, Nat.zero_le _⟩ dX6_tellLetter_146 ?_ rfl
    exact eI hx hb hr hlocks dX6_tellLetter_149 (by (rw [tlC, if_neg h1_0, if_neg h1_1, if_neg h1_2, if_neg h1_3, if_neg h1_4, if_neg h1_5, if_neg h1_6, if_neg h1_7, if_pos h1_8]; first | done | rw [z2, if_pos (by assumption)] | rw [z2, if_neg (by assumption)] | rfl))
  by_cases h1_9 : p2 = 9
  · refine lv_tableIn (tgt := 150) (off := 141) hx hb dX6_tellLetter_9 (by rw [h1_9]; decide) (by rw [h1_9]; decide) (by rw [h1_9]; decide) (by decide) ?_
    refine lv_aload_n hx hb dX6_tellLetter_150 rfl (lv_at hl 0 rfl) ?_
    refine va_getN (D := D.1) (ci := 1) (v := .ref (Ae 10)) (C := RX1) (T := TX1) (N := 12) hx hb hts hinX1 hown hK (sP (Sb.r (Sb.r (Sb.r (Sb.r (Sb.l Sb.self))))) hP) 0 rfl rfl 10 (by decide) (hN.f 15 rfl) (fun _ h9 => h9) rfl dX6_tellLetter_151 ?_
    refine lv_iload_n hx hb dX6_tellLetter_154 rfl (lv_at hl 2 rfl) ?_
    refine kVp ⟨hx, hb, hml, hown, hts⟩ (c_X3_get l D (Ae 10) (Ae 21) 60 (Le 9) p1 (by decide)) (cwV 1 hts gX6_tellLetter_X3_get rfl rfl rfl (by decide +kernel) ⟨Nat.le_of_ble_eq_true rfl, Nat.le_of_ble_eq_true rfl⟩) hK hN hP hD (Sb.r (Sb.r (Sb.r (Sb.r (Sb.l sbLet9))))) 3 0 rfl rfl rfl hl.1 (Nat.le_of_ble_eq_true rfl) ⟨Nat.zero_le _, Nat.zero_le _⟩ dX6_tellLetter_155 ?_ rfl
    exact eI hx hb hr hlocks dX6_tellLetter_158 (by (rw [tlC, if_neg h1_0, if_neg h1_1, if_neg h1_2, if_neg h1_3, if_neg h1_4, if_neg h1_5, if_neg h1_6, if_neg h1_7, if_neg h1_8, if_pos h1_9]; first | done | rw [z2, if_pos (by assumption)] | rw [z2, if_neg (by assumption)] | rfl))
  refine lv_tableOut (tgt := 159) hx hb dX6_tellLetter_9 (sw_out 9 (by decide) (fun i hi => by rcases (show i = 0 ∨ i = 1 ∨ i = 2 ∨ i = 3 ∨ i = 4 ∨ i = 5 ∨ i = 6 ∨ i = 7 ∨ i = 8 ∨ i = 9 by omega) with rfl | rfl | rfl | rfl | rfl | rfl | rfl | rfl | rfl | rfl <;> assumption)) (by decide) ?_
  refine lv_aload_n hx hb dX6_tellLetter_159 rfl (lv_at hl 0 rfl) ?_
  refine va_getN (D := D.1) (ci := 1) (v := .ref (Ae 7)) (C := RX1) (T := TX1) (N := 12) hx hb hts hinX1 hown hK (sP (Sb.r (Sb.r (Sb.r (Sb.r (Sb.l Sb.self))))) hP) 0 rfl rfl 7 (by decide) (hN.f 12 rfl) (fun _ h9 => h9) rfl dX6_tellLetter_160 ?_
  refine lv_iload_n hx hb dX6_tellLetter_163 rfl (lv_at hl 2 rfl) ?_
  refine kVp ⟨hx, hb, hml, hown, hts⟩ (c_X3_get l D (Ae 7) (Ae 18) 60 (Le 6) p1 (by decide)) (cwV 1 hts gX6_tellLetter_X3_get rfl rfl rfl (by decide +kernel) ⟨Nat.le_of_ble_eq_true rfl, Nat.le_of_ble_eq_true rfl⟩) hK hN hP hD (Sb.r (Sb.r (Sb.r (Sb.r (Sb.l sbLet6))))) 3 0 rfl rfl rfl hl.1 (Nat.le_of_ble_eq_true rfl) ⟨Nat.zero_le _, Nat.zero_le _⟩ dX6_tellLetter_164 ?_ rfl
  refine kSp ⟨hx, hb, hml, hown, hts⟩ (c_J6_bitCount_0f7a4 l D (rg 60 (Le 6) p1)) (va_cwS 1 hts gX6_tellLetter_J6_bitCount_0f7a4 rfl rfl rfl (by decide +kernel) ⟨Nat.le_of_ble_eq_true rfl, Nat.le_of_ble_eq_true rfl⟩) hK hN hP hD Sb.nil  rfl hl.1 (Nat.le_of_ble_eq_true rfl) ⟨Nat.zero_le _, Nat.zero_le _⟩ dX6_tellLetter_167 ?_ rfl
  exact eI hx hb hr hlocks dX6_tellLetter_170 (by (rw [tlC, if_neg h1_0, if_neg h1_1, if_neg h1_2, if_neg h1_3, if_neg h1_4, if_neg h1_5, if_neg h1_6, if_neg h1_7, if_neg h1_8, if_neg h1_9]; first | done | rw [z2, if_pos (by assumption)] | rw [z2, if_neg (by assumption)] | rfl))

set_option maxHeartbeats 4000000 in
set_option maxRecDepth 100000 in
theorem c_X6_tellCount (l : Launch) (D : GG) (om : Nat) (Ad : Nat → Nat) (ot : Nat) (ou : Nat) (Aw : Nat → Nat) (Am : Nat → Nat) (Ae : Nat → Nat) (xt : Nat) (hou : Int32) (cro : Int32) (Lw : Nat → Nat → Int32) (nm : Nat) (Lm : Nat → Nat → Int32) (ne : Nat) (Le : Nat → Nat → Int32) (yt : Nat) (Nt : Nat → Int32) (nsd : Nat) (fogd : Int32) (nrd : Nat) (Ld : Nat → Nat → Int32) (p1 : Int32) (he : ne < 2 ^ 31) : Met l yX6_tellCount wsX6_tellCount ({ frames := 2, cells := 0, slots := 0, locals := 44 } : Room) (va_Pc [.ref om, .int p1] (wd D ((wMob om Ad ot ou) ++ ((wTob ot Ad Aw Am Ae xt hou cro) ++ ((wWays D Aw Lw) ++ ((wMul D Am nm Lm) ++ ((wLet D Ae ne Le) ++ ((wRow D xt yt 60 Nt) ++ (wLand D Ad nsd fogd nrd Ld))))))))) (RP (.int (tcC Le hou cro nsd nrd nm ne p1))) 0 0 (fun _ => False) := by
  refine Met.ofW (cc := cX6_tellCount) (maxL := 2) (ret := (some .int)) (by decide) rfl ?_
  intro p e s m args below meth c s₁ B hml hv
  obtain ⟨rfl, hP, hK, hD, hN⟩ := hv
  have hx := B.exec
  have hb := B.bytes
  have hr := B.returns
  have hts := atoms_spec (ws := wsX6_tellCount) B.pre
  have hown : s.vm.findClass RX6 = some m.cls := findClass_of_methodNamed B.named
  have hlocks := B.notSynchronized
  have hinX0 : ∀ w ∈ u_ws RX0 TX0 8, w ∈ wsX6_tellCount := by decide +kernel
  have hinX1 : ∀ w ∈ u_ws RX1 TX1 12, w ∈ wsX6_tellCount := by decide +kernel
  have hinX2 : ∀ w ∈ u_ws RX2 TX2 6, w ∈ wsX6_tellCount := by decide +kernel
  have hinX4 : ∀ w ∈ u_ws RX4 TX4 7, w ∈ wsX6_tellCount := by decide +kernel
  have hinX6 : ∀ w ∈ u_ws RX6 TX6 3, w ∈ wsX6_tellCount := by decide +kernel
  have hl := lv_entry ([.ref om, .int p1]) (n := 2) (Nat.le_of_ble_eq_true rfl)
  rw [lg_entry_eq]
  generalize (lg_sl ([.ref om, .int p1]) ++ List.replicate (2 - (lg_sl ([.ref om, .int p1])).length) Slot.unset).toArray = ls at hl ⊢
  have hl : lv_has ls 2 [(0, .ref om), (1, .int p1)] := hl
  refine lv_iload_n hx hb dX6_tellCount_0 rfl (lv_at hl 1 rfl) ?_
  by_cases h1_0 : p1 = 0
  · refine lv_tableIn (tgt := 52) (off := 51) hx hb dX6_tellCount_1 (by rw [h1_0]; decide) (by rw [h1_0]; decide) (by rw [h1_0]; decide) (by decide) ?_
    refine lv_aload_n hx hb dX6_tellCount_52 rfl (lv_at hl 0 rfl) ?_
    refine va_get (D := D.1) (ci := 6) (v := .ref ot) (C := RX6) (T := TX6) (N := 3) hx hb hts hinX6 hown hK (sP (Sb.l Sb.self) hP) 0 rfl rfl 1 (by decide) (hts (.fieldLink RX6 21 "MountainPost" "traffic" "LMountainPost$Traffic;") (List.mem_of_getElem? (i := 1) rfl)) (fun _ h9 => h9) rfl dX6_tellCount_53 ?_
    refine va_getN (D := D.1) (ci := 4) (v := .int hou) (C := RX4) (T := TX4) (N := 7) hx hb hts hinX4 hown hK (sP (Sb.r (Sb.l Sb.self)) hP) 0 rfl rfl 5 (by decide) (hN.f 10 rfl) (fun _ h9 => h9) rfl dX6_tellCount_56 ?_
    exact eI hx hb hr hlocks dX6_tellCount_59 (by (rw [tcC, if_pos h1_0]; first | done | rw [z2, if_pos (by assumption)] | rw [z2, if_neg (by assumption)] | rfl))
  by_cases h1_1 : p1 = 1
  · refine lv_tableIn (tgt := 60) (off := 59) hx hb dX6_tellCount_1 (by rw [h1_1]; decide) (by rw [h1_1]; decide) (by rw [h1_1]; decide) (by decide) ?_
    refine lv_aload_n hx hb dX6_tellCount_60 rfl (lv_at hl 0 rfl) ?_
    refine va_get (D := D.1) (ci := 6) (v := .ref (Ad 0)) (C := RX6) (T := TX6) (N := 3) hx hb hts hinX6 hown hK (sP (Sb.l Sb.self) hP) 0 rfl rfl 0 (by decide) (hts (.fieldLink RX6 10 "MountainPost" "land" "LMountainPost$Land;") (List.mem_of_getElem? (i := 2) rfl)) (fun _ h9 => h9) rfl dX6_tellCount_61 ?_
    refine va_getN (D := D.1) (ci := 0) (v := .int (nI nsd)) (C := RX0) (T := TX0) (N := 8) hx hb hts hinX0 hown hK (sP (Sb.r (Sb.r (Sb.r (Sb.r (Sb.r (Sb.r Sb.self)))))) hP) 0 rfl rfl 0 (by decide) (hN.f 0 rfl) (fun _ h9 => h9) rfl dX6_tellCount_64 ?_
    exact eI hx hb hr hlocks dX6_tellCount_67 (by (rw [tcC, if_neg h1_0, if_pos h1_1]; first | done | rw [z2, if_pos (by assumption)] | rw [z2, if_neg (by assumption)] | rfl))
  by_cases h1_2 : p1 = 2
  · refine lv_tableIn (tgt := 68) (off := 67) hx hb dX6_tellCount_1 (by rw [h1_2]; decide) (by rw [h1_2]; decide) (by rw [h1_2]; decide) (by decide) ?_
    refine lv_aload_n hx hb dX6_tellCount_68 rfl (lv_at hl 0 rfl) ?_
    refine va_get (D := D.1) (ci := 6) (v := .ref (Ad 0)) (C := RX6) (T := TX6) (N := 3) hx hb hts hinX6 hown hK (sP (Sb.l Sb.self) hP) 0 rfl rfl 0 (by decide) (hts (.fieldLink RX6 10 "MountainPost" "land" "LMountainPost$Land;") (List.mem_of_getElem? (i := 2) rfl)) (fun _ h9 => h9) rfl dX6_tellCount_69 ?_
    refine va_getN (D := D.1) (ci := 0) (v := .int (nI nrd)) (C := RX0) (T := TX0) (N := 8) hx hb hts hinX0 hown hK (sP (Sb.r (Sb.r (Sb.r (Sb.r (Sb.r (Sb.r Sb.self)))))) hP) 0 rfl rfl 4 (by decide) (hN.f 3 rfl) (fun _ h9 => h9) rfl dX6_tellCount_72 ?_
    exact eI hx hb hr hlocks dX6_tellCount_75 (by (rw [tcC, if_neg h1_0, if_neg h1_1, if_pos h1_2]; first | done | rw [z2, if_pos (by assumption)] | rw [z2, if_neg (by assumption)] | rfl))
  by_cases h1_3 : p1 = 3
  · refine lv_tableIn (tgt := 76) (off := 75) hx hb dX6_tellCount_1 (by rw [h1_3]; decide) (by rw [h1_3]; decide) (by rw [h1_3]; decide) (by decide) ?_
    refine lv_aload_n hx hb dX6_tellCount_76 rfl (lv_at hl 0 rfl) ?_
    refine va_get (D := D.1) (ci := 6) (v := .ref ot) (C := RX6) (T := TX6) (N := 3) hx hb hts hinX6 hown hK (sP (Sb.l Sb.self) hP) 0 rfl rfl 1 (by decide) (hts (.fieldLink RX6 21 "MountainPost" "traffic" "LMountainPost$Traffic;") (List.mem_of_getElem? (i := 1) rfl)) (fun _ h9 => h9) rfl dX6_tellCount_77 ?_
    refine va_getN (D := D.1) (ci := 4) (v := .ref (Am 0)) (C := RX4) (T := TX4) (N := 7) hx hb hts hinX4 hown hK (sP (Sb.r (Sb.l Sb.self)) hP) 0 rfl rfl 2 (by decide) (hN.f 4 rfl) (fun _ h9 => h9) rfl dX6_tellCount_80 ?_
    refine va_getN (D := D.1) (ci := 2) (v := .int (nI nm)) (C := RX2) (T := TX2) (N := 6) hx hb hts hinX2 hown hK (sP (Sb.r (Sb.r (Sb.r (Sb.l Sb.self)))) hP) 0 rfl rfl 0 (by decide) (hN.f 5 rfl) (fun _ h9 => h9) rfl dX6_tellCount_83 ?_
    exact eI hx hb hr hlocks dX6_tellCount_86 (by (rw [tcC, if_neg h1_0, if_neg h1_1, if_neg h1_2, if_pos h1_3]; first | done | rw [z2, if_pos (by assumption)] | rw [z2, if_neg (by assumption)] | rfl))
  by_cases h1_4 : p1 = 4
  · refine lv_tableIn (tgt := 87) (off := 86) hx hb dX6_tellCount_1 (by rw [h1_4]; decide) (by rw [h1_4]; decide) (by rw [h1_4]; decide) (by decide) ?_
    refine lv_aload_n hx hb dX6_tellCount_87 rfl (lv_at hl 0 rfl) ?_
    refine va_get (D := D.1) (ci := 6) (v := .ref ot) (C := RX6) (T := TX6) (N := 3) hx hb hts hinX6 hown hK (sP (Sb.l Sb.self) hP) 0 rfl rfl 1 (by decide) (hts (.fieldLink RX6 21 "MountainPost" "traffic" "LMountainPost$Traffic;") (List.mem_of_getElem? (i := 1) rfl)) (fun _ h9 => h9) rfl dX6_tellCount_88 ?_
    refine va_getN (D := D.1) (ci := 4) (v := .ref (Ae 0)) (C := RX4) (T := TX4) (N := 7) hx hb hts hinX4 hown hK (sP (Sb.r (Sb.l Sb.self)) hP) 0 rfl rfl 3 (by decide) (hN.f 8 rfl) (fun _ h9 => h9) rfl dX6_tellCount_91 ?_
    refine va_getN (D := D.1) (ci := 1) (v := .int (nI ne)) (C := RX1) (T := TX1) (N := 12) hx hb hts hinX1 hown hK (sP (Sb.r (Sb.r (Sb.r (Sb.r (Sb.l Sb.self))))) hP) 0 rfl rfl 0 (by decide) (hN.f 9 rfl) (fun _ h9 => h9) rfl dX6_tellCount_94 ?_
    exact eI hx hb hr hlocks dX6_tellCount_97 (by (rw [tcC, if_neg h1_0, if_neg h1_1, if_neg h1_2, if_neg h1_3, if_pos h1_4]; first | done | rw [z2, if_pos (by assumption)] | rw [z2, if_neg (by assumption)] | rfl))
  by_cases h1_5 : p1 = 5
  · refine lv_tableIn (tgt := 98) (off := 97) hx hb dX6_tellCount_1 (by rw [h1_5]; decide) (by rw [h1_5]; decide) (by rw [h1_5]; decide) (by decide) ?_
    refine lv_aload_n hx hb dX6_tellCount_98 rfl (lv_at hl 0 rfl) ?_
    refine va_get (D := D.1) (ci := 6) (v := .ref ot) (C := RX6) (T := TX6) (N := 3) hx hb hts hinX6 hown hK (sP (Sb.l Sb.self) hP) 0 rfl rfl 1 (by decide) (hts (.fieldLink RX6 21 "MountainPost" "traffic" "LMountainPost$Traffic;") (List.mem_of_getElem? (i := 1) rfl)) (fun _ h9 => h9) rfl dX6_tellCount_99 ?_
    refine va_getN (D := D.1) (ci := 4) (v := .ref (Ae 0)) (C := RX4) (T := TX4) (N := 7) hx hb hts hinX4 hown hK (sP (Sb.r (Sb.l Sb.self)) hP) 0 rfl rfl 3 (by decide) (hN.f 8 rfl) (fun _ h9 => h9) rfl dX6_tellCount_102 ?_
    refine lv_iconst (v := 0) hx hb dX6_tellCount_105 (by decide) ?_
    refine kVp ⟨hx, hb, hml, hown, hts⟩ (c_X1_inState l D Ae ne Le 0 (by assumption)) (cwV 1 hts gX6_tellCount_X1_inState rfl rfl rfl (by decide +kernel) ⟨Nat.le_of_ble_eq_true rfl, Nat.le_of_ble_eq_true rfl⟩) hK hN hP hD (Sb.r (Sb.r (Sb.r (Sb.r (Sb.l Sb.self))))) 1 0 rfl rfl rfl hl.1 (Nat.le_of_ble_eq_true rfl) ⟨Nat.zero_le _, Nat.zero_le _⟩ dX6_tellCount_106 ?_ rfl
    exact eI hx hb hr hlocks dX6_tellCount_109 (by (rw [tcC, if_neg h1_0, if_neg h1_1, if_neg h1_2, if_neg h1_3, if_neg h1_4, if_pos h1_5]; first | done | rw [z2, if_pos (by assumption)] | rw [z2, if_neg (by assumption)] | rfl))
  by_cases h1_6 : p1 = 6
  · refine lv_tableIn (tgt := 110) (off := 109) hx hb dX6_tellCount_1 (by rw [h1_6]; decide) (by rw [h1_6]; decide) (by rw [h1_6]; decide) (by decide) ?_
    refine lv_aload_n hx hb dX6_tellCount_110 rfl (lv_at hl 0 rfl) ?_
    refine va_get (D := D.1) (ci := 6) (v := .ref ot) (C := RX6) (T := TX6) (N := 3) hx hb hts hinX6 hown hK (sP (Sb.l Sb.self) hP) 0 rfl rfl 1 (by decide) (hts (.fieldLink RX6 21 "MountainPost" "traffic" "LMountainPost$Traffic;") (List.mem_of_getElem? (i := 1) rfl)) (fun _ h9 => h9) rfl dX6_tellCount_111 ?_
    refine va_getN (D := D.1) (ci := 4) (v := .ref (Ae 0)) (C := RX4) (T := TX4) (N := 7) hx hb hts hinX4 hown hK (sP (Sb.r (Sb.l Sb.self)) hP) 0 rfl rfl 3 (by decide) (hN.f 8 rfl) (fun _ h9 => h9) rfl dX6_tellCount_114 ?_
    refine lv_iconst (v := 1) hx hb dX6_tellCount_117 (by decide) ?_
    refine kVp ⟨hx, hb, hml, hown, hts⟩ (c_X1_inState l D Ae ne Le 1 (by assumption)) (cwV 1 hts gX6_tellCount_X1_inState rfl rfl rfl (by decide +kernel) ⟨Nat.le_of_ble_eq_true rfl, Nat.le_of_ble_eq_true rfl⟩) hK hN hP hD (Sb.r (Sb.r (Sb.r (Sb.r (Sb.l Sb.self))))) 1 0 rfl rfl rfl hl.1 (Nat.le_of_ble_eq_true rfl) ⟨Nat.zero_le _, Nat.zero_le _⟩ dX6_tellCount_118 ?_ rfl
    exact eI hx hb hr hlocks dX6_tellCount_121 (by (rw [tcC, if_neg h1_0, if_neg h1_1, if_neg h1_2, if_neg h1_3, if_neg h1_4, if_neg h1_5, if_pos h1_6]; first | done | rw [z2, if_pos (by assumption)] | rw [z2, if_neg (by assumption)] | rfl))
  by_cases h1_7 : p1 = 7
  · refine lv_tableIn (tgt := 122) (off := 121) hx hb dX6_tellCount_1 (by rw [h1_7]; decide) (by rw [h1_7]; decide) (by rw [h1_7]; decide) (by decide) ?_
    refine lv_aload_n hx hb dX6_tellCount_122 rfl (lv_at hl 0 rfl) ?_
    refine va_get (D := D.1) (ci := 6) (v := .ref ot) (C := RX6) (T := TX6) (N := 3) hx hb hts hinX6 hown hK (sP (Sb.l Sb.self) hP) 0 rfl rfl 1 (by decide) (hts (.fieldLink RX6 21 "MountainPost" "traffic" "LMountainPost$Traffic;") (List.mem_of_getElem? (i := 1) rfl)) (fun _ h9 => h9) rfl dX6_tellCount_123 ?_
    refine va_getN (D := D.1) (ci := 4) (v := .ref (Ae 0)) (C := RX4) (T := TX4) (N := 7) hx hb hts hinX4 hown hK (sP (Sb.r (Sb.l Sb.self)) hP) 0 rfl rfl 3 (by decide) (hN.f 8 rfl) (fun _ h9 => h9) rfl dX6_tellCount_126 ?_
    refine lv_iconst (v := 2) hx hb dX6_tellCount_129 (by decide) ?_
    refine kVp ⟨hx, hb, hml, hown, hts⟩ (c_X1_inState l D Ae ne Le 2 (by assumption)) (cwV 1 hts gX6_tellCount_X1_inState rfl rfl rfl (by decide +kernel) ⟨Nat.le_of_ble_eq_true rfl, Nat.le_of_ble_eq_true rfl⟩) hK hN hP hD (Sb.r (Sb.r (Sb.r (Sb.r (Sb.l Sb.self))))) 1 0 rfl rfl rfl hl.1 (Nat.le_of_ble_eq_true rfl) ⟨Nat.zero_le _, Nat.zero_le _⟩ dX6_tellCount_130 ?_ rfl
    exact eI hx hb hr hlocks dX6_tellCount_133 (by (rw [tcC, if_neg h1_0, if_neg h1_1, if_neg h1_2, if_neg h1_3, if_neg h1_4, if_neg h1_5, if_neg h1_6, if_pos h1_7]; first | done | rw [z2, if_pos (by assumption)] | rw [z2, if_neg (by assumption)] | rfl))
  by_cases h1_8 : p1 = 8
  · refine lv_tableIn (tgt := 134) (off := 133) hx hb dX6_tellCount_1 (by rw [h1_8]; decide) (by rw [h1_8]; decide) (by rw [h1_8]; decide) (by decide) ?_
    refine lv_aload_n hx hb dX6_tellCount_134 rfl (lv_at hl 0 rfl) ?_
    refine va_get (D := D.1) (ci := 6) (v := .ref ot) (C := RX6) (T := TX6) (N := 3) hx hb hts hinX6 hown hK (sP (Sb.l Sb.self) hP) 0 rfl rfl 1 (by decide) (hts (.fieldLink RX6 21 "MountainPost" "traffic" "LMountainPost$Traffic;") (List.mem_of_getElem? (i := 1) rfl)) (fun _ h9 => h9) rfl dX6_tellCount_135 ?_
    refine va_getN (D := D.1) (ci := 4) (v := .ref (Ae 0)) (C := RX4) (T := TX4) (N := 7) hx hb hts hinX4 hown hK (sP (Sb.r (Sb.l Sb.self)) hP) 0 rfl rfl 3 (by decide) (hN.f 8 rfl) (fun _ h9 => h9) rfl dX6_tellCount_138 ?_
    refine lv_iconst (v := 3) hx hb dX6_tellCount_141 (by decide) ?_
    refine kVp ⟨hx, hb, hml, hown, hts⟩ (c_X1_inState l D Ae ne Le 3 (by assumption)) (cwV 1 hts gX6_tellCount_X1_inState rfl rfl rfl (by decide +kernel) ⟨Nat.le_of_ble_eq_true rfl, Nat.le_of_ble_eq_true rfl⟩) hK hN hP hD (Sb.r (Sb.r (Sb.r (Sb.r (Sb.l Sb.self))))) 1 0 rfl rfl rfl hl.1 (Nat.le_of_ble_eq_true rfl) ⟨Nat.zero_le _, Nat.zero_le _⟩ dX6_tellCount_142 ?_ rfl
    exact eI hx hb hr hlocks dX6_tellCount_145 (by (rw [tcC, if_neg h1_0, if_neg h1_1, if_neg h1_2, if_neg h1_3, if_neg h1_4, if_neg h1_5, if_neg h1_6, if_neg h1_7, if_pos h1_8]; first | done | rw [z2, if_pos (by assumption)] | rw [z2, if_neg (by assumption)] | rfl))
  refine lv_tableOut (tgt := 146) hx hb dX6_tellCount_1 (sw_out 8 (by decide) (fun i hi => by rcases (show i = 0 ∨ i = 1 ∨ i = 2 ∨ i = 3 ∨ i = 4 ∨ i = 5 ∨ i = 6 ∨ i = 7 ∨ i = 8 by omega) with rfl | rfl | rfl | rfl | rfl | rfl | rfl | rfl | rfl <;> assumption)) (by decide) ?_
  refine lv_aload_n hx hb dX6_tellCount_146 rfl (lv_at hl 0 rfl) ?_
  refine va_get (D := D.1) (ci := 6) (v := .ref ot) (C := RX6) (T := TX6) (N := 3) hx hb hts hinX6 hown hK (sP (Sb.l Sb.self) hP) 0 rfl rfl 1 (by decide) (hts (.fieldLink RX6 21 "MountainPost" "traffic" "LMountainPost$Traffic;") (List.mem_of_getElem? (i := 1) rfl)) (fun _ h9 => h9) rfl dX6_tellCount_147 ?_
  refine va_getN (D := D.1) (ci := 4) (v := .int cro) (C := RX4) (T := TX4) (N := 7) hx hb hts hinX4 hown hK (sP (Sb.r (Sb.l Sb.self)) hP) 0 rfl rfl 6 (by decide) (hN.f 28 rfl) (fun _ h9 => h9) rfl dX6_tellCount_150 ?_
  exact eI hx hb hr hlocks dX6_tellCount_153 (by (rw [tcC, if_neg h1_0, if_neg h1_1, if_neg h1_2, if_neg h1_3, if_neg h1_4, if_neg h1_5, if_neg h1_6, if_neg h1_7, if_neg h1_8]; first | done | rw [z2, if_pos (by assumption)] | rw [z2, if_neg (by assumption)] | rfl))
